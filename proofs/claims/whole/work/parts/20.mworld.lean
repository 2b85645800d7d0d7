/-! the reference's world, and its small functions in natural numbers -/
def jdM (d : Nat) : Int32 := if d = 240 then -1 else nI d
def jdw (d : Nat) : Nat := if d = 240 then 0 else d + 1
theorem jdM_t {d : Nat} (h : d ≠ 240) : jdM d = nI d := if_neg h
theorem jdM_n {d : Nat} (h : d = 240) : jdM d = -1 := if_pos h
theorem jdM_neg {d : Nat} (h : d ≤ 240) : jdM d < 0 ↔ d = 240 := by
  by_cases h1 : d = 240
  · rw [jdM_n h1]; exact ⟨fun _ => h1, fun _ => by decide⟩
  · rw [jdM_t h1]; exact ⟨fun q => absurd q (nI_pos (by omega)), fun q => absurd q h1⟩
theorem jdM_1 {d : Nat} : jdM d + nI 1 = nI (jdw d) := by
  unfold jdw
  by_cases h1 : d = 240
  · rw [jdM_n h1, if_pos h1]; decide
  · rw [jdM_t h1, if_neg h1, nI_add]
theorem jdM_le {a b : Nat} (ha : a ≤ 240) (hb : b ≤ 240) (h1 : a ≠ 240) (h2 : b ≠ 240) : jdM a ≤ jdM b ↔ a ≤ b := by
  rw [jdM_t h1, jdM_t h2]; exact nI_leI (by omega) (by omega)
theorem jdw_le {d : Nat} (h : d ≤ 240) : jdw d ≤ 240 := by
  unfold jdw
  split <;> omega
theorem jdw_t {d : Nat} (h : d ≠ 240) : jdw d = d + 1 := if_neg h
def jw (v lo hi : Int32) : Nat := if v < lo then 0 else if hi < v then 0 else 1
theorem jw_t {v lo hi : Int32} (h1 : ¬ v < lo) (h2 : ¬ hi < v) : jw v lo hi = 1 := by unfold jw; rw [if_neg h1, if_neg h2]
theorem jw_f {v lo hi : Int32} (h : v < lo ∨ hi < v) : jw v lo hi = 0 := by
  unfold jw
  by_cases h1 : v < lo
  · rw [if_pos h1]
  · rw [if_neg h1, if_pos (h.resolve_left h1)]
theorem jw_le (v lo hi : Int32) : jw v lo hi ≤ 1 := by
  unfold jw
  split
  · omega
  · split <;> omega
def jo (p : Int32) (n : Nat) : Nat := if p < 0 then 0 else if nI n ≤ p then 0 else 1
theorem jo_t {k n : Nat} (h : k < n) (hn : n ≤ 20) : jo (nI k) n = 1 := by
  unfold jo
  rw [if_neg (nI_pos (by omega)), if_neg (nI_ge h (by omega))]
theorem jo_f {p : Int32} {n : Nat} (hn : n ≤ 20) (h : ¬ vp_in p n) : jo p n = 0 := by
  unfold jo
  by_cases h1 : p < 0
  · rw [if_pos h1]
  · rw [if_neg h1]
    obtain ⟨j, hj, rfl⟩ := nI_of h1
    rw [if_pos]
    rw [nI_leI (by omega) hj]
    exact Nat.not_lt.mp (fun q => h (vp_in_nI q (by omega)))
theorem jo_le (p : Int32) (n : Nat) : jo p n ≤ 1 := by
  unfold jo
  split
  · omega
  · split <;> omega
/-- one that is, is a place -/
theorem jo_in {p : Int32} {n : Nat} (hn : n ≤ 20) (h : jo p n ≠ 0) : ∃ k, k < n ∧ p = nI k := by
  unfold jo at h
  by_cases h1 : p < 0
  · rw [if_pos h1] at h; exact absurd rfl h
  · rw [if_neg h1] at h
    obtain ⟨j, hj, rfl⟩ := nI_of h1
    by_cases h2 : nI n ≤ nI j
    · rw [if_pos h2] at h; exact absurd rfl h
    · rw [nI_leI (by omega) hj] at h2
      exact ⟨j, by omega, rfl⟩
def jah (p : Int32) (n mo : Nat) (an : Nat → Nat → Nat) : Nat := if jo p n = 0 then 0 else if an p.toNatClampNeg 0 < mo then 0 else 1
theorem jah_le (p : Int32) (n mo : Nat) (an : Nat → Nat → Nat) : jah p n mo an ≤ 1 := by
  unfold jah
  split
  · omega
  · split <;> omega
theorem jah_t {k n mo : Nat} {an : Nat → Nat → Nat} (h : k < n) (hn : n ≤ 20) (hs : ¬ an k 0 < mo) : jah (nI k) n mo an = 1 := by
  unfold jah
  rw [jo_t h hn, if_neg (by omega), nI_clamp (by omega), if_neg hs]
theorem jah_f {k n mo : Nat} {an : Nat → Nat → Nat} (h : k < n) (hn : n ≤ 20) (hs : an k 0 < mo) : jah (nI k) n mo an = 0 := by
  unfold jah
  rw [jo_t h hn, if_neg (by omega), nI_clamp (by omega), if_pos hs]
def jlf (p : Int32) : Nat := if p = 0 then 1 else if p = nI 1 then 1 else 0
theorem jlf_le (p : Int32) : jlf p ≤ 1 := by
  unfold jlf
  split
  · omega
  · split <;> omega
theorem jlf_t {i : Nat} (h : i ≤ 1) : jlf (nI i) = 1 := by
  rcases (show i = 0 ∨ i = 1 by omega) with rfl | rfl <;> rfl
theorem jlf_f {p : Int32} (h : p < nI 0 ∨ nI 1 < p) : jlf p = 0 := by
  unfold jlf
  rw [if_neg, if_neg]
  · rintro rfl
    rcases h with h | h
    · exact absurd h (by decide)
    · exact absurd h (by decide)
  · rintro rfl
    rcases h with h | h
    · exact absurd h (by decide)
    · exact absurd h (by decide)
theorem jlf_in {p : Int32} (h : jlf p ≠ 0) : p = nI 0 ∨ p = nI 1 := by
  unfold jlf at h
  by_cases h1 : p = 0
  · exact Or.inl h1
  · rw [if_neg h1] at h
    by_cases h2 : p = nI 1
    · exact Or.inr h2
    · rw [if_neg h2] at h; exact absurd rfl h
def jg (a b c : Nat) : Nat := if a = 0 then 1 else if b = 0 then 2 else if c = 0 then 3 else 0
def jgr1 (z : Nat) : Nat := if z = 0 then 1 else 0
def jand (a b : Nat) : Nat := if a = 0 then 0 else b
/-- what the reference's row of deaths holds -/
abbrev jdC (an : Nat → Nat → Nat) : Nat → Int32 := fun i => jdM (an (i / 2) (8 + i % 2))
abbrev jpC (py : Nat → Nat → Int64) : Nat → Int64 := fun i => py (i / 240) (i % 240)
theorem jdc0 (an : Nat → Nat → Nat) {k : Nat} (hk : k < 20) : (jdC an) (nI (2 * k)).toNatClampNeg = jdM (an k 8) := by
  rw [nI_clamp (by omega)]
  show jdM (an (2 * k / 2) (8 + 2 * k % 2)) = _
  rw [show 2 * k / 2 = k by omega, show 2 * k % 2 = 0 by omega]
theorem jdc1 (an : Nat → Nat → Nat) {k : Nat} (hk : k < 20) : (jdC an) (nI (2 * k + 1)).toNatClampNeg = jdM (an k 9) := by
  rw [nI_clamp (by omega)]
  show jdM (an ((2 * k + 1) / 2) (8 + (2 * k + 1) % 2)) = _
  rw [show (2 * k + 1) / 2 = k by omega, show (2 * k + 1) % 2 = 1 by omega]
theorem jdcl (an : Nat → Nat → Nat) {k i : Nat} (hk : k < 20) (hi : i ≤ 1) : (jdC an) (nI (2 * k + i)).toNatClampNeg = jdM (an k (8 + i)) := by
  rcases (show i = 0 ∨ i = 1 by omega) with rfl | rfl
  · exact jdc0 an hk
  · exact jdc1 an hk
theorem jpc (py : Nat → Nat → Int64) {k i : Nat} (hk : k < 20) (hi : i < 240) : (jpC py) (nI (240 * k + i)).toNatClampNeg = py k i := by
  rw [nI_clamp (by omega)]
  show py ((240 * k + i) / 240) ((240 * k + i) % 240) = _
  rw [show (240 * k + i) / 240 = k by omega, show (240 * k + i) % 240 = i by omega]
theorem jg_le (a b c : Nat) : jg a b c ≤ 3 := by
  unfold jg
  split
  · omega
  · split
    · omega
    · split <;> omega
/-- the reference: fourteen cells -/
abbrev jMW (cI cJ cZ : ClassId) (ad : Nat → Nat) (n mo : Nat) (iv : Nat → Int32) (an : Nat → Nat → Nat) (T B : Nat → Int64) (py : Nat → Nat → Int64) (f c t : Int32) : va_W := [((ad 0), .inr (2, [.ref (ad 1), .ref (ad 2), .ref (ad 3), .ref (ad 4), .ref (ad 5), .ref (ad 6), .ref (ad 7), .ref (ad 8), .ref (ad 9), .ref (ad 10), .ref (ad 11), .ref (ad 12), .ref (ad 13), .int (nI n), .int (nI mo), .int f, .int c, .int t])), ((ad 1), .inl (cI, 20, .inl (fun k => nI (an k 0)))), ((ad 2), .inl (cI, 20, .inl (fun k => nI (an k 1)))), ((ad 3), .inl (cI, 20, .inl (fun k => nI (an k 2)))), ((ad 4), .inl (cI, 20, .inl (fun k => nI (an k 3)))), ((ad 5), .inl (cZ, 20, .inl (fun k => nI (an k 4)))), ((ad 6), .inl (cI, 20, .inl (fun k => nI (an k 5)))), ((ad 7), .inl (cI, 20, .inl (fun k => nI (an k 6)))), ((ad 8), .inl (cI, 20, .inl (fun k => nI (an k 7)))), ((ad 9), .inl (cI, 40, .inl (jdC an))), ((ad 10), .inl (cJ, 20, .inr (.inl (T)))), ((ad 11), .inl (cJ, 20, .inr (.inl (B)))), ((ad 12), .inl (cJ, 4800, .inr (.inl (jpC py)))), ((ad 13), .inl (cI, 20, .inl (iv)))]
/-- two worlds whose cells are the same, or arrays of the same contents -/
def jSm : va_W → va_W → Prop
  | [], [] => True
  | a :: l, b :: l' => (a = b ∨ ∃ (q : Nat) (x y : ClassId × vp_A), a = (q, .inl x) ∧ b = (q, .inl y) ∧ vp_cell x.1 x.2 = vp_cell y.1 y.2) ∧ jSm l l'
  | _, _ => False
theorem jSm_n : jSm [] [] := trivial
theorem jSm_e {a : Nat × va_E} {l l' : va_W} (h : jSm l l') : jSm (a :: l) (a :: l') := ⟨Or.inl rfl, h⟩
theorem jSm_I {q n : Nat} {cA : ClassId} {f g : Nat → Int32} {l l' : va_W} (hf : ∀ j, j < n → f j = g j) (h : jSm l l') : jSm ((q, .inl (cA, n, .inl f)) :: l) ((q, .inl (cA, n, .inl g)) :: l') := ⟨Or.inr ⟨q, _, _, rfl, rfl, j_cI hf⟩, h⟩
theorem jSm_L {q n : Nat} {cA : ClassId} {f g : Nat → Int64} {l l' : va_W} (hf : ∀ j, j < n → f j = g j) (h : jSm l l') : jSm ((q, .inl (cA, n, .inr (.inl f))) :: l) ((q, .inl (cA, n, .inr (.inl g))) :: l') := ⟨Or.inr ⟨q, _, _, rfl, rfl, j_cL hf⟩, h⟩
theorem j_sm {D : va_G} {cl : List vw_C} {H : Heap} : ∀ {ws wn : va_W}, va_P D cl ws H → jSm ws wn → va_P D cl wn H
  | [], [], h, _ => h
  | a :: l, b :: l', h, hs => by
    obtain ⟨h1, h2⟩ := hs
    have g1 : va_P D cl l H := fun k q hk => h (k + 1) q (by rw [List.getElem?_cons_succ]; exact hk)
    have g2 := j_sm g1 h2
    intro k q hk
    match k, hk with
    | 0, hk =>
      cases Option.some.inj hk
      rcases h1 with rfl | ⟨z, x, y, rfl, rfl, e⟩
      · exact h 0 _ rfl
      · have h4 : H[z]? = some (vp_cell x.1 x.2) := h 0 _ rfl
        show H[z]? = some (vp_cell y.1 y.2)
        rw [← e]
        exact h4
    | k + 1, hk => exact g2 k q (by rw [List.getElem?_cons_succ] at hk; exact hk)
  | [], _ :: _, _, hs => hs.elim
  | _ :: _, [], _, hs => hs.elim
theorem jsame {an : Nat → Nat → Nat} {k : Nat} {new : Nat → Nat} (i : Nat) (h : new i = an k i) : ∀ j : Nat, nI (an j i) = nI (jSet an k new j i) := by
  intro j
  by_cases e : j = k
  · subst e; rw [jSet_s, h]
  · rw [jSet_n _ _ e]
theorem jupd {an : Nat → Nat → Nat} {k : Nat} {new : Nat → Nat} (i : Nat) {x : Int32} (h : x = nI (new i)) : ∀ j : Nat, upd (fun k => nI (an k i)) k x j = nI (jSet an k new j i) := by
  intro j
  by_cases e : j = k
  · subst e; rw [jSet_s, pk_us, h]
  · rw [jSet_n _ _ e, pk_un e]
theorem jdsame {an : Nat → Nat → Nat} {k : Nat} {new : Nat → Nat} (h8 : new 8 = an k 8) (h9 : new 9 = an k 9) : ∀ j : Nat, jdC an j = jdC (jSet an k new) j := by
  intro j
  show jdM (an (j / 2) (8 + j % 2)) = jdM (jSet an k new (j / 2) (8 + j % 2))
  by_cases e : j / 2 = k
  · rw [e, jSet_s]
    rcases (show j % 2 = 0 ∨ j % 2 = 1 by omega) with h | h
    · rw [h]; exact congrArg jdM h8.symm
    · rw [h]; exact congrArg jdM h9.symm
  · rw [jSet_n _ _ e]
theorem jdupd0 {an : Nat → Nat → Nat} {k : Nat} {new : Nat → Nat} {x : Int32} (h8 : x = jdM (new 8)) (h9 : new 9 = an k 9) : ∀ j : Nat, upd (jdC an) (2 * k) x j = jdC (jSet an k new) j := by
  intro j
  by_cases e : j = 2 * k
  · subst e
    rw [pk_us]
    show x = jdM (jSet an k new (2 * k / 2) (8 + 2 * k % 2))
    rw [show 2 * k / 2 = k by omega, show 2 * k % 2 = 0 by omega, jSet_s]
    exact h8
  · rw [pk_un e]
    show jdM (an (j / 2) (8 + j % 2)) = jdM (jSet an k new (j / 2) (8 + j % 2))
    by_cases e2 : j / 2 = k
    · rw [e2, jSet_s, show j % 2 = 1 by omega]; exact congrArg jdM h9.symm
    · rw [jSet_n _ _ e2]
theorem jdupd1 {an : Nat → Nat → Nat} {k : Nat} {new : Nat → Nat} {x : Int32} (h9 : x = jdM (new 9)) (h8 : new 8 = an k 8) : ∀ j : Nat, upd (jdC an) (2 * k + 1) x j = jdC (jSet an k new) j := by
  intro j
  by_cases e : j = 2 * k + 1
  · subst e
    rw [pk_us]
    show x = jdM (jSet an k new ((2 * k + 1) / 2) (8 + (2 * k + 1) % 2))
    rw [show (2 * k + 1) / 2 = k by omega, show (2 * k + 1) % 2 = 1 by omega, jSet_s]
    exact h9
  · rw [pk_un e]
    show jdM (an (j / 2) (8 + j % 2)) = jdM (jSet an k new (j / 2) (8 + j % 2))
    by_cases e2 : j / 2 = k
    · rw [e2, jSet_s, show j % 2 = 0 by omega]; exact congrArg jdM h8.symm
    · rw [jSet_n _ _ e2]
theorem jdadd {an : Nat → Nat → Nat} {k : Nat} {new : Nat → Nat} (h8 : new 8 = 240) (h9 : new 9 = 240) : ∀ j : Nat, upd (upd (jdC an) (2 * k) (-1)) (2 * k + 1) (-1) j = jdC (jSet an k new) j := by
  intro j
  have g : j / 2 = k → jdC (jSet an k new) j = -1 := fun e => by
    show jdM (jSet an k new (j / 2) (8 + j % 2)) = -1
    rw [e, jSet_s]
    rcases (show j % 2 = 0 ∨ j % 2 = 1 by omega) with h | h
    · rw [h]; exact jdM_n h8
    · rw [h]; exact jdM_n h9
  by_cases e1 : j = 2 * k + 1
  · rw [g (by omega), e1, pk_us]
  · rw [pk_un e1]
    by_cases e0 : j = 2 * k
    · rw [g (by omega), e0, pk_us]
    · rw [pk_un e0]
      show jdM (an (j / 2) (8 + j % 2)) = jdM (jSet an k new (j / 2) (8 + j % 2))
      rw [jSet_n _ _ (show j / 2 ≠ k by omega)]
theorem jvn {w : Nat} (h : w ≤ 1) : vp_nar .boolean (nI w) = nI w := by
  rcases (show w = 0 ∨ w = 1 by omega) with rfl | rfl <;> rfl
theorem jx1 (v : Nat) : nI v = nI (v + 1) - nI 1 := by rw [pk_sub (by omega)]; rfl
theorem jxlt {e j : Nat} (he : e ≤ 240) (hj : j ≤ 240) : nI e - nI 1 < nI j ↔ e ≤ j := by
  by_cases h : e = 0
  · subst h
    refine ⟨fun _ => Nat.zero_le _, fun _ => ?_⟩
    rw [Int32.lt_iff_toInt_lt, nI_toInt (by omega), show (nI 0 - nI 1).toInt = -1 by decide]
    omega
  · rw [pk_sub (by omega), nI_ltI (by omega) (by omega)]
    omega
/-- what the reference pays an annuity when month mo is run -/
def jZm (an : Nat → Nat → Nat) (iv : Nat → Int32) (mo : Nat) (T B : Nat → Int64) (j : Nat) : Int64 := jmx (lN (jU (an j) iv (mo + 1)) - T j + B j)
theorem jpay {py : Nat → Nat → Int64} {Z : Nat → Int64} {mo i : Nat} (hm : mo < 240) : ∀ j : Nat, vp_updL (jpC (jpi py Z mo i)) (240 * i + mo) (Z i) j = jpC (jpi py Z mo (i + 1)) j := by
  intro j
  show _ = jpi py Z mo (i + 1) (j / 240) (j % 240)
  by_cases e : j = 240 * i + mo
  · subst e
    rw [pk_uLs, show (240 * i + mo) / 240 = i by omega, show (240 * i + mo) % 240 = mo by omega, jpi_b _ _ _ (Nat.lt_succ_self i), pk_uLs]
  · rw [pk_uLn e]
    show jpi py Z mo i (j / 240) (j % 240) = _
    by_cases e2 : j / 240 = i
    · rw [e2, jpi_a _ _ _ (Nat.le_refl i), jpi_b _ _ _ (Nat.lt_succ_self i), pk_uLn (by omega)]
    · rw [jpi_n _ _ _ e2]
theorem jtot {T Z : Nat → Int64} {i : Nat} {x : Int64} (h : x = T i + Z i) : ∀ j : Nat, vp_updL (jki T Z i) i x j = jki T Z (i + 1) j := by
  intro j
  by_cases e : j = i
  · subst e; rw [pk_uLs, jki_b _ _ (Nat.lt_succ_self j), h]
  · rw [pk_uLn e, jki_n _ _ e]
theorem jmx_p {z : Int64} (h : lN 0 ≤ z) : jmx z = z := if_neg (Int64.not_lt.mpr h)
theorem jmx_m {z : Int64} (h : ¬ lN 0 ≤ z) : jmx z = lN 0 := if_pos (Int64.not_le.mp h)
