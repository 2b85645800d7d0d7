/-! the reference's world, and its small functions in natural numbers -/
def jdM (d : Nat) : Int32 := if d = 240 then -1 else nI d
def jdw (d : Nat) : Nat := if d = 240 then 0 else d + 1
theorem jdM_t {d : Nat} (h : d ≠ 240) : jdM d = nI d := if_neg h
theorem jdM_n {d : Nat} (h : d = 240) : jdM d = -1 := if_pos h
theorem jdM_neg {d : Nat} (h : d ≤ 240) : jdM d < 0 ↔ d = 240 := by
  by_cases h1 : d = 240
  · rw [jdM_n h1]; exact ⟨fun _ => h1, fun _ => by decide⟩
  · rw [jdM_t h1]; exact ⟨fun q => absurd q (nI_pos (by omega)), fun q => absurd q h1⟩
theorem jdM_1 {d : Nat} : jdM d + nI 1 = nI (jdw d) := by
  unfold jdw
  by_cases h1 : d = 240
  · rw [jdM_n h1, if_pos h1]; decide
  · rw [jdM_t h1, if_neg h1, nI_add]
theorem jdM_le {a b : Nat} (ha : a ≤ 240) (hb : b ≤ 240) (h1 : a ≠ 240) (h2 : b ≠ 240) : jdM a ≤ jdM b ↔ a ≤ b := by
  rw [jdM_t h1, jdM_t h2]; exact nI_leI (by omega) (by omega)
theorem jdw_le {d : Nat} (h : d ≤ 240) : jdw d ≤ 240 := by
  unfold jdw
  split <;> omega
theorem jdw_t {d : Nat} (h : d ≠ 240) : jdw d = d + 1 := if_neg h
def jw (v lo hi : Int32) : Nat := if v < lo then 0 else if hi < v then 0 else 1
theorem jw_t {v lo hi : Int32} (h1 : ¬ v < lo) (h2 : ¬ hi < v) : jw v lo hi = 1 := by unfold jw; rw [if_neg h1, if_neg h2]
theorem jw_f {v lo hi : Int32} (h : v < lo ∨ hi < v) : jw v lo hi = 0 := by
  unfold jw
  by_cases h1 : v < lo
  · rw [if_pos h1]
  · rw [if_neg h1, if_pos (h.resolve_left h1)]
theorem jw_le (v lo hi : Int32) : jw v lo hi ≤ 1 := by
  unfold jw
  split
  · omega
  · split <;> omega
def jo (p : Int32) (n : Nat) : Nat := if p < 0 then 0 else if nI n ≤ p then 0 else 1
theorem jo_t {k n : Nat} (h : k < n) (hn : n ≤ 20) : jo (nI k) n = 1 := by
  unfold jo
  rw [if_neg (nI_pos (by omega)), if_neg (nI_ge h (by omega))]
theorem jo_f {p : Int32} {n : Nat} (hn : n ≤ 20) (h : ¬ vp_in p n) : jo p n = 0 := by
  unfold jo
  by_cases h1 : p < 0
  · rw [if_pos h1]
  · rw [if_neg h1]
    obtain ⟨j, hj, rfl⟩ := nI_of h1
    rw [if_pos]
    rw [nI_leI (by omega) hj]
    exact Nat.not_lt.mp (fun q => h (vp_in_nI q (by omega)))
theorem jo_le (p : Int32) (n : Nat) : jo p n ≤ 1 := by
  unfold jo
  split
  · omega
  · split <;> omega
/-- one that is, is a place -/
theorem jo_in {p : Int32} {n : Nat} (hn : n ≤ 20) (h : jo p n ≠ 0) : ∃ k, k < n ∧ p = nI k := by
  unfold jo at h
  by_cases h1 : p < 0
  · rw [if_pos h1] at h; exact absurd rfl h
  · rw [if_neg h1] at h
    obtain ⟨j, hj, rfl⟩ := nI_of h1
    by_cases h2 : nI n ≤ nI j
    · rw [if_pos h2] at h; exact absurd rfl h
    · rw [nI_leI (by omega) hj] at h2
      exact ⟨j, by omega, rfl⟩
def jah (p : Int32) (n mo : Nat) (an : Nat → Nat → Nat) : Nat := if jo p n = 0 then 0 else if an p.toNatClampNeg 0 < mo then 0 else 1
theorem jah_le (p : Int32) (n mo : Nat) (an : Nat → Nat → Nat) : jah p n mo an ≤ 1 := by
  unfold jah
  split
  · omega
  · split <;> omega
theorem jah_t {k n mo : Nat} {an : Nat → Nat → Nat} (h : k < n) (hn : n ≤ 20) (hs : ¬ an k 0 < mo) : jah (nI k) n mo an = 1 := by
  unfold jah
  rw [jo_t h hn, if_neg (by omega), nI_clamp (by omega), if_neg hs]
theorem jah_f {k n mo : Nat} {an : Nat → Nat → Nat} (h : k < n) (hn : n ≤ 20) (hs : an k 0 < mo) : jah (nI k) n mo an = 0 := by
  unfold jah
  rw [jo_t h hn, if_neg (by omega), nI_clamp (by omega), if_pos hs]
def jlf (p : Int32) : Nat := if p = 0 then 1 else if p = nI 1 then 1 else 0
theorem jlf_le (p : Int32) : jlf p ≤ 1 := by
  unfold jlf
  split
  · omega
  · split <;> omega
theorem jlf_t {i : Nat} (h : i ≤ 1) : jlf (nI i) = 1 := by
  rcases (show i = 0 ∨ i = 1 by omega) with rfl | rfl <;> rfl
theorem jlf_f {p : Int32} (h : p < nI 0 ∨ nI 1 < p) : jlf p = 0 := by
  unfold jlf
  rw [if_neg, if_neg]
  · rintro rfl
    rcases h with h | h
    · exact absurd h (by decide)
    · exact absurd h (by decide)
  · rintro rfl
    rcases h with h | h
    · exact absurd h (by decide)
    · exact absurd h (by decide)
theorem jlf_in {p : Int32} (h : jlf p ≠ 0) : p = nI 0 ∨ p = nI 1 := by
  unfold jlf at h
  by_cases h1 : p = 0
  · exact Or.inl h1
  · rw [if_neg h1] at h
    by_cases h2 : p = nI 1
    · exact Or.inr h2
    · rw [if_neg h2] at h; exact absurd rfl h
def jg (a b c : Nat) : Nat := if a = 0 then 1 else if b = 0 then 2 else if c = 0 then 3 else 0
def jgr1 (z : Nat) : Nat := if z = 0 then 1 else 0
def jand (a b : Nat) : Nat := if a = 0 then 0 else b
/-- what the reference's row of deaths holds -/
abbrev jdC (an : Nat → Nat → Nat) : Nat → Int32 := fun i => jdM (an (i / 2) (8 + i % 2))
abbrev jpC (py : Nat → Nat → Int64) : Nat → Int64 := fun i => py (i / 240) (i % 240)
theorem jdc0 (an : Nat → Nat → Nat) {k : Nat} (hk : k < 20) : (jdC an) (nI (2 * k)).toNatClampNeg = jdM (an k 8) := by
  rw [nI_clamp (by omega)]
  show jdM (an (2 * k / 2) (8 + 2 * k % 2)) = _
  rw [show 2 * k / 2 = k by omega, show 2 * k % 2 = 0 by omega]
theorem jdc1 (an : Nat → Nat → Nat) {k : Nat} (hk : k < 20) : (jdC an) (nI (2 * k + 1)).toNatClampNeg = jdM (an k 9) := by
  rw [nI_clamp (by omega)]
  show jdM (an ((2 * k + 1) / 2) (8 + (2 * k + 1) % 2)) = _
  rw [show (2 * k + 1) / 2 = k by omega, show (2 * k + 1) % 2 = 1 by omega]
theorem jdcl (an : Nat → Nat → Nat) {k i : Nat} (hk : k < 20) (hi : i ≤ 1) : (jdC an) (nI (2 * k + i)).toNatClampNeg = jdM (an k (8 + i)) := by
  rcases (show i = 0 ∨ i = 1 by omega) with rfl | rfl
  · exact jdc0 an hk
  · exact jdc1 an hk
theorem jpc (py : Nat → Nat → Int64) {k i : Nat} (hk : k < 20) (hi : i < 240) : (jpC py) (nI (240 * k + i)).toNatClampNeg = py k i := by
  rw [nI_clamp (by omega)]
  show py ((240 * k + i) / 240) ((240 * k + i) % 240) = _
  rw [show (240 * k + i) / 240 = k by omega, show (240 * k + i) % 240 = i by omega]
theorem jg_le (a b c : Nat) : jg a b c ≤ 3 := by
  unfold jg
  split
  · omega
  · split
    · omega
    · split <;> omega
/-- the reference: fourteen cells -/
abbrev jMW (cI cJ cZ : ClassId) (ad : Nat → Nat) (n mo : Nat) (iv : Nat → Int32) (an : Nat → Nat → Nat) (T B : Nat → Int64) (py : Nat → Nat → Int64) (f c t : Int32) : va_W := [((ad 0), .inr (2, [.ref (ad 1), .ref (ad 2), .ref (ad 3), .ref (ad 4), .ref (ad 5), .ref (ad 6), .ref (ad 7), .ref (ad 8), .ref (ad 9), .ref (ad 10), .ref (ad 11), .ref (ad 12), .ref (ad 13), .int (nI n), .int (nI mo), .int f, .int c, .int t])), ((ad 1), .inl (cI, 20, .inl (fun k => nI (an k 0)))), ((ad 2), .inl (cI, 20, .inl (fun k => nI (an k 1)))), ((ad 3), .inl (cI, 20, .inl (fun k => nI (an k 2)))), ((ad 4), .inl (cI, 20, .inl (fun k => nI (an k 3)))), ((ad 5), .inl (cZ, 20, .inl (fun k => nI (an k 4)))), ((ad 6), .inl (cI, 20, .inl (fun k => nI (an k 5)))), ((ad 7), .inl (cI, 20, .inl (fun k => nI (an k 6)))), ((ad 8), .inl (cI, 20, .inl (fun k => nI (an k 7)))), ((ad 9), .inl (cI, 40, .inl (jdC an))), ((ad 10), .inl (cJ, 20, .inr (.inl (T)))), ((ad 11), .inl (cJ, 20, .inr (.inl (B)))), ((ad 12), .inl (cJ, 4800, .inr (.inl (jpC py)))), ((ad 13), .inl (cI, 20, .inl (iv)))]
