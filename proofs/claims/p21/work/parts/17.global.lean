/-! worlds with any number of annuities: blocks, one of them taken out and put back -/
theorem j_nd {A : Nat → Prop} {ws : va_W} (h : va_D A ws) : (ws.map (·.1)).Nodup := by
  rw [List.nodup_iff_pairwise_ne, List.pairwise_iff_getElem]
  intro i j hi hj hij e
  rw [List.length_map] at hi hj
  rw [List.getElem_map, List.getElem_map] at e
  have := h.1 i j _ _ (List.getElem?_eq_getElem hi) (List.getElem?_eq_getElem hj) e
  omega
theorem j_ofnd {A : Nat → Prop} {ws : va_W} (h : (ws.map (·.1)).Nodup) (hA : ∀ q ∈ ws, A q.1) : va_D A ws := by
  refine ⟨fun i j p q hi hj e => ?_, fun k q hk => hA q (List.mem_of_getElem? hk)⟩
  have h1 : (ws.map (·.1))[i]? = some p.1 := by rw [List.getElem?_map, hi]; rfl
  have h2 : (ws.map (·.1))[j]? = some p.1 := by rw [List.getElem?_map, hj, e]; rfl
  obtain ⟨a1, b1⟩ := List.getElem?_eq_some_iff.mp h1
  obtain ⟨a2, b2⟩ := List.getElem?_eq_some_iff.mp h2
  rw [List.nodup_iff_pairwise_ne, List.pairwise_iff_getElem] at h
  rcases Nat.lt_trichotomy i j with q | q | q
  · exact absurd (b1.trans b2.symm) (h i j a1 a2 q)
  · exact q
  · exact absurd (b2.trans b1.symm) (h j i a2 a1 q)
theorem j_subP {D : va_G} {cl : List vw_C} {ws wc : va_W} {H : Heap} (h : va_P D cl ws H) (hs : wc.Sublist ws) : va_P D cl wc H := by
  intro k q hk
  obtain ⟨j, hj⟩ := List.getElem?_of_mem (hs.subset (List.mem_of_getElem? hk))
  exact h j q hj
theorem j_subD {A : Nat → Prop} {ws wc : va_W} (h : va_D A ws) (hs : wc.Sublist ws) : va_D A wc :=
  j_ofnd ((j_nd h).sublist (hs.map _)) (fun q hq => by
    obtain ⟨j, hj⟩ := List.getElem?_of_mem (hs.subset hq)
    exact h.2 j q hj)
theorem j_subA {A : Nat → Prop} {ws wc : va_W} (h : va_D A ws) (hs : wc.Sublist ws) : ∀ q, jA wc q → A q := by
  intro q ⟨k, e, hk⟩
  exact (j_subD h hs).2 k _ hk
theorem j_apart {A : Nat → Prop} {a b : va_W} (h : va_D A (a ++ b)) : ∀ x ∈ a, ∀ y ∈ b, x.1 ≠ y.1 := by
  have h1 := j_nd h
  rw [List.map_append, List.nodup_append] at h1
  intro x hx y hy
  exact h1.2.2 x.1 (List.mem_map.mpr ⟨x, hx, rfl⟩) y.1 (List.mem_map.mpr ⟨y, hy, rfl⟩)
/-- blocks, one behind the other -/
def jBl (blk : Nat → va_W) : Nat → va_W
  | 0 => []
  | n + 1 => jBl blk n ++ blk n
theorem jBl_mem {blk : Nat → va_W} {n : Nat} {q : Nat × va_E} : q ∈ jBl blk n ↔ ∃ k, k < n ∧ q ∈ blk k := by
  induction n with
  | zero => exact ⟨fun h => absurd h List.not_mem_nil, fun ⟨k, h, _⟩ => absurd h (Nat.not_lt_zero _)⟩
  | succ n ih =>
    show q ∈ jBl blk n ++ blk n ↔ _
    rw [List.mem_append, ih]
    constructor
    · rintro (⟨k, h1, h2⟩ | h)
      · exact ⟨k, by omega, h2⟩
      · exact ⟨n, by omega, h⟩
    · rintro ⟨k, h1, h2⟩
      by_cases h : k = n
      · subst h; exact Or.inr h2
      · exact Or.inl ⟨k, by omega, h2⟩
theorem jBl_sub {blk : Nat → va_W} {n k : Nat} (h : k < n) : (blk k).Sublist (jBl blk n) := by
  induction n with
  | zero => exact absurd h (Nat.not_lt_zero _)
  | succ n ih =>
    show (blk k).Sublist (jBl blk n ++ blk n)
    by_cases h1 : k = n
    · subst h1; exact List.sublist_append_right _ _
    · exact (ih (by omega)).trans (List.sublist_append_left _ _)
theorem jBl_congr {blk blk' : Nat → va_W} {n : Nat} (h : ∀ k, k < n → blk k = blk' k) : jBl blk n = jBl blk' n := by
  induction n with
  | zero => rfl
  | succ n ih =>
    show jBl blk n ++ blk n = jBl blk' n ++ blk' n
    rw [ih (fun k hk => h k (by omega)), h n (by omega)]
theorem jBl_adr {blk blk' : Nat → va_W} {n : Nat} (h : ∀ k, k < n → (blk k).map (·.1) = (blk' k).map (·.1)) : (jBl blk n).map (·.1) = (jBl blk' n).map (·.1) := by
  induction n with
  | zero => rfl
  | succ n ih =>
    show (jBl blk n ++ blk n).map (·.1) = (jBl blk' n ++ blk' n).map (·.1)
    rw [List.map_append, List.map_append, ih (fun k hk => h k (by omega)), h n (by omega)]
theorem jBl_apart {A : Nat → Prop} {blk : Nat → va_W} {n : Nat} (h : va_D A (jBl blk n)) : ∀ j k, j < n → k < n → j ≠ k → ∀ x ∈ blk j, ∀ y ∈ blk k, x.1 ≠ y.1 := by
  induction n with
  | zero => intro j k h; exact absurd h (Nat.not_lt_zero _)
  | succ n ih =>
    intro j k hj hk hn x hx y hy
    have h0 : va_D A (jBl blk n ++ blk n) := h
    by_cases h1 : j = n
    · subst h1
      exact fun e => j_apart h0 y (jBl_mem.mpr ⟨k, by omega, hy⟩) x hx e.symm
    · by_cases h2 : k = n
      · subst h2
        exact j_apart h0 x (jBl_mem.mpr ⟨j, by omega, hx⟩) y hy
      · exact ih (j_subD h0 (List.sublist_append_left _ _)) j k (by omega) (by omega) hn x hx y hy
/-- block k changed, all else as it was -/
def jSet {α : Type} (f : Nat → α) (k : Nat) (v : α) : Nat → α := fun j => if j = k then v else f j
theorem jSet_s {α : Type} (f : Nat → α) (k : Nat) (v : α) : jSet f k v k = v := if_pos rfl
theorem jSet_n {α : Type} (f : Nat → α) {k j : Nat} (v : α) (h : j ≠ k) : jSet f k v j = f j := if_neg h
/-- behind a call on X, block k and part of Z: all is put back -/
theorem j_back {A : Nat → Prop} {D : va_G} {cl : List vw_C} {X X' Zc Zc' Zr : va_W} {blk blk' : Nat → va_W} {n k : Nat} {H H1 : Heap} (hk : k < n)
    (hP : va_P D cl (X ++ (jBl blk n ++ (Zc ++ Zr))) H) (hD : va_D A (X ++ (jBl blk n ++ (Zc ++ Zr)))) (haX : X.map (·.1) = X'.map (·.1)) (haB : (blk k).map (·.1) = (blk' k).map (·.1)) (haZ : Zc.map (·.1) = Zc'.map (·.1)) (hb : ∀ j, j < n → j ≠ k → blk' j = blk j)
    (hkk : ∀ q : Nat, q < H.size → ¬ jA (X ++ (blk k ++ Zc)) q → H1[q]? = H[q]?) (hP1 : va_P D cl (X' ++ (blk' k ++ Zc')) H1) : va_P D cl (X' ++ (jBl blk' n ++ (Zc' ++ Zr))) H1 ∧ va_D A (X' ++ (jBl blk' n ++ (Zc' ++ Zr))) := by
  refine j_wu hP hD ?_ hkk hP1 ?_
  · rw [List.map_append, List.map_append, List.map_append, List.map_append, List.map_append, List.map_append, haX, haZ, jBl_adr (blk := blk) (blk' := blk') fun j hj => ?_]
    by_cases h : j = k
    · subst h; exact haB
    · rw [hb j hj h]
  · intro q hq
    have hD2 := j_subD hD (List.sublist_append_right _ _)
    have hD3 := j_subD hD2 (List.sublist_append_left _ _)
    have hD4 := j_subD hD2 (List.sublist_append_right _ _)
    rcases List.mem_append.mp hq with h1 | h1
    · exact Or.inl (List.mem_append_left _ h1)
    · rcases List.mem_append.mp h1 with h2 | h2
      · obtain ⟨j, hj, h3⟩ := jBl_mem.mp h2
        by_cases h : j = k
        · subst h; exact Or.inl (List.mem_append_right _ (List.mem_append_left _ h3))
        · rw [hb j hj h] at h3
          have h4 : q ∈ jBl blk n := jBl_mem.mpr ⟨j, hj, h3⟩
          refine Or.inr ⟨List.mem_append_right _ (List.mem_append_left _ h4), fun z hz => ?_⟩
          rcases List.mem_append.mp hz with g1 | g1
          · exact j_apart hD z g1 q (List.mem_append_left _ h4)
          · rcases List.mem_append.mp g1 with g2 | g2
            · exact jBl_apart hD3 k j hk hj (fun e => h e.symm) z g2 q h3
            · exact fun e => j_apart hD2 q h4 z (List.mem_append_left _ g2) e.symm
      · rcases List.mem_append.mp h2 with h3 | h3
        · exact Or.inl (List.mem_append_right _ (List.mem_append_right _ h3))
        · refine Or.inr ⟨List.mem_append_right _ (List.mem_append_right _ (List.mem_append_right _ h3)), fun z hz => ?_⟩
          rcases List.mem_append.mp hz with g1 | g1
          · exact j_apart hD z g1 q (List.mem_append_right _ (List.mem_append_right _ h3))
          · rcases List.mem_append.mp g1 with g2 | g2
            · exact j_apart hD2 z (jBl_mem.mpr ⟨k, hk, g2⟩) q (List.mem_append_right _ h3)
            · exact j_apart hD4 z g2 q h3
theorem j_focus {X Zc Zr : va_W} {blk : Nat → va_W} {n k : Nat} (hk : k < n) : (X ++ (blk k ++ Zc)).Sublist (X ++ (jBl blk n ++ (Zc ++ Zr))) :=
  (List.Sublist.refl X).append ((jBl_sub hk).append (List.sublist_append_left _ _))
/-- all annuities of the desk: aa k their addresses, an k their numbers -/
abbrev jao (aa : Nat → Nat → Nat) (n : Nat) : Nat → Option Nat := fun j => if j < n then some (aa j 0) else none
abbrev jbk (cI cJ : ClassId) (aa an : Nat → Nat → Nat) (iv : Nat → Int32) (kp : Nat → Int64) (py : Nat → Nat → Int64) : Nat → va_W := fun k => jAW cI cJ (aa k) (an k) iv (kp k) (py k)
abbrev jX3 (cI cO : ClassId) (ax : Nat → Nat) (ao : Nat → Option Nat) (n mo : Nat) (iv : Nat → Int32) : va_W := [jXo ax n mo, jXa cO ax ao, jXi cI ax iv]
section JG
variable {p : Program} {l : Launch} {e : Env} {R : Room} {s : State} {m : MethodId} {args : Array Value} {below : List Frame} {meth : Method} {c : Code} {H : Heap} {locs : List Loc} {cells slots : Nat} {Q : State → Prop}
variable {pc : Nat} {ls : Array Slot} {rest st0 As : List Value} {lv : List (Nat × Value)}
variable {y : MethodName} {bytes cc : ByteArray} {maxL nL n index : Nat} {ret : Option FieldType} {ws' : List Cond} {rm : Room} {Ts : List Cond} {own C : String} {b : Addr} {Pc : Array Value → State → Prop}
variable {A0 : Nat → Prop} {H0 : Heap} {D : va_G} {wc : va_W}
/-- a writer called on a part of a larger world: what it leaves and what it keeps -/
theorem j_gL {S : Type} {post : Int64 → S → Prop} {w1 : S → va_W} (Sx : CallFix p m c cc nL s args Ts own) (hM : Met l y ws' rm Pc (va_Ql post (fun u t => va_P D vwCl (w1 u) t.heap) (jA wc)) 0 0 (jA wc)) (cw : CallW R s args own C index y bytes maxL ret ws' rm 0 0 n) (hp : PreV s H C b Pc As) (hn : As.length = n) (hl : lv_has ls nL lv) (hst : st0 = As.reverse ++ .ref b :: rest) (hro : (rest.map fun v => v.category).sum ≤ 8) (hdg : decode cc pc = .ok (.invokevirtual index, 3)) (hf : cells ≤ R.cells ∧ slots ≤ R.slots)
    (hS : va_S A0 H0 H locs) (hA : ∀ q, jA wc q → A0 q)
    (kk : ∀ (r : Int64) (u : S) (H1 : Heap) (locs1 : List Loc), post r u → va_P D vwCl (w1 u) H1 → (∀ q : Nat, q < H.size → ¬ jA wc q → H1[q]? = H[q]?) → va_S A0 H0 H1 locs1 → W p l e R s m args below meth c H1 locs1 cells slots Q (F0 m (pc + 3) ls (.long r :: rest))) : W p l e R s m args below meth c H locs cells slots Q (F0 m pc ls st0) :=
  va_calll (va_runV Sx hM cw hp rfl hn hl.1 hst (lv_room hro) hdg hf) hS (fun q _ h => hA q h) (fun q h => hA q h) (fun r u t H1 locs1 ht _ hw hB _ hk hS1 => kk r u H1 locs1 hw (by rw [← ht]; exact hB) hk hS1)
theorem j_gI {S : Type} {post : Int32 → S → Prop} {w1 : S → va_W} (Sx : CallFix p m c cc nL s args Ts own) (hM : Met l y ws' rm Pc (va_Qi post (fun u t => va_P D vwCl (w1 u) t.heap) (jA wc)) 0 0 (jA wc)) (cw : CallW R s args own C index y bytes maxL ret ws' rm 0 0 n) (hp : PreV s H C b Pc As) (hn : As.length = n) (hl : lv_has ls nL lv) (hst : st0 = As.reverse ++ .ref b :: rest) (hro : (rest.map fun v => v.category).sum ≤ 8) (hdg : decode cc pc = .ok (.invokevirtual index, 3)) (hf : cells ≤ R.cells ∧ slots ≤ R.slots)
    (hS : va_S A0 H0 H locs) (hA : ∀ q, jA wc q → A0 q)
    (kk : ∀ (r : Int32) (u : S) (H1 : Heap) (locs1 : List Loc), post r u → va_P D vwCl (w1 u) H1 → (∀ q : Nat, q < H.size → ¬ jA wc q → H1[q]? = H[q]?) → va_S A0 H0 H1 locs1 → W p l e R s m args below meth c H1 locs1 cells slots Q (F0 m (pc + 3) ls (.int r :: rest))) : W p l e R s m args below meth c H locs cells slots Q (F0 m pc ls st0) :=
  va_calli (va_runV Sx hM cw hp rfl hn hl.1 hst (lv_room hro) hdg hf) hS (fun q _ h => hA q h) (fun q h => hA q h) (fun r u t H1 locs1 ht _ hw hB _ hk hS1 => kk r u H1 locs1 hw (by rw [← ht]; exact hB) hk hS1)
theorem j_gV {S : Type} {post : S → Prop} {w1 : S → va_W} (Sx : CallFix p m c cc nL s args Ts own) (hM : Met l y ws' rm Pc (va_Qv post (fun u t => va_P D vwCl (w1 u) t.heap) (jA wc)) 0 0 (jA wc)) (cw : CallW R s args own C index y bytes maxL ret ws' rm 0 0 n) (hp : PreV s H C b Pc As) (hn : As.length = n) (hl : lv_has ls nL lv) (hst : st0 = As.reverse ++ .ref b :: rest) (hro : (rest.map fun v => v.category).sum ≤ 8) (hdg : decode cc pc = .ok (.invokevirtual index, 3)) (hf : cells ≤ R.cells ∧ slots ≤ R.slots)
    (hS : va_S A0 H0 H locs) (hA : ∀ q, jA wc q → A0 q)
    (kk : ∀ (u : S) (H1 : Heap) (locs1 : List Loc), post u → va_P D vwCl (w1 u) H1 → (∀ q : Nat, q < H.size → ¬ jA wc q → H1[q]? = H[q]?) → va_S A0 H0 H1 locs1 → W p l e R s m args below meth c H1 locs1 cells slots Q (F0 m (pc + 3) ls rest)) : W p l e R s m args below meth c H locs cells slots Q (F0 m pc ls st0) :=
  va_callv (va_runV Sx hM cw hp rfl hn hl.1 hst (lv_room hro) hdg hf) hS (fun q _ h => hA q h) (fun q h => hA q h) (fun u t H1 locs1 ht _ hw hB _ hk hS1 => kk u H1 locs1 hw (by rw [← ht]; exact hB) hk hS1)
end JG
def jSum (Z : Nat → Int64) : Nat → Int64
  | 0 => 0
  | i + 1 => jSum Z i + Z i
theorem jVN {s am g : Nat} (h0 : s < 240) (h1 : am ≤ 100000) (h2 : g ≤ 240) : jV (jN s am g) := ⟨h0, h1, h2, Nat.le_refl 100, Nat.zero_le 1, Nat.zero_le 200, Nat.zero_le 10000000, Nat.zero_le 100, Nat.le_refl 240, Nat.le_refl 240⟩
theorem j_focus0 {X : va_W} {blk : Nat → va_W} {n k : Nat} (hk : k < n) : (X ++ blk k).Sublist (X ++ jBl blk n) := (List.Sublist.refl X).append (jBl_sub hk)
/-- behind a call on a part of X and block k -/
theorem j_backm {A : Nat → Prop} {D : va_G} {cl : List vw_C} {X F F' wc w1 : va_W} {blk blk' : Nat → va_W} {n k : Nat} {H H1 : Heap} (hk : k < n) (hP : va_P D cl (X ++ jBl blk n) H) (hD : va_D A (X ++ jBl blk n)) (hF : F = X ++ blk k)
    (is ir : List Nat) (hC : is.map (fun i => F[i]?) = wc.map some) (hN : is.map (fun i => F'[i]?) = w1.map some) (ads : List Nat) (ha1 : F.map (·.1) = ads) (ha2 : F'.map (·.1) = ads) (wr : va_W) (hR1 : ir.map (fun i => F[i]?) = wr.map some) (hR2 : ir.map (fun i => F'[i]?) = wr.map some) (hcov : ∀ i, i < F'.length → i ∈ is ∨ i ∈ ir)
    (hkk : ∀ q : Nat, q < H.size → ¬ jA wc q → H1[q]? = H[q]?) (hP1 : va_P D cl w1 H1) (hF' : F' = X ++ blk' k) (hb : ∀ j, j ≠ k → blk' j = blk j) : va_P D cl (X ++ jBl blk' n) H1 ∧ va_D A (X ++ jBl blk' n) := by
  have hPf : va_P D cl F H := by rw [hF]; exact j_subP hP (j_focus0 hk)
  have hDf : va_D A F := by rw [hF]; exact j_subD hD (j_focus0 hk)
  obtain ⟨g1, -⟩ := j_merge hPf hDf is ir hC hN (ha1.trans ha2.symm) (hR2.trans hR1.symm) hcov hkk hP1
  have hk2 : ∀ q : Nat, q < H.size → ¬ jA F q → H1[q]? = H[q]? := fun q h1 h2 => hkk q h1 (fun h3 => h2 (jA_sub hDf.jA is hC q h3))
  have ha : F.map (·.1) = F'.map (·.1) := ha1.trans ha2.symm
  have e := j_back (X := X) (X' := X) (Zc := []) (Zc' := []) (Zr := []) (blk := blk) (blk' := blk') (n := n) (k := k) (H := H) (H1 := H1) hk (by simpa using hP) (by simpa using hD) rfl (by
    rw [hF, hF', List.map_append, List.map_append] at ha
    exact List.append_cancel_left ha) rfl (fun j _ h => hb j h) (by rw [hF] at hk2; simpa using hk2) (by rw [hF'] at g1; simpa using g1)
  simpa using e
abbrev jbi (cI cJ : ClassId) (aa an : Nat → Nat → Nat) (iv iv2 : Nat → Int32) (kp : Nat → Int64) (py : Nat → Nat → Int64) (i : Nat) : Nat → va_W := fun k => jAW cI cJ (aa k) (an k) (if k < i then iv2 else iv) (kp k) (py k)
theorem jbi_a (cI cJ : ClassId) (aa an : Nat → Nat → Nat) (iv iv2 : Nat → Int32) (kp : Nat → Int64) (py : Nat → Nat → Int64) {i k : Nat} (h : i ≤ k) : jbi cI cJ aa an iv iv2 kp py i k = jbk cI cJ aa an iv kp py k := by
  show jAW cI cJ (aa k) (an k) (if k < i then iv2 else iv) (kp k) (py k) = _
  rw [if_neg (by omega)]
theorem jbi_b (cI cJ : ClassId) (aa an : Nat → Nat → Nat) (iv iv2 : Nat → Int32) (kp : Nat → Int64) (py : Nat → Nat → Int64) {i k : Nat} (h : k < i) : jbi cI cJ aa an iv iv2 kp py i k = jbk cI cJ aa an iv2 kp py k := by
  show jAW cI cJ (aa k) (an k) (if k < i then iv2 else iv) (kp k) (py k) = _
  rw [if_pos h]
theorem jbi_n (cI cJ : ClassId) (aa an : Nat → Nat → Nat) (iv iv2 : Nat → Int32) (kp : Nat → Int64) (py : Nat → Nat → Int64) {i k : Nat} (h : k ≠ i) : jbi cI cJ aa an iv iv2 kp py (i + 1) k = jbi cI cJ aa an iv iv2 kp py i k := by
  by_cases h1 : k < i
  · rw [jbi_b _ _ _ _ _ _ _ _ h1, jbi_b _ _ _ _ _ _ _ _ (by omega)]
  · rw [jbi_a _ _ _ _ _ _ _ _ (by omega), jbi_a _ _ _ _ _ _ _ _ (by omega)]
/-- what an annuity is paid when month mo is run -/
def jZ (an : Nat → Nat → Nat) (iv : Nat → Int32) (mo : Nat) (kp : Nat → Int64) (j : Nat) : Int64 := jmx (lN (jU (an j) iv (mo + 1)) - kp j)
def jki (kp Z : Nat → Int64) (i : Nat) : Nat → Int64 := fun j => if j < i then kp j + Z j else kp j
def jpi (py : Nat → Nat → Int64) (Z : Nat → Int64) (mo i : Nat) : Nat → Nat → Int64 := fun j => if j < i then vp_updL (py j) mo (Z j) else py j
theorem jki_a (kp Z : Nat → Int64) {i j : Nat} (h : i ≤ j) : jki kp Z i j = kp j := if_neg (by omega)
theorem jki_b (kp Z : Nat → Int64) {i j : Nat} (h : j < i) : jki kp Z i j = kp j + Z j := if_pos h
theorem jki_n (kp Z : Nat → Int64) {i j : Nat} (h : j ≠ i) : jki kp Z (i + 1) j = jki kp Z i j := by
  by_cases h1 : j < i
  · rw [jki_b _ _ h1, jki_b _ _ (by omega)]
  · rw [jki_a _ _ (by omega), jki_a _ _ (by omega)]
theorem jpi_a (py : Nat → Nat → Int64) (Z : Nat → Int64) (mo : Nat) {i j : Nat} (h : i ≤ j) : jpi py Z mo i j = py j := if_neg (by omega)
theorem jpi_b (py : Nat → Nat → Int64) (Z : Nat → Int64) (mo : Nat) {i j : Nat} (h : j < i) : jpi py Z mo i j = vp_updL (py j) mo (Z j) := if_pos h
theorem jpi_n (py : Nat → Nat → Int64) (Z : Nat → Int64) (mo : Nat) {i j : Nat} (h : j ≠ i) : jpi py Z mo (i + 1) j = jpi py Z mo i j := by
  by_cases h1 : j < i
  · rw [jpi_b _ _ _ h1, jpi_b _ _ _ (by omega)]
  · rw [jpi_a _ _ _ (by omega), jpi_a _ _ _ (by omega)]
theorem jbk_adr (cI cJ : ClassId) (aa an : Nat → Nat → Nat) (iv : Nat → Int32) (kp : Nat → Int64) (py : Nat → Nat → Int64) (k : Nat) : (jbk cI cJ aa an iv kp py k).map (·.1) = [aa k 0, aa k 1, aa k 2, aa k 3, aa k 4] := rfl
/-- behind a call on the left part, or on the right part -/
theorem j_left {A : Nat → Prop} {D : va_G} {cl : List vw_C} {a a' b : va_W} {H H1 : Heap} (hP : va_P D cl (a ++ b) H) (hD : va_D A (a ++ b)) (ha : a.map (·.1) = a'.map (·.1)) (hk : ∀ q : Nat, q < H.size → ¬ jA a q → H1[q]? = H[q]?) (hP1 : va_P D cl a' H1) : va_P D cl (a' ++ b) H1 ∧ va_D A (a' ++ b) :=
  j_wu hP hD (by rw [List.map_append, List.map_append, ha]) hk hP1 (fun q hq => (List.mem_append.mp hq).elim Or.inl (fun h => Or.inr ⟨List.mem_append_right _ h, fun z hz => j_apart hD z hz q h⟩))
theorem j_right {A : Nat → Prop} {D : va_G} {cl : List vw_C} {a b b' : va_W} {H H1 : Heap} (hP : va_P D cl (a ++ b) H) (hD : va_D A (a ++ b)) (hb : b.map (·.1) = b'.map (·.1)) (hk : ∀ q : Nat, q < H.size → ¬ jA b q → H1[q]? = H[q]?) (hP1 : va_P D cl b' H1) : va_P D cl (a ++ b') H1 ∧ va_D A (a ++ b') :=
  j_wu hP hD (by rw [List.map_append, List.map_append, hb]) hk hP1 (fun q hq => (List.mem_append.mp hq).elim (fun h => Or.inr ⟨List.mem_append_left _ h, fun z hz => fun e => j_apart hD q h z hz e.symm⟩) Or.inl)
theorem jW_V0 {s : State} {H : Heap} {D : va_G} {tys : List (ClassId × FieldType)} {ws : va_W} {A : Nat → Prop} {C : String} {b ci q0 : Nat} {r : vw_C} {fs As : List Value} (hK : va_K D vwCl tys s) (hP : va_P D vwCl ws H) (hD : va_D A ws) (hc : vwCl[ci]? = some r) (he : ws[q0]? = some (b, .inr (ci, fs))) (hn : r.1 = C) : PreV s H C b (va_Pc (.ref b :: As) (jW D tys ws)) As :=
  ⟨jW_bl, by rw [← hn]; exact va_recv hK hP hc he, fun U hU hW => ⟨rfl, by rw [hU]; exact hP, va_K.moved hW.alike hK, hD.weaken (fun _ _ _ _ => trivial)⟩⟩
theorem jW_S0 {s : State} {H : Heap} {D : va_G} {tys : List (ClassId × FieldType)} {ws : va_W} {A : Nat → Prop} {As : List Value} (hK : va_K D vwCl tys s) (hP : va_P D vwCl ws H) (hD : va_D A ws) : PreS s H (va_Pc As (jW D tys ws)) As :=
  ⟨jW_bl, fun U hU hW => ⟨rfl, by rw [hU]; exact hP, va_K.moved hW.alike hK, hD.weaken (fun _ _ _ _ => trivial)⟩⟩
