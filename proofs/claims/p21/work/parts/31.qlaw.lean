/-! the law: its world, what holds of it -/
abbrev qA (cI : ClassId) (a : Nat) (f : Nat → Int32) : Nat × va_E := (a, .inl (cI, 20, .inl (f)))
abbrev qX (cI cO : ClassId) (ai : Nat → Nat) (f0 f1 f2 f3 : Nat → Int32) (ax : Nat → Nat) (ao : Nat → Option Nat) (n mo : Nat) (iv : Nat → Int32) : va_W := [qA cI (ai 0) f0, qA cI (ai 1) f1, qA cI (ai 2) f2, qA cI (ai 3) f3, jXo ax n mo, jXa cO ax ao, jXi cI ax iv]
abbrev qW (cI cJ cO : ClassId) (ai : Nat → Nat) (f0 f1 f2 f3 : Nat → Int32) (ax : Nat → Nat) (n mo : Nat) (iv : Nat → Int32) (aa an : Nat → Nat → Nat) (kp : Nat → Int64) (py : Nat → Nat → Int64) : va_W := qX cI cO ai f0 f1 f2 f3 ax (jao aa n) n mo iv ++ jBl (jbk cI cJ aa an iv kp py) n
theorem q_perm {D : va_G} {cl : List vw_C} {A : Nat → Prop} {ws wn : va_W} {H : Heap} (hP : va_P D cl ws H) (hD : va_D A ws) (h : List.Perm wn ws) : va_P D cl wn H ∧ va_D A wn := by
  refine ⟨fun k q hk => ?_, j_ofnd ?_ ?_⟩
  · obtain ⟨j, hj⟩ := List.getElem?_of_mem (h.mem_iff.mp (List.mem_of_getElem? hk))
    exact hP j q hj
  · exact ((h.map (·.1)).nodup_iff).mpr (j_nd hD)
  · intro q hq
    obtain ⟨j, hj⟩ := List.getElem?_of_mem (h.mem_iff.mp hq)
    exact hD.2 j q hj
section QW
variable {A : Nat → Prop} {D : va_G} {cI cJ cO : ClassId} {ai ax : Nat → Nat} {f0 f1 f2 f3 : Nat → Int32} {n mo : Nat} {iv : Nat → Int32} {aa an : Nat → Nat → Nat} {kp : Nat → Int64} {py : Nat → Nat → Int64} {H H1 : Heap} {k : Nat}
theorem q_sF (hk : k < n) : (jFW cI cJ cO ax (jao aa n) n mo iv (aa k) (an k) (kp k) (py k)).Sublist (qW cI cJ cO ai f0 f1 f2 f3 ax n mo iv aa an kp py) :=
  List.Sublist.cons _ (List.Sublist.cons _ (List.Sublist.cons _ (List.Sublist.cons _ (j_focus0 (X := jX3 cI cO ax (jao aa n) n mo iv) (blk := jbk cI cJ aa an iv kp py) hk))))
theorem q_sG (hk : k < n) : (qA cI (ai 0) f0 :: jFW cI cJ cO ax (jao aa n) n mo iv (aa k) (an k) (kp k) (py k)).Sublist (qW cI cJ cO ai f0 f1 f2 f3 ax n mo iv aa an kp py) :=
  List.Sublist.cons₂ _ (List.Sublist.cons _ (List.Sublist.cons _ (List.Sublist.cons _ (j_focus0 (X := jX3 cI cO ax (jao aa n) n mo iv) (blk := jbk cI cJ aa an iv kp py) hk))))
theorem q_sD : (jX3 cI cO ax (jao aa n) n mo iv ++ jBl (jbk cI cJ aa an iv kp py) n).Sublist (qW cI cJ cO ai f0 f1 f2 f3 ax n mo iv aa an kp py) :=
  List.Sublist.cons _ (List.Sublist.cons _ (List.Sublist.cons _ (List.Sublist.cons _ (List.Sublist.refl _))))
theorem q_sX : (jX3 cI cO ax (jao aa n) n mo iv).Sublist (qW cI cJ cO ai f0 f1 f2 f3 ax n mo iv aa an kp py) :=
  (List.sublist_append_left (jX3 cI cO ax (jao aa n) n mo iv) _).trans q_sD
theorem q_s2 : [jXo ax n mo, jXa cO ax (jao aa n)].Sublist (qW cI cJ cO ai f0 f1 f2 f3 ax n mo iv aa an kp py) :=
  (List.Sublist.cons₂ _ (List.Sublist.cons₂ _ (List.nil_sublist _))).trans q_sX
/-- behind a call on block k -/
theorem q_put {an2 : Nat → Nat} {x : Int64} (hk : k < n) (hP : va_P D vwCl (qW cI cJ cO ai f0 f1 f2 f3 ax n mo iv aa an kp py) H) (hD : va_D A (qW cI cJ cO ai f0 f1 f2 f3 ax n mo iv aa an kp py))
    (hkk : ∀ q : Nat, q < H.size → ¬ jA (jFW cI cJ cO ax (jao aa n) n mo iv (aa k) (an k) (kp k) (py k)) q → H1[q]? = H[q]?) (hP1 : va_P D vwCl (jFW cI cJ cO ax (jao aa n) n mo iv (aa k) an2 x (py k)) H1) : va_P D vwCl (qW cI cJ cO ai f0 f1 f2 f3 ax n mo iv aa (jSet an k an2) (jSet kp k x) py) H1 ∧ va_D A (qW cI cJ cO ai f0 f1 f2 f3 ax n mo iv aa (jSet an k an2) (jSet kp k x) py) :=
  j_backm (X := qX cI cO ai f0 f1 f2 f3 ax (jao aa n) n mo iv) (F := qX cI cO ai f0 f1 f2 f3 ax (jao aa n) n mo iv ++ jAW cI cJ (aa k) (an k) iv (kp k) (py k)) (F' := qX cI cO ai f0 f1 f2 f3 ax (jao aa n) n mo iv ++ jAW cI cJ (aa k) an2 iv x (py k)) (blk := jbk cI cJ aa an iv kp py) (blk' := jbk cI cJ aa (jSet an k an2) iv (jSet kp k x) py) hk hP hD rfl [4, 5, 6, 7, 8, 9, 10, 11] [0, 1, 2, 3] rfl rfl [ai 0, ai 1, ai 2, ai 3, ax 0, ax 1, ax 2, aa k 0, aa k 1, aa k 2, aa k 3, aa k 4] rfl rfl [qA cI (ai 0) f0, qA cI (ai 1) f1, qA cI (ai 2) f2, qA cI (ai 3) f3] rfl rfl (fun j hj => j_cov _ _ 12 (by decide) j hj) hkk hP1 (by
    show _ = qX cI cO ai f0 f1 f2 f3 ax (jao aa n) n mo iv ++ jAW cI cJ (aa k) (jSet an k an2 k) iv (jSet kp k x k) (py k)
    rw [jSet_s, jSet_s]) (fun j hj => by
    show jAW cI cJ (aa j) (jSet an k an2 j) iv (jSet kp k x j) (py j) = jAW cI cJ (aa j) (an j) iv (kp j) (py j)
    rw [jSet_n _ _ hj, jSet_n _ _ hj])
theorem jSet_id {α : Type} (f : Nat → α) (k : Nat) : jSet f k (f k) = f := by
  funext j
  by_cases h : j = k
  · subst h; rw [jSet_s]
  · rw [jSet_n _ _ h]
theorem q_putA {an2 : Nat → Nat} (hk : k < n) (hP : va_P D vwCl (qW cI cJ cO ai f0 f1 f2 f3 ax n mo iv aa an kp py) H) (hD : va_D A (qW cI cJ cO ai f0 f1 f2 f3 ax n mo iv aa an kp py))
    (hkk : ∀ q : Nat, q < H.size → ¬ jA (jFW cI cJ cO ax (jao aa n) n mo iv (aa k) (an k) (kp k) (py k)) q → H1[q]? = H[q]?) (hP1 : va_P D vwCl (jFW cI cJ cO ax (jao aa n) n mo iv (aa k) an2 (kp k) (py k)) H1) : va_P D vwCl (qW cI cJ cO ai f0 f1 f2 f3 ax n mo iv aa (jSet an k an2) kp py) H1 ∧ va_D A (qW cI cJ cO ai f0 f1 f2 f3 ax n mo iv aa (jSet an k an2) kp py) := by
  have h := q_put (ai := ai) (f0 := f0) (f1 := f1) (f2 := f2) (f3 := f3) hk hP hD hkk hP1
  rw [jSet_id] at h
  exact h
theorem q_putK {x : Int64} (hk : k < n) (hP : va_P D vwCl (qW cI cJ cO ai f0 f1 f2 f3 ax n mo iv aa an kp py) H) (hD : va_D A (qW cI cJ cO ai f0 f1 f2 f3 ax n mo iv aa an kp py))
    (hkk : ∀ q : Nat, q < H.size → ¬ jA (jFW cI cJ cO ax (jao aa n) n mo iv (aa k) (an k) (kp k) (py k)) q → H1[q]? = H[q]?) (hP1 : va_P D vwCl (jFW cI cJ cO ax (jao aa n) n mo iv (aa k) (an k) x (py k)) H1) : va_P D vwCl (qW cI cJ cO ai f0 f1 f2 f3 ax n mo iv aa an (jSet kp k x) py) H1 ∧ va_D A (qW cI cJ cO ai f0 f1 f2 f3 ax n mo iv aa an (jSet kp k x) py) := by
  have h := q_put (ai := ai) (f0 := f0) (f1 := f1) (f2 := f2) (f3 := f3) hk hP hD hkk hP1
  rw [jSet_id] at h
  exact h
/-- behind a call on the desk as a whole -/
theorem q_putD {mo2 : Nat} {iv2 : Nat → Int32} {kp2 : Nat → Int64} {py2 : Nat → Nat → Int64} (hP : va_P D vwCl (qW cI cJ cO ai f0 f1 f2 f3 ax n mo iv aa an kp py) H) (hD : va_D A (qW cI cJ cO ai f0 f1 f2 f3 ax n mo iv aa an kp py))
    (hkk : ∀ q : Nat, q < H.size → ¬ jA (jX3 cI cO ax (jao aa n) n mo iv ++ jBl (jbk cI cJ aa an iv kp py) n) q → H1[q]? = H[q]?) (hP1 : va_P D vwCl (jX3 cI cO ax (jao aa n) n mo2 iv2 ++ jBl (jbk cI cJ aa an iv2 kp2 py2) n) H1) : va_P D vwCl (qW cI cJ cO ai f0 f1 f2 f3 ax n mo2 iv2 aa an kp2 py2) H1 ∧ va_D A (qW cI cJ cO ai f0 f1 f2 f3 ax n mo2 iv2 aa an kp2 py2) :=
  j_right (a := [qA cI (ai 0) f0, qA cI (ai 1) f1, qA cI (ai 2) f2, qA cI (ai 3) f3]) (b := jX3 cI cO ax (jao aa n) n mo iv ++ jBl (jbk cI cJ aa an iv kp py) n) (b' := jX3 cI cO ax (jao aa n) n mo2 iv2 ++ jBl (jbk cI cJ aa an iv2 kp2 py2) n) hP hD (by
    rw [List.map_append, List.map_append, jBl_adr (fun k _ => (jbk_adr cI cJ aa an iv kp py k).trans (jbk_adr cI cJ aa an iv2 kp2 py2 k).symm)]
    rfl) hkk hP1
end QW
