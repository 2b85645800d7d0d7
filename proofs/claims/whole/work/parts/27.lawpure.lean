/-! both sides give the same numbers -/
theorem jU_inc (an : Nat → Nat) (iv : Nat → Int32) (v : Nat) : jU an iv (v + 1) = jU an iv v + ((if v < an 0 then 0 else jS an iv v) + (if v = jP an then jQ an iv else 0)) := by
  have h : jT an iv (v + 1) = jT an iv v + (if an 0 ≤ v then jS an iv v else 0) := rfl
  unfold jU
  rw [h]
  generalize jT an iv v = t
  generalize jS an iv v = x
  generalize jQ an iv = y
  generalize jP an = z
  by_cases h1 : v < an 0
  · rw [if_pos h1, if_neg (by omega)]
    rcases Nat.lt_trichotomy v z with h2 | h2 | h2
    · rw [if_neg (by omega), if_neg (by omega), if_neg (by omega)] <;> omega
    · rw [if_pos (by omega), if_neg (by omega), if_pos h2] <;> omega
    · rw [if_pos (by omega), if_pos (by omega), if_neg (by omega)] <;> omega
  · rw [if_neg h1, if_pos (by omega)]
    rcases Nat.lt_trichotomy v z with h2 | h2 | h2
    · rw [if_neg (by omega), if_neg (by omega), if_neg (by omega)] <;> omega
    · rw [if_pos (by omega), if_neg (by omega), if_pos h2] <;> omega
    · rw [if_pos (by omega), if_pos (by omega), if_neg (by omega)] <;> omega
theorem jq_entitled (an : Nat → Nat) (iv : Nat → Int32) (v : Nat) : lN ((if v < an 0 then 0 else jS an iv v) + (if v = jP an then jQ an iv else 0)) = lN (jU an iv (v + 1)) - lN (jU an iv v) := by
  rw [jU_inc an iv v, lN_sub (Nat.le_add_right _ _), Nat.add_sub_cancel_left]
theorem jl_1 (x y z : Int64) : x - (y - z) = x - y + z := by
  simp only [Int64.sub_eq_add_neg, Int64.neg_add, Int64.neg_neg]
  ac_rfl
theorem jl_2 (x y z : Int64) : x - y + z = x + z - y := by
  simp only [Int64.sub_eq_add_neg]
  ac_rfl
theorem jl_3 (x y z : Int64) : x - (y + z) = x - y - z := by
  simp only [Int64.sub_eq_add_neg, Int64.neg_add]
  ac_rfl
theorem jl_4 (x y z : Int64) : x - y - z = x - z - y := by
  simp only [Int64.sub_eq_add_neg]
  ac_rfl
theorem jq_give {z : Int64} {v : Nat} (h1 : 1 ≤ v) (h2 : v ≤ 100000000) (ho : ¬ jmx z < lN v) : jmx (z - lN v) = jmx z - lN v := by
  have hv : (lN v).toInt = (v : Int) := lN_toInt (by omega)
  have hz : jmx z = z := by
    unfold jmx at ho ⊢
    by_cases h : z < 0
    · rw [if_pos h] at ho
      exact absurd (by rw [Int64.lt_iff_toInt_lt, hv]; show (0 : Int) < v; omega) ho
    · rw [if_neg h]
  rw [hz] at ho ⊢
  have h3 : lN v ≤ z := Int64.not_lt.mp ho
  have h4 : (z - lN v).toInt = z.toInt - (lN v).toInt := Int64.toInt_sub_of_le z (lN v) (by rw [Int64.le_iff_toInt_le, hv]; show (0 : Int) ≤ v; omega) h3
  have h5 := Int64.le_iff_toInt_le.mp h3
  unfold jmx
  rw [if_neg]
  intro h
  rw [Int64.lt_iff_toInt_lt, h4, show (0 : Int64).toInt = 0 from rfl] at h
  omega
/-- numbers in range, one of them set -/
theorem jVu {an : Nat → Nat} (hv : jV an) {i v : Nat} (h : match i with | 0 => v < 240 | 1 => v ≤ 100000 | 2 => v ≤ 240 | 3 => v ≤ 100 | 4 => v ≤ 1 | 5 => v ≤ 200 | 6 => v ≤ 10000000 | 7 => v ≤ 100 | 8 => v ≤ 240 | 9 => v ≤ 240 | _ => True) : jV (upN an i v) := by
  obtain ⟨a0, a1, a2, a3, a4, a5, a6, a7, a8, a9⟩ := hv
  match i, h with
  | 0, h => exact ⟨h, a1, a2, a3, a4, a5, a6, a7, a8, a9⟩
  | 1, h => exact ⟨a0, h, a2, a3, a4, a5, a6, a7, a8, a9⟩
  | 2, h => exact ⟨a0, a1, h, a3, a4, a5, a6, a7, a8, a9⟩
  | 3, h => exact ⟨a0, a1, a2, h, a4, a5, a6, a7, a8, a9⟩
  | 4, h => exact ⟨a0, a1, a2, a3, h, a5, a6, a7, a8, a9⟩
  | 5, h => exact ⟨a0, a1, a2, a3, a4, h, a6, a7, a8, a9⟩
  | 6, h => exact ⟨a0, a1, a2, a3, a4, a5, h, a7, a8, a9⟩
  | 7, h => exact ⟨a0, a1, a2, a3, a4, a5, a6, h, a8, a9⟩
  | 8, h => exact ⟨a0, a1, a2, a3, a4, a5, a6, a7, h, a9⟩
  | 9, h => exact ⟨a0, a1, a2, a3, a4, a5, a6, a7, a8, h⟩
  | _ + 10, _ => exact ⟨a0, a1, a2, a3, a4, a5, a6, a7, a8, a9⟩
/-- what holds of both sides between two rounds -/
def jInv (n mo : Nat) (an : Nat → Nat → Nat) (kp T B : Nat → Int64) (py : Nat → Nat → Int64) : Prop :=
  n ≤ 20 ∧ mo ≤ 240 ∧ (∀ k, k < n → jV (an k)) ∧ (∀ k, k < n → kp k = T k - B k) ∧ ∀ k, n ≤ k → (an k 4 = 0 ∧ an k 5 = 0 ∧ an k 6 = 0 ∧ an k 7 = 0) ∧ T k = 0 ∧ B k = 0 ∧ py k = fun _ => 0
section JI
variable {n mo : Nat} {an : Nat → Nat → Nat} {kp T B : Nat → Int64} {py : Nat → Nat → Int64}
theorem jInv_A {k : Nat} {an2 : Nat → Nat} (h : jInv n mo an kp T B py) (hk : k < n) (hv : jV an2) : jInv n mo (jSet an k an2) kp T B py := by
  obtain ⟨h1, h2, h3, h4, h5⟩ := h
  refine ⟨h1, h2, fun j hj => ?_, h4, fun j hj => ?_⟩
  · by_cases e : j = k
    · subst e; rw [jSet_s]; exact hv
    · rw [jSet_n _ _ e]; exact h3 j hj
  · rw [jSet_n _ _ (show j ≠ k by omega)]; exact h5 j hj
theorem jInv_K {k : Nat} {x : Int64} (h : jInv n mo an kp T B py) (hk : k < n) : jInv n mo an (jSet kp k (kp k - x)) T (vp_updL B k (B k + x)) py := by
  obtain ⟨h1, h2, h3, h4, h5⟩ := h
  refine ⟨h1, h2, h3, fun j hj => ?_, fun j hj => ?_⟩
  · by_cases e : j = k
    · subst e; rw [jSet_s, pk_uLs, h4 j hj, jl_3]
    · rw [jSet_n _ _ e, pk_uLn e]; exact h4 j hj
  · rw [pk_uLn (show j ≠ k by omega)]; exact h5 j hj
theorem jq_Z {iv : Nat → Int32} (h : jInv n mo an kp T B py) {k : Nat} (hk : k < n) : jZ an iv mo kp k = jZm an iv mo T B k := by
  show jmx _ = jmx _
  rw [h.2.2.2.1 k hk, jl_1]
theorem jq_sum {Z Z2 : Nat → Int64} {n : Nat} (h : ∀ k, k < n → Z k = Z2 k) : jSum Z n = jSum Z2 n := by
  induction n with
  | zero => rfl
  | succ n ih =>
    show jSum Z n + Z n = jSum Z2 n + Z2 n
    rw [ih (fun k hk => h k (by omega)), h n (by omega)]
theorem jInv_R {iv : Nat → Int32} (h : jInv n mo an kp T B py) (hm : mo < 240) : jInv n (mo + 1) an (fun j => kp j + jZ an iv mo kp j) (jki T (jZm an iv mo T B) n) B (jpi py (jZm an iv mo T B) mo n) := by
  obtain ⟨h1, h2, h3, h4, h5⟩ := h
  refine ⟨h1, hm, h3, fun j hj => ?_, fun j hj => ?_⟩
  · show kp j + jZ an iv mo kp j = _
    rw [jki_b _ _ hj, jq_Z ⟨h1, h2, h3, h4, h5⟩ hj, h4 j hj, jl_2]
  · rw [jki_a _ _ hj, jpi_a _ _ _ hj]; exact h5 j hj
theorem jInv_N {sa ma ga : Nat} (h : jInv n mo an kp T B py) (hn : n < 20) (h0 : sa < 240) (h1 : ma ≤ 100000) (h2 : ga ≤ 240) : jInv (n + 1) mo (jSet an n (jN sa ma ga)) (jSet kp n 0) T B py := by
  obtain ⟨g1, g2, g3, g4, g5⟩ := h
  refine ⟨hn, g2, fun j hj => ?_, fun j hj => ?_, fun j hj => ?_⟩
  · by_cases e : j = n
    · subst e; rw [jSet_s]; exact jVN h0 h1 h2
    · rw [jSet_n _ _ e]; exact g3 j (by omega)
  · by_cases e : j = n
    · subst e
      obtain ⟨-, q1, q2, -⟩ := g5 j (Nat.le_refl _)
      rw [jSet_s, q1, q2]; rfl
    · rw [jSet_n _ _ e]; exact g4 j (by omega)
  · rw [jSet_n _ _ (show j ≠ n by omega)]; exact g5 j (by omega)
end JI
