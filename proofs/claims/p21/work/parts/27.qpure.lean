/-! the pure side of what the law asks -/
theorem jU_inc (an : Nat → Nat) (iv : Nat → Int32) (v : Nat) : jU an iv (v + 1) = jU an iv v + ((if v < an 0 then 0 else jS an iv v) + (if v = jP an then jQ an iv else 0)) := by
  have h : jT an iv (v + 1) = jT an iv v + (if an 0 ≤ v then jS an iv v else 0) := rfl
  unfold jU
  rw [h]
  generalize jT an iv v = t
  generalize jS an iv v = x
  generalize jQ an iv = y
  generalize jP an = z
  by_cases h1 : v < an 0
  · rw [if_pos h1, if_neg (by omega)]
    rcases Nat.lt_trichotomy v z with h2 | h2 | h2
    · rw [if_neg (by omega), if_neg (by omega), if_neg (by omega)] <;> omega
    · rw [if_pos (by omega), if_neg (by omega), if_pos h2] <;> omega
    · rw [if_pos (by omega), if_pos (by omega), if_neg (by omega)] <;> omega
  · rw [if_neg h1, if_pos (by omega)]
    rcases Nat.lt_trichotomy v z with h2 | h2 | h2
    · rw [if_neg (by omega), if_neg (by omega), if_neg (by omega)] <;> omega
    · rw [if_pos (by omega), if_neg (by omega), if_pos h2] <;> omega
    · rw [if_pos (by omega), if_pos (by omega), if_neg (by omega)] <;> omega
theorem jl_2 (x y z : Int64) : x - y + z = x + z - y := by
  simp only [Int64.sub_eq_add_neg]
  ac_rfl
theorem jl_3 (x y z : Int64) : x - (y + z) = x - y - z := by
  simp only [Int64.sub_eq_add_neg, Int64.neg_add]
  ac_rfl
theorem jVu {an : Nat → Nat} (hv : jV an) {i v : Nat} (h : match i with | 0 => v < 240 | 1 => v ≤ 100000 | 2 => v ≤ 240 | 3 => v ≤ 100 | 4 => v ≤ 1 | 5 => v ≤ 200 | 6 => v ≤ 10000000 | 7 => v ≤ 100 | 8 => v ≤ 240 | 9 => v ≤ 240 | _ => True) : jV (upN an i v) := by
  obtain ⟨a0, a1, a2, a3, a4, a5, a6, a7, a8, a9⟩ := hv
  match i, h with
  | 0, h => exact ⟨h, a1, a2, a3, a4, a5, a6, a7, a8, a9⟩
  | 1, h => exact ⟨a0, h, a2, a3, a4, a5, a6, a7, a8, a9⟩
  | 2, h => exact ⟨a0, a1, h, a3, a4, a5, a6, a7, a8, a9⟩
  | 3, h => exact ⟨a0, a1, a2, h, a4, a5, a6, a7, a8, a9⟩
  | 4, h => exact ⟨a0, a1, a2, a3, h, a5, a6, a7, a8, a9⟩
  | 5, h => exact ⟨a0, a1, a2, a3, a4, h, a6, a7, a8, a9⟩
  | 6, h => exact ⟨a0, a1, a2, a3, a4, a5, h, a7, a8, a9⟩
  | 7, h => exact ⟨a0, a1, a2, a3, a4, a5, a6, h, a8, a9⟩
  | 8, h => exact ⟨a0, a1, a2, a3, a4, a5, a6, a7, h, a9⟩
  | 9, h => exact ⟨a0, a1, a2, a3, a4, a5, a6, a7, a8, h⟩
  | _ + 10, _ => exact ⟨a0, a1, a2, a3, a4, a5, a6, a7, a8, a9⟩
theorem jcmp0 (x : Int64) : lg_cmp x x = 0 := by
  unfold lg_cmp
  rw [if_neg (Int64.lt_irrefl), if_pos rfl]
/-- compared longs that are small -/
theorem q_nlt {a b : Nat} (h : b ≤ a) (ha : a < 2 ^ 31) : ¬ lg_cmp (lN a) (lN b) < 0 := by
  rw [lg_cmp_lt, lN_lt ha (by omega)]
  omega
theorem q_ngt {a b : Nat} (h : a ≤ b) (hb : b < 2 ^ 31) : ¬ 0 < lg_cmp (lN a) (lN b) := by
  rw [lg_cmp_gt, lN_lt hb (by omega)]
  omega
theorem q_neq {a b : Nat} (ha : a < 2 ^ 31) (hb : b < 2 ^ 31) : lg_cmp (lN a) (lN b) = 0 ↔ a = b := by
  rw [lg_cmp_eq, lN_eq ha hb]
/-- the increase, as the law finds it -/
theorem q_hi {w : Int32} {ca : Nat} (hc : ca < 2 ^ 31) (h : ¬ w ≤ nI ca) : nI ca = nI (jcl w ca) := by
  have h1 := Int32.not_le.mp h
  have h2 : ¬ w < 0 := fun h3 => by
    have h4 := nI_pos' hc
    rw [Int32.lt_iff_toInt_lt] at h1 h3
    rw [Int32.le_iff_toInt_le] at h4
    omega
  unfold jcl
  rw [if_neg h2, if_pos h1]
theorem q_lo {w : Int32} {ca : Nat} (h : ¬ 0 ≤ w) : nI 0 = nI (jcl w ca) := by
  unfold jcl
  rw [if_pos (Int32.not_le.mp h)]
theorem q_mid {w : Int32} {ca : Nat} (h1 : w ≤ nI ca) (h : 0 ≤ w) : w = nI (jcl w ca) := by
  unfold jcl
  rw [if_neg (Int32.not_lt.mpr h), if_neg (Int32.not_lt.mpr h1)]
  exact nI_toNat (Int32.not_lt.mpr h)
/-- the full amount and the carry, month by month -/
theorem q_F0 {an : Nat → Nat} {iv : Nat → Int32} {v : Nat} (h : v < an 0) : nI (if v < an 0 then 0 else jM an iv v) = nI 0 := by rw [if_pos h]
theorem q_F1 {an : Nat → Nat} {iv : Nat → Int32} {v : Nat} (h : an 0 ≤ v) : nI (if v < an 0 then 0 else jM an iv v) = nI (jM an iv v) := by rw [if_neg (by omega)]
theorem q_C0 {an : Nat → Nat} {iv : Nat → Int32} {v : Nat} (h : v < an 0) : (if v < an 0 then 0 else jC an iv ((v - an 0) / 12)) = nI 0 := by rw [if_pos h]; rfl
theorem q_C1 {an : Nat → Nat} {iv : Nat → Int32} {v : Nat} (h : an 0 ≤ v) : (if v < an 0 then 0 else jC an iv ((v - an 0) / 12)) = jC an iv ((v - an 0) / 12) := by rw [if_neg (by omega)]
theorem q_Ms (an : Nat → Nat) (iv : Nat → Int32) : jM an iv (an 0) = an 1 := by
  show jF an iv ((an 0 - an 0) / 12) = an 1
  rw [show (an 0 - an 0) / 12 = 0 by omega]
  rfl
theorem q_Cs (an : Nat → Nat) (iv : Nat → Int32) : jC an iv ((an 0 - an 0) / 12) = nI 0 := by
  rw [show (an 0 - an 0) / 12 = 0 by omega]
  rfl
theorem q_same {an : Nat → Nat} {v : Nat} (h : an 0 < v) (hg : ¬ (v - an 0) % 12 = 0) : (v - an 0) / 12 = (v - 1 - an 0) / 12 := by omega
theorem q_nextA {s v : Nat} (h : s < v) (hg : (v - s) % 12 = 0) : (v - s) / 12 = (v - 1 - s) / 12 + 1 := by omega
theorem q_nextY {s v : Nat} (h : s < v) (hg : (v - s) % 12 = 0) : v / 12 - 1 = s / 12 + (v - 1 - s) / 12 := by omega
theorem q_growM {an : Nat → Nat} {iv : Nat → Int32} {v : Nat} (h : an 0 < v) (hv : v < 240) (hg : (v - an 0) % 12 = 0) : jM an iv v = jM an iv (v - 1) + jM an iv (v - 1) * jcl (iv (v / 12 - 1) + jC an iv ((v - 1 - an 0) / 12)) (an 5) / 1000 := by
  show jF an iv ((v - an 0) / 12) = jF an iv ((v - 1 - an 0) / 12) + jF an iv ((v - 1 - an 0) / 12) * jcl (iv (v / 12 - 1) + jC an iv ((v - 1 - an 0) / 12)) (an 5) / 1000
  rw [q_nextA h hg, q_nextY h hg, jF_s an iv (by omega)]
theorem q_growC {an : Nat → Nat} {iv : Nat → Int32} {v : Nat} (h : an 0 < v) (hv : v < 240) (hg : (v - an 0) % 12 = 0) : jC an iv ((v - an 0) / 12) = jC an iv ((v - 1 - an 0) / 12) + iv (v / 12 - 1) - nI (jcl (iv (v / 12 - 1) + jC an iv ((v - 1 - an 0) / 12)) (an 5)) := by
  rw [q_nextA h hg, q_nextY h hg, jC_s an iv (by omega), Int32.add_comm (jC an iv ((v - 1 - an 0) / 12))]
theorem q_keepM {an : Nat → Nat} {iv : Nat → Int32} {v : Nat} (h : an 0 < v) (hg : ¬ (v - an 0) % 12 = 0) : jM an iv v = jM an iv (v - 1) := by
  show jF an iv ((v - an 0) / 12) = jF an iv ((v - 1 - an 0) / 12)
  rw [q_same h hg]
theorem q_prod {an : Nat → Nat} (hv : jV an) (iv : Nat → Int32) (w : Int32) {k : Nat} (hk : k < 240) : jM an iv k * jcl w (an 5) ≤ 640000000 :=
  Nat.mul_le_mul (jM_bd hv iv hk) (Nat.le_trans (jcl_le w (by have := hv.2.2.2.2.2.1; omega)) hv.2.2.2.2.2.1)
/-- a month's share is nothing, a part or all -/
theorem q_S3 {an : Nat → Nat} (iv : Nat → Int32) (k : Nat) : jS an iv k = 0 ∨ jS an iv k = jM an iv k ∨ jS an iv k = jM an iv k * an 3 / 100 := by
  unfold jS
  split
  · exact Or.inr (Or.inl rfl)
  · split
    · split
      · exact Or.inr (Or.inl rfl)
      · split
        · exact Or.inr (Or.inl rfl)
        · exact Or.inr (Or.inr rfl)
    · split
      · exact Or.inr (Or.inr rfl)
      · exact Or.inl rfl
def qD (an : Nat → Nat) (iv : Nat → Int32) (v : Nat) : Nat := (if v < an 0 then 0 else jS an iv v) + (if v = jP an then jQ an iv else 0)
theorem qD_bd {an : Nat → Nat} (hv : jV an) (iv : Nat → Int32) {v : Nat} (h : v < 240) : qD an iv v ≤ 20000000 := by
  have h1 := jS_bd hv iv h
  have h2 := jQ_le hv iv
  unfold qD
  split <;> split <;> omega
theorem qD_0 {an : Nat → Nat} (hv : jV an) (iv : Nat → Int32) {v : Nat} (h : v < an 0) : qD an iv v = 0 := by
  have := jP_ge an hv.1
  unfold qD
  rw [if_pos h, if_neg (by omega)]
theorem qD_s (an : Nat → Nat) (iv : Nat → Int32) (v : Nat) : jU an iv v + qD an iv v = jU an iv (v + 1) := (jU_inc an iv v).symm
/-- what is neither is the protection's month -/
theorem q_other {an : Nat → Nat} (hv : jV an) (iv : Nat → Int32) {v : Nat} (hk : v < 240) (hs : an 0 ≤ v) (h0 : ¬ lg_cmp (lN (qD an iv v)) (lN 0) = 0) (h1 : ¬ lg_cmp (lN (qD an iv v)) (lN (jM an iv v)) = 0) (h2 : ¬ lg_cmp (lN (qD an iv v)) (lN (jM an iv v * an 3 / 100)) = 0) : v = jP an := by
  have hd := qD_bd hv iv hk
  have hm := jM_bd hv iv hk
  have hp := (jpct hm hv.2.2.2.1).2
  rw [q_neq (by omega) (by omega)] at h0 h1 h2
  by_cases h : v = jP an
  · exact h
  · refine absurd ?_ h0
    have e : qD an iv v = jS an iv v := by
      unfold qD
      rw [if_neg (by omega), if_neg h]
      rfl
    rw [e] at h1 h2 ⊢
    rcases q_S3 (an := an) iv v with h3 | h3 | h3
    · exact h3
    · exact absurd h3 h1
    · exact absurd h3 h2
theorem q_QU {an : Nat → Nat} (iv : Nat → Int32) : jQ an iv ≤ jU an iv 240 := by
  unfold jU
  by_cases h : jP an = 240
  · have : jQ an iv = 0 := by
      unfold jQ
      rw [if_pos h]
    omega
  · have := jP_le an
    rw [if_pos (by omega)]
    omega
theorem q_idx {v h9 : Nat} (hh : h9 = if 0 < v / 12 then 1 else 0) : nI (v / 12) - nI h9 = nI (v / 12 - 1) := by
  by_cases h : 0 < v / 12
  · rw [if_pos h] at hh
    rw [hh]
    exact pk_sub (by omega)
  · rw [if_neg h] at hh
    rw [hh, show v / 12 = 0 by omega]
    rfl
