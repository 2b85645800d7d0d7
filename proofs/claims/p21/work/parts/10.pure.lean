/-! the pure side: what an annuity is worth, in natural numbers. an : 0 start, 1 amount, 2 guarantee, 3 percent, 4 steps on first (1) or not (0), 5 cap, 6 price, 7 protected percent, 8 and 9 the deaths (240: not told) -/
def jcl (w : Int32) (ca : Nat) : Nat := if w < 0 then 0 else if nI ca < w then ca else w.toNatClampNeg
def jgr (am ca y : Nat) (iv : Nat → Int32) : Nat → Nat × Int32
  | 0 => (am, 0)
  | a + 1 => if y + a < 20 then ((jgr am ca y iv a).1 + (jgr am ca y iv a).1 * jcl (iv (y + a) + (jgr am ca y iv a).2) ca / 1000, iv (y + a) + (jgr am ca y iv a).2 - nI (jcl (iv (y + a) + (jgr am ca y iv a).2) ca)) else jgr am ca y iv a
def jF (an : Nat → Nat) (iv : Nat → Int32) (a : Nat) : Nat := (jgr (an 1) (an 5) (an 0 / 12) iv a).1
def jC (an : Nat → Nat) (iv : Nat → Int32) (a : Nat) : Int32 := (jgr (an 1) (an 5) (an 0 / 12) iv a).2
def jM (an : Nat → Nat) (iv : Nat → Int32) (k : Nat) : Nat := jF an iv ((k - an 0) / 12)
def jS (an : Nat → Nat) (iv : Nat → Int32) (k : Nat) : Nat :=
  if k < an 0 + an 2 then jM an iv k
  else if k ≤ an 8 then (if k ≤ an 9 then jM an iv k else if an 4 = 0 then jM an iv k else jM an iv k * an 3 / 100)
  else if k ≤ an 9 then jM an iv k * an 3 / 100 else 0
def jT (an : Nat → Nat) (iv : Nat → Int32) : Nat → Nat
  | 0 => 0
  | e + 1 => jT an iv e + (if an 0 ≤ e then jS an iv e else 0)
def jP (an : Nat → Nat) : Nat := if an 8 = 240 ∨ an 9 = 240 then 240 else min (max (max (an 8) (an 9) + 1) (an 0 + an 2)) 240
def jQ (an : Nat → Nat) (iv : Nat → Int32) : Nat := if jP an = 240 then 0 else an 6 * an 7 / 100 - jT an iv (jP an)
def jU (an : Nat → Nat) (iv : Nat → Int32) (e : Nat) : Nat := jT an iv e + (if jP an < e then jQ an iv else 0)
/-- an annuity's numbers are in range -/
def jV (an : Nat → Nat) : Prop := an 0 < 240 ∧ an 1 ≤ 100000 ∧ an 2 ≤ 240 ∧ an 3 ≤ 100 ∧ an 4 ≤ 1 ∧ an 5 ≤ 200 ∧ an 6 ≤ 10000000 ∧ an 7 ≤ 100 ∧ an 8 ≤ 240 ∧ an 9 ≤ 240
def jB : Nat → Nat
  | 0 => 100000
  | a + 1 => jB a + jB a * 200 / 1000
theorem jB_mono (a b : Nat) (h : a ≤ b) : jB a ≤ jB b := by
  induction b with
  | zero =>
    have : a = 0 := by omega
    subst this
    exact Nat.le_refl _
  | succ b ih =>
    by_cases h1 : a = b + 1
    · subst h1; exact Nat.le_refl _
    · have h2 := ih (by omega)
      show jB a ≤ jB b + jB b * 200 / 1000
      omega
theorem jB19 : jB 19 ≤ 3200000 := by decide +kernel
theorem nI_toNat {w : Int32} (h : ¬ w < 0) : w = nI w.toNatClampNeg := by
  obtain ⟨j, hj, rfl⟩ := nI_of h
  rw [nI_clamp hj]
theorem jcl_le (w : Int32) {ca : Nat} (hc : ca < 2 ^ 31) : jcl w ca ≤ ca := by
  unfold jcl
  by_cases h1 : w < 0
  · rw [if_pos h1]; exact Nat.zero_le _
  · rw [if_neg h1]
    by_cases h2 : nI ca < w
    · rw [if_pos h2]; exact Nat.le_refl _
    · rw [if_neg h2]
      obtain ⟨j, hj, rfl⟩ := nI_of h1
      rw [nI_clamp hj]
      rw [nI_ltI hc hj] at h2
      omega
theorem jF_le {an : Nat → Nat} (hv : jV an) (iv : Nat → Int32) (a : Nat) : jF an iv a ≤ jB a := by
  obtain ⟨h0, h1, -, -, -, h5, -⟩ := hv
  unfold jF
  induction a with
  | zero => exact h1
  | succ a ih =>
    have hc := jcl_le (iv (an 0 / 12 + a) + (jgr (an 1) (an 5) (an 0 / 12) iv a).2) (ca := an 5) (by omega)
    show (if _ then _ else _ : Nat × Int32).1 ≤ jB a + jB a * 200 / 1000
    split
    · generalize jcl (iv (an 0 / 12 + a) + (jgr (an 1) (an 5) (an 0 / 12) iv a).2) (an 5) = x at hc ⊢
      generalize (jgr (an 1) (an 5) (an 0 / 12) iv a).1 = f at ih ⊢
      have h9 : f * x ≤ jB a * 200 := Nat.mul_le_mul ih (by omega)
      show f + f * x / 1000 ≤ _
      have := Nat.div_le_div_right (c := 1000) h9
      omega
    · omega
theorem jF_bd {an : Nat → Nat} (hv : jV an) (iv : Nat → Int32) {a : Nat} (ha : a ≤ 19) : jF an iv a ≤ 3200000 := Nat.le_trans (jF_le hv iv a) (Nat.le_trans (jB_mono a 19 ha) jB19)
theorem jM_bd {an : Nat → Nat} (hv : jV an) (iv : Nat → Int32) {k : Nat} (hk : k < 240) : jM an iv k ≤ 3200000 := jF_bd hv iv (by omega)
theorem jpct {f p : Nat} (hf : f ≤ 3200000) (hp : p ≤ 100) : f * p ≤ 320000000 ∧ f * p / 100 ≤ 3200000 := by
  have h := Nat.mul_le_mul hf hp
  omega
theorem jS_bd {an : Nat → Nat} (hv : jV an) (iv : Nat → Int32) {k : Nat} (hk : k < 240) : jS an iv k ≤ 3200000 := by
  have h1 := jM_bd hv iv hk
  have h2 := (jpct h1 hv.2.2.2.1).2
  unfold jS
  split
  · exact h1
  · split
    · split
      · exact h1
      · split
        · exact h1
        · exact h2
    · split
      · exact h2
      · exact Nat.zero_le _
theorem jT_bd {an : Nat → Nat} (hv : jV an) (iv : Nat → Int32) {e : Nat} (he : e ≤ 240) : jT an iv e ≤ e * 3200000 := by
  induction e with
  | zero => exact Nat.le_refl _
  | succ e ih =>
    have h1 := ih (by omega)
    have h2 := jS_bd hv iv (k := e) (by omega)
    show jT an iv e + (if an 0 ≤ e then jS an iv e else 0) ≤ (e + 1) * 3200000
    rw [Nat.succ_mul]
    by_cases h : an 0 ≤ e
    · rw [if_pos h]; exact Nat.add_le_add h1 h2
    · rw [if_neg h]; exact Nat.le_trans h1 (Nat.le_add_right _ _)
theorem jT_le {an : Nat → Nat} (hv : jV an) (iv : Nat → Int32) {e : Nat} (he : e ≤ 240) : jT an iv e ≤ 768000000 := by
  have := jT_bd hv iv he
  omega
theorem jT_0 (an : Nat → Nat) (iv : Nat → Int32) {e : Nat} (he : e ≤ an 0) : jT an iv e = 0 := by
  induction e with
  | zero => rfl
  | succ e ih =>
    show jT an iv e + (if an 0 ≤ e then jS an iv e else 0) = 0
    rw [ih (by omega), if_neg (by omega)]
theorem jT_s (an : Nat → Nat) (iv : Nat → Int32) {e : Nat} (he : an 0 ≤ e) : jT an iv (e + 1) = jT an iv e + jS an iv e := by
  show jT an iv e + (if an 0 ≤ e then jS an iv e else 0) = _
  rw [if_pos he]
theorem jP_le (an : Nat → Nat) : jP an ≤ 240 := by
  unfold jP
  split
  · exact Nat.le_refl _
  · exact Nat.min_le_right _ _
theorem jP_ge (an : Nat → Nat) (h : an 0 < 240) : an 0 ≤ jP an := by
  unfold jP
  split
  · omega
  · omega
theorem jpr {a b : Nat} (ha : a ≤ 10000000) (hb : b ≤ 100) : a * b ≤ 1000000000 := Nat.mul_le_mul ha hb
theorem jQ_le {an : Nat → Nat} (hv : jV an) (iv : Nat → Int32) : jQ an iv ≤ 10000000 := by
  have h := jpr hv.2.2.2.2.2.2.1 hv.2.2.2.2.2.2.2.1
  unfold jQ
  split
  · omega
  · omega
theorem jU_le {an : Nat → Nat} (hv : jV an) (iv : Nat → Int32) {e : Nat} (he : e ≤ 240) : jU an iv e ≤ 778000000 := by
  have h1 := jT_le hv iv he
  have h2 := jQ_le hv iv
  unfold jU
  split <;> omega
/-- one month more, the protection in it -/
theorem jU_s {an : Nat → Nat} (iv : Nat → Int32) {e : Nat} (hs : an 0 ≤ e) (he : e < 240) : jU an iv (e + 1) = (if e = jP an ∧ jU an iv e < an 6 * an 7 / 100 then an 6 * an 7 / 100 else jU an iv e) + jS an iv e := by
  have h1 := jT_s an iv hs
  unfold jU
  rw [h1]
  generalize jS an iv e = x
  rcases Nat.lt_trichotomy e (jP an) with h | h | h
  · rw [if_neg (show ¬ jP an < e + 1 by omega), if_neg (show ¬ jP an < e by omega), if_neg (fun q => absurd q.1 (by omega))]
    omega
  · have h3 : jQ an iv = an 6 * an 7 / 100 - jT an iv e := by
      unfold jQ
      rw [if_neg (by omega), ← h]
    rw [if_pos (show jP an < e + 1 by omega), if_neg (show ¬ jP an < e by omega), h3]
    generalize an 6 * an 7 / 100 = y
    generalize jT an iv e = z
    by_cases h4 : z + 0 < y
    · rw [if_pos ⟨h, h4⟩]; omega
    · rw [if_neg (fun q => h4 q.2)]; omega
  · rw [if_pos (show jP an < e + 1 by omega), if_pos (show jP an < e by omega), if_neg (fun q => absurd q.1 (by omega))]
    omega
theorem jU_0 {an : Nat → Nat} (iv : Nat → Int32) {e : Nat} (h : an 0 < 240) (he : e ≤ an 0) : jU an iv e = 0 := by
  have := jP_ge an h
  unfold jU
  rw [jT_0 an iv he, if_neg (by omega)]
theorem jgr_0 (am ca y : Nat) (iv : Nat → Int32) : jgr am ca y iv 0 = (am, 0) := rfl
theorem jF_0 (an : Nat → Nat) (iv : Nat → Int32) : jF an iv 0 = an 1 := rfl
theorem jC_0 (an : Nat → Nat) (iv : Nat → Int32) : jC an iv 0 = 0 := rfl
theorem jF_s (an : Nat → Nat) (iv : Nat → Int32) {a : Nat} (h : an 0 / 12 + a < 20) : jF an iv (a + 1) = jF an iv a + jF an iv a * jcl (iv (an 0 / 12 + a) + jC an iv a) (an 5) / 1000 := by
  unfold jF jC
  show (if _ then _ else _ : Nat × Int32).1 = _
  rw [if_pos h]
theorem jC_s (an : Nat → Nat) (iv : Nat → Int32) {a : Nat} (h : an 0 / 12 + a < 20) : jC an iv (a + 1) = iv (an 0 / 12 + a) + jC an iv a - nI (jcl (iv (an 0 / 12 + a) + jC an iv a) (an 5)) := by
  unfold jC
  show (if _ then _ else _ : Nat × Int32).2 = _
  rw [if_pos h]
theorem jF_n (an : Nat → Nat) (iv : Nat → Int32) {a : Nat} (h : ¬ an 0 / 12 + a < 20) : jF an iv (a + 1) = jF an iv a := by
  unfold jF
  show (if _ then _ else _ : Nat × Int32).1 = _
  rw [if_neg h]
theorem jC_n (an : Nat → Nat) (iv : Nat → Int32) {a : Nat} (h : ¬ an 0 / 12 + a < 20) : jC an iv (a + 1) = jC an iv a := by
  unfold jC
  show (if _ then _ else _ : Nat × Int32).2 = _
  rw [if_neg h]
/-- the increase as the class has it, and as the reference has it -/
theorem jcl_A (w : Int32) {ca : Nat} (hc : ca < 2 ^ 31) : (if (0 : Int32) < (if nI ca < w then nI ca else w) then (if nI ca < w then nI ca else w) else 0) = nI (jcl w ca) := by
  unfold jcl
  by_cases h1 : w < 0
  · have h2 : ¬ nI ca < w := by
      intro h
      have h3 := nI_pos' hc
      rw [Int32.lt_iff_toInt_lt] at h h1
      rw [Int32.le_iff_toInt_le] at h3
      omega
    rw [if_pos h1, if_neg h2, if_neg]
    · rfl
    · intro h
      rw [Int32.lt_iff_toInt_lt] at h h1
      omega
  · rw [if_neg h1]
    obtain ⟨j, hj, rfl⟩ := nI_of h1
    rw [nI_clamp hj]
    by_cases h2 : nI ca < nI j
    · rw [if_pos h2, if_pos h2]
      by_cases h3 : ca = 0
      · subst h3
        rfl
      · rw [if_pos]
        rw [← nI_0, nI_ltI (by omega) hc]
        omega
    · rw [if_neg h2, if_neg h2]
      by_cases h3 : j = 0
      · subst h3
        rfl
      · rw [if_pos]
        rw [← nI_0, nI_ltI (by omega) hj]
        omega
theorem jcl_M (w : Int32) {ca : Nat} (hc : ca < 2 ^ 31) : (if w ≤ nI ca then (if (0 : Int32) ≤ w then w else 0) else nI ca) = nI (jcl w ca) := by
  unfold jcl
  by_cases h1 : w < 0
  · have h3 := nI_pos' hc
    rw [if_pos h1, if_pos, if_neg]
    · rfl
    · intro h
      rw [Int32.lt_iff_toInt_lt] at h1
      rw [Int32.le_iff_toInt_le] at h
      omega
    · rw [Int32.lt_iff_toInt_lt] at h1
      rw [Int32.le_iff_toInt_le] at h3 ⊢
      omega
  · rw [if_neg h1]
    obtain ⟨j, hj, rfl⟩ := nI_of h1
    rw [nI_clamp hj]
    by_cases h2 : nI ca < nI j
    · rw [if_pos h2, if_neg]
      rw [nI_ltI hc hj] at h2
      rw [nI_leI hj hc]
      omega
    · rw [if_neg h2, if_pos, if_pos (nI_pos' hj)]
      rw [nI_ltI hc hj] at h2
      rw [nI_leI hj hc]
      omega
/-- the growth in ints -/
theorem jgrow {f i : Nat} (hf : f ≤ 3200000) (hi : i ≤ 200) : nI f + nI f * nI i / 1000 = nI (f + f * i / 1000) := by
  have h := Nat.mul_le_mul hf hi
  rw [pk_mul, show (1000 : Int32) = nI 1000 from rfl, pk_div (by omega) (by omega) (by omega), nI_add]
theorem jpctI {f p : Nat} (hf : f ≤ 3200000) (hp : p ≤ 100) : nI f * nI p / 100 = nI (f * p / 100) := by
  have h := Nat.mul_le_mul hf hp
  rw [pk_mul, show (100 : Int32) = nI 100 from rfl, pk_div (by omega) (by omega) (by omega)]
theorem jpctL {f p : Nat} (hf : f ≤ 3200000) (hp : p ≤ 100) : lN f * lN p / 100 = lN (f * p / 100) := by
  have h := Nat.mul_le_mul hf hp
  rw [lN_mul, show (100 : Int64) = lN 100 from rfl, pk_lDiv (by omega) (by omega) (by omega)]
theorem jprI {f p : Nat} (hf : f ≤ 10000000) (hp : p ≤ 100) : nI f * nI p / 100 = nI (f * p / 100) := by
  have h := Nat.mul_le_mul hf hp
  rw [pk_mul, show (100 : Int32) = nI 100 from rfl, pk_div (by omega) (by omega) (by omega)]
theorem jprL {f p : Nat} (hf : f ≤ 10000000) (hp : p ≤ 100) : lN f * lN p / 100 = lN (f * p / 100) := by
  have h := Nat.mul_le_mul hf hp
  rw [lN_mul, show (100 : Int64) = lN 100 from rfl, pk_lDiv (by omega) (by omega) (by omega)]
/-- the larger of 0 and a difference of longs that are small -/
theorem jmaxL {a b : Nat} (ha : a < 2 ^ 31) (hb : b < 2 ^ 31) : (if lN a - lN b < (0 : Int64) then (0 : Int64) else lN a - lN b) = lN (a - b) := by
  by_cases h : b ≤ a
  · rw [lN_sub h, if_neg]
    rw [show (0 : Int64) = lN 0 from rfl, lN_lt (by omega) (by omega)]
    omega
  · have e : lN a - lN b = -(lN (b - a)) := by
      rw [← lN_sub (show a ≤ b by omega), Int64.neg_sub]
    have h0 : (-(lN (b - a))).toInt = -((b - a : Nat) : Int) := Int64.toInt_neg_ofNat_of_le (n := b - a) (by omega)
    rw [if_pos]
    · rw [show a - b = 0 by omega]; rfl
    · rw [e, Int64.lt_iff_toInt_lt, h0]
      show -((b - a : Nat) : Int) < 0
      omega
theorem jmaxI {a b : Nat} (ha : a < 2 ^ 31) (hb : b < 2 ^ 31) : (if nI a < nI b then nI b else nI a) = nI (max a b) := by
  by_cases h : a < b
  · rw [if_pos ((nI_ltI ha hb).mpr h), Nat.max_eq_right (by omega)]
  · rw [if_neg (fun q => h ((nI_ltI ha hb).mp q)), Nat.max_eq_left (by omega)]
theorem jminI {a b : Nat} (ha : a < 2 ^ 31) (hb : b < 2 ^ 31) : (if nI b < nI a then nI b else nI a) = nI (min a b) := by
  by_cases h : b < a
  · rw [if_pos ((nI_ltI hb ha).mpr h), Nat.min_eq_right (by omega)]
  · rw [if_neg (fun q => h ((nI_ltI hb ha).mp q)), Nat.min_eq_left (by omega)]
theorem jmaxL2 {a b : Nat} (ha : a < 2 ^ 31) (hb : b < 2 ^ 31) : (if lN a - lN b < lN 0 then lN 0 else lN a - lN b) = lN (a - b) := jmaxL ha hb
/-- the larger of 0 and a long -/
def jmx (z : Int64) : Int64 := if z < 0 then 0 else z
theorem jmx_of (z : Int64) : (if z < lN 0 then lN 0 else z) = jmx z := rfl
