/-! the contracts of the reference (JointAnnuityModel): the private ones -/
set_option maxHeartbeats 4000000 in
set_option maxRecDepth 100000 in
/-- what was thrown -/
theorem c_X2_thrown (l : Launch) (dC : Nat → ClassId) (dI : Nat → Nat → Nat) (cI cJ cZ cO : ClassId) (ad : Nat → Nat) (n mo : Nat) (iv : Nat → Int32) (an : Nat → Nat → Nat) (T B : Nat → Int64) (py : Nat → Nat → Int64) (fu cy th : Int32)  : Met l yX2_thrown wsX2_thrown ({ frames := 0, cells := 0, slots := 0, locals := 0 }) (va_Pc [.ref (ad 0)] (jR (dC, dI) (jTY cI cJ cZ cO) (jMW cI cJ cZ ad n mo iv an T B py fu cy th))) (vp_Si (fun r => r = th)) 0 0 (fun _ => False) := by
  refine j_of (cc := cX2_thrown) (maxL := 1) (ret := (some .int)) (by decide) rfl (Nat.le_of_ble_eq_true rfl) ?_
  intro p e s m below meth c ls hx hb hr hml hts hown hlocks hnm hl hpre
  have hown : s.vm.findClass RX2 = some m.cls := hown
  have hl : lv_has ls 1 [(0, .ref (ad 0))] := hl
  obtain ⟨hP, hK⟩ := hpre
  refine lv_aload_n hx hb dX2_thrown_0 rfl (lv_at hl 0 rfl) ?_
  refine va_get (D := (dC, dI)) (ci := 2) (v := .int th) (C := RX2) (T := TX2) (N := 18) hx hb hts (fun _ h => List.mem_cons_of_mem _ (List.mem_append_right _ h)) hown hK hP 0 rfl rfl 17 (by decide) (hts (.fieldLink RX2 51 "JointAnnuityModel" "thrown" "I") (List.mem_of_getElem? (i := 1) rfl)) (fun _ h9 => h9) rfl dX2_thrown_1 ?_
  exact W.iret (v := th) hx hb hr (fun t9 ht hW => ⟨_, rfl, rfl, ht⟩) (fun _ h => by cases h) dX2_thrown_4
set_option maxHeartbeats 4000000 in
set_option maxRecDepth 100000 in
/-- a number between two -/
theorem c_X2_isWithin (l : Launch) (dC : Nat → ClassId) (dI : Nat → Nat → Nat) (v lo hi : Int32)  : Met l yX2_isWithin wsX2_isWithin ({ frames := 0, cells := 0, slots := 0, locals := 0 }) (va_Pc [.int v, .int lo, .int hi] (fun _ => True)) (vp_Si (fun r => r = nI (jw v lo hi))) 0 0 (fun _ => False) := by
  refine j_of (cc := cX2_isWithin) (maxL := 3) (ret := (some .boolean)) (by decide) rfl (Nat.le_of_ble_eq_true rfl) ?_
  intro p e s m below meth c ls hx hb hr hml hts hown hlocks hnm hl hpre
  have hown : s.vm.findClass RX2 = some m.cls := hown
  have hl : lv_has ls 3 [(0, .int v), (1, .int lo), (2, .int hi)] := hl
  refine lv_iload_n hx hb dX2_isWithin_0 rfl (lv_at hl 0 rfl) ?_
  refine lv_iload_n hx hb dX2_isWithin_1 rfl (lv_at hl 1 rfl) ?_
  refine lv_icmp_lt (tgt := 14) hx hb dX2_isWithin_2 (by decide) (fun c_2 => ?_) (fun c_2 => ?_)
  · refine lv_iconst (v := nI 0) hx hb dX2_isWithin_14 (by decide) ?_
    exact W.zret (v := nI 0) hx hb hr (jzn (v := 0) (by omega)).1 (fun t9 ht hW => ⟨_, rfl, by rw [jw_f (Or.inl c_2)], ht⟩) (fun _ h => by cases h) dX2_isWithin_15
  · refine lv_iload_n hx hb dX2_isWithin_5 rfl (lv_at hl 0 rfl) ?_
    refine lv_iload_n hx hb dX2_isWithin_6 rfl (lv_at hl 2 rfl) ?_
    refine lv_icmp_gt (tgt := 14) hx hb dX2_isWithin_7 (by decide) (fun c_7 => ?_) (fun c_7 => ?_)
    · refine lv_iconst (v := nI 0) hx hb dX2_isWithin_14 (by decide) ?_
      exact W.zret (v := nI 0) hx hb hr (jzn (v := 0) (by omega)).1 (fun t9 ht hW => ⟨_, rfl, by rw [jw_f (Or.inr c_7)], ht⟩) (fun _ h => by cases h) dX2_isWithin_15
    · refine lv_iconst (v := nI 1) hx hb dX2_isWithin_10 (by decide) ?_
      refine lv_goto (tgt := 15) hx hb dX2_isWithin_11 (by decide) ?_
      exact W.zret (v := nI 1) hx hb hr (jzn (v := 1) (by omega)).1 (fun t9 ht hW => ⟨_, rfl, by rw [jw_t c_2 (fun h => c_7 h)], ht⟩) (fun _ h => by cases h) dX2_isWithin_15
set_option maxHeartbeats 4000000 in
set_option maxRecDepth 100000 in
/-- a life -/
theorem c_X2_isLife (l : Launch) (dC : Nat → ClassId) (dI : Nat → Nat → Nat) (pl : Int32)  : Met l yX2_isLife wsX2_isLife ({ frames := 0, cells := 0, slots := 0, locals := 0 }) (va_Pc [.int pl] (fun _ => True)) (vp_Si (fun r => r = nI (jlf pl))) 0 0 (fun _ => False) := by
  refine j_of (cc := cX2_isLife) (maxL := 1) (ret := (some .boolean)) (by decide) rfl (Nat.le_of_ble_eq_true rfl) ?_
  intro p e s m below meth c ls hx hb hr hml hts hown hlocks hnm hl hpre
  have hown : s.vm.findClass RX2 = some m.cls := hown
  have hl : lv_has ls 1 [(0, .int pl)] := hl
  refine lv_iload_n hx hb dX2_isLife_0 rfl (lv_at hl 0 rfl) ?_
  refine lv_if_eq (tgt := 9) hx hb dX2_isLife_1 (by decide) (fun c_1 => ?_) (fun c_1 => ?_)
  · refine lv_iconst (v := nI 1) hx hb dX2_isLife_9 (by decide) ?_
    refine lv_goto (tgt := 14) hx hb dX2_isLife_10 (by decide) ?_
    exact W.zret (v := nI 1) hx hb hr (jzn (v := 1) (by omega)).1 (fun t9 ht hW => ⟨_, rfl, by rw [jlf, if_pos c_1], ht⟩) (fun _ h => by cases h) dX2_isLife_14
  · refine lv_iload_n hx hb dX2_isLife_4 rfl (lv_at hl 0 rfl) ?_
    refine lv_iconst (v := nI 1) hx hb dX2_isLife_5 (by decide) ?_
    refine lv_icmp_ne (tgt := 13) hx hb dX2_isLife_6 (by decide) (fun c_6 => ?_) (fun c_6 => ?_)
    · refine lv_iconst (v := nI 0) hx hb dX2_isLife_13 (by decide) ?_
      exact W.zret (v := nI 0) hx hb hr (jzn (v := 0) (by omega)).1 (fun t9 ht hW => ⟨_, rfl, by rw [jlf, if_neg c_1, if_neg c_6], ht⟩) (fun _ h => by cases h) dX2_isLife_14
    · refine lv_iconst (v := nI 1) hx hb dX2_isLife_9 (by decide) ?_
      refine lv_goto (tgt := 14) hx hb dX2_isLife_10 (by decide) ?_
      exact W.zret (v := nI 1) hx hb hr (jzn (v := 1) (by omega)).1 (fun t9 ht hW => ⟨_, rfl, by rw [jlf, if_neg c_1, if_pos c_6], ht⟩) (fun _ h => by cases h) dX2_isLife_14
set_option maxHeartbeats 4000000 in
set_option maxRecDepth 100000 in
/-- there is such an annuity -/
theorem c_X2_isOne (l : Launch) (dC : Nat → ClassId) (dI : Nat → Nat → Nat) (cI cJ cZ cO : ClassId) (ad : Nat → Nat) (n mo : Nat) (iv : Nat → Int32) (an : Nat → Nat → Nat) (T B : Nat → Int64) (py : Nat → Nat → Int64) (fu cy th : Int32) (p9 : Int32)  : Met l yX2_isOne wsX2_isOne ({ frames := 0, cells := 0, slots := 0, locals := 0 }) (va_Pc [.ref (ad 0), .int p9] (jR (dC, dI) (jTY cI cJ cZ cO) (jMW cI cJ cZ ad n mo iv an T B py fu cy th))) (vp_Si (fun r => r = nI (jo p9 n))) 0 0 (fun _ => False) := by
  refine j_of (cc := cX2_isOne) (maxL := 2) (ret := (some .boolean)) (by decide) rfl (Nat.le_of_ble_eq_true rfl) ?_
  intro p e s m below meth c ls hx hb hr hml hts hown hlocks hnm hl hpre
  have hown : s.vm.findClass RX2 = some m.cls := hown
  have hl : lv_has ls 2 [(0, .ref (ad 0)), (1, .int p9)] := hl
  obtain ⟨hP, hK⟩ := hpre
  refine lv_iload_n hx hb dX2_isOne_0 rfl (lv_at hl 1 rfl) ?_
  refine lv_if_lt (tgt := 16) hx hb dX2_isOne_1 (by decide) (fun c_1 => ?_) (fun c_1 => ?_)
  · refine lv_iconst (v := nI 0) hx hb dX2_isOne_16 (by decide) ?_
    exact W.zret (v := nI 0) hx hb hr (jzn (v := 0) (by omega)).1 (fun t9 ht hW => ⟨_, rfl, by rw [jo, if_pos c_1], ht⟩) (fun _ h => by cases h) dX2_isOne_17
  · refine lv_iload_n hx hb dX2_isOne_4 rfl (lv_at hl 1 rfl) ?_
    refine lv_aload_n hx hb dX2_isOne_5 rfl (lv_at hl 0 rfl) ?_
    refine va_get (D := (dC, dI)) (ci := 2) (v := .int (nI n)) (C := RX2) (T := TX2) (N := 18) hx hb hts (fun _ h => List.mem_cons_of_mem _ (List.mem_append_right _ h)) hown hK hP 0 rfl rfl 13 (by decide) (hts (.fieldLink RX2 55 "JointAnnuityModel" "many" "I") (List.mem_of_getElem? (i := 1) rfl)) (fun _ h9 => h9) rfl dX2_isOne_6 ?_
    refine lv_icmp_ge (tgt := 16) hx hb dX2_isOne_9 (by decide) (fun c_9 => ?_) (fun c_9 => ?_)
    · refine lv_iconst (v := nI 0) hx hb dX2_isOne_16 (by decide) ?_
      exact W.zret (v := nI 0) hx hb hr (jzn (v := 0) (by omega)).1 (fun t9 ht hW => ⟨_, rfl, by rw [jo, if_neg c_1, if_pos c_9], ht⟩) (fun _ h => by cases h) dX2_isOne_17
    · refine lv_iconst (v := nI 1) hx hb dX2_isOne_12 (by decide) ?_
      refine lv_goto (tgt := 17) hx hb dX2_isOne_13 (by decide) ?_
      exact W.zret (v := nI 1) hx hb hr (jzn (v := 1) (by omega)).1 (fun t9 ht hW => ⟨_, rfl, by rw [jo, if_neg c_1, if_neg c_9], ht⟩) (fun _ h => by cases h) dX2_isOne_17
set_option maxHeartbeats 4000000 in
set_option maxRecDepth 100000 in
/-- its start has not been run -/
theorem c_X2_isAhead (l : Launch) (dC : Nat → ClassId) (dI : Nat → Nat → Nat) (cI cJ cZ cO : ClassId) (ad : Nat → Nat) (n mo : Nat) (iv : Nat → Int32) (an : Nat → Nat → Nat) (T B : Nat → Int64) (py : Nat → Nat → Int64) (fu cy th : Int32) (p9 : Int32)  (hn : n ≤ 20) (hm : mo ≤ 240) (hv : ∀ k, k < n → jV (an k)) : Met l yX2_isAhead wsX2_isAhead ({ frames := 1, cells := 0, slots := 0, locals := 21 }) (va_Pc [.ref (ad 0), .int p9] (jR (dC, dI) (jTY cI cJ cZ cO) (jMW cI cJ cZ ad n mo iv an T B py fu cy th))) (vp_Si (fun r => r = nI (jah p9 n mo an))) 0 0 (fun _ => False) := by
  refine j_of (cc := cX2_isAhead) (maxL := 2) (ret := (some .boolean)) (by decide) rfl (Nat.le_of_ble_eq_true rfl) ?_
  intro p e s m below meth c ls hx hb hr hml hts hown hlocks hnm hl hpre
  have hown : s.vm.findClass RX2 = some m.cls := hown
  have hl : lv_has ls 2 [(0, .ref (ad 0)), (1, .int p9)] := hl
  obtain ⟨hP, hK⟩ := hpre
  have hj9 := jo_le p9 n
  refine lv_aload_n hx hb dX2_isAhead_0 rfl (lv_at hl 0 rfl) ?_
  refine lv_iload_n hx hb dX2_isAhead_1 rfl (lv_at hl 1 rfl) ?_
  refine j_cI_ (As := [.int p9]) (rest := []) ⟨hx, hb, hml, hown, hts⟩ (c_X2_isOne l dC dI cI cJ cZ cO ad n mo iv an T B py fu cy th p9) (cwV 1 hts gX2_isAhead_X2_isOne rfl rfl rfl (by decide +kernel) ⟨Nat.le_of_ble_eq_true rfl, Nat.le_of_ble_eq_true rfl⟩) (jR_V hK hP [0, 1, 2, 3, 4, 5, 6, 7, 8, 9, 10, 11, 12, 13] rfl (ci := 2) (q0 := 0) rfl rfl rfl) rfl hl rfl (Nat.le_of_ble_eq_true rfl) dX2_isAhead_2 ⟨Nat.le_of_ble_eq_true rfl, Nat.le_of_ble_eq_true rfl⟩ (fun r_2 hr_2 => ?_)
  subst hr_2
  refine lv_if_eq (tgt := 25) hx hb dX2_isAhead_5 (by decide) (fun c_5 => ?_) (fun c_5 => ?_)
  · have c_5 : jo p9 n = 0 := (nI_eq (a := jo p9 n) (b := 0) (by omega) (by omega)).mp c_5
    have c_5b : jo p9 n = 0 := c_5
    refine lv_iconst (v := nI 0) hx hb dX2_isAhead_25 (by decide) ?_
    exact W.zret (v := nI 0) hx hb hr (jzn (v := 0) (by omega)).1 (fun t9 ht hW => ⟨_, rfl, by rw [jah, if_pos c_5b], ht⟩) (fun _ h => by cases h) dX2_isAhead_26
  · have c_5 : ¬ (jo p9 n = 0) := fun h => c_5 ((nI_eq (a := jo p9 n) (b := 0) (by omega) (by omega)).mpr h)
    obtain ⟨k, hk, rfl⟩ := jo_in hn c_5
    have hs0 := (hv k hk).1
    refine lv_aload_n hx hb dX2_isAhead_8 rfl (lv_at hl 0 rfl) ?_
    refine va_get (D := (dC, dI)) (ci := 2) (v := .int (nI mo)) (C := RX2) (T := TX2) (N := 18) hx hb hts (fun _ h => List.mem_cons_of_mem _ (List.mem_append_right _ h)) hown hK hP 0 rfl rfl 14 (by decide) (hts (.fieldLink RX2 58 "JointAnnuityModel" "month" "I") (List.mem_of_getElem? (i := 1) rfl)) (fun _ h9 => h9) rfl dX2_isAhead_9 ?_
    refine lv_aload_n hx hb dX2_isAhead_12 rfl (lv_at hl 0 rfl) ?_
    refine va_get (D := (dC, dI)) (ci := 2) (v := .ref (ad 1)) (C := RX2) (T := TX2) (N := 18) hx hb hts (fun _ h => List.mem_cons_of_mem _ (List.mem_append_right _ h)) hown hK hP 0 rfl rfl 0 (by decide) (hts (.fieldLink RX2 7 "JointAnnuityModel" "start" "[I") (List.mem_of_getElem? (i := 2) rfl)) (fun _ h9 => h9) rfl dX2_isAhead_13 ?_
    refine lv_iload_n hx hb dX2_isAhead_16 rfl (lv_at hl 1 rfl) ?_
    refine va_iald hx hb hK hP 1 0 (f := fun k => nI (an k 0)) rfl rfl (vp_in_nI (n := k) (N := 20) (by omega) (by omega)) dX2_isAhead_17 ?_
    refine j_i (y := nI (an k 0)) (by rw [nI_clamp (by omega)]) ?_
    refine lv_icmp_gt (tgt := 25) hx hb dX2_isAhead_18 (by decide) (fun c_18 => ?_) (fun c_18 => ?_)
    · have c_18 : an k 0 < mo := (nI_ltI (a := an k 0) (b := mo) (by omega) (by omega)).mp c_18
      refine lv_iconst (v := nI 0) hx hb dX2_isAhead_25 (by decide) ?_
      exact W.zret (v := nI 0) hx hb hr (jzn (v := 0) (by omega)).1 (fun t9 ht hW => ⟨_, rfl, by rw [jah, if_neg c_5, nI_clamp (by omega), if_pos (by omega)], ht⟩) (fun _ h => by cases h) dX2_isAhead_26
    · have c_18 : ¬ (an k 0 < mo) := fun h => c_18 ((nI_ltI (a := an k 0) (b := mo) (by omega) (by omega)).mpr h)
      refine lv_iconst (v := nI 1) hx hb dX2_isAhead_21 (by decide) ?_
      refine lv_goto (tgt := 26) hx hb dX2_isAhead_22 (by decide) ?_
      exact W.zret (v := nI 1) hx hb hr (jzn (v := 1) (by omega)).1 (fun t9 ht hW => ⟨_, rfl, by rw [jah, if_neg c_5, nI_clamp (by omega), if_neg (by omega)], ht⟩) (fun _ h => by cases h) dX2_isAhead_26
set_option maxHeartbeats 4000000 in
set_option maxRecDepth 100000 in
/-- a life is alive in a month -/
theorem c_X2_isAlive0 (l : Launch) (dC : Nat → ClassId) (dI : Nat → Nat → Nat) (cI cJ cZ cO : ClassId) (ad : Nat → Nat) (n mo : Nat) (iv : Nat → Int32) (an : Nat → Nat → Nat) (T B : Nat → Int64) (py : Nat → Nat → Int64) (fu cy th : Int32) (k x : Nat)  (hn : n ≤ 20) (hm : mo ≤ 240) (hv : ∀ k, k < n → jV (an k)) (hk : k < n) (hx9 : x < 240) : Met l yX2_isAlive wsX2_isAlive ({ frames := 0, cells := 0, slots := 0, locals := 0 }) (va_Pc [.ref (ad 0), .int (nI k), .int (nI 0), .int (nI x)] (jR (dC, dI) (jTY cI cJ cZ cO) (jMW cI cJ cZ ad n mo iv an T B py fu cy th))) (vp_Si (fun r => r = nI (if x ≤ an k 8 then 1 else 0))) 0 0 (fun _ => False) := by
  refine j_of (cc := cX2_isAlive) (maxL := 4) (ret := (some .boolean)) (by decide) rfl (Nat.le_of_ble_eq_true rfl) ?_
  intro p e s m below meth c ls hx hb hr hml hts hown hlocks hnm hl hpre
  have hown : s.vm.findClass RX2 = some m.cls := hown
  have hl : lv_has ls 4 [(0, .ref (ad 0)), (1, .int (nI k)), (2, .int (nI 0)), (3, .int (nI x))] := hl
  obtain ⟨v0, v1, v2, v3, v4, v5, v6, v7, v8, v9⟩ := hv k hk
  obtain ⟨hP, hK⟩ := hpre
  refine lv_aload_n hx hb dX2_isAlive_0 rfl (lv_at hl 0 rfl) ?_
  refine va_get (D := (dC, dI)) (ci := 2) (v := .ref (ad 9)) (C := RX2) (T := TX2) (N := 18) hx hb hts (fun _ h => List.mem_cons_of_mem _ (List.mem_append_right _ h)) hown hK hP 0 rfl rfl 8 (by decide) (hts (.fieldLink RX2 35 "JointAnnuityModel" "death" "[I") (List.mem_of_getElem? (i := 1) rfl)) (fun _ h9 => h9) rfl dX2_isAlive_1 ?_
  refine lv_iconst (v := nI 2) hx hb dX2_isAlive_4 (by decide) ?_
  refine lv_iload_n hx hb dX2_isAlive_5 rfl (lv_at hl 1 rfl) ?_
  refine lv_imul hx hb dX2_isAlive_6 ?_
  refine j_i (y := nI (2 * k)) (pk_mul _ _) ?_
  refine lv_iload_n hx hb dX2_isAlive_7 rfl (lv_at hl 2 rfl) ?_
  refine lv_iadd hx hb dX2_isAlive_8 ?_
  refine j_i (y := nI (2 * k + 0)) (nI_add _ _) ?_
  refine va_iald hx hb hK hP 9 0 (f := jdC an) rfl rfl (vp_in_nI (n := 2 * k + 0) (N := 40) (by omega) (by omega)) dX2_isAlive_9 ?_
  refine j_i (y := jdM (an k 8)) (jdcl an (by omega) (by decide)) ?_
  refine lv_if_lt (tgt := 27) hx hb dX2_isAlive_10 (by decide) (fun c_10 => ?_) (fun c_10 => ?_)
  · have hd9 := (jdM_neg v8).mp c_10
    refine lv_iconst (v := nI 1) hx hb dX2_isAlive_27 (by decide) ?_
    refine lv_goto (tgt := 32) hx hb dX2_isAlive_28 (by decide) ?_
    exact W.zret (v := nI 1) hx hb hr (jzn (v := 1) (by omega)).1 (fun t9 ht hW => ⟨_, rfl, by rw [if_pos (by omega)], ht⟩) (fun _ h => by cases h) dX2_isAlive_32
  · have hd9 : ¬ an k 8 = 240 := fun h => c_10 ((jdM_neg v8).mpr h)
    refine lv_iload_n hx hb dX2_isAlive_13 rfl (lv_at hl 3 rfl) ?_
    refine lv_aload_n hx hb dX2_isAlive_14 rfl (lv_at hl 0 rfl) ?_
    refine va_get (D := (dC, dI)) (ci := 2) (v := .ref (ad 9)) (C := RX2) (T := TX2) (N := 18) hx hb hts (fun _ h => List.mem_cons_of_mem _ (List.mem_append_right _ h)) hown hK hP 0 rfl rfl 8 (by decide) (hts (.fieldLink RX2 35 "JointAnnuityModel" "death" "[I") (List.mem_of_getElem? (i := 1) rfl)) (fun _ h9 => h9) rfl dX2_isAlive_15 ?_
    refine lv_iconst (v := nI 2) hx hb dX2_isAlive_18 (by decide) ?_
    refine lv_iload_n hx hb dX2_isAlive_19 rfl (lv_at hl 1 rfl) ?_
    refine lv_imul hx hb dX2_isAlive_20 ?_
    refine j_i (y := nI (2 * k)) (pk_mul _ _) ?_
    refine lv_iload_n hx hb dX2_isAlive_21 rfl (lv_at hl 2 rfl) ?_
    refine lv_iadd hx hb dX2_isAlive_22 ?_
    refine j_i (y := nI (2 * k + 0)) (nI_add _ _) ?_
    refine va_iald hx hb hK hP 9 0 (f := jdC an) rfl rfl (vp_in_nI (n := 2 * k + 0) (N := 40) (by omega) (by omega)) dX2_isAlive_23 ?_
    refine j_i (y := nI (an k 8)) ((jdcl an (by omega) (by decide)).trans (jdM_t hd9)) ?_
    refine lv_icmp_gt (tgt := 31) hx hb dX2_isAlive_24 (by decide) (fun c_24 => ?_) (fun c_24 => ?_)
    · have c_24 : an k 8 < x := (nI_ltI (a := an k 8) (b := x) (by omega) (by omega)).mp c_24
      refine lv_iconst (v := nI 0) hx hb dX2_isAlive_31 (by decide) ?_
      exact W.zret (v := nI 0) hx hb hr (jzn (v := 0) (by omega)).1 (fun t9 ht hW => ⟨_, rfl, by rw [if_neg (by omega)], ht⟩) (fun _ h => by cases h) dX2_isAlive_32
    · have c_24 : ¬ (an k 8 < x) := fun h => c_24 ((nI_ltI (a := an k 8) (b := x) (by omega) (by omega)).mpr h)
      refine lv_iconst (v := nI 1) hx hb dX2_isAlive_27 (by decide) ?_
      refine lv_goto (tgt := 32) hx hb dX2_isAlive_28 (by decide) ?_
      exact W.zret (v := nI 1) hx hb hr (jzn (v := 1) (by omega)).1 (fun t9 ht hW => ⟨_, rfl, by rw [if_pos (by omega)], ht⟩) (fun _ h => by cases h) dX2_isAlive_32
set_option maxHeartbeats 4000000 in
set_option maxRecDepth 100000 in
/-- a life is alive in a month -/
theorem c_X2_isAlive1 (l : Launch) (dC : Nat → ClassId) (dI : Nat → Nat → Nat) (cI cJ cZ cO : ClassId) (ad : Nat → Nat) (n mo : Nat) (iv : Nat → Int32) (an : Nat → Nat → Nat) (T B : Nat → Int64) (py : Nat → Nat → Int64) (fu cy th : Int32) (k x : Nat)  (hn : n ≤ 20) (hm : mo ≤ 240) (hv : ∀ k, k < n → jV (an k)) (hk : k < n) (hx9 : x < 240) : Met l yX2_isAlive wsX2_isAlive ({ frames := 0, cells := 0, slots := 0, locals := 0 }) (va_Pc [.ref (ad 0), .int (nI k), .int (nI 1), .int (nI x)] (jR (dC, dI) (jTY cI cJ cZ cO) (jMW cI cJ cZ ad n mo iv an T B py fu cy th))) (vp_Si (fun r => r = nI (if x ≤ an k 9 then 1 else 0))) 0 0 (fun _ => False) := by
  refine j_of (cc := cX2_isAlive) (maxL := 4) (ret := (some .boolean)) (by decide) rfl (Nat.le_of_ble_eq_true rfl) ?_
  intro p e s m below meth c ls hx hb hr hml hts hown hlocks hnm hl hpre
  have hown : s.vm.findClass RX2 = some m.cls := hown
  have hl : lv_has ls 4 [(0, .ref (ad 0)), (1, .int (nI k)), (2, .int (nI 1)), (3, .int (nI x))] := hl
  obtain ⟨v0, v1, v2, v3, v4, v5, v6, v7, v8, v9⟩ := hv k hk
  obtain ⟨hP, hK⟩ := hpre
  refine lv_aload_n hx hb dX2_isAlive_0 rfl (lv_at hl 0 rfl) ?_
  refine va_get (D := (dC, dI)) (ci := 2) (v := .ref (ad 9)) (C := RX2) (T := TX2) (N := 18) hx hb hts (fun _ h => List.mem_cons_of_mem _ (List.mem_append_right _ h)) hown hK hP 0 rfl rfl 8 (by decide) (hts (.fieldLink RX2 35 "JointAnnuityModel" "death" "[I") (List.mem_of_getElem? (i := 1) rfl)) (fun _ h9 => h9) rfl dX2_isAlive_1 ?_
  refine lv_iconst (v := nI 2) hx hb dX2_isAlive_4 (by decide) ?_
  refine lv_iload_n hx hb dX2_isAlive_5 rfl (lv_at hl 1 rfl) ?_
  refine lv_imul hx hb dX2_isAlive_6 ?_
  refine j_i (y := nI (2 * k)) (pk_mul _ _) ?_
  refine lv_iload_n hx hb dX2_isAlive_7 rfl (lv_at hl 2 rfl) ?_
  refine lv_iadd hx hb dX2_isAlive_8 ?_
  refine j_i (y := nI (2 * k + 1)) (nI_add _ _) ?_
  refine va_iald hx hb hK hP 9 0 (f := jdC an) rfl rfl (vp_in_nI (n := 2 * k + 1) (N := 40) (by omega) (by omega)) dX2_isAlive_9 ?_
  refine j_i (y := jdM (an k 9)) (jdcl an (by omega) (by decide)) ?_
  refine lv_if_lt (tgt := 27) hx hb dX2_isAlive_10 (by decide) (fun c_10 => ?_) (fun c_10 => ?_)
  · have hd9 := (jdM_neg v9).mp c_10
    refine lv_iconst (v := nI 1) hx hb dX2_isAlive_27 (by decide) ?_
    refine lv_goto (tgt := 32) hx hb dX2_isAlive_28 (by decide) ?_
    exact W.zret (v := nI 1) hx hb hr (jzn (v := 1) (by omega)).1 (fun t9 ht hW => ⟨_, rfl, by rw [if_pos (by omega)], ht⟩) (fun _ h => by cases h) dX2_isAlive_32
  · have hd9 : ¬ an k 9 = 240 := fun h => c_10 ((jdM_neg v9).mpr h)
    refine lv_iload_n hx hb dX2_isAlive_13 rfl (lv_at hl 3 rfl) ?_
    refine lv_aload_n hx hb dX2_isAlive_14 rfl (lv_at hl 0 rfl) ?_
    refine va_get (D := (dC, dI)) (ci := 2) (v := .ref (ad 9)) (C := RX2) (T := TX2) (N := 18) hx hb hts (fun _ h => List.mem_cons_of_mem _ (List.mem_append_right _ h)) hown hK hP 0 rfl rfl 8 (by decide) (hts (.fieldLink RX2 35 "JointAnnuityModel" "death" "[I") (List.mem_of_getElem? (i := 1) rfl)) (fun _ h9 => h9) rfl dX2_isAlive_15 ?_
    refine lv_iconst (v := nI 2) hx hb dX2_isAlive_18 (by decide) ?_
    refine lv_iload_n hx hb dX2_isAlive_19 rfl (lv_at hl 1 rfl) ?_
    refine lv_imul hx hb dX2_isAlive_20 ?_
    refine j_i (y := nI (2 * k)) (pk_mul _ _) ?_
    refine lv_iload_n hx hb dX2_isAlive_21 rfl (lv_at hl 2 rfl) ?_
    refine lv_iadd hx hb dX2_isAlive_22 ?_
    refine j_i (y := nI (2 * k + 1)) (nI_add _ _) ?_
    refine va_iald hx hb hK hP 9 0 (f := jdC an) rfl rfl (vp_in_nI (n := 2 * k + 1) (N := 40) (by omega) (by omega)) dX2_isAlive_23 ?_
    refine j_i (y := nI (an k 9)) ((jdcl an (by omega) (by decide)).trans (jdM_t hd9)) ?_
    refine lv_icmp_gt (tgt := 31) hx hb dX2_isAlive_24 (by decide) (fun c_24 => ?_) (fun c_24 => ?_)
    · have c_24 : an k 9 < x := (nI_ltI (a := an k 9) (b := x) (by omega) (by omega)).mp c_24
      refine lv_iconst (v := nI 0) hx hb dX2_isAlive_31 (by decide) ?_
      exact W.zret (v := nI 0) hx hb hr (jzn (v := 0) (by omega)).1 (fun t9 ht hW => ⟨_, rfl, by rw [if_neg (by omega)], ht⟩) (fun _ h => by cases h) dX2_isAlive_32
    · have c_24 : ¬ (an k 9 < x) := fun h => c_24 ((nI_ltI (a := an k 9) (b := x) (by omega) (by omega)).mpr h)
      refine lv_iconst (v := nI 1) hx hb dX2_isAlive_27 (by decide) ?_
      refine lv_goto (tgt := 32) hx hb dX2_isAlive_28 (by decide) ?_
      exact W.zret (v := nI 1) hx hb hr (jzn (v := 1) (by omega)).1 (fun t9 ht hW => ⟨_, rfl, by rw [if_pos (by omega)], ht⟩) (fun _ h => by cases h) dX2_isAlive_32
set_option maxHeartbeats 4000000 in
set_option maxRecDepth 100000 in
/-- what an annuity is entitled to by its lives -/
theorem c_X2_share (l : Launch) (dC : Nat → ClassId) (dI : Nat → Nat → Nat) (cI cJ cZ cO : ClassId) (ad : Nat → Nat) (n mo : Nat) (iv : Nat → Int32) (an : Nat → Nat → Nat) (T B : Nat → Int64) (py : Nat → Nat → Int64) (cy th : Int32) (k x : Nat)  (hn : n ≤ 20) (hm : mo ≤ 240) (hv : ∀ k, k < n → jV (an k)) (hk : k < n) (hx9 : x < 240) : Met l yX2_share wsX2_share ({ frames := 1, cells := 0, slots := 0, locals := 23 }) (va_Pc [.ref (ad 0), .int (nI k), .int (nI x)] (jR (dC, dI) (jTY cI cJ cZ cO) (jMW cI cJ cZ ad n mo iv an T B py (nI (jM (an k) iv x)) cy th))) (vp_Si (fun r => r = nI (jS (an k) iv x))) 0 0 (fun _ => False) := by
  refine j_of (cc := cX2_share) (maxL := 5) (ret := (some .int)) (by decide) rfl (Nat.le_of_ble_eq_true rfl) ?_
  intro p e s m below meth c ls hx hb hr hml hts hown hlocks hnm hl hpre
  have hown : s.vm.findClass RX2 = some m.cls := hown
  have hl : lv_has ls 5 [(0, .ref (ad 0)), (1, .int (nI k)), (2, .int (nI x))] := hl
  obtain ⟨v0, v1, v2, v3, v4, v5, v6, v7, v8, v9⟩ := hv k hk
  obtain ⟨hP, hK⟩ := hpre
  have hm9 := jM_bd (hv k hk) iv hx9
  have hm2 := jpct hm9 v3
  refine lv_aload_n hx hb dX2_share_0 rfl (lv_at hl 0 rfl) ?_
  refine lv_iload_n hx hb dX2_share_1 rfl (lv_at hl 1 rfl) ?_
  refine lv_iconst (v := nI 0) hx hb dX2_share_2 (by decide) ?_
  refine lv_iload_n hx hb dX2_share_3 rfl (lv_at hl 2 rfl) ?_
  refine j_cI_ (As := [.int (nI k), .int (nI 0), .int (nI x)]) (rest := []) ⟨hx, hb, hml, hown, hts⟩ (c_X2_isAlive0 l dC dI cI cJ cZ cO ad n mo iv an T B py (nI (jM (an k) iv x)) cy th k x hn hm hv hk (by omega)) (cwV 3 hts gX2_share_X2_isAlive rfl rfl rfl (by decide +kernel) ⟨Nat.le_of_ble_eq_true rfl, Nat.le_of_ble_eq_true rfl⟩) (jR_V hK hP [0, 1, 2, 3, 4, 5, 6, 7, 8, 9, 10, 11, 12, 13] rfl (ci := 2) (q0 := 0) rfl rfl rfl) rfl hl rfl (Nat.le_of_ble_eq_true rfl) dX2_share_4 ⟨Nat.le_of_ble_eq_true rfl, Nat.le_of_ble_eq_true rfl⟩ (fun r_4 hr_4 => ?_)
  subst hr_4
  obtain ⟨z1, hz1, ez1⟩ : ∃ z : Nat, ((x ≤ an k 8 ∧ z = 1) ∨ (¬ x ≤ an k 8 ∧ z = 0)) ∧ (if x ≤ an k 8 then 1 else 0) = z := by
    by_cases h : x ≤ an k 8
    · exact ⟨1, Or.inl ⟨h, rfl⟩, if_pos h⟩
    · exact ⟨0, Or.inr ⟨h, rfl⟩, if_neg h⟩
  refine j_i (y := nI z1) (congrArg nI ez1) ?_
  refine lv_istore_n (lv' := [(3, .int (nI z1)), (0, .ref (ad 0)), (1, .int (nI k)), (2, .int (nI x))]) hx hb dX2_share_7 rfl hl (by decide) rfl (fun ls hl => ?_)
  refine lv_aload_n hx hb dX2_share_8 rfl (lv_at hl 1 rfl) ?_
  refine lv_iload_n hx hb dX2_share_9 rfl (lv_at hl 2 rfl) ?_
  refine lv_iconst (v := nI 1) hx hb dX2_share_10 (by decide) ?_
  refine lv_iload_n hx hb dX2_share_11 rfl (lv_at hl 3 rfl) ?_
  refine j_cI_ (As := [.int (nI k), .int (nI 1), .int (nI x)]) (rest := []) ⟨hx, hb, hml, hown, hts⟩ (c_X2_isAlive1 l dC dI cI cJ cZ cO ad n mo iv an T B py (nI (jM (an k) iv x)) cy th k x hn hm hv hk (by omega)) (cwV 3 hts gX2_share_X2_isAlive rfl rfl rfl (by decide +kernel) ⟨Nat.le_of_ble_eq_true rfl, Nat.le_of_ble_eq_true rfl⟩) (jR_V hK hP [0, 1, 2, 3, 4, 5, 6, 7, 8, 9, 10, 11, 12, 13] rfl (ci := 2) (q0 := 0) rfl rfl rfl) rfl hl rfl (Nat.le_of_ble_eq_true rfl) dX2_share_12 ⟨Nat.le_of_ble_eq_true rfl, Nat.le_of_ble_eq_true rfl⟩ (fun r_12 hr_12 => ?_)
  subst hr_12
  obtain ⟨z2, hz2, ez2⟩ : ∃ z : Nat, ((x ≤ an k 9 ∧ z = 1) ∨ (¬ x ≤ an k 9 ∧ z = 0)) ∧ (if x ≤ an k 9 then 1 else 0) = z := by
    by_cases h : x ≤ an k 9
    · exact ⟨1, Or.inl ⟨h, rfl⟩, if_pos h⟩
    · exact ⟨0, Or.inr ⟨h, rfl⟩, if_neg h⟩
  refine j_i (y := nI z2) (congrArg nI ez2) ?_
  refine lv_istore (lv' := [(4, .int (nI z2)), (3, .int (nI z1)), (0, .ref (ad 0)), (1, .int (nI k)), (2, .int (nI x))]) hx hb dX2_share_15 hl (by decide) rfl (fun ls hl => ?_)
  refine lv_iload_n hx hb dX2_share_17 rfl (lv_at hl 4 rfl) ?_
  refine lv_aload_n hx hb dX2_share_18 rfl (lv_at hl 2 rfl) ?_
  refine va_get (D := (dC, dI)) (ci := 2) (v := .ref (ad 1)) (C := RX2) (T := TX2) (N := 18) hx hb hts (fun _ h => List.mem_cons_of_mem _ (List.mem_append_right _ h)) hown hK hP 0 rfl rfl 0 (by decide) (hts (.fieldLink RX2 7 "JointAnnuityModel" "start" "[I") (List.mem_of_getElem? (i := 1) rfl)) (fun _ h9 => h9) rfl dX2_share_19 ?_
  refine lv_iload_n hx hb dX2_share_22 rfl (lv_at hl 3 rfl) ?_
  refine va_iald hx hb hK hP 1 0 (f := fun k => nI (an k 0)) rfl rfl (vp_in_nI (n := k) (N := 20) (by omega) (by omega)) dX2_share_23 ?_
  refine j_i (y := nI (an k 0)) (by rw [nI_clamp (by omega)]) ?_
  refine lv_aload_n hx hb dX2_share_24 rfl (lv_at hl 2 rfl) ?_
  refine va_get (D := (dC, dI)) (ci := 2) (v := .ref (ad 3)) (C := RX2) (T := TX2) (N := 18) hx hb hts (fun _ h => List.mem_cons_of_mem _ (List.mem_append_right _ h)) hown hK hP 0 rfl rfl 2 (by decide) (hts (.fieldLink RX2 16 "JointAnnuityModel" "guarantee" "[I") (List.mem_of_getElem? (i := 2) rfl)) (fun _ h9 => h9) rfl dX2_share_25 ?_
  refine lv_iload_n hx hb dX2_share_28 rfl (lv_at hl 3 rfl) ?_
  refine va_iald hx hb hK hP 3 0 (f := fun k => nI (an k 2)) rfl rfl (vp_in_nI (n := k) (N := 20) (by omega) (by omega)) dX2_share_29 ?_
  refine j_i (y := nI (an k 2)) (by rw [nI_clamp (by omega)]) ?_
  refine lv_iadd hx hb dX2_share_30 ?_
  refine j_i (y := nI (an k 0 + an k 2)) (nI_add _ _) ?_
  refine lv_icmp_lt (tgt := 56) hx hb dX2_share_31 (by decide) (fun c_31 => ?_) (fun c_31 => ?_)
  · have c_31 : x < an k 0 + an k 2 := (nI_ltI (a := x) (b := an k 0 + an k 2) (by omega) (by omega)).mp c_31
    refine lv_aload_n hx hb dX2_share_56 rfl (lv_at hl 2 rfl) ?_
    refine va_get (D := (dC, dI)) (ci := 2) (v := .int (nI (jM (an k) iv x))) (C := RX2) (T := TX2) (N := 18) hx hb hts (fun _ h => List.mem_cons_of_mem _ (List.mem_append_right _ h)) hown hK hP 0 rfl rfl 15 (by decide) (hts (.fieldLink RX2 81 "JointAnnuityModel" "full" "I") (List.mem_of_getElem? (i := 4) rfl)) (fun _ h9 => h9) rfl dX2_share_57 ?_
    have hz : jM (an k) iv x = jS (an k) iv x := by
      unfold jS
      repeat' split
      all_goals first | rfl | omega
    exact W.iret (v := nI (jM (an k) iv x)) hx hb hr (fun t9 ht hW => ⟨_, rfl, by rw [← hz], ht⟩) (fun _ h => by cases h) dX2_share_60
  · have c_31 : ¬ (x < an k 0 + an k 2) := fun h => c_31 ((nI_ltI (a := x) (b := an k 0 + an k 2) (by omega) (by omega)).mpr h)
    refine lv_iload_n hx hb dX2_share_34 rfl (lv_at hl 1 rfl) ?_
    refine lv_if_eq (tgt := 43) hx hb dX2_share_35 (by decide) (fun c_35 => ?_) (fun c_35 => ?_)
    · have c_35 : z1 = 0 := (nI_eq (a := z1) (b := 0) (by omega) (by omega)).mp c_35
      refine lv_iload_n hx hb dX2_share_43 rfl (lv_at hl 1 rfl) ?_
      refine lv_if_eq (tgt := 61) hx hb dX2_share_44 (by decide) (fun c_44 => ?_) (fun c_44 => ?_)
      · have c_44 : z1 = 0 := (nI_eq (a := z1) (b := 0) (by omega) (by omega)).mp c_44
        refine lv_iload_n hx hb dX2_share_61 rfl (lv_at hl 1 rfl) ?_
        refine lv_if_ne (tgt := 70) hx hb dX2_share_62 (by decide) (fun c_62 => ?_) (fun c_62 => ?_)
        · have c_62 : ¬ (z1 = 0) := fun h => c_62 ((nI_eq (a := z1) (b := 0) (by omega) (by omega)).mpr h)
          refine lv_aload_n hx hb dX2_share_70 rfl (lv_at hl 2 rfl) ?_
          refine va_get (D := (dC, dI)) (ci := 2) (v := .int (nI (jM (an k) iv x))) (C := RX2) (T := TX2) (N := 18) hx hb hts (fun _ h => List.mem_cons_of_mem _ (List.mem_append_right _ h)) hown hK hP 0 rfl rfl 15 (by decide) (hts (.fieldLink RX2 81 "JointAnnuityModel" "full" "I") (List.mem_of_getElem? (i := 4) rfl)) (fun _ h9 => h9) rfl dX2_share_71 ?_
          refine lv_aload_n hx hb dX2_share_74 rfl (lv_at hl 2 rfl) ?_
          refine va_get (D := (dC, dI)) (ci := 2) (v := .ref (ad 4)) (C := RX2) (T := TX2) (N := 18) hx hb hts (fun _ h => List.mem_cons_of_mem _ (List.mem_append_right _ h)) hown hK hP 0 rfl rfl 3 (by decide) (hts (.fieldLink RX2 19 "JointAnnuityModel" "percent" "[I") (List.mem_of_getElem? (i := 5) rfl)) (fun _ h9 => h9) rfl dX2_share_75 ?_
          refine lv_iload_n hx hb dX2_share_78 rfl (lv_at hl 3 rfl) ?_
          refine va_iald hx hb hK hP 4 0 (f := fun k => nI (an k 3)) rfl rfl (vp_in_nI (n := k) (N := 20) (by omega) (by omega)) dX2_share_79 ?_
          refine j_i (y := nI (an k 3)) (by rw [nI_clamp (by omega)]) ?_
          refine lv_imul hx hb dX2_share_80 ?_
          refine lv_bipush (v := nI 100) hx hb dX2_share_81 (by decide) ?_
          refine lv_idiv hx hb dX2_share_83 (by decide) ?_
          refine j_i (y := nI (jM (an k) iv x * an k 3 / 100)) (jpctI hm9 v3) ?_
          refine lv_goto (tgt := 88) hx hb dX2_share_84 (by decide) ?_
          have hz : jM (an k) iv x * an k 3 / 100 = jS (an k) iv x := by
            unfold jS
            repeat' split
            all_goals first | rfl | omega
          exact W.iret (v := nI (jM (an k) iv x * an k 3 / 100)) hx hb hr (fun t9 ht hW => ⟨_, rfl, by rw [← hz], ht⟩) (fun _ h => by cases h) dX2_share_88
        · have c_62 : z1 = 0 := (nI_eq (a := z1) (b := 0) (by omega) (by omega)).mp c_62
          refine lv_iload hx hb dX2_share_65 (lv_at hl 0 rfl) ?_
          refine lv_if_eq (tgt := 87) hx hb dX2_share_67 (by decide) (fun c_67 => ?_) (fun c_67 => ?_)
          · have c_67 : z2 = 0 := (nI_eq (a := z2) (b := 0) (by omega) (by omega)).mp c_67
            refine lv_iconst (v := nI 0) hx hb dX2_share_87 (by decide) ?_
            have hz : 0 = jS (an k) iv x := by
              unfold jS
              repeat' split
              all_goals first | rfl | omega
            exact W.iret (v := nI 0) hx hb hr (fun t9 ht hW => ⟨_, rfl, by rw [← hz], ht⟩) (fun _ h => by cases h) dX2_share_88
          · have c_67 : ¬ (z2 = 0) := fun h => c_67 ((nI_eq (a := z2) (b := 0) (by omega) (by omega)).mpr h)
            refine lv_aload_n hx hb dX2_share_70 rfl (lv_at hl 2 rfl) ?_
            refine va_get (D := (dC, dI)) (ci := 2) (v := .int (nI (jM (an k) iv x))) (C := RX2) (T := TX2) (N := 18) hx hb hts (fun _ h => List.mem_cons_of_mem _ (List.mem_append_right _ h)) hown hK hP 0 rfl rfl 15 (by decide) (hts (.fieldLink RX2 81 "JointAnnuityModel" "full" "I") (List.mem_of_getElem? (i := 4) rfl)) (fun _ h9 => h9) rfl dX2_share_71 ?_
            refine lv_aload_n hx hb dX2_share_74 rfl (lv_at hl 2 rfl) ?_
            refine va_get (D := (dC, dI)) (ci := 2) (v := .ref (ad 4)) (C := RX2) (T := TX2) (N := 18) hx hb hts (fun _ h => List.mem_cons_of_mem _ (List.mem_append_right _ h)) hown hK hP 0 rfl rfl 3 (by decide) (hts (.fieldLink RX2 19 "JointAnnuityModel" "percent" "[I") (List.mem_of_getElem? (i := 5) rfl)) (fun _ h9 => h9) rfl dX2_share_75 ?_
            refine lv_iload_n hx hb dX2_share_78 rfl (lv_at hl 3 rfl) ?_
            refine va_iald hx hb hK hP 4 0 (f := fun k => nI (an k 3)) rfl rfl (vp_in_nI (n := k) (N := 20) (by omega) (by omega)) dX2_share_79 ?_
            refine j_i (y := nI (an k 3)) (by rw [nI_clamp (by omega)]) ?_
            refine lv_imul hx hb dX2_share_80 ?_
            refine lv_bipush (v := nI 100) hx hb dX2_share_81 (by decide) ?_
            refine lv_idiv hx hb dX2_share_83 (by decide) ?_
            refine j_i (y := nI (jM (an k) iv x * an k 3 / 100)) (jpctI hm9 v3) ?_
            refine lv_goto (tgt := 88) hx hb dX2_share_84 (by decide) ?_
            have hz : jM (an k) iv x * an k 3 / 100 = jS (an k) iv x := by
              unfold jS
              repeat' split
              all_goals first | rfl | omega
            exact W.iret (v := nI (jM (an k) iv x * an k 3 / 100)) hx hb hr (fun t9 ht hW => ⟨_, rfl, by rw [← hz], ht⟩) (fun _ h => by cases h) dX2_share_88
      · have c_44 : ¬ (z1 = 0) := fun h => c_44 ((nI_eq (a := z1) (b := 0) (by omega) (by omega)).mpr h)
        refine lv_aload_n hx hb dX2_share_47 rfl (lv_at hl 2 rfl) ?_
        refine va_get (D := (dC, dI)) (ci := 2) (v := .ref (ad 5)) (C := RX2) (T := TX2) (N := 18) hx hb hts (fun _ h => List.mem_cons_of_mem _ (List.mem_append_right _ h)) hown hK hP 0 rfl rfl 4 (by decide) (hts (.fieldLink RX2 22 "JointAnnuityModel" "isOnFirst" "[Z") (List.mem_of_getElem? (i := 3) rfl)) (fun _ h9 => h9) rfl dX2_share_48 ?_
        refine lv_iload_n hx hb dX2_share_51 rfl (lv_at hl 3 rfl) ?_
        refine va_zald hx hb hK hP 5 2 (f := fun k => nI (an k 4)) rfl rfl (vp_in_nI (n := k) (N := 20) (by omega) (by omega)) dX2_share_52 ?_
        refine j_i (y := nI (an k 4)) (by rw [nI_clamp (by omega)]) ?_
        refine lv_if_ne (tgt := 61) hx hb dX2_share_53 (by decide) (fun c_53 => ?_) (fun c_53 => ?_)
        · have c_53 : ¬ (an k 4 = 0) := fun h => c_53 ((nI_eq (a := an k 4) (b := 0) (by omega) (by omega)).mpr h)
          refine lv_iload_n hx hb dX2_share_61 rfl (lv_at hl 1 rfl) ?_
          refine lv_if_ne (tgt := 70) hx hb dX2_share_62 (by decide) (fun c_62 => ?_) (fun c_62 => ?_)
          · have c_62 : ¬ (z1 = 0) := fun h => c_62 ((nI_eq (a := z1) (b := 0) (by omega) (by omega)).mpr h)
            refine lv_aload_n hx hb dX2_share_70 rfl (lv_at hl 2 rfl) ?_
            refine va_get (D := (dC, dI)) (ci := 2) (v := .int (nI (jM (an k) iv x))) (C := RX2) (T := TX2) (N := 18) hx hb hts (fun _ h => List.mem_cons_of_mem _ (List.mem_append_right _ h)) hown hK hP 0 rfl rfl 15 (by decide) (hts (.fieldLink RX2 81 "JointAnnuityModel" "full" "I") (List.mem_of_getElem? (i := 4) rfl)) (fun _ h9 => h9) rfl dX2_share_71 ?_
            refine lv_aload_n hx hb dX2_share_74 rfl (lv_at hl 2 rfl) ?_
            refine va_get (D := (dC, dI)) (ci := 2) (v := .ref (ad 4)) (C := RX2) (T := TX2) (N := 18) hx hb hts (fun _ h => List.mem_cons_of_mem _ (List.mem_append_right _ h)) hown hK hP 0 rfl rfl 3 (by decide) (hts (.fieldLink RX2 19 "JointAnnuityModel" "percent" "[I") (List.mem_of_getElem? (i := 5) rfl)) (fun _ h9 => h9) rfl dX2_share_75 ?_
            refine lv_iload_n hx hb dX2_share_78 rfl (lv_at hl 3 rfl) ?_
            refine va_iald hx hb hK hP 4 0 (f := fun k => nI (an k 3)) rfl rfl (vp_in_nI (n := k) (N := 20) (by omega) (by omega)) dX2_share_79 ?_
            refine j_i (y := nI (an k 3)) (by rw [nI_clamp (by omega)]) ?_
            refine lv_imul hx hb dX2_share_80 ?_
            refine lv_bipush (v := nI 100) hx hb dX2_share_81 (by decide) ?_
            refine lv_idiv hx hb dX2_share_83 (by decide) ?_
            refine j_i (y := nI (jM (an k) iv x * an k 3 / 100)) (jpctI hm9 v3) ?_
            refine lv_goto (tgt := 88) hx hb dX2_share_84 (by decide) ?_
            have hz : jM (an k) iv x * an k 3 / 100 = jS (an k) iv x := by
              unfold jS
              repeat' split
              all_goals first | rfl | omega
            exact W.iret (v := nI (jM (an k) iv x * an k 3 / 100)) hx hb hr (fun t9 ht hW => ⟨_, rfl, by rw [← hz], ht⟩) (fun _ h => by cases h) dX2_share_88
          · have c_62 : z1 = 0 := (nI_eq (a := z1) (b := 0) (by omega) (by omega)).mp c_62
            refine lv_iload hx hb dX2_share_65 (lv_at hl 0 rfl) ?_
            refine lv_if_eq (tgt := 87) hx hb dX2_share_67 (by decide) (fun c_67 => ?_) (fun c_67 => ?_)
            · have c_67 : z2 = 0 := (nI_eq (a := z2) (b := 0) (by omega) (by omega)).mp c_67
              refine lv_iconst (v := nI 0) hx hb dX2_share_87 (by decide) ?_
              have hz : 0 = jS (an k) iv x := by
                unfold jS
                repeat' split
                all_goals first | rfl | omega
              exact W.iret (v := nI 0) hx hb hr (fun t9 ht hW => ⟨_, rfl, by rw [← hz], ht⟩) (fun _ h => by cases h) dX2_share_88
            · have c_67 : ¬ (z2 = 0) := fun h => c_67 ((nI_eq (a := z2) (b := 0) (by omega) (by omega)).mpr h)
              refine lv_aload_n hx hb dX2_share_70 rfl (lv_at hl 2 rfl) ?_
              refine va_get (D := (dC, dI)) (ci := 2) (v := .int (nI (jM (an k) iv x))) (C := RX2) (T := TX2) (N := 18) hx hb hts (fun _ h => List.mem_cons_of_mem _ (List.mem_append_right _ h)) hown hK hP 0 rfl rfl 15 (by decide) (hts (.fieldLink RX2 81 "JointAnnuityModel" "full" "I") (List.mem_of_getElem? (i := 4) rfl)) (fun _ h9 => h9) rfl dX2_share_71 ?_
              refine lv_aload_n hx hb dX2_share_74 rfl (lv_at hl 2 rfl) ?_
              refine va_get (D := (dC, dI)) (ci := 2) (v := .ref (ad 4)) (C := RX2) (T := TX2) (N := 18) hx hb hts (fun _ h => List.mem_cons_of_mem _ (List.mem_append_right _ h)) hown hK hP 0 rfl rfl 3 (by decide) (hts (.fieldLink RX2 19 "JointAnnuityModel" "percent" "[I") (List.mem_of_getElem? (i := 5) rfl)) (fun _ h9 => h9) rfl dX2_share_75 ?_
              refine lv_iload_n hx hb dX2_share_78 rfl (lv_at hl 3 rfl) ?_
              refine va_iald hx hb hK hP 4 0 (f := fun k => nI (an k 3)) rfl rfl (vp_in_nI (n := k) (N := 20) (by omega) (by omega)) dX2_share_79 ?_
              refine j_i (y := nI (an k 3)) (by rw [nI_clamp (by omega)]) ?_
              refine lv_imul hx hb dX2_share_80 ?_
              refine lv_bipush (v := nI 100) hx hb dX2_share_81 (by decide) ?_
              refine lv_idiv hx hb dX2_share_83 (by decide) ?_
              refine j_i (y := nI (jM (an k) iv x * an k 3 / 100)) (jpctI hm9 v3) ?_
              refine lv_goto (tgt := 88) hx hb dX2_share_84 (by decide) ?_
              have hz : jM (an k) iv x * an k 3 / 100 = jS (an k) iv x := by
                unfold jS
                repeat' split
                all_goals first | rfl | omega
              exact W.iret (v := nI (jM (an k) iv x * an k 3 / 100)) hx hb hr (fun t9 ht hW => ⟨_, rfl, by rw [← hz], ht⟩) (fun _ h => by cases h) dX2_share_88
        · have c_53 : an k 4 = 0 := (nI_eq (a := an k 4) (b := 0) (by omega) (by omega)).mp c_53
          refine lv_aload_n hx hb dX2_share_56 rfl (lv_at hl 2 rfl) ?_
          refine va_get (D := (dC, dI)) (ci := 2) (v := .int (nI (jM (an k) iv x))) (C := RX2) (T := TX2) (N := 18) hx hb hts (fun _ h => List.mem_cons_of_mem _ (List.mem_append_right _ h)) hown hK hP 0 rfl rfl 15 (by decide) (hts (.fieldLink RX2 81 "JointAnnuityModel" "full" "I") (List.mem_of_getElem? (i := 4) rfl)) (fun _ h9 => h9) rfl dX2_share_57 ?_
          have hz : jM (an k) iv x = jS (an k) iv x := by
            unfold jS
            repeat' split
            all_goals first | rfl | omega
          exact W.iret (v := nI (jM (an k) iv x)) hx hb hr (fun t9 ht hW => ⟨_, rfl, by rw [← hz], ht⟩) (fun _ h => by cases h) dX2_share_60
    · have c_35 : ¬ (z1 = 0) := fun h => c_35 ((nI_eq (a := z1) (b := 0) (by omega) (by omega)).mpr h)
      refine lv_iload hx hb dX2_share_38 (lv_at hl 0 rfl) ?_
      refine lv_if_ne (tgt := 56) hx hb dX2_share_40 (by decide) (fun c_40 => ?_) (fun c_40 => ?_)
      · have c_40 : ¬ (z2 = 0) := fun h => c_40 ((nI_eq (a := z2) (b := 0) (by omega) (by omega)).mpr h)
        refine lv_aload_n hx hb dX2_share_56 rfl (lv_at hl 2 rfl) ?_
        refine va_get (D := (dC, dI)) (ci := 2) (v := .int (nI (jM (an k) iv x))) (C := RX2) (T := TX2) (N := 18) hx hb hts (fun _ h => List.mem_cons_of_mem _ (List.mem_append_right _ h)) hown hK hP 0 rfl rfl 15 (by decide) (hts (.fieldLink RX2 81 "JointAnnuityModel" "full" "I") (List.mem_of_getElem? (i := 4) rfl)) (fun _ h9 => h9) rfl dX2_share_57 ?_
        have hz : jM (an k) iv x = jS (an k) iv x := by
          unfold jS
          repeat' split
          all_goals first | rfl | omega
        exact W.iret (v := nI (jM (an k) iv x)) hx hb hr (fun t9 ht hW => ⟨_, rfl, by rw [← hz], ht⟩) (fun _ h => by cases h) dX2_share_60
      · have c_40 : z2 = 0 := (nI_eq (a := z2) (b := 0) (by omega) (by omega)).mp c_40
        refine lv_iload_n hx hb dX2_share_43 rfl (lv_at hl 1 rfl) ?_
        refine lv_if_eq (tgt := 61) hx hb dX2_share_44 (by decide) (fun c_44 => ?_) (fun c_44 => ?_)
        · have c_44 : z1 = 0 := (nI_eq (a := z1) (b := 0) (by omega) (by omega)).mp c_44
          refine lv_iload_n hx hb dX2_share_61 rfl (lv_at hl 1 rfl) ?_
          refine lv_if_ne (tgt := 70) hx hb dX2_share_62 (by decide) (fun c_62 => ?_) (fun c_62 => ?_)
          · have c_62 : ¬ (z1 = 0) := fun h => c_62 ((nI_eq (a := z1) (b := 0) (by omega) (by omega)).mpr h)
            refine lv_aload_n hx hb dX2_share_70 rfl (lv_at hl 2 rfl) ?_
            refine va_get (D := (dC, dI)) (ci := 2) (v := .int (nI (jM (an k) iv x))) (C := RX2) (T := TX2) (N := 18) hx hb hts (fun _ h => List.mem_cons_of_mem _ (List.mem_append_right _ h)) hown hK hP 0 rfl rfl 15 (by decide) (hts (.fieldLink RX2 81 "JointAnnuityModel" "full" "I") (List.mem_of_getElem? (i := 4) rfl)) (fun _ h9 => h9) rfl dX2_share_71 ?_
            refine lv_aload_n hx hb dX2_share_74 rfl (lv_at hl 2 rfl) ?_
            refine va_get (D := (dC, dI)) (ci := 2) (v := .ref (ad 4)) (C := RX2) (T := TX2) (N := 18) hx hb hts (fun _ h => List.mem_cons_of_mem _ (List.mem_append_right _ h)) hown hK hP 0 rfl rfl 3 (by decide) (hts (.fieldLink RX2 19 "JointAnnuityModel" "percent" "[I") (List.mem_of_getElem? (i := 5) rfl)) (fun _ h9 => h9) rfl dX2_share_75 ?_
            refine lv_iload_n hx hb dX2_share_78 rfl (lv_at hl 3 rfl) ?_
            refine va_iald hx hb hK hP 4 0 (f := fun k => nI (an k 3)) rfl rfl (vp_in_nI (n := k) (N := 20) (by omega) (by omega)) dX2_share_79 ?_
            refine j_i (y := nI (an k 3)) (by rw [nI_clamp (by omega)]) ?_
            refine lv_imul hx hb dX2_share_80 ?_
            refine lv_bipush (v := nI 100) hx hb dX2_share_81 (by decide) ?_
            refine lv_idiv hx hb dX2_share_83 (by decide) ?_
            refine j_i (y := nI (jM (an k) iv x * an k 3 / 100)) (jpctI hm9 v3) ?_
            refine lv_goto (tgt := 88) hx hb dX2_share_84 (by decide) ?_
            have hz : jM (an k) iv x * an k 3 / 100 = jS (an k) iv x := by
              unfold jS
              repeat' split
              all_goals first | rfl | omega
            exact W.iret (v := nI (jM (an k) iv x * an k 3 / 100)) hx hb hr (fun t9 ht hW => ⟨_, rfl, by rw [← hz], ht⟩) (fun _ h => by cases h) dX2_share_88
          · have c_62 : z1 = 0 := (nI_eq (a := z1) (b := 0) (by omega) (by omega)).mp c_62
            refine lv_iload hx hb dX2_share_65 (lv_at hl 0 rfl) ?_
            refine lv_if_eq (tgt := 87) hx hb dX2_share_67 (by decide) (fun c_67 => ?_) (fun c_67 => ?_)
            · have c_67 : z2 = 0 := (nI_eq (a := z2) (b := 0) (by omega) (by omega)).mp c_67
              refine lv_iconst (v := nI 0) hx hb dX2_share_87 (by decide) ?_
              have hz : 0 = jS (an k) iv x := by
                unfold jS
                repeat' split
                all_goals first | rfl | omega
              exact W.iret (v := nI 0) hx hb hr (fun t9 ht hW => ⟨_, rfl, by rw [← hz], ht⟩) (fun _ h => by cases h) dX2_share_88
            · have c_67 : ¬ (z2 = 0) := fun h => c_67 ((nI_eq (a := z2) (b := 0) (by omega) (by omega)).mpr h)
              refine lv_aload_n hx hb dX2_share_70 rfl (lv_at hl 2 rfl) ?_
              refine va_get (D := (dC, dI)) (ci := 2) (v := .int (nI (jM (an k) iv x))) (C := RX2) (T := TX2) (N := 18) hx hb hts (fun _ h => List.mem_cons_of_mem _ (List.mem_append_right _ h)) hown hK hP 0 rfl rfl 15 (by decide) (hts (.fieldLink RX2 81 "JointAnnuityModel" "full" "I") (List.mem_of_getElem? (i := 4) rfl)) (fun _ h9 => h9) rfl dX2_share_71 ?_
              refine lv_aload_n hx hb dX2_share_74 rfl (lv_at hl 2 rfl) ?_
              refine va_get (D := (dC, dI)) (ci := 2) (v := .ref (ad 4)) (C := RX2) (T := TX2) (N := 18) hx hb hts (fun _ h => List.mem_cons_of_mem _ (List.mem_append_right _ h)) hown hK hP 0 rfl rfl 3 (by decide) (hts (.fieldLink RX2 19 "JointAnnuityModel" "percent" "[I") (List.mem_of_getElem? (i := 5) rfl)) (fun _ h9 => h9) rfl dX2_share_75 ?_
              refine lv_iload_n hx hb dX2_share_78 rfl (lv_at hl 3 rfl) ?_
              refine va_iald hx hb hK hP 4 0 (f := fun k => nI (an k 3)) rfl rfl (vp_in_nI (n := k) (N := 20) (by omega) (by omega)) dX2_share_79 ?_
              refine j_i (y := nI (an k 3)) (by rw [nI_clamp (by omega)]) ?_
              refine lv_imul hx hb dX2_share_80 ?_
              refine lv_bipush (v := nI 100) hx hb dX2_share_81 (by decide) ?_
              refine lv_idiv hx hb dX2_share_83 (by decide) ?_
              refine j_i (y := nI (jM (an k) iv x * an k 3 / 100)) (jpctI hm9 v3) ?_
              refine lv_goto (tgt := 88) hx hb dX2_share_84 (by decide) ?_
              have hz : jM (an k) iv x * an k 3 / 100 = jS (an k) iv x := by
                unfold jS
                repeat' split
                all_goals first | rfl | omega
              exact W.iret (v := nI (jM (an k) iv x * an k 3 / 100)) hx hb hr (fun t9 ht hW => ⟨_, rfl, by rw [← hz], ht⟩) (fun _ h => by cases h) dX2_share_88
        · have c_44 : ¬ (z1 = 0) := fun h => c_44 ((nI_eq (a := z1) (b := 0) (by omega) (by omega)).mpr h)
          refine lv_aload_n hx hb dX2_share_47 rfl (lv_at hl 2 rfl) ?_
          refine va_get (D := (dC, dI)) (ci := 2) (v := .ref (ad 5)) (C := RX2) (T := TX2) (N := 18) hx hb hts (fun _ h => List.mem_cons_of_mem _ (List.mem_append_right _ h)) hown hK hP 0 rfl rfl 4 (by decide) (hts (.fieldLink RX2 22 "JointAnnuityModel" "isOnFirst" "[Z") (List.mem_of_getElem? (i := 3) rfl)) (fun _ h9 => h9) rfl dX2_share_48 ?_
          refine lv_iload_n hx hb dX2_share_51 rfl (lv_at hl 3 rfl) ?_
          refine va_zald hx hb hK hP 5 2 (f := fun k => nI (an k 4)) rfl rfl (vp_in_nI (n := k) (N := 20) (by omega) (by omega)) dX2_share_52 ?_
          refine j_i (y := nI (an k 4)) (by rw [nI_clamp (by omega)]) ?_
          refine lv_if_ne (tgt := 61) hx hb dX2_share_53 (by decide) (fun c_53 => ?_) (fun c_53 => ?_)
          · have c_53 : ¬ (an k 4 = 0) := fun h => c_53 ((nI_eq (a := an k 4) (b := 0) (by omega) (by omega)).mpr h)
            refine lv_iload_n hx hb dX2_share_61 rfl (lv_at hl 1 rfl) ?_
            refine lv_if_ne (tgt := 70) hx hb dX2_share_62 (by decide) (fun c_62 => ?_) (fun c_62 => ?_)
            · have c_62 : ¬ (z1 = 0) := fun h => c_62 ((nI_eq (a := z1) (b := 0) (by omega) (by omega)).mpr h)
              refine lv_aload_n hx hb dX2_share_70 rfl (lv_at hl 2 rfl) ?_
              refine va_get (D := (dC, dI)) (ci := 2) (v := .int (nI (jM (an k) iv x))) (C := RX2) (T := TX2) (N := 18) hx hb hts (fun _ h => List.mem_cons_of_mem _ (List.mem_append_right _ h)) hown hK hP 0 rfl rfl 15 (by decide) (hts (.fieldLink RX2 81 "JointAnnuityModel" "full" "I") (List.mem_of_getElem? (i := 4) rfl)) (fun _ h9 => h9) rfl dX2_share_71 ?_
              refine lv_aload_n hx hb dX2_share_74 rfl (lv_at hl 2 rfl) ?_
              refine va_get (D := (dC, dI)) (ci := 2) (v := .ref (ad 4)) (C := RX2) (T := TX2) (N := 18) hx hb hts (fun _ h => List.mem_cons_of_mem _ (List.mem_append_right _ h)) hown hK hP 0 rfl rfl 3 (by decide) (hts (.fieldLink RX2 19 "JointAnnuityModel" "percent" "[I") (List.mem_of_getElem? (i := 5) rfl)) (fun _ h9 => h9) rfl dX2_share_75 ?_
              refine lv_iload_n hx hb dX2_share_78 rfl (lv_at hl 3 rfl) ?_
              refine va_iald hx hb hK hP 4 0 (f := fun k => nI (an k 3)) rfl rfl (vp_in_nI (n := k) (N := 20) (by omega) (by omega)) dX2_share_79 ?_
              refine j_i (y := nI (an k 3)) (by rw [nI_clamp (by omega)]) ?_
              refine lv_imul hx hb dX2_share_80 ?_
              refine lv_bipush (v := nI 100) hx hb dX2_share_81 (by decide) ?_
              refine lv_idiv hx hb dX2_share_83 (by decide) ?_
              refine j_i (y := nI (jM (an k) iv x * an k 3 / 100)) (jpctI hm9 v3) ?_
              refine lv_goto (tgt := 88) hx hb dX2_share_84 (by decide) ?_
              have hz : jM (an k) iv x * an k 3 / 100 = jS (an k) iv x := by
                unfold jS
                repeat' split
                all_goals first | rfl | omega
              exact W.iret (v := nI (jM (an k) iv x * an k 3 / 100)) hx hb hr (fun t9 ht hW => ⟨_, rfl, by rw [← hz], ht⟩) (fun _ h => by cases h) dX2_share_88
            · have c_62 : z1 = 0 := (nI_eq (a := z1) (b := 0) (by omega) (by omega)).mp c_62
              refine lv_iload hx hb dX2_share_65 (lv_at hl 0 rfl) ?_
              refine lv_if_eq (tgt := 87) hx hb dX2_share_67 (by decide) (fun c_67 => ?_) (fun c_67 => ?_)
              · have c_67 : z2 = 0 := (nI_eq (a := z2) (b := 0) (by omega) (by omega)).mp c_67
                refine lv_iconst (v := nI 0) hx hb dX2_share_87 (by decide) ?_
                have hz : 0 = jS (an k) iv x := by
                  unfold jS
                  repeat' split
                  all_goals first | rfl | omega
                exact W.iret (v := nI 0) hx hb hr (fun t9 ht hW => ⟨_, rfl, by rw [← hz], ht⟩) (fun _ h => by cases h) dX2_share_88
              · have c_67 : ¬ (z2 = 0) := fun h => c_67 ((nI_eq (a := z2) (b := 0) (by omega) (by omega)).mpr h)
                refine lv_aload_n hx hb dX2_share_70 rfl (lv_at hl 2 rfl) ?_
                refine va_get (D := (dC, dI)) (ci := 2) (v := .int (nI (jM (an k) iv x))) (C := RX2) (T := TX2) (N := 18) hx hb hts (fun _ h => List.mem_cons_of_mem _ (List.mem_append_right _ h)) hown hK hP 0 rfl rfl 15 (by decide) (hts (.fieldLink RX2 81 "JointAnnuityModel" "full" "I") (List.mem_of_getElem? (i := 4) rfl)) (fun _ h9 => h9) rfl dX2_share_71 ?_
                refine lv_aload_n hx hb dX2_share_74 rfl (lv_at hl 2 rfl) ?_
                refine va_get (D := (dC, dI)) (ci := 2) (v := .ref (ad 4)) (C := RX2) (T := TX2) (N := 18) hx hb hts (fun _ h => List.mem_cons_of_mem _ (List.mem_append_right _ h)) hown hK hP 0 rfl rfl 3 (by decide) (hts (.fieldLink RX2 19 "JointAnnuityModel" "percent" "[I") (List.mem_of_getElem? (i := 5) rfl)) (fun _ h9 => h9) rfl dX2_share_75 ?_
                refine lv_iload_n hx hb dX2_share_78 rfl (lv_at hl 3 rfl) ?_
                refine va_iald hx hb hK hP 4 0 (f := fun k => nI (an k 3)) rfl rfl (vp_in_nI (n := k) (N := 20) (by omega) (by omega)) dX2_share_79 ?_
                refine j_i (y := nI (an k 3)) (by rw [nI_clamp (by omega)]) ?_
                refine lv_imul hx hb dX2_share_80 ?_
                refine lv_bipush (v := nI 100) hx hb dX2_share_81 (by decide) ?_
                refine lv_idiv hx hb dX2_share_83 (by decide) ?_
                refine j_i (y := nI (jM (an k) iv x * an k 3 / 100)) (jpctI hm9 v3) ?_
                refine lv_goto (tgt := 88) hx hb dX2_share_84 (by decide) ?_
                have hz : jM (an k) iv x * an k 3 / 100 = jS (an k) iv x := by
                  unfold jS
                  repeat' split
                  all_goals first | rfl | omega
                exact W.iret (v := nI (jM (an k) iv x * an k 3 / 100)) hx hb hr (fun t9 ht hW => ⟨_, rfl, by rw [← hz], ht⟩) (fun _ h => by cases h) dX2_share_88
          · have c_53 : an k 4 = 0 := (nI_eq (a := an k 4) (b := 0) (by omega) (by omega)).mp c_53
            refine lv_aload_n hx hb dX2_share_56 rfl (lv_at hl 2 rfl) ?_
            refine va_get (D := (dC, dI)) (ci := 2) (v := .int (nI (jM (an k) iv x))) (C := RX2) (T := TX2) (N := 18) hx hb hts (fun _ h => List.mem_cons_of_mem _ (List.mem_append_right _ h)) hown hK hP 0 rfl rfl 15 (by decide) (hts (.fieldLink RX2 81 "JointAnnuityModel" "full" "I") (List.mem_of_getElem? (i := 4) rfl)) (fun _ h9 => h9) rfl dX2_share_57 ?_
            have hz : jM (an k) iv x = jS (an k) iv x := by
              unfold jS
              repeat' split
              all_goals first | rfl | omega
            exact W.iret (v := nI (jM (an k) iv x)) hx hb hr (fun t9 ht hW => ⟨_, rfl, by rw [← hz], ht⟩) (fun _ h => by cases h) dX2_share_60
set_option maxHeartbeats 4000000 in
set_option maxRecDepth 100000 in
/-- the month of the protection -/
theorem c_X2_protectedAt (l : Launch) (dC : Nat → ClassId) (dI : Nat → Nat → Nat) (cI cJ cZ cO : ClassId) (ad : Nat → Nat) (n mo : Nat) (iv : Nat → Int32) (an : Nat → Nat → Nat) (T B : Nat → Int64) (py : Nat → Nat → Int64) (fu cy th : Int32) (k : Nat)  (hn : n ≤ 20) (hm : mo ≤ 240) (hv : ∀ k, k < n → jV (an k)) (hk : k < n) : Met l yX2_protectedAt wsX2_protectedAt ({ frames := 0, cells := 0, slots := 0, locals := 0 }) (va_Pc [.ref (ad 0), .int (nI k)] (jR (dC, dI) (jTY cI cJ cZ cO) (jMW cI cJ cZ ad n mo iv an T B py fu cy th))) (vp_Si (fun r => r = nI (jP (an k)))) 0 0 (fun _ => False) := by
  refine j_of (cc := cX2_protectedAt) (maxL := 6) (ret := (some .int)) (by decide) rfl (Nat.le_of_ble_eq_true rfl) ?_
  intro p e s m below meth c ls hx hb hr hml hts hown hlocks hnm hl hpre
  have hown : s.vm.findClass RX2 = some m.cls := hown
  have hl : lv_has ls 6 [(0, .ref (ad 0)), (1, .int (nI k))] := hl
  obtain ⟨v0, v1, v2, v3, v4, v5, v6, v7, v8, v9⟩ := hv k hk
  obtain ⟨hP, hK⟩ := hpre
  refine lv_aload_n hx hb dX2_protectedAt_0 rfl (lv_at hl 0 rfl) ?_
  refine va_get (D := (dC, dI)) (ci := 2) (v := .ref (ad 9)) (C := RX2) (T := TX2) (N := 18) hx hb hts (fun _ h => List.mem_cons_of_mem _ (List.mem_append_right _ h)) hown hK hP 0 rfl rfl 8 (by decide) (hts (.fieldLink RX2 35 "JointAnnuityModel" "death" "[I") (List.mem_of_getElem? (i := 1) rfl)) (fun _ h9 => h9) rfl dX2_protectedAt_1 ?_
  refine lv_iconst (v := nI 2) hx hb dX2_protectedAt_4 (by decide) ?_
  refine lv_iload_n hx hb dX2_protectedAt_5 rfl (lv_at hl 1 rfl) ?_
  refine lv_imul hx hb dX2_protectedAt_6 ?_
  refine j_i (y := nI (2 * k)) (pk_mul _ _) ?_
  refine va_iald hx hb hK hP 9 0 (f := jdC an) rfl rfl (vp_in_nI (n := 2 * k) (N := 40) (by omega) (by omega)) dX2_protectedAt_7 ?_
  refine j_i (y := jdM (an k 8)) (jdc0 an (by omega)) ?_
  refine lv_istore_n (lv' := [(2, .int (jdM (an k 8))), (0, .ref (ad 0)), (1, .int (nI k))]) hx hb dX2_protectedAt_8 rfl hl (by decide) rfl (fun ls hl => ?_)
  refine lv_aload_n hx hb dX2_protectedAt_9 rfl (lv_at hl 1 rfl) ?_
  refine va_get (D := (dC, dI)) (ci := 2) (v := .ref (ad 9)) (C := RX2) (T := TX2) (N := 18) hx hb hts (fun _ h => List.mem_cons_of_mem _ (List.mem_append_right _ h)) hown hK hP 0 rfl rfl 8 (by decide) (hts (.fieldLink RX2 35 "JointAnnuityModel" "death" "[I") (List.mem_of_getElem? (i := 1) rfl)) (fun _ h9 => h9) rfl dX2_protectedAt_10 ?_
  refine lv_iconst (v := nI 2) hx hb dX2_protectedAt_13 (by decide) ?_
  refine lv_iload_n hx hb dX2_protectedAt_14 rfl (lv_at hl 2 rfl) ?_
  refine lv_imul hx hb dX2_protectedAt_15 ?_
  refine j_i (y := nI (2 * k)) (pk_mul _ _) ?_
  refine lv_iconst (v := nI 1) hx hb dX2_protectedAt_16 (by decide) ?_
  refine lv_iadd hx hb dX2_protectedAt_17 ?_
  refine j_i (y := nI (2 * k + 1)) (nI_add _ _) ?_
  refine va_iald hx hb hK hP 9 0 (f := jdC an) rfl rfl (vp_in_nI (n := 2 * k + 1) (N := 40) (by omega) (by omega)) dX2_protectedAt_18 ?_
  refine j_i (y := jdM (an k 9)) (jdc1 an (by omega)) ?_
  refine lv_istore_n (lv' := [(3, .int (jdM (an k 9))), (2, .int (jdM (an k 8))), (0, .ref (ad 0)), (1, .int (nI k))]) hx hb dX2_protectedAt_19 rfl hl (by decide) rfl (fun ls hl => ?_)
  refine j_join (fun w : Nat => w ≤ 240 ∧ (an k 8 ≠ 240 → an k 9 ≠ 240 → w = max (an k 8) (an k 9) + 1)) (fun w => F0 m 32 ls [.int (nI w)]) (fun w hw => ?_) (fun J32 => ?_)
  · obtain ⟨hwa, hwb⟩ := hw
    refine lv_istore (lv' := [(4, .int (nI w)), (3, .int (jdM (an k 9))), (2, .int (jdM (an k 8))), (0, .ref (ad 0)), (1, .int (nI k))]) hx hb dX2_protectedAt_32 hl (by decide) rfl (fun ls hl => ?_)
    refine lv_aload_n hx hb dX2_protectedAt_34 rfl (lv_at hl 3 rfl) ?_
    refine va_get (D := (dC, dI)) (ci := 2) (v := .ref (ad 1)) (C := RX2) (T := TX2) (N := 18) hx hb hts (fun _ h => List.mem_cons_of_mem _ (List.mem_append_right _ h)) hown hK hP 0 rfl rfl 0 (by decide) (hts (.fieldLink RX2 7 "JointAnnuityModel" "start" "[I") (List.mem_of_getElem? (i := 2) rfl)) (fun _ h9 => h9) rfl dX2_protectedAt_35 ?_
    refine lv_iload_n hx hb dX2_protectedAt_38 rfl (lv_at hl 4 rfl) ?_
    refine va_iald hx hb hK hP 1 0 (f := fun k => nI (an k 0)) rfl rfl (vp_in_nI (n := k) (N := 20) (by omega) (by omega)) dX2_protectedAt_39 ?_
    refine j_i (y := nI (an k 0)) (by rw [nI_clamp (by omega)]) ?_
    refine lv_aload_n hx hb dX2_protectedAt_40 rfl (lv_at hl 3 rfl) ?_
    refine va_get (D := (dC, dI)) (ci := 2) (v := .ref (ad 3)) (C := RX2) (T := TX2) (N := 18) hx hb hts (fun _ h => List.mem_cons_of_mem _ (List.mem_append_right _ h)) hown hK hP 0 rfl rfl 2 (by decide) (hts (.fieldLink RX2 16 "JointAnnuityModel" "guarantee" "[I") (List.mem_of_getElem? (i := 3) rfl)) (fun _ h9 => h9) rfl dX2_protectedAt_41 ?_
    refine lv_iload_n hx hb dX2_protectedAt_44 rfl (lv_at hl 4 rfl) ?_
    refine va_iald hx hb hK hP 3 0 (f := fun k => nI (an k 2)) rfl rfl (vp_in_nI (n := k) (N := 20) (by omega) (by omega)) dX2_protectedAt_45 ?_
    refine j_i (y := nI (an k 2)) (by rw [nI_clamp (by omega)]) ?_
    refine lv_iadd hx hb dX2_protectedAt_46 ?_
    refine j_i (y := nI (an k 0 + an k 2)) (nI_add _ _) ?_
    refine lv_istore (lv' := [(5, .int (nI (an k 0 + an k 2))), (4, .int (nI w)), (3, .int (jdM (an k 9))), (2, .int (jdM (an k 8))), (0, .ref (ad 0)), (1, .int (nI k))]) hx hb dX2_protectedAt_47 hl (by decide) rfl (fun ls hl => ?_)
    refine j_join (fun w2 : Nat => w2 = max w (an k 0 + an k 2)) (fun w2 => F0 m 63 ls [.int (nI w2)]) (fun w2 hw2 => ?_) (fun J63 => ?_)
    · refine lv_istore (lv' := [(4, .int (nI w2)), (5, .int (nI (an k 0 + an k 2))), (3, .int (jdM (an k 9))), (2, .int (jdM (an k 8))), (0, .ref (ad 0)), (1, .int (nI k))]) hx hb dX2_protectedAt_63 hl (by decide) rfl (fun ls hl => ?_)
      refine lv_iload_n hx hb dX2_protectedAt_65 rfl (lv_at hl 3 rfl) ?_
      refine lv_if_lt (tgt := 81) hx hb dX2_protectedAt_66 (by decide) (fun c_66 => ?_) (fun c_66 => ?_)
      · have hd9 := (jdM_neg v8).mp c_66
        refine lv_sipush (v := nI 240) hx hb dX2_protectedAt_81 (by decide) ?_
        refine lv_goto (tgt := 89) hx hb dX2_protectedAt_84 (by decide) ?_
        exact W.iret (v := nI 240) hx hb hr (fun t9 ht hW => ⟨_, rfl, by unfold jP; rw [if_pos (Or.inl hd9)], ht⟩) (fun _ h => by cases h) dX2_protectedAt_89
      · have hd8 : ¬ an k 8 = 240 := fun h => c_66 ((jdM_neg v8).mpr h)
        refine lv_iload_n hx hb dX2_protectedAt_69 rfl (lv_at hl 2 rfl) ?_
        refine lv_if_lt (tgt := 81) hx hb dX2_protectedAt_70 (by decide) (fun c_70 => ?_) (fun c_70 => ?_)
        · have hd9 := (jdM_neg v9).mp c_70
          refine lv_sipush (v := nI 240) hx hb dX2_protectedAt_81 (by decide) ?_
          refine lv_goto (tgt := 89) hx hb dX2_protectedAt_84 (by decide) ?_
          exact W.iret (v := nI 240) hx hb hr (fun t9 ht hW => ⟨_, rfl, by unfold jP; rw [if_pos (Or.inr hd9)], ht⟩) (fun _ h => by cases h) dX2_protectedAt_89
        · have hd9 : ¬ an k 9 = 240 := fun h => c_70 ((jdM_neg v9).mpr h)
          have hw3 := hwb hd8 hd9
          refine lv_iload hx hb dX2_protectedAt_73 (lv_at hl 0 rfl) ?_
          refine lv_sipush (v := nI 240) hx hb dX2_protectedAt_75 (by decide) ?_
          refine lv_icmp_le (tgt := 87) hx hb dX2_protectedAt_78 (by decide) (fun c_78 => ?_) (fun c_78 => ?_)
          · have c_78 : w2 ≤ 240 := (nI_leI (a := w2) (b := 240) (by omega) (by omega)).mp c_78
            refine lv_iload hx hb dX2_protectedAt_87 (lv_at hl 0 rfl) ?_
            exact W.iret (v := nI w2) hx hb hr (fun t9 ht hW => ⟨_, rfl, by unfold jP; rw [if_neg (fun h => h.elim hd8 hd9)]; congr 1; omega, ht⟩) (fun _ h => by cases h) dX2_protectedAt_89
          · have c_78 : ¬ (w2 ≤ 240) := fun h => c_78 ((nI_leI (a := w2) (b := 240) (by omega) (by omega)).mpr h)
            refine lv_sipush (v := nI 240) hx hb dX2_protectedAt_81 (by decide) ?_
            refine lv_goto (tgt := 89) hx hb dX2_protectedAt_84 (by decide) ?_
            exact W.iret (v := nI 240) hx hb hr (fun t9 ht hW => ⟨_, rfl, by unfold jP; rw [if_neg (fun h => h.elim hd8 hd9)]; congr 1; omega, ht⟩) (fun _ h => by cases h) dX2_protectedAt_89
    refine lv_iload hx hb dX2_protectedAt_49 (lv_at hl 1 rfl) ?_
    refine lv_iload hx hb dX2_protectedAt_51 (lv_at hl 0 rfl) ?_
    refine lv_icmp_le (tgt := 61) hx hb dX2_protectedAt_53 (by decide) (fun c_53 => ?_) (fun c_53 => ?_)
    · have c_53 : w ≤ an k 0 + an k 2 := (nI_leI (a := w) (b := an k 0 + an k 2) (by omega) (by omega)).mp c_53
      refine lv_iload hx hb dX2_protectedAt_61 (lv_at hl 0 rfl) ?_
      exact J63 (an k 0 + an k 2) (by omega)
    · have c_53 : ¬ (w ≤ an k 0 + an k 2) := fun h => c_53 ((nI_leI (a := w) (b := an k 0 + an k 2) (by omega) (by omega)).mpr h)
      refine lv_iload hx hb dX2_protectedAt_56 (lv_at hl 1 rfl) ?_
      refine lv_goto (tgt := 63) hx hb dX2_protectedAt_58 (by decide) ?_
      exact J63 w (by omega)
  refine lv_iload_n hx hb dX2_protectedAt_20 rfl (lv_at hl 1 rfl) ?_
  refine lv_iload_n hx hb dX2_protectedAt_21 rfl (lv_at hl 0 rfl) ?_
  refine lv_icmp_le (tgt := 29) hx hb dX2_protectedAt_22 (by decide) (fun c_22 => ?_) (fun c_22 => ?_)
  · refine lv_iload_n hx hb dX2_protectedAt_29 rfl (lv_at hl 0 rfl) ?_
    refine lv_iconst (v := nI 1) hx hb dX2_protectedAt_30 (by decide) ?_
    refine lv_iadd hx hb dX2_protectedAt_31 ?_
    refine j_i (y := nI (jdw (an k 9))) (jdM_1) ?_
    exact J32 (jdw (an k 9)) ⟨jdw_le v9, fun a b => by rw [jdw_t b]; have := (jdM_le v8 v9 a b).mp c_22; omega⟩
  · refine lv_iload_n hx hb dX2_protectedAt_25 rfl (lv_at hl 1 rfl) ?_
    refine lv_goto (tgt := 30) hx hb dX2_protectedAt_26 (by decide) ?_
    refine lv_iconst (v := nI 1) hx hb dX2_protectedAt_30 (by decide) ?_
    refine lv_iadd hx hb dX2_protectedAt_31 ?_
    refine j_i (y := nI (jdw (an k 8))) (jdM_1) ?_
    exact J32 (jdw (an k 8)) ⟨jdw_le v8, fun a b => by rw [jdw_t a]; have := mt (jdM_le v8 v9 a b).mpr c_22; omega⟩
set_option maxHeartbeats 4000000 in
set_option maxRecDepth 100000 in
/-- what is thrown, and whether nothing -/
theorem c_X2_goes (l : Launch) (dC : Nat → ClassId) (dI : Nat → Nat → Nat) (cI cJ cZ cO : ClassId) (ad : Nat → Nat) (n mo : Nat) (iv : Nat → Int32) (an : Nat → Nat → Nat) (T B : Nat → Int64) (py : Nat → Nat → Int64) (fu cy th : Int32) (a b d : Nat)  (ha : a ≤ 1) (hb9 : b ≤ 1) (hd9 : d ≤ 1) : Met l yX2_goes wsX2_goes ({ frames := 0, cells := 0, slots := 0, locals := 0 }) (va_Pc [.ref (ad 0), .int (nI a), .int (nI b), .int (nI d)] (jW (dC, dI) (jTY cI cJ cZ cO) (jMW cI cJ cZ ad n mo iv an T B py fu cy th))) (va_Qi (fun r (_ : Unit) => r = nI (jgr1 (jg a b d))) (fun _ t9 => va_P (dC, dI) vwCl (jMW cI cJ cZ ad n mo iv an T B py fu cy (nI (jg a b d))) t9.heap) (jA (jMW cI cJ cZ ad n mo iv an T B py fu cy th))) 0 0 (jA (jMW cI cJ cZ ad n mo iv an T B py fu cy th)) := by
  refine j_of (cc := cX2_goes) (maxL := 4) (ret := (some .boolean)) (by decide) rfl (Nat.le_of_ble_eq_true rfl) ?_
  intro p e s m below meth c ls hx hb hr hml hts hown hlocks hnm hl hpre
  have hown : s.vm.findClass RX2 = some m.cls := hown
  have hl : lv_has ls 4 [(0, .ref (ad 0)), (1, .int (nI a)), (2, .int (nI b)), (3, .int (nI d))] := hl
  obtain ⟨hP, hK, hD0⟩ := hpre
  have hD := hD0.jA
  generalize hAe : jA (jMW cI cJ cZ ad n mo iv an T B py fu cy th) = A at hD ⊢
  have hS : va_S A s.heap s.heap [] := va_S.rf
  refine j_join (fun z : Nat => z = jg a b d) (fun z => F0 m 26 ls [.int (nI z), .ref (ad 0)]) (fun z hz => ?_) (fun J26 => ?_)
  · have hz3 : z ≤ 3 := by rw [hz]; exact jg_le a b d
    refine va_put (D := (dC, dI)) (ci := 2) (v := .int (nI z)) (ty := .int) (C := RX2) (T := TX2) (N := 18) hx hb hts (fun _ h => List.mem_cons_of_mem _ (List.mem_append_right _ h)) tyX2 tyX2_ok nmX2 hown hK hP hD hS 0 rfl rfl 17 (by decide) (hts (.fieldLink RX2 51 "JointAnnuityModel" "thrown" "I") (List.mem_of_getElem? (i := 1) rfl)) (fun _ h9 => h9) rfl (by decide +kernel) rfl rfl (Nat.le_of_ble_eq_true rfl) dX2_goes_26 (fun H locs hP hD hS => ?_)
    have hP : va_P (dC, dI) vwCl [((ad 0), .inr (2, [.ref (ad 1), .ref (ad 2), .ref (ad 3), .ref (ad 4), .ref (ad 5), .ref (ad 6), .ref (ad 7), .ref (ad 8), .ref (ad 9), .ref (ad 10), .ref (ad 11), .ref (ad 12), .ref (ad 13), .int (nI n), .int (nI mo), .int fu, .int cy, .int (nI z)])), ((ad 1), .inl (cI, 20, .inl (fun k => nI (an k 0)))), ((ad 2), .inl (cI, 20, .inl (fun k => nI (an k 1)))), ((ad 3), .inl (cI, 20, .inl (fun k => nI (an k 2)))), ((ad 4), .inl (cI, 20, .inl (fun k => nI (an k 3)))), ((ad 5), .inl (cZ, 20, .inl (fun k => nI (an k 4)))), ((ad 6), .inl (cI, 20, .inl (fun k => nI (an k 5)))), ((ad 7), .inl (cI, 20, .inl (fun k => nI (an k 6)))), ((ad 8), .inl (cI, 20, .inl (fun k => nI (an k 7)))), ((ad 9), .inl (cI, 40, .inl (jdC an))), ((ad 10), .inl (cJ, 20, .inr (.inl (T)))), ((ad 11), .inl (cJ, 20, .inr (.inl (B)))), ((ad 12), .inl (cJ, 4800, .inr (.inl (jpC py)))), ((ad 13), .inl (cI, 20, .inl (iv)))] H := hP
    have hD : va_D A [((ad 0), .inr (2, [.ref (ad 1), .ref (ad 2), .ref (ad 3), .ref (ad 4), .ref (ad 5), .ref (ad 6), .ref (ad 7), .ref (ad 8), .ref (ad 9), .ref (ad 10), .ref (ad 11), .ref (ad 12), .ref (ad 13), .int (nI n), .int (nI mo), .int fu, .int cy, .int (nI z)])), ((ad 1), .inl (cI, 20, .inl (fun k => nI (an k 0)))), ((ad 2), .inl (cI, 20, .inl (fun k => nI (an k 1)))), ((ad 3), .inl (cI, 20, .inl (fun k => nI (an k 2)))), ((ad 4), .inl (cI, 20, .inl (fun k => nI (an k 3)))), ((ad 5), .inl (cZ, 20, .inl (fun k => nI (an k 4)))), ((ad 6), .inl (cI, 20, .inl (fun k => nI (an k 5)))), ((ad 7), .inl (cI, 20, .inl (fun k => nI (an k 6)))), ((ad 8), .inl (cI, 20, .inl (fun k => nI (an k 7)))), ((ad 9), .inl (cI, 40, .inl (jdC an))), ((ad 10), .inl (cJ, 20, .inr (.inl (T)))), ((ad 11), .inl (cJ, 20, .inr (.inl (B)))), ((ad 12), .inl (cJ, 4800, .inr (.inl (jpC py)))), ((ad 13), .inl (cI, 20, .inl (iv)))] := hD
    refine lv_aload_n hx hb dX2_goes_29 rfl (lv_at hl 0 rfl) ?_
    refine va_get (D := (dC, dI)) (ci := 2) (v := .int (nI z)) (C := RX2) (T := TX2) (N := 18) hx hb hts (fun _ h => List.mem_cons_of_mem _ (List.mem_append_right _ h)) hown hK hP 0 rfl rfl 17 (by decide) (hts (.fieldLink RX2 51 "JointAnnuityModel" "thrown" "I") (List.mem_of_getElem? (i := 1) rfl)) (fun _ h9 => h9) rfl dX2_goes_30 ?_
    refine lv_if_ne (tgt := 40) hx hb dX2_goes_33 (by decide) (fun c_33 => ?_) (fun c_33 => ?_)
    · have c_33 : ¬ (z = 0) := fun h => c_33 ((nI_eq (a := z) (b := 0) (by omega) (by omega)).mpr h)
      refine lv_iconst (v := nI 0) hx hb dX2_goes_40 (by decide) ?_
      subst hz
      exact W.zret (v := nI 0) hx hb hr (jzn (v := 0) (by omega)).1 (fun t9 ht hW => ⟨⟨_, (), rfl, by rw [jgr1, if_neg (by omega)], j_h ht hP⟩, hS.F ht⟩) hS.2.2 dX2_goes_41
    · have c_33 : z = 0 := (nI_eq (a := z) (b := 0) (by omega) (by omega)).mp c_33
      refine lv_iconst (v := nI 1) hx hb dX2_goes_36 (by decide) ?_
      refine lv_goto (tgt := 41) hx hb dX2_goes_37 (by decide) ?_
      subst hz
      exact W.zret (v := nI 1) hx hb hr (jzn (v := 1) (by omega)).1 (fun t9 ht hW => ⟨⟨_, (), rfl, by rw [jgr1, if_pos (by omega)], j_h ht hP⟩, hS.F ht⟩) hS.2.2 dX2_goes_41
  refine lv_aload_n hx hb dX2_goes_0 rfl (lv_at hl 0 rfl) ?_
  refine lv_iload_n hx hb dX2_goes_1 rfl (lv_at hl 1 rfl) ?_
  refine lv_if_ne (tgt := 9) hx hb dX2_goes_2 (by decide) (fun c_2 => ?_) (fun c_2 => ?_)
  · have c_2 : ¬ (a = 0) := fun h => c_2 ((nI_eq (a := a) (b := 0) (by omega) (by omega)).mpr h)
    refine lv_iload_n hx hb dX2_goes_9 rfl (lv_at hl 2 rfl) ?_
    refine lv_if_ne (tgt := 17) hx hb dX2_goes_10 (by decide) (fun c_10 => ?_) (fun c_10 => ?_)
    · have c_10 : ¬ (b = 0) := fun h => c_10 ((nI_eq (a := b) (b := 0) (by omega) (by omega)).mpr h)
      refine lv_iload_n hx hb dX2_goes_17 rfl (lv_at hl 3 rfl) ?_
      refine lv_if_ne (tgt := 25) hx hb dX2_goes_18 (by decide) (fun c_18 => ?_) (fun c_18 => ?_)
      · have c_18 : ¬ (d = 0) := fun h => c_18 ((nI_eq (a := d) (b := 0) (by omega) (by omega)).mpr h)
        refine lv_iconst (v := nI 0) hx hb dX2_goes_25 (by decide) ?_
        exact J26 0 (by unfold jg; rw [if_neg c_2, if_neg c_10, if_neg c_18])
      · have c_18 : d = 0 := (nI_eq (a := d) (b := 0) (by omega) (by omega)).mp c_18
        refine lv_iconst (v := nI 3) hx hb dX2_goes_21 (by decide) ?_
        refine lv_goto (tgt := 26) hx hb dX2_goes_22 (by decide) ?_
        exact J26 3 (by unfold jg; rw [if_neg c_2, if_neg c_10, if_pos c_18])
    · have c_10 : b = 0 := (nI_eq (a := b) (b := 0) (by omega) (by omega)).mp c_10
      refine lv_iconst (v := nI 2) hx hb dX2_goes_13 (by decide) ?_
      refine lv_goto (tgt := 26) hx hb dX2_goes_14 (by decide) ?_
      exact J26 2 (by unfold jg; rw [if_neg c_2, if_pos c_10])
  · have c_2 : a = 0 := (nI_eq (a := a) (b := 0) (by omega) (by omega)).mp c_2
    refine lv_iconst (v := nI 1) hx hb dX2_goes_5 (by decide) ?_
    refine lv_goto (tgt := 26) hx hb dX2_goes_6 (by decide) ?_
    exact J26 1 (by unfold jg; rw [if_pos c_2])
set_option maxHeartbeats 4000000 in
set_option maxRecDepth 100000 in
/-- the amount and the carry at the start -/
theorem c_X2_begins (l : Launch) (dC : Nat → ClassId) (dI : Nat → Nat → Nat) (cI cJ cZ cO : ClassId) (ad : Nat → Nat) (n mo : Nat) (iv : Nat → Int32) (an : Nat → Nat → Nat) (T B : Nat → Int64) (py : Nat → Nat → Int64) (fu cy th : Int32) (k : Nat)  (hn : n ≤ 20) (hk : k < n) : Met l yX2_begins wsX2_begins ({ frames := 0, cells := 0, slots := 0, locals := 0 }) (va_Pc [.ref (ad 0), .int (nI k)] (jW (dC, dI) (jTY cI cJ cZ cO) (jMW cI cJ cZ ad n mo iv an T B py fu cy th))) (va_Qv (fun _ : Unit => True) (fun _ t9 => va_P (dC, dI) vwCl (jMW cI cJ cZ ad n mo iv an T B py (nI (jF (an k) iv 0)) (jC (an k) iv 0) th) t9.heap) (jA (jMW cI cJ cZ ad n mo iv an T B py fu cy th))) 0 0 (jA (jMW cI cJ cZ ad n mo iv an T B py fu cy th)) := by
  refine j_of (cc := cX2_begins) (maxL := 2) (ret := none) (by decide) rfl (Nat.le_of_ble_eq_true rfl) ?_
  intro p e s m below meth c ls hx hb hr hml hts hown hlocks hnm hl hpre
  have hown : s.vm.findClass RX2 = some m.cls := hown
  have hl : lv_has ls 2 [(0, .ref (ad 0)), (1, .int (nI k))] := hl
  obtain ⟨hP, hK, hD0⟩ := hpre
  have hD := hD0.jA
  generalize hAe : jA (jMW cI cJ cZ ad n mo iv an T B py fu cy th) = A at hD ⊢
  have hS : va_S A s.heap s.heap [] := va_S.rf
  refine lv_aload_n hx hb dX2_begins_0 rfl (lv_at hl 0 rfl) ?_
  refine lv_aload_n hx hb dX2_begins_1 rfl (lv_at hl 0 rfl) ?_
  refine va_get (D := (dC, dI)) (ci := 2) (v := .ref (ad 2)) (C := RX2) (T := TX2) (N := 18) hx hb hts (fun _ h => List.mem_cons_of_mem _ (List.mem_append_right _ h)) hown hK hP 0 rfl rfl 1 (by decide) (hts (.fieldLink RX2 13 "JointAnnuityModel" "amount" "[I") (List.mem_of_getElem? (i := 1) rfl)) (fun _ h9 => h9) rfl dX2_begins_2 ?_
  refine lv_iload_n hx hb dX2_begins_5 rfl (lv_at hl 1 rfl) ?_
  refine va_iald hx hb hK hP 2 0 (f := fun k => nI (an k 1)) rfl rfl (vp_in_nI (n := k) (N := 20) (by omega) (by omega)) dX2_begins_6 ?_
  refine j_i (y := nI (an k 1)) (by rw [nI_clamp (by omega)]) ?_
  refine va_put (D := (dC, dI)) (ci := 2) (v := .int (nI (an k 1))) (ty := .int) (C := RX2) (T := TX2) (N := 18) hx hb hts (fun _ h => List.mem_cons_of_mem _ (List.mem_append_right _ h)) tyX2 tyX2_ok nmX2 hown hK hP hD hS 0 rfl rfl 15 (by decide) (hts (.fieldLink RX2 81 "JointAnnuityModel" "full" "I") (List.mem_of_getElem? (i := 2) rfl)) (fun _ h9 => h9) rfl (by decide +kernel) rfl rfl (Nat.le_of_ble_eq_true rfl) dX2_begins_7 (fun H locs hP hD hS => ?_)
  have hP : va_P (dC, dI) vwCl [((ad 0), .inr (2, [.ref (ad 1), .ref (ad 2), .ref (ad 3), .ref (ad 4), .ref (ad 5), .ref (ad 6), .ref (ad 7), .ref (ad 8), .ref (ad 9), .ref (ad 10), .ref (ad 11), .ref (ad 12), .ref (ad 13), .int (nI n), .int (nI mo), .int (nI (an k 1)), .int cy, .int th])), ((ad 1), .inl (cI, 20, .inl (fun k => nI (an k 0)))), ((ad 2), .inl (cI, 20, .inl (fun k => nI (an k 1)))), ((ad 3), .inl (cI, 20, .inl (fun k => nI (an k 2)))), ((ad 4), .inl (cI, 20, .inl (fun k => nI (an k 3)))), ((ad 5), .inl (cZ, 20, .inl (fun k => nI (an k 4)))), ((ad 6), .inl (cI, 20, .inl (fun k => nI (an k 5)))), ((ad 7), .inl (cI, 20, .inl (fun k => nI (an k 6)))), ((ad 8), .inl (cI, 20, .inl (fun k => nI (an k 7)))), ((ad 9), .inl (cI, 40, .inl (jdC an))), ((ad 10), .inl (cJ, 20, .inr (.inl (T)))), ((ad 11), .inl (cJ, 20, .inr (.inl (B)))), ((ad 12), .inl (cJ, 4800, .inr (.inl (jpC py)))), ((ad 13), .inl (cI, 20, .inl (iv)))] H := hP
  have hD : va_D A [((ad 0), .inr (2, [.ref (ad 1), .ref (ad 2), .ref (ad 3), .ref (ad 4), .ref (ad 5), .ref (ad 6), .ref (ad 7), .ref (ad 8), .ref (ad 9), .ref (ad 10), .ref (ad 11), .ref (ad 12), .ref (ad 13), .int (nI n), .int (nI mo), .int (nI (an k 1)), .int cy, .int th])), ((ad 1), .inl (cI, 20, .inl (fun k => nI (an k 0)))), ((ad 2), .inl (cI, 20, .inl (fun k => nI (an k 1)))), ((ad 3), .inl (cI, 20, .inl (fun k => nI (an k 2)))), ((ad 4), .inl (cI, 20, .inl (fun k => nI (an k 3)))), ((ad 5), .inl (cZ, 20, .inl (fun k => nI (an k 4)))), ((ad 6), .inl (cI, 20, .inl (fun k => nI (an k 5)))), ((ad 7), .inl (cI, 20, .inl (fun k => nI (an k 6)))), ((ad 8), .inl (cI, 20, .inl (fun k => nI (an k 7)))), ((ad 9), .inl (cI, 40, .inl (jdC an))), ((ad 10), .inl (cJ, 20, .inr (.inl (T)))), ((ad 11), .inl (cJ, 20, .inr (.inl (B)))), ((ad 12), .inl (cJ, 4800, .inr (.inl (jpC py)))), ((ad 13), .inl (cI, 20, .inl (iv)))] := hD
  refine lv_aload_n hx hb dX2_begins_10 rfl (lv_at hl 0 rfl) ?_
  refine lv_iconst (v := nI 0) hx hb dX2_begins_11 (by decide) ?_
  refine va_put (D := (dC, dI)) (ci := 2) (v := .int (nI 0)) (ty := .int) (C := RX2) (T := TX2) (N := 18) hx hb hts (fun _ h => List.mem_cons_of_mem _ (List.mem_append_right _ h)) tyX2 tyX2_ok nmX2 hown hK hP hD hS 0 rfl rfl 16 (by decide) (hts (.fieldLink RX2 84 "JointAnnuityModel" "carry" "I") (List.mem_of_getElem? (i := 3) rfl)) (fun _ h9 => h9) rfl (by decide +kernel) rfl rfl (Nat.le_of_ble_eq_true rfl) dX2_begins_12 (fun H locs hP hD hS => ?_)
  have hP : va_P (dC, dI) vwCl [((ad 0), .inr (2, [.ref (ad 1), .ref (ad 2), .ref (ad 3), .ref (ad 4), .ref (ad 5), .ref (ad 6), .ref (ad 7), .ref (ad 8), .ref (ad 9), .ref (ad 10), .ref (ad 11), .ref (ad 12), .ref (ad 13), .int (nI n), .int (nI mo), .int (nI (an k 1)), .int (nI 0), .int th])), ((ad 1), .inl (cI, 20, .inl (fun k => nI (an k 0)))), ((ad 2), .inl (cI, 20, .inl (fun k => nI (an k 1)))), ((ad 3), .inl (cI, 20, .inl (fun k => nI (an k 2)))), ((ad 4), .inl (cI, 20, .inl (fun k => nI (an k 3)))), ((ad 5), .inl (cZ, 20, .inl (fun k => nI (an k 4)))), ((ad 6), .inl (cI, 20, .inl (fun k => nI (an k 5)))), ((ad 7), .inl (cI, 20, .inl (fun k => nI (an k 6)))), ((ad 8), .inl (cI, 20, .inl (fun k => nI (an k 7)))), ((ad 9), .inl (cI, 40, .inl (jdC an))), ((ad 10), .inl (cJ, 20, .inr (.inl (T)))), ((ad 11), .inl (cJ, 20, .inr (.inl (B)))), ((ad 12), .inl (cJ, 4800, .inr (.inl (jpC py)))), ((ad 13), .inl (cI, 20, .inl (iv)))] H := hP
  have hD : va_D A [((ad 0), .inr (2, [.ref (ad 1), .ref (ad 2), .ref (ad 3), .ref (ad 4), .ref (ad 5), .ref (ad 6), .ref (ad 7), .ref (ad 8), .ref (ad 9), .ref (ad 10), .ref (ad 11), .ref (ad 12), .ref (ad 13), .int (nI n), .int (nI mo), .int (nI (an k 1)), .int (nI 0), .int th])), ((ad 1), .inl (cI, 20, .inl (fun k => nI (an k 0)))), ((ad 2), .inl (cI, 20, .inl (fun k => nI (an k 1)))), ((ad 3), .inl (cI, 20, .inl (fun k => nI (an k 2)))), ((ad 4), .inl (cI, 20, .inl (fun k => nI (an k 3)))), ((ad 5), .inl (cZ, 20, .inl (fun k => nI (an k 4)))), ((ad 6), .inl (cI, 20, .inl (fun k => nI (an k 5)))), ((ad 7), .inl (cI, 20, .inl (fun k => nI (an k 6)))), ((ad 8), .inl (cI, 20, .inl (fun k => nI (an k 7)))), ((ad 9), .inl (cI, 40, .inl (jdC an))), ((ad 10), .inl (cJ, 20, .inr (.inl (T)))), ((ad 11), .inl (cJ, 20, .inr (.inl (B)))), ((ad 12), .inl (cJ, 4800, .inr (.inl (jpC py)))), ((ad 13), .inl (cI, 20, .inl (iv)))] := hD
  have hP : va_P (dC, dI) vwCl (jMW cI cJ cZ ad n mo iv an T B py (nI (jF (an k) iv 0)) (jC (an k) iv 0) th) H := hP
  exact W.vret hx hb hr (fun t9 ht hW => ⟨⟨(), rfl, trivial, j_h ht hP⟩, hS.F ht⟩) hS.2.2 dX2_begins_15
set_option maxHeartbeats 4000000 in
set_option maxRecDepth 100000 in
/-- the amount goes on to a month -/
theorem c_X2_grows (l : Launch) (dC : Nat → ClassId) (dI : Nat → Nat → Nat) (cI cJ cZ cO : ClassId) (ad : Nat → Nat) (n mo : Nat) (iv : Nat → Int32) (an : Nat → Nat → Nat) (T B : Nat → Int64) (py : Nat → Nat → Int64) (th : Int32) (k x : Nat)  (hn : n ≤ 20) (hm : mo ≤ 240) (hv : ∀ k, k < n → jV (an k)) (hk : k < n) (hx9 : x < 240) (hs : an k 0 ≤ x) : Met l yX2_grows wsX2_grows ({ frames := 0, cells := 0, slots := 0, locals := 0 }) (va_Pc [.ref (ad 0), .int (nI k), .int (nI x)] (jW (dC, dI) (jTY cI cJ cZ cO) (jMW cI cJ cZ ad n mo iv an T B py (nI (jF (an k) iv ((x - 1 - an k 0) / 12))) (jC (an k) iv ((x - 1 - an k 0) / 12)) th))) (va_Qv (fun _ : Unit => True) (fun _ t9 => va_P (dC, dI) vwCl (jMW cI cJ cZ ad n mo iv an T B py (nI (jF (an k) iv ((x - an k 0) / 12))) (jC (an k) iv ((x - an k 0) / 12)) th) t9.heap) (jA (jMW cI cJ cZ ad n mo iv an T B py (nI (jF (an k) iv ((x - 1 - an k 0) / 12))) (jC (an k) iv ((x - 1 - an k 0) / 12)) th))) 0 0 (jA (jMW cI cJ cZ ad n mo iv an T B py (nI (jF (an k) iv ((x - 1 - an k 0) / 12))) (jC (an k) iv ((x - 1 - an k 0) / 12)) th)) := by
  refine j_of (cc := cX2_grows) (maxL := 5) (ret := none) (by decide) rfl (Nat.le_of_ble_eq_true rfl) ?_
  intro p e s m below meth c ls hx hb hr hml hts hown hlocks hnm hl hpre
  have hown : s.vm.findClass RX2 = some m.cls := hown
  have hl : lv_has ls 5 [(0, .ref (ad 0)), (1, .int (nI k)), (2, .int (nI x))] := hl
  obtain ⟨v0, v1, v2, v3, v4, v5, v6, v7, v8, v9⟩ := hv k hk
  obtain ⟨hP, hK, hD0⟩ := hpre
  have hD := hD0.jA
  generalize hAe : jA (jMW cI cJ cZ ad n mo iv an T B py (nI (jF (an k) iv ((x - 1 - an k 0) / 12))) (jC (an k) iv ((x - 1 - an k 0) / 12)) th) = A at hD ⊢
  have hS : va_S A s.heap s.heap [] := va_S.rf
  refine lv_iload_n hx hb dX2_grows_0 rfl (lv_at hl 2 rfl) ?_
  refine lv_aload_n hx hb dX2_grows_1 rfl (lv_at hl 0 rfl) ?_
  refine va_get (D := (dC, dI)) (ci := 2) (v := .ref (ad 1)) (C := RX2) (T := TX2) (N := 18) hx hb hts (fun _ h => List.mem_cons_of_mem _ (List.mem_append_right _ h)) hown hK hP 0 rfl rfl 0 (by decide) (hts (.fieldLink RX2 7 "JointAnnuityModel" "start" "[I") (List.mem_of_getElem? (i := 1) rfl)) (fun _ h9 => h9) rfl dX2_grows_2 ?_
  refine lv_iload_n hx hb dX2_grows_5 rfl (lv_at hl 1 rfl) ?_
  refine va_iald hx hb hK hP 1 0 (f := fun k => nI (an k 0)) rfl rfl (vp_in_nI (n := k) (N := 20) (by omega) (by omega)) dX2_grows_6 ?_
  refine j_i (y := nI (an k 0)) (by rw [nI_clamp (by omega)]) ?_
  refine lv_icmp_le (tgt := 99) hx hb dX2_grows_7 (by decide) (fun c_7 => ?_) (fun c_7 => ?_)
  · have c_7 : x ≤ an k 0 := (nI_leI (a := x) (b := an k 0) (by omega) (by omega)).mp c_7
    have e9 : (x - 1 - an k 0) / 12 = (x - an k 0) / 12 := by omega
    rw [e9] at hP
    exact W.vret hx hb hr (fun t9 ht hW => ⟨⟨(), rfl, trivial, j_h ht hP⟩, hS.F ht⟩) hS.2.2 dX2_grows_99
  · have c_7 : ¬ (x ≤ an k 0) := fun h => c_7 ((nI_leI (a := x) (b := an k 0) (by omega) (by omega)).mpr h)
    refine lv_iload_n hx hb dX2_grows_10 rfl (lv_at hl 2 rfl) ?_
    refine lv_aload_n hx hb dX2_grows_11 rfl (lv_at hl 0 rfl) ?_
    refine va_get (D := (dC, dI)) (ci := 2) (v := .ref (ad 1)) (C := RX2) (T := TX2) (N := 18) hx hb hts (fun _ h => List.mem_cons_of_mem _ (List.mem_append_right _ h)) hown hK hP 0 rfl rfl 0 (by decide) (hts (.fieldLink RX2 7 "JointAnnuityModel" "start" "[I") (List.mem_of_getElem? (i := 1) rfl)) (fun _ h9 => h9) rfl dX2_grows_12 ?_
    refine lv_iload_n hx hb dX2_grows_15 rfl (lv_at hl 1 rfl) ?_
    refine va_iald hx hb hK hP 1 0 (f := fun k => nI (an k 0)) rfl rfl (vp_in_nI (n := k) (N := 20) (by omega) (by omega)) dX2_grows_16 ?_
    refine j_i (y := nI (an k 0)) (by rw [nI_clamp (by omega)]) ?_
    refine lv_isub hx hb dX2_grows_17 ?_
    refine j_i (y := nI (x - (an k 0))) (pk_sub (by omega)) ?_
    refine lv_bipush (v := nI 12) hx hb dX2_grows_18 (by decide) ?_
    refine lv_irem hx hb dX2_grows_20 (by decide) ?_
    refine j_i (y := nI ((x - (an k 0)) % 12)) (pk_rem (by omega) (by omega) (by omega)) ?_
    refine lv_if_ne (tgt := 99) hx hb dX2_grows_21 (by decide) (fun c_21 => ?_) (fun c_21 => ?_)
    · have c_21 : ¬ ((x - (an k 0)) % 12 = 0) := fun h => c_21 ((nI_eq (a := (x - (an k 0)) % 12) (b := 0) (by omega) (by omega)).mpr h)
      have e9 : (x - 1 - an k 0) / 12 = (x - an k 0) / 12 := by omega
      rw [e9] at hP
      exact W.vret hx hb hr (fun t9 ht hW => ⟨⟨(), rfl, trivial, j_h ht hP⟩, hS.F ht⟩) hS.2.2 dX2_grows_99
    · have c_21 : (x - (an k 0)) % 12 = 0 := (nI_eq (a := (x - (an k 0)) % 12) (b := 0) (by omega) (by omega)).mp c_21
      obtain ⟨a9, ha9⟩ : ∃ a9, (x - an k 0) / 12 = a9 + 1 := ⟨(x - an k 0) / 12 - 1, by omega⟩
      have ha8 : (x - 1 - an k 0) / 12 = a9 := by omega
      have hy : an k 0 / 12 + a9 < 20 := by omega
      have hx8 : x / 12 - 1 = an k 0 / 12 + a9 := by omega
      rw [ha8] at hP hD
      refine lv_aload_n hx hb dX2_grows_24 rfl (lv_at hl 0 rfl) ?_
      refine va_get (D := (dC, dI)) (ci := 2) (v := .int (jC (an k) iv a9)) (C := RX2) (T := TX2) (N := 18) hx hb hts (fun _ h => List.mem_cons_of_mem _ (List.mem_append_right _ h)) hown hK hP 0 rfl rfl 16 (by decide) (hts (.fieldLink RX2 84 "JointAnnuityModel" "carry" "I") (List.mem_of_getElem? (i := 2) rfl)) (fun _ h9 => h9) rfl dX2_grows_25 ?_
      refine lv_aload_n hx hb dX2_grows_28 rfl (lv_at hl 0 rfl) ?_
      refine va_get (D := (dC, dI)) (ci := 2) (v := .ref (ad 13)) (C := RX2) (T := TX2) (N := 18) hx hb hts (fun _ h => List.mem_cons_of_mem _ (List.mem_append_right _ h)) hown hK hP 0 rfl rfl 12 (by decide) (hts (.fieldLink RX2 48 "JointAnnuityModel" "inflation" "[I") (List.mem_of_getElem? (i := 3) rfl)) (fun _ h9 => h9) rfl dX2_grows_29 ?_
      refine lv_iload_n hx hb dX2_grows_32 rfl (lv_at hl 2 rfl) ?_
      refine lv_bipush (v := nI 12) hx hb dX2_grows_33 (by decide) ?_
      refine lv_idiv hx hb dX2_grows_35 (by decide) ?_
      refine j_i (y := nI (x / 12)) (pk_div (by omega) (by omega) (by omega)) ?_
      refine lv_iconst (v := nI 1) hx hb dX2_grows_36 (by decide) ?_
      refine lv_isub hx hb dX2_grows_37 ?_
      refine j_i (y := nI ((x / 12) - 1)) (pk_sub (by omega)) ?_
      refine va_iald hx hb hK hP 13 0 (f := iv) rfl rfl (vp_in_nI (n := (x / 12) - 1) (N := 20) (by omega) (by omega)) dX2_grows_38 ?_
      refine j_i (y := iv (an k 0 / 12 + a9)) (by rw [hx8, nI_clamp (by omega)]) ?_
      refine lv_iadd hx hb dX2_grows_39 ?_
      refine j_i (y := iv (an k 0 / 12 + a9) + jC (an k) iv a9) (Int32.add_comm _ _) ?_
      refine lv_istore_n (lv' := [(3, .int (iv (an k 0 / 12 + a9) + jC (an k) iv a9)), (0, .ref (ad 0)), (1, .int (nI k)), (2, .int (nI x))]) hx hb dX2_grows_40 rfl hl (by decide) rfl (fun ls hl => ?_)
      refine j_join (fun z : Int32 => z = nI (jcl (iv (an k 0 / 12 + a9) + jC (an k) iv a9) (an k 5))) (fun z => F0 m 69 ls [.int z]) (fun z hz => ?_) (fun J69 => ?_)
      · refine lv_istore (lv' := [(4, .int z), (3, .int (iv (an k 0 / 12 + a9) + jC (an k) iv a9)), (0, .ref (ad 0)), (1, .int (nI k)), (2, .int (nI x))]) hx hb dX2_grows_69 hl (by decide) rfl (fun ls hl => ?_)
        refine lv_aload_n hx hb dX2_grows_71 rfl (lv_at hl 2 rfl) ?_
        refine lv_iload_n hx hb dX2_grows_72 rfl (lv_at hl 1 rfl) ?_
        refine lv_iload hx hb dX2_grows_73 (lv_at hl 0 rfl) ?_
        refine lv_isub hx hb dX2_grows_75 ?_
        refine j_i (y := jC (an k) iv (a9 + 1)) (by rw [hz]; exact (jC_s (an k) iv hy).symm) ?_
        refine va_put (D := (dC, dI)) (ci := 2) (v := .int (jC (an k) iv (a9 + 1))) (ty := .int) (C := RX2) (T := TX2) (N := 18) hx hb hts (fun _ h => List.mem_cons_of_mem _ (List.mem_append_right _ h)) tyX2 tyX2_ok nmX2 hown hK hP hD hS 0 rfl rfl 16 (by decide) (hts (.fieldLink RX2 84 "JointAnnuityModel" "carry" "I") (List.mem_of_getElem? (i := 2) rfl)) (fun _ h9 => h9) rfl (by decide +kernel) rfl rfl (Nat.le_of_ble_eq_true rfl) dX2_grows_76 (fun H locs hP hD hS => ?_)
        have hP : va_P (dC, dI) vwCl [((ad 0), .inr (2, [.ref (ad 1), .ref (ad 2), .ref (ad 3), .ref (ad 4), .ref (ad 5), .ref (ad 6), .ref (ad 7), .ref (ad 8), .ref (ad 9), .ref (ad 10), .ref (ad 11), .ref (ad 12), .ref (ad 13), .int (nI n), .int (nI mo), .int (nI (jF (an k) iv a9)), .int (jC (an k) iv (a9 + 1)), .int th])), ((ad 1), .inl (cI, 20, .inl (fun k => nI (an k 0)))), ((ad 2), .inl (cI, 20, .inl (fun k => nI (an k 1)))), ((ad 3), .inl (cI, 20, .inl (fun k => nI (an k 2)))), ((ad 4), .inl (cI, 20, .inl (fun k => nI (an k 3)))), ((ad 5), .inl (cZ, 20, .inl (fun k => nI (an k 4)))), ((ad 6), .inl (cI, 20, .inl (fun k => nI (an k 5)))), ((ad 7), .inl (cI, 20, .inl (fun k => nI (an k 6)))), ((ad 8), .inl (cI, 20, .inl (fun k => nI (an k 7)))), ((ad 9), .inl (cI, 40, .inl (jdC an))), ((ad 10), .inl (cJ, 20, .inr (.inl (T)))), ((ad 11), .inl (cJ, 20, .inr (.inl (B)))), ((ad 12), .inl (cJ, 4800, .inr (.inl (jpC py)))), ((ad 13), .inl (cI, 20, .inl (iv)))] H := hP
        have hD : va_D A [((ad 0), .inr (2, [.ref (ad 1), .ref (ad 2), .ref (ad 3), .ref (ad 4), .ref (ad 5), .ref (ad 6), .ref (ad 7), .ref (ad 8), .ref (ad 9), .ref (ad 10), .ref (ad 11), .ref (ad 12), .ref (ad 13), .int (nI n), .int (nI mo), .int (nI (jF (an k) iv a9)), .int (jC (an k) iv (a9 + 1)), .int th])), ((ad 1), .inl (cI, 20, .inl (fun k => nI (an k 0)))), ((ad 2), .inl (cI, 20, .inl (fun k => nI (an k 1)))), ((ad 3), .inl (cI, 20, .inl (fun k => nI (an k 2)))), ((ad 4), .inl (cI, 20, .inl (fun k => nI (an k 3)))), ((ad 5), .inl (cZ, 20, .inl (fun k => nI (an k 4)))), ((ad 6), .inl (cI, 20, .inl (fun k => nI (an k 5)))), ((ad 7), .inl (cI, 20, .inl (fun k => nI (an k 6)))), ((ad 8), .inl (cI, 20, .inl (fun k => nI (an k 7)))), ((ad 9), .inl (cI, 40, .inl (jdC an))), ((ad 10), .inl (cJ, 20, .inr (.inl (T)))), ((ad 11), .inl (cJ, 20, .inr (.inl (B)))), ((ad 12), .inl (cJ, 4800, .inr (.inl (jpC py)))), ((ad 13), .inl (cI, 20, .inl (iv)))] := hD
        refine lv_aload_n hx hb dX2_grows_79 rfl (lv_at hl 2 rfl) ?_
        refine lv_dup hx hb dX2_grows_80 rfl ?_
        refine va_get (D := (dC, dI)) (ci := 2) (v := .int (nI (jF (an k) iv a9))) (C := RX2) (T := TX2) (N := 18) hx hb hts (fun _ h => List.mem_cons_of_mem _ (List.mem_append_right _ h)) hown hK hP 0 rfl rfl 15 (by decide) (hts (.fieldLink RX2 81 "JointAnnuityModel" "full" "I") (List.mem_of_getElem? (i := 5) rfl)) (fun _ h9 => h9) rfl dX2_grows_81 ?_
        refine lv_aload_n hx hb dX2_grows_84 rfl (lv_at hl 2 rfl) ?_
        refine va_get (D := (dC, dI)) (ci := 2) (v := .int (nI (jF (an k) iv a9))) (C := RX2) (T := TX2) (N := 18) hx hb hts (fun _ h => List.mem_cons_of_mem _ (List.mem_append_right _ h)) hown hK hP 0 rfl rfl 15 (by decide) (hts (.fieldLink RX2 81 "JointAnnuityModel" "full" "I") (List.mem_of_getElem? (i := 5) rfl)) (fun _ h9 => h9) rfl dX2_grows_85 ?_
        refine lv_iload hx hb dX2_grows_88 (lv_at hl 0 rfl) ?_
        refine lv_imul hx hb dX2_grows_90 ?_
        refine lv_sipush (v := nI 1000) hx hb dX2_grows_91 (by decide) ?_
        refine lv_idiv hx hb dX2_grows_94 (by decide) ?_
        refine lv_iadd hx hb dX2_grows_95 ?_
        refine j_i (y := nI (jF (an k) iv (a9 + 1))) (by rw [hz, jF_s (an k) iv hy]; exact jgrow (jF_bd (hv k hk) iv (by omega)) (Nat.le_trans (jcl_le _ (by omega)) v5)) ?_
        refine va_put (D := (dC, dI)) (ci := 2) (v := .int (nI (jF (an k) iv (a9 + 1)))) (ty := .int) (C := RX2) (T := TX2) (N := 18) hx hb hts (fun _ h => List.mem_cons_of_mem _ (List.mem_append_right _ h)) tyX2 tyX2_ok nmX2 hown hK hP hD hS 0 rfl rfl 15 (by decide) (hts (.fieldLink RX2 81 "JointAnnuityModel" "full" "I") (List.mem_of_getElem? (i := 5) rfl)) (fun _ h9 => h9) rfl (by decide +kernel) rfl rfl (Nat.le_of_ble_eq_true rfl) dX2_grows_96 (fun H locs hP hD hS => ?_)
        have hP : va_P (dC, dI) vwCl [((ad 0), .inr (2, [.ref (ad 1), .ref (ad 2), .ref (ad 3), .ref (ad 4), .ref (ad 5), .ref (ad 6), .ref (ad 7), .ref (ad 8), .ref (ad 9), .ref (ad 10), .ref (ad 11), .ref (ad 12), .ref (ad 13), .int (nI n), .int (nI mo), .int (nI (jF (an k) iv (a9 + 1))), .int (jC (an k) iv (a9 + 1)), .int th])), ((ad 1), .inl (cI, 20, .inl (fun k => nI (an k 0)))), ((ad 2), .inl (cI, 20, .inl (fun k => nI (an k 1)))), ((ad 3), .inl (cI, 20, .inl (fun k => nI (an k 2)))), ((ad 4), .inl (cI, 20, .inl (fun k => nI (an k 3)))), ((ad 5), .inl (cZ, 20, .inl (fun k => nI (an k 4)))), ((ad 6), .inl (cI, 20, .inl (fun k => nI (an k 5)))), ((ad 7), .inl (cI, 20, .inl (fun k => nI (an k 6)))), ((ad 8), .inl (cI, 20, .inl (fun k => nI (an k 7)))), ((ad 9), .inl (cI, 40, .inl (jdC an))), ((ad 10), .inl (cJ, 20, .inr (.inl (T)))), ((ad 11), .inl (cJ, 20, .inr (.inl (B)))), ((ad 12), .inl (cJ, 4800, .inr (.inl (jpC py)))), ((ad 13), .inl (cI, 20, .inl (iv)))] H := hP
        have hD : va_D A [((ad 0), .inr (2, [.ref (ad 1), .ref (ad 2), .ref (ad 3), .ref (ad 4), .ref (ad 5), .ref (ad 6), .ref (ad 7), .ref (ad 8), .ref (ad 9), .ref (ad 10), .ref (ad 11), .ref (ad 12), .ref (ad 13), .int (nI n), .int (nI mo), .int (nI (jF (an k) iv (a9 + 1))), .int (jC (an k) iv (a9 + 1)), .int th])), ((ad 1), .inl (cI, 20, .inl (fun k => nI (an k 0)))), ((ad 2), .inl (cI, 20, .inl (fun k => nI (an k 1)))), ((ad 3), .inl (cI, 20, .inl (fun k => nI (an k 2)))), ((ad 4), .inl (cI, 20, .inl (fun k => nI (an k 3)))), ((ad 5), .inl (cZ, 20, .inl (fun k => nI (an k 4)))), ((ad 6), .inl (cI, 20, .inl (fun k => nI (an k 5)))), ((ad 7), .inl (cI, 20, .inl (fun k => nI (an k 6)))), ((ad 8), .inl (cI, 20, .inl (fun k => nI (an k 7)))), ((ad 9), .inl (cI, 40, .inl (jdC an))), ((ad 10), .inl (cJ, 20, .inr (.inl (T)))), ((ad 11), .inl (cJ, 20, .inr (.inl (B)))), ((ad 12), .inl (cJ, 4800, .inr (.inl (jpC py)))), ((ad 13), .inl (cI, 20, .inl (iv)))] := hD
        rw [← ha9] at hP
        have hP : va_P (dC, dI) vwCl (jMW cI cJ cZ ad n mo iv an T B py (nI (jF (an k) iv ((x - an k 0) / 12))) (jC (an k) iv ((x - an k 0) / 12)) th) H := hP
        exact W.vret hx hb hr (fun t9 ht hW => ⟨⟨(), rfl, trivial, j_h ht hP⟩, hS.F ht⟩) hS.2.2 dX2_grows_99
      refine lv_iload_n hx hb dX2_grows_41 rfl (lv_at hl 0 rfl) ?_
      refine lv_aload_n hx hb dX2_grows_42 rfl (lv_at hl 1 rfl) ?_
      refine va_get (D := (dC, dI)) (ci := 2) (v := .ref (ad 6)) (C := RX2) (T := TX2) (N := 18) hx hb hts (fun _ h => List.mem_cons_of_mem _ (List.mem_append_right _ h)) hown hK hP 0 rfl rfl 5 (by decide) (hts (.fieldLink RX2 26 "JointAnnuityModel" "cap" "[I") (List.mem_of_getElem? (i := 4) rfl)) (fun _ h9 => h9) rfl dX2_grows_43 ?_
      refine lv_iload_n hx hb dX2_grows_46 rfl (lv_at hl 2 rfl) ?_
      refine va_iald hx hb hK hP 6 0 (f := fun k => nI (an k 5)) rfl rfl (vp_in_nI (n := k) (N := 20) (by omega) (by omega)) dX2_grows_47 ?_
      refine j_i (y := nI (an k 5)) (by rw [nI_clamp (by omega)]) ?_
      refine lv_icmp_le (tgt := 60) hx hb dX2_grows_48 (by decide) (fun c_48 => ?_) (fun c_48 => ?_)
      · refine lv_iload_n hx hb dX2_grows_60 rfl (lv_at hl 0 rfl) ?_
        refine lv_if_ge (tgt := 68) hx hb dX2_grows_61 (by decide) (fun c_61 => ?_) (fun c_61 => ?_)
        · refine lv_iload_n hx hb dX2_grows_68 rfl (lv_at hl 0 rfl) ?_
          exact J69 _ (by rw [← jcl_M _ (show an k 5 < 2 ^ 31 by omega), if_pos c_48, if_pos c_61])
        · refine lv_iconst (v := nI 0) hx hb dX2_grows_64 (by decide) ?_
          refine lv_goto (tgt := 69) hx hb dX2_grows_65 (by decide) ?_
          exact J69 _ (by rw [← jcl_M _ (show an k 5 < 2 ^ 31 by omega), if_pos c_48, if_neg c_61]; rfl)
      · refine lv_aload_n hx hb dX2_grows_51 rfl (lv_at hl 1 rfl) ?_
        refine va_get (D := (dC, dI)) (ci := 2) (v := .ref (ad 6)) (C := RX2) (T := TX2) (N := 18) hx hb hts (fun _ h => List.mem_cons_of_mem _ (List.mem_append_right _ h)) hown hK hP 0 rfl rfl 5 (by decide) (hts (.fieldLink RX2 26 "JointAnnuityModel" "cap" "[I") (List.mem_of_getElem? (i := 4) rfl)) (fun _ h9 => h9) rfl dX2_grows_52 ?_
        refine lv_iload_n hx hb dX2_grows_55 rfl (lv_at hl 2 rfl) ?_
        refine va_iald hx hb hK hP 6 0 (f := fun k => nI (an k 5)) rfl rfl (vp_in_nI (n := k) (N := 20) (by omega) (by omega)) dX2_grows_56 ?_
        refine j_i (y := nI (an k 5)) (by rw [nI_clamp (by omega)]) ?_
        refine lv_goto (tgt := 69) hx hb dX2_grows_57 (by decide) ?_
        exact J69 _ (by rw [← jcl_M _ (show an k 5 < 2 ^ 31 by omega), if_neg c_48])
