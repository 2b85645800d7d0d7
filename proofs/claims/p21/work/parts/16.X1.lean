/-! the contracts of the desk (JointAnnuity): what touches one annuity at most -/
set_option maxHeartbeats 4000000 in
set_option maxRecDepth 100000 in
/-- the number is in range -/
theorem c_X1_requireRange (l : Launch) (dC : Nat → ClassId) (dI : Nat → Nat → Nat) (v lo hi : Int32) (h1 : ¬ v < lo) (h2 : ¬ hi < v) : Met l yX1_requireRange wsX1_requireRange ({ frames := 0, cells := 0, slots := 0, locals := 0 }) (va_Pc [.int v, .int lo, .int hi] (fun _ => True)) (va_Sv (fun _ => True)) 0 0 (fun _ => False) := by
  refine j_of (cc := cX1_requireRange) (maxL := 3) (ret := none) (by decide) rfl (Nat.le_of_ble_eq_true rfl) ?_
  intro p e s m below meth c ls hx hb hr hml hts hown hlocks hnm hl hpre
  have hown : s.vm.findClass RX1 = some m.cls := hown
  have hl : lv_has ls 3 [(0, .int v), (1, .int lo), (2, .int hi)] := hl
  refine lv_iload_n hx hb dX1_requireRange_0 rfl (lv_at hl 0 rfl) ?_
  refine lv_iload_n hx hb dX1_requireRange_1 rfl (lv_at hl 1 rfl) ?_
  refine lv_icmp_lt (tgt := 10) hx hb dX1_requireRange_2 (by decide) (fun c_2 => ?_) (fun c_2 => ?_)
  · exact absurd c_2 h1
  · refine lv_iload_n hx hb dX1_requireRange_5 rfl (lv_at hl 0 rfl) ?_
    refine lv_iload_n hx hb dX1_requireRange_6 rfl (lv_at hl 2 rfl) ?_
    refine lv_icmp_le (tgt := 20) hx hb dX1_requireRange_7 (by decide) (fun c_7 => ?_) (fun c_7 => ?_)
    · exact W.vret hx hb hr (fun t ht hW => ⟨rfl, trivial, ht⟩) (fun _ h => by cases h) dX1_requireRange_20
    · exact absurd (Int32.not_lt.mp h2) c_7
set_option maxHeartbeats 4000000 in
set_option maxRecDepth 100000 in
/-- the number is out of range -/
theorem x_X1_requireRange (l : Launch) (dC : Nat → ClassId) (dI : Nat → Nat → Nat) (v lo hi : Int32) (hst : l.stackTraces = false) (h : v < lo ∨ hi < v) : vx_Met l yX1_requireRange wsX1_requireRange ({ frames := 6, cells := 1, slots := 6, locals := 82 }) (va_Pc [.int v, .int lo, .int hi] (fun U => jX (fun _ => False) U U.heap)) (jFQ) (jXC eA) 1 6 (fun _ => False) := by
  refine j_ofx (cc := cX1_requireRange) (maxL := 3) (ret := none) (by decide) rfl (Nat.le_of_ble_eq_true rfl) ?_
  intro p e s m below meth c ls hx hb hr hml hts hown hlocks htab hl hpre
  have hown : s.vm.findClass RX1 = some m.cls := hown
  have hl : lv_has ls 3 [(0, .int v), (1, .int lo), (2, .int hi)] := hl
  have hX : jX (fun _ => False) s s.heap := hpre
  refine lv_iload_n hx hb dX1_requireRange_0 rfl (lv_at hl 0 rfl) ?_
  refine lv_iload_n hx hb dX1_requireRange_1 rfl (lv_at hl 1 rfl) ?_
  refine lv_icmp_lt (tgt := 10) hx hb dX1_requireRange_2 (by decide) (fun c_2 => ?_) (fun c_2 => ?_)
  · exact j_throw (E := eA) hx hb hst hown (by decide +kernel) (by simp) (hts (.classLink RX1 133 "java/lang/IllegalArgumentException") (List.mem_of_getElem? (i := 1) rfl)) (hts (.initialized "java/lang/IllegalArgumentException") (List.mem_of_getElem? (i := 2) rfl)) (fun w h => hts w (List.mem_cons_of_mem _ (List.mem_append_right _ h))) jgA jbA hX (List.mem_of_getElem? (i := 7) rfl) hl hml dX1_requireRange_10 dX1_requireRange_13 dX1_requireRange_14 dX1_requireRange_16 dX1_requireRange_19 htab (Nat.le_of_ble_eq_true rfl) (Nat.le_of_ble_eq_true rfl) (Nat.le_of_ble_eq_true rfl) (Nat.le_of_ble_eq_true rfl) hlocks
  · refine lv_iload_n hx hb dX1_requireRange_5 rfl (lv_at hl 0 rfl) ?_
    refine lv_iload_n hx hb dX1_requireRange_6 rfl (lv_at hl 2 rfl) ?_
    refine lv_icmp_le (tgt := 20) hx hb dX1_requireRange_7 (by decide) (fun c_7 => ?_) (fun c_7 => ?_)
    · exact absurd (h.resolve_left c_2) (Int32.not_lt.mpr c_7)
    · exact j_throw (E := eA) hx hb hst hown (by decide +kernel) (by simp) (hts (.classLink RX1 133 "java/lang/IllegalArgumentException") (List.mem_of_getElem? (i := 1) rfl)) (hts (.initialized "java/lang/IllegalArgumentException") (List.mem_of_getElem? (i := 2) rfl)) (fun w h => hts w (List.mem_cons_of_mem _ (List.mem_append_right _ h))) jgA jbA hX (List.mem_of_getElem? (i := 7) rfl) hl hml dX1_requireRange_10 dX1_requireRange_13 dX1_requireRange_14 dX1_requireRange_16 dX1_requireRange_19 htab (Nat.le_of_ble_eq_true rfl) (Nat.le_of_ble_eq_true rfl) (Nat.le_of_ble_eq_true rfl) (Nat.le_of_ble_eq_true rfl) hlocks
set_option maxHeartbeats 4000000 in
set_option maxRecDepth 100000 in
/-- a month -/
theorem c_X1_requireMonth (l : Launch) (dC : Nat → ClassId) (dI : Nat → Nat → Nat) (v : Int32) (h1 : ¬ v < nI 0) (h2 : ¬ nI 239 < v) : Met l yX1_requireMonth wsX1_requireMonth ({ frames := 1, cells := 0, slots := 0, locals := 22 }) (va_Pc [.int v] (fun _ => True)) (va_Sv (fun _ => True)) 0 0 (fun _ => False) := by
  refine j_of (cc := cX1_requireMonth) (maxL := 1) (ret := none) (by decide) rfl (Nat.le_of_ble_eq_true rfl) ?_
  intro p e s m below meth c ls hx hb hr hml hts hown hlocks hnm hl hpre
  have hown : s.vm.findClass RX1 = some m.cls := hown
  have hl : lv_has ls 1 [(0, .int v)] := hl
  refine lv_iload_n hx hb dX1_requireMonth_0 rfl (lv_at hl 0 rfl) ?_
  refine lv_iconst (v := nI 0) hx hb dX1_requireMonth_1 (by decide) ?_
  refine lv_sipush (v := nI 239) hx hb dX1_requireMonth_2 (by decide) ?_
  refine j_sV (As := [.int v, .int (nI 0), .int (nI 239)]) (rest := []) ⟨hx, hb, hml, hown, hts⟩ (c_X1_requireRange l dC dI v (nI 0) (nI 239) h1 h2) (cwS 3 hts gX1_requireMonth_X1_requireRange rfl rfl rfl (by decide +kernel) ⟨Nat.le_of_ble_eq_true rfl, Nat.le_of_ble_eq_true rfl⟩) rfl hl rfl (Nat.le_of_ble_eq_true rfl) dX1_requireMonth_5 ⟨Nat.le_of_ble_eq_true rfl, Nat.le_of_ble_eq_true rfl⟩ ?_
  exact W.vret hx hb hr (fun t ht hW => ⟨rfl, trivial, ht⟩) (fun _ h => by cases h) dX1_requireMonth_8
set_option maxHeartbeats 4000000 in
set_option maxRecDepth 100000 in
/-- no month -/
theorem x_X1_requireMonth (l : Launch) (dC : Nat → ClassId) (dI : Nat → Nat → Nat) (v : Int32) (hst : l.stackTraces = false) (h : v < nI 0 ∨ nI 239 < v) : vx_Met l yX1_requireMonth wsX1_requireMonth ({ frames := 7, cells := 1, slots := 6, locals := 104 }) (va_Pc [.int v] (fun U => jX (fun _ => False) U U.heap)) (jFQ) (jXC eA) 1 6 (fun _ => False) := by
  refine j_ofx (cc := cX1_requireMonth) (maxL := 1) (ret := none) (by decide) rfl (Nat.le_of_ble_eq_true rfl) ?_
  intro p e s m below meth c ls hx hb hr hml hts hown hlocks htab hl hpre
  have hown : s.vm.findClass RX1 = some m.cls := hown
  have hl : lv_has ls 1 [(0, .int v)] := hl
  have hX : jX (fun _ => False) s s.heap := hpre
  refine lv_iload_n hx hb dX1_requireMonth_0 rfl (lv_at hl 0 rfl) ?_
  refine lv_iconst (v := nI 0) hx hb dX1_requireMonth_1 (by decide) ?_
  refine lv_sipush (v := nI 239) hx hb dX1_requireMonth_2 (by decide) ?_
  exact j_bxS (As := [.int v, .int (nI 0), .int (nI 239)]) (rest := []) ⟨hx, hb, hml, hown, hts⟩ (x_X1_requireRange l dC dI v (nI 0) (nI 239) hst h) (cwS 3 hts gX1_requireMonth_X1_requireRange rfl rfl rfl (by decide +kernel) ⟨Nat.le_of_ble_eq_true rfl, Nat.le_of_ble_eq_true rfl⟩) (jX_S hX) rfl hl rfl (Nat.le_of_ble_eq_true rfl) dX1_requireMonth_5 ⟨Nat.le_of_ble_eq_true rfl, Nat.le_of_ble_eq_true rfl⟩ htab hlocks
set_option maxHeartbeats 4000000 in
set_option maxRecDepth 100000 in
/-- the start has not been run -/
theorem c_X1_requireStartNotRun (l : Launch) (dC : Nat → ClassId) (dI : Nat → Nat → Nat) (cI cJ cZ cO : ClassId) (ax : Nat → Nat) (n mo : Nat) (aa an : Nat → Nat) (kp : Int64) (h0 : an 0 < 240) (hm : mo ≤ 240) (h : ¬ an 0 < mo) : Met l yX1_requireStartNotRun wsX1_requireStartNotRun ({ frames := 0, cells := 0, slots := 0, locals := 0 }) (va_Pc [.ref (ax 0), .ref (aa 0)] (jR (dC, dI) (jTY cI cJ cZ cO) [jXo ax n mo, jO aa an kp])) (va_Sv (fun _ => True)) 0 0 (fun _ => False) := by
  refine j_of (cc := cX1_requireStartNotRun) (maxL := 2) (ret := none) (by decide) rfl (Nat.le_of_ble_eq_true rfl) ?_
  intro p e s m below meth c ls hx hb hr hml hts hown hlocks hnm hl hpre
  have hown : s.vm.findClass RX1 = some m.cls := hown
  have hl : lv_has ls 2 [(0, .ref (ax 0)), (1, .ref (aa 0))] := hl
  obtain ⟨hP, hK⟩ := hpre
  refine lv_aload_n hx hb dX1_requireStartNotRun_0 rfl (lv_at hl 1 rfl) ?_
  refine va_get (D := (dC, dI)) (ci := 0) (v := .int (nI (an 0))) (C := RX0) (T := TX0) (N := 13) hx hb hts (fun _ h => List.mem_cons_of_mem _ (List.mem_append_left _ (List.mem_append_left _ (List.mem_append_right _ h)))) hown hK hP 1 rfl rfl 0 (by decide) (hts (.fieldLink RX1 128 "JointAnnuity$Annuity" "start" "I") (List.mem_of_getElem? (i := 3) rfl)) (fun _ h9 => h9) rfl dX1_requireStartNotRun_1 ?_
  refine lv_aload_n hx hb dX1_requireStartNotRun_4 rfl (lv_at hl 0 rfl) ?_
  refine va_get (D := (dC, dI)) (ci := 1) (v := .int (nI mo)) (C := RX1) (T := TX1) (N := 4) hx hb hts (fun _ h => List.mem_cons_of_mem _ (List.mem_append_left _ (List.mem_append_right _ h))) hown hK hP 0 rfl rfl 3 (by decide) (hts (.fieldLink RX1 23 "JointAnnuity" "monthThatGoesOn" "I") (List.mem_of_getElem? (i := 4) rfl)) (fun _ h9 => h9) rfl dX1_requireStartNotRun_5 ?_
  refine lv_icmp_ge (tgt := 21) hx hb dX1_requireStartNotRun_8 (by decide) (fun c_8 => ?_) (fun c_8 => ?_)
  · have c_8 : mo ≤ an 0 := (nI_leI (a := mo) (b := an 0) (by omega) (by omega)).mp c_8
    exact W.vret hx hb hr (fun t ht hW => ⟨rfl, trivial, ht⟩) (fun _ h => by cases h) dX1_requireStartNotRun_21
  · have c_8 : ¬ (mo ≤ an 0) := fun h => c_8 ((nI_leI (a := mo) (b := an 0) (by omega) (by omega)).mpr h)
    omega
set_option maxHeartbeats 4000000 in
set_option maxRecDepth 100000 in
/-- the start has been run -/
theorem x_X1_requireStartNotRun (l : Launch) (dC : Nat → ClassId) (dI : Nat → Nat → Nat) (cI cJ cZ cO : ClassId) (ax : Nat → Nat) (n mo : Nat) (aa an : Nat → Nat) (kp : Int64) (hst : l.stackTraces = false) (h0 : an 0 < 240) (hm : mo ≤ 240) (h : an 0 < mo) : vx_Met l yX1_requireStartNotRun wsX1_requireStartNotRun ({ frames := 6, cells := 1, slots := 6, locals := 82 }) (va_Pc [.ref (ax 0), .ref (aa 0)] (jRX (dC, dI) (jTY cI cJ cZ cO) [jXo ax n mo, jO aa an kp])) (jFQ) (jXC eS) 1 6 (fun _ => False) := by
  refine j_ofx (cc := cX1_requireStartNotRun) (maxL := 2) (ret := none) (by decide) rfl (Nat.le_of_ble_eq_true rfl) ?_
  intro p e s m below meth c ls hx hb hr hml hts hown hlocks htab hl hpre
  have hown : s.vm.findClass RX1 = some m.cls := hown
  have hl : lv_has ls 2 [(0, .ref (ax 0)), (1, .ref (aa 0))] := hl
  obtain ⟨⟨hP, hK⟩, hX⟩ := hpre
  refine lv_aload_n hx hb dX1_requireStartNotRun_0 rfl (lv_at hl 1 rfl) ?_
  refine va_get (D := (dC, dI)) (ci := 0) (v := .int (nI (an 0))) (C := RX0) (T := TX0) (N := 13) hx hb hts (fun _ h => List.mem_cons_of_mem _ (List.mem_append_left _ (List.mem_append_left _ (List.mem_append_right _ h)))) hown hK hP 1 rfl rfl 0 (by decide) (hts (.fieldLink RX1 128 "JointAnnuity$Annuity" "start" "I") (List.mem_of_getElem? (i := 3) rfl)) (fun _ h9 => h9) rfl dX1_requireStartNotRun_1 ?_
  refine lv_aload_n hx hb dX1_requireStartNotRun_4 rfl (lv_at hl 0 rfl) ?_
  refine va_get (D := (dC, dI)) (ci := 1) (v := .int (nI mo)) (C := RX1) (T := TX1) (N := 4) hx hb hts (fun _ h => List.mem_cons_of_mem _ (List.mem_append_left _ (List.mem_append_right _ h))) hown hK hP 0 rfl rfl 3 (by decide) (hts (.fieldLink RX1 23 "JointAnnuity" "monthThatGoesOn" "I") (List.mem_of_getElem? (i := 4) rfl)) (fun _ h9 => h9) rfl dX1_requireStartNotRun_5 ?_
  refine lv_icmp_ge (tgt := 21) hx hb dX1_requireStartNotRun_8 (by decide) (fun c_8 => ?_) (fun c_8 => ?_)
  · have c_8 : mo ≤ an 0 := (nI_leI (a := mo) (b := an 0) (by omega) (by omega)).mp c_8
    omega
  · have c_8 : ¬ (mo ≤ an 0) := fun h => c_8 ((nI_leI (a := mo) (b := an 0) (by omega) (by omega)).mpr h)
    exact j_throw (E := eS) hx hb hst hown (by decide +kernel) (by simp) (hts (.classLink RX1 31 "java/lang/IllegalStateException") (List.mem_of_getElem? (i := 1) rfl)) (hts (.initialized "java/lang/IllegalStateException") (List.mem_of_getElem? (i := 2) rfl)) (fun w h => hts w (List.mem_cons_of_mem _ (List.mem_append_right _ h))) jgS jbS hX (List.mem_of_getElem? (i := 6) rfl) hl hml dX1_requireStartNotRun_11 dX1_requireStartNotRun_14 dX1_requireStartNotRun_15 dX1_requireStartNotRun_17 dX1_requireStartNotRun_20 htab (Nat.le_of_ble_eq_true rfl) (Nat.le_of_ble_eq_true rfl) (Nat.le_of_ble_eq_true rfl) (Nat.le_of_ble_eq_true rfl) hlocks
set_option maxHeartbeats 4000000 in
set_option maxRecDepth 100000 in
/-- the annuity is found -/
theorem c_X1_find (l : Launch) (dC : Nat → ClassId) (dI : Nat → Nat → Nat) (cI cJ cZ cO : ClassId) (ax : Nat → Nat) (ao : Nat → Option Nat) (n mo : Nat) (k a : Nat) (hk : k < 20) (hao : ao k = some a) : Met l yX1_find wsX1_find ({ frames := 0, cells := 0, slots := 0, locals := 0 }) (va_Pc [.ref (ax 0), .int (nI k)] (jR (dC, dI) (jTY cI cJ cZ cO) [jXo ax n mo, jXa cO ax ao])) (jSr a) 0 0 (fun _ => False) := by
  refine j_of (cc := cX1_find) (maxL := 3) (ret := (some (.object "JointAnnuity$Annuity"))) (by decide) rfl (Nat.le_of_ble_eq_true rfl) ?_
  intro p e s m below meth c ls hx hb hr hml hts hown hlocks hnm hl hpre
  have hown : s.vm.findClass RX1 = some m.cls := hown
  have hl : lv_has ls 3 [(0, .ref (ax 0)), (1, .int (nI k))] := hl
  obtain ⟨hP, hK⟩ := hpre
  refine lv_iload_n hx hb dX1_find_0 rfl (lv_at hl 1 rfl) ?_
  refine lv_if_lt (tgt := 22) hx hb dX1_find_1 (by decide) (fun c_1 => ?_) (fun c_1 => ?_)
  · have c_1 : k < 0 := (nI_ltI (a := k) (b := 0) (by omega) (by omega)).mp c_1
    omega
  · have c_1 : ¬ (k < 0) := fun h => c_1 ((nI_ltI (a := k) (b := 0) (by omega) (by omega)).mpr h)
    refine lv_iload_n hx hb dX1_find_4 rfl (lv_at hl 1 rfl) ?_
    refine lv_aload_n hx hb dX1_find_5 rfl (lv_at hl 0 rfl) ?_
    refine va_get (D := (dC, dI)) (ci := 1) (v := .ref (ax 1)) (C := RX1) (T := TX1) (N := 4) hx hb hts (fun _ h => List.mem_cons_of_mem _ (List.mem_append_left _ (List.mem_append_right _ h))) hown hK hP 0 rfl rfl 0 (by decide) (hts (.fieldLink RX1 11 "JointAnnuity" "annuities" "[LJointAnnuity$Annuity;") (List.mem_of_getElem? (i := 3) rfl)) (fun _ h9 => h9) rfl dX1_find_6 ?_
    refine va_alen hx hb hK hP 1 3 (v := nI 20) rfl rfl rfl dX1_find_9 ?_
    refine lv_icmp_ge (tgt := 22) hx hb dX1_find_10 (by decide) (fun c_10 => ?_) (fun c_10 => ?_)
    · have c_10 : 20 ≤ k := (nI_leI (a := 20) (b := k) (by omega) (by omega)).mp c_10
      omega
    · have c_10 : ¬ (20 ≤ k) := fun h => c_10 ((nI_leI (a := 20) (b := k) (by omega) (by omega)).mpr h)
      refine lv_aload_n hx hb dX1_find_13 rfl (lv_at hl 0 rfl) ?_
      refine va_get (D := (dC, dI)) (ci := 1) (v := .ref (ax 1)) (C := RX1) (T := TX1) (N := 4) hx hb hts (fun _ h => List.mem_cons_of_mem _ (List.mem_append_left _ (List.mem_append_right _ h))) hown hK hP 0 rfl rfl 0 (by decide) (hts (.fieldLink RX1 11 "JointAnnuity" "annuities" "[LJointAnnuity$Annuity;") (List.mem_of_getElem? (i := 3) rfl)) (fun _ h9 => h9) rfl dX1_find_14 ?_
      refine lv_iload_n hx hb dX1_find_17 rfl (lv_at hl 1 rfl) ?_
      refine va_aldq hx hb hK hP 1 3 (f := ao) rfl rfl (vp_in_nI (n := k) (N := 20) (by omega) (by omega)) dX1_find_18 ?_
      refine j_v (y := .ref a) (by rw [nI_clamp (by omega), hao]; rfl) ?_
      refine lv_goto (tgt := 23) hx hb dX1_find_19 (by decide) ?_
      refine lv_astore_n (lv' := [(2, .ref a), (0, .ref (ax 0)), (1, .int (nI k))]) hx hb dX1_find_23 rfl hl (by decide) rfl (fun ls hl => ?_)
      refine lv_aload_n hx hb dX1_find_24 rfl (lv_at hl 0 rfl) ?_
      refine lv_ifnonnull (tgt := 38) hx hb dX1_find_25 (by decide) ?_
      refine lv_aload_n hx hb dX1_find_38 rfl (lv_at hl 0 rfl) ?_
      exact W.aret (v := .ref a) hx hb hr (Or.inl ⟨_, rfl⟩) (Or.inr ⟨_, rfl⟩) (fun t ht hW => ⟨rfl, ht⟩) (fun _ h => by cases h) dX1_find_39
set_option maxHeartbeats 4000000 in
set_option maxRecDepth 100000 in
/-- no such annuity -/
theorem x_X1_find (l : Launch) (dC : Nat → ClassId) (dI : Nat → Nat → Nat) (cI cJ cZ cO : ClassId) (ax : Nat → Nat) (ao : Nat → Option Nat) (n mo : Nat) (p0 : Int32) (hst : l.stackTraces = false) (hn : n ≤ 20) (hao : ∀ j, n ≤ j → ao j = none) (hb0 : ¬ vp_in p0 n) : vx_Met l yX1_find wsX1_find ({ frames := 6, cells := 1, slots := 6, locals := 82 }) (va_Pc [.ref (ax 0), .int p0] (jRX (dC, dI) (jTY cI cJ cZ cO) [jXo ax n mo, jXa cO ax ao])) (jFQ) (jXC eO) 1 6 (fun _ => False) := by
  refine j_ofx (cc := cX1_find) (maxL := 3) (ret := (some (.object "JointAnnuity$Annuity"))) (by decide) rfl (Nat.le_of_ble_eq_true rfl) ?_
  intro p e s m below meth c ls hx hb hr hml hts hown hlocks htab hl hpre
  have hown : s.vm.findClass RX1 = some m.cls := hown
  have hl : lv_has ls 3 [(0, .ref (ax 0)), (1, .int p0)] := hl
  obtain ⟨⟨hP, hK⟩, hX⟩ := hpre
  refine lv_iload_n hx hb dX1_find_0 rfl (lv_at hl 1 rfl) ?_
  refine lv_if_lt (tgt := 22) hx hb dX1_find_1 (by decide) (fun c_1 => ?_) (fun c_1 => ?_)
  · refine lv_null hx hb dX1_find_22 ?_
    refine lv_astore_nN (lv' := [(2, .null), (0, .ref (ax 0)), (1, .int p0)]) hx hb dX1_find_23 rfl hl (by decide) rfl (fun ls hl => ?_)
    refine lv_aload_nN hx hb dX1_find_24 rfl (lv_at hl 0 rfl) ?_
    refine lv_ifnonnullN hx hb dX1_find_25 ?_
    exact j_throw (E := eO) hx hb hst hown (by decide +kernel) (by simp) (hts (.classLink RX1 123 "java/lang/IndexOutOfBoundsException") (List.mem_of_getElem? (i := 1) rfl)) (hts (.initialized "java/lang/IndexOutOfBoundsException") (List.mem_of_getElem? (i := 2) rfl)) (fun w h => hts w (List.mem_cons_of_mem _ (List.mem_append_right _ h))) jgO jbO hX (List.mem_of_getElem? (i := 5) rfl) hl hml dX1_find_28 dX1_find_31 dX1_find_32 dX1_find_34 dX1_find_37 htab (Nat.le_of_ble_eq_true rfl) (Nat.le_of_ble_eq_true rfl) (Nat.le_of_ble_eq_true rfl) (Nat.le_of_ble_eq_true rfl) hlocks
  · refine lv_iload_n hx hb dX1_find_4 rfl (lv_at hl 1 rfl) ?_
    refine lv_aload_n hx hb dX1_find_5 rfl (lv_at hl 0 rfl) ?_
    refine va_get (D := (dC, dI)) (ci := 1) (v := .ref (ax 1)) (C := RX1) (T := TX1) (N := 4) hx hb hts (fun _ h => List.mem_cons_of_mem _ (List.mem_append_left _ (List.mem_append_right _ h))) hown hK hP 0 rfl rfl 0 (by decide) (hts (.fieldLink RX1 11 "JointAnnuity" "annuities" "[LJointAnnuity$Annuity;") (List.mem_of_getElem? (i := 3) rfl)) (fun _ h9 => h9) rfl dX1_find_6 ?_
    refine va_alen hx hb hK hP 1 3 (v := nI 20) rfl rfl rfl dX1_find_9 ?_
    refine lv_icmp_ge (tgt := 22) hx hb dX1_find_10 (by decide) (fun c_10 => ?_) (fun c_10 => ?_)
    · refine lv_null hx hb dX1_find_22 ?_
      refine lv_astore_nN (lv' := [(2, .null), (0, .ref (ax 0)), (1, .int p0)]) hx hb dX1_find_23 rfl hl (by decide) rfl (fun ls hl => ?_)
      refine lv_aload_nN hx hb dX1_find_24 rfl (lv_at hl 0 rfl) ?_
      refine lv_ifnonnullN hx hb dX1_find_25 ?_
      exact j_throw (E := eO) hx hb hst hown (by decide +kernel) (by simp) (hts (.classLink RX1 123 "java/lang/IndexOutOfBoundsException") (List.mem_of_getElem? (i := 1) rfl)) (hts (.initialized "java/lang/IndexOutOfBoundsException") (List.mem_of_getElem? (i := 2) rfl)) (fun w h => hts w (List.mem_cons_of_mem _ (List.mem_append_right _ h))) jgO jbO hX (List.mem_of_getElem? (i := 5) rfl) hl hml dX1_find_28 dX1_find_31 dX1_find_32 dX1_find_34 dX1_find_37 htab (Nat.le_of_ble_eq_true rfl) (Nat.le_of_ble_eq_true rfl) (Nat.le_of_ble_eq_true rfl) (Nat.le_of_ble_eq_true rfl) hlocks
    · obtain ⟨j, hj, rfl⟩ := nI_of (x := p0) c_1
      have c_10 : ¬ 20 ≤ j := fun h => c_10 ((nI_leI (a := 20) (b := j) (by omega) hj).mpr h)
      have hj2 : j < 20 := by omega
      have hn9 : n ≤ j := Nat.not_lt.mp (fun h => hb0 (vp_in_nI h (by omega)))
      refine lv_aload_n hx hb dX1_find_13 rfl (lv_at hl 0 rfl) ?_
      refine va_get (D := (dC, dI)) (ci := 1) (v := .ref (ax 1)) (C := RX1) (T := TX1) (N := 4) hx hb hts (fun _ h => List.mem_cons_of_mem _ (List.mem_append_left _ (List.mem_append_right _ h))) hown hK hP 0 rfl rfl 0 (by decide) (hts (.fieldLink RX1 11 "JointAnnuity" "annuities" "[LJointAnnuity$Annuity;") (List.mem_of_getElem? (i := 3) rfl)) (fun _ h9 => h9) rfl dX1_find_14 ?_
      refine lv_iload_n hx hb dX1_find_17 rfl (lv_at hl 1 rfl) ?_
      refine va_aldq hx hb hK hP 1 3 (f := ao) rfl rfl (vp_in_nI (n := j) (N := 20) hj2 (by omega)) dX1_find_18 ?_
      refine j_v (y := .null) (by rw [nI_clamp (by omega), hao j hn9]; rfl) ?_
      refine lv_goto (tgt := 23) hx hb dX1_find_19 (by decide) ?_
      refine lv_astore_nN (lv' := [(2, .null), (0, .ref (ax 0)), (1, .int (nI j))]) hx hb dX1_find_23 rfl hl (by decide) rfl (fun ls hl => ?_)
      refine lv_aload_nN hx hb dX1_find_24 rfl (lv_at hl 0 rfl) ?_
      refine lv_ifnonnullN hx hb dX1_find_25 ?_
      exact j_throw (E := eO) hx hb hst hown (by decide +kernel) (by simp) (hts (.classLink RX1 123 "java/lang/IndexOutOfBoundsException") (List.mem_of_getElem? (i := 1) rfl)) (hts (.initialized "java/lang/IndexOutOfBoundsException") (List.mem_of_getElem? (i := 2) rfl)) (fun w h => hts w (List.mem_cons_of_mem _ (List.mem_append_right _ h))) jgO jbO hX (List.mem_of_getElem? (i := 5) rfl) hl hml dX1_find_28 dX1_find_31 dX1_find_32 dX1_find_34 dX1_find_37 htab (Nat.le_of_ble_eq_true rfl) (Nat.le_of_ble_eq_true rfl) (Nat.le_of_ble_eq_true rfl) (Nat.le_of_ble_eq_true rfl) hlocks
set_option maxHeartbeats 4000000 in
set_option maxRecDepth 100000 in
/-- what was paid -/
theorem c_X1_paid (l : Launch) (dC : Nat → ClassId) (dI : Nat → Nat → Nat) (cI cJ cZ cO : ClassId) (ax : Nat → Nat) (ao : Nat → Option Nat) (n mo : Nat) (iv : Nat → Int32) (aa an : Nat → Nat) (kp : Int64) (py : Nat → Int64) (k : Nat) (v : Nat) (hv : jV an) (hm : mo ≤ 240) (hk : k < 20) (hao : ao k = some (aa 0)) (hb9 : v < mo) : Met l yX1_paid wsX1_paid ({ frames := 1, cells := 0, slots := 0, locals := 22 }) (va_Pc [.ref (ax 0), .int (nI k), .int (nI v)] (jR (dC, dI) (jTY cI cJ cZ cO) (jFW cI cJ cO ax ao n mo iv aa an kp py))) (vp_Sl (fun r => r = py v)) 0 0 (fun _ => False) := by
  refine j_of (cc := cX1_paid) (maxL := 4) (ret := (some .long)) (by decide) rfl (Nat.le_of_ble_eq_true rfl) ?_
  intro p e s m below meth c ls hx hb hr hml hts hown hlocks hnm hl hpre
  have hown : s.vm.findClass RX1 = some m.cls := hown
  have hl : lv_has ls 4 [(0, .ref (ax 0)), (1, .int (nI k)), (2, .int (nI v))] := hl
  obtain ⟨v0, v1, v2, v3, v4, v5, v6, v7, v8, v9⟩ := id hv
  obtain ⟨hP, hK⟩ := hpre
  refine lv_aload_n hx hb dX1_paid_0 rfl (lv_at hl 0 rfl) ?_
  refine lv_iload_n hx hb dX1_paid_1 rfl (lv_at hl 1 rfl) ?_
  refine j_cR_ (As := [.int (nI k)]) (rest := []) ⟨hx, hb, hml, hown, hts⟩ (c_X1_find l dC dI cI cJ cZ cO ax ao n mo k (aa 0) hk hao) (cwV 1 hts gX1_paid_X1_find rfl rfl rfl (by decide +kernel) ⟨Nat.le_of_ble_eq_true rfl, Nat.le_of_ble_eq_true rfl⟩) (jR_V hK hP [0, 1] rfl (ci := 1) (q0 := 0) rfl rfl rfl) rfl hl rfl (Nat.le_of_ble_eq_true rfl) dX1_paid_2 ⟨Nat.le_of_ble_eq_true rfl, Nat.le_of_ble_eq_true rfl⟩ ?_
  refine lv_astore_n (lv' := [(3, .ref (aa 0)), (0, .ref (ax 0)), (1, .int (nI k)), (2, .int (nI v))]) hx hb dX1_paid_5 rfl hl (by decide) rfl (fun ls hl => ?_)
  refine lv_iload_n hx hb dX1_paid_6 rfl (lv_at hl 3 rfl) ?_
  refine lv_iconst (v := nI 0) hx hb dX1_paid_7 (by decide) ?_
  refine lv_aload_n hx hb dX1_paid_8 rfl (lv_at hl 1 rfl) ?_
  refine va_get (D := (dC, dI)) (ci := 1) (v := .int (nI mo)) (C := RX1) (T := TX1) (N := 4) hx hb hts (fun _ h => List.mem_cons_of_mem _ (List.mem_append_left _ (List.mem_append_left _ (List.mem_append_left _ (List.mem_append_right _ h))))) hown hK hP 0 rfl rfl 3 (by decide) (hts (.fieldLink RX1 23 "JointAnnuity" "monthThatGoesOn" "I") (List.mem_of_getElem? (i := 1) rfl)) (fun _ h9 => h9) rfl dX1_paid_9 ?_
  refine lv_iconst (v := nI 1) hx hb dX1_paid_12 (by decide) ?_
  refine lv_isub hx hb dX1_paid_13 ?_
  refine j_i (y := nI (mo - 1)) (pk_sub (by omega)) ?_
  refine j_sV (As := [.int (nI v), .int (nI 0), .int (nI (mo - 1))]) (rest := []) ⟨hx, hb, hml, hown, hts⟩ (c_X1_requireRange l dC dI (nI v) (nI 0) (nI (mo - 1)) (nI_nlt (by omega) (by omega)) (nI_nlt (by omega) (by omega))) (cwS 3 hts gX1_paid_X1_requireRange rfl rfl rfl (by decide +kernel) ⟨Nat.le_of_ble_eq_true rfl, Nat.le_of_ble_eq_true rfl⟩) rfl hl rfl (Nat.le_of_ble_eq_true rfl) dX1_paid_14 ⟨Nat.le_of_ble_eq_true rfl, Nat.le_of_ble_eq_true rfl⟩ ?_
  refine lv_aload_n hx hb dX1_paid_17 rfl (lv_at hl 0 rfl) ?_
  refine va_get (D := (dC, dI)) (ci := 0) (v := .ref (aa 4)) (C := RX0) (T := TX0) (N := 13) hx hb hts (fun _ h => List.mem_cons_of_mem _ (List.mem_append_left _ (List.mem_append_left _ (List.mem_append_right _ h)))) hown hK hP 3 rfl rfl 11 (by decide) (hts (.fieldLink RX1 98 "JointAnnuity$Annuity" "payments" "[J") (List.mem_of_getElem? (i := 2) rfl)) (fun _ h9 => h9) rfl dX1_paid_18 ?_
  refine lv_iload_n hx hb dX1_paid_21 rfl (lv_at hl 3 rfl) ?_
  refine va_lald hx hb hK hP 7 1 (f := py) rfl rfl (vp_in_nI (n := v) (N := 240) (by omega) (by omega)) dX1_paid_22 ?_
  refine j_l (y := py v) (by rw [nI_clamp (by omega)]) ?_
  exact W.lret (v := py v) hx hb hr (fun t ht hW => ⟨_, rfl, rfl, ht⟩) (fun _ h => by cases h) dX1_paid_23
set_option maxHeartbeats 4000000 in
set_option maxRecDepth 100000 in
/-- all that was paid -/
theorem c_X1_paidInAll (l : Launch) (dC : Nat → ClassId) (dI : Nat → Nat → Nat) (cI cJ cZ cO : ClassId) (ax : Nat → Nat) (ao : Nat → Option Nat) (n mo : Nat) (iv : Nat → Int32) (aa an : Nat → Nat) (kp : Int64) (py : Nat → Int64) (k : Nat) (hv : jV an) (hm : mo ≤ 240) (hk : k < 20) (hao : ao k = some (aa 0)) : Met l yX1_paidInAll wsX1_paidInAll ({ frames := 1, cells := 0, slots := 0, locals := 22 }) (va_Pc [.ref (ax 0), .int (nI k)] (jR (dC, dI) (jTY cI cJ cZ cO) (jFW cI cJ cO ax ao n mo iv aa an kp py))) (vp_Sl (fun r => r = kp)) 0 0 (fun _ => False) := by
  refine j_of (cc := cX1_paidInAll) (maxL := 2) (ret := (some .long)) (by decide) rfl (Nat.le_of_ble_eq_true rfl) ?_
  intro p e s m below meth c ls hx hb hr hml hts hown hlocks hnm hl hpre
  have hown : s.vm.findClass RX1 = some m.cls := hown
  have hl : lv_has ls 2 [(0, .ref (ax 0)), (1, .int (nI k))] := hl
  obtain ⟨v0, v1, v2, v3, v4, v5, v6, v7, v8, v9⟩ := id hv
  obtain ⟨hP, hK⟩ := hpre
  refine lv_aload_n hx hb dX1_paidInAll_0 rfl (lv_at hl 0 rfl) ?_
  refine lv_iload_n hx hb dX1_paidInAll_1 rfl (lv_at hl 1 rfl) ?_
  refine j_cR_ (As := [.int (nI k)]) (rest := []) ⟨hx, hb, hml, hown, hts⟩ (c_X1_find l dC dI cI cJ cZ cO ax ao n mo k (aa 0) hk hao) (cwV 1 hts gX1_paidInAll_X1_find rfl rfl rfl (by decide +kernel) ⟨Nat.le_of_ble_eq_true rfl, Nat.le_of_ble_eq_true rfl⟩) (jR_V hK hP [0, 1] rfl (ci := 1) (q0 := 0) rfl rfl rfl) rfl hl rfl (Nat.le_of_ble_eq_true rfl) dX1_paidInAll_2 ⟨Nat.le_of_ble_eq_true rfl, Nat.le_of_ble_eq_true rfl⟩ ?_
  refine va_get (D := (dC, dI)) (ci := 0) (v := .long (kp)) (C := RX0) (T := TX0) (N := 13) hx hb hts (fun _ h => List.mem_cons_of_mem _ (List.mem_append_left _ (List.mem_append_left _ (List.mem_append_right _ h)))) hown hK hP 3 rfl rfl 12 (by decide) (hts (.fieldLink RX1 94 "JointAnnuity$Annuity" "keptInAll" "J") (List.mem_of_getElem? (i := 1) rfl)) (fun _ h9 => h9) rfl dX1_paidInAll_5 ?_
  exact W.lret (v := kp) hx hb hr (fun t ht hW => ⟨_, rfl, rfl, ht⟩) (fun _ h => by cases h) dX1_paidInAll_8
set_option maxHeartbeats 4000000 in
set_option maxRecDepth 100000 in
/-- what is owed -/
theorem c_X1_owes (l : Launch) (dC : Nat → ClassId) (dI : Nat → Nat → Nat) (cI cJ cZ cO : ClassId) (ax : Nat → Nat) (ao : Nat → Option Nat) (n mo : Nat) (iv : Nat → Int32) (aa an : Nat → Nat) (kp : Int64) (py : Nat → Int64) (k : Nat) (hv : jV an) (hm : mo ≤ 240) (hk : k < 20) (hao : ao k = some (aa 0)) : Met l yX1_owes wsX1_owes ({ frames := 6, cells := 0, slots := 0, locals := 137 }) (va_Pc [.ref (ax 0), .int (nI k)] (jR (dC, dI) (jTY cI cJ cZ cO) (jFW cI cJ cO ax ao n mo iv aa an kp py))) (vp_Sl (fun r => r = jmx (kp - lN (jU an iv mo)))) 0 0 (fun _ => False) := by
  refine j_of (cc := cX1_owes) (maxL := 2) (ret := (some .long)) (by decide) rfl (Nat.le_of_ble_eq_true rfl) ?_
  intro p e s m below meth c ls hx hb hr hml hts hown hlocks hnm hl hpre
  have hown : s.vm.findClass RX1 = some m.cls := hown
  have hl : lv_has ls 2 [(0, .ref (ax 0)), (1, .int (nI k))] := hl
  obtain ⟨v0, v1, v2, v3, v4, v5, v6, v7, v8, v9⟩ := id hv
  obtain ⟨hP, hK⟩ := hpre
  refine lv_aload_n hx hb dX1_owes_0 rfl (lv_at hl 0 rfl) ?_
  refine lv_iload_n hx hb dX1_owes_1 rfl (lv_at hl 1 rfl) ?_
  refine j_cR_ (As := [.int (nI k)]) (rest := []) ⟨hx, hb, hml, hown, hts⟩ (c_X1_find l dC dI cI cJ cZ cO ax ao n mo k (aa 0) hk hao) (cwV 1 hts gX1_owes_X1_find rfl rfl rfl (by decide +kernel) ⟨Nat.le_of_ble_eq_true rfl, Nat.le_of_ble_eq_true rfl⟩) (jR_V hK hP [0, 1] rfl (ci := 1) (q0 := 0) rfl rfl rfl) rfl hl rfl (Nat.le_of_ble_eq_true rfl) dX1_owes_2 ⟨Nat.le_of_ble_eq_true rfl, Nat.le_of_ble_eq_true rfl⟩ ?_
  refine lv_aload_n hx hb dX1_owes_5 rfl (lv_at hl 0 rfl) ?_
  refine va_get (D := (dC, dI)) (ci := 1) (v := .int (nI mo)) (C := RX1) (T := TX1) (N := 4) hx hb hts (fun _ h => List.mem_cons_of_mem _ (List.mem_append_left _ (List.mem_append_left _ (List.mem_append_right _ h)))) hown hK hP 0 rfl rfl 3 (by decide) (hts (.fieldLink RX1 23 "JointAnnuity" "monthThatGoesOn" "I") (List.mem_of_getElem? (i := 1) rfl)) (fun _ h9 => h9) rfl dX1_owes_6 ?_
  refine j_cL_ (As := [.int (nI mo)]) (rest := []) ⟨hx, hb, hml, hown, hts⟩ (c_X0_debtAhead l dC dI cI cJ cZ cO aa an iv kp py mo hv hm) (cwV 1 hts gX1_owes_X0_debtAhead rfl rfl rfl (by decide +kernel) ⟨Nat.le_of_ble_eq_true rfl, Nat.le_of_ble_eq_true rfl⟩) (jR_V hK hP [3, 4, 5, 6, 7] rfl (ci := 0) (q0 := 3) rfl rfl rfl) rfl hl rfl (Nat.le_of_ble_eq_true rfl) dX1_owes_9 ⟨Nat.le_of_ble_eq_true rfl, Nat.le_of_ble_eq_true rfl⟩ (fun r_9 hr_9 => ?_)
  subst hr_9
  exact W.lret (v := jmx (kp - lN (jU an iv mo))) hx hb hr (fun t ht hW => ⟨_, rfl, rfl, ht⟩) (fun _ h => by cases h) dX1_owes_12
set_option maxHeartbeats 4000000 in
set_option maxRecDepth 100000 in
/-- the full amount -/
theorem c_X1_fullAmount (l : Launch) (dC : Nat → ClassId) (dI : Nat → Nat → Nat) (cI cJ cZ cO : ClassId) (ax : Nat → Nat) (ao : Nat → Option Nat) (n mo : Nat) (iv : Nat → Int32) (aa an : Nat → Nat) (kp : Int64) (py : Nat → Int64) (k : Nat) (v : Nat) (hv : jV an) (hm : mo ≤ 240) (hk : k < 20) (hao : ao k = some (aa 0)) (hb9 : v < 240) : Met l yX1_fullAmount wsX1_fullAmount ({ frames := 2, cells := 0, slots := 0, locals := 42 }) (va_Pc [.ref (ax 0), .int (nI k), .int (nI v)] (jR (dC, dI) (jTY cI cJ cZ cO) (jFW cI cJ cO ax ao n mo iv aa an kp py))) (vp_Si (fun r => r = nI (if v < an 0 then 0 else jM an iv v))) 0 0 (fun _ => False) := by
  refine j_of (cc := cX1_fullAmount) (maxL := 4) (ret := (some .int)) (by decide) rfl (Nat.le_of_ble_eq_true rfl) ?_
  intro p e s m below meth c ls hx hb hr hml hts hown hlocks hnm hl hpre
  have hown : s.vm.findClass RX1 = some m.cls := hown
  have hl : lv_has ls 4 [(0, .ref (ax 0)), (1, .int (nI k)), (2, .int (nI v))] := hl
  obtain ⟨v0, v1, v2, v3, v4, v5, v6, v7, v8, v9⟩ := id hv
  obtain ⟨hP, hK⟩ := hpre
  refine lv_aload_n hx hb dX1_fullAmount_0 rfl (lv_at hl 0 rfl) ?_
  refine lv_iload_n hx hb dX1_fullAmount_1 rfl (lv_at hl 1 rfl) ?_
  refine j_cR_ (As := [.int (nI k)]) (rest := []) ⟨hx, hb, hml, hown, hts⟩ (c_X1_find l dC dI cI cJ cZ cO ax ao n mo k (aa 0) hk hao) (cwV 1 hts gX1_fullAmount_X1_find rfl rfl rfl (by decide +kernel) ⟨Nat.le_of_ble_eq_true rfl, Nat.le_of_ble_eq_true rfl⟩) (jR_V hK hP [0, 1] rfl (ci := 1) (q0 := 0) rfl rfl rfl) rfl hl rfl (Nat.le_of_ble_eq_true rfl) dX1_fullAmount_2 ⟨Nat.le_of_ble_eq_true rfl, Nat.le_of_ble_eq_true rfl⟩ ?_
  refine lv_astore_n (lv' := [(3, .ref (aa 0)), (0, .ref (ax 0)), (1, .int (nI k)), (2, .int (nI v))]) hx hb dX1_fullAmount_5 rfl hl (by decide) rfl (fun ls hl => ?_)
  refine lv_iload_n hx hb dX1_fullAmount_6 rfl (lv_at hl 3 rfl) ?_
  refine j_sV (As := [.int (nI v)]) (rest := []) ⟨hx, hb, hml, hown, hts⟩ (c_X1_requireMonth l dC dI (nI v) (nI_nlt (by omega) (by omega)) (nI_nlt (by omega) (by omega))) (cwS 1 hts gX1_fullAmount_X1_requireMonth rfl rfl rfl (by decide +kernel) ⟨Nat.le_of_ble_eq_true rfl, Nat.le_of_ble_eq_true rfl⟩) rfl hl rfl (Nat.le_of_ble_eq_true rfl) dX1_fullAmount_7 ⟨Nat.le_of_ble_eq_true rfl, Nat.le_of_ble_eq_true rfl⟩ ?_
  refine lv_aload_n hx hb dX1_fullAmount_10 rfl (lv_at hl 0 rfl) ?_
  refine lv_iload_n hx hb dX1_fullAmount_11 rfl (lv_at hl 3 rfl) ?_
  refine j_cI_ (As := [.int (nI v)]) (rest := []) ⟨hx, hb, hml, hown, hts⟩ (c_X0_fullIn l dC dI cI cJ cZ cO aa an iv kp py v hv hb9) (cwV 1 hts gX1_fullAmount_X0_fullIn rfl rfl rfl (by decide +kernel) ⟨Nat.le_of_ble_eq_true rfl, Nat.le_of_ble_eq_true rfl⟩) (jR_V hK hP [3, 4, 5, 6, 7] rfl (ci := 0) (q0 := 3) rfl rfl rfl) rfl hl rfl (Nat.le_of_ble_eq_true rfl) dX1_fullAmount_12 ⟨Nat.le_of_ble_eq_true rfl, Nat.le_of_ble_eq_true rfl⟩ (fun r_12 hr_12 => ?_)
  subst hr_12
  exact W.iret (v := nI (if v < an 0 then 0 else jM an iv v)) hx hb hr (fun t ht hW => ⟨_, rfl, rfl, ht⟩) (fun _ h => by cases h) dX1_fullAmount_15
set_option maxHeartbeats 4000000 in
set_option maxRecDepth 100000 in
/-- the carry -/
theorem c_X1_carry (l : Launch) (dC : Nat → ClassId) (dI : Nat → Nat → Nat) (cI cJ cZ cO : ClassId) (ax : Nat → Nat) (ao : Nat → Option Nat) (n mo : Nat) (iv : Nat → Int32) (aa an : Nat → Nat) (kp : Int64) (py : Nat → Int64) (k : Nat) (v : Nat) (hv : jV an) (hm : mo ≤ 240) (hk : k < 20) (hao : ao k = some (aa 0)) (hb9 : v < 240) : Met l yX1_carry wsX1_carry ({ frames := 2, cells := 0, slots := 0, locals := 42 }) (va_Pc [.ref (ax 0), .int (nI k), .int (nI v)] (jR (dC, dI) (jTY cI cJ cZ cO) (jFW cI cJ cO ax ao n mo iv aa an kp py))) (vp_Si (fun r => r = if v < an 0 then 0 else jC an iv ((v - an 0) / 12))) 0 0 (fun _ => False) := by
  refine j_of (cc := cX1_carry) (maxL := 4) (ret := (some .int)) (by decide) rfl (Nat.le_of_ble_eq_true rfl) ?_
  intro p e s m below meth c ls hx hb hr hml hts hown hlocks hnm hl hpre
  have hown : s.vm.findClass RX1 = some m.cls := hown
  have hl : lv_has ls 4 [(0, .ref (ax 0)), (1, .int (nI k)), (2, .int (nI v))] := hl
  obtain ⟨v0, v1, v2, v3, v4, v5, v6, v7, v8, v9⟩ := id hv
  obtain ⟨hP, hK⟩ := hpre
  refine lv_aload_n hx hb dX1_carry_0 rfl (lv_at hl 0 rfl) ?_
  refine lv_iload_n hx hb dX1_carry_1 rfl (lv_at hl 1 rfl) ?_
  refine j_cR_ (As := [.int (nI k)]) (rest := []) ⟨hx, hb, hml, hown, hts⟩ (c_X1_find l dC dI cI cJ cZ cO ax ao n mo k (aa 0) hk hao) (cwV 1 hts gX1_carry_X1_find rfl rfl rfl (by decide +kernel) ⟨Nat.le_of_ble_eq_true rfl, Nat.le_of_ble_eq_true rfl⟩) (jR_V hK hP [0, 1] rfl (ci := 1) (q0 := 0) rfl rfl rfl) rfl hl rfl (Nat.le_of_ble_eq_true rfl) dX1_carry_2 ⟨Nat.le_of_ble_eq_true rfl, Nat.le_of_ble_eq_true rfl⟩ ?_
  refine lv_astore_n (lv' := [(3, .ref (aa 0)), (0, .ref (ax 0)), (1, .int (nI k)), (2, .int (nI v))]) hx hb dX1_carry_5 rfl hl (by decide) rfl (fun ls hl => ?_)
  refine lv_iload_n hx hb dX1_carry_6 rfl (lv_at hl 3 rfl) ?_
  refine j_sV (As := [.int (nI v)]) (rest := []) ⟨hx, hb, hml, hown, hts⟩ (c_X1_requireMonth l dC dI (nI v) (nI_nlt (by omega) (by omega)) (nI_nlt (by omega) (by omega))) (cwS 1 hts gX1_carry_X1_requireMonth rfl rfl rfl (by decide +kernel) ⟨Nat.le_of_ble_eq_true rfl, Nat.le_of_ble_eq_true rfl⟩) rfl hl rfl (Nat.le_of_ble_eq_true rfl) dX1_carry_7 ⟨Nat.le_of_ble_eq_true rfl, Nat.le_of_ble_eq_true rfl⟩ ?_
  refine lv_aload_n hx hb dX1_carry_10 rfl (lv_at hl 0 rfl) ?_
  refine lv_iload_n hx hb dX1_carry_11 rfl (lv_at hl 3 rfl) ?_
  refine j_cI_ (As := [.int (nI v)]) (rest := []) ⟨hx, hb, hml, hown, hts⟩ (c_X0_carryIn l dC dI cI cJ cZ cO aa an iv kp py v hv hb9) (cwV 1 hts gX1_carry_X0_carryIn rfl rfl rfl (by decide +kernel) ⟨Nat.le_of_ble_eq_true rfl, Nat.le_of_ble_eq_true rfl⟩) (jR_V hK hP [3, 4, 5, 6, 7] rfl (ci := 0) (q0 := 3) rfl rfl rfl) rfl hl rfl (Nat.le_of_ble_eq_true rfl) dX1_carry_12 ⟨Nat.le_of_ble_eq_true rfl, Nat.le_of_ble_eq_true rfl⟩ (fun r_12 hr_12 => ?_)
  subst hr_12
  exact W.iret (v := if v < an 0 then 0 else jC an iv ((v - an 0) / 12)) hx hb hr (fun t ht hW => ⟨_, rfl, rfl, ht⟩) (fun _ h => by cases h) dX1_carry_15
set_option maxHeartbeats 4000000 in
set_option maxRecDepth 100000 in
/-- what is due in a month -/
theorem c_X1_entitled (l : Launch) (dC : Nat → ClassId) (dI : Nat → Nat → Nat) (cI cJ cZ cO : ClassId) (ax : Nat → Nat) (ao : Nat → Option Nat) (n mo : Nat) (iv : Nat → Int32) (aa an : Nat → Nat) (kp : Int64) (py : Nat → Int64) (k : Nat) (v : Nat) (hv : jV an) (hm : mo ≤ 240) (hk : k < 20) (hao : ao k = some (aa 0)) (hb9 : v < 240) : Met l yX1_entitled wsX1_entitled ({ frames := 5, cells := 0, slots := 0, locals := 116 }) (va_Pc [.ref (ax 0), .int (nI k), .int (nI v)] (jR (dC, dI) (jTY cI cJ cZ cO) (jFW cI cJ cO ax ao n mo iv aa an kp py))) (vp_Sl (fun r => r = lN ((if v < an 0 then 0 else jS an iv v) + (if v = jP an then jQ an iv else 0)))) 0 0 (fun _ => False) := by
  refine j_of (cc := cX1_entitled) (maxL := 4) (ret := (some .long)) (by decide) rfl (Nat.le_of_ble_eq_true rfl) ?_
  intro p e s m below meth c ls hx hb hr hml hts hown hlocks hnm hl hpre
  have hown : s.vm.findClass RX1 = some m.cls := hown
  have hl : lv_has ls 4 [(0, .ref (ax 0)), (1, .int (nI k)), (2, .int (nI v))] := hl
  obtain ⟨v0, v1, v2, v3, v4, v5, v6, v7, v8, v9⟩ := id hv
  obtain ⟨hP, hK⟩ := hpre
  refine lv_aload_n hx hb dX1_entitled_0 rfl (lv_at hl 0 rfl) ?_
  refine lv_iload_n hx hb dX1_entitled_1 rfl (lv_at hl 1 rfl) ?_
  refine j_cR_ (As := [.int (nI k)]) (rest := []) ⟨hx, hb, hml, hown, hts⟩ (c_X1_find l dC dI cI cJ cZ cO ax ao n mo k (aa 0) hk hao) (cwV 1 hts gX1_entitled_X1_find rfl rfl rfl (by decide +kernel) ⟨Nat.le_of_ble_eq_true rfl, Nat.le_of_ble_eq_true rfl⟩) (jR_V hK hP [0, 1] rfl (ci := 1) (q0 := 0) rfl rfl rfl) rfl hl rfl (Nat.le_of_ble_eq_true rfl) dX1_entitled_2 ⟨Nat.le_of_ble_eq_true rfl, Nat.le_of_ble_eq_true rfl⟩ ?_
  refine lv_astore_n (lv' := [(3, .ref (aa 0)), (0, .ref (ax 0)), (1, .int (nI k)), (2, .int (nI v))]) hx hb dX1_entitled_5 rfl hl (by decide) rfl (fun ls hl => ?_)
  refine lv_iload_n hx hb dX1_entitled_6 rfl (lv_at hl 3 rfl) ?_
  refine j_sV (As := [.int (nI v)]) (rest := []) ⟨hx, hb, hml, hown, hts⟩ (c_X1_requireMonth l dC dI (nI v) (nI_nlt (by omega) (by omega)) (nI_nlt (by omega) (by omega))) (cwS 1 hts gX1_entitled_X1_requireMonth rfl rfl rfl (by decide +kernel) ⟨Nat.le_of_ble_eq_true rfl, Nat.le_of_ble_eq_true rfl⟩) rfl hl rfl (Nat.le_of_ble_eq_true rfl) dX1_entitled_7 ⟨Nat.le_of_ble_eq_true rfl, Nat.le_of_ble_eq_true rfl⟩ ?_
  refine lv_aload_n hx hb dX1_entitled_10 rfl (lv_at hl 0 rfl) ?_
  refine lv_iload_n hx hb dX1_entitled_11 rfl (lv_at hl 3 rfl) ?_
  refine j_cL_ (As := [.int (nI v)]) (rest := []) ⟨hx, hb, hml, hown, hts⟩ (c_X0_dueIn l dC dI cI cJ cZ cO aa an iv kp py v hv hb9) (cwV 1 hts gX1_entitled_X0_dueIn rfl rfl rfl (by decide +kernel) ⟨Nat.le_of_ble_eq_true rfl, Nat.le_of_ble_eq_true rfl⟩) (jR_V hK hP [3, 4, 5, 6, 7] rfl (ci := 0) (q0 := 3) rfl rfl rfl) rfl hl rfl (Nat.le_of_ble_eq_true rfl) dX1_entitled_12 ⟨Nat.le_of_ble_eq_true rfl, Nat.le_of_ble_eq_true rfl⟩ (fun r_12 hr_12 => ?_)
  subst hr_12
  exact W.lret (v := lN ((if v < an 0 then 0 else jS an iv v) + (if v = jP an then jQ an iv else 0))) hx hb hr (fun t ht hW => ⟨_, rfl, rfl, ht⟩) (fun _ h => by cases h) dX1_entitled_15
set_option maxHeartbeats 4000000 in
set_option maxRecDepth 100000 in
/-- what is due up to a month -/
theorem c_X1_entitledUpTo (l : Launch) (dC : Nat → ClassId) (dI : Nat → Nat → Nat) (cI cJ cZ cO : ClassId) (ax : Nat → Nat) (ao : Nat → Option Nat) (n mo : Nat) (iv : Nat → Int32) (aa an : Nat → Nat) (kp : Int64) (py : Nat → Int64) (k : Nat) (v : Nat) (hv : jV an) (hm : mo ≤ 240) (hk : k < 20) (hao : ao k = some (aa 0)) (hb9 : v < 240) : Met l yX1_entitledUpTo wsX1_entitledUpTo ({ frames := 5, cells := 0, slots := 0, locals := 116 }) (va_Pc [.ref (ax 0), .int (nI k), .int (nI v)] (jR (dC, dI) (jTY cI cJ cZ cO) (jFW cI cJ cO ax ao n mo iv aa an kp py))) (vp_Sl (fun r => r = lN (jU an iv (v + 1)))) 0 0 (fun _ => False) := by
  refine j_of (cc := cX1_entitledUpTo) (maxL := 4) (ret := (some .long)) (by decide) rfl (Nat.le_of_ble_eq_true rfl) ?_
  intro p e s m below meth c ls hx hb hr hml hts hown hlocks hnm hl hpre
  have hown : s.vm.findClass RX1 = some m.cls := hown
  have hl : lv_has ls 4 [(0, .ref (ax 0)), (1, .int (nI k)), (2, .int (nI v))] := hl
  obtain ⟨v0, v1, v2, v3, v4, v5, v6, v7, v8, v9⟩ := id hv
  obtain ⟨hP, hK⟩ := hpre
  refine lv_aload_n hx hb dX1_entitledUpTo_0 rfl (lv_at hl 0 rfl) ?_
  refine lv_iload_n hx hb dX1_entitledUpTo_1 rfl (lv_at hl 1 rfl) ?_
  refine j_cR_ (As := [.int (nI k)]) (rest := []) ⟨hx, hb, hml, hown, hts⟩ (c_X1_find l dC dI cI cJ cZ cO ax ao n mo k (aa 0) hk hao) (cwV 1 hts gX1_entitledUpTo_X1_find rfl rfl rfl (by decide +kernel) ⟨Nat.le_of_ble_eq_true rfl, Nat.le_of_ble_eq_true rfl⟩) (jR_V hK hP [0, 1] rfl (ci := 1) (q0 := 0) rfl rfl rfl) rfl hl rfl (Nat.le_of_ble_eq_true rfl) dX1_entitledUpTo_2 ⟨Nat.le_of_ble_eq_true rfl, Nat.le_of_ble_eq_true rfl⟩ ?_
  refine lv_astore_n (lv' := [(3, .ref (aa 0)), (0, .ref (ax 0)), (1, .int (nI k)), (2, .int (nI v))]) hx hb dX1_entitledUpTo_5 rfl hl (by decide) rfl (fun ls hl => ?_)
  refine lv_iload_n hx hb dX1_entitledUpTo_6 rfl (lv_at hl 3 rfl) ?_
  refine j_sV (As := [.int (nI v)]) (rest := []) ⟨hx, hb, hml, hown, hts⟩ (c_X1_requireMonth l dC dI (nI v) (nI_nlt (by omega) (by omega)) (nI_nlt (by omega) (by omega))) (cwS 1 hts gX1_entitledUpTo_X1_requireMonth rfl rfl rfl (by decide +kernel) ⟨Nat.le_of_ble_eq_true rfl, Nat.le_of_ble_eq_true rfl⟩) rfl hl rfl (Nat.le_of_ble_eq_true rfl) dX1_entitledUpTo_7 ⟨Nat.le_of_ble_eq_true rfl, Nat.le_of_ble_eq_true rfl⟩ ?_
  refine lv_aload_n hx hb dX1_entitledUpTo_10 rfl (lv_at hl 0 rfl) ?_
  refine lv_iload_n hx hb dX1_entitledUpTo_11 rfl (lv_at hl 3 rfl) ?_
  refine lv_iconst (v := nI 1) hx hb dX1_entitledUpTo_12 (by decide) ?_
  refine lv_iadd hx hb dX1_entitledUpTo_13 ?_
  refine j_i (y := nI (v + 1)) (nI_add _ _) ?_
  refine j_cL_ (As := [.int (nI (v + 1))]) (rest := []) ⟨hx, hb, hml, hown, hts⟩ (c_X0_dueAhead l dC dI cI cJ cZ cO aa an iv kp py (v + 1) hv (by omega)) (cwV 1 hts gX1_entitledUpTo_X0_dueAhead rfl rfl rfl (by decide +kernel) ⟨Nat.le_of_ble_eq_true rfl, Nat.le_of_ble_eq_true rfl⟩) (jR_V hK hP [3, 4, 5, 6, 7] rfl (ci := 0) (q0 := 3) rfl rfl rfl) rfl hl rfl (Nat.le_of_ble_eq_true rfl) dX1_entitledUpTo_14 ⟨Nat.le_of_ble_eq_true rfl, Nat.le_of_ble_eq_true rfl⟩ (fun r_14 hr_14 => ?_)
  subst hr_14
  exact W.lret (v := lN (jU an iv (v + 1))) hx hb hr (fun t ht hW => ⟨_, rfl, rfl, ht⟩) (fun _ h => by cases h) dX1_entitledUpTo_17
set_option maxHeartbeats 4000000 in
set_option maxRecDepth 100000 in
/-- the protection -/
theorem c_X1_protection (l : Launch) (dC : Nat → ClassId) (dI : Nat → Nat → Nat) (cI cJ cZ cO : ClassId) (ax : Nat → Nat) (ao : Nat → Option Nat) (n mo : Nat) (iv : Nat → Int32) (aa an : Nat → Nat) (kp : Int64) (py : Nat → Int64) (k : Nat) (hv : jV an) (hm : mo ≤ 240) (hk : k < 20) (hao : ao k = some (aa 0)) : Met l yX1_protection wsX1_protection ({ frames := 4, cells := 0, slots := 0, locals := 93 }) (va_Pc [.ref (ax 0), .int (nI k)] (jR (dC, dI) (jTY cI cJ cZ cO) (jFW cI cJ cO ax ao n mo iv aa an kp py))) (vp_Sl (fun r => r = lN (jQ an iv))) 0 0 (fun _ => False) := by
  refine j_of (cc := cX1_protection) (maxL := 2) (ret := (some .long)) (by decide) rfl (Nat.le_of_ble_eq_true rfl) ?_
  intro p e s m below meth c ls hx hb hr hml hts hown hlocks hnm hl hpre
  have hown : s.vm.findClass RX1 = some m.cls := hown
  have hl : lv_has ls 2 [(0, .ref (ax 0)), (1, .int (nI k))] := hl
  obtain ⟨v0, v1, v2, v3, v4, v5, v6, v7, v8, v9⟩ := id hv
  obtain ⟨hP, hK⟩ := hpre
  refine lv_aload_n hx hb dX1_protection_0 rfl (lv_at hl 0 rfl) ?_
  refine lv_iload_n hx hb dX1_protection_1 rfl (lv_at hl 1 rfl) ?_
  refine j_cR_ (As := [.int (nI k)]) (rest := []) ⟨hx, hb, hml, hown, hts⟩ (c_X1_find l dC dI cI cJ cZ cO ax ao n mo k (aa 0) hk hao) (cwV 1 hts gX1_protection_X1_find rfl rfl rfl (by decide +kernel) ⟨Nat.le_of_ble_eq_true rfl, Nat.le_of_ble_eq_true rfl⟩) (jR_V hK hP [0, 1] rfl (ci := 1) (q0 := 0) rfl rfl rfl) rfl hl rfl (Nat.le_of_ble_eq_true rfl) dX1_protection_2 ⟨Nat.le_of_ble_eq_true rfl, Nat.le_of_ble_eq_true rfl⟩ ?_
  refine j_cL_ (As := []) (rest := []) ⟨hx, hb, hml, hown, hts⟩ (c_X0_protectionSum l dC dI cI cJ cZ cO aa an iv kp py hv) (cwV 0 hts gX1_protection_X0_protectionSum rfl rfl rfl (by decide +kernel) ⟨Nat.le_of_ble_eq_true rfl, Nat.le_of_ble_eq_true rfl⟩) (jR_V hK hP [3, 4, 5, 6, 7] rfl (ci := 0) (q0 := 3) rfl rfl rfl) rfl hl rfl (Nat.le_of_ble_eq_true rfl) dX1_protection_5 ⟨Nat.le_of_ble_eq_true rfl, Nat.le_of_ble_eq_true rfl⟩ (fun r_5 hr_5 => ?_)
  subst hr_5
  exact W.lret (v := lN (jQ an iv)) hx hb hr (fun t ht hW => ⟨_, rfl, rfl, ht⟩) (fun _ h => by cases h) dX1_protection_8
set_option maxHeartbeats 4000000 in
set_option maxRecDepth 100000 in
/-- the month that goes on -/
theorem c_X1_month (l : Launch) (dC : Nat → ClassId) (dI : Nat → Nat → Nat) (cI cJ cZ cO : ClassId) (ax : Nat → Nat) (n mo : Nat)  : Met l yX1_month wsX1_month ({ frames := 0, cells := 0, slots := 0, locals := 0 }) (va_Pc [.ref (ax 0)] (jR (dC, dI) (jTY cI cJ cZ cO) [jXo ax n mo])) (vp_Si (fun r => r = nI mo)) 0 0 (fun _ => False) := by
  refine j_of (cc := cX1_month) (maxL := 1) (ret := (some .int)) (by decide) rfl (Nat.le_of_ble_eq_true rfl) ?_
  intro p e s m below meth c ls hx hb hr hml hts hown hlocks hnm hl hpre
  have hown : s.vm.findClass RX1 = some m.cls := hown
  have hl : lv_has ls 1 [(0, .ref (ax 0))] := hl
  obtain ⟨hP, hK⟩ := hpre
  refine lv_aload_n hx hb dX1_month_0 rfl (lv_at hl 0 rfl) ?_
  refine va_get (D := (dC, dI)) (ci := 1) (v := .int (nI mo)) (C := RX1) (T := TX1) (N := 4) hx hb hts (fun _ h => List.mem_cons_of_mem _ (List.mem_append_right _ h)) hown hK hP 0 rfl rfl 3 (by decide) (hts (.fieldLink RX1 23 "JointAnnuity" "monthThatGoesOn" "I") (List.mem_of_getElem? (i := 1) rfl)) (fun _ h9 => h9) rfl dX1_month_1 ?_
  exact W.iret (v := nI mo) hx hb hr (fun t ht hW => ⟨_, rfl, rfl, ht⟩) (fun _ h => by cases h) dX1_month_4
set_option maxHeartbeats 4000000 in
set_option maxRecDepth 100000 in
/-- the survivor is set -/
theorem c_X1_setSurvivor (l : Launch) (dC : Nat → ClassId) (dI : Nat → Nat → Nat) (cI cJ cZ cO : ClassId) (ax : Nat → Nat) (ao : Nat → Option Nat) (n mo : Nat) (iv : Nat → Int32) (aa an : Nat → Nat) (kp : Int64) (py : Nat → Int64) (k : Nat) (v w : Nat) (hv : jV an) (hm : mo ≤ 240) (hk : k < 20) (hao : ao k = some (aa 0)) (h1 : v ≤ 100) (h2 : w ≤ 1) (hs : ¬ an 0 < mo) : Met l yX1_setSurvivor wsX1_setSurvivor ({ frames := 1, cells := 0, slots := 0, locals := 22 }) (va_Pc [.ref (ax 0), .int (nI k), .int (nI v), .int (nI w)] (jW (dC, dI) (jTY cI cJ cZ cO) (jFW cI cJ cO ax ao n mo iv aa an kp py))) (va_Qv (fun _ : Unit => True) (fun _ t => va_P (dC, dI) vwCl (jFW cI cJ cO ax ao n mo iv aa (upN (upN an 3 v) 4 w) kp py) t.heap) (jA (jFW cI cJ cO ax ao n mo iv aa an kp py))) 0 0 (jA (jFW cI cJ cO ax ao n mo iv aa an kp py)) := by
  refine j_of (cc := cX1_setSurvivor) (maxL := 5) (ret := none) (by decide) rfl (Nat.le_of_ble_eq_true rfl) ?_
  intro p e s m below meth c ls hx hb hr hml hts hown hlocks hnm hl hpre
  have hown : s.vm.findClass RX1 = some m.cls := hown
  have hl : lv_has ls 5 [(0, .ref (ax 0)), (1, .int (nI k)), (2, .int (nI v)), (3, .int (nI w))] := hl
  obtain ⟨v0, v1, v2, v3, v4, v5, v6, v7, v8, v9⟩ := id hv
  obtain ⟨hP, hK, hD0⟩ := hpre
  have hD := hD0.jA
  generalize hAe : jA (jFW cI cJ cO ax ao n mo iv aa an kp py) = A at hD ⊢
  have hS : va_S A s.heap s.heap [] := va_S.rf
  refine lv_aload_n hx hb dX1_setSurvivor_0 rfl (lv_at hl 0 rfl) ?_
  refine lv_iload_n hx hb dX1_setSurvivor_1 rfl (lv_at hl 1 rfl) ?_
  refine j_cR_ (As := [.int (nI k)]) (rest := []) ⟨hx, hb, hml, hown, hts⟩ (c_X1_find l dC dI cI cJ cZ cO ax ao n mo k (aa 0) hk hao) (cwV 1 hts gX1_setSurvivor_X1_find rfl rfl rfl (by decide +kernel) ⟨Nat.le_of_ble_eq_true rfl, Nat.le_of_ble_eq_true rfl⟩) (jR_V hK hP [0, 1] rfl (ci := 1) (q0 := 0) rfl rfl rfl) rfl hl rfl (Nat.le_of_ble_eq_true rfl) dX1_setSurvivor_2 ⟨Nat.le_of_ble_eq_true rfl, Nat.le_of_ble_eq_true rfl⟩ ?_
  refine lv_astore (lv' := [(4, .ref (aa 0)), (0, .ref (ax 0)), (1, .int (nI k)), (2, .int (nI v)), (3, .int (nI w))]) hx hb dX1_setSurvivor_5 hl (by decide) rfl (fun ls hl => ?_)
  refine lv_iload_n hx hb dX1_setSurvivor_7 rfl (lv_at hl 3 rfl) ?_
  refine lv_iconst (v := nI 0) hx hb dX1_setSurvivor_8 (by decide) ?_
  refine lv_bipush (v := nI 100) hx hb dX1_setSurvivor_9 (by decide) ?_
  refine j_sV (As := [.int (nI v), .int (nI 0), .int (nI 100)]) (rest := []) ⟨hx, hb, hml, hown, hts⟩ (c_X1_requireRange l dC dI (nI v) (nI 0) (nI 100) (nI_nlt (by omega) (by omega)) (nI_nlt (by omega) (by omega))) (cwS 3 hts gX1_setSurvivor_X1_requireRange rfl rfl rfl (by decide +kernel) ⟨Nat.le_of_ble_eq_true rfl, Nat.le_of_ble_eq_true rfl⟩) rfl hl rfl (Nat.le_of_ble_eq_true rfl) dX1_setSurvivor_11 ⟨Nat.le_of_ble_eq_true rfl, Nat.le_of_ble_eq_true rfl⟩ ?_
  refine lv_aload_n hx hb dX1_setSurvivor_14 rfl (lv_at hl 1 rfl) ?_
  refine lv_aload hx hb dX1_setSurvivor_15 (lv_at hl 0 rfl) ?_
  refine j_cV_ (As := [.ref (aa 0)]) (rest := []) ⟨hx, hb, hml, hown, hts⟩ (c_X1_requireStartNotRun l dC dI cI cJ cZ cO ax n mo aa an kp v0 hm hs) (cwV 1 hts gX1_setSurvivor_X1_requireStartNotRun rfl rfl rfl (by decide +kernel) ⟨Nat.le_of_ble_eq_true rfl, Nat.le_of_ble_eq_true rfl⟩) (jR_V hK hP [0, 3] rfl (ci := 1) (q0 := 0) rfl rfl rfl) rfl hl rfl (Nat.le_of_ble_eq_true rfl) dX1_setSurvivor_17 ⟨Nat.le_of_ble_eq_true rfl, Nat.le_of_ble_eq_true rfl⟩ ?_
  refine lv_aload hx hb dX1_setSurvivor_20 (lv_at hl 0 rfl) ?_
  refine lv_iload_n hx hb dX1_setSurvivor_22 rfl (lv_at hl 3 rfl) ?_
  refine va_put (D := (dC, dI)) (ci := 0) (v := .int (nI v)) (ty := .int) (C := RX0) (T := TX0) (N := 13) hx hb hts (fun _ h => List.mem_cons_of_mem _ (List.mem_append_left _ (List.mem_append_left _ (List.mem_append_left _ (List.mem_append_left _ (List.mem_append_right _ h)))))) tyX0 tyX0_ok nmX0 hown hK hP hD hS 3 rfl rfl 3 (by decide) (hts (.fieldLink RX1 52 "JointAnnuity$Annuity" "survivorPercent" "I") (List.mem_of_getElem? (i := 1) rfl)) (fun _ h9 => h9) rfl (by decide +kernel) rfl rfl (Nat.le_of_ble_eq_true rfl) dX1_setSurvivor_23 (fun H locs hP hD hS => ?_)
  have hP : va_P (dC, dI) vwCl [((ax 0), .inr (1, [.ref (ax 1), .ref (ax 2), .int (nI n), .int (nI mo)])), ((ax 1), .inl (cO, 20, .inr (.inr (.inr (.inr (ao)))))), ((ax 2), .inl (cI, 20, .inl (iv))), ((aa 0), .inr (0, [.int (nI (an 0)), .int (nI (an 1)), .int (nI (an 0 + an 2)), .int (nI v), .int (nI (an 4)), .int (nI (an 5)), .int (nI (an 6)), .int (nI (an 7)), .ref (aa 1), .ref (aa 2), .ref (aa 3), .ref (aa 4), .long (kp)])), ((aa 1), .inl (cI, 2, .inl (fun j => nI (if j = 0 then an 8 else an 9)))), ((aa 2), .inl (cI, 20, .inl (fun j => nI (jF an iv j)))), ((aa 3), .inl (cI, 20, .inl (fun j => jC an iv j))), ((aa 4), .inl (cJ, 240, .inr (.inl (py))))] H := hP
  have hD : va_D A [((ax 0), .inr (1, [.ref (ax 1), .ref (ax 2), .int (nI n), .int (nI mo)])), ((ax 1), .inl (cO, 20, .inr (.inr (.inr (.inr (ao)))))), ((ax 2), .inl (cI, 20, .inl (iv))), ((aa 0), .inr (0, [.int (nI (an 0)), .int (nI (an 1)), .int (nI (an 0 + an 2)), .int (nI v), .int (nI (an 4)), .int (nI (an 5)), .int (nI (an 6)), .int (nI (an 7)), .ref (aa 1), .ref (aa 2), .ref (aa 3), .ref (aa 4), .long (kp)])), ((aa 1), .inl (cI, 2, .inl (fun j => nI (if j = 0 then an 8 else an 9)))), ((aa 2), .inl (cI, 20, .inl (fun j => nI (jF an iv j)))), ((aa 3), .inl (cI, 20, .inl (fun j => jC an iv j))), ((aa 4), .inl (cJ, 240, .inr (.inl (py))))] := hD
  refine lv_aload hx hb dX1_setSurvivor_26 (lv_at hl 0 rfl) ?_
  refine lv_iload_n hx hb dX1_setSurvivor_28 rfl (lv_at hl 4 rfl) ?_
  refine va_put (D := (dC, dI)) (ci := 0) (v := .int (nI w)) (ty := .boolean) (C := RX0) (T := TX0) (N := 13) hx hb hts (fun _ h => List.mem_cons_of_mem _ (List.mem_append_left _ (List.mem_append_left _ (List.mem_append_left _ (List.mem_append_left _ (List.mem_append_right _ h)))))) tyX0 tyX0_ok nmX0 hown hK hP hD hS 3 rfl rfl 4 (by decide) (hts (.fieldLink RX1 55 "JointAnnuity$Annuity" "stepsOnFirst" "Z") (List.mem_of_getElem? (i := 2) rfl)) (fun _ h9 => h9) rfl (by decide +kernel) (jzn h2).1 (jzn h2).2 (Nat.le_of_ble_eq_true rfl) dX1_setSurvivor_29 (fun H locs hP hD hS => ?_)
  have hP : va_P (dC, dI) vwCl [((ax 0), .inr (1, [.ref (ax 1), .ref (ax 2), .int (nI n), .int (nI mo)])), ((ax 1), .inl (cO, 20, .inr (.inr (.inr (.inr (ao)))))), ((ax 2), .inl (cI, 20, .inl (iv))), ((aa 0), .inr (0, [.int (nI (an 0)), .int (nI (an 1)), .int (nI (an 0 + an 2)), .int (nI v), .int (nI w), .int (nI (an 5)), .int (nI (an 6)), .int (nI (an 7)), .ref (aa 1), .ref (aa 2), .ref (aa 3), .ref (aa 4), .long (kp)])), ((aa 1), .inl (cI, 2, .inl (fun j => nI (if j = 0 then an 8 else an 9)))), ((aa 2), .inl (cI, 20, .inl (fun j => nI (jF an iv j)))), ((aa 3), .inl (cI, 20, .inl (fun j => jC an iv j))), ((aa 4), .inl (cJ, 240, .inr (.inl (py))))] H := hP
  have hD : va_D A [((ax 0), .inr (1, [.ref (ax 1), .ref (ax 2), .int (nI n), .int (nI mo)])), ((ax 1), .inl (cO, 20, .inr (.inr (.inr (.inr (ao)))))), ((ax 2), .inl (cI, 20, .inl (iv))), ((aa 0), .inr (0, [.int (nI (an 0)), .int (nI (an 1)), .int (nI (an 0 + an 2)), .int (nI v), .int (nI w), .int (nI (an 5)), .int (nI (an 6)), .int (nI (an 7)), .ref (aa 1), .ref (aa 2), .ref (aa 3), .ref (aa 4), .long (kp)])), ((aa 1), .inl (cI, 2, .inl (fun j => nI (if j = 0 then an 8 else an 9)))), ((aa 2), .inl (cI, 20, .inl (fun j => nI (jF an iv j)))), ((aa 3), .inl (cI, 20, .inl (fun j => jC an iv j))), ((aa 4), .inl (cJ, 240, .inr (.inl (py))))] := hD
  have hP : va_P (dC, dI) vwCl (jFW cI cJ cO ax ao n mo iv aa (upN (upN an 3 v) 4 w) kp py) H := hP
  exact W.vret hx hb hr (fun t ht hW => ⟨⟨(), rfl, trivial, j_h ht hP⟩, hS.F ht⟩) hS.2.2 dX1_setSurvivor_32
set_option maxHeartbeats 4000000 in
set_option maxRecDepth 100000 in
/-- the cap is set -/
theorem c_X1_setCap (l : Launch) (dC : Nat → ClassId) (dI : Nat → Nat → Nat) (cI cJ cZ cO : ClassId) (ax : Nat → Nat) (ao : Nat → Option Nat) (n mo : Nat) (iv : Nat → Int32) (aa an : Nat → Nat) (kp : Int64) (py : Nat → Int64) (k : Nat) (v : Nat) (hv : jV an) (hm : mo ≤ 240) (hk : k < 20) (hao : ao k = some (aa 0)) (h1 : v ≤ 200) (hs : ¬ an 0 < mo) : Met l yX1_setCap wsX1_setCap ({ frames := 2, cells := 0, slots := 0, locals := 41 }) (va_Pc [.ref (ax 0), .int (nI k), .int (nI v)] (jW (dC, dI) (jTY cI cJ cZ cO) (jFW cI cJ cO ax ao n mo iv aa an kp py))) (va_Qv (fun _ : Unit => True) (fun _ t => va_P (dC, dI) vwCl (jFW cI cJ cO ax ao n mo iv aa (upN an 5 v) kp py) t.heap) (jA (jFW cI cJ cO ax ao n mo iv aa an kp py))) 0 0 (jA (jFW cI cJ cO ax ao n mo iv aa an kp py)) := by
  refine j_of (cc := cX1_setCap) (maxL := 4) (ret := none) (by decide) rfl (Nat.le_of_ble_eq_true rfl) ?_
  intro p e s m below meth c ls hx hb hr hml hts hown hlocks hnm hl hpre
  have hown : s.vm.findClass RX1 = some m.cls := hown
  have hl : lv_has ls 4 [(0, .ref (ax 0)), (1, .int (nI k)), (2, .int (nI v))] := hl
  obtain ⟨v0, v1, v2, v3, v4, v5, v6, v7, v8, v9⟩ := id hv
  obtain ⟨hP, hK, hD0⟩ := hpre
  have hD := hD0.jA
  generalize hAe : jA (jFW cI cJ cO ax ao n mo iv aa an kp py) = A at hD ⊢
  have hS : va_S A s.heap s.heap [] := va_S.rf
  refine lv_aload_n hx hb dX1_setCap_0 rfl (lv_at hl 0 rfl) ?_
  refine lv_iload_n hx hb dX1_setCap_1 rfl (lv_at hl 1 rfl) ?_
  refine j_cR_ (As := [.int (nI k)]) (rest := []) ⟨hx, hb, hml, hown, hts⟩ (c_X1_find l dC dI cI cJ cZ cO ax ao n mo k (aa 0) hk hao) (cwV 1 hts gX1_setCap_X1_find rfl rfl rfl (by decide +kernel) ⟨Nat.le_of_ble_eq_true rfl, Nat.le_of_ble_eq_true rfl⟩) (jR_V hK hP [0, 1] rfl (ci := 1) (q0 := 0) rfl rfl rfl) rfl hl rfl (Nat.le_of_ble_eq_true rfl) dX1_setCap_2 ⟨Nat.le_of_ble_eq_true rfl, Nat.le_of_ble_eq_true rfl⟩ ?_
  refine lv_astore_n (lv' := [(3, .ref (aa 0)), (0, .ref (ax 0)), (1, .int (nI k)), (2, .int (nI v))]) hx hb dX1_setCap_5 rfl hl (by decide) rfl (fun ls hl => ?_)
  refine lv_iload_n hx hb dX1_setCap_6 rfl (lv_at hl 3 rfl) ?_
  refine lv_iconst (v := nI 0) hx hb dX1_setCap_7 (by decide) ?_
  refine lv_sipush (v := nI 200) hx hb dX1_setCap_8 (by decide) ?_
  refine j_sV (As := [.int (nI v), .int (nI 0), .int (nI 200)]) (rest := []) ⟨hx, hb, hml, hown, hts⟩ (c_X1_requireRange l dC dI (nI v) (nI 0) (nI 200) (nI_nlt (by omega) (by omega)) (nI_nlt (by omega) (by omega))) (cwS 3 hts gX1_setCap_X1_requireRange rfl rfl rfl (by decide +kernel) ⟨Nat.le_of_ble_eq_true rfl, Nat.le_of_ble_eq_true rfl⟩) rfl hl rfl (Nat.le_of_ble_eq_true rfl) dX1_setCap_11 ⟨Nat.le_of_ble_eq_true rfl, Nat.le_of_ble_eq_true rfl⟩ ?_
  refine lv_aload_n hx hb dX1_setCap_14 rfl (lv_at hl 1 rfl) ?_
  refine lv_aload_n hx hb dX1_setCap_15 rfl (lv_at hl 0 rfl) ?_
  refine j_cV_ (As := [.ref (aa 0)]) (rest := []) ⟨hx, hb, hml, hown, hts⟩ (c_X1_requireStartNotRun l dC dI cI cJ cZ cO ax n mo aa an kp v0 hm hs) (cwV 1 hts gX1_setCap_X1_requireStartNotRun rfl rfl rfl (by decide +kernel) ⟨Nat.le_of_ble_eq_true rfl, Nat.le_of_ble_eq_true rfl⟩) (jR_V hK hP [0, 3] rfl (ci := 1) (q0 := 0) rfl rfl rfl) rfl hl rfl (Nat.le_of_ble_eq_true rfl) dX1_setCap_16 ⟨Nat.le_of_ble_eq_true rfl, Nat.le_of_ble_eq_true rfl⟩ ?_
  refine lv_aload_n hx hb dX1_setCap_19 rfl (lv_at hl 0 rfl) ?_
  refine lv_iload_n hx hb dX1_setCap_20 rfl (lv_at hl 3 rfl) ?_
  refine va_put (D := (dC, dI)) (ci := 0) (v := .int (nI v)) (ty := .int) (C := RX0) (T := TX0) (N := 13) hx hb hts (fun _ h => List.mem_cons_of_mem _ (List.mem_append_left _ (List.mem_append_left _ (List.mem_append_left _ (List.mem_append_left _ (List.mem_append_right _ h)))))) tyX0 tyX0_ok nmX0 hown hK hP hD hS 3 rfl rfl 5 (by decide) (hts (.fieldLink RX1 59 "JointAnnuity$Annuity" "cap" "I") (List.mem_of_getElem? (i := 1) rfl)) (fun _ h9 => h9) rfl (by decide +kernel) rfl rfl (Nat.le_of_ble_eq_true rfl) dX1_setCap_21 (fun H locs hP hD hS => ?_)
  have hP : va_P (dC, dI) vwCl [((ax 0), .inr (1, [.ref (ax 1), .ref (ax 2), .int (nI n), .int (nI mo)])), ((ax 1), .inl (cO, 20, .inr (.inr (.inr (.inr (ao)))))), ((ax 2), .inl (cI, 20, .inl (iv))), ((aa 0), .inr (0, [.int (nI (an 0)), .int (nI (an 1)), .int (nI (an 0 + an 2)), .int (nI (an 3)), .int (nI (an 4)), .int (nI v), .int (nI (an 6)), .int (nI (an 7)), .ref (aa 1), .ref (aa 2), .ref (aa 3), .ref (aa 4), .long (kp)])), ((aa 1), .inl (cI, 2, .inl (fun j => nI (if j = 0 then an 8 else an 9)))), ((aa 2), .inl (cI, 20, .inl (fun j => nI (jF an iv j)))), ((aa 3), .inl (cI, 20, .inl (fun j => jC an iv j))), ((aa 4), .inl (cJ, 240, .inr (.inl (py))))] H := hP
  have hD : va_D A [((ax 0), .inr (1, [.ref (ax 1), .ref (ax 2), .int (nI n), .int (nI mo)])), ((ax 1), .inl (cO, 20, .inr (.inr (.inr (.inr (ao)))))), ((ax 2), .inl (cI, 20, .inl (iv))), ((aa 0), .inr (0, [.int (nI (an 0)), .int (nI (an 1)), .int (nI (an 0 + an 2)), .int (nI (an 3)), .int (nI (an 4)), .int (nI v), .int (nI (an 6)), .int (nI (an 7)), .ref (aa 1), .ref (aa 2), .ref (aa 3), .ref (aa 4), .long (kp)])), ((aa 1), .inl (cI, 2, .inl (fun j => nI (if j = 0 then an 8 else an 9)))), ((aa 2), .inl (cI, 20, .inl (fun j => nI (jF an iv j)))), ((aa 3), .inl (cI, 20, .inl (fun j => jC an iv j))), ((aa 4), .inl (cJ, 240, .inr (.inl (py))))] := hD
  refine lv_aload_n hx hb dX1_setCap_24 rfl (lv_at hl 0 rfl) ?_
  refine lv_aload_n hx hb dX1_setCap_25 rfl (lv_at hl 1 rfl) ?_
  refine va_get (D := (dC, dI)) (ci := 1) (v := .ref (ax 2)) (C := RX1) (T := TX1) (N := 4) hx hb hts (fun _ h => List.mem_cons_of_mem _ (List.mem_append_left _ (List.mem_append_left _ (List.mem_append_left _ (List.mem_append_right _ h))))) hown hK hP 0 rfl rfl 1 (by decide) (hts (.fieldLink RX1 15 "JointAnnuity" "inflation" "[I") (List.mem_of_getElem? (i := 2) rfl)) (fun _ h9 => h9) rfl dX1_setCap_26 ?_
  have hP : va_P (dC, dI) vwCl [((ax 0), .inr (1, [.ref (ax 1), .ref (ax 2), .int (nI n), .int (nI mo)])), ((ax 1), .inl (cO, 20, .inr (.inr (.inr (.inr (ao)))))), ((ax 2), .inl (cI, 20, .inl (iv))), ((aa 0), .inr (0, [.int (nI ((upN an 5 v) 0)), .int (nI ((upN an 5 v) 1)), .int (nI ((upN an 5 v) 0 + (upN an 5 v) 2)), .int (nI ((upN an 5 v) 3)), .int (nI ((upN an 5 v) 4)), .int (nI ((upN an 5 v) 5)), .int (nI ((upN an 5 v) 6)), .int (nI ((upN an 5 v) 7)), .ref (aa 1), .ref (aa 2), .ref (aa 3), .ref (aa 4), .long (kp)])), ((aa 1), .inl (cI, 2, .inl (fun j => nI (if j = 0 then (upN an 5 v) 8 else (upN an 5 v) 9)))), ((aa 2), .inl (cI, 20, .inl (fun j => nI (jF an iv j)))), ((aa 3), .inl (cI, 20, .inl (fun j => jC an iv j))), ((aa 4), .inl (cJ, 240, .inr (.inl (py))))] H := hP
  have hD : va_D A [((ax 0), .inr (1, [.ref (ax 1), .ref (ax 2), .int (nI n), .int (nI mo)])), ((ax 1), .inl (cO, 20, .inr (.inr (.inr (.inr (ao)))))), ((ax 2), .inl (cI, 20, .inl (iv))), ((aa 0), .inr (0, [.int (nI ((upN an 5 v) 0)), .int (nI ((upN an 5 v) 1)), .int (nI ((upN an 5 v) 0 + (upN an 5 v) 2)), .int (nI ((upN an 5 v) 3)), .int (nI ((upN an 5 v) 4)), .int (nI ((upN an 5 v) 5)), .int (nI ((upN an 5 v) 6)), .int (nI ((upN an 5 v) 7)), .ref (aa 1), .ref (aa 2), .ref (aa 3), .ref (aa 4), .long (kp)])), ((aa 1), .inl (cI, 2, .inl (fun j => nI (if j = 0 then (upN an 5 v) 8 else (upN an 5 v) 9)))), ((aa 2), .inl (cI, 20, .inl (fun j => nI (jF an iv j)))), ((aa 3), .inl (cI, 20, .inl (fun j => jC an iv j))), ((aa 4), .inl (cJ, 240, .inr (.inl (py))))] := hD
  refine j_wV (As := [.ref (ax 2)]) (rest := []) ⟨hx, hb, hml, hown, hts⟩ (c_X0_growBy l dC dI cI cJ cZ cO aa (upN an 5 v) iv kp (ax 2) (fun j => nI (jF an iv j)) (fun j => jC an iv j) (jV5 hv h1)) (cwV 1 hts gX1_setCap_X0_growBy rfl rfl rfl (by decide +kernel) ⟨Nat.le_of_ble_eq_true rfl, Nat.le_of_ble_eq_true rfl⟩) (jW_V hK hP hD [3, 5, 6, 2] (by decide) rfl (ci := 0) (q0 := 3) rfl rfl rfl) rfl hl rfl (Nat.le_of_ble_eq_true rfl) dX1_setCap_29 ⟨Nat.le_of_ble_eq_true rfl, Nat.le_of_ble_eq_true rfl⟩ hP hD hS [3, 5, 6, 2] [0, 1, 4, 7] rfl (fun _ : Unit => [((ax 0), .inr (1, [.ref (ax 1), .ref (ax 2), .int (nI n), .int (nI mo)])), ((ax 1), .inl (cO, 20, .inr (.inr (.inr (.inr (ao)))))), ((ax 2), .inl (cI, 20, .inl (iv))), ((aa 0), .inr (0, [.int (nI ((upN an 5 v) 0)), .int (nI ((upN an 5 v) 1)), .int (nI ((upN an 5 v) 0 + (upN an 5 v) 2)), .int (nI ((upN an 5 v) 3)), .int (nI ((upN an 5 v) 4)), .int (nI ((upN an 5 v) 5)), .int (nI ((upN an 5 v) 6)), .int (nI ((upN an 5 v) 7)), .ref (aa 1), .ref (aa 2), .ref (aa 3), .ref (aa 4), .long (kp)])), ((aa 1), .inl (cI, 2, .inl (fun j => nI (if j = 0 then (upN an 5 v) 8 else (upN an 5 v) 9)))), ((aa 2), .inl (cI, 20, .inl (fun j => nI (jF (upN an 5 v) iv j)))), ((aa 3), .inl (cI, 20, .inl (fun j => jC (upN an 5 v) iv j))), ((aa 4), .inl (cJ, 240, .inr (.inl (py))))]) (fun _ => rfl) [(ax 0), (ax 1), (ax 2), (aa 0), (aa 1), (aa 2), (aa 3), (aa 4)] rfl (fun _ => rfl) [((ax 0), .inr (1, [.ref (ax 1), .ref (ax 2), .int (nI n), .int (nI mo)])), ((ax 1), .inl (cO, 20, .inr (.inr (.inr (.inr (ao)))))), ((aa 1), .inl (cI, 2, .inl (fun j => nI (if j = 0 then (upN an 5 v) 8 else (upN an 5 v) 9)))), ((aa 4), .inl (cJ, 240, .inr (.inl (py))))] rfl (fun _ => rfl) (fun _ i hi => j_cov _ _ 8 (by decide) i hi) (fun _ H locs hr_29 hP hD hS => ?_)
  have hP : va_P (dC, dI) vwCl [((ax 0), .inr (1, [.ref (ax 1), .ref (ax 2), .int (nI n), .int (nI mo)])), ((ax 1), .inl (cO, 20, .inr (.inr (.inr (.inr (ao)))))), ((ax 2), .inl (cI, 20, .inl (iv))), ((aa 0), .inr (0, [.int (nI ((upN an 5 v) 0)), .int (nI ((upN an 5 v) 1)), .int (nI ((upN an 5 v) 0 + (upN an 5 v) 2)), .int (nI ((upN an 5 v) 3)), .int (nI ((upN an 5 v) 4)), .int (nI ((upN an 5 v) 5)), .int (nI ((upN an 5 v) 6)), .int (nI ((upN an 5 v) 7)), .ref (aa 1), .ref (aa 2), .ref (aa 3), .ref (aa 4), .long (kp)])), ((aa 1), .inl (cI, 2, .inl (fun j => nI (if j = 0 then (upN an 5 v) 8 else (upN an 5 v) 9)))), ((aa 2), .inl (cI, 20, .inl (fun j => nI (jF (upN an 5 v) iv j)))), ((aa 3), .inl (cI, 20, .inl (fun j => jC (upN an 5 v) iv j))), ((aa 4), .inl (cJ, 240, .inr (.inl (py))))] H := hP
  have hD : va_D A [((ax 0), .inr (1, [.ref (ax 1), .ref (ax 2), .int (nI n), .int (nI mo)])), ((ax 1), .inl (cO, 20, .inr (.inr (.inr (.inr (ao)))))), ((ax 2), .inl (cI, 20, .inl (iv))), ((aa 0), .inr (0, [.int (nI ((upN an 5 v) 0)), .int (nI ((upN an 5 v) 1)), .int (nI ((upN an 5 v) 0 + (upN an 5 v) 2)), .int (nI ((upN an 5 v) 3)), .int (nI ((upN an 5 v) 4)), .int (nI ((upN an 5 v) 5)), .int (nI ((upN an 5 v) 6)), .int (nI ((upN an 5 v) 7)), .ref (aa 1), .ref (aa 2), .ref (aa 3), .ref (aa 4), .long (kp)])), ((aa 1), .inl (cI, 2, .inl (fun j => nI (if j = 0 then (upN an 5 v) 8 else (upN an 5 v) 9)))), ((aa 2), .inl (cI, 20, .inl (fun j => nI (jF (upN an 5 v) iv j)))), ((aa 3), .inl (cI, 20, .inl (fun j => jC (upN an 5 v) iv j))), ((aa 4), .inl (cJ, 240, .inr (.inl (py))))] := hD
  have hP : va_P (dC, dI) vwCl (jFW cI cJ cO ax ao n mo iv aa (upN an 5 v) kp py) H := hP
  exact W.vret hx hb hr (fun t ht hW => ⟨⟨(), rfl, trivial, j_h ht hP⟩, hS.F ht⟩) hS.2.2 dX1_setCap_32
set_option maxHeartbeats 4000000 in
set_option maxRecDepth 100000 in
/-- price and percent are set -/
theorem c_X1_protect (l : Launch) (dC : Nat → ClassId) (dI : Nat → Nat → Nat) (cI cJ cZ cO : ClassId) (ax : Nat → Nat) (ao : Nat → Option Nat) (n mo : Nat) (iv : Nat → Int32) (aa an : Nat → Nat) (kp : Int64) (py : Nat → Int64) (k : Nat) (v w : Nat) (hv : jV an) (hm : mo ≤ 240) (hk : k < 20) (hao : ao k = some (aa 0)) (h1 : v ≤ 10000000) (h2 : w ≤ 100) (hs : ¬ an 0 < mo) : Met l yX1_protect wsX1_protect ({ frames := 1, cells := 0, slots := 0, locals := 22 }) (va_Pc [.ref (ax 0), .int (nI k), .int (nI v), .int (nI w)] (jW (dC, dI) (jTY cI cJ cZ cO) (jFW cI cJ cO ax ao n mo iv aa an kp py))) (va_Qv (fun _ : Unit => True) (fun _ t => va_P (dC, dI) vwCl (jFW cI cJ cO ax ao n mo iv aa (upN (upN an 6 v) 7 w) kp py) t.heap) (jA (jFW cI cJ cO ax ao n mo iv aa an kp py))) 0 0 (jA (jFW cI cJ cO ax ao n mo iv aa an kp py)) := by
  refine j_of (cc := cX1_protect) (maxL := 5) (ret := none) (by decide) rfl (Nat.le_of_ble_eq_true rfl) ?_
  intro p e s m below meth c ls hx hb hr hml hts hown hlocks hnm hl hpre
  have hown : s.vm.findClass RX1 = some m.cls := hown
  have hl : lv_has ls 5 [(0, .ref (ax 0)), (1, .int (nI k)), (2, .int (nI v)), (3, .int (nI w))] := hl
  obtain ⟨v0, v1, v2, v3, v4, v5, v6, v7, v8, v9⟩ := id hv
  obtain ⟨hP, hK, hD0⟩ := hpre
  have hD := hD0.jA
  generalize hAe : jA (jFW cI cJ cO ax ao n mo iv aa an kp py) = A at hD ⊢
  have hS : va_S A s.heap s.heap [] := va_S.rf
  refine lv_aload_n hx hb dX1_protect_0 rfl (lv_at hl 0 rfl) ?_
  refine lv_iload_n hx hb dX1_protect_1 rfl (lv_at hl 1 rfl) ?_
  refine j_cR_ (As := [.int (nI k)]) (rest := []) ⟨hx, hb, hml, hown, hts⟩ (c_X1_find l dC dI cI cJ cZ cO ax ao n mo k (aa 0) hk hao) (cwV 1 hts gX1_protect_X1_find rfl rfl rfl (by decide +kernel) ⟨Nat.le_of_ble_eq_true rfl, Nat.le_of_ble_eq_true rfl⟩) (jR_V hK hP [0, 1] rfl (ci := 1) (q0 := 0) rfl rfl rfl) rfl hl rfl (Nat.le_of_ble_eq_true rfl) dX1_protect_2 ⟨Nat.le_of_ble_eq_true rfl, Nat.le_of_ble_eq_true rfl⟩ ?_
  refine lv_astore (lv' := [(4, .ref (aa 0)), (0, .ref (ax 0)), (1, .int (nI k)), (2, .int (nI v)), (3, .int (nI w))]) hx hb dX1_protect_5 hl (by decide) rfl (fun ls hl => ?_)
  refine lv_iload_n hx hb dX1_protect_7 rfl (lv_at hl 3 rfl) ?_
  refine lv_iconst (v := nI 0) hx hb dX1_protect_8 (by decide) ?_
  refine lv_ldc hx hb hown (hts (.constant RX1 62 (10000000)) (List.mem_of_getElem? (i := 1) rfl)) dX1_protect_9 ?_
  refine j_i (y := nI 10000000) (by decide +kernel) ?_
  refine j_sV (As := [.int (nI v), .int (nI 0), .int (nI 10000000)]) (rest := []) ⟨hx, hb, hml, hown, hts⟩ (c_X1_requireRange l dC dI (nI v) (nI 0) (nI 10000000) (nI_nlt (by omega) (by omega)) (nI_nlt (by omega) (by omega))) (cwS 3 hts gX1_protect_X1_requireRange rfl rfl rfl (by decide +kernel) ⟨Nat.le_of_ble_eq_true rfl, Nat.le_of_ble_eq_true rfl⟩) rfl hl rfl (Nat.le_of_ble_eq_true rfl) dX1_protect_11 ⟨Nat.le_of_ble_eq_true rfl, Nat.le_of_ble_eq_true rfl⟩ ?_
  refine lv_iload_n hx hb dX1_protect_14 rfl (lv_at hl 4 rfl) ?_
  refine lv_iconst (v := nI 0) hx hb dX1_protect_15 (by decide) ?_
  refine lv_bipush (v := nI 100) hx hb dX1_protect_16 (by decide) ?_
  refine j_sV (As := [.int (nI w), .int (nI 0), .int (nI 100)]) (rest := []) ⟨hx, hb, hml, hown, hts⟩ (c_X1_requireRange l dC dI (nI w) (nI 0) (nI 100) (nI_nlt (by omega) (by omega)) (nI_nlt (by omega) (by omega))) (cwS 3 hts gX1_protect_X1_requireRange rfl rfl rfl (by decide +kernel) ⟨Nat.le_of_ble_eq_true rfl, Nat.le_of_ble_eq_true rfl⟩) rfl hl rfl (Nat.le_of_ble_eq_true rfl) dX1_protect_18 ⟨Nat.le_of_ble_eq_true rfl, Nat.le_of_ble_eq_true rfl⟩ ?_
  refine lv_aload_n hx hb dX1_protect_21 rfl (lv_at hl 1 rfl) ?_
  refine lv_aload hx hb dX1_protect_22 (lv_at hl 0 rfl) ?_
  refine j_cV_ (As := [.ref (aa 0)]) (rest := []) ⟨hx, hb, hml, hown, hts⟩ (c_X1_requireStartNotRun l dC dI cI cJ cZ cO ax n mo aa an kp v0 hm hs) (cwV 1 hts gX1_protect_X1_requireStartNotRun rfl rfl rfl (by decide +kernel) ⟨Nat.le_of_ble_eq_true rfl, Nat.le_of_ble_eq_true rfl⟩) (jR_V hK hP [0, 3] rfl (ci := 1) (q0 := 0) rfl rfl rfl) rfl hl rfl (Nat.le_of_ble_eq_true rfl) dX1_protect_24 ⟨Nat.le_of_ble_eq_true rfl, Nat.le_of_ble_eq_true rfl⟩ ?_
  refine lv_aload hx hb dX1_protect_27 (lv_at hl 0 rfl) ?_
  refine lv_iload_n hx hb dX1_protect_29 rfl (lv_at hl 3 rfl) ?_
  refine va_put (D := (dC, dI)) (ci := 0) (v := .int (nI v)) (ty := .int) (C := RX0) (T := TX0) (N := 13) hx hb hts (fun _ h => List.mem_cons_of_mem _ (List.mem_append_left _ (List.mem_append_left _ (List.mem_append_left _ (List.mem_append_left _ (List.mem_append_right _ h)))))) tyX0 tyX0_ok nmX0 hown hK hP hD hS 3 rfl rfl 6 (by decide) (hts (.fieldLink RX1 63 "JointAnnuity$Annuity" "price" "I") (List.mem_of_getElem? (i := 2) rfl)) (fun _ h9 => h9) rfl (by decide +kernel) rfl rfl (Nat.le_of_ble_eq_true rfl) dX1_protect_30 (fun H locs hP hD hS => ?_)
  have hP : va_P (dC, dI) vwCl [((ax 0), .inr (1, [.ref (ax 1), .ref (ax 2), .int (nI n), .int (nI mo)])), ((ax 1), .inl (cO, 20, .inr (.inr (.inr (.inr (ao)))))), ((ax 2), .inl (cI, 20, .inl (iv))), ((aa 0), .inr (0, [.int (nI (an 0)), .int (nI (an 1)), .int (nI (an 0 + an 2)), .int (nI (an 3)), .int (nI (an 4)), .int (nI (an 5)), .int (nI v), .int (nI (an 7)), .ref (aa 1), .ref (aa 2), .ref (aa 3), .ref (aa 4), .long (kp)])), ((aa 1), .inl (cI, 2, .inl (fun j => nI (if j = 0 then an 8 else an 9)))), ((aa 2), .inl (cI, 20, .inl (fun j => nI (jF an iv j)))), ((aa 3), .inl (cI, 20, .inl (fun j => jC an iv j))), ((aa 4), .inl (cJ, 240, .inr (.inl (py))))] H := hP
  have hD : va_D A [((ax 0), .inr (1, [.ref (ax 1), .ref (ax 2), .int (nI n), .int (nI mo)])), ((ax 1), .inl (cO, 20, .inr (.inr (.inr (.inr (ao)))))), ((ax 2), .inl (cI, 20, .inl (iv))), ((aa 0), .inr (0, [.int (nI (an 0)), .int (nI (an 1)), .int (nI (an 0 + an 2)), .int (nI (an 3)), .int (nI (an 4)), .int (nI (an 5)), .int (nI v), .int (nI (an 7)), .ref (aa 1), .ref (aa 2), .ref (aa 3), .ref (aa 4), .long (kp)])), ((aa 1), .inl (cI, 2, .inl (fun j => nI (if j = 0 then an 8 else an 9)))), ((aa 2), .inl (cI, 20, .inl (fun j => nI (jF an iv j)))), ((aa 3), .inl (cI, 20, .inl (fun j => jC an iv j))), ((aa 4), .inl (cJ, 240, .inr (.inl (py))))] := hD
  refine lv_aload hx hb dX1_protect_33 (lv_at hl 0 rfl) ?_
  refine lv_iload_n hx hb dX1_protect_35 rfl (lv_at hl 4 rfl) ?_
  refine va_put (D := (dC, dI)) (ci := 0) (v := .int (nI w)) (ty := .int) (C := RX0) (T := TX0) (N := 13) hx hb hts (fun _ h => List.mem_cons_of_mem _ (List.mem_append_left _ (List.mem_append_left _ (List.mem_append_left _ (List.mem_append_left _ (List.mem_append_right _ h)))))) tyX0 tyX0_ok nmX0 hown hK hP hD hS 3 rfl rfl 7 (by decide) (hts (.fieldLink RX1 66 "JointAnnuity$Annuity" "protectedPercent" "I") (List.mem_of_getElem? (i := 3) rfl)) (fun _ h9 => h9) rfl (by decide +kernel) rfl rfl (Nat.le_of_ble_eq_true rfl) dX1_protect_36 (fun H locs hP hD hS => ?_)
  have hP : va_P (dC, dI) vwCl [((ax 0), .inr (1, [.ref (ax 1), .ref (ax 2), .int (nI n), .int (nI mo)])), ((ax 1), .inl (cO, 20, .inr (.inr (.inr (.inr (ao)))))), ((ax 2), .inl (cI, 20, .inl (iv))), ((aa 0), .inr (0, [.int (nI (an 0)), .int (nI (an 1)), .int (nI (an 0 + an 2)), .int (nI (an 3)), .int (nI (an 4)), .int (nI (an 5)), .int (nI v), .int (nI w), .ref (aa 1), .ref (aa 2), .ref (aa 3), .ref (aa 4), .long (kp)])), ((aa 1), .inl (cI, 2, .inl (fun j => nI (if j = 0 then an 8 else an 9)))), ((aa 2), .inl (cI, 20, .inl (fun j => nI (jF an iv j)))), ((aa 3), .inl (cI, 20, .inl (fun j => jC an iv j))), ((aa 4), .inl (cJ, 240, .inr (.inl (py))))] H := hP
  have hD : va_D A [((ax 0), .inr (1, [.ref (ax 1), .ref (ax 2), .int (nI n), .int (nI mo)])), ((ax 1), .inl (cO, 20, .inr (.inr (.inr (.inr (ao)))))), ((ax 2), .inl (cI, 20, .inl (iv))), ((aa 0), .inr (0, [.int (nI (an 0)), .int (nI (an 1)), .int (nI (an 0 + an 2)), .int (nI (an 3)), .int (nI (an 4)), .int (nI (an 5)), .int (nI v), .int (nI w), .ref (aa 1), .ref (aa 2), .ref (aa 3), .ref (aa 4), .long (kp)])), ((aa 1), .inl (cI, 2, .inl (fun j => nI (if j = 0 then an 8 else an 9)))), ((aa 2), .inl (cI, 20, .inl (fun j => nI (jF an iv j)))), ((aa 3), .inl (cI, 20, .inl (fun j => jC an iv j))), ((aa 4), .inl (cJ, 240, .inr (.inl (py))))] := hD
  have hP : va_P (dC, dI) vwCl (jFW cI cJ cO ax ao n mo iv aa (upN (upN an 6 v) 7 w) kp py) H := hP
  exact W.vret hx hb hr (fun t ht hW => ⟨⟨(), rfl, trivial, j_h ht hP⟩, hS.F ht⟩) hS.2.2 dX1_protect_39
set_option maxHeartbeats 4000000 in
set_option maxRecDepth 100000 in
/-- a death is told -/
theorem c_X1_die0 (l : Launch) (dC : Nat → ClassId) (dI : Nat → Nat → Nat) (cI cJ cZ cO : ClassId) (ax : Nat → Nat) (ao : Nat → Option Nat) (n mo : Nat) (iv : Nat → Int32) (aa an : Nat → Nat) (kp : Int64) (py : Nat → Int64) (k : Nat) (v : Nat) (hv : jV an) (hm : mo ≤ 240) (hk : k < 20) (hao : ao k = some (aa 0)) (h1 : v ≤ mo) (h2 : v ≤ 239) (ht9 : an 8 = 240) : Met l yX1_die wsX1_die ({ frames := 1, cells := 0, slots := 0, locals := 22 }) (va_Pc [.ref (ax 0), .int (nI k), .int (nI 0), .int (nI v)] (jW (dC, dI) (jTY cI cJ cZ cO) (jFW cI cJ cO ax ao n mo iv aa an kp py))) (va_Qv (fun _ : Unit => True) (fun _ t => va_P (dC, dI) vwCl (jFW cI cJ cO ax ao n mo iv aa (upN an 8 v) kp py) t.heap) (jA (jFW cI cJ cO ax ao n mo iv aa an kp py))) 0 0 (jA (jFW cI cJ cO ax ao n mo iv aa an kp py)) := by
  refine j_of (cc := cX1_die) (maxL := 5) (ret := none) (by decide) rfl (Nat.le_of_ble_eq_true rfl) ?_
  intro p e s m below meth c ls hx hb hr hml hts hown hlocks hnm hl hpre
  have hown : s.vm.findClass RX1 = some m.cls := hown
  have hl : lv_has ls 5 [(0, .ref (ax 0)), (1, .int (nI k)), (2, .int (nI 0)), (3, .int (nI v))] := hl
  obtain ⟨v0, v1, v2, v3, v4, v5, v6, v7, v8, v9⟩ := id hv
  obtain ⟨hP, hK, hD0⟩ := hpre
  have hD := hD0.jA
  generalize hAe : jA (jFW cI cJ cO ax ao n mo iv aa an kp py) = A at hD ⊢
  have hS : va_S A s.heap s.heap [] := va_S.rf
  refine lv_aload_n hx hb dX1_die_0 rfl (lv_at hl 0 rfl) ?_
  refine lv_iload_n hx hb dX1_die_1 rfl (lv_at hl 1 rfl) ?_
  refine j_cR_ (As := [.int (nI k)]) (rest := []) ⟨hx, hb, hml, hown, hts⟩ (c_X1_find l dC dI cI cJ cZ cO ax ao n mo k (aa 0) hk hao) (cwV 1 hts gX1_die_X1_find rfl rfl rfl (by decide +kernel) ⟨Nat.le_of_ble_eq_true rfl, Nat.le_of_ble_eq_true rfl⟩) (jR_V hK hP [0, 1] rfl (ci := 1) (q0 := 0) rfl rfl rfl) rfl hl rfl (Nat.le_of_ble_eq_true rfl) dX1_die_2 ⟨Nat.le_of_ble_eq_true rfl, Nat.le_of_ble_eq_true rfl⟩ ?_
  refine lv_astore (lv' := [(4, .ref (aa 0)), (0, .ref (ax 0)), (1, .int (nI k)), (2, .int (nI 0)), (3, .int (nI v))]) hx hb dX1_die_5 hl (by decide) rfl (fun ls hl => ?_)
  refine lv_iload_n hx hb dX1_die_7 rfl (lv_at hl 3 rfl) ?_
  refine lv_iconst (v := nI 0) hx hb dX1_die_8 (by decide) ?_
  refine lv_iconst (v := nI 1) hx hb dX1_die_9 (by decide) ?_
  refine j_sV (As := [.int (nI 0), .int (nI 0), .int (nI 1)]) (rest := []) ⟨hx, hb, hml, hown, hts⟩ (c_X1_requireRange l dC dI (nI 0) (nI 0) (nI 1) (nI_nlt (by omega) (by omega)) (nI_nlt (by omega) (by omega))) (cwS 3 hts gX1_die_X1_requireRange rfl rfl rfl (by decide +kernel) ⟨Nat.le_of_ble_eq_true rfl, Nat.le_of_ble_eq_true rfl⟩) rfl hl rfl (Nat.le_of_ble_eq_true rfl) dX1_die_10 ⟨Nat.le_of_ble_eq_true rfl, Nat.le_of_ble_eq_true rfl⟩ ?_
  refine lv_iload_n hx hb dX1_die_13 rfl (lv_at hl 4 rfl) ?_
  refine lv_iconst (v := nI 0) hx hb dX1_die_14 (by decide) ?_
  refine lv_aload_n hx hb dX1_die_15 rfl (lv_at hl 1 rfl) ?_
  refine va_get (D := (dC, dI)) (ci := 1) (v := .int (nI mo)) (C := RX1) (T := TX1) (N := 4) hx hb hts (fun _ h => List.mem_cons_of_mem _ (List.mem_append_left _ (List.mem_append_left _ (List.mem_append_left _ (List.mem_append_left _ (List.mem_append_right _ h)))))) hown hK hP 0 rfl rfl 3 (by decide) (hts (.fieldLink RX1 23 "JointAnnuity" "monthThatGoesOn" "I") (List.mem_of_getElem? (i := 3) rfl)) (fun _ h9 => h9) rfl dX1_die_16 ?_
  refine lv_sipush (v := nI 239) hx hb dX1_die_19 (by decide) ?_
  refine va_mmin hx hb (hml.trans hl.1.symm) hown (hts (.methodLink RX1 69 Lib.Math.min.name) (List.mem_of_getElem? (i := 4) rfl)) (hts (.static Lib.Math.min.name) (List.mem_of_getElem? (i := 5) rfl)) (hts (.initialized "java/lang/Math") (List.mem_of_getElem? (i := 6) rfl)) (hts (.code Lib.Math.min.name Lib.Math.min.code 2 (some .int)) (List.mem_of_getElem? (i := 7) rfl)) (Nat.le_of_ble_eq_true rfl) (Nat.le_of_ble_eq_true rfl) (Nat.le_of_ble_eq_true rfl) (Nat.le_of_ble_eq_true rfl) dX1_die_22 ?_
  refine j_i (y := nI (min mo 239)) (jminI (by omega) (by omega)) ?_
  refine j_sV (As := [.int (nI v), .int (nI 0), .int (nI (min mo 239))]) (rest := []) ⟨hx, hb, hml, hown, hts⟩ (c_X1_requireRange l dC dI (nI v) (nI 0) (nI (min mo 239)) (nI_nlt (by omega) (by omega)) (nI_nlt (by omega) (by omega))) (cwS 3 hts gX1_die_X1_requireRange rfl rfl rfl (by decide +kernel) ⟨Nat.le_of_ble_eq_true rfl, Nat.le_of_ble_eq_true rfl⟩) rfl hl rfl (Nat.le_of_ble_eq_true rfl) dX1_die_25 ⟨Nat.le_of_ble_eq_true rfl, Nat.le_of_ble_eq_true rfl⟩ ?_
  refine lv_aload hx hb dX1_die_28 (lv_at hl 0 rfl) ?_
  refine va_get (D := (dC, dI)) (ci := 0) (v := .ref (aa 1)) (C := RX0) (T := TX0) (N := 13) hx hb hts (fun _ h => List.mem_cons_of_mem _ (List.mem_append_left _ (List.mem_append_left _ (List.mem_append_left _ (List.mem_append_right _ h))))) hown hK hP 3 rfl rfl 8 (by decide) (hts (.fieldLink RX1 75 "JointAnnuity$Annuity" "deaths" "[I") (List.mem_of_getElem? (i := 8) rfl)) (fun _ h9 => h9) rfl dX1_die_30 ?_
  refine lv_iload_n hx hb dX1_die_33 rfl (lv_at hl 3 rfl) ?_
  refine va_iald hx hb hK hP 4 0 (f := fun j => nI (if j = 0 then an 8 else an 9)) rfl rfl (vp_in_nI (n := 0) (N := 2) (by omega) (by omega)) dX1_die_34 ?_
  refine j_i (y := nI (an 8)) (jd0 _ _) ?_
  refine lv_sipush (v := nI 240) hx hb dX1_die_35 (by decide) ?_
  refine lv_icmp_eq (tgt := 51) hx hb dX1_die_38 (by decide) (fun c_38 => ?_) (fun c_38 => ?_)
  · have c_38 : an 8 = 240 := (nI_eq (a := an 8) (b := 240) (by omega) (by omega)).mp c_38
    refine lv_aload hx hb dX1_die_51 (lv_at hl 0 rfl) ?_
    refine va_get (D := (dC, dI)) (ci := 0) (v := .ref (aa 1)) (C := RX0) (T := TX0) (N := 13) hx hb hts (fun _ h => List.mem_cons_of_mem _ (List.mem_append_left _ (List.mem_append_left _ (List.mem_append_left _ (List.mem_append_right _ h))))) hown hK hP 3 rfl rfl 8 (by decide) (hts (.fieldLink RX1 75 "JointAnnuity$Annuity" "deaths" "[I") (List.mem_of_getElem? (i := 8) rfl)) (fun _ h9 => h9) rfl dX1_die_53 ?_
    refine lv_iload_n hx hb dX1_die_56 rfl (lv_at hl 3 rfl) ?_
    refine lv_iload_n hx hb dX1_die_57 rfl (lv_at hl 4 rfl) ?_
    refine va_iast hx hb hK hP hD hS 4 0 (f := fun j => nI (if j = 0 then an 8 else an 9)) (x := nI v) rfl rfl (vp_in_nI (n := 0) (N := 2) (by omega) (by omega)) dX1_die_58 (fun H locs hP hD hS => ?_)
    rw [nI_clamp (show 0 < 2 ^ 31 by omega)] at hP hD
    have hP : va_P (dC, dI) vwCl [((ax 0), .inr (1, [.ref (ax 1), .ref (ax 2), .int (nI n), .int (nI mo)])), ((ax 1), .inl (cO, 20, .inr (.inr (.inr (.inr (ao)))))), ((ax 2), .inl (cI, 20, .inl (iv))), ((aa 0), .inr (0, [.int (nI (an 0)), .int (nI (an 1)), .int (nI (an 0 + an 2)), .int (nI (an 3)), .int (nI (an 4)), .int (nI (an 5)), .int (nI (an 6)), .int (nI (an 7)), .ref (aa 1), .ref (aa 2), .ref (aa 3), .ref (aa 4), .long (kp)])), ((aa 1), .inl (cI, 2, .inl (upd (fun j => nI (if j = 0 then an 8 else an 9)) 0 (nI v)))), ((aa 2), .inl (cI, 20, .inl (fun j => nI (jF an iv j)))), ((aa 3), .inl (cI, 20, .inl (fun j => jC an iv j))), ((aa 4), .inl (cJ, 240, .inr (.inl (py))))] H := hP
    have hD : va_D A [((ax 0), .inr (1, [.ref (ax 1), .ref (ax 2), .int (nI n), .int (nI mo)])), ((ax 1), .inl (cO, 20, .inr (.inr (.inr (.inr (ao)))))), ((ax 2), .inl (cI, 20, .inl (iv))), ((aa 0), .inr (0, [.int (nI (an 0)), .int (nI (an 1)), .int (nI (an 0 + an 2)), .int (nI (an 3)), .int (nI (an 4)), .int (nI (an 5)), .int (nI (an 6)), .int (nI (an 7)), .ref (aa 1), .ref (aa 2), .ref (aa 3), .ref (aa 4), .long (kp)])), ((aa 1), .inl (cI, 2, .inl (upd (fun j => nI (if j = 0 then an 8 else an 9)) 0 (nI v)))), ((aa 2), .inl (cI, 20, .inl (fun j => nI (jF an iv j)))), ((aa 3), .inl (cI, 20, .inl (fun j => jC an iv j))), ((aa 4), .inl (cJ, 240, .inr (.inl (py))))] := hD
    have hP := j_same (wn := jFW cI cJ cO ax ao n mo iv aa (upN an 8 v) kp py) hP rfl (fun k hk => match k, hk with
      | 0, _ => Or.inl rfl
      | 1, _ => Or.inl rfl
      | 2, _ => Or.inl rfl
      | 3, _ => Or.inl rfl
      | 4, _ => Or.inr ⟨_, _, _, rfl, rfl, j_cI (fun j hj => match j, hj with
        | 0, _ => rfl
        | 1, _ => rfl
        | _ + 2, h => absurd h (Nat.not_lt.mpr (Nat.le_add_left _ _)))⟩
      | 5, _ => Or.inl rfl
      | 6, _ => Or.inl rfl
      | 7, _ => Or.inl rfl
      | _ + 8, h => absurd h (Nat.not_lt.mpr (Nat.le_add_left _ _)))
    have hP : va_P (dC, dI) vwCl (jFW cI cJ cO ax ao n mo iv aa (upN an 8 v) kp py) H := hP
    exact W.vret hx hb hr (fun t ht hW => ⟨⟨(), rfl, trivial, j_h ht hP⟩, hS.F ht⟩) hS.2.2 dX1_die_59
  · have c_38 : ¬ (an 8 = 240) := fun h => c_38 ((nI_eq (a := an 8) (b := 240) (by omega) (by omega)).mpr h)
    omega
set_option maxHeartbeats 4000000 in
set_option maxRecDepth 100000 in
/-- a death is taken back -/
theorem c_X1_takeBack0 (l : Launch) (dC : Nat → ClassId) (dI : Nat → Nat → Nat) (cI cJ cZ cO : ClassId) (ax : Nat → Nat) (ao : Nat → Option Nat) (n mo : Nat) (iv : Nat → Int32) (aa an : Nat → Nat) (kp : Int64) (py : Nat → Int64) (k : Nat) (hv : jV an) (hm : mo ≤ 240) (hk : k < 20) (hao : ao k = some (aa 0)) (ht9 : an 8 ≠ 240) : Met l yX1_takeBack wsX1_takeBack ({ frames := 1, cells := 0, slots := 0, locals := 22 }) (va_Pc [.ref (ax 0), .int (nI k), .int (nI 0)] (jW (dC, dI) (jTY cI cJ cZ cO) (jFW cI cJ cO ax ao n mo iv aa an kp py))) (va_Qi (fun r (_ : Unit) => r = nI (an 8)) (fun _ t => va_P (dC, dI) vwCl (jFW cI cJ cO ax ao n mo iv aa (upN an 8 240) kp py) t.heap) (jA (jFW cI cJ cO ax ao n mo iv aa an kp py))) 0 0 (jA (jFW cI cJ cO ax ao n mo iv aa an kp py)) := by
  refine j_of (cc := cX1_takeBack) (maxL := 5) (ret := (some .int)) (by decide) rfl (Nat.le_of_ble_eq_true rfl) ?_
  intro p e s m below meth c ls hx hb hr hml hts hown hlocks hnm hl hpre
  have hown : s.vm.findClass RX1 = some m.cls := hown
  have hl : lv_has ls 5 [(0, .ref (ax 0)), (1, .int (nI k)), (2, .int (nI 0))] := hl
  obtain ⟨v0, v1, v2, v3, v4, v5, v6, v7, v8, v9⟩ := id hv
  obtain ⟨hP, hK, hD0⟩ := hpre
  have hD := hD0.jA
  generalize hAe : jA (jFW cI cJ cO ax ao n mo iv aa an kp py) = A at hD ⊢
  have hS : va_S A s.heap s.heap [] := va_S.rf
  refine lv_aload_n hx hb dX1_takeBack_0 rfl (lv_at hl 0 rfl) ?_
  refine lv_iload_n hx hb dX1_takeBack_1 rfl (lv_at hl 1 rfl) ?_
  refine j_cR_ (As := [.int (nI k)]) (rest := []) ⟨hx, hb, hml, hown, hts⟩ (c_X1_find l dC dI cI cJ cZ cO ax ao n mo k (aa 0) hk hao) (cwV 1 hts gX1_takeBack_X1_find rfl rfl rfl (by decide +kernel) ⟨Nat.le_of_ble_eq_true rfl, Nat.le_of_ble_eq_true rfl⟩) (jR_V hK hP [0, 1] rfl (ci := 1) (q0 := 0) rfl rfl rfl) rfl hl rfl (Nat.le_of_ble_eq_true rfl) dX1_takeBack_2 ⟨Nat.le_of_ble_eq_true rfl, Nat.le_of_ble_eq_true rfl⟩ ?_
  refine lv_astore_n (lv' := [(3, .ref (aa 0)), (0, .ref (ax 0)), (1, .int (nI k)), (2, .int (nI 0))]) hx hb dX1_takeBack_5 rfl hl (by decide) rfl (fun ls hl => ?_)
  refine lv_iload_n hx hb dX1_takeBack_6 rfl (lv_at hl 3 rfl) ?_
  refine lv_iconst (v := nI 0) hx hb dX1_takeBack_7 (by decide) ?_
  refine lv_iconst (v := nI 1) hx hb dX1_takeBack_8 (by decide) ?_
  refine j_sV (As := [.int (nI 0), .int (nI 0), .int (nI 1)]) (rest := []) ⟨hx, hb, hml, hown, hts⟩ (c_X1_requireRange l dC dI (nI 0) (nI 0) (nI 1) (nI_nlt (by omega) (by omega)) (nI_nlt (by omega) (by omega))) (cwS 3 hts gX1_takeBack_X1_requireRange rfl rfl rfl (by decide +kernel) ⟨Nat.le_of_ble_eq_true rfl, Nat.le_of_ble_eq_true rfl⟩) rfl hl rfl (Nat.le_of_ble_eq_true rfl) dX1_takeBack_9 ⟨Nat.le_of_ble_eq_true rfl, Nat.le_of_ble_eq_true rfl⟩ ?_
  refine lv_aload_n hx hb dX1_takeBack_12 rfl (lv_at hl 0 rfl) ?_
  refine va_get (D := (dC, dI)) (ci := 0) (v := .ref (aa 1)) (C := RX0) (T := TX0) (N := 13) hx hb hts (fun _ h => List.mem_cons_of_mem _ (List.mem_append_left _ (List.mem_append_left _ (List.mem_append_left _ (List.mem_append_left _ (List.mem_append_right _ h)))))) hown hK hP 3 rfl rfl 8 (by decide) (hts (.fieldLink RX1 75 "JointAnnuity$Annuity" "deaths" "[I") (List.mem_of_getElem? (i := 3) rfl)) (fun _ h9 => h9) rfl dX1_takeBack_13 ?_
  refine lv_iload_n hx hb dX1_takeBack_16 rfl (lv_at hl 3 rfl) ?_
  refine va_iald hx hb hK hP 4 0 (f := fun j => nI (if j = 0 then an 8 else an 9)) rfl rfl (vp_in_nI (n := 0) (N := 2) (by omega) (by omega)) dX1_takeBack_17 ?_
  refine j_i (y := nI (an 8)) (jd0 _ _) ?_
  refine lv_istore (lv' := [(4, .int (nI (an 8))), (3, .ref (aa 0)), (0, .ref (ax 0)), (1, .int (nI k)), (2, .int (nI 0))]) hx hb dX1_takeBack_18 hl (by decide) rfl (fun ls hl => ?_)
  refine lv_iload hx hb dX1_takeBack_20 (lv_at hl 0 rfl) ?_
  refine lv_sipush (v := nI 240) hx hb dX1_takeBack_22 (by decide) ?_
  refine lv_icmp_ne (tgt := 38) hx hb dX1_takeBack_25 (by decide) (fun c_25 => ?_) (fun c_25 => ?_)
  · have c_25 : ¬ (an 8 = 240) := fun h => c_25 ((nI_eq (a := an 8) (b := 240) (by omega) (by omega)).mpr h)
    refine lv_aload_n hx hb dX1_takeBack_38 rfl (lv_at hl 1 rfl) ?_
    refine va_get (D := (dC, dI)) (ci := 0) (v := .ref (aa 1)) (C := RX0) (T := TX0) (N := 13) hx hb hts (fun _ h => List.mem_cons_of_mem _ (List.mem_append_left _ (List.mem_append_left _ (List.mem_append_left _ (List.mem_append_left _ (List.mem_append_right _ h)))))) hown hK hP 3 rfl rfl 8 (by decide) (hts (.fieldLink RX1 75 "JointAnnuity$Annuity" "deaths" "[I") (List.mem_of_getElem? (i := 3) rfl)) (fun _ h9 => h9) rfl dX1_takeBack_39 ?_
    refine lv_iload_n hx hb dX1_takeBack_42 rfl (lv_at hl 4 rfl) ?_
    refine lv_sipush (v := nI 240) hx hb dX1_takeBack_43 (by decide) ?_
    refine va_iast hx hb hK hP hD hS 4 0 (f := fun j => nI (if j = 0 then an 8 else an 9)) (x := nI 240) rfl rfl (vp_in_nI (n := 0) (N := 2) (by omega) (by omega)) dX1_takeBack_46 (fun H locs hP hD hS => ?_)
    rw [nI_clamp (show 0 < 2 ^ 31 by omega)] at hP hD
    have hP : va_P (dC, dI) vwCl [((ax 0), .inr (1, [.ref (ax 1), .ref (ax 2), .int (nI n), .int (nI mo)])), ((ax 1), .inl (cO, 20, .inr (.inr (.inr (.inr (ao)))))), ((ax 2), .inl (cI, 20, .inl (iv))), ((aa 0), .inr (0, [.int (nI (an 0)), .int (nI (an 1)), .int (nI (an 0 + an 2)), .int (nI (an 3)), .int (nI (an 4)), .int (nI (an 5)), .int (nI (an 6)), .int (nI (an 7)), .ref (aa 1), .ref (aa 2), .ref (aa 3), .ref (aa 4), .long (kp)])), ((aa 1), .inl (cI, 2, .inl (upd (fun j => nI (if j = 0 then an 8 else an 9)) 0 (nI 240)))), ((aa 2), .inl (cI, 20, .inl (fun j => nI (jF an iv j)))), ((aa 3), .inl (cI, 20, .inl (fun j => jC an iv j))), ((aa 4), .inl (cJ, 240, .inr (.inl (py))))] H := hP
    have hD : va_D A [((ax 0), .inr (1, [.ref (ax 1), .ref (ax 2), .int (nI n), .int (nI mo)])), ((ax 1), .inl (cO, 20, .inr (.inr (.inr (.inr (ao)))))), ((ax 2), .inl (cI, 20, .inl (iv))), ((aa 0), .inr (0, [.int (nI (an 0)), .int (nI (an 1)), .int (nI (an 0 + an 2)), .int (nI (an 3)), .int (nI (an 4)), .int (nI (an 5)), .int (nI (an 6)), .int (nI (an 7)), .ref (aa 1), .ref (aa 2), .ref (aa 3), .ref (aa 4), .long (kp)])), ((aa 1), .inl (cI, 2, .inl (upd (fun j => nI (if j = 0 then an 8 else an 9)) 0 (nI 240)))), ((aa 2), .inl (cI, 20, .inl (fun j => nI (jF an iv j)))), ((aa 3), .inl (cI, 20, .inl (fun j => jC an iv j))), ((aa 4), .inl (cJ, 240, .inr (.inl (py))))] := hD
    refine lv_iload hx hb dX1_takeBack_47 (lv_at hl 0 rfl) ?_
    have hP := j_same (wn := jFW cI cJ cO ax ao n mo iv aa (upN an 8 240) kp py) hP rfl (fun k hk => match k, hk with
      | 0, _ => Or.inl rfl
      | 1, _ => Or.inl rfl
      | 2, _ => Or.inl rfl
      | 3, _ => Or.inl rfl
      | 4, _ => Or.inr ⟨_, _, _, rfl, rfl, j_cI (fun j hj => match j, hj with
        | 0, _ => rfl
        | 1, _ => rfl
        | _ + 2, h => absurd h (Nat.not_lt.mpr (Nat.le_add_left _ _)))⟩
      | 5, _ => Or.inl rfl
      | 6, _ => Or.inl rfl
      | 7, _ => Or.inl rfl
      | _ + 8, h => absurd h (Nat.not_lt.mpr (Nat.le_add_left _ _)))
    have hP : va_P (dC, dI) vwCl (jFW cI cJ cO ax ao n mo iv aa (upN an 8 240) kp py) H := hP
    exact W.iret (v := nI (an 8)) hx hb hr (fun t ht hW => ⟨⟨_, (), rfl, rfl, j_h ht hP⟩, hS.F ht⟩) hS.2.2 dX1_takeBack_49
  · have c_25 : an 8 = 240 := (nI_eq (a := an 8) (b := 240) (by omega) (by omega)).mp c_25
    omega
set_option maxHeartbeats 4000000 in
set_option maxRecDepth 100000 in
/-- a death is told -/
theorem c_X1_die1 (l : Launch) (dC : Nat → ClassId) (dI : Nat → Nat → Nat) (cI cJ cZ cO : ClassId) (ax : Nat → Nat) (ao : Nat → Option Nat) (n mo : Nat) (iv : Nat → Int32) (aa an : Nat → Nat) (kp : Int64) (py : Nat → Int64) (k : Nat) (v : Nat) (hv : jV an) (hm : mo ≤ 240) (hk : k < 20) (hao : ao k = some (aa 0)) (h1 : v ≤ mo) (h2 : v ≤ 239) (ht9 : an 9 = 240) : Met l yX1_die wsX1_die ({ frames := 1, cells := 0, slots := 0, locals := 22 }) (va_Pc [.ref (ax 0), .int (nI k), .int (nI 1), .int (nI v)] (jW (dC, dI) (jTY cI cJ cZ cO) (jFW cI cJ cO ax ao n mo iv aa an kp py))) (va_Qv (fun _ : Unit => True) (fun _ t => va_P (dC, dI) vwCl (jFW cI cJ cO ax ao n mo iv aa (upN an 9 v) kp py) t.heap) (jA (jFW cI cJ cO ax ao n mo iv aa an kp py))) 0 0 (jA (jFW cI cJ cO ax ao n mo iv aa an kp py)) := by
  refine j_of (cc := cX1_die) (maxL := 5) (ret := none) (by decide) rfl (Nat.le_of_ble_eq_true rfl) ?_
  intro p e s m below meth c ls hx hb hr hml hts hown hlocks hnm hl hpre
  have hown : s.vm.findClass RX1 = some m.cls := hown
  have hl : lv_has ls 5 [(0, .ref (ax 0)), (1, .int (nI k)), (2, .int (nI 1)), (3, .int (nI v))] := hl
  obtain ⟨v0, v1, v2, v3, v4, v5, v6, v7, v8, v9⟩ := id hv
  obtain ⟨hP, hK, hD0⟩ := hpre
  have hD := hD0.jA
  generalize hAe : jA (jFW cI cJ cO ax ao n mo iv aa an kp py) = A at hD ⊢
  have hS : va_S A s.heap s.heap [] := va_S.rf
  refine lv_aload_n hx hb dX1_die_0 rfl (lv_at hl 0 rfl) ?_
  refine lv_iload_n hx hb dX1_die_1 rfl (lv_at hl 1 rfl) ?_
  refine j_cR_ (As := [.int (nI k)]) (rest := []) ⟨hx, hb, hml, hown, hts⟩ (c_X1_find l dC dI cI cJ cZ cO ax ao n mo k (aa 0) hk hao) (cwV 1 hts gX1_die_X1_find rfl rfl rfl (by decide +kernel) ⟨Nat.le_of_ble_eq_true rfl, Nat.le_of_ble_eq_true rfl⟩) (jR_V hK hP [0, 1] rfl (ci := 1) (q0 := 0) rfl rfl rfl) rfl hl rfl (Nat.le_of_ble_eq_true rfl) dX1_die_2 ⟨Nat.le_of_ble_eq_true rfl, Nat.le_of_ble_eq_true rfl⟩ ?_
  refine lv_astore (lv' := [(4, .ref (aa 0)), (0, .ref (ax 0)), (1, .int (nI k)), (2, .int (nI 1)), (3, .int (nI v))]) hx hb dX1_die_5 hl (by decide) rfl (fun ls hl => ?_)
  refine lv_iload_n hx hb dX1_die_7 rfl (lv_at hl 3 rfl) ?_
  refine lv_iconst (v := nI 0) hx hb dX1_die_8 (by decide) ?_
  refine lv_iconst (v := nI 1) hx hb dX1_die_9 (by decide) ?_
  refine j_sV (As := [.int (nI 1), .int (nI 0), .int (nI 1)]) (rest := []) ⟨hx, hb, hml, hown, hts⟩ (c_X1_requireRange l dC dI (nI 1) (nI 0) (nI 1) (nI_nlt (by omega) (by omega)) (nI_nlt (by omega) (by omega))) (cwS 3 hts gX1_die_X1_requireRange rfl rfl rfl (by decide +kernel) ⟨Nat.le_of_ble_eq_true rfl, Nat.le_of_ble_eq_true rfl⟩) rfl hl rfl (Nat.le_of_ble_eq_true rfl) dX1_die_10 ⟨Nat.le_of_ble_eq_true rfl, Nat.le_of_ble_eq_true rfl⟩ ?_
  refine lv_iload_n hx hb dX1_die_13 rfl (lv_at hl 4 rfl) ?_
  refine lv_iconst (v := nI 0) hx hb dX1_die_14 (by decide) ?_
  refine lv_aload_n hx hb dX1_die_15 rfl (lv_at hl 1 rfl) ?_
  refine va_get (D := (dC, dI)) (ci := 1) (v := .int (nI mo)) (C := RX1) (T := TX1) (N := 4) hx hb hts (fun _ h => List.mem_cons_of_mem _ (List.mem_append_left _ (List.mem_append_left _ (List.mem_append_left _ (List.mem_append_left _ (List.mem_append_right _ h)))))) hown hK hP 0 rfl rfl 3 (by decide) (hts (.fieldLink RX1 23 "JointAnnuity" "monthThatGoesOn" "I") (List.mem_of_getElem? (i := 3) rfl)) (fun _ h9 => h9) rfl dX1_die_16 ?_
  refine lv_sipush (v := nI 239) hx hb dX1_die_19 (by decide) ?_
  refine va_mmin hx hb (hml.trans hl.1.symm) hown (hts (.methodLink RX1 69 Lib.Math.min.name) (List.mem_of_getElem? (i := 4) rfl)) (hts (.static Lib.Math.min.name) (List.mem_of_getElem? (i := 5) rfl)) (hts (.initialized "java/lang/Math") (List.mem_of_getElem? (i := 6) rfl)) (hts (.code Lib.Math.min.name Lib.Math.min.code 2 (some .int)) (List.mem_of_getElem? (i := 7) rfl)) (Nat.le_of_ble_eq_true rfl) (Nat.le_of_ble_eq_true rfl) (Nat.le_of_ble_eq_true rfl) (Nat.le_of_ble_eq_true rfl) dX1_die_22 ?_
  refine j_i (y := nI (min mo 239)) (jminI (by omega) (by omega)) ?_
  refine j_sV (As := [.int (nI v), .int (nI 0), .int (nI (min mo 239))]) (rest := []) ⟨hx, hb, hml, hown, hts⟩ (c_X1_requireRange l dC dI (nI v) (nI 0) (nI (min mo 239)) (nI_nlt (by omega) (by omega)) (nI_nlt (by omega) (by omega))) (cwS 3 hts gX1_die_X1_requireRange rfl rfl rfl (by decide +kernel) ⟨Nat.le_of_ble_eq_true rfl, Nat.le_of_ble_eq_true rfl⟩) rfl hl rfl (Nat.le_of_ble_eq_true rfl) dX1_die_25 ⟨Nat.le_of_ble_eq_true rfl, Nat.le_of_ble_eq_true rfl⟩ ?_
  refine lv_aload hx hb dX1_die_28 (lv_at hl 0 rfl) ?_
  refine va_get (D := (dC, dI)) (ci := 0) (v := .ref (aa 1)) (C := RX0) (T := TX0) (N := 13) hx hb hts (fun _ h => List.mem_cons_of_mem _ (List.mem_append_left _ (List.mem_append_left _ (List.mem_append_left _ (List.mem_append_right _ h))))) hown hK hP 3 rfl rfl 8 (by decide) (hts (.fieldLink RX1 75 "JointAnnuity$Annuity" "deaths" "[I") (List.mem_of_getElem? (i := 8) rfl)) (fun _ h9 => h9) rfl dX1_die_30 ?_
  refine lv_iload_n hx hb dX1_die_33 rfl (lv_at hl 3 rfl) ?_
  refine va_iald hx hb hK hP 4 0 (f := fun j => nI (if j = 0 then an 8 else an 9)) rfl rfl (vp_in_nI (n := 1) (N := 2) (by omega) (by omega)) dX1_die_34 ?_
  refine j_i (y := nI (an 9)) (jd1 _ _) ?_
  refine lv_sipush (v := nI 240) hx hb dX1_die_35 (by decide) ?_
  refine lv_icmp_eq (tgt := 51) hx hb dX1_die_38 (by decide) (fun c_38 => ?_) (fun c_38 => ?_)
  · have c_38 : an 9 = 240 := (nI_eq (a := an 9) (b := 240) (by omega) (by omega)).mp c_38
    refine lv_aload hx hb dX1_die_51 (lv_at hl 0 rfl) ?_
    refine va_get (D := (dC, dI)) (ci := 0) (v := .ref (aa 1)) (C := RX0) (T := TX0) (N := 13) hx hb hts (fun _ h => List.mem_cons_of_mem _ (List.mem_append_left _ (List.mem_append_left _ (List.mem_append_left _ (List.mem_append_right _ h))))) hown hK hP 3 rfl rfl 8 (by decide) (hts (.fieldLink RX1 75 "JointAnnuity$Annuity" "deaths" "[I") (List.mem_of_getElem? (i := 8) rfl)) (fun _ h9 => h9) rfl dX1_die_53 ?_
    refine lv_iload_n hx hb dX1_die_56 rfl (lv_at hl 3 rfl) ?_
    refine lv_iload_n hx hb dX1_die_57 rfl (lv_at hl 4 rfl) ?_
    refine va_iast hx hb hK hP hD hS 4 0 (f := fun j => nI (if j = 0 then an 8 else an 9)) (x := nI v) rfl rfl (vp_in_nI (n := 1) (N := 2) (by omega) (by omega)) dX1_die_58 (fun H locs hP hD hS => ?_)
    rw [nI_clamp (show 1 < 2 ^ 31 by omega)] at hP hD
    have hP : va_P (dC, dI) vwCl [((ax 0), .inr (1, [.ref (ax 1), .ref (ax 2), .int (nI n), .int (nI mo)])), ((ax 1), .inl (cO, 20, .inr (.inr (.inr (.inr (ao)))))), ((ax 2), .inl (cI, 20, .inl (iv))), ((aa 0), .inr (0, [.int (nI (an 0)), .int (nI (an 1)), .int (nI (an 0 + an 2)), .int (nI (an 3)), .int (nI (an 4)), .int (nI (an 5)), .int (nI (an 6)), .int (nI (an 7)), .ref (aa 1), .ref (aa 2), .ref (aa 3), .ref (aa 4), .long (kp)])), ((aa 1), .inl (cI, 2, .inl (upd (fun j => nI (if j = 0 then an 8 else an 9)) 1 (nI v)))), ((aa 2), .inl (cI, 20, .inl (fun j => nI (jF an iv j)))), ((aa 3), .inl (cI, 20, .inl (fun j => jC an iv j))), ((aa 4), .inl (cJ, 240, .inr (.inl (py))))] H := hP
    have hD : va_D A [((ax 0), .inr (1, [.ref (ax 1), .ref (ax 2), .int (nI n), .int (nI mo)])), ((ax 1), .inl (cO, 20, .inr (.inr (.inr (.inr (ao)))))), ((ax 2), .inl (cI, 20, .inl (iv))), ((aa 0), .inr (0, [.int (nI (an 0)), .int (nI (an 1)), .int (nI (an 0 + an 2)), .int (nI (an 3)), .int (nI (an 4)), .int (nI (an 5)), .int (nI (an 6)), .int (nI (an 7)), .ref (aa 1), .ref (aa 2), .ref (aa 3), .ref (aa 4), .long (kp)])), ((aa 1), .inl (cI, 2, .inl (upd (fun j => nI (if j = 0 then an 8 else an 9)) 1 (nI v)))), ((aa 2), .inl (cI, 20, .inl (fun j => nI (jF an iv j)))), ((aa 3), .inl (cI, 20, .inl (fun j => jC an iv j))), ((aa 4), .inl (cJ, 240, .inr (.inl (py))))] := hD
    have hP := j_same (wn := jFW cI cJ cO ax ao n mo iv aa (upN an 9 v) kp py) hP rfl (fun k hk => match k, hk with
      | 0, _ => Or.inl rfl
      | 1, _ => Or.inl rfl
      | 2, _ => Or.inl rfl
      | 3, _ => Or.inl rfl
      | 4, _ => Or.inr ⟨_, _, _, rfl, rfl, j_cI (fun j hj => match j, hj with
        | 0, _ => rfl
        | 1, _ => rfl
        | _ + 2, h => absurd h (Nat.not_lt.mpr (Nat.le_add_left _ _)))⟩
      | 5, _ => Or.inl rfl
      | 6, _ => Or.inl rfl
      | 7, _ => Or.inl rfl
      | _ + 8, h => absurd h (Nat.not_lt.mpr (Nat.le_add_left _ _)))
    have hP : va_P (dC, dI) vwCl (jFW cI cJ cO ax ao n mo iv aa (upN an 9 v) kp py) H := hP
    exact W.vret hx hb hr (fun t ht hW => ⟨⟨(), rfl, trivial, j_h ht hP⟩, hS.F ht⟩) hS.2.2 dX1_die_59
  · have c_38 : ¬ (an 9 = 240) := fun h => c_38 ((nI_eq (a := an 9) (b := 240) (by omega) (by omega)).mpr h)
    omega
set_option maxHeartbeats 4000000 in
set_option maxRecDepth 100000 in
/-- a death is taken back -/
theorem c_X1_takeBack1 (l : Launch) (dC : Nat → ClassId) (dI : Nat → Nat → Nat) (cI cJ cZ cO : ClassId) (ax : Nat → Nat) (ao : Nat → Option Nat) (n mo : Nat) (iv : Nat → Int32) (aa an : Nat → Nat) (kp : Int64) (py : Nat → Int64) (k : Nat) (hv : jV an) (hm : mo ≤ 240) (hk : k < 20) (hao : ao k = some (aa 0)) (ht9 : an 9 ≠ 240) : Met l yX1_takeBack wsX1_takeBack ({ frames := 1, cells := 0, slots := 0, locals := 22 }) (va_Pc [.ref (ax 0), .int (nI k), .int (nI 1)] (jW (dC, dI) (jTY cI cJ cZ cO) (jFW cI cJ cO ax ao n mo iv aa an kp py))) (va_Qi (fun r (_ : Unit) => r = nI (an 9)) (fun _ t => va_P (dC, dI) vwCl (jFW cI cJ cO ax ao n mo iv aa (upN an 9 240) kp py) t.heap) (jA (jFW cI cJ cO ax ao n mo iv aa an kp py))) 0 0 (jA (jFW cI cJ cO ax ao n mo iv aa an kp py)) := by
  refine j_of (cc := cX1_takeBack) (maxL := 5) (ret := (some .int)) (by decide) rfl (Nat.le_of_ble_eq_true rfl) ?_
  intro p e s m below meth c ls hx hb hr hml hts hown hlocks hnm hl hpre
  have hown : s.vm.findClass RX1 = some m.cls := hown
  have hl : lv_has ls 5 [(0, .ref (ax 0)), (1, .int (nI k)), (2, .int (nI 1))] := hl
  obtain ⟨v0, v1, v2, v3, v4, v5, v6, v7, v8, v9⟩ := id hv
  obtain ⟨hP, hK, hD0⟩ := hpre
  have hD := hD0.jA
  generalize hAe : jA (jFW cI cJ cO ax ao n mo iv aa an kp py) = A at hD ⊢
  have hS : va_S A s.heap s.heap [] := va_S.rf
  refine lv_aload_n hx hb dX1_takeBack_0 rfl (lv_at hl 0 rfl) ?_
  refine lv_iload_n hx hb dX1_takeBack_1 rfl (lv_at hl 1 rfl) ?_
  refine j_cR_ (As := [.int (nI k)]) (rest := []) ⟨hx, hb, hml, hown, hts⟩ (c_X1_find l dC dI cI cJ cZ cO ax ao n mo k (aa 0) hk hao) (cwV 1 hts gX1_takeBack_X1_find rfl rfl rfl (by decide +kernel) ⟨Nat.le_of_ble_eq_true rfl, Nat.le_of_ble_eq_true rfl⟩) (jR_V hK hP [0, 1] rfl (ci := 1) (q0 := 0) rfl rfl rfl) rfl hl rfl (Nat.le_of_ble_eq_true rfl) dX1_takeBack_2 ⟨Nat.le_of_ble_eq_true rfl, Nat.le_of_ble_eq_true rfl⟩ ?_
  refine lv_astore_n (lv' := [(3, .ref (aa 0)), (0, .ref (ax 0)), (1, .int (nI k)), (2, .int (nI 1))]) hx hb dX1_takeBack_5 rfl hl (by decide) rfl (fun ls hl => ?_)
  refine lv_iload_n hx hb dX1_takeBack_6 rfl (lv_at hl 3 rfl) ?_
  refine lv_iconst (v := nI 0) hx hb dX1_takeBack_7 (by decide) ?_
  refine lv_iconst (v := nI 1) hx hb dX1_takeBack_8 (by decide) ?_
  refine j_sV (As := [.int (nI 1), .int (nI 0), .int (nI 1)]) (rest := []) ⟨hx, hb, hml, hown, hts⟩ (c_X1_requireRange l dC dI (nI 1) (nI 0) (nI 1) (nI_nlt (by omega) (by omega)) (nI_nlt (by omega) (by omega))) (cwS 3 hts gX1_takeBack_X1_requireRange rfl rfl rfl (by decide +kernel) ⟨Nat.le_of_ble_eq_true rfl, Nat.le_of_ble_eq_true rfl⟩) rfl hl rfl (Nat.le_of_ble_eq_true rfl) dX1_takeBack_9 ⟨Nat.le_of_ble_eq_true rfl, Nat.le_of_ble_eq_true rfl⟩ ?_
  refine lv_aload_n hx hb dX1_takeBack_12 rfl (lv_at hl 0 rfl) ?_
  refine va_get (D := (dC, dI)) (ci := 0) (v := .ref (aa 1)) (C := RX0) (T := TX0) (N := 13) hx hb hts (fun _ h => List.mem_cons_of_mem _ (List.mem_append_left _ (List.mem_append_left _ (List.mem_append_left _ (List.mem_append_left _ (List.mem_append_right _ h)))))) hown hK hP 3 rfl rfl 8 (by decide) (hts (.fieldLink RX1 75 "JointAnnuity$Annuity" "deaths" "[I") (List.mem_of_getElem? (i := 3) rfl)) (fun _ h9 => h9) rfl dX1_takeBack_13 ?_
  refine lv_iload_n hx hb dX1_takeBack_16 rfl (lv_at hl 3 rfl) ?_
  refine va_iald hx hb hK hP 4 0 (f := fun j => nI (if j = 0 then an 8 else an 9)) rfl rfl (vp_in_nI (n := 1) (N := 2) (by omega) (by omega)) dX1_takeBack_17 ?_
  refine j_i (y := nI (an 9)) (jd1 _ _) ?_
  refine lv_istore (lv' := [(4, .int (nI (an 9))), (3, .ref (aa 0)), (0, .ref (ax 0)), (1, .int (nI k)), (2, .int (nI 1))]) hx hb dX1_takeBack_18 hl (by decide) rfl (fun ls hl => ?_)
  refine lv_iload hx hb dX1_takeBack_20 (lv_at hl 0 rfl) ?_
  refine lv_sipush (v := nI 240) hx hb dX1_takeBack_22 (by decide) ?_
  refine lv_icmp_ne (tgt := 38) hx hb dX1_takeBack_25 (by decide) (fun c_25 => ?_) (fun c_25 => ?_)
  · have c_25 : ¬ (an 9 = 240) := fun h => c_25 ((nI_eq (a := an 9) (b := 240) (by omega) (by omega)).mpr h)
    refine lv_aload_n hx hb dX1_takeBack_38 rfl (lv_at hl 1 rfl) ?_
    refine va_get (D := (dC, dI)) (ci := 0) (v := .ref (aa 1)) (C := RX0) (T := TX0) (N := 13) hx hb hts (fun _ h => List.mem_cons_of_mem _ (List.mem_append_left _ (List.mem_append_left _ (List.mem_append_left _ (List.mem_append_left _ (List.mem_append_right _ h)))))) hown hK hP 3 rfl rfl 8 (by decide) (hts (.fieldLink RX1 75 "JointAnnuity$Annuity" "deaths" "[I") (List.mem_of_getElem? (i := 3) rfl)) (fun _ h9 => h9) rfl dX1_takeBack_39 ?_
    refine lv_iload_n hx hb dX1_takeBack_42 rfl (lv_at hl 4 rfl) ?_
    refine lv_sipush (v := nI 240) hx hb dX1_takeBack_43 (by decide) ?_
    refine va_iast hx hb hK hP hD hS 4 0 (f := fun j => nI (if j = 0 then an 8 else an 9)) (x := nI 240) rfl rfl (vp_in_nI (n := 1) (N := 2) (by omega) (by omega)) dX1_takeBack_46 (fun H locs hP hD hS => ?_)
    rw [nI_clamp (show 1 < 2 ^ 31 by omega)] at hP hD
    have hP : va_P (dC, dI) vwCl [((ax 0), .inr (1, [.ref (ax 1), .ref (ax 2), .int (nI n), .int (nI mo)])), ((ax 1), .inl (cO, 20, .inr (.inr (.inr (.inr (ao)))))), ((ax 2), .inl (cI, 20, .inl (iv))), ((aa 0), .inr (0, [.int (nI (an 0)), .int (nI (an 1)), .int (nI (an 0 + an 2)), .int (nI (an 3)), .int (nI (an 4)), .int (nI (an 5)), .int (nI (an 6)), .int (nI (an 7)), .ref (aa 1), .ref (aa 2), .ref (aa 3), .ref (aa 4), .long (kp)])), ((aa 1), .inl (cI, 2, .inl (upd (fun j => nI (if j = 0 then an 8 else an 9)) 1 (nI 240)))), ((aa 2), .inl (cI, 20, .inl (fun j => nI (jF an iv j)))), ((aa 3), .inl (cI, 20, .inl (fun j => jC an iv j))), ((aa 4), .inl (cJ, 240, .inr (.inl (py))))] H := hP
    have hD : va_D A [((ax 0), .inr (1, [.ref (ax 1), .ref (ax 2), .int (nI n), .int (nI mo)])), ((ax 1), .inl (cO, 20, .inr (.inr (.inr (.inr (ao)))))), ((ax 2), .inl (cI, 20, .inl (iv))), ((aa 0), .inr (0, [.int (nI (an 0)), .int (nI (an 1)), .int (nI (an 0 + an 2)), .int (nI (an 3)), .int (nI (an 4)), .int (nI (an 5)), .int (nI (an 6)), .int (nI (an 7)), .ref (aa 1), .ref (aa 2), .ref (aa 3), .ref (aa 4), .long (kp)])), ((aa 1), .inl (cI, 2, .inl (upd (fun j => nI (if j = 0 then an 8 else an 9)) 1 (nI 240)))), ((aa 2), .inl (cI, 20, .inl (fun j => nI (jF an iv j)))), ((aa 3), .inl (cI, 20, .inl (fun j => jC an iv j))), ((aa 4), .inl (cJ, 240, .inr (.inl (py))))] := hD
    refine lv_iload hx hb dX1_takeBack_47 (lv_at hl 0 rfl) ?_
    have hP := j_same (wn := jFW cI cJ cO ax ao n mo iv aa (upN an 9 240) kp py) hP rfl (fun k hk => match k, hk with
      | 0, _ => Or.inl rfl
      | 1, _ => Or.inl rfl
      | 2, _ => Or.inl rfl
      | 3, _ => Or.inl rfl
      | 4, _ => Or.inr ⟨_, _, _, rfl, rfl, j_cI (fun j hj => match j, hj with
        | 0, _ => rfl
        | 1, _ => rfl
        | _ + 2, h => absurd h (Nat.not_lt.mpr (Nat.le_add_left _ _)))⟩
      | 5, _ => Or.inl rfl
      | 6, _ => Or.inl rfl
      | 7, _ => Or.inl rfl
      | _ + 8, h => absurd h (Nat.not_lt.mpr (Nat.le_add_left _ _)))
    have hP : va_P (dC, dI) vwCl (jFW cI cJ cO ax ao n mo iv aa (upN an 9 240) kp py) H := hP
    exact W.iret (v := nI (an 9)) hx hb hr (fun t ht hW => ⟨⟨_, (), rfl, rfl, j_h ht hP⟩, hS.F ht⟩) hS.2.2 dX1_takeBack_49
  · have c_25 : an 9 = 240 := (nI_eq (a := an 9) (b := 240) (by omega) (by omega)).mp c_25
    omega
set_option maxHeartbeats 4000000 in
set_option maxRecDepth 100000 in
/-- some is given back -/
theorem c_X1_giveBack (l : Launch) (dC : Nat → ClassId) (dI : Nat → Nat → Nat) (cI cJ cZ cO : ClassId) (ax : Nat → Nat) (ao : Nat → Option Nat) (n mo : Nat) (iv : Nat → Int32) (aa an : Nat → Nat) (kp : Int64) (py : Nat → Int64) (k : Nat) (v : Nat) (hv : jV an) (hm : mo ≤ 240) (hk : k < 20) (hao : ao k = some (aa 0)) (h1 : 1 ≤ v) (h2 : v ≤ 100000000) (ho : ¬ jmx (kp - lN (jU an iv mo)) < lN v) : Met l yX1_giveBack wsX1_giveBack ({ frames := 6, cells := 0, slots := 0, locals := 137 }) (va_Pc [.ref (ax 0), .int (nI k), .int (nI v)] (jW (dC, dI) (jTY cI cJ cZ cO) (jFW cI cJ cO ax ao n mo iv aa an kp py))) (va_Ql (fun r (_ : Unit) => r = jmx (kp - lN (jU an iv mo)) - lN v) (fun _ t => va_P (dC, dI) vwCl (jFW cI cJ cO ax ao n mo iv aa an (kp - lN v) py) t.heap) (jA (jFW cI cJ cO ax ao n mo iv aa an kp py))) 0 0 (jA (jFW cI cJ cO ax ao n mo iv aa an kp py)) := by
  refine j_of (cc := cX1_giveBack) (maxL := 6) (ret := (some .long)) (by decide) rfl (Nat.le_of_ble_eq_true rfl) ?_
  intro p e s m below meth c ls hx hb hr hml hts hown hlocks hnm hl hpre
  have hown : s.vm.findClass RX1 = some m.cls := hown
  have hl : lv_has ls 6 [(0, .ref (ax 0)), (1, .int (nI k)), (2, .int (nI v))] := hl
  obtain ⟨v0, v1, v2, v3, v4, v5, v6, v7, v8, v9⟩ := id hv
  obtain ⟨hP, hK, hD0⟩ := hpre
  have hD := hD0.jA
  generalize hAe : jA (jFW cI cJ cO ax ao n mo iv aa an kp py) = A at hD ⊢
  have hS : va_S A s.heap s.heap [] := va_S.rf
  refine lv_aload_n hx hb dX1_giveBack_0 rfl (lv_at hl 0 rfl) ?_
  refine lv_iload_n hx hb dX1_giveBack_1 rfl (lv_at hl 1 rfl) ?_
  refine j_cR_ (As := [.int (nI k)]) (rest := []) ⟨hx, hb, hml, hown, hts⟩ (c_X1_find l dC dI cI cJ cZ cO ax ao n mo k (aa 0) hk hao) (cwV 1 hts gX1_giveBack_X1_find rfl rfl rfl (by decide +kernel) ⟨Nat.le_of_ble_eq_true rfl, Nat.le_of_ble_eq_true rfl⟩) (jR_V hK hP [0, 1] rfl (ci := 1) (q0 := 0) rfl rfl rfl) rfl hl rfl (Nat.le_of_ble_eq_true rfl) dX1_giveBack_2 ⟨Nat.le_of_ble_eq_true rfl, Nat.le_of_ble_eq_true rfl⟩ ?_
  refine lv_astore_n (lv' := [(3, .ref (aa 0)), (0, .ref (ax 0)), (1, .int (nI k)), (2, .int (nI v))]) hx hb dX1_giveBack_5 rfl hl (by decide) rfl (fun ls hl => ?_)
  refine lv_iload_n hx hb dX1_giveBack_6 rfl (lv_at hl 3 rfl) ?_
  refine lv_iconst (v := nI 1) hx hb dX1_giveBack_7 (by decide) ?_
  refine lv_ldc hx hb hown (hts (.constant RX1 88 (100000000)) (List.mem_of_getElem? (i := 3) rfl)) dX1_giveBack_8 ?_
  refine j_i (y := nI 100000000) (by decide +kernel) ?_
  refine j_sV (As := [.int (nI v), .int (nI 1), .int (nI 100000000)]) (rest := []) ⟨hx, hb, hml, hown, hts⟩ (c_X1_requireRange l dC dI (nI v) (nI 1) (nI 100000000) (nI_nlt (by omega) (by omega)) (nI_nlt (by omega) (by omega))) (cwS 3 hts gX1_giveBack_X1_requireRange rfl rfl rfl (by decide +kernel) ⟨Nat.le_of_ble_eq_true rfl, Nat.le_of_ble_eq_true rfl⟩) rfl hl rfl (Nat.le_of_ble_eq_true rfl) dX1_giveBack_10 ⟨Nat.le_of_ble_eq_true rfl, Nat.le_of_ble_eq_true rfl⟩ ?_
  refine lv_aload_n hx hb dX1_giveBack_13 rfl (lv_at hl 0 rfl) ?_
  refine lv_aload_n hx hb dX1_giveBack_14 rfl (lv_at hl 1 rfl) ?_
  refine va_get (D := (dC, dI)) (ci := 1) (v := .int (nI mo)) (C := RX1) (T := TX1) (N := 4) hx hb hts (fun _ h => List.mem_cons_of_mem _ (List.mem_append_left _ (List.mem_append_left _ (List.mem_append_left _ (List.mem_append_left _ (List.mem_append_right _ h)))))) hown hK hP 0 rfl rfl 3 (by decide) (hts (.fieldLink RX1 23 "JointAnnuity" "monthThatGoesOn" "I") (List.mem_of_getElem? (i := 4) rfl)) (fun _ h9 => h9) rfl dX1_giveBack_15 ?_
  refine j_cL_ (As := [.int (nI mo)]) (rest := []) ⟨hx, hb, hml, hown, hts⟩ (c_X0_debtAhead l dC dI cI cJ cZ cO aa an iv kp py mo hv hm) (cwV 1 hts gX1_giveBack_X0_debtAhead rfl rfl rfl (by decide +kernel) ⟨Nat.le_of_ble_eq_true rfl, Nat.le_of_ble_eq_true rfl⟩) (jR_V hK hP [3, 4, 5, 6, 7] rfl (ci := 0) (q0 := 3) rfl rfl rfl) rfl hl rfl (Nat.le_of_ble_eq_true rfl) dX1_giveBack_18 ⟨Nat.le_of_ble_eq_true rfl, Nat.le_of_ble_eq_true rfl⟩ (fun r_18 hr_18 => ?_)
  subst hr_18
  refine lv_lstore (lv' := [(4, .long (jmx (kp - lN (jU an iv mo)))), (3, .ref (aa 0)), (0, .ref (ax 0)), (1, .int (nI k)), (2, .int (nI v))]) hx hb dX1_giveBack_21 hl (by decide) rfl (fun ls hl => ?_)
  refine lv_lload hx hb dX1_giveBack_23 (lv_at hl 0 rfl) ?_
  refine lv_iload_n hx hb dX1_giveBack_25 rfl (lv_at hl 4 rfl) ?_
  refine lv_i2l (v := lN v) hx hb dX1_giveBack_26 (nI_l (by omega)) ?_
  refine W.lcmp hx hb dX1_giveBack_27 ?_
  refine lv_if_ge (tgt := 41) hx hb dX1_giveBack_28 (by decide) (fun c_28 => ?_) (fun c_28 => ?_)
  · refine lv_aload_n hx hb dX1_giveBack_41 rfl (lv_at hl 1 rfl) ?_
    refine lv_dup hx hb dX1_giveBack_42 rfl ?_
    refine va_get (D := (dC, dI)) (ci := 0) (v := .long (kp)) (C := RX0) (T := TX0) (N := 13) hx hb hts (fun _ h => List.mem_cons_of_mem _ (List.mem_append_left _ (List.mem_append_left _ (List.mem_append_left _ (List.mem_append_right _ h))))) hown hK hP 3 rfl rfl 12 (by decide) (hts (.fieldLink RX1 94 "JointAnnuity$Annuity" "keptInAll" "J") (List.mem_of_getElem? (i := 5) rfl)) (fun _ h9 => h9) rfl dX1_giveBack_43 ?_
    refine lv_iload_n hx hb dX1_giveBack_46 rfl (lv_at hl 4 rfl) ?_
    refine lv_i2l (v := lN v) hx hb dX1_giveBack_47 (nI_l (by omega)) ?_
    refine lv_lsub hx hb dX1_giveBack_48 ?_
    refine va_put (D := (dC, dI)) (ci := 0) (v := .long (kp - (lN v))) (ty := .long) (C := RX0) (T := TX0) (N := 13) hx hb hts (fun _ h => List.mem_cons_of_mem _ (List.mem_append_left _ (List.mem_append_left _ (List.mem_append_left _ (List.mem_append_right _ h))))) tyX0 tyX0_ok nmX0 hown hK hP hD hS 3 rfl rfl 12 (by decide) (hts (.fieldLink RX1 94 "JointAnnuity$Annuity" "keptInAll" "J") (List.mem_of_getElem? (i := 5) rfl)) (fun _ h9 => h9) rfl (by decide +kernel) rfl rfl (Nat.le_of_ble_eq_true rfl) dX1_giveBack_49 (fun H locs hP hD hS => ?_)
    have hP : va_P (dC, dI) vwCl [((ax 0), .inr (1, [.ref (ax 1), .ref (ax 2), .int (nI n), .int (nI mo)])), ((ax 1), .inl (cO, 20, .inr (.inr (.inr (.inr (ao)))))), ((ax 2), .inl (cI, 20, .inl (iv))), ((aa 0), .inr (0, [.int (nI (an 0)), .int (nI (an 1)), .int (nI (an 0 + an 2)), .int (nI (an 3)), .int (nI (an 4)), .int (nI (an 5)), .int (nI (an 6)), .int (nI (an 7)), .ref (aa 1), .ref (aa 2), .ref (aa 3), .ref (aa 4), .long (kp - (lN v))])), ((aa 1), .inl (cI, 2, .inl (fun j => nI (if j = 0 then an 8 else an 9)))), ((aa 2), .inl (cI, 20, .inl (fun j => nI (jF an iv j)))), ((aa 3), .inl (cI, 20, .inl (fun j => jC an iv j))), ((aa 4), .inl (cJ, 240, .inr (.inl (py))))] H := hP
    have hD : va_D A [((ax 0), .inr (1, [.ref (ax 1), .ref (ax 2), .int (nI n), .int (nI mo)])), ((ax 1), .inl (cO, 20, .inr (.inr (.inr (.inr (ao)))))), ((ax 2), .inl (cI, 20, .inl (iv))), ((aa 0), .inr (0, [.int (nI (an 0)), .int (nI (an 1)), .int (nI (an 0 + an 2)), .int (nI (an 3)), .int (nI (an 4)), .int (nI (an 5)), .int (nI (an 6)), .int (nI (an 7)), .ref (aa 1), .ref (aa 2), .ref (aa 3), .ref (aa 4), .long (kp - (lN v))])), ((aa 1), .inl (cI, 2, .inl (fun j => nI (if j = 0 then an 8 else an 9)))), ((aa 2), .inl (cI, 20, .inl (fun j => nI (jF an iv j)))), ((aa 3), .inl (cI, 20, .inl (fun j => jC an iv j))), ((aa 4), .inl (cJ, 240, .inr (.inl (py))))] := hD
    refine lv_lload hx hb dX1_giveBack_52 (lv_at hl 0 rfl) ?_
    refine lv_iload_n hx hb dX1_giveBack_54 rfl (lv_at hl 4 rfl) ?_
    refine lv_i2l (v := lN v) hx hb dX1_giveBack_55 (nI_l (by omega)) ?_
    refine lv_lsub hx hb dX1_giveBack_56 ?_
    have hP : va_P (dC, dI) vwCl (jFW cI cJ cO ax ao n mo iv aa an (kp - lN v) py) H := hP
    exact W.lret (v := (jmx (kp - lN (jU an iv mo))) - (lN v)) hx hb hr (fun t ht hW => ⟨⟨_, (), rfl, rfl, j_h ht hP⟩, hS.F ht⟩) hS.2.2 dX1_giveBack_57
  · exact (c_28 ((lg_cmp_ge _ _).mpr (Int64.not_lt.mp ho))).elim
set_option maxHeartbeats 4000000 in
set_option maxRecDepth 100000 in
/-- no such annuity -/
theorem x1_X1_setSurvivor (l : Launch) (dC : Nat → ClassId) (dI : Nat → Nat → Nat) (cI cJ cZ cO : ClassId) (ax : Nat → Nat) (ao : Nat → Option Nat) (n mo : Nat) (p0 p1 p2 : Int32) (hst : l.stackTraces = false) (hn : n ≤ 20) (hao : ∀ j, n ≤ j → ao j = none) (hb0 : ¬ vp_in p0 n) : vx_Met l yX1_setSurvivor wsX1_setSurvivor ({ frames := 7, cells := 1, slots := 6, locals := 104 }) (va_Pc [.ref (ax 0), .int p0, .int p1, .int p2] (jRX (dC, dI) (jTY cI cJ cZ cO) ([jXo ax n mo, jXa cO ax ao]))) (jFQ) (jXC eO) 1 6 (fun _ => False) := by
  refine j_ofx (cc := cX1_setSurvivor) (maxL := 5) (ret := none) (by decide) rfl (Nat.le_of_ble_eq_true rfl) ?_
  intro p e s m below meth c ls hx hb hr hml hts hown hlocks htab hl hpre
  have hown : s.vm.findClass RX1 = some m.cls := hown
  have hl : lv_has ls 5 [(0, .ref (ax 0)), (1, .int p0), (2, .int p1), (3, .int p2)] := hl
  obtain ⟨⟨hP, hK⟩, hX⟩ := hpre
  refine lv_aload_n hx hb dX1_setSurvivor_0 rfl (lv_at hl 0 rfl) ?_
  refine lv_iload_n hx hb dX1_setSurvivor_1 rfl (lv_at hl 1 rfl) ?_
  exact j_bxV (As := [.int p0]) (rest := []) ⟨hx, hb, hml, hown, hts⟩ (x_X1_find l dC dI cI cJ cZ cO ax ao n mo p0 hst hn hao hb0) (cwV 1 hts gX1_setSurvivor_X1_find rfl rfl rfl (by decide +kernel) ⟨Nat.le_of_ble_eq_true rfl, Nat.le_of_ble_eq_true rfl⟩) (jRX_V hX hK hP [0, 1] rfl (ci := 1) (q0 := 0) rfl rfl rfl) rfl hl rfl (Nat.le_of_ble_eq_true rfl) dX1_setSurvivor_2 ⟨Nat.le_of_ble_eq_true rfl, Nat.le_of_ble_eq_true rfl⟩ htab hlocks
set_option maxHeartbeats 4000000 in
set_option maxRecDepth 100000 in
/-- no such annuity -/
theorem x1_X1_setCap (l : Launch) (dC : Nat → ClassId) (dI : Nat → Nat → Nat) (cI cJ cZ cO : ClassId) (ax : Nat → Nat) (ao : Nat → Option Nat) (n mo : Nat) (p0 p1 : Int32) (hst : l.stackTraces = false) (hn : n ≤ 20) (hao : ∀ j, n ≤ j → ao j = none) (hb0 : ¬ vp_in p0 n) : vx_Met l yX1_setCap wsX1_setCap ({ frames := 7, cells := 1, slots := 6, locals := 104 }) (va_Pc [.ref (ax 0), .int p0, .int p1] (jRX (dC, dI) (jTY cI cJ cZ cO) ([jXo ax n mo, jXa cO ax ao]))) (jFQ) (jXC eO) 1 6 (fun _ => False) := by
  refine j_ofx (cc := cX1_setCap) (maxL := 4) (ret := none) (by decide) rfl (Nat.le_of_ble_eq_true rfl) ?_
  intro p e s m below meth c ls hx hb hr hml hts hown hlocks htab hl hpre
  have hown : s.vm.findClass RX1 = some m.cls := hown
  have hl : lv_has ls 4 [(0, .ref (ax 0)), (1, .int p0), (2, .int p1)] := hl
  obtain ⟨⟨hP, hK⟩, hX⟩ := hpre
  refine lv_aload_n hx hb dX1_setCap_0 rfl (lv_at hl 0 rfl) ?_
  refine lv_iload_n hx hb dX1_setCap_1 rfl (lv_at hl 1 rfl) ?_
  exact j_bxV (As := [.int p0]) (rest := []) ⟨hx, hb, hml, hown, hts⟩ (x_X1_find l dC dI cI cJ cZ cO ax ao n mo p0 hst hn hao hb0) (cwV 1 hts gX1_setCap_X1_find rfl rfl rfl (by decide +kernel) ⟨Nat.le_of_ble_eq_true rfl, Nat.le_of_ble_eq_true rfl⟩) (jRX_V hX hK hP [0, 1] rfl (ci := 1) (q0 := 0) rfl rfl rfl) rfl hl rfl (Nat.le_of_ble_eq_true rfl) dX1_setCap_2 ⟨Nat.le_of_ble_eq_true rfl, Nat.le_of_ble_eq_true rfl⟩ htab hlocks
set_option maxHeartbeats 4000000 in
set_option maxRecDepth 100000 in
/-- no such annuity -/
theorem x1_X1_protect (l : Launch) (dC : Nat → ClassId) (dI : Nat → Nat → Nat) (cI cJ cZ cO : ClassId) (ax : Nat → Nat) (ao : Nat → Option Nat) (n mo : Nat) (p0 p1 p2 : Int32) (hst : l.stackTraces = false) (hn : n ≤ 20) (hao : ∀ j, n ≤ j → ao j = none) (hb0 : ¬ vp_in p0 n) : vx_Met l yX1_protect wsX1_protect ({ frames := 7, cells := 1, slots := 6, locals := 104 }) (va_Pc [.ref (ax 0), .int p0, .int p1, .int p2] (jRX (dC, dI) (jTY cI cJ cZ cO) ([jXo ax n mo, jXa cO ax ao]))) (jFQ) (jXC eO) 1 6 (fun _ => False) := by
  refine j_ofx (cc := cX1_protect) (maxL := 5) (ret := none) (by decide) rfl (Nat.le_of_ble_eq_true rfl) ?_
  intro p e s m below meth c ls hx hb hr hml hts hown hlocks htab hl hpre
  have hown : s.vm.findClass RX1 = some m.cls := hown
  have hl : lv_has ls 5 [(0, .ref (ax 0)), (1, .int p0), (2, .int p1), (3, .int p2)] := hl
  obtain ⟨⟨hP, hK⟩, hX⟩ := hpre
  refine lv_aload_n hx hb dX1_protect_0 rfl (lv_at hl 0 rfl) ?_
  refine lv_iload_n hx hb dX1_protect_1 rfl (lv_at hl 1 rfl) ?_
  exact j_bxV (As := [.int p0]) (rest := []) ⟨hx, hb, hml, hown, hts⟩ (x_X1_find l dC dI cI cJ cZ cO ax ao n mo p0 hst hn hao hb0) (cwV 1 hts gX1_protect_X1_find rfl rfl rfl (by decide +kernel) ⟨Nat.le_of_ble_eq_true rfl, Nat.le_of_ble_eq_true rfl⟩) (jRX_V hX hK hP [0, 1] rfl (ci := 1) (q0 := 0) rfl rfl rfl) rfl hl rfl (Nat.le_of_ble_eq_true rfl) dX1_protect_2 ⟨Nat.le_of_ble_eq_true rfl, Nat.le_of_ble_eq_true rfl⟩ htab hlocks
set_option maxHeartbeats 4000000 in
set_option maxRecDepth 100000 in
/-- no such annuity -/
theorem x1_X1_die (l : Launch) (dC : Nat → ClassId) (dI : Nat → Nat → Nat) (cI cJ cZ cO : ClassId) (ax : Nat → Nat) (ao : Nat → Option Nat) (n mo : Nat) (p0 p1 p2 : Int32) (hst : l.stackTraces = false) (hn : n ≤ 20) (hao : ∀ j, n ≤ j → ao j = none) (hb0 : ¬ vp_in p0 n) : vx_Met l yX1_die wsX1_die ({ frames := 7, cells := 1, slots := 6, locals := 104 }) (va_Pc [.ref (ax 0), .int p0, .int p1, .int p2] (jRX (dC, dI) (jTY cI cJ cZ cO) ([jXo ax n mo, jXa cO ax ao]))) (jFQ) (jXC eO) 1 6 (fun _ => False) := by
  refine j_ofx (cc := cX1_die) (maxL := 5) (ret := none) (by decide) rfl (Nat.le_of_ble_eq_true rfl) ?_
  intro p e s m below meth c ls hx hb hr hml hts hown hlocks htab hl hpre
  have hown : s.vm.findClass RX1 = some m.cls := hown
  have hl : lv_has ls 5 [(0, .ref (ax 0)), (1, .int p0), (2, .int p1), (3, .int p2)] := hl
  obtain ⟨⟨hP, hK⟩, hX⟩ := hpre
  refine lv_aload_n hx hb dX1_die_0 rfl (lv_at hl 0 rfl) ?_
  refine lv_iload_n hx hb dX1_die_1 rfl (lv_at hl 1 rfl) ?_
  exact j_bxV (As := [.int p0]) (rest := []) ⟨hx, hb, hml, hown, hts⟩ (x_X1_find l dC dI cI cJ cZ cO ax ao n mo p0 hst hn hao hb0) (cwV 1 hts gX1_die_X1_find rfl rfl rfl (by decide +kernel) ⟨Nat.le_of_ble_eq_true rfl, Nat.le_of_ble_eq_true rfl⟩) (jRX_V hX hK hP [0, 1] rfl (ci := 1) (q0 := 0) rfl rfl rfl) rfl hl rfl (Nat.le_of_ble_eq_true rfl) dX1_die_2 ⟨Nat.le_of_ble_eq_true rfl, Nat.le_of_ble_eq_true rfl⟩ htab hlocks
set_option maxHeartbeats 4000000 in
set_option maxRecDepth 100000 in
/-- no such annuity -/
theorem x1_X1_takeBack (l : Launch) (dC : Nat → ClassId) (dI : Nat → Nat → Nat) (cI cJ cZ cO : ClassId) (ax : Nat → Nat) (ao : Nat → Option Nat) (n mo : Nat) (p0 p1 : Int32) (hst : l.stackTraces = false) (hn : n ≤ 20) (hao : ∀ j, n ≤ j → ao j = none) (hb0 : ¬ vp_in p0 n) : vx_Met l yX1_takeBack wsX1_takeBack ({ frames := 7, cells := 1, slots := 6, locals := 104 }) (va_Pc [.ref (ax 0), .int p0, .int p1] (jRX (dC, dI) (jTY cI cJ cZ cO) ([jXo ax n mo, jXa cO ax ao]))) (jFQ) (jXC eO) 1 6 (fun _ => False) := by
  refine j_ofx (cc := cX1_takeBack) (maxL := 5) (ret := (some .int)) (by decide) rfl (Nat.le_of_ble_eq_true rfl) ?_
  intro p e s m below meth c ls hx hb hr hml hts hown hlocks htab hl hpre
  have hown : s.vm.findClass RX1 = some m.cls := hown
  have hl : lv_has ls 5 [(0, .ref (ax 0)), (1, .int p0), (2, .int p1)] := hl
  obtain ⟨⟨hP, hK⟩, hX⟩ := hpre
  refine lv_aload_n hx hb dX1_takeBack_0 rfl (lv_at hl 0 rfl) ?_
  refine lv_iload_n hx hb dX1_takeBack_1 rfl (lv_at hl 1 rfl) ?_
  exact j_bxV (As := [.int p0]) (rest := []) ⟨hx, hb, hml, hown, hts⟩ (x_X1_find l dC dI cI cJ cZ cO ax ao n mo p0 hst hn hao hb0) (cwV 1 hts gX1_takeBack_X1_find rfl rfl rfl (by decide +kernel) ⟨Nat.le_of_ble_eq_true rfl, Nat.le_of_ble_eq_true rfl⟩) (jRX_V hX hK hP [0, 1] rfl (ci := 1) (q0 := 0) rfl rfl rfl) rfl hl rfl (Nat.le_of_ble_eq_true rfl) dX1_takeBack_2 ⟨Nat.le_of_ble_eq_true rfl, Nat.le_of_ble_eq_true rfl⟩ htab hlocks
set_option maxHeartbeats 4000000 in
set_option maxRecDepth 100000 in
/-- no such annuity -/
theorem x1_X1_giveBack (l : Launch) (dC : Nat → ClassId) (dI : Nat → Nat → Nat) (cI cJ cZ cO : ClassId) (ax : Nat → Nat) (ao : Nat → Option Nat) (n mo : Nat) (p0 p1 : Int32) (hst : l.stackTraces = false) (hn : n ≤ 20) (hao : ∀ j, n ≤ j → ao j = none) (hb0 : ¬ vp_in p0 n) : vx_Met l yX1_giveBack wsX1_giveBack ({ frames := 7, cells := 1, slots := 6, locals := 104 }) (va_Pc [.ref (ax 0), .int p0, .int p1] (jRX (dC, dI) (jTY cI cJ cZ cO) ([jXo ax n mo, jXa cO ax ao]))) (jFQ) (jXC eO) 1 6 (fun _ => False) := by
  refine j_ofx (cc := cX1_giveBack) (maxL := 6) (ret := (some .long)) (by decide) rfl (Nat.le_of_ble_eq_true rfl) ?_
  intro p e s m below meth c ls hx hb hr hml hts hown hlocks htab hl hpre
  have hown : s.vm.findClass RX1 = some m.cls := hown
  have hl : lv_has ls 6 [(0, .ref (ax 0)), (1, .int p0), (2, .int p1)] := hl
  obtain ⟨⟨hP, hK⟩, hX⟩ := hpre
  refine lv_aload_n hx hb dX1_giveBack_0 rfl (lv_at hl 0 rfl) ?_
  refine lv_iload_n hx hb dX1_giveBack_1 rfl (lv_at hl 1 rfl) ?_
  exact j_bxV (As := [.int p0]) (rest := []) ⟨hx, hb, hml, hown, hts⟩ (x_X1_find l dC dI cI cJ cZ cO ax ao n mo p0 hst hn hao hb0) (cwV 1 hts gX1_giveBack_X1_find rfl rfl rfl (by decide +kernel) ⟨Nat.le_of_ble_eq_true rfl, Nat.le_of_ble_eq_true rfl⟩) (jRX_V hX hK hP [0, 1] rfl (ci := 1) (q0 := 0) rfl rfl rfl) rfl hl rfl (Nat.le_of_ble_eq_true rfl) dX1_giveBack_2 ⟨Nat.le_of_ble_eq_true rfl, Nat.le_of_ble_eq_true rfl⟩ htab hlocks
set_option maxHeartbeats 4000000 in
set_option maxRecDepth 100000 in
/-- no such annuity -/
theorem x1_X1_paid (l : Launch) (dC : Nat → ClassId) (dI : Nat → Nat → Nat) (cI cJ cZ cO : ClassId) (ax : Nat → Nat) (ao : Nat → Option Nat) (n mo : Nat) (p0 p1 : Int32) (hst : l.stackTraces = false) (hn : n ≤ 20) (hao : ∀ j, n ≤ j → ao j = none) (hb0 : ¬ vp_in p0 n) : vx_Met l yX1_paid wsX1_paid ({ frames := 7, cells := 1, slots := 6, locals := 104 }) (va_Pc [.ref (ax 0), .int p0, .int p1] (jRX (dC, dI) (jTY cI cJ cZ cO) ([jXo ax n mo, jXa cO ax ao]))) (jFQ) (jXC eO) 1 6 (fun _ => False) := by
  refine j_ofx (cc := cX1_paid) (maxL := 4) (ret := (some .long)) (by decide) rfl (Nat.le_of_ble_eq_true rfl) ?_
  intro p e s m below meth c ls hx hb hr hml hts hown hlocks htab hl hpre
  have hown : s.vm.findClass RX1 = some m.cls := hown
  have hl : lv_has ls 4 [(0, .ref (ax 0)), (1, .int p0), (2, .int p1)] := hl
  obtain ⟨⟨hP, hK⟩, hX⟩ := hpre
  refine lv_aload_n hx hb dX1_paid_0 rfl (lv_at hl 0 rfl) ?_
  refine lv_iload_n hx hb dX1_paid_1 rfl (lv_at hl 1 rfl) ?_
  exact j_bxV (As := [.int p0]) (rest := []) ⟨hx, hb, hml, hown, hts⟩ (x_X1_find l dC dI cI cJ cZ cO ax ao n mo p0 hst hn hao hb0) (cwV 1 hts gX1_paid_X1_find rfl rfl rfl (by decide +kernel) ⟨Nat.le_of_ble_eq_true rfl, Nat.le_of_ble_eq_true rfl⟩) (jRX_V hX hK hP [0, 1] rfl (ci := 1) (q0 := 0) rfl rfl rfl) rfl hl rfl (Nat.le_of_ble_eq_true rfl) dX1_paid_2 ⟨Nat.le_of_ble_eq_true rfl, Nat.le_of_ble_eq_true rfl⟩ htab hlocks
set_option maxHeartbeats 4000000 in
set_option maxRecDepth 100000 in
/-- no such annuity -/
theorem x1_X1_paidInAll (l : Launch) (dC : Nat → ClassId) (dI : Nat → Nat → Nat) (cI cJ cZ cO : ClassId) (ax : Nat → Nat) (ao : Nat → Option Nat) (n mo : Nat) (p0 : Int32) (hst : l.stackTraces = false) (hn : n ≤ 20) (hao : ∀ j, n ≤ j → ao j = none) (hb0 : ¬ vp_in p0 n) : vx_Met l yX1_paidInAll wsX1_paidInAll ({ frames := 7, cells := 1, slots := 6, locals := 104 }) (va_Pc [.ref (ax 0), .int p0] (jRX (dC, dI) (jTY cI cJ cZ cO) ([jXo ax n mo, jXa cO ax ao]))) (jFQ) (jXC eO) 1 6 (fun _ => False) := by
  refine j_ofx (cc := cX1_paidInAll) (maxL := 2) (ret := (some .long)) (by decide) rfl (Nat.le_of_ble_eq_true rfl) ?_
  intro p e s m below meth c ls hx hb hr hml hts hown hlocks htab hl hpre
  have hown : s.vm.findClass RX1 = some m.cls := hown
  have hl : lv_has ls 2 [(0, .ref (ax 0)), (1, .int p0)] := hl
  obtain ⟨⟨hP, hK⟩, hX⟩ := hpre
  refine lv_aload_n hx hb dX1_paidInAll_0 rfl (lv_at hl 0 rfl) ?_
  refine lv_iload_n hx hb dX1_paidInAll_1 rfl (lv_at hl 1 rfl) ?_
  exact j_bxV (As := [.int p0]) (rest := []) ⟨hx, hb, hml, hown, hts⟩ (x_X1_find l dC dI cI cJ cZ cO ax ao n mo p0 hst hn hao hb0) (cwV 1 hts gX1_paidInAll_X1_find rfl rfl rfl (by decide +kernel) ⟨Nat.le_of_ble_eq_true rfl, Nat.le_of_ble_eq_true rfl⟩) (jRX_V hX hK hP [0, 1] rfl (ci := 1) (q0 := 0) rfl rfl rfl) rfl hl rfl (Nat.le_of_ble_eq_true rfl) dX1_paidInAll_2 ⟨Nat.le_of_ble_eq_true rfl, Nat.le_of_ble_eq_true rfl⟩ htab hlocks
set_option maxHeartbeats 4000000 in
set_option maxRecDepth 100000 in
/-- no such annuity -/
theorem x1_X1_owes (l : Launch) (dC : Nat → ClassId) (dI : Nat → Nat → Nat) (cI cJ cZ cO : ClassId) (ax : Nat → Nat) (ao : Nat → Option Nat) (n mo : Nat) (p0 : Int32) (hst : l.stackTraces = false) (hn : n ≤ 20) (hao : ∀ j, n ≤ j → ao j = none) (hb0 : ¬ vp_in p0 n) : vx_Met l yX1_owes wsX1_owes ({ frames := 7, cells := 1, slots := 6, locals := 104 }) (va_Pc [.ref (ax 0), .int p0] (jRX (dC, dI) (jTY cI cJ cZ cO) ([jXo ax n mo, jXa cO ax ao]))) (jFQ) (jXC eO) 1 6 (fun _ => False) := by
  refine j_ofx (cc := cX1_owes) (maxL := 2) (ret := (some .long)) (by decide) rfl (Nat.le_of_ble_eq_true rfl) ?_
  intro p e s m below meth c ls hx hb hr hml hts hown hlocks htab hl hpre
  have hown : s.vm.findClass RX1 = some m.cls := hown
  have hl : lv_has ls 2 [(0, .ref (ax 0)), (1, .int p0)] := hl
  obtain ⟨⟨hP, hK⟩, hX⟩ := hpre
  refine lv_aload_n hx hb dX1_owes_0 rfl (lv_at hl 0 rfl) ?_
  refine lv_iload_n hx hb dX1_owes_1 rfl (lv_at hl 1 rfl) ?_
  exact j_bxV (As := [.int p0]) (rest := []) ⟨hx, hb, hml, hown, hts⟩ (x_X1_find l dC dI cI cJ cZ cO ax ao n mo p0 hst hn hao hb0) (cwV 1 hts gX1_owes_X1_find rfl rfl rfl (by decide +kernel) ⟨Nat.le_of_ble_eq_true rfl, Nat.le_of_ble_eq_true rfl⟩) (jRX_V hX hK hP [0, 1] rfl (ci := 1) (q0 := 0) rfl rfl rfl) rfl hl rfl (Nat.le_of_ble_eq_true rfl) dX1_owes_2 ⟨Nat.le_of_ble_eq_true rfl, Nat.le_of_ble_eq_true rfl⟩ htab hlocks
set_option maxHeartbeats 4000000 in
set_option maxRecDepth 100000 in
/-- no such annuity -/
theorem x1_X1_fullAmount (l : Launch) (dC : Nat → ClassId) (dI : Nat → Nat → Nat) (cI cJ cZ cO : ClassId) (ax : Nat → Nat) (ao : Nat → Option Nat) (n mo : Nat) (p0 p1 : Int32) (hst : l.stackTraces = false) (hn : n ≤ 20) (hao : ∀ j, n ≤ j → ao j = none) (hb0 : ¬ vp_in p0 n) : vx_Met l yX1_fullAmount wsX1_fullAmount ({ frames := 7, cells := 1, slots := 6, locals := 104 }) (va_Pc [.ref (ax 0), .int p0, .int p1] (jRX (dC, dI) (jTY cI cJ cZ cO) ([jXo ax n mo, jXa cO ax ao]))) (jFQ) (jXC eO) 1 6 (fun _ => False) := by
  refine j_ofx (cc := cX1_fullAmount) (maxL := 4) (ret := (some .int)) (by decide) rfl (Nat.le_of_ble_eq_true rfl) ?_
  intro p e s m below meth c ls hx hb hr hml hts hown hlocks htab hl hpre
  have hown : s.vm.findClass RX1 = some m.cls := hown
  have hl : lv_has ls 4 [(0, .ref (ax 0)), (1, .int p0), (2, .int p1)] := hl
  obtain ⟨⟨hP, hK⟩, hX⟩ := hpre
  refine lv_aload_n hx hb dX1_fullAmount_0 rfl (lv_at hl 0 rfl) ?_
  refine lv_iload_n hx hb dX1_fullAmount_1 rfl (lv_at hl 1 rfl) ?_
  exact j_bxV (As := [.int p0]) (rest := []) ⟨hx, hb, hml, hown, hts⟩ (x_X1_find l dC dI cI cJ cZ cO ax ao n mo p0 hst hn hao hb0) (cwV 1 hts gX1_fullAmount_X1_find rfl rfl rfl (by decide +kernel) ⟨Nat.le_of_ble_eq_true rfl, Nat.le_of_ble_eq_true rfl⟩) (jRX_V hX hK hP [0, 1] rfl (ci := 1) (q0 := 0) rfl rfl rfl) rfl hl rfl (Nat.le_of_ble_eq_true rfl) dX1_fullAmount_2 ⟨Nat.le_of_ble_eq_true rfl, Nat.le_of_ble_eq_true rfl⟩ htab hlocks
set_option maxHeartbeats 4000000 in
set_option maxRecDepth 100000 in
/-- no such annuity -/
theorem x1_X1_carry (l : Launch) (dC : Nat → ClassId) (dI : Nat → Nat → Nat) (cI cJ cZ cO : ClassId) (ax : Nat → Nat) (ao : Nat → Option Nat) (n mo : Nat) (p0 p1 : Int32) (hst : l.stackTraces = false) (hn : n ≤ 20) (hao : ∀ j, n ≤ j → ao j = none) (hb0 : ¬ vp_in p0 n) : vx_Met l yX1_carry wsX1_carry ({ frames := 7, cells := 1, slots := 6, locals := 104 }) (va_Pc [.ref (ax 0), .int p0, .int p1] (jRX (dC, dI) (jTY cI cJ cZ cO) ([jXo ax n mo, jXa cO ax ao]))) (jFQ) (jXC eO) 1 6 (fun _ => False) := by
  refine j_ofx (cc := cX1_carry) (maxL := 4) (ret := (some .int)) (by decide) rfl (Nat.le_of_ble_eq_true rfl) ?_
  intro p e s m below meth c ls hx hb hr hml hts hown hlocks htab hl hpre
  have hown : s.vm.findClass RX1 = some m.cls := hown
  have hl : lv_has ls 4 [(0, .ref (ax 0)), (1, .int p0), (2, .int p1)] := hl
  obtain ⟨⟨hP, hK⟩, hX⟩ := hpre
  refine lv_aload_n hx hb dX1_carry_0 rfl (lv_at hl 0 rfl) ?_
  refine lv_iload_n hx hb dX1_carry_1 rfl (lv_at hl 1 rfl) ?_
  exact j_bxV (As := [.int p0]) (rest := []) ⟨hx, hb, hml, hown, hts⟩ (x_X1_find l dC dI cI cJ cZ cO ax ao n mo p0 hst hn hao hb0) (cwV 1 hts gX1_carry_X1_find rfl rfl rfl (by decide +kernel) ⟨Nat.le_of_ble_eq_true rfl, Nat.le_of_ble_eq_true rfl⟩) (jRX_V hX hK hP [0, 1] rfl (ci := 1) (q0 := 0) rfl rfl rfl) rfl hl rfl (Nat.le_of_ble_eq_true rfl) dX1_carry_2 ⟨Nat.le_of_ble_eq_true rfl, Nat.le_of_ble_eq_true rfl⟩ htab hlocks
set_option maxHeartbeats 4000000 in
set_option maxRecDepth 100000 in
/-- no such annuity -/
theorem x1_X1_entitled (l : Launch) (dC : Nat → ClassId) (dI : Nat → Nat → Nat) (cI cJ cZ cO : ClassId) (ax : Nat → Nat) (ao : Nat → Option Nat) (n mo : Nat) (p0 p1 : Int32) (hst : l.stackTraces = false) (hn : n ≤ 20) (hao : ∀ j, n ≤ j → ao j = none) (hb0 : ¬ vp_in p0 n) : vx_Met l yX1_entitled wsX1_entitled ({ frames := 7, cells := 1, slots := 6, locals := 104 }) (va_Pc [.ref (ax 0), .int p0, .int p1] (jRX (dC, dI) (jTY cI cJ cZ cO) ([jXo ax n mo, jXa cO ax ao]))) (jFQ) (jXC eO) 1 6 (fun _ => False) := by
  refine j_ofx (cc := cX1_entitled) (maxL := 4) (ret := (some .long)) (by decide) rfl (Nat.le_of_ble_eq_true rfl) ?_
  intro p e s m below meth c ls hx hb hr hml hts hown hlocks htab hl hpre
  have hown : s.vm.findClass RX1 = some m.cls := hown
  have hl : lv_has ls 4 [(0, .ref (ax 0)), (1, .int p0), (2, .int p1)] := hl
  obtain ⟨⟨hP, hK⟩, hX⟩ := hpre
  refine lv_aload_n hx hb dX1_entitled_0 rfl (lv_at hl 0 rfl) ?_
  refine lv_iload_n hx hb dX1_entitled_1 rfl (lv_at hl 1 rfl) ?_
  exact j_bxV (As := [.int p0]) (rest := []) ⟨hx, hb, hml, hown, hts⟩ (x_X1_find l dC dI cI cJ cZ cO ax ao n mo p0 hst hn hao hb0) (cwV 1 hts gX1_entitled_X1_find rfl rfl rfl (by decide +kernel) ⟨Nat.le_of_ble_eq_true rfl, Nat.le_of_ble_eq_true rfl⟩) (jRX_V hX hK hP [0, 1] rfl (ci := 1) (q0 := 0) rfl rfl rfl) rfl hl rfl (Nat.le_of_ble_eq_true rfl) dX1_entitled_2 ⟨Nat.le_of_ble_eq_true rfl, Nat.le_of_ble_eq_true rfl⟩ htab hlocks
set_option maxHeartbeats 4000000 in
set_option maxRecDepth 100000 in
/-- no such annuity -/
theorem x1_X1_entitledUpTo (l : Launch) (dC : Nat → ClassId) (dI : Nat → Nat → Nat) (cI cJ cZ cO : ClassId) (ax : Nat → Nat) (ao : Nat → Option Nat) (n mo : Nat) (p0 p1 : Int32) (hst : l.stackTraces = false) (hn : n ≤ 20) (hao : ∀ j, n ≤ j → ao j = none) (hb0 : ¬ vp_in p0 n) : vx_Met l yX1_entitledUpTo wsX1_entitledUpTo ({ frames := 7, cells := 1, slots := 6, locals := 104 }) (va_Pc [.ref (ax 0), .int p0, .int p1] (jRX (dC, dI) (jTY cI cJ cZ cO) ([jXo ax n mo, jXa cO ax ao]))) (jFQ) (jXC eO) 1 6 (fun _ => False) := by
  refine j_ofx (cc := cX1_entitledUpTo) (maxL := 4) (ret := (some .long)) (by decide) rfl (Nat.le_of_ble_eq_true rfl) ?_
  intro p e s m below meth c ls hx hb hr hml hts hown hlocks htab hl hpre
  have hown : s.vm.findClass RX1 = some m.cls := hown
  have hl : lv_has ls 4 [(0, .ref (ax 0)), (1, .int p0), (2, .int p1)] := hl
  obtain ⟨⟨hP, hK⟩, hX⟩ := hpre
  refine lv_aload_n hx hb dX1_entitledUpTo_0 rfl (lv_at hl 0 rfl) ?_
  refine lv_iload_n hx hb dX1_entitledUpTo_1 rfl (lv_at hl 1 rfl) ?_
  exact j_bxV (As := [.int p0]) (rest := []) ⟨hx, hb, hml, hown, hts⟩ (x_X1_find l dC dI cI cJ cZ cO ax ao n mo p0 hst hn hao hb0) (cwV 1 hts gX1_entitledUpTo_X1_find rfl rfl rfl (by decide +kernel) ⟨Nat.le_of_ble_eq_true rfl, Nat.le_of_ble_eq_true rfl⟩) (jRX_V hX hK hP [0, 1] rfl (ci := 1) (q0 := 0) rfl rfl rfl) rfl hl rfl (Nat.le_of_ble_eq_true rfl) dX1_entitledUpTo_2 ⟨Nat.le_of_ble_eq_true rfl, Nat.le_of_ble_eq_true rfl⟩ htab hlocks
set_option maxHeartbeats 4000000 in
set_option maxRecDepth 100000 in
/-- no such annuity -/
theorem x1_X1_protection (l : Launch) (dC : Nat → ClassId) (dI : Nat → Nat → Nat) (cI cJ cZ cO : ClassId) (ax : Nat → Nat) (ao : Nat → Option Nat) (n mo : Nat) (p0 : Int32) (hst : l.stackTraces = false) (hn : n ≤ 20) (hao : ∀ j, n ≤ j → ao j = none) (hb0 : ¬ vp_in p0 n) : vx_Met l yX1_protection wsX1_protection ({ frames := 7, cells := 1, slots := 6, locals := 104 }) (va_Pc [.ref (ax 0), .int p0] (jRX (dC, dI) (jTY cI cJ cZ cO) ([jXo ax n mo, jXa cO ax ao]))) (jFQ) (jXC eO) 1 6 (fun _ => False) := by
  refine j_ofx (cc := cX1_protection) (maxL := 2) (ret := (some .long)) (by decide) rfl (Nat.le_of_ble_eq_true rfl) ?_
  intro p e s m below meth c ls hx hb hr hml hts hown hlocks htab hl hpre
  have hown : s.vm.findClass RX1 = some m.cls := hown
  have hl : lv_has ls 2 [(0, .ref (ax 0)), (1, .int p0)] := hl
  obtain ⟨⟨hP, hK⟩, hX⟩ := hpre
  refine lv_aload_n hx hb dX1_protection_0 rfl (lv_at hl 0 rfl) ?_
  refine lv_iload_n hx hb dX1_protection_1 rfl (lv_at hl 1 rfl) ?_
  exact j_bxV (As := [.int p0]) (rest := []) ⟨hx, hb, hml, hown, hts⟩ (x_X1_find l dC dI cI cJ cZ cO ax ao n mo p0 hst hn hao hb0) (cwV 1 hts gX1_protection_X1_find rfl rfl rfl (by decide +kernel) ⟨Nat.le_of_ble_eq_true rfl, Nat.le_of_ble_eq_true rfl⟩) (jRX_V hX hK hP [0, 1] rfl (ci := 1) (q0 := 0) rfl rfl rfl) rfl hl rfl (Nat.le_of_ble_eq_true rfl) dX1_protection_2 ⟨Nat.le_of_ble_eq_true rfl, Nat.le_of_ble_eq_true rfl⟩ htab hlocks
set_option maxHeartbeats 4000000 in
set_option maxRecDepth 100000 in
/-- percent out of range -/
theorem x2_X1_setSurvivor (l : Launch) (dC : Nat → ClassId) (dI : Nat → Nat → Nat) (cI cJ cZ cO : ClassId) (ax : Nat → Nat) (ao : Nat → Option Nat) (n mo : Nat) (iv : Nat → Int32) (aa an : Nat → Nat) (kp : Int64) (py : Nat → Int64) (k : Nat) (p1 p2 : Int32) (hst : l.stackTraces = false) (hv : jV an) (hm : mo ≤ 240) (hk : k < 20) (hao : ao k = some (aa 0)) (h : p1 < nI 0 ∨ nI 100 < p1) : vx_Met l yX1_setSurvivor wsX1_setSurvivor ({ frames := 7, cells := 1, slots := 6, locals := 104 }) (va_Pc [.ref (ax 0), .int (nI k), .int p1, .int p2] (jRX (dC, dI) (jTY cI cJ cZ cO) (jFW cI cJ cO ax ao n mo iv aa an kp py))) (jFQ) (jXC eA) 1 6 (fun _ => False) := by
  refine j_ofx (cc := cX1_setSurvivor) (maxL := 5) (ret := none) (by decide) rfl (Nat.le_of_ble_eq_true rfl) ?_
  intro p e s m below meth c ls hx hb hr hml hts hown hlocks htab hl hpre
  have hown : s.vm.findClass RX1 = some m.cls := hown
  have hl : lv_has ls 5 [(0, .ref (ax 0)), (1, .int (nI k)), (2, .int p1), (3, .int p2)] := hl
  obtain ⟨v0, v1, v2, v3, v4, v5, v6, v7, v8, v9⟩ := id hv
  obtain ⟨⟨hP, hK⟩, hX⟩ := hpre
  refine lv_aload_n hx hb dX1_setSurvivor_0 rfl (lv_at hl 0 rfl) ?_
  refine lv_iload_n hx hb dX1_setSurvivor_1 rfl (lv_at hl 1 rfl) ?_
  refine j_cR_ (As := [.int (nI k)]) (rest := []) ⟨hx, hb, hml, hown, hts⟩ (c_X1_find l dC dI cI cJ cZ cO ax ao n mo k (aa 0) hk hao) (cwV 1 hts gX1_setSurvivor_X1_find rfl rfl rfl (by decide +kernel) ⟨Nat.le_of_ble_eq_true rfl, Nat.le_of_ble_eq_true rfl⟩) (jR_V hK hP [0, 1] rfl (ci := 1) (q0 := 0) rfl rfl rfl) rfl hl rfl (Nat.le_of_ble_eq_true rfl) dX1_setSurvivor_2 ⟨Nat.le_of_ble_eq_true rfl, Nat.le_of_ble_eq_true rfl⟩ ?_
  refine lv_astore (lv' := [(4, .ref (aa 0)), (0, .ref (ax 0)), (1, .int (nI k)), (2, .int p1), (3, .int p2)]) hx hb dX1_setSurvivor_5 hl (by decide) rfl (fun ls hl => ?_)
  refine lv_iload_n hx hb dX1_setSurvivor_7 rfl (lv_at hl 3 rfl) ?_
  refine lv_iconst (v := nI 0) hx hb dX1_setSurvivor_8 (by decide) ?_
  refine lv_bipush (v := nI 100) hx hb dX1_setSurvivor_9 (by decide) ?_
  exact j_bxS (As := [.int p1, .int (nI 0), .int (nI 100)]) (rest := []) ⟨hx, hb, hml, hown, hts⟩ (x_X1_requireRange l dC dI p1 (nI 0) (nI 100) hst h) (cwS 3 hts gX1_setSurvivor_X1_requireRange rfl rfl rfl (by decide +kernel) ⟨Nat.le_of_ble_eq_true rfl, Nat.le_of_ble_eq_true rfl⟩) (jX_S hX) rfl hl rfl (Nat.le_of_ble_eq_true rfl) dX1_setSurvivor_11 ⟨Nat.le_of_ble_eq_true rfl, Nat.le_of_ble_eq_true rfl⟩ htab hlocks
set_option maxHeartbeats 4000000 in
set_option maxRecDepth 100000 in
/-- cap out of range -/
theorem x2_X1_setCap (l : Launch) (dC : Nat → ClassId) (dI : Nat → Nat → Nat) (cI cJ cZ cO : ClassId) (ax : Nat → Nat) (ao : Nat → Option Nat) (n mo : Nat) (iv : Nat → Int32) (aa an : Nat → Nat) (kp : Int64) (py : Nat → Int64) (k : Nat) (p1 : Int32) (hst : l.stackTraces = false) (hv : jV an) (hm : mo ≤ 240) (hk : k < 20) (hao : ao k = some (aa 0)) (h : p1 < nI 0 ∨ nI 200 < p1) : vx_Met l yX1_setCap wsX1_setCap ({ frames := 7, cells := 1, slots := 6, locals := 104 }) (va_Pc [.ref (ax 0), .int (nI k), .int p1] (jRX (dC, dI) (jTY cI cJ cZ cO) (jFW cI cJ cO ax ao n mo iv aa an kp py))) (jFQ) (jXC eA) 1 6 (fun _ => False) := by
  refine j_ofx (cc := cX1_setCap) (maxL := 4) (ret := none) (by decide) rfl (Nat.le_of_ble_eq_true rfl) ?_
  intro p e s m below meth c ls hx hb hr hml hts hown hlocks htab hl hpre
  have hown : s.vm.findClass RX1 = some m.cls := hown
  have hl : lv_has ls 4 [(0, .ref (ax 0)), (1, .int (nI k)), (2, .int p1)] := hl
  obtain ⟨v0, v1, v2, v3, v4, v5, v6, v7, v8, v9⟩ := id hv
  obtain ⟨⟨hP, hK⟩, hX⟩ := hpre
  refine lv_aload_n hx hb dX1_setCap_0 rfl (lv_at hl 0 rfl) ?_
  refine lv_iload_n hx hb dX1_setCap_1 rfl (lv_at hl 1 rfl) ?_
  refine j_cR_ (As := [.int (nI k)]) (rest := []) ⟨hx, hb, hml, hown, hts⟩ (c_X1_find l dC dI cI cJ cZ cO ax ao n mo k (aa 0) hk hao) (cwV 1 hts gX1_setCap_X1_find rfl rfl rfl (by decide +kernel) ⟨Nat.le_of_ble_eq_true rfl, Nat.le_of_ble_eq_true rfl⟩) (jR_V hK hP [0, 1] rfl (ci := 1) (q0 := 0) rfl rfl rfl) rfl hl rfl (Nat.le_of_ble_eq_true rfl) dX1_setCap_2 ⟨Nat.le_of_ble_eq_true rfl, Nat.le_of_ble_eq_true rfl⟩ ?_
  refine lv_astore_n (lv' := [(3, .ref (aa 0)), (0, .ref (ax 0)), (1, .int (nI k)), (2, .int p1)]) hx hb dX1_setCap_5 rfl hl (by decide) rfl (fun ls hl => ?_)
  refine lv_iload_n hx hb dX1_setCap_6 rfl (lv_at hl 3 rfl) ?_
  refine lv_iconst (v := nI 0) hx hb dX1_setCap_7 (by decide) ?_
  refine lv_sipush (v := nI 200) hx hb dX1_setCap_8 (by decide) ?_
  exact j_bxS (As := [.int p1, .int (nI 0), .int (nI 200)]) (rest := []) ⟨hx, hb, hml, hown, hts⟩ (x_X1_requireRange l dC dI p1 (nI 0) (nI 200) hst h) (cwS 3 hts gX1_setCap_X1_requireRange rfl rfl rfl (by decide +kernel) ⟨Nat.le_of_ble_eq_true rfl, Nat.le_of_ble_eq_true rfl⟩) (jX_S hX) rfl hl rfl (Nat.le_of_ble_eq_true rfl) dX1_setCap_11 ⟨Nat.le_of_ble_eq_true rfl, Nat.le_of_ble_eq_true rfl⟩ htab hlocks
set_option maxHeartbeats 4000000 in
set_option maxRecDepth 100000 in
/-- price out of range -/
theorem x2_X1_protect (l : Launch) (dC : Nat → ClassId) (dI : Nat → Nat → Nat) (cI cJ cZ cO : ClassId) (ax : Nat → Nat) (ao : Nat → Option Nat) (n mo : Nat) (iv : Nat → Int32) (aa an : Nat → Nat) (kp : Int64) (py : Nat → Int64) (k : Nat) (p1 p2 : Int32) (hst : l.stackTraces = false) (hv : jV an) (hm : mo ≤ 240) (hk : k < 20) (hao : ao k = some (aa 0)) (h : p1 < nI 0 ∨ nI 10000000 < p1) : vx_Met l yX1_protect wsX1_protect ({ frames := 7, cells := 1, slots := 6, locals := 104 }) (va_Pc [.ref (ax 0), .int (nI k), .int p1, .int p2] (jRX (dC, dI) (jTY cI cJ cZ cO) (jFW cI cJ cO ax ao n mo iv aa an kp py))) (jFQ) (jXC eA) 1 6 (fun _ => False) := by
  refine j_ofx (cc := cX1_protect) (maxL := 5) (ret := none) (by decide) rfl (Nat.le_of_ble_eq_true rfl) ?_
  intro p e s m below meth c ls hx hb hr hml hts hown hlocks htab hl hpre
  have hown : s.vm.findClass RX1 = some m.cls := hown
  have hl : lv_has ls 5 [(0, .ref (ax 0)), (1, .int (nI k)), (2, .int p1), (3, .int p2)] := hl
  obtain ⟨v0, v1, v2, v3, v4, v5, v6, v7, v8, v9⟩ := id hv
  obtain ⟨⟨hP, hK⟩, hX⟩ := hpre
  refine lv_aload_n hx hb dX1_protect_0 rfl (lv_at hl 0 rfl) ?_
  refine lv_iload_n hx hb dX1_protect_1 rfl (lv_at hl 1 rfl) ?_
  refine j_cR_ (As := [.int (nI k)]) (rest := []) ⟨hx, hb, hml, hown, hts⟩ (c_X1_find l dC dI cI cJ cZ cO ax ao n mo k (aa 0) hk hao) (cwV 1 hts gX1_protect_X1_find rfl rfl rfl (by decide +kernel) ⟨Nat.le_of_ble_eq_true rfl, Nat.le_of_ble_eq_true rfl⟩) (jR_V hK hP [0, 1] rfl (ci := 1) (q0 := 0) rfl rfl rfl) rfl hl rfl (Nat.le_of_ble_eq_true rfl) dX1_protect_2 ⟨Nat.le_of_ble_eq_true rfl, Nat.le_of_ble_eq_true rfl⟩ ?_
  refine lv_astore (lv' := [(4, .ref (aa 0)), (0, .ref (ax 0)), (1, .int (nI k)), (2, .int p1), (3, .int p2)]) hx hb dX1_protect_5 hl (by decide) rfl (fun ls hl => ?_)
  refine lv_iload_n hx hb dX1_protect_7 rfl (lv_at hl 3 rfl) ?_
  refine lv_iconst (v := nI 0) hx hb dX1_protect_8 (by decide) ?_
  refine lv_ldc hx hb hown (hts (.constant RX1 62 (10000000)) (List.mem_of_getElem? (i := 1) rfl)) dX1_protect_9 ?_
  refine j_i (y := nI 10000000) (by decide +kernel) ?_
  exact j_bxS (As := [.int p1, .int (nI 0), .int (nI 10000000)]) (rest := []) ⟨hx, hb, hml, hown, hts⟩ (x_X1_requireRange l dC dI p1 (nI 0) (nI 10000000) hst h) (cwS 3 hts gX1_protect_X1_requireRange rfl rfl rfl (by decide +kernel) ⟨Nat.le_of_ble_eq_true rfl, Nat.le_of_ble_eq_true rfl⟩) (jX_S hX) rfl hl rfl (Nat.le_of_ble_eq_true rfl) dX1_protect_11 ⟨Nat.le_of_ble_eq_true rfl, Nat.le_of_ble_eq_true rfl⟩ htab hlocks
set_option maxHeartbeats 4000000 in
set_option maxRecDepth 100000 in
/-- percent out of range -/
theorem x2b_X1_protect (l : Launch) (dC : Nat → ClassId) (dI : Nat → Nat → Nat) (cI cJ cZ cO : ClassId) (ax : Nat → Nat) (ao : Nat → Option Nat) (n mo : Nat) (iv : Nat → Int32) (aa an : Nat → Nat) (kp : Int64) (py : Nat → Int64) (k : Nat) (v : Nat) (p2 : Int32) (hst : l.stackTraces = false) (hv : jV an) (hm : mo ≤ 240) (hk : k < 20) (hao : ao k = some (aa 0)) (h1 : v ≤ 10000000) (h : p2 < nI 0 ∨ nI 100 < p2) : vx_Met l yX1_protect wsX1_protect ({ frames := 7, cells := 1, slots := 6, locals := 104 }) (va_Pc [.ref (ax 0), .int (nI k), .int (nI v), .int p2] (jRX (dC, dI) (jTY cI cJ cZ cO) (jFW cI cJ cO ax ao n mo iv aa an kp py))) (jFQ) (jXC eA) 1 6 (fun _ => False) := by
  refine j_ofx (cc := cX1_protect) (maxL := 5) (ret := none) (by decide) rfl (Nat.le_of_ble_eq_true rfl) ?_
  intro p e s m below meth c ls hx hb hr hml hts hown hlocks htab hl hpre
  have hown : s.vm.findClass RX1 = some m.cls := hown
  have hl : lv_has ls 5 [(0, .ref (ax 0)), (1, .int (nI k)), (2, .int (nI v)), (3, .int p2)] := hl
  obtain ⟨v0, v1, v2, v3, v4, v5, v6, v7, v8, v9⟩ := id hv
  obtain ⟨⟨hP, hK⟩, hX⟩ := hpre
  refine lv_aload_n hx hb dX1_protect_0 rfl (lv_at hl 0 rfl) ?_
  refine lv_iload_n hx hb dX1_protect_1 rfl (lv_at hl 1 rfl) ?_
  refine j_cR_ (As := [.int (nI k)]) (rest := []) ⟨hx, hb, hml, hown, hts⟩ (c_X1_find l dC dI cI cJ cZ cO ax ao n mo k (aa 0) hk hao) (cwV 1 hts gX1_protect_X1_find rfl rfl rfl (by decide +kernel) ⟨Nat.le_of_ble_eq_true rfl, Nat.le_of_ble_eq_true rfl⟩) (jR_V hK hP [0, 1] rfl (ci := 1) (q0 := 0) rfl rfl rfl) rfl hl rfl (Nat.le_of_ble_eq_true rfl) dX1_protect_2 ⟨Nat.le_of_ble_eq_true rfl, Nat.le_of_ble_eq_true rfl⟩ ?_
  refine lv_astore (lv' := [(4, .ref (aa 0)), (0, .ref (ax 0)), (1, .int (nI k)), (2, .int (nI v)), (3, .int p2)]) hx hb dX1_protect_5 hl (by decide) rfl (fun ls hl => ?_)
  refine lv_iload_n hx hb dX1_protect_7 rfl (lv_at hl 3 rfl) ?_
  refine lv_iconst (v := nI 0) hx hb dX1_protect_8 (by decide) ?_
  refine lv_ldc hx hb hown (hts (.constant RX1 62 (10000000)) (List.mem_of_getElem? (i := 1) rfl)) dX1_protect_9 ?_
  refine j_i (y := nI 10000000) (by decide +kernel) ?_
  refine j_sV (As := [.int (nI v), .int (nI 0), .int (nI 10000000)]) (rest := []) ⟨hx, hb, hml, hown, hts⟩ (c_X1_requireRange l dC dI (nI v) (nI 0) (nI 10000000) (nI_nlt (by omega) (by omega)) (nI_nlt (by omega) (by omega))) (cwS 3 hts gX1_protect_X1_requireRange rfl rfl rfl (by decide +kernel) ⟨Nat.le_of_ble_eq_true rfl, Nat.le_of_ble_eq_true rfl⟩) rfl hl rfl (Nat.le_of_ble_eq_true rfl) dX1_protect_11 ⟨Nat.le_of_ble_eq_true rfl, Nat.le_of_ble_eq_true rfl⟩ ?_
  refine lv_iload_n hx hb dX1_protect_14 rfl (lv_at hl 4 rfl) ?_
  refine lv_iconst (v := nI 0) hx hb dX1_protect_15 (by decide) ?_
  refine lv_bipush (v := nI 100) hx hb dX1_protect_16 (by decide) ?_
  exact j_bxS (As := [.int p2, .int (nI 0), .int (nI 100)]) (rest := []) ⟨hx, hb, hml, hown, hts⟩ (x_X1_requireRange l dC dI p2 (nI 0) (nI 100) hst h) (cwS 3 hts gX1_protect_X1_requireRange rfl rfl rfl (by decide +kernel) ⟨Nat.le_of_ble_eq_true rfl, Nat.le_of_ble_eq_true rfl⟩) (jX_S hX) rfl hl rfl (Nat.le_of_ble_eq_true rfl) dX1_protect_18 ⟨Nat.le_of_ble_eq_true rfl, Nat.le_of_ble_eq_true rfl⟩ htab hlocks
set_option maxHeartbeats 4000000 in
set_option maxRecDepth 100000 in
/-- no life -/
theorem x2_X1_die (l : Launch) (dC : Nat → ClassId) (dI : Nat → Nat → Nat) (cI cJ cZ cO : ClassId) (ax : Nat → Nat) (ao : Nat → Option Nat) (n mo : Nat) (iv : Nat → Int32) (aa an : Nat → Nat) (kp : Int64) (py : Nat → Int64) (k : Nat) (p1 p2 : Int32) (hst : l.stackTraces = false) (hv : jV an) (hm : mo ≤ 240) (hk : k < 20) (hao : ao k = some (aa 0)) (h : p1 < nI 0 ∨ nI 1 < p1) : vx_Met l yX1_die wsX1_die ({ frames := 7, cells := 1, slots := 6, locals := 104 }) (va_Pc [.ref (ax 0), .int (nI k), .int p1, .int p2] (jRX (dC, dI) (jTY cI cJ cZ cO) (jFW cI cJ cO ax ao n mo iv aa an kp py))) (jFQ) (jXC eA) 1 6 (fun _ => False) := by
  refine j_ofx (cc := cX1_die) (maxL := 5) (ret := none) (by decide) rfl (Nat.le_of_ble_eq_true rfl) ?_
  intro p e s m below meth c ls hx hb hr hml hts hown hlocks htab hl hpre
  have hown : s.vm.findClass RX1 = some m.cls := hown
  have hl : lv_has ls 5 [(0, .ref (ax 0)), (1, .int (nI k)), (2, .int p1), (3, .int p2)] := hl
  obtain ⟨v0, v1, v2, v3, v4, v5, v6, v7, v8, v9⟩ := id hv
  obtain ⟨⟨hP, hK⟩, hX⟩ := hpre
  refine lv_aload_n hx hb dX1_die_0 rfl (lv_at hl 0 rfl) ?_
  refine lv_iload_n hx hb dX1_die_1 rfl (lv_at hl 1 rfl) ?_
  refine j_cR_ (As := [.int (nI k)]) (rest := []) ⟨hx, hb, hml, hown, hts⟩ (c_X1_find l dC dI cI cJ cZ cO ax ao n mo k (aa 0) hk hao) (cwV 1 hts gX1_die_X1_find rfl rfl rfl (by decide +kernel) ⟨Nat.le_of_ble_eq_true rfl, Nat.le_of_ble_eq_true rfl⟩) (jR_V hK hP [0, 1] rfl (ci := 1) (q0 := 0) rfl rfl rfl) rfl hl rfl (Nat.le_of_ble_eq_true rfl) dX1_die_2 ⟨Nat.le_of_ble_eq_true rfl, Nat.le_of_ble_eq_true rfl⟩ ?_
  refine lv_astore (lv' := [(4, .ref (aa 0)), (0, .ref (ax 0)), (1, .int (nI k)), (2, .int p1), (3, .int p2)]) hx hb dX1_die_5 hl (by decide) rfl (fun ls hl => ?_)
  refine lv_iload_n hx hb dX1_die_7 rfl (lv_at hl 3 rfl) ?_
  refine lv_iconst (v := nI 0) hx hb dX1_die_8 (by decide) ?_
  refine lv_iconst (v := nI 1) hx hb dX1_die_9 (by decide) ?_
  exact j_bxS (As := [.int p1, .int (nI 0), .int (nI 1)]) (rest := []) ⟨hx, hb, hml, hown, hts⟩ (x_X1_requireRange l dC dI p1 (nI 0) (nI 1) hst h) (cwS 3 hts gX1_die_X1_requireRange rfl rfl rfl (by decide +kernel) ⟨Nat.le_of_ble_eq_true rfl, Nat.le_of_ble_eq_true rfl⟩) (jX_S hX) rfl hl rfl (Nat.le_of_ble_eq_true rfl) dX1_die_10 ⟨Nat.le_of_ble_eq_true rfl, Nat.le_of_ble_eq_true rfl⟩ htab hlocks
set_option maxHeartbeats 4000000 in
set_option maxRecDepth 100000 in
/-- month out of range -/
theorem x2b_X1_die (l : Launch) (dC : Nat → ClassId) (dI : Nat → Nat → Nat) (cI cJ cZ cO : ClassId) (ax : Nat → Nat) (ao : Nat → Option Nat) (n mo : Nat) (iv : Nat → Int32) (aa an : Nat → Nat) (kp : Int64) (py : Nat → Int64) (k : Nat) (i : Nat) (p2 : Int32) (hst : l.stackTraces = false) (hv : jV an) (hm : mo ≤ 240) (hk : k < 20) (hao : ao k = some (aa 0)) (hi : i ≤ 1) (h : p2 < nI 0 ∨ nI (min mo 239) < p2) : vx_Met l yX1_die wsX1_die ({ frames := 7, cells := 1, slots := 6, locals := 104 }) (va_Pc [.ref (ax 0), .int (nI k), .int (nI i), .int p2] (jRX (dC, dI) (jTY cI cJ cZ cO) (jFW cI cJ cO ax ao n mo iv aa an kp py))) (jFQ) (jXC eA) 1 6 (fun _ => False) := by
  refine j_ofx (cc := cX1_die) (maxL := 5) (ret := none) (by decide) rfl (Nat.le_of_ble_eq_true rfl) ?_
  intro p e s m below meth c ls hx hb hr hml hts hown hlocks htab hl hpre
  have hown : s.vm.findClass RX1 = some m.cls := hown
  have hl : lv_has ls 5 [(0, .ref (ax 0)), (1, .int (nI k)), (2, .int (nI i)), (3, .int p2)] := hl
  obtain ⟨v0, v1, v2, v3, v4, v5, v6, v7, v8, v9⟩ := id hv
  obtain ⟨⟨hP, hK⟩, hX⟩ := hpre
  refine lv_aload_n hx hb dX1_die_0 rfl (lv_at hl 0 rfl) ?_
  refine lv_iload_n hx hb dX1_die_1 rfl (lv_at hl 1 rfl) ?_
  refine j_cR_ (As := [.int (nI k)]) (rest := []) ⟨hx, hb, hml, hown, hts⟩ (c_X1_find l dC dI cI cJ cZ cO ax ao n mo k (aa 0) hk hao) (cwV 1 hts gX1_die_X1_find rfl rfl rfl (by decide +kernel) ⟨Nat.le_of_ble_eq_true rfl, Nat.le_of_ble_eq_true rfl⟩) (jR_V hK hP [0, 1] rfl (ci := 1) (q0 := 0) rfl rfl rfl) rfl hl rfl (Nat.le_of_ble_eq_true rfl) dX1_die_2 ⟨Nat.le_of_ble_eq_true rfl, Nat.le_of_ble_eq_true rfl⟩ ?_
  refine lv_astore (lv' := [(4, .ref (aa 0)), (0, .ref (ax 0)), (1, .int (nI k)), (2, .int (nI i)), (3, .int p2)]) hx hb dX1_die_5 hl (by decide) rfl (fun ls hl => ?_)
  refine lv_iload_n hx hb dX1_die_7 rfl (lv_at hl 3 rfl) ?_
  refine lv_iconst (v := nI 0) hx hb dX1_die_8 (by decide) ?_
  refine lv_iconst (v := nI 1) hx hb dX1_die_9 (by decide) ?_
  refine j_sV (As := [.int (nI i), .int (nI 0), .int (nI 1)]) (rest := []) ⟨hx, hb, hml, hown, hts⟩ (c_X1_requireRange l dC dI (nI i) (nI 0) (nI 1) (nI_nlt (by omega) (by omega)) (nI_nlt (by omega) (by omega))) (cwS 3 hts gX1_die_X1_requireRange rfl rfl rfl (by decide +kernel) ⟨Nat.le_of_ble_eq_true rfl, Nat.le_of_ble_eq_true rfl⟩) rfl hl rfl (Nat.le_of_ble_eq_true rfl) dX1_die_10 ⟨Nat.le_of_ble_eq_true rfl, Nat.le_of_ble_eq_true rfl⟩ ?_
  refine lv_iload_n hx hb dX1_die_13 rfl (lv_at hl 4 rfl) ?_
  refine lv_iconst (v := nI 0) hx hb dX1_die_14 (by decide) ?_
  refine lv_aload_n hx hb dX1_die_15 rfl (lv_at hl 1 rfl) ?_
  refine va_get (D := (dC, dI)) (ci := 1) (v := .int (nI mo)) (C := RX1) (T := TX1) (N := 4) hx hb hts (fun _ h => List.mem_cons_of_mem _ (List.mem_append_left _ (List.mem_append_left _ (List.mem_append_left _ (List.mem_append_left _ (List.mem_append_right _ h)))))) hown hK hP 0 rfl rfl 3 (by decide) (hts (.fieldLink RX1 23 "JointAnnuity" "monthThatGoesOn" "I") (List.mem_of_getElem? (i := 3) rfl)) (fun _ h9 => h9) rfl dX1_die_16 ?_
  refine lv_sipush (v := nI 239) hx hb dX1_die_19 (by decide) ?_
  refine va_mmin hx hb (hml.trans hl.1.symm) hown (hts (.methodLink RX1 69 Lib.Math.min.name) (List.mem_of_getElem? (i := 4) rfl)) (hts (.static Lib.Math.min.name) (List.mem_of_getElem? (i := 5) rfl)) (hts (.initialized "java/lang/Math") (List.mem_of_getElem? (i := 6) rfl)) (hts (.code Lib.Math.min.name Lib.Math.min.code 2 (some .int)) (List.mem_of_getElem? (i := 7) rfl)) (Nat.le_of_ble_eq_true rfl) (Nat.le_of_ble_eq_true rfl) (Nat.le_of_ble_eq_true rfl) (Nat.le_of_ble_eq_true rfl) dX1_die_22 ?_
  refine j_i (y := nI (min mo 239)) (jminI (by omega) (by omega)) ?_
  exact j_bxS (As := [.int p2, .int (nI 0), .int (nI (min mo 239))]) (rest := []) ⟨hx, hb, hml, hown, hts⟩ (x_X1_requireRange l dC dI p2 (nI 0) (nI (min mo 239)) hst h) (cwS 3 hts gX1_die_X1_requireRange rfl rfl rfl (by decide +kernel) ⟨Nat.le_of_ble_eq_true rfl, Nat.le_of_ble_eq_true rfl⟩) (jX_S hX) rfl hl rfl (Nat.le_of_ble_eq_true rfl) dX1_die_25 ⟨Nat.le_of_ble_eq_true rfl, Nat.le_of_ble_eq_true rfl⟩ htab hlocks
set_option maxHeartbeats 4000000 in
set_option maxRecDepth 100000 in
/-- no life -/
theorem x2_X1_takeBack (l : Launch) (dC : Nat → ClassId) (dI : Nat → Nat → Nat) (cI cJ cZ cO : ClassId) (ax : Nat → Nat) (ao : Nat → Option Nat) (n mo : Nat) (iv : Nat → Int32) (aa an : Nat → Nat) (kp : Int64) (py : Nat → Int64) (k : Nat) (p1 : Int32) (hst : l.stackTraces = false) (hv : jV an) (hm : mo ≤ 240) (hk : k < 20) (hao : ao k = some (aa 0)) (h : p1 < nI 0 ∨ nI 1 < p1) : vx_Met l yX1_takeBack wsX1_takeBack ({ frames := 7, cells := 1, slots := 6, locals := 104 }) (va_Pc [.ref (ax 0), .int (nI k), .int p1] (jRX (dC, dI) (jTY cI cJ cZ cO) (jFW cI cJ cO ax ao n mo iv aa an kp py))) (jFQ) (jXC eA) 1 6 (fun _ => False) := by
  refine j_ofx (cc := cX1_takeBack) (maxL := 5) (ret := (some .int)) (by decide) rfl (Nat.le_of_ble_eq_true rfl) ?_
  intro p e s m below meth c ls hx hb hr hml hts hown hlocks htab hl hpre
  have hown : s.vm.findClass RX1 = some m.cls := hown
  have hl : lv_has ls 5 [(0, .ref (ax 0)), (1, .int (nI k)), (2, .int p1)] := hl
  obtain ⟨v0, v1, v2, v3, v4, v5, v6, v7, v8, v9⟩ := id hv
  obtain ⟨⟨hP, hK⟩, hX⟩ := hpre
  refine lv_aload_n hx hb dX1_takeBack_0 rfl (lv_at hl 0 rfl) ?_
  refine lv_iload_n hx hb dX1_takeBack_1 rfl (lv_at hl 1 rfl) ?_
  refine j_cR_ (As := [.int (nI k)]) (rest := []) ⟨hx, hb, hml, hown, hts⟩ (c_X1_find l dC dI cI cJ cZ cO ax ao n mo k (aa 0) hk hao) (cwV 1 hts gX1_takeBack_X1_find rfl rfl rfl (by decide +kernel) ⟨Nat.le_of_ble_eq_true rfl, Nat.le_of_ble_eq_true rfl⟩) (jR_V hK hP [0, 1] rfl (ci := 1) (q0 := 0) rfl rfl rfl) rfl hl rfl (Nat.le_of_ble_eq_true rfl) dX1_takeBack_2 ⟨Nat.le_of_ble_eq_true rfl, Nat.le_of_ble_eq_true rfl⟩ ?_
  refine lv_astore_n (lv' := [(3, .ref (aa 0)), (0, .ref (ax 0)), (1, .int (nI k)), (2, .int p1)]) hx hb dX1_takeBack_5 rfl hl (by decide) rfl (fun ls hl => ?_)
  refine lv_iload_n hx hb dX1_takeBack_6 rfl (lv_at hl 3 rfl) ?_
  refine lv_iconst (v := nI 0) hx hb dX1_takeBack_7 (by decide) ?_
  refine lv_iconst (v := nI 1) hx hb dX1_takeBack_8 (by decide) ?_
  exact j_bxS (As := [.int p1, .int (nI 0), .int (nI 1)]) (rest := []) ⟨hx, hb, hml, hown, hts⟩ (x_X1_requireRange l dC dI p1 (nI 0) (nI 1) hst h) (cwS 3 hts gX1_takeBack_X1_requireRange rfl rfl rfl (by decide +kernel) ⟨Nat.le_of_ble_eq_true rfl, Nat.le_of_ble_eq_true rfl⟩) (jX_S hX) rfl hl rfl (Nat.le_of_ble_eq_true rfl) dX1_takeBack_9 ⟨Nat.le_of_ble_eq_true rfl, Nat.le_of_ble_eq_true rfl⟩ htab hlocks
set_option maxHeartbeats 4000000 in
set_option maxRecDepth 100000 in
/-- amount out of range -/
theorem x2_X1_giveBack (l : Launch) (dC : Nat → ClassId) (dI : Nat → Nat → Nat) (cI cJ cZ cO : ClassId) (ax : Nat → Nat) (ao : Nat → Option Nat) (n mo : Nat) (iv : Nat → Int32) (aa an : Nat → Nat) (kp : Int64) (py : Nat → Int64) (k : Nat) (p1 : Int32) (hst : l.stackTraces = false) (hv : jV an) (hm : mo ≤ 240) (hk : k < 20) (hao : ao k = some (aa 0)) (h : p1 < nI 1 ∨ nI 100000000 < p1) : vx_Met l yX1_giveBack wsX1_giveBack ({ frames := 7, cells := 1, slots := 6, locals := 104 }) (va_Pc [.ref (ax 0), .int (nI k), .int p1] (jRX (dC, dI) (jTY cI cJ cZ cO) (jFW cI cJ cO ax ao n mo iv aa an kp py))) (jFQ) (jXC eA) 1 6 (fun _ => False) := by
  refine j_ofx (cc := cX1_giveBack) (maxL := 6) (ret := (some .long)) (by decide) rfl (Nat.le_of_ble_eq_true rfl) ?_
  intro p e s m below meth c ls hx hb hr hml hts hown hlocks htab hl hpre
  have hown : s.vm.findClass RX1 = some m.cls := hown
  have hl : lv_has ls 6 [(0, .ref (ax 0)), (1, .int (nI k)), (2, .int p1)] := hl
  obtain ⟨v0, v1, v2, v3, v4, v5, v6, v7, v8, v9⟩ := id hv
  obtain ⟨⟨hP, hK⟩, hX⟩ := hpre
  refine lv_aload_n hx hb dX1_giveBack_0 rfl (lv_at hl 0 rfl) ?_
  refine lv_iload_n hx hb dX1_giveBack_1 rfl (lv_at hl 1 rfl) ?_
  refine j_cR_ (As := [.int (nI k)]) (rest := []) ⟨hx, hb, hml, hown, hts⟩ (c_X1_find l dC dI cI cJ cZ cO ax ao n mo k (aa 0) hk hao) (cwV 1 hts gX1_giveBack_X1_find rfl rfl rfl (by decide +kernel) ⟨Nat.le_of_ble_eq_true rfl, Nat.le_of_ble_eq_true rfl⟩) (jR_V hK hP [0, 1] rfl (ci := 1) (q0 := 0) rfl rfl rfl) rfl hl rfl (Nat.le_of_ble_eq_true rfl) dX1_giveBack_2 ⟨Nat.le_of_ble_eq_true rfl, Nat.le_of_ble_eq_true rfl⟩ ?_
  refine lv_astore_n (lv' := [(3, .ref (aa 0)), (0, .ref (ax 0)), (1, .int (nI k)), (2, .int p1)]) hx hb dX1_giveBack_5 rfl hl (by decide) rfl (fun ls hl => ?_)
  refine lv_iload_n hx hb dX1_giveBack_6 rfl (lv_at hl 3 rfl) ?_
  refine lv_iconst (v := nI 1) hx hb dX1_giveBack_7 (by decide) ?_
  refine lv_ldc hx hb hown (hts (.constant RX1 88 (100000000)) (List.mem_of_getElem? (i := 3) rfl)) dX1_giveBack_8 ?_
  refine j_i (y := nI 100000000) (by decide +kernel) ?_
  exact j_bxS (As := [.int p1, .int (nI 1), .int (nI 100000000)]) (rest := []) ⟨hx, hb, hml, hown, hts⟩ (x_X1_requireRange l dC dI p1 (nI 1) (nI 100000000) hst h) (cwS 3 hts gX1_giveBack_X1_requireRange rfl rfl rfl (by decide +kernel) ⟨Nat.le_of_ble_eq_true rfl, Nat.le_of_ble_eq_true rfl⟩) (jX_S hX) rfl hl rfl (Nat.le_of_ble_eq_true rfl) dX1_giveBack_10 ⟨Nat.le_of_ble_eq_true rfl, Nat.le_of_ble_eq_true rfl⟩ htab hlocks
set_option maxHeartbeats 4000000 in
set_option maxRecDepth 100000 in
/-- month out of range -/
theorem x2_X1_paid (l : Launch) (dC : Nat → ClassId) (dI : Nat → Nat → Nat) (cI cJ cZ cO : ClassId) (ax : Nat → Nat) (ao : Nat → Option Nat) (n mo : Nat) (iv : Nat → Int32) (aa an : Nat → Nat) (kp : Int64) (py : Nat → Int64) (k : Nat) (p1 : Int32) (hst : l.stackTraces = false) (hv : jV an) (hm : mo ≤ 240) (hk : k < 20) (hao : ao k = some (aa 0)) (h : p1 < nI 0 ∨ nI mo - nI 1 < p1) : vx_Met l yX1_paid wsX1_paid ({ frames := 7, cells := 1, slots := 6, locals := 104 }) (va_Pc [.ref (ax 0), .int (nI k), .int p1] (jRX (dC, dI) (jTY cI cJ cZ cO) (jFW cI cJ cO ax ao n mo iv aa an kp py))) (jFQ) (jXC eA) 1 6 (fun _ => False) := by
  refine j_ofx (cc := cX1_paid) (maxL := 4) (ret := (some .long)) (by decide) rfl (Nat.le_of_ble_eq_true rfl) ?_
  intro p e s m below meth c ls hx hb hr hml hts hown hlocks htab hl hpre
  have hown : s.vm.findClass RX1 = some m.cls := hown
  have hl : lv_has ls 4 [(0, .ref (ax 0)), (1, .int (nI k)), (2, .int p1)] := hl
  obtain ⟨v0, v1, v2, v3, v4, v5, v6, v7, v8, v9⟩ := id hv
  obtain ⟨⟨hP, hK⟩, hX⟩ := hpre
  refine lv_aload_n hx hb dX1_paid_0 rfl (lv_at hl 0 rfl) ?_
  refine lv_iload_n hx hb dX1_paid_1 rfl (lv_at hl 1 rfl) ?_
  refine j_cR_ (As := [.int (nI k)]) (rest := []) ⟨hx, hb, hml, hown, hts⟩ (c_X1_find l dC dI cI cJ cZ cO ax ao n mo k (aa 0) hk hao) (cwV 1 hts gX1_paid_X1_find rfl rfl rfl (by decide +kernel) ⟨Nat.le_of_ble_eq_true rfl, Nat.le_of_ble_eq_true rfl⟩) (jR_V hK hP [0, 1] rfl (ci := 1) (q0 := 0) rfl rfl rfl) rfl hl rfl (Nat.le_of_ble_eq_true rfl) dX1_paid_2 ⟨Nat.le_of_ble_eq_true rfl, Nat.le_of_ble_eq_true rfl⟩ ?_
  refine lv_astore_n (lv' := [(3, .ref (aa 0)), (0, .ref (ax 0)), (1, .int (nI k)), (2, .int p1)]) hx hb dX1_paid_5 rfl hl (by decide) rfl (fun ls hl => ?_)
  refine lv_iload_n hx hb dX1_paid_6 rfl (lv_at hl 3 rfl) ?_
  refine lv_iconst (v := nI 0) hx hb dX1_paid_7 (by decide) ?_
  refine lv_aload_n hx hb dX1_paid_8 rfl (lv_at hl 1 rfl) ?_
  refine va_get (D := (dC, dI)) (ci := 1) (v := .int (nI mo)) (C := RX1) (T := TX1) (N := 4) hx hb hts (fun _ h => List.mem_cons_of_mem _ (List.mem_append_left _ (List.mem_append_left _ (List.mem_append_left _ (List.mem_append_right _ h))))) hown hK hP 0 rfl rfl 3 (by decide) (hts (.fieldLink RX1 23 "JointAnnuity" "monthThatGoesOn" "I") (List.mem_of_getElem? (i := 1) rfl)) (fun _ h9 => h9) rfl dX1_paid_9 ?_
  refine lv_iconst (v := nI 1) hx hb dX1_paid_12 (by decide) ?_
  refine lv_isub hx hb dX1_paid_13 ?_
  exact j_bxS (As := [.int p1, .int (nI 0), .int ((nI mo) - (nI 1))]) (rest := []) ⟨hx, hb, hml, hown, hts⟩ (x_X1_requireRange l dC dI p1 (nI 0) (nI mo - nI 1) hst h) (cwS 3 hts gX1_paid_X1_requireRange rfl rfl rfl (by decide +kernel) ⟨Nat.le_of_ble_eq_true rfl, Nat.le_of_ble_eq_true rfl⟩) (jX_S hX) rfl hl rfl (Nat.le_of_ble_eq_true rfl) dX1_paid_14 ⟨Nat.le_of_ble_eq_true rfl, Nat.le_of_ble_eq_true rfl⟩ htab hlocks
set_option maxHeartbeats 4000000 in
set_option maxRecDepth 100000 in
/-- month out of range -/
theorem x2_X1_fullAmount (l : Launch) (dC : Nat → ClassId) (dI : Nat → Nat → Nat) (cI cJ cZ cO : ClassId) (ax : Nat → Nat) (ao : Nat → Option Nat) (n mo : Nat) (iv : Nat → Int32) (aa an : Nat → Nat) (kp : Int64) (py : Nat → Int64) (k : Nat) (p1 : Int32) (hst : l.stackTraces = false) (hv : jV an) (hm : mo ≤ 240) (hk : k < 20) (hao : ao k = some (aa 0)) (h : p1 < nI 0 ∨ nI 239 < p1) : vx_Met l yX1_fullAmount wsX1_fullAmount ({ frames := 8, cells := 1, slots := 6, locals := 124 }) (va_Pc [.ref (ax 0), .int (nI k), .int p1] (jRX (dC, dI) (jTY cI cJ cZ cO) (jFW cI cJ cO ax ao n mo iv aa an kp py))) (jFQ) (jXC eA) 1 6 (fun _ => False) := by
  refine j_ofx (cc := cX1_fullAmount) (maxL := 4) (ret := (some .int)) (by decide) rfl (Nat.le_of_ble_eq_true rfl) ?_
  intro p e s m below meth c ls hx hb hr hml hts hown hlocks htab hl hpre
  have hown : s.vm.findClass RX1 = some m.cls := hown
  have hl : lv_has ls 4 [(0, .ref (ax 0)), (1, .int (nI k)), (2, .int p1)] := hl
  obtain ⟨v0, v1, v2, v3, v4, v5, v6, v7, v8, v9⟩ := id hv
  obtain ⟨⟨hP, hK⟩, hX⟩ := hpre
  refine lv_aload_n hx hb dX1_fullAmount_0 rfl (lv_at hl 0 rfl) ?_
  refine lv_iload_n hx hb dX1_fullAmount_1 rfl (lv_at hl 1 rfl) ?_
  refine j_cR_ (As := [.int (nI k)]) (rest := []) ⟨hx, hb, hml, hown, hts⟩ (c_X1_find l dC dI cI cJ cZ cO ax ao n mo k (aa 0) hk hao) (cwV 1 hts gX1_fullAmount_X1_find rfl rfl rfl (by decide +kernel) ⟨Nat.le_of_ble_eq_true rfl, Nat.le_of_ble_eq_true rfl⟩) (jR_V hK hP [0, 1] rfl (ci := 1) (q0 := 0) rfl rfl rfl) rfl hl rfl (Nat.le_of_ble_eq_true rfl) dX1_fullAmount_2 ⟨Nat.le_of_ble_eq_true rfl, Nat.le_of_ble_eq_true rfl⟩ ?_
  refine lv_astore_n (lv' := [(3, .ref (aa 0)), (0, .ref (ax 0)), (1, .int (nI k)), (2, .int p1)]) hx hb dX1_fullAmount_5 rfl hl (by decide) rfl (fun ls hl => ?_)
  refine lv_iload_n hx hb dX1_fullAmount_6 rfl (lv_at hl 3 rfl) ?_
  exact j_bxS (As := [.int p1]) (rest := []) ⟨hx, hb, hml, hown, hts⟩ (x_X1_requireMonth l dC dI p1 hst h) (cwS 1 hts gX1_fullAmount_X1_requireMonth rfl rfl rfl (by decide +kernel) ⟨Nat.le_of_ble_eq_true rfl, Nat.le_of_ble_eq_true rfl⟩) (jX_S hX) rfl hl rfl (Nat.le_of_ble_eq_true rfl) dX1_fullAmount_7 ⟨Nat.le_of_ble_eq_true rfl, Nat.le_of_ble_eq_true rfl⟩ htab hlocks
set_option maxHeartbeats 4000000 in
set_option maxRecDepth 100000 in
/-- month out of range -/
theorem x2_X1_carry (l : Launch) (dC : Nat → ClassId) (dI : Nat → Nat → Nat) (cI cJ cZ cO : ClassId) (ax : Nat → Nat) (ao : Nat → Option Nat) (n mo : Nat) (iv : Nat → Int32) (aa an : Nat → Nat) (kp : Int64) (py : Nat → Int64) (k : Nat) (p1 : Int32) (hst : l.stackTraces = false) (hv : jV an) (hm : mo ≤ 240) (hk : k < 20) (hao : ao k = some (aa 0)) (h : p1 < nI 0 ∨ nI 239 < p1) : vx_Met l yX1_carry wsX1_carry ({ frames := 8, cells := 1, slots := 6, locals := 124 }) (va_Pc [.ref (ax 0), .int (nI k), .int p1] (jRX (dC, dI) (jTY cI cJ cZ cO) (jFW cI cJ cO ax ao n mo iv aa an kp py))) (jFQ) (jXC eA) 1 6 (fun _ => False) := by
  refine j_ofx (cc := cX1_carry) (maxL := 4) (ret := (some .int)) (by decide) rfl (Nat.le_of_ble_eq_true rfl) ?_
  intro p e s m below meth c ls hx hb hr hml hts hown hlocks htab hl hpre
  have hown : s.vm.findClass RX1 = some m.cls := hown
  have hl : lv_has ls 4 [(0, .ref (ax 0)), (1, .int (nI k)), (2, .int p1)] := hl
  obtain ⟨v0, v1, v2, v3, v4, v5, v6, v7, v8, v9⟩ := id hv
  obtain ⟨⟨hP, hK⟩, hX⟩ := hpre
  refine lv_aload_n hx hb dX1_carry_0 rfl (lv_at hl 0 rfl) ?_
  refine lv_iload_n hx hb dX1_carry_1 rfl (lv_at hl 1 rfl) ?_
  refine j_cR_ (As := [.int (nI k)]) (rest := []) ⟨hx, hb, hml, hown, hts⟩ (c_X1_find l dC dI cI cJ cZ cO ax ao n mo k (aa 0) hk hao) (cwV 1 hts gX1_carry_X1_find rfl rfl rfl (by decide +kernel) ⟨Nat.le_of_ble_eq_true rfl, Nat.le_of_ble_eq_true rfl⟩) (jR_V hK hP [0, 1] rfl (ci := 1) (q0 := 0) rfl rfl rfl) rfl hl rfl (Nat.le_of_ble_eq_true rfl) dX1_carry_2 ⟨Nat.le_of_ble_eq_true rfl, Nat.le_of_ble_eq_true rfl⟩ ?_
  refine lv_astore_n (lv' := [(3, .ref (aa 0)), (0, .ref (ax 0)), (1, .int (nI k)), (2, .int p1)]) hx hb dX1_carry_5 rfl hl (by decide) rfl (fun ls hl => ?_)
  refine lv_iload_n hx hb dX1_carry_6 rfl (lv_at hl 3 rfl) ?_
  exact j_bxS (As := [.int p1]) (rest := []) ⟨hx, hb, hml, hown, hts⟩ (x_X1_requireMonth l dC dI p1 hst h) (cwS 1 hts gX1_carry_X1_requireMonth rfl rfl rfl (by decide +kernel) ⟨Nat.le_of_ble_eq_true rfl, Nat.le_of_ble_eq_true rfl⟩) (jX_S hX) rfl hl rfl (Nat.le_of_ble_eq_true rfl) dX1_carry_7 ⟨Nat.le_of_ble_eq_true rfl, Nat.le_of_ble_eq_true rfl⟩ htab hlocks
set_option maxHeartbeats 4000000 in
set_option maxRecDepth 100000 in
/-- month out of range -/
theorem x2_X1_entitled (l : Launch) (dC : Nat → ClassId) (dI : Nat → Nat → Nat) (cI cJ cZ cO : ClassId) (ax : Nat → Nat) (ao : Nat → Option Nat) (n mo : Nat) (iv : Nat → Int32) (aa an : Nat → Nat) (kp : Int64) (py : Nat → Int64) (k : Nat) (p1 : Int32) (hst : l.stackTraces = false) (hv : jV an) (hm : mo ≤ 240) (hk : k < 20) (hao : ao k = some (aa 0)) (h : p1 < nI 0 ∨ nI 239 < p1) : vx_Met l yX1_entitled wsX1_entitled ({ frames := 8, cells := 1, slots := 6, locals := 124 }) (va_Pc [.ref (ax 0), .int (nI k), .int p1] (jRX (dC, dI) (jTY cI cJ cZ cO) (jFW cI cJ cO ax ao n mo iv aa an kp py))) (jFQ) (jXC eA) 1 6 (fun _ => False) := by
  refine j_ofx (cc := cX1_entitled) (maxL := 4) (ret := (some .long)) (by decide) rfl (Nat.le_of_ble_eq_true rfl) ?_
  intro p e s m below meth c ls hx hb hr hml hts hown hlocks htab hl hpre
  have hown : s.vm.findClass RX1 = some m.cls := hown
  have hl : lv_has ls 4 [(0, .ref (ax 0)), (1, .int (nI k)), (2, .int p1)] := hl
  obtain ⟨v0, v1, v2, v3, v4, v5, v6, v7, v8, v9⟩ := id hv
  obtain ⟨⟨hP, hK⟩, hX⟩ := hpre
  refine lv_aload_n hx hb dX1_entitled_0 rfl (lv_at hl 0 rfl) ?_
  refine lv_iload_n hx hb dX1_entitled_1 rfl (lv_at hl 1 rfl) ?_
  refine j_cR_ (As := [.int (nI k)]) (rest := []) ⟨hx, hb, hml, hown, hts⟩ (c_X1_find l dC dI cI cJ cZ cO ax ao n mo k (aa 0) hk hao) (cwV 1 hts gX1_entitled_X1_find rfl rfl rfl (by decide +kernel) ⟨Nat.le_of_ble_eq_true rfl, Nat.le_of_ble_eq_true rfl⟩) (jR_V hK hP [0, 1] rfl (ci := 1) (q0 := 0) rfl rfl rfl) rfl hl rfl (Nat.le_of_ble_eq_true rfl) dX1_entitled_2 ⟨Nat.le_of_ble_eq_true rfl, Nat.le_of_ble_eq_true rfl⟩ ?_
  refine lv_astore_n (lv' := [(3, .ref (aa 0)), (0, .ref (ax 0)), (1, .int (nI k)), (2, .int p1)]) hx hb dX1_entitled_5 rfl hl (by decide) rfl (fun ls hl => ?_)
  refine lv_iload_n hx hb dX1_entitled_6 rfl (lv_at hl 3 rfl) ?_
  exact j_bxS (As := [.int p1]) (rest := []) ⟨hx, hb, hml, hown, hts⟩ (x_X1_requireMonth l dC dI p1 hst h) (cwS 1 hts gX1_entitled_X1_requireMonth rfl rfl rfl (by decide +kernel) ⟨Nat.le_of_ble_eq_true rfl, Nat.le_of_ble_eq_true rfl⟩) (jX_S hX) rfl hl rfl (Nat.le_of_ble_eq_true rfl) dX1_entitled_7 ⟨Nat.le_of_ble_eq_true rfl, Nat.le_of_ble_eq_true rfl⟩ htab hlocks
set_option maxHeartbeats 4000000 in
set_option maxRecDepth 100000 in
/-- month out of range -/
theorem x2_X1_entitledUpTo (l : Launch) (dC : Nat → ClassId) (dI : Nat → Nat → Nat) (cI cJ cZ cO : ClassId) (ax : Nat → Nat) (ao : Nat → Option Nat) (n mo : Nat) (iv : Nat → Int32) (aa an : Nat → Nat) (kp : Int64) (py : Nat → Int64) (k : Nat) (p1 : Int32) (hst : l.stackTraces = false) (hv : jV an) (hm : mo ≤ 240) (hk : k < 20) (hao : ao k = some (aa 0)) (h : p1 < nI 0 ∨ nI 239 < p1) : vx_Met l yX1_entitledUpTo wsX1_entitledUpTo ({ frames := 8, cells := 1, slots := 6, locals := 124 }) (va_Pc [.ref (ax 0), .int (nI k), .int p1] (jRX (dC, dI) (jTY cI cJ cZ cO) (jFW cI cJ cO ax ao n mo iv aa an kp py))) (jFQ) (jXC eA) 1 6 (fun _ => False) := by
  refine j_ofx (cc := cX1_entitledUpTo) (maxL := 4) (ret := (some .long)) (by decide) rfl (Nat.le_of_ble_eq_true rfl) ?_
  intro p e s m below meth c ls hx hb hr hml hts hown hlocks htab hl hpre
  have hown : s.vm.findClass RX1 = some m.cls := hown
  have hl : lv_has ls 4 [(0, .ref (ax 0)), (1, .int (nI k)), (2, .int p1)] := hl
  obtain ⟨v0, v1, v2, v3, v4, v5, v6, v7, v8, v9⟩ := id hv
  obtain ⟨⟨hP, hK⟩, hX⟩ := hpre
  refine lv_aload_n hx hb dX1_entitledUpTo_0 rfl (lv_at hl 0 rfl) ?_
  refine lv_iload_n hx hb dX1_entitledUpTo_1 rfl (lv_at hl 1 rfl) ?_
  refine j_cR_ (As := [.int (nI k)]) (rest := []) ⟨hx, hb, hml, hown, hts⟩ (c_X1_find l dC dI cI cJ cZ cO ax ao n mo k (aa 0) hk hao) (cwV 1 hts gX1_entitledUpTo_X1_find rfl rfl rfl (by decide +kernel) ⟨Nat.le_of_ble_eq_true rfl, Nat.le_of_ble_eq_true rfl⟩) (jR_V hK hP [0, 1] rfl (ci := 1) (q0 := 0) rfl rfl rfl) rfl hl rfl (Nat.le_of_ble_eq_true rfl) dX1_entitledUpTo_2 ⟨Nat.le_of_ble_eq_true rfl, Nat.le_of_ble_eq_true rfl⟩ ?_
  refine lv_astore_n (lv' := [(3, .ref (aa 0)), (0, .ref (ax 0)), (1, .int (nI k)), (2, .int p1)]) hx hb dX1_entitledUpTo_5 rfl hl (by decide) rfl (fun ls hl => ?_)
  refine lv_iload_n hx hb dX1_entitledUpTo_6 rfl (lv_at hl 3 rfl) ?_
  exact j_bxS (As := [.int p1]) (rest := []) ⟨hx, hb, hml, hown, hts⟩ (x_X1_requireMonth l dC dI p1 hst h) (cwS 1 hts gX1_entitledUpTo_X1_requireMonth rfl rfl rfl (by decide +kernel) ⟨Nat.le_of_ble_eq_true rfl, Nat.le_of_ble_eq_true rfl⟩) (jX_S hX) rfl hl rfl (Nat.le_of_ble_eq_true rfl) dX1_entitledUpTo_7 ⟨Nat.le_of_ble_eq_true rfl, Nat.le_of_ble_eq_true rfl⟩ htab hlocks
set_option maxHeartbeats 4000000 in
set_option maxRecDepth 100000 in
/-- its start has been run -/
theorem x3_X1_setSurvivor (l : Launch) (dC : Nat → ClassId) (dI : Nat → Nat → Nat) (cI cJ cZ cO : ClassId) (ax : Nat → Nat) (ao : Nat → Option Nat) (n mo : Nat) (iv : Nat → Int32) (aa an : Nat → Nat) (kp : Int64) (py : Nat → Int64) (k : Nat) (v : Nat) (p2 : Int32) (hst : l.stackTraces = false) (hv : jV an) (hm : mo ≤ 240) (hk : k < 20) (hao : ao k = some (aa 0)) (h1 : v ≤ 100) (hs : an 0 < mo) : vx_Met l yX1_setSurvivor wsX1_setSurvivor ({ frames := 7, cells := 1, slots := 6, locals := 103 }) (va_Pc [.ref (ax 0), .int (nI k), .int (nI v), .int p2] (jRX (dC, dI) (jTY cI cJ cZ cO) (jFW cI cJ cO ax ao n mo iv aa an kp py))) (jFQ) (jXC eS) 1 6 (fun _ => False) := by
  refine j_ofx (cc := cX1_setSurvivor) (maxL := 5) (ret := none) (by decide) rfl (Nat.le_of_ble_eq_true rfl) ?_
  intro p e s m below meth c ls hx hb hr hml hts hown hlocks htab hl hpre
  have hown : s.vm.findClass RX1 = some m.cls := hown
  have hl : lv_has ls 5 [(0, .ref (ax 0)), (1, .int (nI k)), (2, .int (nI v)), (3, .int p2)] := hl
  obtain ⟨v0, v1, v2, v3, v4, v5, v6, v7, v8, v9⟩ := id hv
  obtain ⟨⟨hP, hK⟩, hX⟩ := hpre
  refine lv_aload_n hx hb dX1_setSurvivor_0 rfl (lv_at hl 0 rfl) ?_
  refine lv_iload_n hx hb dX1_setSurvivor_1 rfl (lv_at hl 1 rfl) ?_
  refine j_cR_ (As := [.int (nI k)]) (rest := []) ⟨hx, hb, hml, hown, hts⟩ (c_X1_find l dC dI cI cJ cZ cO ax ao n mo k (aa 0) hk hao) (cwV 1 hts gX1_setSurvivor_X1_find rfl rfl rfl (by decide +kernel) ⟨Nat.le_of_ble_eq_true rfl, Nat.le_of_ble_eq_true rfl⟩) (jR_V hK hP [0, 1] rfl (ci := 1) (q0 := 0) rfl rfl rfl) rfl hl rfl (Nat.le_of_ble_eq_true rfl) dX1_setSurvivor_2 ⟨Nat.le_of_ble_eq_true rfl, Nat.le_of_ble_eq_true rfl⟩ ?_
  refine lv_astore (lv' := [(4, .ref (aa 0)), (0, .ref (ax 0)), (1, .int (nI k)), (2, .int (nI v)), (3, .int p2)]) hx hb dX1_setSurvivor_5 hl (by decide) rfl (fun ls hl => ?_)
  refine lv_iload_n hx hb dX1_setSurvivor_7 rfl (lv_at hl 3 rfl) ?_
  refine lv_iconst (v := nI 0) hx hb dX1_setSurvivor_8 (by decide) ?_
  refine lv_bipush (v := nI 100) hx hb dX1_setSurvivor_9 (by decide) ?_
  refine j_sV (As := [.int (nI v), .int (nI 0), .int (nI 100)]) (rest := []) ⟨hx, hb, hml, hown, hts⟩ (c_X1_requireRange l dC dI (nI v) (nI 0) (nI 100) (nI_nlt (by omega) (by omega)) (nI_nlt (by omega) (by omega))) (cwS 3 hts gX1_setSurvivor_X1_requireRange rfl rfl rfl (by decide +kernel) ⟨Nat.le_of_ble_eq_true rfl, Nat.le_of_ble_eq_true rfl⟩) rfl hl rfl (Nat.le_of_ble_eq_true rfl) dX1_setSurvivor_11 ⟨Nat.le_of_ble_eq_true rfl, Nat.le_of_ble_eq_true rfl⟩ ?_
  refine lv_aload_n hx hb dX1_setSurvivor_14 rfl (lv_at hl 1 rfl) ?_
  refine lv_aload hx hb dX1_setSurvivor_15 (lv_at hl 0 rfl) ?_
  exact j_bxV (As := [.ref (aa 0)]) (rest := []) ⟨hx, hb, hml, hown, hts⟩ (x_X1_requireStartNotRun l dC dI cI cJ cZ cO ax n mo aa an kp hst v0 hm hs) (cwV 1 hts gX1_setSurvivor_X1_requireStartNotRun rfl rfl rfl (by decide +kernel) ⟨Nat.le_of_ble_eq_true rfl, Nat.le_of_ble_eq_true rfl⟩) (jRX_V hX hK hP [0, 3] rfl (ci := 1) (q0 := 0) rfl rfl rfl) rfl hl rfl (Nat.le_of_ble_eq_true rfl) dX1_setSurvivor_17 ⟨Nat.le_of_ble_eq_true rfl, Nat.le_of_ble_eq_true rfl⟩ htab hlocks
set_option maxHeartbeats 4000000 in
set_option maxRecDepth 100000 in
/-- its start has been run -/
theorem x3_X1_setCap (l : Launch) (dC : Nat → ClassId) (dI : Nat → Nat → Nat) (cI cJ cZ cO : ClassId) (ax : Nat → Nat) (ao : Nat → Option Nat) (n mo : Nat) (iv : Nat → Int32) (aa an : Nat → Nat) (kp : Int64) (py : Nat → Int64) (k : Nat) (v : Nat) (hst : l.stackTraces = false) (hv : jV an) (hm : mo ≤ 240) (hk : k < 20) (hao : ao k = some (aa 0)) (h1 : v ≤ 200) (hs : an 0 < mo) : vx_Met l yX1_setCap wsX1_setCap ({ frames := 7, cells := 1, slots := 6, locals := 103 }) (va_Pc [.ref (ax 0), .int (nI k), .int (nI v)] (jRX (dC, dI) (jTY cI cJ cZ cO) (jFW cI cJ cO ax ao n mo iv aa an kp py))) (jFQ) (jXC eS) 1 6 (fun _ => False) := by
  refine j_ofx (cc := cX1_setCap) (maxL := 4) (ret := none) (by decide) rfl (Nat.le_of_ble_eq_true rfl) ?_
  intro p e s m below meth c ls hx hb hr hml hts hown hlocks htab hl hpre
  have hown : s.vm.findClass RX1 = some m.cls := hown
  have hl : lv_has ls 4 [(0, .ref (ax 0)), (1, .int (nI k)), (2, .int (nI v))] := hl
  obtain ⟨v0, v1, v2, v3, v4, v5, v6, v7, v8, v9⟩ := id hv
  obtain ⟨⟨hP, hK⟩, hX⟩ := hpre
  refine lv_aload_n hx hb dX1_setCap_0 rfl (lv_at hl 0 rfl) ?_
  refine lv_iload_n hx hb dX1_setCap_1 rfl (lv_at hl 1 rfl) ?_
  refine j_cR_ (As := [.int (nI k)]) (rest := []) ⟨hx, hb, hml, hown, hts⟩ (c_X1_find l dC dI cI cJ cZ cO ax ao n mo k (aa 0) hk hao) (cwV 1 hts gX1_setCap_X1_find rfl rfl rfl (by decide +kernel) ⟨Nat.le_of_ble_eq_true rfl, Nat.le_of_ble_eq_true rfl⟩) (jR_V hK hP [0, 1] rfl (ci := 1) (q0 := 0) rfl rfl rfl) rfl hl rfl (Nat.le_of_ble_eq_true rfl) dX1_setCap_2 ⟨Nat.le_of_ble_eq_true rfl, Nat.le_of_ble_eq_true rfl⟩ ?_
  refine lv_astore_n (lv' := [(3, .ref (aa 0)), (0, .ref (ax 0)), (1, .int (nI k)), (2, .int (nI v))]) hx hb dX1_setCap_5 rfl hl (by decide) rfl (fun ls hl => ?_)
  refine lv_iload_n hx hb dX1_setCap_6 rfl (lv_at hl 3 rfl) ?_
  refine lv_iconst (v := nI 0) hx hb dX1_setCap_7 (by decide) ?_
  refine lv_sipush (v := nI 200) hx hb dX1_setCap_8 (by decide) ?_
  refine j_sV (As := [.int (nI v), .int (nI 0), .int (nI 200)]) (rest := []) ⟨hx, hb, hml, hown, hts⟩ (c_X1_requireRange l dC dI (nI v) (nI 0) (nI 200) (nI_nlt (by omega) (by omega)) (nI_nlt (by omega) (by omega))) (cwS 3 hts gX1_setCap_X1_requireRange rfl rfl rfl (by decide +kernel) ⟨Nat.le_of_ble_eq_true rfl, Nat.le_of_ble_eq_true rfl⟩) rfl hl rfl (Nat.le_of_ble_eq_true rfl) dX1_setCap_11 ⟨Nat.le_of_ble_eq_true rfl, Nat.le_of_ble_eq_true rfl⟩ ?_
  refine lv_aload_n hx hb dX1_setCap_14 rfl (lv_at hl 1 rfl) ?_
  refine lv_aload_n hx hb dX1_setCap_15 rfl (lv_at hl 0 rfl) ?_
  exact j_bxV (As := [.ref (aa 0)]) (rest := []) ⟨hx, hb, hml, hown, hts⟩ (x_X1_requireStartNotRun l dC dI cI cJ cZ cO ax n mo aa an kp hst v0 hm hs) (cwV 1 hts gX1_setCap_X1_requireStartNotRun rfl rfl rfl (by decide +kernel) ⟨Nat.le_of_ble_eq_true rfl, Nat.le_of_ble_eq_true rfl⟩) (jRX_V hX hK hP [0, 3] rfl (ci := 1) (q0 := 0) rfl rfl rfl) rfl hl rfl (Nat.le_of_ble_eq_true rfl) dX1_setCap_16 ⟨Nat.le_of_ble_eq_true rfl, Nat.le_of_ble_eq_true rfl⟩ htab hlocks
set_option maxHeartbeats 4000000 in
set_option maxRecDepth 100000 in
/-- its start has been run -/
theorem x3_X1_protect (l : Launch) (dC : Nat → ClassId) (dI : Nat → Nat → Nat) (cI cJ cZ cO : ClassId) (ax : Nat → Nat) (ao : Nat → Option Nat) (n mo : Nat) (iv : Nat → Int32) (aa an : Nat → Nat) (kp : Int64) (py : Nat → Int64) (k : Nat) (v w : Nat) (hst : l.stackTraces = false) (hv : jV an) (hm : mo ≤ 240) (hk : k < 20) (hao : ao k = some (aa 0)) (h1 : v ≤ 10000000) (h2 : w ≤ 100) (hs : an 0 < mo) : vx_Met l yX1_protect wsX1_protect ({ frames := 7, cells := 1, slots := 6, locals := 103 }) (va_Pc [.ref (ax 0), .int (nI k), .int (nI v), .int (nI w)] (jRX (dC, dI) (jTY cI cJ cZ cO) (jFW cI cJ cO ax ao n mo iv aa an kp py))) (jFQ) (jXC eS) 1 6 (fun _ => False) := by
  refine j_ofx (cc := cX1_protect) (maxL := 5) (ret := none) (by decide) rfl (Nat.le_of_ble_eq_true rfl) ?_
  intro p e s m below meth c ls hx hb hr hml hts hown hlocks htab hl hpre
  have hown : s.vm.findClass RX1 = some m.cls := hown
  have hl : lv_has ls 5 [(0, .ref (ax 0)), (1, .int (nI k)), (2, .int (nI v)), (3, .int (nI w))] := hl
  obtain ⟨v0, v1, v2, v3, v4, v5, v6, v7, v8, v9⟩ := id hv
  obtain ⟨⟨hP, hK⟩, hX⟩ := hpre
  refine lv_aload_n hx hb dX1_protect_0 rfl (lv_at hl 0 rfl) ?_
  refine lv_iload_n hx hb dX1_protect_1 rfl (lv_at hl 1 rfl) ?_
  refine j_cR_ (As := [.int (nI k)]) (rest := []) ⟨hx, hb, hml, hown, hts⟩ (c_X1_find l dC dI cI cJ cZ cO ax ao n mo k (aa 0) hk hao) (cwV 1 hts gX1_protect_X1_find rfl rfl rfl (by decide +kernel) ⟨Nat.le_of_ble_eq_true rfl, Nat.le_of_ble_eq_true rfl⟩) (jR_V hK hP [0, 1] rfl (ci := 1) (q0 := 0) rfl rfl rfl) rfl hl rfl (Nat.le_of_ble_eq_true rfl) dX1_protect_2 ⟨Nat.le_of_ble_eq_true rfl, Nat.le_of_ble_eq_true rfl⟩ ?_
  refine lv_astore (lv' := [(4, .ref (aa 0)), (0, .ref (ax 0)), (1, .int (nI k)), (2, .int (nI v)), (3, .int (nI w))]) hx hb dX1_protect_5 hl (by decide) rfl (fun ls hl => ?_)
  refine lv_iload_n hx hb dX1_protect_7 rfl (lv_at hl 3 rfl) ?_
  refine lv_iconst (v := nI 0) hx hb dX1_protect_8 (by decide) ?_
  refine lv_ldc hx hb hown (hts (.constant RX1 62 (10000000)) (List.mem_of_getElem? (i := 1) rfl)) dX1_protect_9 ?_
  refine j_i (y := nI 10000000) (by decide +kernel) ?_
  refine j_sV (As := [.int (nI v), .int (nI 0), .int (nI 10000000)]) (rest := []) ⟨hx, hb, hml, hown, hts⟩ (c_X1_requireRange l dC dI (nI v) (nI 0) (nI 10000000) (nI_nlt (by omega) (by omega)) (nI_nlt (by omega) (by omega))) (cwS 3 hts gX1_protect_X1_requireRange rfl rfl rfl (by decide +kernel) ⟨Nat.le_of_ble_eq_true rfl, Nat.le_of_ble_eq_true rfl⟩) rfl hl rfl (Nat.le_of_ble_eq_true rfl) dX1_protect_11 ⟨Nat.le_of_ble_eq_true rfl, Nat.le_of_ble_eq_true rfl⟩ ?_
  refine lv_iload_n hx hb dX1_protect_14 rfl (lv_at hl 4 rfl) ?_
  refine lv_iconst (v := nI 0) hx hb dX1_protect_15 (by decide) ?_
  refine lv_bipush (v := nI 100) hx hb dX1_protect_16 (by decide) ?_
  refine j_sV (As := [.int (nI w), .int (nI 0), .int (nI 100)]) (rest := []) ⟨hx, hb, hml, hown, hts⟩ (c_X1_requireRange l dC dI (nI w) (nI 0) (nI 100) (nI_nlt (by omega) (by omega)) (nI_nlt (by omega) (by omega))) (cwS 3 hts gX1_protect_X1_requireRange rfl rfl rfl (by decide +kernel) ⟨Nat.le_of_ble_eq_true rfl, Nat.le_of_ble_eq_true rfl⟩) rfl hl rfl (Nat.le_of_ble_eq_true rfl) dX1_protect_18 ⟨Nat.le_of_ble_eq_true rfl, Nat.le_of_ble_eq_true rfl⟩ ?_
  refine lv_aload_n hx hb dX1_protect_21 rfl (lv_at hl 1 rfl) ?_
  refine lv_aload hx hb dX1_protect_22 (lv_at hl 0 rfl) ?_
  exact j_bxV (As := [.ref (aa 0)]) (rest := []) ⟨hx, hb, hml, hown, hts⟩ (x_X1_requireStartNotRun l dC dI cI cJ cZ cO ax n mo aa an kp hst v0 hm hs) (cwV 1 hts gX1_protect_X1_requireStartNotRun rfl rfl rfl (by decide +kernel) ⟨Nat.le_of_ble_eq_true rfl, Nat.le_of_ble_eq_true rfl⟩) (jRX_V hX hK hP [0, 3] rfl (ci := 1) (q0 := 0) rfl rfl rfl) rfl hl rfl (Nat.le_of_ble_eq_true rfl) dX1_protect_24 ⟨Nat.le_of_ble_eq_true rfl, Nat.le_of_ble_eq_true rfl⟩ htab hlocks
set_option maxHeartbeats 4000000 in
set_option maxRecDepth 100000 in
/-- its death has been told -/
theorem x3_0_X1_die (l : Launch) (dC : Nat → ClassId) (dI : Nat → Nat → Nat) (cI cJ cZ cO : ClassId) (ax : Nat → Nat) (ao : Nat → Option Nat) (n mo : Nat) (iv : Nat → Int32) (aa an : Nat → Nat) (kp : Int64) (py : Nat → Int64) (k : Nat) (v : Nat) (hst : l.stackTraces = false) (hv : jV an) (hm : mo ≤ 240) (hk : k < 20) (hao : ao k = some (aa 0)) (h1 : v ≤ mo) (h2 : v ≤ 239) (ht9 : an 8 ≠ 240) : vx_Met l yX1_die wsX1_die ({ frames := 6, cells := 1, slots := 6, locals := 82 }) (va_Pc [.ref (ax 0), .int (nI k), .int (nI 0), .int (nI v)] (jRX (dC, dI) (jTY cI cJ cZ cO) (jFW cI cJ cO ax ao n mo iv aa an kp py))) (jFQ) (jXC eS) 1 6 (fun _ => False) := by
  refine j_ofx (cc := cX1_die) (maxL := 5) (ret := none) (by decide) rfl (Nat.le_of_ble_eq_true rfl) ?_
  intro p e s m below meth c ls hx hb hr hml hts hown hlocks htab hl hpre
  have hown : s.vm.findClass RX1 = some m.cls := hown
  have hl : lv_has ls 5 [(0, .ref (ax 0)), (1, .int (nI k)), (2, .int (nI 0)), (3, .int (nI v))] := hl
  obtain ⟨v0, v1, v2, v3, v4, v5, v6, v7, v8, v9⟩ := id hv
  obtain ⟨⟨hP, hK⟩, hX⟩ := hpre
  refine lv_aload_n hx hb dX1_die_0 rfl (lv_at hl 0 rfl) ?_
  refine lv_iload_n hx hb dX1_die_1 rfl (lv_at hl 1 rfl) ?_
  refine j_cR_ (As := [.int (nI k)]) (rest := []) ⟨hx, hb, hml, hown, hts⟩ (c_X1_find l dC dI cI cJ cZ cO ax ao n mo k (aa 0) hk hao) (cwV 1 hts gX1_die_X1_find rfl rfl rfl (by decide +kernel) ⟨Nat.le_of_ble_eq_true rfl, Nat.le_of_ble_eq_true rfl⟩) (jR_V hK hP [0, 1] rfl (ci := 1) (q0 := 0) rfl rfl rfl) rfl hl rfl (Nat.le_of_ble_eq_true rfl) dX1_die_2 ⟨Nat.le_of_ble_eq_true rfl, Nat.le_of_ble_eq_true rfl⟩ ?_
  refine lv_astore (lv' := [(4, .ref (aa 0)), (0, .ref (ax 0)), (1, .int (nI k)), (2, .int (nI 0)), (3, .int (nI v))]) hx hb dX1_die_5 hl (by decide) rfl (fun ls hl => ?_)
  refine lv_iload_n hx hb dX1_die_7 rfl (lv_at hl 3 rfl) ?_
  refine lv_iconst (v := nI 0) hx hb dX1_die_8 (by decide) ?_
  refine lv_iconst (v := nI 1) hx hb dX1_die_9 (by decide) ?_
  refine j_sV (As := [.int (nI 0), .int (nI 0), .int (nI 1)]) (rest := []) ⟨hx, hb, hml, hown, hts⟩ (c_X1_requireRange l dC dI (nI 0) (nI 0) (nI 1) (nI_nlt (by omega) (by omega)) (nI_nlt (by omega) (by omega))) (cwS 3 hts gX1_die_X1_requireRange rfl rfl rfl (by decide +kernel) ⟨Nat.le_of_ble_eq_true rfl, Nat.le_of_ble_eq_true rfl⟩) rfl hl rfl (Nat.le_of_ble_eq_true rfl) dX1_die_10 ⟨Nat.le_of_ble_eq_true rfl, Nat.le_of_ble_eq_true rfl⟩ ?_
  refine lv_iload_n hx hb dX1_die_13 rfl (lv_at hl 4 rfl) ?_
  refine lv_iconst (v := nI 0) hx hb dX1_die_14 (by decide) ?_
  refine lv_aload_n hx hb dX1_die_15 rfl (lv_at hl 1 rfl) ?_
  refine va_get (D := (dC, dI)) (ci := 1) (v := .int (nI mo)) (C := RX1) (T := TX1) (N := 4) hx hb hts (fun _ h => List.mem_cons_of_mem _ (List.mem_append_left _ (List.mem_append_left _ (List.mem_append_left _ (List.mem_append_left _ (List.mem_append_right _ h)))))) hown hK hP 0 rfl rfl 3 (by decide) (hts (.fieldLink RX1 23 "JointAnnuity" "monthThatGoesOn" "I") (List.mem_of_getElem? (i := 3) rfl)) (fun _ h9 => h9) rfl dX1_die_16 ?_
  refine lv_sipush (v := nI 239) hx hb dX1_die_19 (by decide) ?_
  refine va_mmin hx hb (hml.trans hl.1.symm) hown (hts (.methodLink RX1 69 Lib.Math.min.name) (List.mem_of_getElem? (i := 4) rfl)) (hts (.static Lib.Math.min.name) (List.mem_of_getElem? (i := 5) rfl)) (hts (.initialized "java/lang/Math") (List.mem_of_getElem? (i := 6) rfl)) (hts (.code Lib.Math.min.name Lib.Math.min.code 2 (some .int)) (List.mem_of_getElem? (i := 7) rfl)) (Nat.le_of_ble_eq_true rfl) (Nat.le_of_ble_eq_true rfl) (Nat.le_of_ble_eq_true rfl) (Nat.le_of_ble_eq_true rfl) dX1_die_22 ?_
  refine j_i (y := nI (min mo 239)) (jminI (by omega) (by omega)) ?_
  refine j_sV (As := [.int (nI v), .int (nI 0), .int (nI (min mo 239))]) (rest := []) ⟨hx, hb, hml, hown, hts⟩ (c_X1_requireRange l dC dI (nI v) (nI 0) (nI (min mo 239)) (nI_nlt (by omega) (by omega)) (nI_nlt (by omega) (by omega))) (cwS 3 hts gX1_die_X1_requireRange rfl rfl rfl (by decide +kernel) ⟨Nat.le_of_ble_eq_true rfl, Nat.le_of_ble_eq_true rfl⟩) rfl hl rfl (Nat.le_of_ble_eq_true rfl) dX1_die_25 ⟨Nat.le_of_ble_eq_true rfl, Nat.le_of_ble_eq_true rfl⟩ ?_
  refine lv_aload hx hb dX1_die_28 (lv_at hl 0 rfl) ?_
  refine va_get (D := (dC, dI)) (ci := 0) (v := .ref (aa 1)) (C := RX0) (T := TX0) (N := 13) hx hb hts (fun _ h => List.mem_cons_of_mem _ (List.mem_append_left _ (List.mem_append_left _ (List.mem_append_left _ (List.mem_append_right _ h))))) hown hK hP 3 rfl rfl 8 (by decide) (hts (.fieldLink RX1 75 "JointAnnuity$Annuity" "deaths" "[I") (List.mem_of_getElem? (i := 8) rfl)) (fun _ h9 => h9) rfl dX1_die_30 ?_
  refine lv_iload_n hx hb dX1_die_33 rfl (lv_at hl 3 rfl) ?_
  refine va_iald hx hb hK hP 4 0 (f := fun j => nI (if j = 0 then an 8 else an 9)) rfl rfl (vp_in_nI (n := 0) (N := 2) (by omega) (by omega)) dX1_die_34 ?_
  refine j_i (y := nI (an 8)) (jd0 _ _) ?_
  refine lv_sipush (v := nI 240) hx hb dX1_die_35 (by decide) ?_
  refine lv_icmp_eq (tgt := 51) hx hb dX1_die_38 (by decide) (fun c_38 => ?_) (fun c_38 => ?_)
  · have c_38 : an 8 = 240 := (nI_eq (a := an 8) (b := 240) (by omega) (by omega)).mp c_38
    omega
  · have c_38 : ¬ (an 8 = 240) := fun h => c_38 ((nI_eq (a := an 8) (b := 240) (by omega) (by omega)).mpr h)
    exact j_throw (E := eS) hx hb hst hown (by decide +kernel) (by simp) (hts (.classLink RX1 31 "java/lang/IllegalStateException") (List.mem_of_getElem? (i := 1) rfl)) (hts (.initialized "java/lang/IllegalStateException") (List.mem_of_getElem? (i := 2) rfl)) (fun w h => hts w (List.mem_cons_of_mem _ (List.mem_append_left _ (List.mem_append_left _ (List.mem_append_right _ h))))) jgS jbS hX (List.mem_of_getElem? (i := 1) rfl) hl hml dX1_die_41 dX1_die_44 dX1_die_45 dX1_die_47 dX1_die_50 htab (Nat.le_of_ble_eq_true rfl) (Nat.le_of_ble_eq_true rfl) (Nat.le_of_ble_eq_true rfl) (Nat.le_of_ble_eq_true rfl) hlocks
set_option maxHeartbeats 4000000 in
set_option maxRecDepth 100000 in
/-- its death has not been told -/
theorem x3_0_X1_takeBack (l : Launch) (dC : Nat → ClassId) (dI : Nat → Nat → Nat) (cI cJ cZ cO : ClassId) (ax : Nat → Nat) (ao : Nat → Option Nat) (n mo : Nat) (iv : Nat → Int32) (aa an : Nat → Nat) (kp : Int64) (py : Nat → Int64) (k : Nat) (hst : l.stackTraces = false) (hv : jV an) (hm : mo ≤ 240) (hk : k < 20) (hao : ao k = some (aa 0)) (ht9 : an 8 = 240) : vx_Met l yX1_takeBack wsX1_takeBack ({ frames := 6, cells := 1, slots := 6, locals := 82 }) (va_Pc [.ref (ax 0), .int (nI k), .int (nI 0)] (jRX (dC, dI) (jTY cI cJ cZ cO) (jFW cI cJ cO ax ao n mo iv aa an kp py))) (jFQ) (jXC eS) 1 6 (fun _ => False) := by
  refine j_ofx (cc := cX1_takeBack) (maxL := 5) (ret := (some .int)) (by decide) rfl (Nat.le_of_ble_eq_true rfl) ?_
  intro p e s m below meth c ls hx hb hr hml hts hown hlocks htab hl hpre
  have hown : s.vm.findClass RX1 = some m.cls := hown
  have hl : lv_has ls 5 [(0, .ref (ax 0)), (1, .int (nI k)), (2, .int (nI 0))] := hl
  obtain ⟨v0, v1, v2, v3, v4, v5, v6, v7, v8, v9⟩ := id hv
  obtain ⟨⟨hP, hK⟩, hX⟩ := hpre
  refine lv_aload_n hx hb dX1_takeBack_0 rfl (lv_at hl 0 rfl) ?_
  refine lv_iload_n hx hb dX1_takeBack_1 rfl (lv_at hl 1 rfl) ?_
  refine j_cR_ (As := [.int (nI k)]) (rest := []) ⟨hx, hb, hml, hown, hts⟩ (c_X1_find l dC dI cI cJ cZ cO ax ao n mo k (aa 0) hk hao) (cwV 1 hts gX1_takeBack_X1_find rfl rfl rfl (by decide +kernel) ⟨Nat.le_of_ble_eq_true rfl, Nat.le_of_ble_eq_true rfl⟩) (jR_V hK hP [0, 1] rfl (ci := 1) (q0 := 0) rfl rfl rfl) rfl hl rfl (Nat.le_of_ble_eq_true rfl) dX1_takeBack_2 ⟨Nat.le_of_ble_eq_true rfl, Nat.le_of_ble_eq_true rfl⟩ ?_
  refine lv_astore_n (lv' := [(3, .ref (aa 0)), (0, .ref (ax 0)), (1, .int (nI k)), (2, .int (nI 0))]) hx hb dX1_takeBack_5 rfl hl (by decide) rfl (fun ls hl => ?_)
  refine lv_iload_n hx hb dX1_takeBack_6 rfl (lv_at hl 3 rfl) ?_
  refine lv_iconst (v := nI 0) hx hb dX1_takeBack_7 (by decide) ?_
  refine lv_iconst (v := nI 1) hx hb dX1_takeBack_8 (by decide) ?_
  refine j_sV (As := [.int (nI 0), .int (nI 0), .int (nI 1)]) (rest := []) ⟨hx, hb, hml, hown, hts⟩ (c_X1_requireRange l dC dI (nI 0) (nI 0) (nI 1) (nI_nlt (by omega) (by omega)) (nI_nlt (by omega) (by omega))) (cwS 3 hts gX1_takeBack_X1_requireRange rfl rfl rfl (by decide +kernel) ⟨Nat.le_of_ble_eq_true rfl, Nat.le_of_ble_eq_true rfl⟩) rfl hl rfl (Nat.le_of_ble_eq_true rfl) dX1_takeBack_9 ⟨Nat.le_of_ble_eq_true rfl, Nat.le_of_ble_eq_true rfl⟩ ?_
  refine lv_aload_n hx hb dX1_takeBack_12 rfl (lv_at hl 0 rfl) ?_
  refine va_get (D := (dC, dI)) (ci := 0) (v := .ref (aa 1)) (C := RX0) (T := TX0) (N := 13) hx hb hts (fun _ h => List.mem_cons_of_mem _ (List.mem_append_left _ (List.mem_append_left _ (List.mem_append_left _ (List.mem_append_left _ (List.mem_append_right _ h)))))) hown hK hP 3 rfl rfl 8 (by decide) (hts (.fieldLink RX1 75 "JointAnnuity$Annuity" "deaths" "[I") (List.mem_of_getElem? (i := 3) rfl)) (fun _ h9 => h9) rfl dX1_takeBack_13 ?_
  refine lv_iload_n hx hb dX1_takeBack_16 rfl (lv_at hl 3 rfl) ?_
  refine va_iald hx hb hK hP 4 0 (f := fun j => nI (if j = 0 then an 8 else an 9)) rfl rfl (vp_in_nI (n := 0) (N := 2) (by omega) (by omega)) dX1_takeBack_17 ?_
  refine j_i (y := nI (an 8)) (jd0 _ _) ?_
  refine lv_istore (lv' := [(4, .int (nI (an 8))), (3, .ref (aa 0)), (0, .ref (ax 0)), (1, .int (nI k)), (2, .int (nI 0))]) hx hb dX1_takeBack_18 hl (by decide) rfl (fun ls hl => ?_)
  refine lv_iload hx hb dX1_takeBack_20 (lv_at hl 0 rfl) ?_
  refine lv_sipush (v := nI 240) hx hb dX1_takeBack_22 (by decide) ?_
  refine lv_icmp_ne (tgt := 38) hx hb dX1_takeBack_25 (by decide) (fun c_25 => ?_) (fun c_25 => ?_)
  · have c_25 : ¬ (an 8 = 240) := fun h => c_25 ((nI_eq (a := an 8) (b := 240) (by omega) (by omega)).mpr h)
    omega
  · have c_25 : an 8 = 240 := (nI_eq (a := an 8) (b := 240) (by omega) (by omega)).mp c_25
    exact j_throw (E := eS) hx hb hst hown (by decide +kernel) (by simp) (hts (.classLink RX1 31 "java/lang/IllegalStateException") (List.mem_of_getElem? (i := 1) rfl)) (hts (.initialized "java/lang/IllegalStateException") (List.mem_of_getElem? (i := 2) rfl)) (fun w h => hts w (List.mem_cons_of_mem _ (List.mem_append_left _ (List.mem_append_left _ (List.mem_append_right _ h))))) jgS jbS hX (List.mem_of_getElem? (i := 2) rfl) hl hml dX1_takeBack_28 dX1_takeBack_31 dX1_takeBack_32 dX1_takeBack_34 dX1_takeBack_37 htab (Nat.le_of_ble_eq_true rfl) (Nat.le_of_ble_eq_true rfl) (Nat.le_of_ble_eq_true rfl) (Nat.le_of_ble_eq_true rfl) hlocks
set_option maxHeartbeats 4000000 in
set_option maxRecDepth 100000 in
/-- its death has been told -/
theorem x3_1_X1_die (l : Launch) (dC : Nat → ClassId) (dI : Nat → Nat → Nat) (cI cJ cZ cO : ClassId) (ax : Nat → Nat) (ao : Nat → Option Nat) (n mo : Nat) (iv : Nat → Int32) (aa an : Nat → Nat) (kp : Int64) (py : Nat → Int64) (k : Nat) (v : Nat) (hst : l.stackTraces = false) (hv : jV an) (hm : mo ≤ 240) (hk : k < 20) (hao : ao k = some (aa 0)) (h1 : v ≤ mo) (h2 : v ≤ 239) (ht9 : an 9 ≠ 240) : vx_Met l yX1_die wsX1_die ({ frames := 6, cells := 1, slots := 6, locals := 82 }) (va_Pc [.ref (ax 0), .int (nI k), .int (nI 1), .int (nI v)] (jRX (dC, dI) (jTY cI cJ cZ cO) (jFW cI cJ cO ax ao n mo iv aa an kp py))) (jFQ) (jXC eS) 1 6 (fun _ => False) := by
  refine j_ofx (cc := cX1_die) (maxL := 5) (ret := none) (by decide) rfl (Nat.le_of_ble_eq_true rfl) ?_
  intro p e s m below meth c ls hx hb hr hml hts hown hlocks htab hl hpre
  have hown : s.vm.findClass RX1 = some m.cls := hown
  have hl : lv_has ls 5 [(0, .ref (ax 0)), (1, .int (nI k)), (2, .int (nI 1)), (3, .int (nI v))] := hl
  obtain ⟨v0, v1, v2, v3, v4, v5, v6, v7, v8, v9⟩ := id hv
  obtain ⟨⟨hP, hK⟩, hX⟩ := hpre
  refine lv_aload_n hx hb dX1_die_0 rfl (lv_at hl 0 rfl) ?_
  refine lv_iload_n hx hb dX1_die_1 rfl (lv_at hl 1 rfl) ?_
  refine j_cR_ (As := [.int (nI k)]) (rest := []) ⟨hx, hb, hml, hown, hts⟩ (c_X1_find l dC dI cI cJ cZ cO ax ao n mo k (aa 0) hk hao) (cwV 1 hts gX1_die_X1_find rfl rfl rfl (by decide +kernel) ⟨Nat.le_of_ble_eq_true rfl, Nat.le_of_ble_eq_true rfl⟩) (jR_V hK hP [0, 1] rfl (ci := 1) (q0 := 0) rfl rfl rfl) rfl hl rfl (Nat.le_of_ble_eq_true rfl) dX1_die_2 ⟨Nat.le_of_ble_eq_true rfl, Nat.le_of_ble_eq_true rfl⟩ ?_
  refine lv_astore (lv' := [(4, .ref (aa 0)), (0, .ref (ax 0)), (1, .int (nI k)), (2, .int (nI 1)), (3, .int (nI v))]) hx hb dX1_die_5 hl (by decide) rfl (fun ls hl => ?_)
  refine lv_iload_n hx hb dX1_die_7 rfl (lv_at hl 3 rfl) ?_
  refine lv_iconst (v := nI 0) hx hb dX1_die_8 (by decide) ?_
  refine lv_iconst (v := nI 1) hx hb dX1_die_9 (by decide) ?_
  refine j_sV (As := [.int (nI 1), .int (nI 0), .int (nI 1)]) (rest := []) ⟨hx, hb, hml, hown, hts⟩ (c_X1_requireRange l dC dI (nI 1) (nI 0) (nI 1) (nI_nlt (by omega) (by omega)) (nI_nlt (by omega) (by omega))) (cwS 3 hts gX1_die_X1_requireRange rfl rfl rfl (by decide +kernel) ⟨Nat.le_of_ble_eq_true rfl, Nat.le_of_ble_eq_true rfl⟩) rfl hl rfl (Nat.le_of_ble_eq_true rfl) dX1_die_10 ⟨Nat.le_of_ble_eq_true rfl, Nat.le_of_ble_eq_true rfl⟩ ?_
  refine lv_iload_n hx hb dX1_die_13 rfl (lv_at hl 4 rfl) ?_
  refine lv_iconst (v := nI 0) hx hb dX1_die_14 (by decide) ?_
  refine lv_aload_n hx hb dX1_die_15 rfl (lv_at hl 1 rfl) ?_
  refine va_get (D := (dC, dI)) (ci := 1) (v := .int (nI mo)) (C := RX1) (T := TX1) (N := 4) hx hb hts (fun _ h => List.mem_cons_of_mem _ (List.mem_append_left _ (List.mem_append_left _ (List.mem_append_left _ (List.mem_append_left _ (List.mem_append_right _ h)))))) hown hK hP 0 rfl rfl 3 (by decide) (hts (.fieldLink RX1 23 "JointAnnuity" "monthThatGoesOn" "I") (List.mem_of_getElem? (i := 3) rfl)) (fun _ h9 => h9) rfl dX1_die_16 ?_
  refine lv_sipush (v := nI 239) hx hb dX1_die_19 (by decide) ?_
  refine va_mmin hx hb (hml.trans hl.1.symm) hown (hts (.methodLink RX1 69 Lib.Math.min.name) (List.mem_of_getElem? (i := 4) rfl)) (hts (.static Lib.Math.min.name) (List.mem_of_getElem? (i := 5) rfl)) (hts (.initialized "java/lang/Math") (List.mem_of_getElem? (i := 6) rfl)) (hts (.code Lib.Math.min.name Lib.Math.min.code 2 (some .int)) (List.mem_of_getElem? (i := 7) rfl)) (Nat.le_of_ble_eq_true rfl) (Nat.le_of_ble_eq_true rfl) (Nat.le_of_ble_eq_true rfl) (Nat.le_of_ble_eq_true rfl) dX1_die_22 ?_
  refine j_i (y := nI (min mo 239)) (jminI (by omega) (by omega)) ?_
  refine j_sV (As := [.int (nI v), .int (nI 0), .int (nI (min mo 239))]) (rest := []) ⟨hx, hb, hml, hown, hts⟩ (c_X1_requireRange l dC dI (nI v) (nI 0) (nI (min mo 239)) (nI_nlt (by omega) (by omega)) (nI_nlt (by omega) (by omega))) (cwS 3 hts gX1_die_X1_requireRange rfl rfl rfl (by decide +kernel) ⟨Nat.le_of_ble_eq_true rfl, Nat.le_of_ble_eq_true rfl⟩) rfl hl rfl (Nat.le_of_ble_eq_true rfl) dX1_die_25 ⟨Nat.le_of_ble_eq_true rfl, Nat.le_of_ble_eq_true rfl⟩ ?_
  refine lv_aload hx hb dX1_die_28 (lv_at hl 0 rfl) ?_
  refine va_get (D := (dC, dI)) (ci := 0) (v := .ref (aa 1)) (C := RX0) (T := TX0) (N := 13) hx hb hts (fun _ h => List.mem_cons_of_mem _ (List.mem_append_left _ (List.mem_append_left _ (List.mem_append_left _ (List.mem_append_right _ h))))) hown hK hP 3 rfl rfl 8 (by decide) (hts (.fieldLink RX1 75 "JointAnnuity$Annuity" "deaths" "[I") (List.mem_of_getElem? (i := 8) rfl)) (fun _ h9 => h9) rfl dX1_die_30 ?_
  refine lv_iload_n hx hb dX1_die_33 rfl (lv_at hl 3 rfl) ?_
  refine va_iald hx hb hK hP 4 0 (f := fun j => nI (if j = 0 then an 8 else an 9)) rfl rfl (vp_in_nI (n := 1) (N := 2) (by omega) (by omega)) dX1_die_34 ?_
  refine j_i (y := nI (an 9)) (jd1 _ _) ?_
  refine lv_sipush (v := nI 240) hx hb dX1_die_35 (by decide) ?_
  refine lv_icmp_eq (tgt := 51) hx hb dX1_die_38 (by decide) (fun c_38 => ?_) (fun c_38 => ?_)
  · have c_38 : an 9 = 240 := (nI_eq (a := an 9) (b := 240) (by omega) (by omega)).mp c_38
    omega
  · have c_38 : ¬ (an 9 = 240) := fun h => c_38 ((nI_eq (a := an 9) (b := 240) (by omega) (by omega)).mpr h)
    exact j_throw (E := eS) hx hb hst hown (by decide +kernel) (by simp) (hts (.classLink RX1 31 "java/lang/IllegalStateException") (List.mem_of_getElem? (i := 1) rfl)) (hts (.initialized "java/lang/IllegalStateException") (List.mem_of_getElem? (i := 2) rfl)) (fun w h => hts w (List.mem_cons_of_mem _ (List.mem_append_left _ (List.mem_append_left _ (List.mem_append_right _ h))))) jgS jbS hX (List.mem_of_getElem? (i := 1) rfl) hl hml dX1_die_41 dX1_die_44 dX1_die_45 dX1_die_47 dX1_die_50 htab (Nat.le_of_ble_eq_true rfl) (Nat.le_of_ble_eq_true rfl) (Nat.le_of_ble_eq_true rfl) (Nat.le_of_ble_eq_true rfl) hlocks
set_option maxHeartbeats 4000000 in
set_option maxRecDepth 100000 in
/-- its death has not been told -/
theorem x3_1_X1_takeBack (l : Launch) (dC : Nat → ClassId) (dI : Nat → Nat → Nat) (cI cJ cZ cO : ClassId) (ax : Nat → Nat) (ao : Nat → Option Nat) (n mo : Nat) (iv : Nat → Int32) (aa an : Nat → Nat) (kp : Int64) (py : Nat → Int64) (k : Nat) (hst : l.stackTraces = false) (hv : jV an) (hm : mo ≤ 240) (hk : k < 20) (hao : ao k = some (aa 0)) (ht9 : an 9 = 240) : vx_Met l yX1_takeBack wsX1_takeBack ({ frames := 6, cells := 1, slots := 6, locals := 82 }) (va_Pc [.ref (ax 0), .int (nI k), .int (nI 1)] (jRX (dC, dI) (jTY cI cJ cZ cO) (jFW cI cJ cO ax ao n mo iv aa an kp py))) (jFQ) (jXC eS) 1 6 (fun _ => False) := by
  refine j_ofx (cc := cX1_takeBack) (maxL := 5) (ret := (some .int)) (by decide) rfl (Nat.le_of_ble_eq_true rfl) ?_
  intro p e s m below meth c ls hx hb hr hml hts hown hlocks htab hl hpre
  have hown : s.vm.findClass RX1 = some m.cls := hown
  have hl : lv_has ls 5 [(0, .ref (ax 0)), (1, .int (nI k)), (2, .int (nI 1))] := hl
  obtain ⟨v0, v1, v2, v3, v4, v5, v6, v7, v8, v9⟩ := id hv
  obtain ⟨⟨hP, hK⟩, hX⟩ := hpre
  refine lv_aload_n hx hb dX1_takeBack_0 rfl (lv_at hl 0 rfl) ?_
  refine lv_iload_n hx hb dX1_takeBack_1 rfl (lv_at hl 1 rfl) ?_
  refine j_cR_ (As := [.int (nI k)]) (rest := []) ⟨hx, hb, hml, hown, hts⟩ (c_X1_find l dC dI cI cJ cZ cO ax ao n mo k (aa 0) hk hao) (cwV 1 hts gX1_takeBack_X1_find rfl rfl rfl (by decide +kernel) ⟨Nat.le_of_ble_eq_true rfl, Nat.le_of_ble_eq_true rfl⟩) (jR_V hK hP [0, 1] rfl (ci := 1) (q0 := 0) rfl rfl rfl) rfl hl rfl (Nat.le_of_ble_eq_true rfl) dX1_takeBack_2 ⟨Nat.le_of_ble_eq_true rfl, Nat.le_of_ble_eq_true rfl⟩ ?_
  refine lv_astore_n (lv' := [(3, .ref (aa 0)), (0, .ref (ax 0)), (1, .int (nI k)), (2, .int (nI 1))]) hx hb dX1_takeBack_5 rfl hl (by decide) rfl (fun ls hl => ?_)
  refine lv_iload_n hx hb dX1_takeBack_6 rfl (lv_at hl 3 rfl) ?_
  refine lv_iconst (v := nI 0) hx hb dX1_takeBack_7 (by decide) ?_
  refine lv_iconst (v := nI 1) hx hb dX1_takeBack_8 (by decide) ?_
  refine j_sV (As := [.int (nI 1), .int (nI 0), .int (nI 1)]) (rest := []) ⟨hx, hb, hml, hown, hts⟩ (c_X1_requireRange l dC dI (nI 1) (nI 0) (nI 1) (nI_nlt (by omega) (by omega)) (nI_nlt (by omega) (by omega))) (cwS 3 hts gX1_takeBack_X1_requireRange rfl rfl rfl (by decide +kernel) ⟨Nat.le_of_ble_eq_true rfl, Nat.le_of_ble_eq_true rfl⟩) rfl hl rfl (Nat.le_of_ble_eq_true rfl) dX1_takeBack_9 ⟨Nat.le_of_ble_eq_true rfl, Nat.le_of_ble_eq_true rfl⟩ ?_
  refine lv_aload_n hx hb dX1_takeBack_12 rfl (lv_at hl 0 rfl) ?_
  refine va_get (D := (dC, dI)) (ci := 0) (v := .ref (aa 1)) (C := RX0) (T := TX0) (N := 13) hx hb hts (fun _ h => List.mem_cons_of_mem _ (List.mem_append_left _ (List.mem_append_left _ (List.mem_append_left _ (List.mem_append_left _ (List.mem_append_right _ h)))))) hown hK hP 3 rfl rfl 8 (by decide) (hts (.fieldLink RX1 75 "JointAnnuity$Annuity" "deaths" "[I") (List.mem_of_getElem? (i := 3) rfl)) (fun _ h9 => h9) rfl dX1_takeBack_13 ?_
  refine lv_iload_n hx hb dX1_takeBack_16 rfl (lv_at hl 3 rfl) ?_
  refine va_iald hx hb hK hP 4 0 (f := fun j => nI (if j = 0 then an 8 else an 9)) rfl rfl (vp_in_nI (n := 1) (N := 2) (by omega) (by omega)) dX1_takeBack_17 ?_
  refine j_i (y := nI (an 9)) (jd1 _ _) ?_
  refine lv_istore (lv' := [(4, .int (nI (an 9))), (3, .ref (aa 0)), (0, .ref (ax 0)), (1, .int (nI k)), (2, .int (nI 1))]) hx hb dX1_takeBack_18 hl (by decide) rfl (fun ls hl => ?_)
  refine lv_iload hx hb dX1_takeBack_20 (lv_at hl 0 rfl) ?_
  refine lv_sipush (v := nI 240) hx hb dX1_takeBack_22 (by decide) ?_
  refine lv_icmp_ne (tgt := 38) hx hb dX1_takeBack_25 (by decide) (fun c_25 => ?_) (fun c_25 => ?_)
  · have c_25 : ¬ (an 9 = 240) := fun h => c_25 ((nI_eq (a := an 9) (b := 240) (by omega) (by omega)).mpr h)
    omega
  · have c_25 : an 9 = 240 := (nI_eq (a := an 9) (b := 240) (by omega) (by omega)).mp c_25
    exact j_throw (E := eS) hx hb hst hown (by decide +kernel) (by simp) (hts (.classLink RX1 31 "java/lang/IllegalStateException") (List.mem_of_getElem? (i := 1) rfl)) (hts (.initialized "java/lang/IllegalStateException") (List.mem_of_getElem? (i := 2) rfl)) (fun w h => hts w (List.mem_cons_of_mem _ (List.mem_append_left _ (List.mem_append_left _ (List.mem_append_right _ h))))) jgS jbS hX (List.mem_of_getElem? (i := 2) rfl) hl hml dX1_takeBack_28 dX1_takeBack_31 dX1_takeBack_32 dX1_takeBack_34 dX1_takeBack_37 htab (Nat.le_of_ble_eq_true rfl) (Nat.le_of_ble_eq_true rfl) (Nat.le_of_ble_eq_true rfl) (Nat.le_of_ble_eq_true rfl) hlocks
set_option maxHeartbeats 4000000 in
set_option maxRecDepth 100000 in
/-- it owes less -/
theorem x3_X1_giveBack (l : Launch) (dC : Nat → ClassId) (dI : Nat → Nat → Nat) (cI cJ cZ cO : ClassId) (ax : Nat → Nat) (ao : Nat → Option Nat) (n mo : Nat) (iv : Nat → Int32) (aa an : Nat → Nat) (kp : Int64) (py : Nat → Int64) (k : Nat) (v : Nat) (hst : l.stackTraces = false) (hv : jV an) (hm : mo ≤ 240) (hk : k < 20) (hao : ao k = some (aa 0)) (h1 : 1 ≤ v) (h2 : v ≤ 100000000) (ho : jmx (kp - lN (jU an iv mo)) < lN v) : vx_Met l yX1_giveBack wsX1_giveBack ({ frames := 6, cells := 1, slots := 6, locals := 137 }) (va_Pc [.ref (ax 0), .int (nI k), .int (nI v)] (jRX (dC, dI) (jTY cI cJ cZ cO) (jFW cI cJ cO ax ao n mo iv aa an kp py))) (jFQ) (jXC eS) 1 6 (fun _ => False) := by
  refine j_ofx (cc := cX1_giveBack) (maxL := 6) (ret := (some .long)) (by decide) rfl (Nat.le_of_ble_eq_true rfl) ?_
  intro p e s m below meth c ls hx hb hr hml hts hown hlocks htab hl hpre
  have hown : s.vm.findClass RX1 = some m.cls := hown
  have hl : lv_has ls 6 [(0, .ref (ax 0)), (1, .int (nI k)), (2, .int (nI v))] := hl
  obtain ⟨v0, v1, v2, v3, v4, v5, v6, v7, v8, v9⟩ := id hv
  obtain ⟨⟨hP, hK⟩, hX⟩ := hpre
  refine lv_aload_n hx hb dX1_giveBack_0 rfl (lv_at hl 0 rfl) ?_
  refine lv_iload_n hx hb dX1_giveBack_1 rfl (lv_at hl 1 rfl) ?_
  refine j_cR_ (As := [.int (nI k)]) (rest := []) ⟨hx, hb, hml, hown, hts⟩ (c_X1_find l dC dI cI cJ cZ cO ax ao n mo k (aa 0) hk hao) (cwV 1 hts gX1_giveBack_X1_find rfl rfl rfl (by decide +kernel) ⟨Nat.le_of_ble_eq_true rfl, Nat.le_of_ble_eq_true rfl⟩) (jR_V hK hP [0, 1] rfl (ci := 1) (q0 := 0) rfl rfl rfl) rfl hl rfl (Nat.le_of_ble_eq_true rfl) dX1_giveBack_2 ⟨Nat.le_of_ble_eq_true rfl, Nat.le_of_ble_eq_true rfl⟩ ?_
  refine lv_astore_n (lv' := [(3, .ref (aa 0)), (0, .ref (ax 0)), (1, .int (nI k)), (2, .int (nI v))]) hx hb dX1_giveBack_5 rfl hl (by decide) rfl (fun ls hl => ?_)
  refine lv_iload_n hx hb dX1_giveBack_6 rfl (lv_at hl 3 rfl) ?_
  refine lv_iconst (v := nI 1) hx hb dX1_giveBack_7 (by decide) ?_
  refine lv_ldc hx hb hown (hts (.constant RX1 88 (100000000)) (List.mem_of_getElem? (i := 3) rfl)) dX1_giveBack_8 ?_
  refine j_i (y := nI 100000000) (by decide +kernel) ?_
  refine j_sV (As := [.int (nI v), .int (nI 1), .int (nI 100000000)]) (rest := []) ⟨hx, hb, hml, hown, hts⟩ (c_X1_requireRange l dC dI (nI v) (nI 1) (nI 100000000) (nI_nlt (by omega) (by omega)) (nI_nlt (by omega) (by omega))) (cwS 3 hts gX1_giveBack_X1_requireRange rfl rfl rfl (by decide +kernel) ⟨Nat.le_of_ble_eq_true rfl, Nat.le_of_ble_eq_true rfl⟩) rfl hl rfl (Nat.le_of_ble_eq_true rfl) dX1_giveBack_10 ⟨Nat.le_of_ble_eq_true rfl, Nat.le_of_ble_eq_true rfl⟩ ?_
  refine lv_aload_n hx hb dX1_giveBack_13 rfl (lv_at hl 0 rfl) ?_
  refine lv_aload_n hx hb dX1_giveBack_14 rfl (lv_at hl 1 rfl) ?_
  refine va_get (D := (dC, dI)) (ci := 1) (v := .int (nI mo)) (C := RX1) (T := TX1) (N := 4) hx hb hts (fun _ h => List.mem_cons_of_mem _ (List.mem_append_left _ (List.mem_append_left _ (List.mem_append_left _ (List.mem_append_left _ (List.mem_append_right _ h)))))) hown hK hP 0 rfl rfl 3 (by decide) (hts (.fieldLink RX1 23 "JointAnnuity" "monthThatGoesOn" "I") (List.mem_of_getElem? (i := 4) rfl)) (fun _ h9 => h9) rfl dX1_giveBack_15 ?_
  refine j_cL_ (As := [.int (nI mo)]) (rest := []) ⟨hx, hb, hml, hown, hts⟩ (c_X0_debtAhead l dC dI cI cJ cZ cO aa an iv kp py mo hv hm) (cwV 1 hts gX1_giveBack_X0_debtAhead rfl rfl rfl (by decide +kernel) ⟨Nat.le_of_ble_eq_true rfl, Nat.le_of_ble_eq_true rfl⟩) (jR_V hK hP [3, 4, 5, 6, 7] rfl (ci := 0) (q0 := 3) rfl rfl rfl) rfl hl rfl (Nat.le_of_ble_eq_true rfl) dX1_giveBack_18 ⟨Nat.le_of_ble_eq_true rfl, Nat.le_of_ble_eq_true rfl⟩ (fun r_18 hr_18 => ?_)
  subst hr_18
  refine lv_lstore (lv' := [(4, .long (jmx (kp - lN (jU an iv mo)))), (3, .ref (aa 0)), (0, .ref (ax 0)), (1, .int (nI k)), (2, .int (nI v))]) hx hb dX1_giveBack_21 hl (by decide) rfl (fun ls hl => ?_)
  refine lv_lload hx hb dX1_giveBack_23 (lv_at hl 0 rfl) ?_
  refine lv_iload_n hx hb dX1_giveBack_25 rfl (lv_at hl 4 rfl) ?_
  refine lv_i2l (v := lN v) hx hb dX1_giveBack_26 (nI_l (by omega)) ?_
  refine W.lcmp hx hb dX1_giveBack_27 ?_
  refine lv_if_ge (tgt := 41) hx hb dX1_giveBack_28 (by decide) (fun c_28 => ?_) (fun c_28 => ?_)
  · exact absurd ho (Int64.not_lt.mpr ((lg_cmp_ge _ _).mp c_28))
  · exact j_throw (E := eS) hx hb hst hown (by decide +kernel) (by simp) (hts (.classLink RX1 31 "java/lang/IllegalStateException") (List.mem_of_getElem? (i := 1) rfl)) (hts (.initialized "java/lang/IllegalStateException") (List.mem_of_getElem? (i := 2) rfl)) (fun w h => hts w (List.mem_cons_of_mem _ (List.mem_append_left _ (List.mem_append_left _ (List.mem_append_right _ h))))) jgS jbS hX (List.mem_of_getElem? (i := 4) rfl) hl hml dX1_giveBack_31 dX1_giveBack_34 dX1_giveBack_35 dX1_giveBack_37 dX1_giveBack_40 htab (Nat.le_of_ble_eq_true rfl) (Nat.le_of_ble_eq_true rfl) (Nat.le_of_ble_eq_true rfl) (Nat.le_of_ble_eq_true rfl) hlocks
