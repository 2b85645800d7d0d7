/-! the contracts of an annuity (JointAnnuity$Annuity): readers -/
set_option maxHeartbeats 4000000 in
set_option maxRecDepth 100000 in
/-- the full amount in a month -/
theorem c_X0_fullIn (l : Launch) (dC : Nat → ClassId) (dI : Nat → Nat → Nat) (cI cJ cZ cO : ClassId) (aa an : Nat → Nat) (iv : Nat → Int32) (kp : Int64) (py : Nat → Int64) (k : Nat) (hv : jV an) (hk : k < 240) : Met l yX0_fullIn wsX0_fullIn ({ frames := 0, cells := 0, slots := 0, locals := 0 }) (va_Pc [.ref (aa 0), .int (nI k)] (jR (dC, dI) (jTY cI cJ cZ cO) (jAW cI cJ aa an iv kp py))) (vp_Si (fun r => r = nI (if k < an 0 then 0 else jM an iv k))) 0 0 (fun _ => False) := by
  refine j_of (cc := cX0_fullIn) (maxL := 2) (ret := (some .int)) (by decide) rfl (Nat.le_of_ble_eq_true rfl) ?_
  intro p e s m below meth c ls hx hb hr hml hts hown hlocks hnm hl hpre
  have hown : s.vm.findClass RX0 = some m.cls := hown
  have hl : lv_has ls 2 [(0, .ref (aa 0)), (1, .int (nI k))] := hl
  obtain ⟨v0, v1, v2, v3, v4, v5, v6, v7, v8, v9⟩ := id hv
  obtain ⟨hP, hK⟩ := hpre
  refine lv_iload_n hx hb dX0_fullIn_0 rfl (lv_at hl 1 rfl) ?_
  refine lv_aload_n hx hb dX0_fullIn_1 rfl (lv_at hl 0 rfl) ?_
  refine va_get (D := (dC, dI)) (ci := 0) (v := .int (nI (an 0))) (C := RX0) (T := TX0) (N := 13) hx hb hts (fun _ h => List.mem_cons_of_mem _ (List.mem_append_right _ h)) hown hK hP 0 rfl rfl 0 (by decide) (hts (.fieldLink RX0 9 "JointAnnuity$Annuity" "start" "I") (List.mem_of_getElem? (i := 1) rfl)) (fun _ h9 => h9) rfl dX0_fullIn_2 ?_
  refine lv_icmp_ge (tgt := 12) hx hb dX0_fullIn_5 (by decide) (fun c_5 => ?_) (fun c_5 => ?_)
  · have c_5 : an 0 ≤ k := (nI_leI (a := an 0) (b := k) (by omega) (by omega)).mp c_5
    refine lv_aload_n hx hb dX0_fullIn_12 rfl (lv_at hl 0 rfl) ?_
    refine va_get (D := (dC, dI)) (ci := 0) (v := .ref (aa 2)) (C := RX0) (T := TX0) (N := 13) hx hb hts (fun _ h => List.mem_cons_of_mem _ (List.mem_append_right _ h)) hown hK hP 0 rfl rfl 9 (by decide) (hts (.fieldLink RX0 41 "JointAnnuity$Annuity" "fullAmounts" "[I") (List.mem_of_getElem? (i := 2) rfl)) (fun _ h9 => h9) rfl dX0_fullIn_13 ?_
    refine lv_iload_n hx hb dX0_fullIn_16 rfl (lv_at hl 1 rfl) ?_
    refine lv_aload_n hx hb dX0_fullIn_17 rfl (lv_at hl 0 rfl) ?_
    refine va_get (D := (dC, dI)) (ci := 0) (v := .int (nI (an 0))) (C := RX0) (T := TX0) (N := 13) hx hb hts (fun _ h => List.mem_cons_of_mem _ (List.mem_append_right _ h)) hown hK hP 0 rfl rfl 0 (by decide) (hts (.fieldLink RX0 9 "JointAnnuity$Annuity" "start" "I") (List.mem_of_getElem? (i := 1) rfl)) (fun _ h9 => h9) rfl dX0_fullIn_18 ?_
    refine lv_isub hx hb dX0_fullIn_21 ?_
    refine j_i (y := nI (k - (an 0))) (pk_sub (by omega)) ?_
    refine lv_bipush (v := nI 12) hx hb dX0_fullIn_22 (by decide) ?_
    refine lv_idiv hx hb dX0_fullIn_24 (by decide) ?_
    refine j_i (y := nI ((k - (an 0)) / 12)) (pk_div (by omega) (by omega) (by omega)) ?_
    refine va_iald hx hb hK hP 2 0 (f := fun j => nI (jF an iv j)) rfl rfl (vp_in_nI (n := (k - (an 0)) / 12) (N := 20) (by omega) (by omega)) dX0_fullIn_25 ?_
    refine j_i (y := nI (jF an iv ((k - an 0) / 12))) (by rw [nI_clamp (by omega)]) ?_
    exact W.iret (v := nI (jF an iv ((k - an 0) / 12))) hx hb hr (fun t ht hW => ⟨_, rfl, by rw [if_neg (by omega)]; rfl, ht⟩) (fun _ h => by cases h) dX0_fullIn_26
  · have c_5 : ¬ (an 0 ≤ k) := fun h => c_5 ((nI_leI (a := an 0) (b := k) (by omega) (by omega)).mpr h)
    refine lv_iconst (v := nI 0) hx hb dX0_fullIn_8 (by decide) ?_
    refine lv_goto (tgt := 26) hx hb dX0_fullIn_9 (by decide) ?_
    exact W.iret (v := nI 0) hx hb hr (fun t ht hW => ⟨_, rfl, by rw [if_pos (by omega)], ht⟩) (fun _ h => by cases h) dX0_fullIn_26
    --
set_option maxHeartbeats 4000000 in
set_option maxRecDepth 100000 in
/-- the carry in a month -/
theorem c_X0_carryIn (l : Launch) (dC : Nat → ClassId) (dI : Nat → Nat → Nat) (cI cJ cZ cO : ClassId) (aa an : Nat → Nat) (iv : Nat → Int32) (kp : Int64) (py : Nat → Int64) (k : Nat) (hv : jV an) (hk : k < 240) : Met l yX0_carryIn wsX0_carryIn ({ frames := 0, cells := 0, slots := 0, locals := 0 }) (va_Pc [.ref (aa 0), .int (nI k)] (jR (dC, dI) (jTY cI cJ cZ cO) (jAW cI cJ aa an iv kp py))) (vp_Si (fun r => r = if k < an 0 then 0 else jC an iv ((k - an 0) / 12))) 0 0 (fun _ => False) := by
  refine j_of (cc := cX0_carryIn) (maxL := 2) (ret := (some .int)) (by decide) rfl (Nat.le_of_ble_eq_true rfl) ?_
  intro p e s m below meth c ls hx hb hr hml hts hown hlocks hnm hl hpre
  have hown : s.vm.findClass RX0 = some m.cls := hown
  have hl : lv_has ls 2 [(0, .ref (aa 0)), (1, .int (nI k))] := hl
  obtain ⟨v0, v1, v2, v3, v4, v5, v6, v7, v8, v9⟩ := id hv
  obtain ⟨hP, hK⟩ := hpre
  refine lv_iload_n hx hb dX0_carryIn_0 rfl (lv_at hl 1 rfl) ?_
  refine lv_aload_n hx hb dX0_carryIn_1 rfl (lv_at hl 0 rfl) ?_
  refine va_get (D := (dC, dI)) (ci := 0) (v := .int (nI (an 0))) (C := RX0) (T := TX0) (N := 13) hx hb hts (fun _ h => List.mem_cons_of_mem _ (List.mem_append_right _ h)) hown hK hP 0 rfl rfl 0 (by decide) (hts (.fieldLink RX0 9 "JointAnnuity$Annuity" "start" "I") (List.mem_of_getElem? (i := 1) rfl)) (fun _ h9 => h9) rfl dX0_carryIn_2 ?_
  refine lv_icmp_ge (tgt := 12) hx hb dX0_carryIn_5 (by decide) (fun c_5 => ?_) (fun c_5 => ?_)
  · have c_5 : an 0 ≤ k := (nI_leI (a := an 0) (b := k) (by omega) (by omega)).mp c_5
    refine lv_aload_n hx hb dX0_carryIn_12 rfl (lv_at hl 0 rfl) ?_
    refine va_get (D := (dC, dI)) (ci := 0) (v := .ref (aa 3)) (C := RX0) (T := TX0) (N := 13) hx hb hts (fun _ h => List.mem_cons_of_mem _ (List.mem_append_right _ h)) hown hK hP 0 rfl rfl 10 (by decide) (hts (.fieldLink RX0 44 "JointAnnuity$Annuity" "carries" "[I") (List.mem_of_getElem? (i := 2) rfl)) (fun _ h9 => h9) rfl dX0_carryIn_13 ?_
    refine lv_iload_n hx hb dX0_carryIn_16 rfl (lv_at hl 1 rfl) ?_
    refine lv_aload_n hx hb dX0_carryIn_17 rfl (lv_at hl 0 rfl) ?_
    refine va_get (D := (dC, dI)) (ci := 0) (v := .int (nI (an 0))) (C := RX0) (T := TX0) (N := 13) hx hb hts (fun _ h => List.mem_cons_of_mem _ (List.mem_append_right _ h)) hown hK hP 0 rfl rfl 0 (by decide) (hts (.fieldLink RX0 9 "JointAnnuity$Annuity" "start" "I") (List.mem_of_getElem? (i := 1) rfl)) (fun _ h9 => h9) rfl dX0_carryIn_18 ?_
    refine lv_isub hx hb dX0_carryIn_21 ?_
    refine j_i (y := nI (k - (an 0))) (pk_sub (by omega)) ?_
    refine lv_bipush (v := nI 12) hx hb dX0_carryIn_22 (by decide) ?_
    refine lv_idiv hx hb dX0_carryIn_24 (by decide) ?_
    refine j_i (y := nI ((k - (an 0)) / 12)) (pk_div (by omega) (by omega) (by omega)) ?_
    refine va_iald hx hb hK hP 3 0 (f := fun j => jC an iv j) rfl rfl (vp_in_nI (n := (k - (an 0)) / 12) (N := 20) (by omega) (by omega)) dX0_carryIn_25 ?_
    refine j_i (y := jC an iv ((k - an 0) / 12)) (by rw [nI_clamp (by omega)]) ?_
    exact W.iret (v := jC an iv ((k - an 0) / 12)) hx hb hr (fun t ht hW => ⟨_, rfl, by rw [if_neg (by omega)], ht⟩) (fun _ h => by cases h) dX0_carryIn_26
  · have c_5 : ¬ (an 0 ≤ k) := fun h => c_5 ((nI_leI (a := an 0) (b := k) (by omega) (by omega)).mpr h)
    refine lv_iconst (v := nI 0) hx hb dX0_carryIn_8 (by decide) ?_
    refine lv_goto (tgt := 26) hx hb dX0_carryIn_9 (by decide) ?_
    exact W.iret (v := nI 0) hx hb hr (fun t ht hW => ⟨_, rfl, by rw [if_pos (by omega)]; rfl, ht⟩) (fun _ h => by cases h) dX0_carryIn_26
    --
set_option maxHeartbeats 4000000 in
set_option maxRecDepth 100000 in
/-- what the lives and the guaranteed term give in a month -/
theorem c_X0_shareIn (l : Launch) (dC : Nat → ClassId) (dI : Nat → Nat → Nat) (cI cJ cZ cO : ClassId) (aa an : Nat → Nat) (iv : Nat → Int32) (kp : Int64) (py : Nat → Int64) (k : Nat) (hv : jV an) (hk : k < 240) : Met l yX0_shareIn wsX0_shareIn ({ frames := 1, cells := 0, slots := 0, locals := 21 }) (va_Pc [.ref (aa 0), .int (nI k)] (jR (dC, dI) (jTY cI cJ cZ cO) (jAW cI cJ aa an iv kp py))) (vp_Sl (fun r => r = lN (if k < an 0 then 0 else jS an iv k))) 0 0 (fun _ => False) := by
  refine j_of (cc := cX0_shareIn) (maxL := 6) (ret := (some .long)) (by decide) rfl (Nat.le_of_ble_eq_true rfl) ?_
  intro p e s m below meth c ls hx hb hr hml hts hown hlocks hnm hl hpre
  have hown : s.vm.findClass RX0 = some m.cls := hown
  have hl : lv_has ls 6 [(0, .ref (aa 0)), (1, .int (nI k))] := hl
  obtain ⟨v0, v1, v2, v3, v4, v5, v6, v7, v8, v9⟩ := id hv
  obtain ⟨hP, hK⟩ := hpre
  have hm := jM_bd hv iv hk
  have hm2 := jpct hm v3
  refine lv_iload_n hx hb dX0_shareIn_0 rfl (lv_at hl 1 rfl) ?_
  refine lv_aload_n hx hb dX0_shareIn_1 rfl (lv_at hl 0 rfl) ?_
  refine va_get (D := (dC, dI)) (ci := 0) (v := .int (nI (an 0))) (C := RX0) (T := TX0) (N := 13) hx hb hts (fun _ h => List.mem_cons_of_mem _ (List.mem_append_right _ h)) hown hK hP 0 rfl rfl 0 (by decide) (hts (.fieldLink RX0 9 "JointAnnuity$Annuity" "start" "I") (List.mem_of_getElem? (i := 1) rfl)) (fun _ h9 => h9) rfl dX0_shareIn_2 ?_
  refine lv_icmp_ge (tgt := 10) hx hb dX0_shareIn_5 (by decide) (fun c_5 => ?_) (fun c_5 => ?_)
  · have c_5 : an 0 ≤ k := (nI_leI (a := an 0) (b := k) (by omega) (by omega)).mp c_5
    refine lv_aload_n hx hb dX0_shareIn_10 rfl (lv_at hl 0 rfl) ?_
    refine lv_iload_n hx hb dX0_shareIn_11 rfl (lv_at hl 1 rfl) ?_
    refine j_cI_ (As := [.int (nI k)]) (rest := []) ⟨hx, hb, hml, hown, hts⟩ (c_X0_fullIn l dC dI cI cJ cZ cO aa an iv kp py k hv hk) (cwV 1 hts gX0_shareIn_X0_fullIn rfl rfl rfl (by decide +kernel) ⟨Nat.le_of_ble_eq_true rfl, Nat.le_of_ble_eq_true rfl⟩) (jR_V hK hP [0, 1, 2, 3, 4] rfl (ci := 0) (q0 := 0) rfl rfl rfl) rfl hl rfl (Nat.le_of_ble_eq_true rfl) dX0_shareIn_12 ⟨Nat.le_of_ble_eq_true rfl, Nat.le_of_ble_eq_true rfl⟩ (fun r_12 hr_12 => ?_)
    subst hr_12
    refine j_i (y := nI (jM an iv k)) (by rw [if_neg (by omega)]) ?_
    refine lv_i2l (v := lN (jM an iv k)) hx hb dX0_shareIn_15 (nI_l (by omega)) ?_
    refine lv_lstore_n (lv' := [(2, .long (lN (jM an iv k))), (0, .ref (aa 0)), (1, .int (nI k))]) hx hb dX0_shareIn_16 rfl hl (by decide) rfl (fun ls hl => ?_)
    refine j_join (fun f1 : Nat => (k ≤ an 8 ∧ f1 = 1) ∨ (¬ k ≤ an 8 ∧ f1 = 0)) (fun f1 => F0 m 32 ls [.int (nI f1)]) (fun f1 hf1 => ?_) (fun J32 => ?_)
    · refine lv_istore (lv' := [(4, .int (nI f1)), (2, .long (lN (jM an iv k))), (0, .ref (aa 0)), (1, .int (nI k))]) hx hb dX0_shareIn_32 hl (by decide) rfl (fun ls hl => ?_)
      refine j_join (fun f2 : Nat => (k ≤ an 9 ∧ f2 = 1) ∨ (¬ k ≤ an 9 ∧ f2 = 0)) (fun f2 => F0 m 49 ls [.int (nI f2)]) (fun f2 hf2 => ?_) (fun J49 => ?_)
      · refine lv_istore (lv' := [(5, .int (nI f2)), (4, .int (nI f1)), (2, .long (lN (jM an iv k))), (0, .ref (aa 0)), (1, .int (nI k))]) hx hb dX0_shareIn_49 hl (by decide) rfl (fun ls hl => ?_)
        refine lv_iload_n hx hb dX0_shareIn_51 rfl (lv_at hl 4 rfl) ?_
        refine lv_aload_n hx hb dX0_shareIn_52 rfl (lv_at hl 3 rfl) ?_
        refine va_get (D := (dC, dI)) (ci := 0) (v := .int (nI (an 0 + an 2))) (C := RX0) (T := TX0) (N := 13) hx hb hts (fun _ h => List.mem_cons_of_mem _ (List.mem_append_right _ h)) hown hK hP 0 rfl rfl 2 (by decide) (hts (.fieldLink RX0 18 "JointAnnuity$Annuity" "guaranteeEnd" "I") (List.mem_of_getElem? (i := 3) rfl)) (fun _ h9 => h9) rfl dX0_shareIn_53 ?_
        refine lv_icmp_lt (tgt := 69) hx hb dX0_shareIn_56 (by decide) (fun c_56 => ?_) (fun c_56 => ?_)
        · have c_56 : k < an 0 + an 2 := (nI_ltI (a := k) (b := an 0 + an 2) (by omega) (by omega)).mp c_56
          refine lv_lload_n hx hb dX0_shareIn_69 rfl (lv_at hl 2 rfl) ?_
          have hz : jM an iv k = (if k < an 0 then 0 else jS an iv k) := by
            rw [if_neg (show ¬ k < an 0 by omega)]
            unfold jS
            repeat' split
            all_goals first | rfl | omega
          exact W.lret (v := lN (jM an iv k)) hx hb hr (fun t ht hW => ⟨_, rfl, by rw [← hz], ht⟩) (fun _ h => by cases h) dX0_shareIn_70
        · have c_56 : ¬ (k < an 0 + an 2) := fun h => c_56 ((nI_ltI (a := k) (b := an 0 + an 2) (by omega) (by omega)).mpr h)
          refine lv_iload hx hb dX0_shareIn_59 (lv_at hl 1 rfl) ?_
          refine lv_if_eq (tgt := 71) hx hb dX0_shareIn_61 (by decide) (fun c_61 => ?_) (fun c_61 => ?_)
          · have c_61 : f1 = 0 := (nI_eq (a := f1) (b := 0) (by omega) (by omega)).mp c_61
            refine lv_iload hx hb dX0_shareIn_71 (lv_at hl 1 rfl) ?_
            refine lv_if_eq (tgt := 85) hx hb dX0_shareIn_73 (by decide) (fun c_73 => ?_) (fun c_73 => ?_)
            · have c_73 : f1 = 0 := (nI_eq (a := f1) (b := 0) (by omega) (by omega)).mp c_73
              refine lv_iload hx hb dX0_shareIn_85 (lv_at hl 1 rfl) ?_
              refine lv_if_ne (tgt := 95) hx hb dX0_shareIn_87 (by decide) (fun c_87 => ?_) (fun c_87 => ?_)
              · have c_87 : ¬ (f1 = 0) := fun h => c_87 ((nI_eq (a := f1) (b := 0) (by omega) (by omega)).mpr h)
                refine lv_lload_n hx hb dX0_shareIn_95 rfl (lv_at hl 2 rfl) ?_
                refine lv_aload_n hx hb dX0_shareIn_96 rfl (lv_at hl 3 rfl) ?_
                refine va_get (D := (dC, dI)) (ci := 0) (v := .int (nI (an 3))) (C := RX0) (T := TX0) (N := 13) hx hb hts (fun _ h => List.mem_cons_of_mem _ (List.mem_append_right _ h)) hown hK hP 0 rfl rfl 3 (by decide) (hts (.fieldLink RX0 21 "JointAnnuity$Annuity" "survivorPercent" "I") (List.mem_of_getElem? (i := 5) rfl)) (fun _ h9 => h9) rfl dX0_shareIn_97 ?_
                refine lv_i2l (v := lN (an 3)) hx hb dX0_shareIn_100 (nI_l (by omega)) ?_
                refine lv_lmul hx hb dX0_shareIn_101 ?_
                refine j_l (y := lN ((jM an iv k) * (an 3))) (lN_mul _ _) ?_
                refine lv_ldc2 hx hb hown (hts (.constantLong RX0 68 (100)) (List.mem_of_getElem? (i := 6) rfl)) dX0_shareIn_102 ?_
                refine j_l (y := lN 100) (by decide +kernel) ?_
                refine lv_ldiv hx hb dX0_shareIn_105 (by decide) ?_
                refine j_l (y := lN (((jM an iv k) * (an 3)) / 100)) (pk_lDiv (by omega) (by omega) (by omega)) ?_
                refine lv_goto (tgt := 110) hx hb dX0_shareIn_106 (by decide) ?_
                have hz : ((jM an iv k) * (an 3)) / 100 = (if k < an 0 then 0 else jS an iv k) := by
                  rw [if_neg (show ¬ k < an 0 by omega)]
                  unfold jS
                  repeat' split
                  all_goals first | rfl | omega
                exact W.lret (v := lN (((jM an iv k) * (an 3)) / 100)) hx hb hr (fun t ht hW => ⟨_, rfl, by rw [← hz], ht⟩) (fun _ h => by cases h) dX0_shareIn_110
              · have c_87 : f1 = 0 := (nI_eq (a := f1) (b := 0) (by omega) (by omega)).mp c_87
                refine lv_iload hx hb dX0_shareIn_90 (lv_at hl 0 rfl) ?_
                refine lv_if_eq (tgt := 109) hx hb dX0_shareIn_92 (by decide) (fun c_92 => ?_) (fun c_92 => ?_)
                · have c_92 : f2 = 0 := (nI_eq (a := f2) (b := 0) (by omega) (by omega)).mp c_92
                  refine lv_lconst (v := lN 0) hx hb dX0_shareIn_109 (by decide) ?_
                  have hz : 0 = (if k < an 0 then 0 else jS an iv k) := by
                    rw [if_neg (show ¬ k < an 0 by omega)]
                    unfold jS
                    repeat' split
                    all_goals first | rfl | omega
                  exact W.lret (v := lN 0) hx hb hr (fun t ht hW => ⟨_, rfl, by rw [← hz], ht⟩) (fun _ h => by cases h) dX0_shareIn_110
                · have c_92 : ¬ (f2 = 0) := fun h => c_92 ((nI_eq (a := f2) (b := 0) (by omega) (by omega)).mpr h)
                  refine lv_lload_n hx hb dX0_shareIn_95 rfl (lv_at hl 2 rfl) ?_
                  refine lv_aload_n hx hb dX0_shareIn_96 rfl (lv_at hl 3 rfl) ?_
                  refine va_get (D := (dC, dI)) (ci := 0) (v := .int (nI (an 3))) (C := RX0) (T := TX0) (N := 13) hx hb hts (fun _ h => List.mem_cons_of_mem _ (List.mem_append_right _ h)) hown hK hP 0 rfl rfl 3 (by decide) (hts (.fieldLink RX0 21 "JointAnnuity$Annuity" "survivorPercent" "I") (List.mem_of_getElem? (i := 5) rfl)) (fun _ h9 => h9) rfl dX0_shareIn_97 ?_
                  refine lv_i2l (v := lN (an 3)) hx hb dX0_shareIn_100 (nI_l (by omega)) ?_
                  refine lv_lmul hx hb dX0_shareIn_101 ?_
                  refine j_l (y := lN ((jM an iv k) * (an 3))) (lN_mul _ _) ?_
                  refine lv_ldc2 hx hb hown (hts (.constantLong RX0 68 (100)) (List.mem_of_getElem? (i := 6) rfl)) dX0_shareIn_102 ?_
                  refine j_l (y := lN 100) (by decide +kernel) ?_
                  refine lv_ldiv hx hb dX0_shareIn_105 (by decide) ?_
                  refine j_l (y := lN (((jM an iv k) * (an 3)) / 100)) (pk_lDiv (by omega) (by omega) (by omega)) ?_
                  refine lv_goto (tgt := 110) hx hb dX0_shareIn_106 (by decide) ?_
                  have hz : ((jM an iv k) * (an 3)) / 100 = (if k < an 0 then 0 else jS an iv k) := by
                    rw [if_neg (show ¬ k < an 0 by omega)]
                    unfold jS
                    repeat' split
                    all_goals first | rfl | omega
                  exact W.lret (v := lN (((jM an iv k) * (an 3)) / 100)) hx hb hr (fun t ht hW => ⟨_, rfl, by rw [← hz], ht⟩) (fun _ h => by cases h) dX0_shareIn_110
            · have c_73 : ¬ (f1 = 0) := fun h => c_73 ((nI_eq (a := f1) (b := 0) (by omega) (by omega)).mpr h)
              refine lv_aload_n hx hb dX0_shareIn_76 rfl (lv_at hl 3 rfl) ?_
              refine va_get (D := (dC, dI)) (ci := 0) (v := .int (nI (an 4))) (C := RX0) (T := TX0) (N := 13) hx hb hts (fun _ h => List.mem_cons_of_mem _ (List.mem_append_right _ h)) hown hK hP 0 rfl rfl 4 (by decide) (hts (.fieldLink RX0 24 "JointAnnuity$Annuity" "stepsOnFirst" "Z") (List.mem_of_getElem? (i := 4) rfl)) (fun _ h9 => h9) rfl dX0_shareIn_77 ?_
              refine lv_if_ne (tgt := 85) hx hb dX0_shareIn_80 (by decide) (fun c_80 => ?_) (fun c_80 => ?_)
              · have c_80 : ¬ (an 4 = 0) := fun h => c_80 ((nI_eq (a := an 4) (b := 0) (by omega) (by omega)).mpr h)
                refine lv_iload hx hb dX0_shareIn_85 (lv_at hl 1 rfl) ?_
                refine lv_if_ne (tgt := 95) hx hb dX0_shareIn_87 (by decide) (fun c_87 => ?_) (fun c_87 => ?_)
                · have c_87 : ¬ (f1 = 0) := fun h => c_87 ((nI_eq (a := f1) (b := 0) (by omega) (by omega)).mpr h)
                  refine lv_lload_n hx hb dX0_shareIn_95 rfl (lv_at hl 2 rfl) ?_
                  refine lv_aload_n hx hb dX0_shareIn_96 rfl (lv_at hl 3 rfl) ?_
                  refine va_get (D := (dC, dI)) (ci := 0) (v := .int (nI (an 3))) (C := RX0) (T := TX0) (N := 13) hx hb hts (fun _ h => List.mem_cons_of_mem _ (List.mem_append_right _ h)) hown hK hP 0 rfl rfl 3 (by decide) (hts (.fieldLink RX0 21 "JointAnnuity$Annuity" "survivorPercent" "I") (List.mem_of_getElem? (i := 5) rfl)) (fun _ h9 => h9) rfl dX0_shareIn_97 ?_
                  refine lv_i2l (v := lN (an 3)) hx hb dX0_shareIn_100 (nI_l (by omega)) ?_
                  refine lv_lmul hx hb dX0_shareIn_101 ?_
                  refine j_l (y := lN ((jM an iv k) * (an 3))) (lN_mul _ _) ?_
                  refine lv_ldc2 hx hb hown (hts (.constantLong RX0 68 (100)) (List.mem_of_getElem? (i := 6) rfl)) dX0_shareIn_102 ?_
                  refine j_l (y := lN 100) (by decide +kernel) ?_
                  refine lv_ldiv hx hb dX0_shareIn_105 (by decide) ?_
                  refine j_l (y := lN (((jM an iv k) * (an 3)) / 100)) (pk_lDiv (by omega) (by omega) (by omega)) ?_
                  refine lv_goto (tgt := 110) hx hb dX0_shareIn_106 (by decide) ?_
                  have hz : ((jM an iv k) * (an 3)) / 100 = (if k < an 0 then 0 else jS an iv k) := by
                    rw [if_neg (show ¬ k < an 0 by omega)]
                    unfold jS
                    repeat' split
                    all_goals first | rfl | omega
                  exact W.lret (v := lN (((jM an iv k) * (an 3)) / 100)) hx hb hr (fun t ht hW => ⟨_, rfl, by rw [← hz], ht⟩) (fun _ h => by cases h) dX0_shareIn_110
                · have c_87 : f1 = 0 := (nI_eq (a := f1) (b := 0) (by omega) (by omega)).mp c_87
                  refine lv_iload hx hb dX0_shareIn_90 (lv_at hl 0 rfl) ?_
                  refine lv_if_eq (tgt := 109) hx hb dX0_shareIn_92 (by decide) (fun c_92 => ?_) (fun c_92 => ?_)
                  · have c_92 : f2 = 0 := (nI_eq (a := f2) (b := 0) (by omega) (by omega)).mp c_92
                    refine lv_lconst (v := lN 0) hx hb dX0_shareIn_109 (by decide) ?_
                    have hz : 0 = (if k < an 0 then 0 else jS an iv k) := by
                      rw [if_neg (show ¬ k < an 0 by omega)]
                      unfold jS
                      repeat' split
                      all_goals first | rfl | omega
                    exact W.lret (v := lN 0) hx hb hr (fun t ht hW => ⟨_, rfl, by rw [← hz], ht⟩) (fun _ h => by cases h) dX0_shareIn_110
                  · have c_92 : ¬ (f2 = 0) := fun h => c_92 ((nI_eq (a := f2) (b := 0) (by omega) (by omega)).mpr h)
                    refine lv_lload_n hx hb dX0_shareIn_95 rfl (lv_at hl 2 rfl) ?_
                    refine lv_aload_n hx hb dX0_shareIn_96 rfl (lv_at hl 3 rfl) ?_
                    refine va_get (D := (dC, dI)) (ci := 0) (v := .int (nI (an 3))) (C := RX0) (T := TX0) (N := 13) hx hb hts (fun _ h => List.mem_cons_of_mem _ (List.mem_append_right _ h)) hown hK hP 0 rfl rfl 3 (by decide) (hts (.fieldLink RX0 21 "JointAnnuity$Annuity" "survivorPercent" "I") (List.mem_of_getElem? (i := 5) rfl)) (fun _ h9 => h9) rfl dX0_shareIn_97 ?_
                    refine lv_i2l (v := lN (an 3)) hx hb dX0_shareIn_100 (nI_l (by omega)) ?_
                    refine lv_lmul hx hb dX0_shareIn_101 ?_
                    refine j_l (y := lN ((jM an iv k) * (an 3))) (lN_mul _ _) ?_
                    refine lv_ldc2 hx hb hown (hts (.constantLong RX0 68 (100)) (List.mem_of_getElem? (i := 6) rfl)) dX0_shareIn_102 ?_
                    refine j_l (y := lN 100) (by decide +kernel) ?_
                    refine lv_ldiv hx hb dX0_shareIn_105 (by decide) ?_
                    refine j_l (y := lN (((jM an iv k) * (an 3)) / 100)) (pk_lDiv (by omega) (by omega) (by omega)) ?_
                    refine lv_goto (tgt := 110) hx hb dX0_shareIn_106 (by decide) ?_
                    have hz : ((jM an iv k) * (an 3)) / 100 = (if k < an 0 then 0 else jS an iv k) := by
                      rw [if_neg (show ¬ k < an 0 by omega)]
                      unfold jS
                      repeat' split
                      all_goals first | rfl | omega
                    exact W.lret (v := lN (((jM an iv k) * (an 3)) / 100)) hx hb hr (fun t ht hW => ⟨_, rfl, by rw [← hz], ht⟩) (fun _ h => by cases h) dX0_shareIn_110
              · have c_80 : an 4 = 0 := (nI_eq (a := an 4) (b := 0) (by omega) (by omega)).mp c_80
                refine lv_lload_n hx hb dX0_shareIn_83 rfl (lv_at hl 2 rfl) ?_
                have hz : jM an iv k = (if k < an 0 then 0 else jS an iv k) := by
                  rw [if_neg (show ¬ k < an 0 by omega)]
                  unfold jS
                  repeat' split
                  all_goals first | rfl | omega
                exact W.lret (v := lN (jM an iv k)) hx hb hr (fun t ht hW => ⟨_, rfl, by rw [← hz], ht⟩) (fun _ h => by cases h) dX0_shareIn_84
          · have c_61 : ¬ (f1 = 0) := fun h => c_61 ((nI_eq (a := f1) (b := 0) (by omega) (by omega)).mpr h)
            refine lv_iload hx hb dX0_shareIn_64 (lv_at hl 0 rfl) ?_
            refine lv_if_eq (tgt := 71) hx hb dX0_shareIn_66 (by decide) (fun c_66 => ?_) (fun c_66 => ?_)
            · have c_66 : f2 = 0 := (nI_eq (a := f2) (b := 0) (by omega) (by omega)).mp c_66
              refine lv_iload hx hb dX0_shareIn_71 (lv_at hl 1 rfl) ?_
              refine lv_if_eq (tgt := 85) hx hb dX0_shareIn_73 (by decide) (fun c_73 => ?_) (fun c_73 => ?_)
              · have c_73 : f1 = 0 := (nI_eq (a := f1) (b := 0) (by omega) (by omega)).mp c_73
                refine lv_iload hx hb dX0_shareIn_85 (lv_at hl 1 rfl) ?_
                refine lv_if_ne (tgt := 95) hx hb dX0_shareIn_87 (by decide) (fun c_87 => ?_) (fun c_87 => ?_)
                · have c_87 : ¬ (f1 = 0) := fun h => c_87 ((nI_eq (a := f1) (b := 0) (by omega) (by omega)).mpr h)
                  refine lv_lload_n hx hb dX0_shareIn_95 rfl (lv_at hl 2 rfl) ?_
                  refine lv_aload_n hx hb dX0_shareIn_96 rfl (lv_at hl 3 rfl) ?_
                  refine va_get (D := (dC, dI)) (ci := 0) (v := .int (nI (an 3))) (C := RX0) (T := TX0) (N := 13) hx hb hts (fun _ h => List.mem_cons_of_mem _ (List.mem_append_right _ h)) hown hK hP 0 rfl rfl 3 (by decide) (hts (.fieldLink RX0 21 "JointAnnuity$Annuity" "survivorPercent" "I") (List.mem_of_getElem? (i := 5) rfl)) (fun _ h9 => h9) rfl dX0_shareIn_97 ?_
                  refine lv_i2l (v := lN (an 3)) hx hb dX0_shareIn_100 (nI_l (by omega)) ?_
                  refine lv_lmul hx hb dX0_shareIn_101 ?_
                  refine j_l (y := lN ((jM an iv k) * (an 3))) (lN_mul _ _) ?_
                  refine lv_ldc2 hx hb hown (hts (.constantLong RX0 68 (100)) (List.mem_of_getElem? (i := 6) rfl)) dX0_shareIn_102 ?_
                  refine j_l (y := lN 100) (by decide +kernel) ?_
                  refine lv_ldiv hx hb dX0_shareIn_105 (by decide) ?_
                  refine j_l (y := lN (((jM an iv k) * (an 3)) / 100)) (pk_lDiv (by omega) (by omega) (by omega)) ?_
                  refine lv_goto (tgt := 110) hx hb dX0_shareIn_106 (by decide) ?_
                  have hz : ((jM an iv k) * (an 3)) / 100 = (if k < an 0 then 0 else jS an iv k) := by
                    rw [if_neg (show ¬ k < an 0 by omega)]
                    unfold jS
                    repeat' split
                    all_goals first | rfl | omega
                  exact W.lret (v := lN (((jM an iv k) * (an 3)) / 100)) hx hb hr (fun t ht hW => ⟨_, rfl, by rw [← hz], ht⟩) (fun _ h => by cases h) dX0_shareIn_110
                · have c_87 : f1 = 0 := (nI_eq (a := f1) (b := 0) (by omega) (by omega)).mp c_87
                  refine lv_iload hx hb dX0_shareIn_90 (lv_at hl 0 rfl) ?_
                  refine lv_if_eq (tgt := 109) hx hb dX0_shareIn_92 (by decide) (fun c_92 => ?_) (fun c_92 => ?_)
                  · have c_92 : f2 = 0 := (nI_eq (a := f2) (b := 0) (by omega) (by omega)).mp c_92
                    refine lv_lconst (v := lN 0) hx hb dX0_shareIn_109 (by decide) ?_
                    have hz : 0 = (if k < an 0 then 0 else jS an iv k) := by
                      rw [if_neg (show ¬ k < an 0 by omega)]
                      unfold jS
                      repeat' split
                      all_goals first | rfl | omega
                    exact W.lret (v := lN 0) hx hb hr (fun t ht hW => ⟨_, rfl, by rw [← hz], ht⟩) (fun _ h => by cases h) dX0_shareIn_110
                  · have c_92 : ¬ (f2 = 0) := fun h => c_92 ((nI_eq (a := f2) (b := 0) (by omega) (by omega)).mpr h)
                    refine lv_lload_n hx hb dX0_shareIn_95 rfl (lv_at hl 2 rfl) ?_
                    refine lv_aload_n hx hb dX0_shareIn_96 rfl (lv_at hl 3 rfl) ?_
                    refine va_get (D := (dC, dI)) (ci := 0) (v := .int (nI (an 3))) (C := RX0) (T := TX0) (N := 13) hx hb hts (fun _ h => List.mem_cons_of_mem _ (List.mem_append_right _ h)) hown hK hP 0 rfl rfl 3 (by decide) (hts (.fieldLink RX0 21 "JointAnnuity$Annuity" "survivorPercent" "I") (List.mem_of_getElem? (i := 5) rfl)) (fun _ h9 => h9) rfl dX0_shareIn_97 ?_
                    refine lv_i2l (v := lN (an 3)) hx hb dX0_shareIn_100 (nI_l (by omega)) ?_
                    refine lv_lmul hx hb dX0_shareIn_101 ?_
                    refine j_l (y := lN ((jM an iv k) * (an 3))) (lN_mul _ _) ?_
                    refine lv_ldc2 hx hb hown (hts (.constantLong RX0 68 (100)) (List.mem_of_getElem? (i := 6) rfl)) dX0_shareIn_102 ?_
                    refine j_l (y := lN 100) (by decide +kernel) ?_
                    refine lv_ldiv hx hb dX0_shareIn_105 (by decide) ?_
                    refine j_l (y := lN (((jM an iv k) * (an 3)) / 100)) (pk_lDiv (by omega) (by omega) (by omega)) ?_
                    refine lv_goto (tgt := 110) hx hb dX0_shareIn_106 (by decide) ?_
                    have hz : ((jM an iv k) * (an 3)) / 100 = (if k < an 0 then 0 else jS an iv k) := by
                      rw [if_neg (show ¬ k < an 0 by omega)]
                      unfold jS
                      repeat' split
                      all_goals first | rfl | omega
                    exact W.lret (v := lN (((jM an iv k) * (an 3)) / 100)) hx hb hr (fun t ht hW => ⟨_, rfl, by rw [← hz], ht⟩) (fun _ h => by cases h) dX0_shareIn_110
              · have c_73 : ¬ (f1 = 0) := fun h => c_73 ((nI_eq (a := f1) (b := 0) (by omega) (by omega)).mpr h)
                refine lv_aload_n hx hb dX0_shareIn_76 rfl (lv_at hl 3 rfl) ?_
                refine va_get (D := (dC, dI)) (ci := 0) (v := .int (nI (an 4))) (C := RX0) (T := TX0) (N := 13) hx hb hts (fun _ h => List.mem_cons_of_mem _ (List.mem_append_right _ h)) hown hK hP 0 rfl rfl 4 (by decide) (hts (.fieldLink RX0 24 "JointAnnuity$Annuity" "stepsOnFirst" "Z") (List.mem_of_getElem? (i := 4) rfl)) (fun _ h9 => h9) rfl dX0_shareIn_77 ?_
                refine lv_if_ne (tgt := 85) hx hb dX0_shareIn_80 (by decide) (fun c_80 => ?_) (fun c_80 => ?_)
                · have c_80 : ¬ (an 4 = 0) := fun h => c_80 ((nI_eq (a := an 4) (b := 0) (by omega) (by omega)).mpr h)
                  refine lv_iload hx hb dX0_shareIn_85 (lv_at hl 1 rfl) ?_
                  refine lv_if_ne (tgt := 95) hx hb dX0_shareIn_87 (by decide) (fun c_87 => ?_) (fun c_87 => ?_)
                  · have c_87 : ¬ (f1 = 0) := fun h => c_87 ((nI_eq (a := f1) (b := 0) (by omega) (by omega)).mpr h)
                    refine lv_lload_n hx hb dX0_shareIn_95 rfl (lv_at hl 2 rfl) ?_
                    refine lv_aload_n hx hb dX0_shareIn_96 rfl (lv_at hl 3 rfl) ?_
                    refine va_get (D := (dC, dI)) (ci := 0) (v := .int (nI (an 3))) (C := RX0) (T := TX0) (N := 13) hx hb hts (fun _ h => List.mem_cons_of_mem _ (List.mem_append_right _ h)) hown hK hP 0 rfl rfl 3 (by decide) (hts (.fieldLink RX0 21 "JointAnnuity$Annuity" "survivorPercent" "I") (List.mem_of_getElem? (i := 5) rfl)) (fun _ h9 => h9) rfl dX0_shareIn_97 ?_
                    refine lv_i2l (v := lN (an 3)) hx hb dX0_shareIn_100 (nI_l (by omega)) ?_
                    refine lv_lmul hx hb dX0_shareIn_101 ?_
                    refine j_l (y := lN ((jM an iv k) * (an 3))) (lN_mul _ _) ?_
                    refine lv_ldc2 hx hb hown (hts (.constantLong RX0 68 (100)) (List.mem_of_getElem? (i := 6) rfl)) dX0_shareIn_102 ?_
                    refine j_l (y := lN 100) (by decide +kernel) ?_
                    refine lv_ldiv hx hb dX0_shareIn_105 (by decide) ?_
                    refine j_l (y := lN (((jM an iv k) * (an 3)) / 100)) (pk_lDiv (by omega) (by omega) (by omega)) ?_
                    refine lv_goto (tgt := 110) hx hb dX0_shareIn_106 (by decide) ?_
                    have hz : ((jM an iv k) * (an 3)) / 100 = (if k < an 0 then 0 else jS an iv k) := by
                      rw [if_neg (show ¬ k < an 0 by omega)]
                      unfold jS
                      repeat' split
                      all_goals first | rfl | omega
                    exact W.lret (v := lN (((jM an iv k) * (an 3)) / 100)) hx hb hr (fun t ht hW => ⟨_, rfl, by rw [← hz], ht⟩) (fun _ h => by cases h) dX0_shareIn_110
                  · have c_87 : f1 = 0 := (nI_eq (a := f1) (b := 0) (by omega) (by omega)).mp c_87
                    refine lv_iload hx hb dX0_shareIn_90 (lv_at hl 0 rfl) ?_
                    refine lv_if_eq (tgt := 109) hx hb dX0_shareIn_92 (by decide) (fun c_92 => ?_) (fun c_92 => ?_)
                    · have c_92 : f2 = 0 := (nI_eq (a := f2) (b := 0) (by omega) (by omega)).mp c_92
                      refine lv_lconst (v := lN 0) hx hb dX0_shareIn_109 (by decide) ?_
                      have hz : 0 = (if k < an 0 then 0 else jS an iv k) := by
                        rw [if_neg (show ¬ k < an 0 by omega)]
                        unfold jS
                        repeat' split
                        all_goals first | rfl | omega
                      exact W.lret (v := lN 0) hx hb hr (fun t ht hW => ⟨_, rfl, by rw [← hz], ht⟩) (fun _ h => by cases h) dX0_shareIn_110
                    · have c_92 : ¬ (f2 = 0) := fun h => c_92 ((nI_eq (a := f2) (b := 0) (by omega) (by omega)).mpr h)
                      refine lv_lload_n hx hb dX0_shareIn_95 rfl (lv_at hl 2 rfl) ?_
                      refine lv_aload_n hx hb dX0_shareIn_96 rfl (lv_at hl 3 rfl) ?_
                      refine va_get (D := (dC, dI)) (ci := 0) (v := .int (nI (an 3))) (C := RX0) (T := TX0) (N := 13) hx hb hts (fun _ h => List.mem_cons_of_mem _ (List.mem_append_right _ h)) hown hK hP 0 rfl rfl 3 (by decide) (hts (.fieldLink RX0 21 "JointAnnuity$Annuity" "survivorPercent" "I") (List.mem_of_getElem? (i := 5) rfl)) (fun _ h9 => h9) rfl dX0_shareIn_97 ?_
                      refine lv_i2l (v := lN (an 3)) hx hb dX0_shareIn_100 (nI_l (by omega)) ?_
                      refine lv_lmul hx hb dX0_shareIn_101 ?_
                      refine j_l (y := lN ((jM an iv k) * (an 3))) (lN_mul _ _) ?_
                      refine lv_ldc2 hx hb hown (hts (.constantLong RX0 68 (100)) (List.mem_of_getElem? (i := 6) rfl)) dX0_shareIn_102 ?_
                      refine j_l (y := lN 100) (by decide +kernel) ?_
                      refine lv_ldiv hx hb dX0_shareIn_105 (by decide) ?_
                      refine j_l (y := lN (((jM an iv k) * (an 3)) / 100)) (pk_lDiv (by omega) (by omega) (by omega)) ?_
                      refine lv_goto (tgt := 110) hx hb dX0_shareIn_106 (by decide) ?_
                      have hz : ((jM an iv k) * (an 3)) / 100 = (if k < an 0 then 0 else jS an iv k) := by
                        rw [if_neg (show ¬ k < an 0 by omega)]
                        unfold jS
                        repeat' split
                        all_goals first | rfl | omega
                      exact W.lret (v := lN (((jM an iv k) * (an 3)) / 100)) hx hb hr (fun t ht hW => ⟨_, rfl, by rw [← hz], ht⟩) (fun _ h => by cases h) dX0_shareIn_110
                · have c_80 : an 4 = 0 := (nI_eq (a := an 4) (b := 0) (by omega) (by omega)).mp c_80
                  refine lv_lload_n hx hb dX0_shareIn_83 rfl (lv_at hl 2 rfl) ?_
                  have hz : jM an iv k = (if k < an 0 then 0 else jS an iv k) := by
                    rw [if_neg (show ¬ k < an 0 by omega)]
                    unfold jS
                    repeat' split
                    all_goals first | rfl | omega
                  exact W.lret (v := lN (jM an iv k)) hx hb hr (fun t ht hW => ⟨_, rfl, by rw [← hz], ht⟩) (fun _ h => by cases h) dX0_shareIn_84
            · have c_66 : ¬ (f2 = 0) := fun h => c_66 ((nI_eq (a := f2) (b := 0) (by omega) (by omega)).mpr h)
              refine lv_lload_n hx hb dX0_shareIn_69 rfl (lv_at hl 2 rfl) ?_
              have hz : jM an iv k = (if k < an 0 then 0 else jS an iv k) := by
                rw [if_neg (show ¬ k < an 0 by omega)]
                unfold jS
                repeat' split
                all_goals first | rfl | omega
              exact W.lret (v := lN (jM an iv k)) hx hb hr (fun t ht hW => ⟨_, rfl, by rw [← hz], ht⟩) (fun _ h => by cases h) dX0_shareIn_70
      refine lv_iload_n hx hb dX0_shareIn_34 rfl (lv_at hl 3 rfl) ?_
      refine lv_aload_n hx hb dX0_shareIn_35 rfl (lv_at hl 2 rfl) ?_
      refine va_get (D := (dC, dI)) (ci := 0) (v := .ref (aa 1)) (C := RX0) (T := TX0) (N := 13) hx hb hts (fun _ h => List.mem_cons_of_mem _ (List.mem_append_right _ h)) hown hK hP 0 rfl rfl 8 (by decide) (hts (.fieldLink RX0 37 "JointAnnuity$Annuity" "deaths" "[I") (List.mem_of_getElem? (i := 2) rfl)) (fun _ h9 => h9) rfl dX0_shareIn_36 ?_
      refine lv_iconst (v := nI 1) hx hb dX0_shareIn_39 (by decide) ?_
      refine va_iald hx hb hK hP 1 0 (f := fun j => nI (if j = 0 then an 8 else an 9)) rfl rfl (vp_in_nI (n := 1) (N := 2) (by omega) (by omega)) dX0_shareIn_40 ?_
      refine j_i (y := nI (an 9)) (jd1 _ _) ?_
      refine lv_icmp_gt (tgt := 48) hx hb dX0_shareIn_41 (by decide) (fun c_41 => ?_) (fun c_41 => ?_)
      · have c_41 : an 9 < k := (nI_ltI (a := an 9) (b := k) (by omega) (by omega)).mp c_41
        refine lv_iconst (v := nI 0) hx hb dX0_shareIn_48 (by decide) ?_
        exact J49 0 (by omega)
      · have c_41 : ¬ (an 9 < k) := fun h => c_41 ((nI_ltI (a := an 9) (b := k) (by omega) (by omega)).mpr h)
        refine lv_iconst (v := nI 1) hx hb dX0_shareIn_44 (by decide) ?_
        refine lv_goto (tgt := 49) hx hb dX0_shareIn_45 (by decide) ?_
        exact J49 1 (by omega)
    refine lv_iload_n hx hb dX0_shareIn_17 rfl (lv_at hl 2 rfl) ?_
    refine lv_aload_n hx hb dX0_shareIn_18 rfl (lv_at hl 1 rfl) ?_
    refine va_get (D := (dC, dI)) (ci := 0) (v := .ref (aa 1)) (C := RX0) (T := TX0) (N := 13) hx hb hts (fun _ h => List.mem_cons_of_mem _ (List.mem_append_right _ h)) hown hK hP 0 rfl rfl 8 (by decide) (hts (.fieldLink RX0 37 "JointAnnuity$Annuity" "deaths" "[I") (List.mem_of_getElem? (i := 2) rfl)) (fun _ h9 => h9) rfl dX0_shareIn_19 ?_
    refine lv_iconst (v := nI 0) hx hb dX0_shareIn_22 (by decide) ?_
    refine va_iald hx hb hK hP 1 0 (f := fun j => nI (if j = 0 then an 8 else an 9)) rfl rfl (vp_in_nI (n := 0) (N := 2) (by omega) (by omega)) dX0_shareIn_23 ?_
    refine j_i (y := nI (an 8)) (jd0 _ _) ?_
    refine lv_icmp_gt (tgt := 31) hx hb dX0_shareIn_24 (by decide) (fun c_24 => ?_) (fun c_24 => ?_)
    · have c_24 : an 8 < k := (nI_ltI (a := an 8) (b := k) (by omega) (by omega)).mp c_24
      refine lv_iconst (v := nI 0) hx hb dX0_shareIn_31 (by decide) ?_
      exact J32 0 (by omega)
    · have c_24 : ¬ (an 8 < k) := fun h => c_24 ((nI_ltI (a := an 8) (b := k) (by omega) (by omega)).mpr h)
      refine lv_iconst (v := nI 1) hx hb dX0_shareIn_27 (by decide) ?_
      refine lv_goto (tgt := 32) hx hb dX0_shareIn_28 (by decide) ?_
      exact J32 1 (by omega)
  · have c_5 : ¬ (an 0 ≤ k) := fun h => c_5 ((nI_leI (a := an 0) (b := k) (by omega) (by omega)).mpr h)
    refine lv_lconst (v := lN 0) hx hb dX0_shareIn_8 (by decide) ?_
    exact W.lret (v := lN 0) hx hb hr (fun t ht hW => ⟨_, rfl, by rw [if_pos (by omega)], ht⟩) (fun _ h => by cases h) dX0_shareIn_9
set_option maxHeartbeats 4000000 in
set_option maxRecDepth 100000 in
/-- all shares ahead of a month -/
theorem c_X0_sharesAhead (l : Launch) (dC : Nat → ClassId) (dI : Nat → Nat → Nat) (cI cJ cZ cO : ClassId) (aa an : Nat → Nat) (iv : Nat → Int32) (kp : Int64) (py : Nat → Int64) (e9 : Nat) (hv : jV an) (he : e9 ≤ 240) : Met l yX0_sharesAhead wsX0_sharesAhead ({ frames := 2, cells := 0, slots := 0, locals := 46 }) (va_Pc [.ref (aa 0), .int (nI e9)] (jR (dC, dI) (jTY cI cJ cZ cO) (jAW cI cJ aa an iv kp py))) (vp_Sl (fun r => r = lN (jT an iv e9))) 0 0 (fun _ => False) := by
  refine j_of (cc := cX0_sharesAhead) (maxL := 5) (ret := (some .long)) (by decide) rfl (Nat.le_of_ble_eq_true rfl) ?_
  intro p e s m below meth c ls hx hb hr hml hts hown hlocks hnm hl hpre
  have hown : s.vm.findClass RX0 = some m.cls := hown
  have hl : lv_has ls 5 [(0, .ref (aa 0)), (1, .int (nI e9))] := hl
  obtain ⟨v0, v1, v2, v3, v4, v5, v6, v7, v8, v9⟩ := id hv
  obtain ⟨hP, hK⟩ := hpre
  refine lv_lconst (v := lN 0) hx hb dX0_sharesAhead_0 (by decide) ?_
  refine j_l (y := lN (jT an iv (an 0))) (by rw [jT_0 an iv (Nat.le_refl _)]) ?_
  refine lv_lstore_n (lv' := [(2, .long (lN (jT an iv (an 0)))), (0, .ref (aa 0)), (1, .int (nI e9))]) hx hb dX0_sharesAhead_1 rfl hl (by decide) rfl (fun ls hl => ?_)
  refine lv_aload_n hx hb dX0_sharesAhead_2 rfl (lv_at hl 1 rfl) ?_
  refine va_get (D := (dC, dI)) (ci := 0) (v := .int (nI (an 0))) (C := RX0) (T := TX0) (N := 13) hx hb hts (fun _ h => List.mem_cons_of_mem _ (List.mem_append_right _ h)) hown hK hP 0 rfl rfl 0 (by decide) (hts (.fieldLink RX0 9 "JointAnnuity$Annuity" "start" "I") (List.mem_of_getElem? (i := 1) rfl)) (fun _ h9 => h9) rfl dX0_sharesAhead_3 ?_
  refine lv_istore (lv' := [(4, .int (nI (an 0))), (2, .long (lN (jT an iv (an 0)))), (0, .ref (aa 0)), (1, .int (nI e9))]) hx hb dX0_sharesAhead_6 hl (by decide) rfl (fun ls hl => ?_)
  refine j_loop (I := fun j : Nat => an 0 ≤ j ∧ (j = an 0 ∨ j ≤ e9)) (μ := fun j => e9 - j) (lv := fun j => [(0, .ref (aa 0)), (1, .int (nI e9)), (2, .long (lN (jT an iv j))), (4, .int (nI j))]) (an 0) (by omega) (lv_sub hl [2, 3, 1, 0] rfl) ?_
  intro j ls hI hl IH
  have hl : lv_has ls 5 [(0, .ref (aa 0)), (1, .int (nI e9)), (2, .long (lN (jT an iv j))), (4, .int (nI j))] := hl
  obtain ⟨hI1, hI2⟩ := id hI
  refine lv_iload hx hb dX0_sharesAhead_8 (lv_at hl 3 rfl) ?_
  refine lv_iload_n hx hb dX0_sharesAhead_10 rfl (lv_at hl 1 rfl) ?_
  refine lv_icmp_ge (tgt := 29) hx hb dX0_sharesAhead_11 (by decide) (fun c_11 => ?_) (fun c_11 => ?_)
  · have c_11 : e9 ≤ j := (nI_leI (a := e9) (b := j) (by omega) (by omega)).mp c_11
    refine lv_lload_n hx hb dX0_sharesAhead_29 rfl (lv_at hl 2 rfl) ?_
    have hz : jT an iv j = jT an iv e9 := by
      rcases hI2 with h | h
      · rw [h, jT_0 an iv (Nat.le_refl _), jT_0 an iv (by omega)]
      · rw [show j = e9 by omega]
    exact W.lret (v := lN (jT an iv j)) hx hb hr (fun t ht hW => ⟨_, rfl, by rw [hz], ht⟩) (fun _ h => by cases h) dX0_sharesAhead_30
  · have c_11 : ¬ (e9 ≤ j) := fun h => c_11 ((nI_leI (a := e9) (b := j) (by omega) (by omega)).mpr h)
    refine lv_lload_n hx hb dX0_sharesAhead_14 rfl (lv_at hl 2 rfl) ?_
    refine lv_aload_n hx hb dX0_sharesAhead_15 rfl (lv_at hl 0 rfl) ?_
    refine lv_iload hx hb dX0_sharesAhead_16 (lv_at hl 3 rfl) ?_
    refine j_cL_ (As := [.int (nI j)]) (rest := [.long (lN (jT an iv j))]) ⟨hx, hb, hml, hown, hts⟩ (c_X0_shareIn l dC dI cI cJ cZ cO aa an iv kp py j hv (by omega)) (cwV 1 hts gX0_sharesAhead_X0_shareIn rfl rfl rfl (by decide +kernel) ⟨Nat.le_of_ble_eq_true rfl, Nat.le_of_ble_eq_true rfl⟩) (jR_V hK hP [0, 1, 2, 3, 4] rfl (ci := 0) (q0 := 0) rfl rfl rfl) rfl hl rfl (Nat.le_of_ble_eq_true rfl) dX0_sharesAhead_18 ⟨Nat.le_of_ble_eq_true rfl, Nat.le_of_ble_eq_true rfl⟩ (fun r_18 hr_18 => ?_)
    subst hr_18
    refine j_l (y := lN (jS an iv j)) (by rw [if_neg (by omega)]) ?_
    refine lv_ladd hx hb dX0_sharesAhead_21 ?_
    refine j_l (y := lN (jT an iv j + jS an iv j)) (lN_add _ _) ?_
    refine j_l (y := lN (jT an iv (j + 1))) (by rw [jT_s an iv hI.1]) ?_
    refine lv_lstore_n (lv' := [(2, .long (lN (jT an iv (j + 1)))), (0, .ref (aa 0)), (1, .int (nI e9)), (4, .int (nI j))]) hx hb dX0_sharesAhead_22 rfl hl (by decide) rfl (fun ls hl => ?_)
    refine lv_iinc (v := nI (j + 1)) (lv' := [(4, .int (nI (j + 1))), (2, .long (lN (jT an iv (j + 1)))), (0, .ref (aa 0)), (1, .int (nI e9))]) hx hb dX0_sharesAhead_23 hl (k := 3) rfl (by exact nI_add _ 1) (by decide) rfl (fun ls hl => ?_)
    refine lv_goto (tgt := 8) hx hb dX0_sharesAhead_26 (by decide) ?_
    exact IH (j + 1) _ (by omega) (by omega) (lv_sub hl [2, 3, 1, 0] rfl)
set_option maxHeartbeats 4000000 in
set_option maxRecDepth 100000 in
/-- the month of the protection -/
theorem c_X0_protectionMonth (l : Launch) (dC : Nat → ClassId) (dI : Nat → Nat → Nat) (cI cJ cZ cO : ClassId) (aa an : Nat → Nat) (iv : Nat → Int32) (kp : Int64) (py : Nat → Int64) (hv : jV an) : Met l yX0_protectionMonth wsX0_protectionMonth ({ frames := 1, cells := 0, slots := 0, locals := 13 }) (va_Pc [.ref (aa 0)] (jR (dC, dI) (jTY cI cJ cZ cO) (jAW cI cJ aa an iv kp py))) (vp_Si (fun r => r = nI (jP an))) 0 0 (fun _ => False) := by
  refine j_of (cc := cX0_protectionMonth) (maxL := 2) (ret := (some .int)) (by decide) rfl (Nat.le_of_ble_eq_true rfl) ?_
  intro p e s m below meth c ls hx hb hr hml hts hown hlocks hnm hl hpre
  have hown : s.vm.findClass RX0 = some m.cls := hown
  have hl : lv_has ls 2 [(0, .ref (aa 0))] := hl
  obtain ⟨v0, v1, v2, v3, v4, v5, v6, v7, v8, v9⟩ := id hv
  obtain ⟨hP, hK⟩ := hpre
  refine lv_aload_n hx hb dX0_protectionMonth_0 rfl (lv_at hl 0 rfl) ?_
  refine va_get (D := (dC, dI)) (ci := 0) (v := .ref (aa 1)) (C := RX0) (T := TX0) (N := 13) hx hb hts (fun _ h => List.mem_cons_of_mem _ (List.mem_append_right _ h)) hown hK hP 0 rfl rfl 8 (by decide) (hts (.fieldLink RX0 37 "JointAnnuity$Annuity" "deaths" "[I") (List.mem_of_getElem? (i := 1) rfl)) (fun _ h9 => h9) rfl dX0_protectionMonth_1 ?_
  refine lv_iconst (v := nI 0) hx hb dX0_protectionMonth_4 (by decide) ?_
  refine va_iald hx hb hK hP 1 0 (f := fun j => nI (if j = 0 then an 8 else an 9)) rfl rfl (vp_in_nI (n := 0) (N := 2) (by omega) (by omega)) dX0_protectionMonth_5 ?_
  refine j_i (y := nI (an 8)) (jd0 _ _) ?_
  refine lv_sipush (v := nI 240) hx hb dX0_protectionMonth_6 (by decide) ?_
  refine lv_icmp_eq (tgt := 24) hx hb dX0_protectionMonth_9 (by decide) (fun c_9 => ?_) (fun c_9 => ?_)
  · have c_9 : an 8 = 240 := (nI_eq (a := an 8) (b := 240) (by omega) (by omega)).mp c_9
    refine lv_sipush (v := nI 240) hx hb dX0_protectionMonth_24 (by decide) ?_
    exact W.iret (v := nI 240) hx hb hr (fun t ht hW => ⟨_, rfl, by unfold jP; rw [if_pos (by omega)], ht⟩) (fun _ h => by cases h) dX0_protectionMonth_27
  · have c_9 : ¬ (an 8 = 240) := fun h => c_9 ((nI_eq (a := an 8) (b := 240) (by omega) (by omega)).mpr h)
    refine lv_aload_n hx hb dX0_protectionMonth_12 rfl (lv_at hl 0 rfl) ?_
    refine va_get (D := (dC, dI)) (ci := 0) (v := .ref (aa 1)) (C := RX0) (T := TX0) (N := 13) hx hb hts (fun _ h => List.mem_cons_of_mem _ (List.mem_append_right _ h)) hown hK hP 0 rfl rfl 8 (by decide) (hts (.fieldLink RX0 37 "JointAnnuity$Annuity" "deaths" "[I") (List.mem_of_getElem? (i := 1) rfl)) (fun _ h9 => h9) rfl dX0_protectionMonth_13 ?_
    refine lv_iconst (v := nI 1) hx hb dX0_protectionMonth_16 (by decide) ?_
    refine va_iald hx hb hK hP 1 0 (f := fun j => nI (if j = 0 then an 8 else an 9)) rfl rfl (vp_in_nI (n := 1) (N := 2) (by omega) (by omega)) dX0_protectionMonth_17 ?_
    refine j_i (y := nI (an 9)) (jd1 _ _) ?_
    refine lv_sipush (v := nI 240) hx hb dX0_protectionMonth_18 (by decide) ?_
    refine lv_icmp_ne (tgt := 28) hx hb dX0_protectionMonth_21 (by decide) (fun c_21 => ?_) (fun c_21 => ?_)
    · have c_21 : ¬ (an 9 = 240) := fun h => c_21 ((nI_eq (a := an 9) (b := 240) (by omega) (by omega)).mpr h)
      refine lv_aload_n hx hb dX0_protectionMonth_28 rfl (lv_at hl 0 rfl) ?_
      refine va_get (D := (dC, dI)) (ci := 0) (v := .ref (aa 1)) (C := RX0) (T := TX0) (N := 13) hx hb hts (fun _ h => List.mem_cons_of_mem _ (List.mem_append_right _ h)) hown hK hP 0 rfl rfl 8 (by decide) (hts (.fieldLink RX0 37 "JointAnnuity$Annuity" "deaths" "[I") (List.mem_of_getElem? (i := 1) rfl)) (fun _ h9 => h9) rfl dX0_protectionMonth_29 ?_
      refine lv_iconst (v := nI 0) hx hb dX0_protectionMonth_32 (by decide) ?_
      refine va_iald hx hb hK hP 1 0 (f := fun j => nI (if j = 0 then an 8 else an 9)) rfl rfl (vp_in_nI (n := 0) (N := 2) (by omega) (by omega)) dX0_protectionMonth_33 ?_
      refine j_i (y := nI (an 8)) (jd0 _ _) ?_
      refine lv_aload_n hx hb dX0_protectionMonth_34 rfl (lv_at hl 0 rfl) ?_
      refine va_get (D := (dC, dI)) (ci := 0) (v := .ref (aa 1)) (C := RX0) (T := TX0) (N := 13) hx hb hts (fun _ h => List.mem_cons_of_mem _ (List.mem_append_right _ h)) hown hK hP 0 rfl rfl 8 (by decide) (hts (.fieldLink RX0 37 "JointAnnuity$Annuity" "deaths" "[I") (List.mem_of_getElem? (i := 1) rfl)) (fun _ h9 => h9) rfl dX0_protectionMonth_35 ?_
      refine lv_iconst (v := nI 1) hx hb dX0_protectionMonth_38 (by decide) ?_
      refine va_iald hx hb hK hP 1 0 (f := fun j => nI (if j = 0 then an 8 else an 9)) rfl rfl (vp_in_nI (n := 1) (N := 2) (by omega) (by omega)) dX0_protectionMonth_39 ?_
      refine j_i (y := nI (an 9)) (jd1 _ _) ?_
      refine va_mmax hx hb (hml.trans hl.1.symm) hown (hts (.methodLink RX0 61 Lib.Math.max.name) (List.mem_of_getElem? (i := 2) rfl)) (hts (.static Lib.Math.max.name) (List.mem_of_getElem? (i := 3) rfl)) (hts (.initialized "java/lang/Math") (List.mem_of_getElem? (i := 4) rfl)) (hts (.code Lib.Math.max.name Lib.Math.max.code 2 (some .int)) (List.mem_of_getElem? (i := 5) rfl)) (Nat.le_of_ble_eq_true rfl) (Nat.le_of_ble_eq_true rfl) (Nat.le_of_ble_eq_true rfl) (Nat.le_of_ble_eq_true rfl) dX0_protectionMonth_40 ?_
      refine j_i (y := nI (max (an 8) (an 9))) (jmaxI (by omega) (by omega)) ?_
      refine lv_iconst (v := nI 1) hx hb dX0_protectionMonth_43 (by decide) ?_
      refine lv_iadd hx hb dX0_protectionMonth_44 ?_
      refine j_i (y := nI ((max (an 8) (an 9)) + 1)) (nI_add _ _) ?_
      refine lv_istore_n (lv' := [(1, .int (nI ((max (an 8) (an 9)) + 1))), (0, .ref (aa 0))]) hx hb dX0_protectionMonth_45 rfl hl (by decide) rfl (fun ls hl => ?_)
      refine lv_iload_n hx hb dX0_protectionMonth_46 rfl (lv_at hl 0 rfl) ?_
      refine lv_aload_n hx hb dX0_protectionMonth_47 rfl (lv_at hl 1 rfl) ?_
      refine va_get (D := (dC, dI)) (ci := 0) (v := .int (nI (an 0 + an 2))) (C := RX0) (T := TX0) (N := 13) hx hb hts (fun _ h => List.mem_cons_of_mem _ (List.mem_append_right _ h)) hown hK hP 0 rfl rfl 2 (by decide) (hts (.fieldLink RX0 18 "JointAnnuity$Annuity" "guaranteeEnd" "I") (List.mem_of_getElem? (i := 6) rfl)) (fun _ h9 => h9) rfl dX0_protectionMonth_48 ?_
      refine va_mmax hx hb (hml.trans hl.1.symm) hown (hts (.methodLink RX0 61 Lib.Math.max.name) (List.mem_of_getElem? (i := 2) rfl)) (hts (.static Lib.Math.max.name) (List.mem_of_getElem? (i := 3) rfl)) (hts (.initialized "java/lang/Math") (List.mem_of_getElem? (i := 4) rfl)) (hts (.code Lib.Math.max.name Lib.Math.max.code 2 (some .int)) (List.mem_of_getElem? (i := 5) rfl)) (Nat.le_of_ble_eq_true rfl) (Nat.le_of_ble_eq_true rfl) (Nat.le_of_ble_eq_true rfl) (Nat.le_of_ble_eq_true rfl) dX0_protectionMonth_51 ?_
      refine j_i (y := nI (max (max (an 8) (an 9) + 1) (an 0 + an 2))) (jmaxI (by omega) (by omega)) ?_
      refine lv_sipush (v := nI 240) hx hb dX0_protectionMonth_54 (by decide) ?_
      refine va_mmin hx hb (hml.trans hl.1.symm) hown (hts (.methodLink RX0 55 Lib.Math.min.name) (List.mem_of_getElem? (i := 7) rfl)) (hts (.static Lib.Math.min.name) (List.mem_of_getElem? (i := 8) rfl)) (hts (.initialized "java/lang/Math") (List.mem_of_getElem? (i := 4) rfl)) (hts (.code Lib.Math.min.name Lib.Math.min.code 2 (some .int)) (List.mem_of_getElem? (i := 9) rfl)) (Nat.le_of_ble_eq_true rfl) (Nat.le_of_ble_eq_true rfl) (Nat.le_of_ble_eq_true rfl) (Nat.le_of_ble_eq_true rfl) dX0_protectionMonth_57 ?_
      refine j_i (y := nI (min (max (max (an 8) (an 9) + 1) (an 0 + an 2)) 240)) (jminI (by omega) (by omega)) ?_
      exact W.iret (v := nI (min (max (max (an 8) (an 9) + 1) (an 0 + an 2)) 240)) hx hb hr (fun t ht hW => ⟨_, rfl, by unfold jP; rw [if_neg (by omega)], ht⟩) (fun _ h => by cases h) dX0_protectionMonth_60
    · have c_21 : an 9 = 240 := (nI_eq (a := an 9) (b := 240) (by omega) (by omega)).mp c_21
      refine lv_sipush (v := nI 240) hx hb dX0_protectionMonth_24 (by decide) ?_
      exact W.iret (v := nI 240) hx hb hr (fun t ht hW => ⟨_, rfl, by unfold jP; rw [if_pos (by omega)], ht⟩) (fun _ h => by cases h) dX0_protectionMonth_27
set_option maxHeartbeats 4000000 in
set_option maxRecDepth 100000 in
/-- the protection -/
theorem c_X0_protectionSum (l : Launch) (dC : Nat → ClassId) (dI : Nat → Nat → Nat) (cI cJ cZ cO : ClassId) (aa an : Nat → Nat) (iv : Nat → Int32) (kp : Int64) (py : Nat → Int64) (hv : jV an) : Met l yX0_protectionSum wsX0_protectionSum ({ frames := 3, cells := 0, slots := 0, locals := 70 }) (va_Pc [.ref (aa 0)] (jR (dC, dI) (jTY cI cJ cZ cO) (jAW cI cJ aa an iv kp py))) (vp_Sl (fun r => r = lN (jQ an iv))) 0 0 (fun _ => False) := by
  refine j_of (cc := cX0_protectionSum) (maxL := 4) (ret := (some .long)) (by decide) rfl (Nat.le_of_ble_eq_true rfl) ?_
  intro p e s m below meth c ls hx hb hr hml hts hown hlocks hnm hl hpre
  have hown : s.vm.findClass RX0 = some m.cls := hown
  have hl : lv_has ls 4 [(0, .ref (aa 0))] := hl
  obtain ⟨v0, v1, v2, v3, v4, v5, v6, v7, v8, v9⟩ := id hv
  obtain ⟨hP, hK⟩ := hpre
  have h67 := jpr v6 v7
  have hpl := jP_le an
  have htl := jT_le hv iv hpl
  refine lv_aload_n hx hb dX0_protectionSum_0 rfl (lv_at hl 0 rfl) ?_
  refine j_cI_ (As := []) (rest := []) ⟨hx, hb, hml, hown, hts⟩ (c_X0_protectionMonth l dC dI cI cJ cZ cO aa an iv kp py hv) (cwV 0 hts gX0_protectionSum_X0_protectionMonth rfl rfl rfl (by decide +kernel) ⟨Nat.le_of_ble_eq_true rfl, Nat.le_of_ble_eq_true rfl⟩) (jR_V hK hP [0, 1, 2, 3, 4] rfl (ci := 0) (q0 := 0) rfl rfl rfl) rfl hl rfl (Nat.le_of_ble_eq_true rfl) dX0_protectionSum_1 ⟨Nat.le_of_ble_eq_true rfl, Nat.le_of_ble_eq_true rfl⟩ (fun r_1 hr_1 => ?_)
  subst hr_1
  refine lv_istore_n (lv' := [(1, .int (nI (jP an))), (0, .ref (aa 0))]) hx hb dX0_protectionSum_4 rfl hl (by decide) rfl (fun ls hl => ?_)
  refine lv_iload_n hx hb dX0_protectionSum_5 rfl (lv_at hl 0 rfl) ?_
  refine lv_sipush (v := nI 240) hx hb dX0_protectionSum_6 (by decide) ?_
  refine lv_icmp_ne (tgt := 14) hx hb dX0_protectionSum_9 (by decide) (fun c_9 => ?_) (fun c_9 => ?_)
  · have c_9 : ¬ (jP an = 240) := fun h => c_9 ((nI_eq (a := jP an) (b := 240) (by omega) (by omega)).mpr h)
    refine lv_aload_n hx hb dX0_protectionSum_14 rfl (lv_at hl 1 rfl) ?_
    refine va_get (D := (dC, dI)) (ci := 0) (v := .int (nI (an 6))) (C := RX0) (T := TX0) (N := 13) hx hb hts (fun _ h => List.mem_cons_of_mem _ (List.mem_append_right _ h)) hown hK hP 0 rfl rfl 6 (by decide) (hts (.fieldLink RX0 31 "JointAnnuity$Annuity" "price" "I") (List.mem_of_getElem? (i := 1) rfl)) (fun _ h9 => h9) rfl dX0_protectionSum_15 ?_
    refine lv_i2l (v := lN (an 6)) hx hb dX0_protectionSum_18 (nI_l (by omega)) ?_
    refine lv_aload_n hx hb dX0_protectionSum_19 rfl (lv_at hl 1 rfl) ?_
    refine va_get (D := (dC, dI)) (ci := 0) (v := .int (nI (an 7))) (C := RX0) (T := TX0) (N := 13) hx hb hts (fun _ h => List.mem_cons_of_mem _ (List.mem_append_right _ h)) hown hK hP 0 rfl rfl 7 (by decide) (hts (.fieldLink RX0 34 "JointAnnuity$Annuity" "protectedPercent" "I") (List.mem_of_getElem? (i := 2) rfl)) (fun _ h9 => h9) rfl dX0_protectionSum_20 ?_
    refine lv_i2l (v := lN (an 7)) hx hb dX0_protectionSum_23 (nI_l (by omega)) ?_
    refine lv_lmul hx hb dX0_protectionSum_24 ?_
    refine j_l (y := lN ((an 6) * (an 7))) (lN_mul _ _) ?_
    refine lv_ldc2 hx hb hown (hts (.constantLong RX0 68 (100)) (List.mem_of_getElem? (i := 3) rfl)) dX0_protectionSum_25 ?_
    refine j_l (y := lN 100) (by decide +kernel) ?_
    refine lv_ldiv hx hb dX0_protectionSum_28 (by decide) ?_
    refine j_l (y := lN (((an 6) * (an 7)) / 100)) (pk_lDiv (by omega) (by omega) (by omega)) ?_
    refine lv_lstore_n (lv' := [(2, .long (lN (((an 6) * (an 7)) / 100))), (1, .int (nI (jP an))), (0, .ref (aa 0))]) hx hb dX0_protectionSum_29 rfl hl (by decide) rfl (fun ls hl => ?_)
    refine lv_lconst (v := lN 0) hx hb dX0_protectionSum_30 (by decide) ?_
    refine lv_lload_n hx hb dX0_protectionSum_31 rfl (lv_at hl 0 rfl) ?_
    refine lv_aload_n hx hb dX0_protectionSum_32 rfl (lv_at hl 2 rfl) ?_
    refine lv_iload_n hx hb dX0_protectionSum_33 rfl (lv_at hl 1 rfl) ?_
    refine j_cL_ (As := [.int (nI (jP an))]) (rest := [.long (lN (((an 6) * (an 7)) / 100)), .long (lN 0)]) ⟨hx, hb, hml, hown, hts⟩ (c_X0_sharesAhead l dC dI cI cJ cZ cO aa an iv kp py (jP an) hv (by omega)) (cwV 1 hts gX0_protectionSum_X0_sharesAhead rfl rfl rfl (by decide +kernel) ⟨Nat.le_of_ble_eq_true rfl, Nat.le_of_ble_eq_true rfl⟩) (jR_V hK hP [0, 1, 2, 3, 4] rfl (ci := 0) (q0 := 0) rfl rfl rfl) rfl hl rfl (Nat.le_of_ble_eq_true rfl) dX0_protectionSum_34 ⟨Nat.le_of_ble_eq_true rfl, Nat.le_of_ble_eq_true rfl⟩ (fun r_34 hr_34 => ?_)
    subst hr_34
    refine lv_lsub hx hb dX0_protectionSum_37 ?_
    refine va_mmax_long hx hb (hml.trans hl.1.symm) hown (hts (.methodLink RX0 81 Lib.MathLoose.max_long.x) (List.mem_of_getElem? (i := 4) rfl)) (hts (.static Lib.MathLoose.max_long.x) (List.mem_of_getElem? (i := 5) rfl)) (hts (.initialized "java/lang/Math") (List.mem_of_getElem? (i := 6) rfl)) (hts (.code Lib.MathLoose.max_long.x Lib.MathLoose.max_long.code 4 (some .long)) (List.mem_of_getElem? (i := 7) rfl)) (Nat.le_of_ble_eq_true rfl) (Nat.le_of_ble_eq_true rfl) (Nat.le_of_ble_eq_true rfl) (Nat.le_of_ble_eq_true rfl) dX0_protectionSum_38 ?_
    refine j_l (y := lN (an 6 * an 7 / 100 - jT an iv (jP an))) (jmaxL2 (by omega) (by omega)) ?_
    exact W.lret (v := lN (an 6 * an 7 / 100 - jT an iv (jP an))) hx hb hr (fun t ht hW => ⟨_, rfl, by unfold jQ; rw [if_neg (by omega)], ht⟩) (fun _ h => by cases h) dX0_protectionSum_41
  · have c_9 : jP an = 240 := (nI_eq (a := jP an) (b := 240) (by omega) (by omega)).mp c_9
    refine lv_lconst (v := lN 0) hx hb dX0_protectionSum_12 (by decide) ?_
    exact W.lret (v := lN 0) hx hb hr (fun t ht hW => ⟨_, rfl, by unfold jQ; rw [if_pos (by omega)], ht⟩) (fun _ h => by cases h) dX0_protectionSum_13
set_option maxHeartbeats 4000000 in
set_option maxRecDepth 100000 in
/-- what is due in a month -/
theorem c_X0_dueIn (l : Launch) (dC : Nat → ClassId) (dI : Nat → Nat → Nat) (cI cJ cZ cO : ClassId) (aa an : Nat → Nat) (iv : Nat → Int32) (kp : Int64) (py : Nat → Int64) (k : Nat) (hv : jV an) (hk : k < 240) : Met l yX0_dueIn wsX0_dueIn ({ frames := 4, cells := 0, slots := 0, locals := 93 }) (va_Pc [.ref (aa 0), .int (nI k)] (jR (dC, dI) (jTY cI cJ cZ cO) (jAW cI cJ aa an iv kp py))) (vp_Sl (fun r => r = lN ((if k < an 0 then 0 else jS an iv k) + (if k = jP an then jQ an iv else 0)))) 0 0 (fun _ => False) := by
  refine j_of (cc := cX0_dueIn) (maxL := 4) (ret := (some .long)) (by decide) rfl (Nat.le_of_ble_eq_true rfl) ?_
  intro p e s m below meth c ls hx hb hr hml hts hown hlocks hnm hl hpre
  have hown : s.vm.findClass RX0 = some m.cls := hown
  have hl : lv_has ls 4 [(0, .ref (aa 0)), (1, .int (nI k))] := hl
  obtain ⟨v0, v1, v2, v3, v4, v5, v6, v7, v8, v9⟩ := id hv
  obtain ⟨hP, hK⟩ := hpre
  have hpl := jP_le an
  refine lv_aload_n hx hb dX0_dueIn_0 rfl (lv_at hl 0 rfl) ?_
  refine lv_iload_n hx hb dX0_dueIn_1 rfl (lv_at hl 1 rfl) ?_
  refine j_cL_ (As := [.int (nI k)]) (rest := []) ⟨hx, hb, hml, hown, hts⟩ (c_X0_shareIn l dC dI cI cJ cZ cO aa an iv kp py k hv hk) (cwV 1 hts gX0_dueIn_X0_shareIn rfl rfl rfl (by decide +kernel) ⟨Nat.le_of_ble_eq_true rfl, Nat.le_of_ble_eq_true rfl⟩) (jR_V hK hP [0, 1, 2, 3, 4] rfl (ci := 0) (q0 := 0) rfl rfl rfl) rfl hl rfl (Nat.le_of_ble_eq_true rfl) dX0_dueIn_2 ⟨Nat.le_of_ble_eq_true rfl, Nat.le_of_ble_eq_true rfl⟩ (fun r_2 hr_2 => ?_)
  subst hr_2
  refine lv_lstore_n (lv' := [(2, .long (lN (if k < an 0 then 0 else jS an iv k))), (0, .ref (aa 0)), (1, .int (nI k))]) hx hb dX0_dueIn_5 rfl hl (by decide) rfl (fun ls hl => ?_)
  refine j_join (fun z : Int64 => (k = jP an ∧ z = lN ((if k < an 0 then 0 else jS an iv k) + jQ an iv)) ∨ (¬ k = jP an ∧ z = lN (if k < an 0 then 0 else jS an iv k))) (fun z => F0 m 24 ls [.long z]) (fun z hz => ?_) (fun J24 => ?_)
  · have hz9 : z = lN ((if k < an 0 then 0 else jS an iv k) + (if k = jP an then jQ an iv else 0)) := by
      rcases hz with ⟨h1, h2⟩ | ⟨h1, h2⟩
      · rw [h2, if_pos h1]
      · rw [h2, if_neg h1, Nat.add_zero]
    exact W.lret (v := z) hx hb hr (fun t ht hW => ⟨_, rfl, hz9, ht⟩) (fun _ h => by cases h) dX0_dueIn_24
  refine lv_iload_n hx hb dX0_dueIn_6 rfl (lv_at hl 2 rfl) ?_
  refine lv_aload_n hx hb dX0_dueIn_7 rfl (lv_at hl 1 rfl) ?_
  refine j_cI_ (As := []) (rest := [.int (nI k)]) ⟨hx, hb, hml, hown, hts⟩ (c_X0_protectionMonth l dC dI cI cJ cZ cO aa an iv kp py hv) (cwV 0 hts gX0_dueIn_X0_protectionMonth rfl rfl rfl (by decide +kernel) ⟨Nat.le_of_ble_eq_true rfl, Nat.le_of_ble_eq_true rfl⟩) (jR_V hK hP [0, 1, 2, 3, 4] rfl (ci := 0) (q0 := 0) rfl rfl rfl) rfl hl rfl (Nat.le_of_ble_eq_true rfl) dX0_dueIn_8 ⟨Nat.le_of_ble_eq_true rfl, Nat.le_of_ble_eq_true rfl⟩ (fun r_8 hr_8 => ?_)
  subst hr_8
  refine lv_icmp_ne (tgt := 23) hx hb dX0_dueIn_11 (by decide) (fun c_11 => ?_) (fun c_11 => ?_)
  · have c_11 : ¬ (k = jP an) := fun h => c_11 ((nI_eq (a := k) (b := jP an) (by omega) (by omega)).mpr h)
    refine lv_lload_n hx hb dX0_dueIn_23 rfl (lv_at hl 0 rfl) ?_
    exact J24 _ (Or.inr ⟨c_11, rfl⟩)
  · have c_11 : k = jP an := (nI_eq (a := k) (b := jP an) (by omega) (by omega)).mp c_11
    refine lv_lload_n hx hb dX0_dueIn_14 rfl (lv_at hl 0 rfl) ?_
    refine lv_aload_n hx hb dX0_dueIn_15 rfl (lv_at hl 1 rfl) ?_
    refine j_cL_ (As := []) (rest := [.long (lN (if k < an 0 then 0 else jS an iv k))]) ⟨hx, hb, hml, hown, hts⟩ (c_X0_protectionSum l dC dI cI cJ cZ cO aa an iv kp py hv) (cwV 0 hts gX0_dueIn_X0_protectionSum rfl rfl rfl (by decide +kernel) ⟨Nat.le_of_ble_eq_true rfl, Nat.le_of_ble_eq_true rfl⟩) (jR_V hK hP [0, 1, 2, 3, 4] rfl (ci := 0) (q0 := 0) rfl rfl rfl) rfl hl rfl (Nat.le_of_ble_eq_true rfl) dX0_dueIn_16 ⟨Nat.le_of_ble_eq_true rfl, Nat.le_of_ble_eq_true rfl⟩ (fun r_16 hr_16 => ?_)
    subst hr_16
    refine lv_ladd hx hb dX0_dueIn_19 ?_
    refine j_l (y := lN ((if k < an 0 then 0 else jS an iv k) + jQ an iv)) (lN_add _ _) ?_
    refine lv_goto (tgt := 24) hx hb dX0_dueIn_20 (by decide) ?_
    exact J24 _ (Or.inl ⟨c_11, rfl⟩)
set_option maxHeartbeats 4000000 in
set_option maxRecDepth 100000 in
/-- all that is due ahead of a month -/
theorem c_X0_dueAhead (l : Launch) (dC : Nat → ClassId) (dI : Nat → Nat → Nat) (cI cJ cZ cO : ClassId) (aa an : Nat → Nat) (iv : Nat → Int32) (kp : Int64) (py : Nat → Int64) (e9 : Nat) (hv : jV an) (he : e9 ≤ 240) : Met l yX0_dueAhead wsX0_dueAhead ({ frames := 4, cells := 0, slots := 0, locals := 93 }) (va_Pc [.ref (aa 0), .int (nI e9)] (jR (dC, dI) (jTY cI cJ cZ cO) (jAW cI cJ aa an iv kp py))) (vp_Sl (fun r => r = lN (jU an iv e9))) 0 0 (fun _ => False) := by
  refine j_of (cc := cX0_dueAhead) (maxL := 4) (ret := (some .long)) (by decide) rfl (Nat.le_of_ble_eq_true rfl) ?_
  intro p e s m below meth c ls hx hb hr hml hts hown hlocks hnm hl hpre
  have hown : s.vm.findClass RX0 = some m.cls := hown
  have hl : lv_has ls 4 [(0, .ref (aa 0)), (1, .int (nI e9))] := hl
  obtain ⟨v0, v1, v2, v3, v4, v5, v6, v7, v8, v9⟩ := id hv
  obtain ⟨hP, hK⟩ := hpre
  have hpl := jP_le an
  refine lv_aload_n hx hb dX0_dueAhead_0 rfl (lv_at hl 0 rfl) ?_
  refine lv_iload_n hx hb dX0_dueAhead_1 rfl (lv_at hl 1 rfl) ?_
  refine j_cL_ (As := [.int (nI e9)]) (rest := []) ⟨hx, hb, hml, hown, hts⟩ (c_X0_sharesAhead l dC dI cI cJ cZ cO aa an iv kp py e9 hv he) (cwV 1 hts gX0_dueAhead_X0_sharesAhead rfl rfl rfl (by decide +kernel) ⟨Nat.le_of_ble_eq_true rfl, Nat.le_of_ble_eq_true rfl⟩) (jR_V hK hP [0, 1, 2, 3, 4] rfl (ci := 0) (q0 := 0) rfl rfl rfl) rfl hl rfl (Nat.le_of_ble_eq_true rfl) dX0_dueAhead_2 ⟨Nat.le_of_ble_eq_true rfl, Nat.le_of_ble_eq_true rfl⟩ (fun r_2 hr_2 => ?_)
  subst hr_2
  refine lv_lstore_n (lv' := [(2, .long (lN (jT an iv e9))), (0, .ref (aa 0)), (1, .int (nI e9))]) hx hb dX0_dueAhead_5 rfl hl (by decide) rfl (fun ls hl => ?_)
  refine j_join (fun z : Int64 => (e9 ≤ jP an ∧ z = lN (jT an iv e9)) ∨ (jP an < e9 ∧ z = lN (jT an iv e9 + jQ an iv))) (fun z => F0 m 24 ls [.long z]) (fun z hz => ?_) (fun J24 => ?_)
  · have hz9 : z = lN (jU an iv e9) := by
      unfold jU
      rcases hz with ⟨h1, h2⟩ | ⟨h1, h2⟩
      · rw [h2, if_neg (by omega), Nat.add_zero]
      · rw [h2, if_pos h1]
    exact W.lret (v := z) hx hb hr (fun t ht hW => ⟨_, rfl, hz9, ht⟩) (fun _ h => by cases h) dX0_dueAhead_24
  refine lv_aload_n hx hb dX0_dueAhead_6 rfl (lv_at hl 1 rfl) ?_
  refine j_cI_ (As := []) (rest := []) ⟨hx, hb, hml, hown, hts⟩ (c_X0_protectionMonth l dC dI cI cJ cZ cO aa an iv kp py hv) (cwV 0 hts gX0_dueAhead_X0_protectionMonth rfl rfl rfl (by decide +kernel) ⟨Nat.le_of_ble_eq_true rfl, Nat.le_of_ble_eq_true rfl⟩) (jR_V hK hP [0, 1, 2, 3, 4] rfl (ci := 0) (q0 := 0) rfl rfl rfl) rfl hl rfl (Nat.le_of_ble_eq_true rfl) dX0_dueAhead_7 ⟨Nat.le_of_ble_eq_true rfl, Nat.le_of_ble_eq_true rfl⟩ (fun r_7 hr_7 => ?_)
  subst hr_7
  refine lv_iload_n hx hb dX0_dueAhead_10 rfl (lv_at hl 2 rfl) ?_
  refine lv_icmp_ge (tgt := 23) hx hb dX0_dueAhead_11 (by decide) (fun c_11 => ?_) (fun c_11 => ?_)
  · have c_11 : e9 ≤ jP an := (nI_leI (a := e9) (b := jP an) (by omega) (by omega)).mp c_11
    refine lv_lload_n hx hb dX0_dueAhead_23 rfl (lv_at hl 0 rfl) ?_
    exact J24 _ (Or.inl ⟨c_11, rfl⟩)
  · have c_11 : ¬ (e9 ≤ jP an) := fun h => c_11 ((nI_leI (a := e9) (b := jP an) (by omega) (by omega)).mpr h)
    refine lv_lload_n hx hb dX0_dueAhead_14 rfl (lv_at hl 0 rfl) ?_
    refine lv_aload_n hx hb dX0_dueAhead_15 rfl (lv_at hl 1 rfl) ?_
    refine j_cL_ (As := []) (rest := [.long (lN (jT an iv e9))]) ⟨hx, hb, hml, hown, hts⟩ (c_X0_protectionSum l dC dI cI cJ cZ cO aa an iv kp py hv) (cwV 0 hts gX0_dueAhead_X0_protectionSum rfl rfl rfl (by decide +kernel) ⟨Nat.le_of_ble_eq_true rfl, Nat.le_of_ble_eq_true rfl⟩) (jR_V hK hP [0, 1, 2, 3, 4] rfl (ci := 0) (q0 := 0) rfl rfl rfl) rfl hl rfl (Nat.le_of_ble_eq_true rfl) dX0_dueAhead_16 ⟨Nat.le_of_ble_eq_true rfl, Nat.le_of_ble_eq_true rfl⟩ (fun r_16 hr_16 => ?_)
    subst hr_16
    refine lv_ladd hx hb dX0_dueAhead_19 ?_
    refine j_l (y := lN (jT an iv e9 + jQ an iv)) (lN_add _ _) ?_
    refine lv_goto (tgt := 24) hx hb dX0_dueAhead_20 (by decide) ?_
    exact J24 _ (Or.inr ⟨by omega, rfl⟩)
set_option maxHeartbeats 4000000 in
set_option maxRecDepth 100000 in
/-- what is owed -/
theorem c_X0_debtAhead (l : Launch) (dC : Nat → ClassId) (dI : Nat → Nat → Nat) (cI cJ cZ cO : ClassId) (aa an : Nat → Nat) (iv : Nat → Int32) (kp : Int64) (py : Nat → Int64) (e9 : Nat) (hv : jV an) (he : e9 ≤ 240) : Met l yX0_debtAhead wsX0_debtAhead ({ frames := 5, cells := 0, slots := 0, locals := 116 }) (va_Pc [.ref (aa 0), .int (nI e9)] (jR (dC, dI) (jTY cI cJ cZ cO) (jAW cI cJ aa an iv kp py))) (vp_Sl (fun r => r = jmx (kp - lN (jU an iv e9)))) 0 0 (fun _ => False) := by
  refine j_of (cc := cX0_debtAhead) (maxL := 2) (ret := (some .long)) (by decide) rfl (Nat.le_of_ble_eq_true rfl) ?_
  intro p e s m below meth c ls hx hb hr hml hts hown hlocks hnm hl hpre
  have hown : s.vm.findClass RX0 = some m.cls := hown
  have hl : lv_has ls 2 [(0, .ref (aa 0)), (1, .int (nI e9))] := hl
  obtain ⟨v0, v1, v2, v3, v4, v5, v6, v7, v8, v9⟩ := id hv
  obtain ⟨hP, hK⟩ := hpre
  refine lv_lconst (v := lN 0) hx hb dX0_debtAhead_0 (by decide) ?_
  refine lv_aload_n hx hb dX0_debtAhead_1 rfl (lv_at hl 0 rfl) ?_
  refine va_get (D := (dC, dI)) (ci := 0) (v := .long (kp)) (C := RX0) (T := TX0) (N := 13) hx hb hts (fun _ h => List.mem_cons_of_mem _ (List.mem_append_right _ h)) hown hK hP 0 rfl rfl 12 (by decide) (hts (.fieldLink RX0 51 "JointAnnuity$Annuity" "keptInAll" "J") (List.mem_of_getElem? (i := 1) rfl)) (fun _ h9 => h9) rfl dX0_debtAhead_2 ?_
  refine lv_aload_n hx hb dX0_debtAhead_5 rfl (lv_at hl 0 rfl) ?_
  refine lv_iload_n hx hb dX0_debtAhead_6 rfl (lv_at hl 1 rfl) ?_
  refine j_cL_ (As := [.int (nI e9)]) (rest := [.long (kp), .long (lN 0)]) ⟨hx, hb, hml, hown, hts⟩ (c_X0_dueAhead l dC dI cI cJ cZ cO aa an iv kp py e9 hv he) (cwV 1 hts gX0_debtAhead_X0_dueAhead rfl rfl rfl (by decide +kernel) ⟨Nat.le_of_ble_eq_true rfl, Nat.le_of_ble_eq_true rfl⟩) (jR_V hK hP [0, 1, 2, 3, 4] rfl (ci := 0) (q0 := 0) rfl rfl rfl) rfl hl rfl (Nat.le_of_ble_eq_true rfl) dX0_debtAhead_7 ⟨Nat.le_of_ble_eq_true rfl, Nat.le_of_ble_eq_true rfl⟩ (fun r_7 hr_7 => ?_)
  subst hr_7
  refine lv_lsub hx hb dX0_debtAhead_10 ?_
  refine va_mmax_long hx hb (hml.trans hl.1.symm) hown (hts (.methodLink RX0 81 Lib.MathLoose.max_long.x) (List.mem_of_getElem? (i := 2) rfl)) (hts (.static Lib.MathLoose.max_long.x) (List.mem_of_getElem? (i := 3) rfl)) (hts (.initialized "java/lang/Math") (List.mem_of_getElem? (i := 4) rfl)) (hts (.code Lib.MathLoose.max_long.x Lib.MathLoose.max_long.code 4 (some .long)) (List.mem_of_getElem? (i := 5) rfl)) (Nat.le_of_ble_eq_true rfl) (Nat.le_of_ble_eq_true rfl) (Nat.le_of_ble_eq_true rfl) (Nat.le_of_ble_eq_true rfl) dX0_debtAhead_11 ?_
  refine j_l (y := jmx (kp - lN (jU an iv e9))) (jmx_of _) ?_
  exact W.lret (v := jmx (kp - lN (jU an iv e9))) hx hb hr (fun t ht hW => ⟨_, rfl, rfl, ht⟩) (fun _ h => by cases h) dX0_debtAhead_14
