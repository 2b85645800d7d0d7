/-! the law's follows -/
set_option maxHeartbeats 4000000 in
set_option maxRecDepth 100000 in
/-- what the law asks month by month -/
theorem c_L_follows (l : Launch) (dC : Nat → ClassId) (dI : Nat → Nat → Nat) (cI cJ cZ cO : ClassId) (ia : Nat) (ax : Nat → Nat) (ao : Nat → Option Nat) (n mo : Nat) (iv : Nat → Int32) (aa an : Nat → Nat) (kp : Int64) (py : Nat → Int64) (k : Nat) (hst : l.stackTraces = false) (hv : jV an) (hm : mo ≤ 240) (hk : k < 20) (hao : ao k = some (aa 0)) (ham : 1 ≤ an 1) : Met l yL_follows wsL_follows ({ frames := 10, cells := 3, slots := 18, locals := 170 }) (va_Pc [.ref (ax 0), .int (nI k), .int (nI (an 0)), .int (nI (an 5)), .int (nI (an 3)), .ref ia] (jRX (dC, dI) (jTY cI cJ cZ cO) ((ia, .inl (cI, 20, .inl (iv))) :: jFW cI cJ cO ax ao n mo iv aa an kp py))) (va_Qi (fun r (_ : Unit) => r = nI 1) (fun _ _ => True) (fun _ => False)) 3 18 (fun _ => False) := by
  refine j_of (cc := cL_follows) (maxL := 19) (ret := (some .boolean)) (by decide) rfl (Nat.le_of_ble_eq_true rfl) ?_
  intro p e s m below meth c ls hx hb hr hml hts hown hlocks hnm hl hpre
  have hown : s.vm.findClass RL = some m.cls := hown
  have hl : lv_has ls 19 [(0, .ref (ax 0)), (1, .int (nI k)), (2, .int (nI (an 0))), (3, .int (nI (an 5))), (4, .int (nI (an 3))), (5, .ref ia)] := hl
  obtain ⟨v0, v1, v2, v3, v4, v5, v6, v7, v8, v9⟩ := id hv
  obtain ⟨⟨hP, hK⟩, hX⟩ := hpre
  have hPF : va_P (dC, dI) vwCl (jFW cI cJ cO ax ao n mo iv aa an kp py) s.heap := j_subP hP (List.sublist_cons_self _ _)
  have hS : va_S (fun _ => False) s.heap s.heap [] := va_S.rf
  refine lv_lconst (v := lN 0) hx hb dL_follows_0 (by decide) ?_
  refine j_l (y := lN (jU an iv 0)) (congrArg lN (jU_0 iv v0 (Nat.zero_le _)).symm) ?_
  refine lv_lstore (lv' := [(6, .long (lN (jU an iv 0))), (0, .ref (ax 0)), (1, .int (nI k)), (2, .int (nI (an 0))), (3, .int (nI (an 5))), (4, .int (nI (an 3))), (5, .ref ia)]) hx hb dL_follows_1 hl (by decide) rfl (fun ls hl => ?_)
  refine lv_iload_n hx hb dL_follows_3 rfl (lv_at hl 3 rfl) ?_
  refine j_join (fun u9 : Unit => True) (fun u9 => F0 m 42 ls []) (fun u9 hu9 => ?_) (fun J42 => ?_)
  · refine lv_iconst (v := nI 1) hx hb dL_follows_42 (by decide) ?_
    refine lv_goto (tgt := 47) hx hb dL_follows_43 (by decide) ?_
    refine lv_istore (lv' := [(8, .int (nI 1)), (6, .long (lN (jU an iv 0))), (0, .ref (ax 0)), (1, .int (nI k)), (2, .int (nI (an 0))), (3, .int (nI (an 5))), (4, .int (nI (an 3))), (5, .ref ia)]) hx hb dL_follows_47 hl (by decide) rfl (fun ls hl => ?_)
    refine lv_iload hx hb dL_follows_49 (lv_at hl 0 rfl) ?_
    refine lv_if_eq (tgt := 76) hx hb dL_follows_51 (by decide) (fun c_51 => ?_) (fun c_51 => ?_)
    · have c_51 : 1 = 0 := (nI_eq (a := 1) (b := 0) (by omega) (by omega)).mp c_51
      omega
    · have c_51 : ¬ (1 = 0) := fun h => c_51 ((nI_eq (a := 1) (b := 0) (by omega) (by omega)).mpr h)
      refine lv_aload_n hx hb dL_follows_54 rfl (lv_at hl 2 rfl) ?_
      refine lv_iload_n hx hb dL_follows_55 rfl (lv_at hl 3 rfl) ?_
      refine lv_iload_n hx hb dL_follows_56 rfl (lv_at hl 4 rfl) ?_
      refine q_rI (As := [.ref (ax 0), .int (nI k), .int (nI (an 0))]) (rest := []) ⟨hx, hb, hml, hown, hts⟩ (c_L_carry l dC dI cI cJ cZ cO ax ao n mo iv aa an kp py k (an 0) hv hm hk hao v0) (vx_cwSW 3 hts gL_follows_L_carry rfl rfl rfl (by decide +kernel) ⟨Nat.le_of_ble_eq_true rfl, Nat.le_of_ble_eq_true rfl⟩) hK hPF rfl hl rfl (Nat.le_of_ble_eq_true rfl) dL_follows_57 ⟨Nat.le_of_ble_eq_true rfl, Nat.le_of_ble_eq_true rfl⟩ ?_
      refine j_i (y := nI 0) ((q_C1 (Nat.le_refl _)).trans (q_Cs an iv)) ?_
      refine lv_if_ne (tgt := 76) hx hb dL_follows_60 (by decide) (fun c_60 => ?_) (fun c_60 => ?_)
      · have c_60 : ¬ (0 = 0) := fun h => c_60 ((nI_eq (a := 0) (b := 0) (by omega) (by omega)).mpr h)
        omega
      · have c_60 : 0 = 0 := (nI_eq (a := 0) (b := 0) (by omega) (by omega)).mp c_60
        refine lv_aload_n hx hb dL_follows_63 rfl (lv_at hl 2 rfl) ?_
        refine lv_iload_n hx hb dL_follows_64 rfl (lv_at hl 3 rfl) ?_
        refine lv_iload_n hx hb dL_follows_65 rfl (lv_at hl 4 rfl) ?_
        refine q_rI (As := [.ref (ax 0), .int (nI k), .int (nI (an 0))]) (rest := []) ⟨hx, hb, hml, hown, hts⟩ (c_L_full l dC dI cI cJ cZ cO ax ao n mo iv aa an kp py k (an 0) hv hm hk hao v0) (vx_cwSW 3 hts gL_follows_L_full rfl rfl rfl (by decide +kernel) ⟨Nat.le_of_ble_eq_true rfl, Nat.le_of_ble_eq_true rfl⟩) hK hPF rfl hl rfl (Nat.le_of_ble_eq_true rfl) dL_follows_66 ⟨Nat.le_of_ble_eq_true rfl, Nat.le_of_ble_eq_true rfl⟩ ?_
        refine j_i (y := nI (an 1)) ((q_F1 (Nat.le_refl _)).trans (congrArg nI (q_Ms an iv))) ?_
        refine lv_if_le (tgt := 76) hx hb dL_follows_69 (by decide) (fun c_69 => ?_) (fun c_69 => ?_)
        · have c_69 : an 1 ≤ 0 := (nI_leI (a := an 1) (b := 0) (by omega) (by omega)).mp c_69
          omega
        · have c_69 : ¬ (an 1 ≤ 0) := fun h => c_69 ((nI_leI (a := an 1) (b := 0) (by omega) (by omega)).mpr h)
          refine lv_iconst (v := nI 1) hx hb dL_follows_72 (by decide) ?_
          refine lv_goto (tgt := 77) hx hb dL_follows_73 (by decide) ?_
          refine lv_istore (lv' := [(8, .int (nI 1)), (6, .long (lN (jU an iv 0))), (0, .ref (ax 0)), (1, .int (nI k)), (2, .int (nI (an 0))), (3, .int (nI (an 5))), (4, .int (nI (an 3))), (5, .ref ia)]) hx hb dL_follows_77 hl (by decide) rfl (fun ls hl => ?_)
          refine lv_iconst (v := nI 0) hx hb dL_follows_79 (by decide) ?_
          refine lv_istore (lv' := [(9, .int (nI 0)), (8, .int (nI 1)), (6, .long (lN (jU an iv 0))), (0, .ref (ax 0)), (1, .int (nI k)), (2, .int (nI (an 0))), (3, .int (nI (an 5))), (4, .int (nI (an 3))), (5, .ref ia)]) hx hb dL_follows_80 hl (by decide) rfl (fun ls hl => ?_)
          refine lv_iconst (v := nI 0) hx hb dL_follows_82 (by decide) ?_
          refine lv_istore (lv' := [(10, .int (nI 0)), (9, .int (nI 0)), (8, .int (nI 1)), (6, .long (lN (jU an iv 0))), (0, .ref (ax 0)), (1, .int (nI k)), (2, .int (nI (an 0))), (3, .int (nI (an 5))), (4, .int (nI (an 3))), (5, .ref ia)]) hx hb dL_follows_83 hl (by decide) rfl (fun ls hl => ?_)
          refine j_loop (I := fun z : Nat × Nat => z.1 ≤ 240 ∧ z.2 ≤ 1 ∧ (z.1 ≤ jP an → z.2 = 0)) (μ := fun z => 240 - z.1) (lv := fun z => [(0, .ref (ax 0)), (1, .int (nI k)), (2, .int (nI (an 0))), (3, .int (nI (an 5))), (4, .int (nI (an 3))), (5, .ref ia), (6, .long (lN (jU an iv z.1))), (8, .int (nI 1)), (9, .int (nI z.2)), (10, .int (nI z.1))]) (0, 0) (⟨by decide, by decide, fun _ => rfl⟩) (lv_sub hl [4, 5, 6, 7, 8, 9, 3, 2, 1, 0] rfl) ?_
          intro z ls hI hl IH
          have hl : lv_has ls 19 [(0, .ref (ax 0)), (1, .int (nI k)), (2, .int (nI (an 0))), (3, .int (nI (an 5))), (4, .int (nI (an 3))), (5, .ref ia), (6, .long (lN (jU an iv z.1))), (8, .int (nI 1)), (9, .int (nI z.2)), (10, .int (nI z.1))] := hl
          have hI1 : z.1 ≤ 240 := hI.1
          have hI2 : z.2 ≤ 1 := hI.2.1
          have hI3 : z.1 ≤ jP an → z.2 = 0 := hI.2.2
          refine lv_iload hx hb dL_follows_85 (lv_at hl 9 rfl) ?_
          refine lv_sipush (v := nI 240) hx hb dL_follows_87 (by decide) ?_
          refine lv_icmp_ge (tgt := 384) hx hb dL_follows_90 (by decide) (fun c_90 => ?_) (fun c_90 => ?_)
          · have c_90 : 240 ≤ z.1 := (nI_leI (a := 240) (b := z.1) (by omega) (by omega)).mp c_90
            have h240 : z.1 = 240 := by omega
            refine lv_iload hx hb dL_follows_384 (lv_at hl 7 rfl) ?_
            refine lv_if_eq (tgt := 461) hx hb dL_follows_386 (by decide) (fun c_386 => ?_) (fun c_386 => ?_)
            · have c_386 : 1 = 0 := (nI_eq (a := 1) (b := 0) (by omega) (by omega)).mp c_386
              omega
            · have c_386 : ¬ (1 = 0) := fun h => c_386 ((nI_eq (a := 1) (b := 0) (by omega) (by omega)).mpr h)
              refine lv_iload hx hb dL_follows_389 (lv_at hl 8 rfl) ?_
              refine lv_iconst (v := nI 1) hx hb dL_follows_391 (by decide) ?_
              refine lv_icmp_gt (tgt := 461) hx hb dL_follows_392 (by decide) (fun c_392 => ?_) (fun c_392 => ?_)
              · have c_392 : 1 < z.2 := (nI_ltI (a := 1) (b := z.2) (by omega) (by omega)).mp c_392
                omega
              · have c_392 : ¬ (1 < z.2) := fun h => c_392 ((nI_ltI (a := 1) (b := z.2) (by omega) (by omega)).mpr h)
                refine lv_aload_n hx hb dL_follows_395 rfl (lv_at hl 0 rfl) ?_
                refine lv_iload_n hx hb dL_follows_396 rfl (lv_at hl 1 rfl) ?_
                refine q_rL (As := [.ref (ax 0), .int (nI k)]) (rest := []) ⟨hx, hb, hml, hown, hts⟩ (c_L_protection l dC dI cI cJ cZ cO ax ao n mo iv aa an kp py k hv hm hk hao) (vx_cwSW 2 hts gL_follows_L_protection rfl rfl rfl (by decide +kernel) ⟨Nat.le_of_ble_eq_true rfl, Nat.le_of_ble_eq_true rfl⟩) hK hPF rfl hl rfl (Nat.le_of_ble_eq_true rfl) dL_follows_397 ⟨Nat.le_of_ble_eq_true rfl, Nat.le_of_ble_eq_true rfl⟩ ?_
                refine lv_lconst (v := lN 0) hx hb dL_follows_400 (by decide) ?_
                refine W.lcmp hx hb dL_follows_401 ?_
                refine lv_if_lt (tgt := 461) hx hb dL_follows_402 (by decide) (fun c_402 => ?_) (fun c_402 => ?_)
                · exact (q_nlt (Nat.zero_le _) (by have := jQ_le hv iv; omega) c_402).elim
                · refine lv_aload_n hx hb dL_follows_405 rfl (lv_at hl 0 rfl) ?_
                  refine lv_iload_n hx hb dL_follows_406 rfl (lv_at hl 1 rfl) ?_
                  refine q_rL (As := [.ref (ax 0), .int (nI k)]) (rest := []) ⟨hx, hb, hml, hown, hts⟩ (c_L_protection l dC dI cI cJ cZ cO ax ao n mo iv aa an kp py k hv hm hk hao) (vx_cwSW 2 hts gL_follows_L_protection rfl rfl rfl (by decide +kernel) ⟨Nat.le_of_ble_eq_true rfl, Nat.le_of_ble_eq_true rfl⟩) hK hPF rfl hl rfl (Nat.le_of_ble_eq_true rfl) dL_follows_407 ⟨Nat.le_of_ble_eq_true rfl, Nat.le_of_ble_eq_true rfl⟩ ?_
                  refine lv_lload hx hb dL_follows_410 (lv_at hl 6 rfl) ?_
                  refine W.lcmp hx hb dL_follows_412 ?_
                  refine lv_if_gt (tgt := 461) hx hb dL_follows_413 (by decide) (fun c_413 => ?_) (fun c_413 => ?_)
                  · exact (q_ngt (by rw [h240]; exact q_QU iv) (by have := jU_le hv iv hI1; omega) c_413).elim
                  · refine lv_aload_n hx hb dL_follows_416 rfl (lv_at hl 0 rfl) ?_
                    refine lv_iload_n hx hb dL_follows_417 rfl (lv_at hl 1 rfl) ?_
                    refine lv_sipush (v := nI 240) hx hb dL_follows_418 (by decide) ?_
                    refine q_xI (As := [.ref (ax 0), .int (nI k), .int (nI 240)]) (rest := []) ⟨hx, hb, hml, hown, hts⟩ (x2_L_full l dC dI cI cJ cZ cO ax ao n mo iv aa an kp py k (nI 240) hst hv hm hk hao (Or.inr (by decide))) (vx_cwSW 3 hts gL_follows_L_full rfl rfl rfl (by decide +kernel) ⟨Nat.le_of_ble_eq_true rfl, Nat.le_of_ble_eq_true rfl⟩) hX hK hPF rfl hl rfl (Nat.le_of_ble_eq_true rfl) dL_follows_421 ⟨Nat.le_of_ble_eq_true rfl, Nat.le_of_ble_eq_true rfl⟩ hS (fun H1 locs hX hk1 hS => ?_)
                    have hPF := j_keep hPF hk1
                    clear hk1
                    refine lv_bipush (v := (-102)) hx hb dL_follows_424 (by decide) ?_
                    refine lv_icmp_ne (tgt := 461) hx hb dL_follows_426 (by decide) (fun c_426 => ?_) (fun c_426 => ?_)
                    · exact (c_426 rfl).elim
                    · refine lv_aload_n hx hb dL_follows_429 rfl (lv_at hl 0 rfl) ?_
                      refine lv_iload_n hx hb dL_follows_430 rfl (lv_at hl 1 rfl) ?_
                      refine lv_iconst (v := (-1)) hx hb dL_follows_431 (by decide) ?_
                      refine q_xL (As := [.ref (ax 0), .int (nI k), .int (-1)]) (rest := []) ⟨hx, hb, hml, hown, hts⟩ (x2_L_entitled l dC dI cI cJ cZ cO ax ao n mo iv aa an kp py k (-1) hst hv hm hk hao (Or.inl (by decide))) (vx_cwSW 3 hts gL_follows_L_entitled rfl rfl rfl (by decide +kernel) ⟨Nat.le_of_ble_eq_true rfl, Nat.le_of_ble_eq_true rfl⟩) hX hK hPF rfl hl rfl (Nat.le_of_ble_eq_true rfl) dL_follows_432 ⟨Nat.le_of_ble_eq_true rfl, Nat.le_of_ble_eq_true rfl⟩ hS (fun H1 locs hX hk1 hS => ?_)
                      have hPF := j_keep hPF hk1
                      clear hk1
                      refine lv_ldc2 hx hb hown (hts (.constantLong RL 55 (-102)) (List.mem_of_getElem? (i := 1) rfl)) dL_follows_435 ?_
                      refine W.lcmp hx hb dL_follows_438 ?_
                      refine lv_if_ne (tgt := 461) hx hb dL_follows_439 (by decide) (fun c_439 => ?_) (fun c_439 => ?_)
                      · exact absurd (jcmp0 _) c_439
                      · refine lv_aload_n hx hb dL_follows_442 rfl (lv_at hl 0 rfl) ?_
                        refine lv_iload_n hx hb dL_follows_443 rfl (lv_at hl 1 rfl) ?_
                        refine lv_sipush (v := nI 240) hx hb dL_follows_444 (by decide) ?_
                        refine q_xL (As := [.ref (ax 0), .int (nI k), .int (nI 240)]) (rest := []) ⟨hx, hb, hml, hown, hts⟩ (x2_L_upTo l dC dI cI cJ cZ cO ax ao n mo iv aa an kp py k (nI 240) hst hv hm hk hao (Or.inr (by decide))) (vx_cwSW 3 hts gL_follows_L_upTo rfl rfl rfl (by decide +kernel) ⟨Nat.le_of_ble_eq_true rfl, Nat.le_of_ble_eq_true rfl⟩) hX hK hPF rfl hl rfl (Nat.le_of_ble_eq_true rfl) dL_follows_447 ⟨Nat.le_of_ble_eq_true rfl, Nat.le_of_ble_eq_true rfl⟩ hS (fun H1 locs hX hk1 hS => ?_)
                        have hPF := j_keep hPF hk1
                        clear hk1
                        refine lv_ldc2 hx hb hown (hts (.constantLong RL 55 (-102)) (List.mem_of_getElem? (i := 1) rfl)) dL_follows_450 ?_
                        refine W.lcmp hx hb dL_follows_453 ?_
                        refine lv_if_ne (tgt := 461) hx hb dL_follows_454 (by decide) (fun c_454 => ?_) (fun c_454 => ?_)
                        · exact absurd (jcmp0 _) c_454
                        · refine lv_iconst (v := nI 1) hx hb dL_follows_457 (by decide) ?_
                          refine lv_goto (tgt := 462) hx hb dL_follows_458 (by decide) ?_
                          refine W.widen (k := 3) (n := 18) (by decide) (by decide) ?_
                          exact W.zret (v := nI 1) hx hb hr rfl (fun t ht hW => ⟨⟨_, (), rfl, rfl, trivial⟩, hS.F ht⟩) hS.2.2 dL_follows_462
          · have c_90 : ¬ (240 ≤ z.1) := fun h => c_90 ((nI_leI (a := 240) (b := z.1) (by omega) (by omega)).mpr h)
            refine lv_iload hx hb dL_follows_93 (lv_at hl 7 rfl) ?_
            refine lv_if_eq (tgt := 384) hx hb dL_follows_95 (by decide) (fun c_95 => ?_) (fun c_95 => ?_)
            · have c_95 : 1 = 0 := (nI_eq (a := 1) (b := 0) (by omega) (by omega)).mp c_95
              omega
            · have c_95 : ¬ (1 = 0) := fun h => c_95 ((nI_eq (a := 1) (b := 0) (by omega) (by omega)).mpr h)
              refine lv_aload_n hx hb dL_follows_98 rfl (lv_at hl 0 rfl) ?_
              refine lv_iload_n hx hb dL_follows_99 rfl (lv_at hl 1 rfl) ?_
              refine lv_iload hx hb dL_follows_100 (lv_at hl 9 rfl) ?_
              refine q_rI (As := [.ref (ax 0), .int (nI k), .int (nI z.1)]) (rest := []) ⟨hx, hb, hml, hown, hts⟩ (c_L_full l dC dI cI cJ cZ cO ax ao n mo iv aa an kp py k z.1 hv hm hk hao (by omega)) (vx_cwSW 3 hts gL_follows_L_full rfl rfl rfl (by decide +kernel) ⟨Nat.le_of_ble_eq_true rfl, Nat.le_of_ble_eq_true rfl⟩) hK hPF rfl hl rfl (Nat.le_of_ble_eq_true rfl) dL_follows_102 ⟨Nat.le_of_ble_eq_true rfl, Nat.le_of_ble_eq_true rfl⟩ ?_
              refine lv_istore (lv' := [(11, .int (nI (if z.1 < an 0 then 0 else jM an iv z.1))), (0, .ref (ax 0)), (1, .int (nI k)), (2, .int (nI (an 0))), (3, .int (nI (an 5))), (4, .int (nI (an 3))), (5, .ref ia), (6, .long (lN (jU an iv z.1))), (8, .int (nI 1)), (9, .int (nI z.2)), (10, .int (nI z.1))]) hx hb dL_follows_105 hl (by decide) rfl (fun ls hl => ?_)
              refine lv_aload_n hx hb dL_follows_107 rfl (lv_at hl 1 rfl) ?_
              refine lv_iload_n hx hb dL_follows_108 rfl (lv_at hl 2 rfl) ?_
              refine lv_iload hx hb dL_follows_109 (lv_at hl 10 rfl) ?_
              refine q_rI (As := [.ref (ax 0), .int (nI k), .int (nI z.1)]) (rest := []) ⟨hx, hb, hml, hown, hts⟩ (c_L_carry l dC dI cI cJ cZ cO ax ao n mo iv aa an kp py k z.1 hv hm hk hao (by omega)) (vx_cwSW 3 hts gL_follows_L_carry rfl rfl rfl (by decide +kernel) ⟨Nat.le_of_ble_eq_true rfl, Nat.le_of_ble_eq_true rfl⟩) hK hPF rfl hl rfl (Nat.le_of_ble_eq_true rfl) dL_follows_111 ⟨Nat.le_of_ble_eq_true rfl, Nat.le_of_ble_eq_true rfl⟩ ?_
              refine lv_istore (lv' := [(12, .int (if z.1 < an 0 then 0 else jC an iv ((z.1 - an 0) / 12))), (11, .int (nI (if z.1 < an 0 then 0 else jM an iv z.1))), (0, .ref (ax 0)), (1, .int (nI k)), (2, .int (nI (an 0))), (3, .int (nI (an 5))), (4, .int (nI (an 3))), (5, .ref ia), (6, .long (lN (jU an iv z.1))), (8, .int (nI 1)), (9, .int (nI z.2)), (10, .int (nI z.1))]) hx hb dL_follows_114 hl (by decide) rfl (fun ls hl => ?_)
              refine lv_aload_n hx hb dL_follows_116 rfl (lv_at hl 2 rfl) ?_
              refine lv_iload_n hx hb dL_follows_117 rfl (lv_at hl 3 rfl) ?_
              refine lv_iload hx hb dL_follows_118 (lv_at hl 11 rfl) ?_
              refine q_rL (As := [.ref (ax 0), .int (nI k), .int (nI z.1)]) (rest := []) ⟨hx, hb, hml, hown, hts⟩ (c_L_entitled l dC dI cI cJ cZ cO ax ao n mo iv aa an kp py k z.1 hv hm hk hao (by omega)) (vx_cwSW 3 hts gL_follows_L_entitled rfl rfl rfl (by decide +kernel) ⟨Nat.le_of_ble_eq_true rfl, Nat.le_of_ble_eq_true rfl⟩) hK hPF rfl hl rfl (Nat.le_of_ble_eq_true rfl) dL_follows_120 ⟨Nat.le_of_ble_eq_true rfl, Nat.le_of_ble_eq_true rfl⟩ ?_
              refine lv_lstore (lv' := [(13, .long (lN (qD an iv z.1))), (12, .int (if z.1 < an 0 then 0 else jC an iv ((z.1 - an 0) / 12))), (11, .int (nI (if z.1 < an 0 then 0 else jM an iv z.1))), (0, .ref (ax 0)), (1, .int (nI k)), (2, .int (nI (an 0))), (3, .int (nI (an 5))), (4, .int (nI (an 3))), (5, .ref ia), (6, .long (lN (jU an iv z.1))), (8, .int (nI 1)), (9, .int (nI z.2)), (10, .int (nI z.1))]) hx hb dL_follows_123 hl (by decide) rfl (fun ls hl => ?_)
              refine j_join (fun ls : Array Slot => lv_has ls 19 [(0, .ref (ax 0)), (1, .int (nI k)), (2, .int (nI (an 0))), (3, .int (nI (an 5))), (4, .int (nI (an 3))), (5, .ref ia), (6, .long (lN (jU an iv z.1))), (8, .int (nI 1)), (9, .int (nI z.2)), (10, .int (nI z.1)), (11, .int (nI (if z.1 < an 0 then 0 else jM an iv z.1))), (12, .int (if z.1 < an 0 then 0 else jC an iv ((z.1 - an 0) / 12))), (13, .long (lN (qD an iv z.1)))]) (fun ls => F0 m 292 ls []) (fun ls hl => ?_) (fun J292 => ?_)
              · refine lv_lload hx hb dL_follows_292 (lv_at hl 6 rfl) ?_
                refine lv_lload hx hb dL_follows_294 (lv_at hl 12 rfl) ?_
                refine lv_ladd hx hb dL_follows_296 ?_
                refine j_l (y := lN (jU an iv z.1 + qD an iv z.1)) (lN_add _ _) ?_
                refine j_l (y := lN (jU an iv (z.1 + 1))) (congrArg lN (qD_s an iv z.1)) ?_
                refine lv_lstore (lv' := [(6, .long (lN (jU an iv (z.1 + 1)))), (0, .ref (ax 0)), (1, .int (nI k)), (2, .int (nI (an 0))), (3, .int (nI (an 5))), (4, .int (nI (an 3))), (5, .ref ia), (8, .int (nI 1)), (9, .int (nI z.2)), (10, .int (nI z.1)), (11, .int (nI (if z.1 < an 0 then 0 else jM an iv z.1))), (12, .int (if z.1 < an 0 then 0 else jC an iv ((z.1 - an 0) / 12))), (13, .long (lN (qD an iv z.1)))]) hx hb dL_follows_297 hl (by decide) rfl (fun ls hl => ?_)
                refine lv_iload hx hb dL_follows_299 (lv_at hl 7 rfl) ?_
                refine lv_if_eq (tgt := 328) hx hb dL_follows_301 (by decide) (fun c_301 => ?_) (fun c_301 => ?_)
                · have c_301 : 1 = 0 := (nI_eq (a := 1) (b := 0) (by omega) (by omega)).mp c_301
                  omega
                · have c_301 : ¬ (1 = 0) := fun h => c_301 ((nI_eq (a := 1) (b := 0) (by omega) (by omega)).mpr h)
                  refine lv_aload_n hx hb dL_follows_304 rfl (lv_at hl 1 rfl) ?_
                  refine lv_iload_n hx hb dL_follows_305 rfl (lv_at hl 2 rfl) ?_
                  refine lv_iload hx hb dL_follows_306 (lv_at hl 9 rfl) ?_
                  refine q_rL (As := [.ref (ax 0), .int (nI k), .int (nI z.1)]) (rest := []) ⟨hx, hb, hml, hown, hts⟩ (c_L_upTo l dC dI cI cJ cZ cO ax ao n mo iv aa an kp py k z.1 hv hm hk hao (by omega)) (vx_cwSW 3 hts gL_follows_L_upTo rfl rfl rfl (by decide +kernel) ⟨Nat.le_of_ble_eq_true rfl, Nat.le_of_ble_eq_true rfl⟩) hK hPF rfl hl rfl (Nat.le_of_ble_eq_true rfl) dL_follows_308 ⟨Nat.le_of_ble_eq_true rfl, Nat.le_of_ble_eq_true rfl⟩ ?_
                  refine lv_lload hx hb dL_follows_311 (lv_at hl 0 rfl) ?_
                  refine W.lcmp hx hb dL_follows_313 ?_
                  refine lv_if_ne (tgt := 328) hx hb dL_follows_314 (by decide) (fun c_314 => ?_) (fun c_314 => ?_)
                  · exact absurd (jcmp0 _) c_314
                  · refine lv_lload hx hb dL_follows_317 (lv_at hl 12 rfl) ?_
                    refine lv_lconst (v := lN 0) hx hb dL_follows_319 (by decide) ?_
                    refine W.lcmp hx hb dL_follows_320 ?_
                    refine lv_if_lt (tgt := 328) hx hb dL_follows_321 (by decide) (fun c_321 => ?_) (fun c_321 => ?_)
                    · exact (q_nlt (Nat.zero_le _) (by have := qD_bd hv iv (v := z.1) (by omega); omega) c_321).elim
                    · refine lv_iconst (v := nI 1) hx hb dL_follows_324 (by decide) ?_
                      refine lv_goto (tgt := 329) hx hb dL_follows_325 (by decide) ?_
                      refine lv_istore (lv' := [(8, .int (nI 1)), (6, .long (lN (jU an iv (z.1 + 1)))), (0, .ref (ax 0)), (1, .int (nI k)), (2, .int (nI (an 0))), (3, .int (nI (an 5))), (4, .int (nI (an 3))), (5, .ref ia), (9, .int (nI z.2)), (10, .int (nI z.1)), (11, .int (nI (if z.1 < an 0 then 0 else jM an iv z.1))), (12, .int (if z.1 < an 0 then 0 else jC an iv ((z.1 - an 0) / 12))), (13, .long (lN (qD an iv z.1)))]) hx hb dL_follows_329 hl (by decide) rfl (fun ls hl => ?_)
                      refine lv_iload hx hb dL_follows_331 (lv_at hl 8 rfl) ?_
                      refine lv_iload hx hb dL_follows_333 (lv_at hl 9 rfl) ?_
                      refine lv_iload_n hx hb dL_follows_335 rfl (lv_at hl 4 rfl) ?_
                      have hMb : jM an iv z.1 ≤ 3200000 := jM_bd hv iv (by omega)
                      have hpc := jpct hMb v3
                      refine j_join (fun k9 : Nat => k9 ≤ 1 ∧ (k9 = 1 → z.1 = jP an)) (fun k9 => F0 m 375 ls [.int (nI k9), .int (nI z.2)]) (fun k9 hk9 => ?_) (fun J375 => ?_)
                      · refine lv_iadd hx hb dL_follows_375 ?_
                        refine j_i (y := nI (z.2 + k9)) (nI_add _ _) ?_
                        refine lv_istore (lv' := [(9, .int (nI (z.2 + k9))), (8, .int (nI 1)), (6, .long (lN (jU an iv (z.1 + 1)))), (0, .ref (ax 0)), (1, .int (nI k)), (2, .int (nI (an 0))), (3, .int (nI (an 5))), (4, .int (nI (an 3))), (5, .ref ia), (10, .int (nI z.1)), (11, .int (nI (if z.1 < an 0 then 0 else jM an iv z.1))), (12, .int (if z.1 < an 0 then 0 else jC an iv ((z.1 - an 0) / 12))), (13, .long (lN (qD an iv z.1)))]) hx hb dL_follows_376 hl (by decide) rfl (fun ls hl => ?_)
                        refine lv_iinc (v := nI (z.1 + 1)) (lv' := [(10, .int (nI (z.1 + 1))), (9, .int (nI (z.2 + k9))), (8, .int (nI 1)), (6, .long (lN (jU an iv (z.1 + 1)))), (0, .ref (ax 0)), (1, .int (nI k)), (2, .int (nI (an 0))), (3, .int (nI (an 5))), (4, .int (nI (an 3))), (5, .ref ia), (11, .int (nI (if z.1 < an 0 then 0 else jM an iv z.1))), (12, .int (if z.1 < an 0 then 0 else jC an iv ((z.1 - an 0) / 12))), (13, .long (lN (qD an iv z.1)))]) hx hb dL_follows_378 hl (k := 9) rfl (by exact nI_add _ 1) (by decide) rfl (fun ls hl => ?_)
                        refine lv_goto (tgt := 85) hx hb dL_follows_381 (by decide) ?_
                        exact IH (z.1 + 1, z.2 + k9) _ (show z.1 + 1 ≤ 240 ∧ z.2 + k9 ≤ 1 ∧ (z.1 + 1 ≤ jP an → z.2 + k9 = 0) from ⟨by omega, by omega, by omega⟩) (show 240 - (z.1 + 1) < 240 - z.1 by omega) (lv_sub hl [4, 5, 6, 7, 8, 9, 3, 2, 1, 0] rfl)
                      refine lv_icmp_lt (tgt := 374) hx hb dL_follows_336 (by decide) (fun c_336 => ?_) (fun c_336 => ?_)
                      · have c_336 : z.1 < an 0 := (nI_ltI (a := z.1) (b := an 0) (by omega) (by omega)).mp c_336
                        refine lv_iconst (v := nI 0) hx hb dL_follows_374 (by decide) ?_
                        exact J375 0 ⟨Nat.zero_le 1, fun h => absurd h (by decide)⟩
                      · have c_336 : ¬ (z.1 < an 0) := fun h => c_336 ((nI_ltI (a := z.1) (b := an 0) (by omega) (by omega)).mpr h)
                        refine lv_lload hx hb dL_follows_339 (lv_at hl 12 rfl) ?_
                        refine lv_lconst (v := lN 0) hx hb dL_follows_341 (by decide) ?_
                        refine W.lcmp hx hb dL_follows_342 ?_
                        refine lv_if_eq (tgt := 374) hx hb dL_follows_343 (by decide) (fun c_343 => ?_) (fun c_343 => ?_)
                        · refine lv_iconst (v := nI 0) hx hb dL_follows_374 (by decide) ?_
                          exact J375 0 ⟨Nat.zero_le 1, fun h => absurd h (by decide)⟩
                        · refine lv_lload hx hb dL_follows_346 (lv_at hl 12 rfl) ?_
                          refine lv_iload hx hb dL_follows_348 (lv_at hl 10 rfl) ?_
                          refine j_i (y := nI (jM an iv z.1)) (q_F1 (by omega)) ?_
                          refine lv_i2l (v := lN (jM an iv z.1)) hx hb dL_follows_350 (nI_l (by omega)) ?_
                          refine W.lcmp hx hb dL_follows_351 ?_
                          refine lv_if_eq (tgt := 374) hx hb dL_follows_352 (by decide) (fun c_352 => ?_) (fun c_352 => ?_)
                          · refine lv_iconst (v := nI 0) hx hb dL_follows_374 (by decide) ?_
                            exact J375 0 ⟨Nat.zero_le 1, fun h => absurd h (by decide)⟩
                          · refine lv_lload hx hb dL_follows_355 (lv_at hl 12 rfl) ?_
                            refine lv_iload hx hb dL_follows_357 (lv_at hl 10 rfl) ?_
                            refine j_i (y := nI (jM an iv z.1)) (q_F1 (by omega)) ?_
                            refine lv_iload hx hb dL_follows_359 (lv_at hl 6 rfl) ?_
                            refine lv_imul hx hb dL_follows_361 ?_
                            refine j_i (y := nI ((jM an iv z.1) * (an 3))) (pk_mul _ _) ?_
                            refine lv_bipush (v := nI 100) hx hb dL_follows_362 (by decide) ?_
                            refine lv_idiv hx hb dL_follows_364 (by decide) ?_
                            refine j_i (y := nI (((jM an iv z.1) * (an 3)) / 100)) (pk_div (by omega) (by omega) (by omega)) ?_
                            refine lv_i2l (v := lN (((jM an iv z.1) * (an 3)) / 100)) hx hb dL_follows_365 (nI_l (by omega)) ?_
                            refine W.lcmp hx hb dL_follows_366 ?_
                            refine lv_if_eq (tgt := 374) hx hb dL_follows_367 (by decide) (fun c_367 => ?_) (fun c_367 => ?_)
                            · refine lv_iconst (v := nI 0) hx hb dL_follows_374 (by decide) ?_
                              exact J375 0 ⟨Nat.zero_le 1, fun h => absurd h (by decide)⟩
                            · refine lv_iconst (v := nI 1) hx hb dL_follows_370 (by decide) ?_
                              refine lv_goto (tgt := 375) hx hb dL_follows_371 (by decide) ?_
                              exact J375 1 ⟨Nat.le_refl 1, fun _ => q_other hv iv (by omega) (by omega) c_343 c_352 c_367⟩
              refine lv_iload hx hb dL_follows_125 (lv_at hl 12 rfl) ?_
              refine lv_iload_n hx hb dL_follows_127 rfl (lv_at hl 5 rfl) ?_
              refine lv_icmp_le (tgt := 292) hx hb dL_follows_128 (by decide) (fun c_128 => ?_) (fun c_128 => ?_)
              · have c_128 : z.1 ≤ an 0 := (nI_leI (a := z.1) (b := an 0) (by omega) (by omega)).mp c_128
                exact J292 _ (lv_sub hl [3, 4, 5, 6, 7, 8, 9, 10, 11, 12, 2, 1, 0] rfl)
              · have c_128 : ¬ (z.1 ≤ an 0) := fun h => c_128 ((nI_leI (a := z.1) (b := an 0) (by omega) (by omega)).mpr h)
                have hM0 : jM an iv (z.1 - 1) ≤ 3200000 := jM_bd hv iv (by omega)
                have hcl : jM an iv (z.1 - 1) * jcl (iv (z.1 / 12 - 1) + jC an iv ((z.1 - 1 - an 0) / 12)) (an 5) ≤ 640000000 := q_prod hv iv _ (by omega)
                have hcl2 : jcl (iv (z.1 / 12 - 1) + jC an iv ((z.1 - 1 - an 0) / 12)) (an 5) ≤ an 5 := jcl_le _ (by omega)
                refine lv_aload_n hx hb dL_follows_131 rfl (lv_at hl 3 rfl) ?_
                refine lv_iload_n hx hb dL_follows_132 rfl (lv_at hl 4 rfl) ?_
                refine lv_iload hx hb dL_follows_133 (lv_at hl 12 rfl) ?_
                refine lv_iconst (v := nI 1) hx hb dL_follows_135 (by decide) ?_
                refine lv_isub hx hb dL_follows_136 ?_
                refine j_i (y := nI (z.1 - 1)) (pk_sub (by omega)) ?_
                refine q_rI (As := [.ref (ax 0), .int (nI k), .int (nI (z.1 - 1))]) (rest := []) ⟨hx, hb, hml, hown, hts⟩ (c_L_full l dC dI cI cJ cZ cO ax ao n mo iv aa an kp py k (z.1 - 1) hv hm hk hao (by omega)) (vx_cwSW 3 hts gL_follows_L_full rfl rfl rfl (by decide +kernel) ⟨Nat.le_of_ble_eq_true rfl, Nat.le_of_ble_eq_true rfl⟩) hK hPF rfl hl rfl (Nat.le_of_ble_eq_true rfl) dL_follows_137 ⟨Nat.le_of_ble_eq_true rfl, Nat.le_of_ble_eq_true rfl⟩ ?_
                refine j_i (y := nI (jM an iv (z.1 - 1))) (q_F1 (by omega)) ?_
                refine lv_istore (lv' := [(15, .int (nI (jM an iv (z.1 - 1)))), (13, .long (lN (qD an iv z.1))), (12, .int (if z.1 < an 0 then 0 else jC an iv ((z.1 - an 0) / 12))), (11, .int (nI (if z.1 < an 0 then 0 else jM an iv z.1))), (0, .ref (ax 0)), (1, .int (nI k)), (2, .int (nI (an 0))), (3, .int (nI (an 5))), (4, .int (nI (an 3))), (5, .ref ia), (6, .long (lN (jU an iv z.1))), (8, .int (nI 1)), (9, .int (nI z.2)), (10, .int (nI z.1))]) hx hb dL_follows_140 hl (by decide) rfl (fun ls hl => ?_)
                refine lv_aload_n hx hb dL_follows_142 rfl (lv_at hl 4 rfl) ?_
                refine lv_iload_n hx hb dL_follows_143 rfl (lv_at hl 5 rfl) ?_
                refine lv_iload hx hb dL_follows_144 (lv_at hl 13 rfl) ?_
                refine lv_iconst (v := nI 1) hx hb dL_follows_146 (by decide) ?_
                refine lv_isub hx hb dL_follows_147 ?_
                refine j_i (y := nI (z.1 - 1)) (pk_sub (by omega)) ?_
                refine q_rI (As := [.ref (ax 0), .int (nI k), .int (nI (z.1 - 1))]) (rest := []) ⟨hx, hb, hml, hown, hts⟩ (c_L_carry l dC dI cI cJ cZ cO ax ao n mo iv aa an kp py k (z.1 - 1) hv hm hk hao (by omega)) (vx_cwSW 3 hts gL_follows_L_carry rfl rfl rfl (by decide +kernel) ⟨Nat.le_of_ble_eq_true rfl, Nat.le_of_ble_eq_true rfl⟩) hK hPF rfl hl rfl (Nat.le_of_ble_eq_true rfl) dL_follows_148 ⟨Nat.le_of_ble_eq_true rfl, Nat.le_of_ble_eq_true rfl⟩ ?_
                refine j_i (y := jC an iv ((z.1 - 1 - an 0) / 12)) (q_C1 (by omega)) ?_
                refine lv_istore (lv' := [(16, .int (jC an iv ((z.1 - 1 - an 0) / 12))), (15, .int (nI (jM an iv (z.1 - 1)))), (13, .long (lN (qD an iv z.1))), (12, .int (if z.1 < an 0 then 0 else jC an iv ((z.1 - an 0) / 12))), (11, .int (nI (if z.1 < an 0 then 0 else jM an iv z.1))), (0, .ref (ax 0)), (1, .int (nI k)), (2, .int (nI (an 0))), (3, .int (nI (an 5))), (4, .int (nI (an 3))), (5, .ref ia), (6, .long (lN (jU an iv z.1))), (8, .int (nI 1)), (9, .int (nI z.2)), (10, .int (nI z.1))]) hx hb dL_follows_151 hl (by decide) rfl (fun ls hl => ?_)
                refine lv_iload hx hb dL_follows_153 (lv_at hl 14 rfl) ?_
                refine lv_iload_n hx hb dL_follows_155 rfl (lv_at hl 7 rfl) ?_
                refine lv_isub hx hb dL_follows_156 ?_
                refine j_i (y := nI (z.1 - (an 0))) (pk_sub (by omega)) ?_
                refine lv_bipush (v := nI 12) hx hb dL_follows_157 (by decide) ?_
                refine lv_irem hx hb dL_follows_159 (by decide) ?_
                refine j_i (y := nI ((z.1 - (an 0)) % 12)) (pk_rem (by omega) (by omega) (by omega)) ?_
                refine j_join (fun g9 : Nat => g9 = if (z.1 - an 0) % 12 = 0 then 1 else 0) (fun g9 => F0 m 168 ls [.int (nI g9)]) (fun g9 hg9 => ?_) (fun J168 => ?_)
                · have hg91 : g9 ≤ 1 := by rw [hg9]; split <;> omega
                  refine lv_istore (lv' := [(17, .int (nI g9)), (16, .int (jC an iv ((z.1 - 1 - an 0) / 12))), (15, .int (nI (jM an iv (z.1 - 1)))), (13, .long (lN (qD an iv z.1))), (12, .int (if z.1 < an 0 then 0 else jC an iv ((z.1 - an 0) / 12))), (11, .int (nI (if z.1 < an 0 then 0 else jM an iv z.1))), (0, .ref (ax 0)), (1, .int (nI k)), (2, .int (nI (an 0))), (3, .int (nI (an 5))), (4, .int (nI (an 3))), (5, .ref ia), (6, .long (lN (jU an iv z.1))), (8, .int (nI 1)), (9, .int (nI z.2)), (10, .int (nI z.1))]) hx hb dL_follows_168 hl (by decide) rfl (fun ls hl => ?_)
                  refine lv_iload hx hb dL_follows_170 (lv_at hl 1 rfl) ?_
                  refine lv_aload hx hb dL_follows_172 (lv_at hl 11 rfl) ?_
                  refine lv_iload hx hb dL_follows_174 (lv_at hl 15 rfl) ?_
                  refine lv_bipush (v := nI 12) hx hb dL_follows_176 (by decide) ?_
                  refine lv_idiv hx hb dL_follows_178 (by decide) ?_
                  refine j_i (y := nI (z.1 / 12)) (pk_div (by omega) (by omega) (by omega)) ?_
                  refine lv_iload hx hb dL_follows_179 (lv_at hl 15 rfl) ?_
                  refine lv_bipush (v := nI 12) hx hb dL_follows_181 (by decide) ?_
                  refine lv_idiv hx hb dL_follows_183 (by decide) ?_
                  refine j_i (y := nI (z.1 / 12)) (pk_div (by omega) (by omega) (by omega)) ?_
                  refine j_join (fun h9 : Nat => h9 = if 0 < z.1 / 12 then 1 else 0) (fun h9 => F0 m 192 ls [.int (nI h9), .int (nI (z.1 / 12)), .ref ia, .int (jC an iv ((z.1 - 1 - an 0) / 12))]) (fun h9 hh9 => ?_) (fun J192 => ?_)
                  · refine lv_isub hx hb dL_follows_192 ?_
                    refine j_i (y := nI (z.1 / 12 - 1)) (q_idx hh9) ?_
                    refine va_iald hx hb hK hP 0 0 (f := iv) rfl rfl (vp_in_nI (n := z.1 / 12 - 1) (N := 20) (by omega) (by omega)) dL_follows_193 ?_
                    refine j_i (y := iv (z.1 / 12 - 1)) (by rw [nI_clamp (by omega)]) ?_
                    refine lv_iadd hx hb dL_follows_194 ?_
                    refine j_i (y := iv (z.1 / 12 - 1) + jC an iv ((z.1 - 1 - an 0) / 12)) (Int32.add_comm _ _) ?_
                    refine lv_istore (lv' := [(18, .int (iv (z.1 / 12 - 1) + jC an iv ((z.1 - 1 - an 0) / 12))), (17, .int (nI g9)), (16, .int (jC an iv ((z.1 - 1 - an 0) / 12))), (15, .int (nI (jM an iv (z.1 - 1)))), (13, .long (lN (qD an iv z.1))), (12, .int (if z.1 < an 0 then 0 else jC an iv ((z.1 - an 0) / 12))), (11, .int (nI (if z.1 < an 0 then 0 else jM an iv z.1))), (0, .ref (ax 0)), (1, .int (nI k)), (2, .int (nI (an 0))), (3, .int (nI (an 5))), (4, .int (nI (an 3))), (5, .ref ia), (6, .long (lN (jU an iv z.1))), (8, .int (nI 1)), (9, .int (nI z.2)), (10, .int (nI z.1))]) hx hb dL_follows_195 hl (by decide) rfl (fun ls hl => ?_)
                    refine lv_iload hx hb dL_follows_197 (lv_at hl 0 rfl) ?_
                    refine lv_iload_n hx hb dL_follows_199 rfl (lv_at hl 10 rfl) ?_
                    refine j_join (fun u9 : Unit => True) (fun u9 => F0 m 218 ls [.int (nI (jcl (iv (z.1 / 12 - 1) + jC an iv ((z.1 - 1 - an 0) / 12)) (an 5)))]) (fun u9 hu9 => ?_) (fun J218 => ?_)
                    · refine lv_istore (lv' := [(18, .int (nI (jcl (iv (z.1 / 12 - 1) + jC an iv ((z.1 - 1 - an 0) / 12)) (an 5)))), (17, .int (nI g9)), (16, .int (jC an iv ((z.1 - 1 - an 0) / 12))), (15, .int (nI (jM an iv (z.1 - 1)))), (13, .long (lN (qD an iv z.1))), (12, .int (if z.1 < an 0 then 0 else jC an iv ((z.1 - an 0) / 12))), (11, .int (nI (if z.1 < an 0 then 0 else jM an iv z.1))), (0, .ref (ax 0)), (1, .int (nI k)), (2, .int (nI (an 0))), (3, .int (nI (an 5))), (4, .int (nI (an 3))), (5, .ref ia), (6, .long (lN (jU an iv z.1))), (8, .int (nI 1)), (9, .int (nI z.2)), (10, .int (nI z.1))]) hx hb dL_follows_218 hl (by decide) rfl (fun ls hl => ?_)
                      refine lv_iload hx hb dL_follows_220 (lv_at hl 1 rfl) ?_
                      refine lv_if_eq (tgt := 271) hx hb dL_follows_222 (by decide) (fun c_222 => ?_) (fun c_222 => ?_)
                      · have c_222 : g9 = 0 := (nI_eq (a := g9) (b := 0) (by omega) (by omega)).mp c_222
                        have hgr : ¬ (z.1 - an 0) % 12 = 0 := fun h => by rw [if_pos h] at hg9; omega
                        refine lv_iload hx hb dL_follows_271 (lv_at hl 6 rfl) ?_
                        refine lv_iload hx hb dL_follows_273 (lv_at hl 3 rfl) ?_
                        refine lv_icmp_ne (tgt := 289) hx hb dL_follows_275 (by decide) (fun c_275 => ?_) (fun c_275 => ?_)
                        · exact (c_275 ((q_F1 (by omega)).trans (congrArg nI (q_keepM (by omega) hgr)))).elim
                        · refine lv_iload hx hb dL_follows_278 (lv_at hl 5 rfl) ?_
                          refine lv_iload hx hb dL_follows_280 (lv_at hl 2 rfl) ?_
                          refine lv_icmp_ne (tgt := 289) hx hb dL_follows_282 (by decide) (fun c_282 => ?_) (fun c_282 => ?_)
                          · exact (c_282 ((q_C1 (by omega)).trans (congrArg (jC an iv) (q_same (by omega) hgr)))).elim
                          · refine lv_iconst (v := nI 1) hx hb dL_follows_285 (by decide) ?_
                            refine lv_goto (tgt := 290) hx hb dL_follows_286 (by decide) ?_
                            refine lv_istore (lv' := [(8, .int (nI 1)), (18, .int (nI (jcl (iv (z.1 / 12 - 1) + jC an iv ((z.1 - 1 - an 0) / 12)) (an 5)))), (17, .int (nI g9)), (16, .int (jC an iv ((z.1 - 1 - an 0) / 12))), (15, .int (nI (jM an iv (z.1 - 1)))), (13, .long (lN (qD an iv z.1))), (12, .int (if z.1 < an 0 then 0 else jC an iv ((z.1 - an 0) / 12))), (11, .int (nI (if z.1 < an 0 then 0 else jM an iv z.1))), (0, .ref (ax 0)), (1, .int (nI k)), (2, .int (nI (an 0))), (3, .int (nI (an 5))), (4, .int (nI (an 3))), (5, .ref ia), (6, .long (lN (jU an iv z.1))), (9, .int (nI z.2)), (10, .int (nI z.1))]) hx hb dL_follows_290 hl (by decide) rfl (fun ls hl => ?_)
                            exact J292 _ (lv_sub hl [8, 9, 10, 11, 12, 13, 14, 0, 15, 16, 7, 6, 5] rfl)
                      · have c_222 : ¬ (g9 = 0) := fun h => c_222 ((nI_eq (a := g9) (b := 0) (by omega) (by omega)).mpr h)
                        have hgr : (z.1 - an 0) % 12 = 0 := Classical.byContradiction fun h => by rw [if_neg h] at hg9; omega
                        have hq12 : 12 ≤ z.1 := by omega
                        refine lv_iload hx hb dL_follows_225 (lv_at hl 6 rfl) ?_
                        refine lv_iload hx hb dL_follows_227 (lv_at hl 3 rfl) ?_
                        refine lv_iload hx hb dL_follows_229 (lv_at hl 3 rfl) ?_
                        refine lv_iload hx hb dL_follows_231 (lv_at hl 0 rfl) ?_
                        refine lv_imul hx hb dL_follows_233 ?_
                        refine j_i (y := nI ((jM an iv (z.1 - 1)) * (jcl (iv (z.1 / 12 - 1) + jC an iv ((z.1 - 1 - an 0) / 12)) (an 5)))) (pk_mul _ _) ?_
                        refine lv_sipush (v := nI 1000) hx hb dL_follows_234 (by decide) ?_
                        refine lv_idiv hx hb dL_follows_237 (by decide) ?_
                        refine j_i (y := nI (((jM an iv (z.1 - 1)) * (jcl (iv (z.1 / 12 - 1) + jC an iv ((z.1 - 1 - an 0) / 12)) (an 5))) / 1000)) (pk_div (by omega) (by omega) (by omega)) ?_
                        refine lv_iadd hx hb dL_follows_238 ?_
                        refine j_i (y := nI (jM an iv (z.1 - 1) + ((jM an iv (z.1 - 1)) * (jcl (iv (z.1 / 12 - 1) + jC an iv ((z.1 - 1 - an 0) / 12)) (an 5))) / 1000)) (nI_add _ _) ?_
                        refine lv_icmp_ne (tgt := 267) hx hb dL_follows_239 (by decide) (fun c_239 => ?_) (fun c_239 => ?_)
                        · exact (c_239 ((q_F1 (by omega)).trans (congrArg nI (q_growM (by omega) (by omega) hgr)))).elim
                        · refine lv_iload hx hb dL_follows_242 (lv_at hl 5 rfl) ?_
                          refine lv_iload hx hb dL_follows_244 (lv_at hl 2 rfl) ?_
                          refine lv_aload hx hb dL_follows_246 (lv_at hl 12 rfl) ?_
                          refine lv_iload hx hb dL_follows_248 (lv_at hl 16 rfl) ?_
                          refine lv_bipush (v := nI 12) hx hb dL_follows_250 (by decide) ?_
                          refine lv_idiv hx hb dL_follows_252 (by decide) ?_
                          refine j_i (y := nI (z.1 / 12)) (pk_div (by omega) (by omega) (by omega)) ?_
                          refine lv_iconst (v := nI 1) hx hb dL_follows_253 (by decide) ?_
                          refine lv_isub hx hb dL_follows_254 ?_
                          refine j_i (y := nI ((z.1 / 12) - 1)) (pk_sub (by omega)) ?_
                          refine va_iald hx hb hK hP 0 0 (f := iv) rfl rfl (vp_in_nI (n := (z.1 / 12) - 1) (N := 20) (by omega) (by omega)) dL_follows_255 ?_
                          refine j_i (y := iv ((z.1 / 12) - 1)) (by rw [nI_clamp (by omega)]) ?_
                          refine lv_iadd hx hb dL_follows_256 ?_
                          refine lv_iload hx hb dL_follows_257 (lv_at hl 0 rfl) ?_
                          refine lv_isub hx hb dL_follows_259 ?_
                          refine lv_icmp_ne (tgt := 267) hx hb dL_follows_260 (by decide) (fun c_260 => ?_) (fun c_260 => ?_)
                          · exact (c_260 ((q_C1 (by omega)).trans (q_growC (by omega) (by omega) hgr))).elim
                          · refine lv_iconst (v := nI 1) hx hb dL_follows_263 (by decide) ?_
                            refine lv_goto (tgt := 290) hx hb dL_follows_264 (by decide) ?_
                            refine lv_istore (lv' := [(8, .int (nI 1)), (18, .int (nI (jcl (iv (z.1 / 12 - 1) + jC an iv ((z.1 - 1 - an 0) / 12)) (an 5)))), (17, .int (nI g9)), (16, .int (jC an iv ((z.1 - 1 - an 0) / 12))), (15, .int (nI (jM an iv (z.1 - 1)))), (13, .long (lN (qD an iv z.1))), (12, .int (if z.1 < an 0 then 0 else jC an iv ((z.1 - an 0) / 12))), (11, .int (nI (if z.1 < an 0 then 0 else jM an iv z.1))), (0, .ref (ax 0)), (1, .int (nI k)), (2, .int (nI (an 0))), (3, .int (nI (an 5))), (4, .int (nI (an 3))), (5, .ref ia), (6, .long (lN (jU an iv z.1))), (9, .int (nI z.2)), (10, .int (nI z.1))]) hx hb dL_follows_290 hl (by decide) rfl (fun ls hl => ?_)
                            exact J292 _ (lv_sub hl [8, 9, 10, 11, 12, 13, 14, 0, 15, 16, 7, 6, 5] rfl)
                    refine lv_icmp_le (tgt := 207) hx hb dL_follows_200 (by decide) (fun c_200 => ?_) (fun c_200 => ?_)
                    · refine lv_iload hx hb dL_follows_207 (lv_at hl 0 rfl) ?_
                      refine lv_if_ge (tgt := 216) hx hb dL_follows_209 (by decide) (fun c_209 => ?_) (fun c_209 => ?_)
                      · refine lv_iload hx hb dL_follows_216 (lv_at hl 0 rfl) ?_
                        refine j_i (y := nI (jcl (iv (z.1 / 12 - 1) + jC an iv ((z.1 - 1 - an 0) / 12)) (an 5))) (q_mid c_200 c_209) ?_
                        exact J218 () trivial
                      · refine lv_iconst (v := nI 0) hx hb dL_follows_212 (by decide) ?_
                        refine lv_goto (tgt := 218) hx hb dL_follows_213 (by decide) ?_
                        refine j_i (y := nI (jcl (iv (z.1 / 12 - 1) + jC an iv ((z.1 - 1 - an 0) / 12)) (an 5))) (q_lo c_209) ?_
                        exact J218 () trivial
                    · refine lv_iload_n hx hb dL_follows_203 rfl (lv_at hl 10 rfl) ?_
                      refine lv_goto (tgt := 218) hx hb dL_follows_204 (by decide) ?_
                      refine j_i (y := nI (jcl (iv (z.1 / 12 - 1) + jC an iv ((z.1 - 1 - an 0) / 12)) (an 5))) (q_hi (by omega) c_200) ?_
                      exact J218 () trivial
                  refine lv_if_le (tgt := 191) hx hb dL_follows_184 (by decide) (fun c_184 => ?_) (fun c_184 => ?_)
                  · have c_184 : z.1 / 12 ≤ 0 := (nI_leI (a := z.1 / 12) (b := 0) (by omega) (by omega)).mp c_184
                    refine lv_iconst (v := nI 0) hx hb dL_follows_191 (by decide) ?_
                    exact J192 0 (if_neg (by omega)).symm
                  · have c_184 : ¬ (z.1 / 12 ≤ 0) := fun h => c_184 ((nI_leI (a := z.1 / 12) (b := 0) (by omega) (by omega)).mpr h)
                    refine lv_iconst (v := nI 1) hx hb dL_follows_187 (by decide) ?_
                    refine lv_goto (tgt := 192) hx hb dL_follows_188 (by decide) ?_
                    exact J192 1 (if_pos (by omega)).symm
                refine lv_if_ne (tgt := 167) hx hb dL_follows_160 (by decide) (fun c_160 => ?_) (fun c_160 => ?_)
                · have c_160 : ¬ ((z.1 - (an 0)) % 12 = 0) := fun h => c_160 ((nI_eq (a := (z.1 - (an 0)) % 12) (b := 0) (by omega) (by omega)).mpr h)
                  refine lv_iconst (v := nI 0) hx hb dL_follows_167 (by decide) ?_
                  exact J168 0 (if_neg c_160).symm
                · have c_160 : (z.1 - (an 0)) % 12 = 0 := (nI_eq (a := (z.1 - (an 0)) % 12) (b := 0) (by omega) (by omega)).mp c_160
                  refine lv_iconst (v := nI 1) hx hb dL_follows_163 (by decide) ?_
                  refine lv_goto (tgt := 168) hx hb dL_follows_164 (by decide) ?_
                  exact J168 1 (if_pos c_160).symm
  refine lv_if_eq (tgt := 42) hx hb dL_follows_4 (by decide) (fun c_4 => ?_) (fun c_4 => ?_)
  · have c_4 : an 0 = 0 := (nI_eq (a := an 0) (b := 0) (by omega) (by omega)).mp c_4
    exact J42 () trivial
  · have c_4 : ¬ (an 0 = 0) := fun h => c_4 ((nI_eq (a := an 0) (b := 0) (by omega) (by omega)).mpr h)
    refine lv_aload_n hx hb dL_follows_7 rfl (lv_at hl 1 rfl) ?_
    refine lv_iload_n hx hb dL_follows_8 rfl (lv_at hl 2 rfl) ?_
    refine lv_iload_n hx hb dL_follows_9 rfl (lv_at hl 3 rfl) ?_
    refine lv_iconst (v := nI 1) hx hb dL_follows_10 (by decide) ?_
    refine lv_isub hx hb dL_follows_11 ?_
    refine j_i (y := nI ((an 0) - 1)) (pk_sub (by omega)) ?_
    refine q_rI (As := [.ref (ax 0), .int (nI k), .int (nI ((an 0) - 1))]) (rest := []) ⟨hx, hb, hml, hown, hts⟩ (c_L_full l dC dI cI cJ cZ cO ax ao n mo iv aa an kp py k (an 0 - 1) hv hm hk hao (by omega)) (vx_cwSW 3 hts gL_follows_L_full rfl rfl rfl (by decide +kernel) ⟨Nat.le_of_ble_eq_true rfl, Nat.le_of_ble_eq_true rfl⟩) hK hPF rfl hl rfl (Nat.le_of_ble_eq_true rfl) dL_follows_12 ⟨Nat.le_of_ble_eq_true rfl, Nat.le_of_ble_eq_true rfl⟩ ?_
    refine j_i (y := nI 0) (q_F0 (by omega)) ?_
    refine lv_if_ne (tgt := 46) hx hb dL_follows_15 (by decide) (fun c_15 => ?_) (fun c_15 => ?_)
    · have c_15 : ¬ (0 = 0) := fun h => c_15 ((nI_eq (a := 0) (b := 0) (by omega) (by omega)).mpr h)
      omega
    · have c_15 : 0 = 0 := (nI_eq (a := 0) (b := 0) (by omega) (by omega)).mp c_15
      refine lv_aload_n hx hb dL_follows_18 rfl (lv_at hl 1 rfl) ?_
      refine lv_iload_n hx hb dL_follows_19 rfl (lv_at hl 2 rfl) ?_
      refine lv_iload_n hx hb dL_follows_20 rfl (lv_at hl 3 rfl) ?_
      refine lv_iconst (v := nI 1) hx hb dL_follows_21 (by decide) ?_
      refine lv_isub hx hb dL_follows_22 ?_
      refine j_i (y := nI ((an 0) - 1)) (pk_sub (by omega)) ?_
      refine q_rI (As := [.ref (ax 0), .int (nI k), .int (nI ((an 0) - 1))]) (rest := []) ⟨hx, hb, hml, hown, hts⟩ (c_L_carry l dC dI cI cJ cZ cO ax ao n mo iv aa an kp py k (an 0 - 1) hv hm hk hao (by omega)) (vx_cwSW 3 hts gL_follows_L_carry rfl rfl rfl (by decide +kernel) ⟨Nat.le_of_ble_eq_true rfl, Nat.le_of_ble_eq_true rfl⟩) hK hPF rfl hl rfl (Nat.le_of_ble_eq_true rfl) dL_follows_23 ⟨Nat.le_of_ble_eq_true rfl, Nat.le_of_ble_eq_true rfl⟩ ?_
      refine j_i (y := nI 0) (q_C0 (by omega)) ?_
      refine lv_if_ne (tgt := 46) hx hb dL_follows_26 (by decide) (fun c_26 => ?_) (fun c_26 => ?_)
      · have c_26 : ¬ (0 = 0) := fun h => c_26 ((nI_eq (a := 0) (b := 0) (by omega) (by omega)).mpr h)
        omega
      · have c_26 : 0 = 0 := (nI_eq (a := 0) (b := 0) (by omega) (by omega)).mp c_26
        refine lv_aload_n hx hb dL_follows_29 rfl (lv_at hl 1 rfl) ?_
        refine lv_iload_n hx hb dL_follows_30 rfl (lv_at hl 2 rfl) ?_
        refine lv_iload_n hx hb dL_follows_31 rfl (lv_at hl 3 rfl) ?_
        refine lv_iconst (v := nI 1) hx hb dL_follows_32 (by decide) ?_
        refine lv_isub hx hb dL_follows_33 ?_
        refine j_i (y := nI ((an 0) - 1)) (pk_sub (by omega)) ?_
        refine q_rL (As := [.ref (ax 0), .int (nI k), .int (nI ((an 0) - 1))]) (rest := []) ⟨hx, hb, hml, hown, hts⟩ (c_L_entitled l dC dI cI cJ cZ cO ax ao n mo iv aa an kp py k (an 0 - 1) hv hm hk hao (by omega)) (vx_cwSW 3 hts gL_follows_L_entitled rfl rfl rfl (by decide +kernel) ⟨Nat.le_of_ble_eq_true rfl, Nat.le_of_ble_eq_true rfl⟩) hK hPF rfl hl rfl (Nat.le_of_ble_eq_true rfl) dL_follows_34 ⟨Nat.le_of_ble_eq_true rfl, Nat.le_of_ble_eq_true rfl⟩ ?_
        refine j_l (y := lN 0) (congrArg lN (qD_0 hv iv (by omega))) ?_
        refine lv_lconst (v := lN 0) hx hb dL_follows_37 (by decide) ?_
        refine W.lcmp hx hb dL_follows_38 ?_
        refine lv_if_ne (tgt := 46) hx hb dL_follows_39 (by decide) (fun c_39 => ?_) (fun c_39 => ?_)
        · exact absurd (jcmp0 _) c_39
        · exact J42 () trivial
