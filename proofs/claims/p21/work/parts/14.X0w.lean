/-! the contracts of an annuity: writers -/
set_option maxHeartbeats 4000000 in
set_option maxRecDepth 100000 in
/-- the full amounts and the carries, found anew -/
theorem c_X0_growBy (l : Launch) (dC : Nat → ClassId) (dI : Nat → Nat → Nat) (cI cJ cZ cO : ClassId) (aa an : Nat → Nat) (iv : Nat → Int32) (kp : Int64) (ia : Nat) (f0 c0 : Nat → Int32) (hv : jV an) : Met l yX0_growBy wsX0_growBy ({ frames := 1, cells := 0, slots := 0, locals := 14 }) (va_Pc [.ref (aa 0), .ref ia] (jW (dC, dI) (jTY cI cJ cZ cO) [((aa 0), .inr (0, [.int (nI (an 0)), .int (nI (an 1)), .int (nI (an 0 + an 2)), .int (nI (an 3)), .int (nI (an 4)), .int (nI (an 5)), .int (nI (an 6)), .int (nI (an 7)), .ref (aa 1), .ref (aa 2), .ref (aa 3), .ref (aa 4), .long (kp)])), ((aa 2), .inl (cI, 20, .inl (f0))), ((aa 3), .inl (cI, 20, .inl (c0))), (ia, .inl (cI, 20, .inl (iv)))])) (va_Qv (fun _ : Unit => True) (fun _ t => va_P (dC, dI) vwCl [((aa 0), .inr (0, [.int (nI (an 0)), .int (nI (an 1)), .int (nI (an 0 + an 2)), .int (nI (an 3)), .int (nI (an 4)), .int (nI (an 5)), .int (nI (an 6)), .int (nI (an 7)), .ref (aa 1), .ref (aa 2), .ref (aa 3), .ref (aa 4), .long (kp)])), ((aa 2), .inl (cI, 20, .inl (fun j => nI (jF an iv j)))), ((aa 3), .inl (cI, 20, .inl (fun j => jC an iv j))), (ia, .inl (cI, 20, .inl (iv)))] t.heap) (jA [((aa 0), .inr (0, [.int (nI (an 0)), .int (nI (an 1)), .int (nI (an 0 + an 2)), .int (nI (an 3)), .int (nI (an 4)), .int (nI (an 5)), .int (nI (an 6)), .int (nI (an 7)), .ref (aa 1), .ref (aa 2), .ref (aa 3), .ref (aa 4), .long (kp)])), ((aa 2), .inl (cI, 20, .inl (f0))), ((aa 3), .inl (cI, 20, .inl (c0))), (ia, .inl (cI, 20, .inl (iv)))])) 0 0 (jA [((aa 0), .inr (0, [.int (nI (an 0)), .int (nI (an 1)), .int (nI (an 0 + an 2)), .int (nI (an 3)), .int (nI (an 4)), .int (nI (an 5)), .int (nI (an 6)), .int (nI (an 7)), .ref (aa 1), .ref (aa 2), .ref (aa 3), .ref (aa 4), .long (kp)])), ((aa 2), .inl (cI, 20, .inl (f0))), ((aa 3), .inl (cI, 20, .inl (c0))), (ia, .inl (cI, 20, .inl (iv)))]) := by
  refine j_of (cc := cX0_growBy) (maxL := 8) (ret := none) (by decide) rfl (Nat.le_of_ble_eq_true rfl) ?_
  intro p e s m below meth c ls hx hb hr hml hts hown hlocks hnm hl hpre
  have hown : s.vm.findClass RX0 = some m.cls := hown
  have hl : lv_has ls 8 [(0, .ref (aa 0)), (1, .ref ia)] := hl
  obtain ⟨v0, v1, v2, v3, v4, v5, v6, v7, v8, v9⟩ := id hv
  obtain ⟨hP, hK, hD0⟩ := hpre
  have hD := hD0.jA
  generalize hAe : jA ([((aa 0), .inr (0, [.int (nI (an 0)), .int (nI (an 1)), .int (nI (an 0 + an 2)), .int (nI (an 3)), .int (nI (an 4)), .int (nI (an 5)), .int (nI (an 6)), .int (nI (an 7)), .ref (aa 1), .ref (aa 2), .ref (aa 3), .ref (aa 4), .long (kp)])), ((aa 2), .inl (cI, 20, .inl (f0))), ((aa 3), .inl (cI, 20, .inl (c0))), (ia, .inl (cI, 20, .inl (iv)))]) = A at hD ⊢
  have hS : va_S A s.heap s.heap [] := va_S.rf
  refine lv_aload_n hx hb dX0_growBy_0 rfl (lv_at hl 0 rfl) ?_
  refine va_get (D := (dC, dI)) (ci := 0) (v := .int (nI (an 1))) (C := RX0) (T := TX0) (N := 13) hx hb hts (fun _ h => List.mem_cons_of_mem _ (List.mem_append_right _ h)) hown hK hP 0 rfl rfl 1 (by decide) (hts (.fieldLink RX0 15 "JointAnnuity$Annuity" "amount" "I") (List.mem_of_getElem? (i := 1) rfl)) (fun _ h9 => h9) rfl dX0_growBy_1 ?_
  refine j_i (y := nI (jF an iv 0)) (rfl) ?_
  refine lv_istore_n (lv' := [(2, .int (nI (jF an iv 0))), (0, .ref (aa 0)), (1, .ref ia)]) hx hb dX0_growBy_4 rfl hl (by decide) rfl (fun ls hl => ?_)
  refine lv_iconst (v := nI 0) hx hb dX0_growBy_5 (by decide) ?_
  refine j_i (y := jC an iv 0) (rfl) ?_
  refine lv_istore_n (lv' := [(3, .int (jC an iv 0)), (2, .int (nI (jF an iv 0))), (0, .ref (aa 0)), (1, .ref ia)]) hx hb dX0_growBy_6 rfl hl (by decide) rfl (fun ls hl => ?_)
  refine lv_aload_n hx hb dX0_growBy_7 rfl (lv_at hl 2 rfl) ?_
  refine va_get (D := (dC, dI)) (ci := 0) (v := .ref (aa 2)) (C := RX0) (T := TX0) (N := 13) hx hb hts (fun _ h => List.mem_cons_of_mem _ (List.mem_append_right _ h)) hown hK hP 0 rfl rfl 9 (by decide) (hts (.fieldLink RX0 41 "JointAnnuity$Annuity" "fullAmounts" "[I") (List.mem_of_getElem? (i := 2) rfl)) (fun _ h9 => h9) rfl dX0_growBy_8 ?_
  refine lv_iconst (v := nI 0) hx hb dX0_growBy_11 (by decide) ?_
  refine lv_iload_n hx hb dX0_growBy_12 rfl (lv_at hl 1 rfl) ?_
  refine va_iast hx hb hK hP hD hS 1 0 (f := f0) (x := nI (jF an iv 0)) rfl rfl (vp_in_nI (n := 0) (N := 20) (by omega) (by omega)) dX0_growBy_13 (fun H locs hP hD hS => ?_)
  rw [nI_clamp (show 0 < 2 ^ 31 by omega)] at hP hD
  have hP : va_P (dC, dI) vwCl [((aa 0), .inr (0, [.int (nI (an 0)), .int (nI (an 1)), .int (nI (an 0 + an 2)), .int (nI (an 3)), .int (nI (an 4)), .int (nI (an 5)), .int (nI (an 6)), .int (nI (an 7)), .ref (aa 1), .ref (aa 2), .ref (aa 3), .ref (aa 4), .long (kp)])), ((aa 2), .inl (cI, 20, .inl (upd (f0) 0 (nI (jF an iv 0))))), ((aa 3), .inl (cI, 20, .inl (c0))), (ia, .inl (cI, 20, .inl (iv)))] H := hP
  have hD : va_D A [((aa 0), .inr (0, [.int (nI (an 0)), .int (nI (an 1)), .int (nI (an 0 + an 2)), .int (nI (an 3)), .int (nI (an 4)), .int (nI (an 5)), .int (nI (an 6)), .int (nI (an 7)), .ref (aa 1), .ref (aa 2), .ref (aa 3), .ref (aa 4), .long (kp)])), ((aa 2), .inl (cI, 20, .inl (upd (f0) 0 (nI (jF an iv 0))))), ((aa 3), .inl (cI, 20, .inl (c0))), (ia, .inl (cI, 20, .inl (iv)))] := hD
  refine lv_aload_n hx hb dX0_growBy_14 rfl (lv_at hl 2 rfl) ?_
  refine va_get (D := (dC, dI)) (ci := 0) (v := .ref (aa 3)) (C := RX0) (T := TX0) (N := 13) hx hb hts (fun _ h => List.mem_cons_of_mem _ (List.mem_append_right _ h)) hown hK hP 0 rfl rfl 10 (by decide) (hts (.fieldLink RX0 44 "JointAnnuity$Annuity" "carries" "[I") (List.mem_of_getElem? (i := 3) rfl)) (fun _ h9 => h9) rfl dX0_growBy_15 ?_
  refine lv_iconst (v := nI 0) hx hb dX0_growBy_18 (by decide) ?_
  refine lv_iload_n hx hb dX0_growBy_19 rfl (lv_at hl 0 rfl) ?_
  refine va_iast hx hb hK hP hD hS 2 0 (f := c0) (x := jC an iv 0) rfl rfl (vp_in_nI (n := 0) (N := 20) (by omega) (by omega)) dX0_growBy_20 (fun H locs hP hD hS => ?_)
  rw [nI_clamp (show 0 < 2 ^ 31 by omega)] at hP hD
  have hP : va_P (dC, dI) vwCl [((aa 0), .inr (0, [.int (nI (an 0)), .int (nI (an 1)), .int (nI (an 0 + an 2)), .int (nI (an 3)), .int (nI (an 4)), .int (nI (an 5)), .int (nI (an 6)), .int (nI (an 7)), .ref (aa 1), .ref (aa 2), .ref (aa 3), .ref (aa 4), .long (kp)])), ((aa 2), .inl (cI, 20, .inl (upd (f0) 0 (nI (jF an iv 0))))), ((aa 3), .inl (cI, 20, .inl (upd (c0) 0 (jC an iv 0)))), (ia, .inl (cI, 20, .inl (iv)))] H := hP
  have hD : va_D A [((aa 0), .inr (0, [.int (nI (an 0)), .int (nI (an 1)), .int (nI (an 0 + an 2)), .int (nI (an 3)), .int (nI (an 4)), .int (nI (an 5)), .int (nI (an 6)), .int (nI (an 7)), .ref (aa 1), .ref (aa 2), .ref (aa 3), .ref (aa 4), .long (kp)])), ((aa 2), .inl (cI, 20, .inl (upd (f0) 0 (nI (jF an iv 0))))), ((aa 3), .inl (cI, 20, .inl (upd (c0) 0 (jC an iv 0)))), (ia, .inl (cI, 20, .inl (iv)))] := hD
  refine lv_iconst (v := nI 1) hx hb dX0_growBy_21 (by decide) ?_
  refine lv_istore (lv' := [(4, .int (nI 1)), (3, .int (jC an iv 0)), (2, .int (nI (jF an iv 0))), (0, .ref (aa 0)), (1, .ref ia)]) hx hb dX0_growBy_22 hl (by decide) rfl (fun ls hl => ?_)
  refine j_loopW (I := fun q : Nat × (Nat → Int32) × (Nat → Int32) => q.1 < 20 ∧ ∀ i, i < q.1 + 1 → q.2.1 i = nI (jF an iv i) ∧ q.2.2 i = jC an iv i) (μ := fun q => 20 - q.1) (lv := fun q => [(0, .ref (aa 0)), (1, .ref ia), (2, .int (nI (jF an iv q.1))), (3, .int (jC an iv q.1)), (4, .int (nI (q.1 + 1)))]) (w := fun q => [((aa 0), .inr (0, [.int (nI (an 0)), .int (nI (an 1)), .int (nI (an 0 + an 2)), .int (nI (an 3)), .int (nI (an 4)), .int (nI (an 5)), .int (nI (an 6)), .int (nI (an 7)), .ref (aa 1), .ref (aa 2), .ref (aa 3), .ref (aa 4), .long (kp)])), ((aa 2), .inl (cI, 20, .inl (q.2.1))), ((aa 3), .inl (cI, 20, .inl (q.2.2))), (ia, .inl (cI, 20, .inl (iv)))]) (0, upd (f0) 0 (nI (jF an iv 0)), upd (c0) 0 (jC an iv 0)) ⟨show (0 : Nat) < 20 by decide, fun i hi => ?_⟩ (lv_sub hl [3, 4, 2, 1, 0] rfl) hP hD hS ?_
  · obtain rfl : i = 0 := by omega
    exact ⟨rfl, rfl⟩
  intro q H locs ls hI hP hD hS hl IH
  obtain ⟨b, f9, c9⟩ := q
  have hl : lv_has ls 8 [(0, .ref (aa 0)), (1, .ref ia), (2, .int (nI (jF an iv b))), (3, .int (jC an iv b)), (4, .int (nI (b + 1)))] := hl
  have hP : va_P (dC, dI) vwCl [((aa 0), .inr (0, [.int (nI (an 0)), .int (nI (an 1)), .int (nI (an 0 + an 2)), .int (nI (an 3)), .int (nI (an 4)), .int (nI (an 5)), .int (nI (an 6)), .int (nI (an 7)), .ref (aa 1), .ref (aa 2), .ref (aa 3), .ref (aa 4), .long (kp)])), ((aa 2), .inl (cI, 20, .inl (f9))), ((aa 3), .inl (cI, 20, .inl (c9))), (ia, .inl (cI, 20, .inl (iv)))] H := hP
  have hD : va_D A [((aa 0), .inr (0, [.int (nI (an 0)), .int (nI (an 1)), .int (nI (an 0 + an 2)), .int (nI (an 3)), .int (nI (an 4)), .int (nI (an 5)), .int (nI (an 6)), .int (nI (an 7)), .ref (aa 1), .ref (aa 2), .ref (aa 3), .ref (aa 4), .long (kp)])), ((aa 2), .inl (cI, 20, .inl (f9))), ((aa 3), .inl (cI, 20, .inl (c9))), (ia, .inl (cI, 20, .inl (iv)))] := hD
  have hI : b < 20 ∧ ∀ i, i < b + 1 → f9 i = nI (jF an iv i) ∧ c9 i = jC an iv i := hI
  obtain ⟨hb0, hI2⟩ := hI
  have hIH := fun (a9 : Nat × (Nat → Int32) × (Nat → Int32)) (H9 : Heap) => IH a9 H9
  refine lv_iload hx hb dX0_growBy_24 (lv_at hl 4 rfl) ?_
  refine lv_bipush (v := nI 20) hx hb dX0_growBy_26 (by decide) ?_
  refine lv_icmp_ge (tgt := 114) hx hb dX0_growBy_28 (by decide) (fun c_28 => ?_) (fun c_28 => ?_)
  · have c_28 : 20 ≤ b + 1 := (nI_leI (a := 20) (b := b + 1) (by omega) (by omega)).mp c_28
    have hP : va_P (dC, dI) vwCl [((aa 0), .inr (0, [.int (nI (an 0)), .int (nI (an 1)), .int (nI (an 0 + an 2)), .int (nI (an 3)), .int (nI (an 4)), .int (nI (an 5)), .int (nI (an 6)), .int (nI (an 7)), .ref (aa 1), .ref (aa 2), .ref (aa 3), .ref (aa 4), .long (kp)])), ((aa 2), .inl (cI, 20, .inl (fun j => nI (jF an iv j)))), ((aa 3), .inl (cI, 20, .inl (fun j => jC an iv j))), (ia, .inl (cI, 20, .inl (iv)))] H := j_same hP rfl (fun k hk => match k, hk with
      | 0, _ => Or.inl rfl
      | 1, _ => Or.inr ⟨_, _, _, rfl, rfl, j_cI (fun j hj => (hI2 j (by omega)).1)⟩
      | 2, _ => Or.inr ⟨_, _, _, rfl, rfl, j_cI (fun j hj => (hI2 j (by omega)).2)⟩
      | 3, _ => Or.inl rfl
      | _ + 4, h => absurd h (Nat.not_lt.mpr (Nat.le_add_left _ _)))
    exact W.vret hx hb hr (fun t ht hW => ⟨⟨(), rfl, trivial, j_h ht hP⟩, hS.F ht⟩) hS.2.2 dX0_growBy_114
  · have c_28 : ¬ (20 ≤ b + 1) := fun h => c_28 ((nI_leI (a := 20) (b := b + 1) (by omega) (by omega)).mpr h)
    refine lv_aload_n hx hb dX0_growBy_31 rfl (lv_at hl 0 rfl) ?_
    refine va_get (D := (dC, dI)) (ci := 0) (v := .int (nI (an 0))) (C := RX0) (T := TX0) (N := 13) hx hb hts (fun _ h => List.mem_cons_of_mem _ (List.mem_append_right _ h)) hown hK hP 0 rfl rfl 0 (by decide) (hts (.fieldLink RX0 9 "JointAnnuity$Annuity" "start" "I") (List.mem_of_getElem? (i := 4) rfl)) (fun _ h9 => h9) rfl dX0_growBy_32 ?_
    refine lv_bipush (v := nI 12) hx hb dX0_growBy_35 (by decide) ?_
    refine lv_idiv hx hb dX0_growBy_37 (by decide) ?_
    refine j_i (y := nI ((an 0) / 12)) (pk_div (by omega) (by omega) (by omega)) ?_
    refine lv_iload hx hb dX0_growBy_38 (lv_at hl 4 rfl) ?_
    refine lv_iadd hx hb dX0_growBy_40 ?_
    refine j_i (y := nI ((an 0) / 12 + b + 1)) (nI_add _ _) ?_
    refine lv_iconst (v := nI 1) hx hb dX0_growBy_41 (by decide) ?_
    refine lv_isub hx hb dX0_growBy_42 ?_
    refine j_i (y := nI (((an 0) / 12 + b + 1) - 1)) (pk_sub (by omega)) ?_
    refine j_i (y := nI (an 0 / 12 + b)) (congrArg nI (by omega)) ?_
    refine lv_istore (lv' := [(5, .int (nI (an 0 / 12 + b))), (0, .ref (aa 0)), (1, .ref ia), (2, .int (nI (jF an iv b))), (3, .int (jC an iv b)), (4, .int (nI (b + 1)))]) hx hb dX0_growBy_43 hl (by decide) rfl (fun ls hl => ?_)
    refine lv_iload hx hb dX0_growBy_45 (lv_at hl 0 rfl) ?_
    refine lv_aload_n hx hb dX0_growBy_47 rfl (lv_at hl 2 rfl) ?_
    refine va_alen hx hb hK hP 3 0 (v := nI 20) rfl rfl rfl dX0_growBy_48 ?_
    refine lv_icmp_ge (tgt := 92) hx hb dX0_growBy_49 (by decide) (fun c_49 => ?_) (fun c_49 => ?_)
    · have c_49 : 20 ≤ an 0 / 12 + b := (nI_leI (a := 20) (b := an 0 / 12 + b) (by omega) (by omega)).mp c_49
      have hn : ¬ an 0 / 12 + b < 20 := by omega
      have hl : lv_has ls 8 [(5, .int (nI (an 0 / 12 + b))), (0, .ref (aa 0)), (1, .ref ia), (2, .int (nI (jF an iv (b + 1)))), (3, .int (jC an iv (b + 1))), (4, .int (nI (b + 1)))] := by rw [jF_n an iv hn, jC_n an iv hn]; exact hl
      refine lv_aload_n hx hb dX0_growBy_92 rfl (lv_at hl 1 rfl) ?_
      refine va_get (D := (dC, dI)) (ci := 0) (v := .ref (aa 2)) (C := RX0) (T := TX0) (N := 13) hx hb hts (fun _ h => List.mem_cons_of_mem _ (List.mem_append_right _ h)) hown hK hP 0 rfl rfl 9 (by decide) (hts (.fieldLink RX0 41 "JointAnnuity$Annuity" "fullAmounts" "[I") (List.mem_of_getElem? (i := 2) rfl)) (fun _ h9 => h9) rfl dX0_growBy_93 ?_
      refine lv_iload hx hb dX0_growBy_96 (lv_at hl 5 rfl) ?_
      refine lv_iload_n hx hb dX0_growBy_98 rfl (lv_at hl 3 rfl) ?_
      refine va_iast hx hb hK hP hD hS 1 0 (f := f9) (x := nI (jF an iv (b + 1))) rfl rfl (vp_in_nI (n := b + 1) (N := 20) (by omega) (by omega)) dX0_growBy_99 (fun H locs hP hD hS => ?_)
      rw [nI_clamp (show b + 1 < 2 ^ 31 by omega)] at hP hD
      have hP : va_P (dC, dI) vwCl [((aa 0), .inr (0, [.int (nI (an 0)), .int (nI (an 1)), .int (nI (an 0 + an 2)), .int (nI (an 3)), .int (nI (an 4)), .int (nI (an 5)), .int (nI (an 6)), .int (nI (an 7)), .ref (aa 1), .ref (aa 2), .ref (aa 3), .ref (aa 4), .long (kp)])), ((aa 2), .inl (cI, 20, .inl (upd (f9) (b + 1) (nI (jF an iv (b + 1)))))), ((aa 3), .inl (cI, 20, .inl (c9))), (ia, .inl (cI, 20, .inl (iv)))] H := hP
      have hD : va_D A [((aa 0), .inr (0, [.int (nI (an 0)), .int (nI (an 1)), .int (nI (an 0 + an 2)), .int (nI (an 3)), .int (nI (an 4)), .int (nI (an 5)), .int (nI (an 6)), .int (nI (an 7)), .ref (aa 1), .ref (aa 2), .ref (aa 3), .ref (aa 4), .long (kp)])), ((aa 2), .inl (cI, 20, .inl (upd (f9) (b + 1) (nI (jF an iv (b + 1)))))), ((aa 3), .inl (cI, 20, .inl (c9))), (ia, .inl (cI, 20, .inl (iv)))] := hD
      refine lv_aload_n hx hb dX0_growBy_100 rfl (lv_at hl 1 rfl) ?_
      refine va_get (D := (dC, dI)) (ci := 0) (v := .ref (aa 3)) (C := RX0) (T := TX0) (N := 13) hx hb hts (fun _ h => List.mem_cons_of_mem _ (List.mem_append_right _ h)) hown hK hP 0 rfl rfl 10 (by decide) (hts (.fieldLink RX0 44 "JointAnnuity$Annuity" "carries" "[I") (List.mem_of_getElem? (i := 3) rfl)) (fun _ h9 => h9) rfl dX0_growBy_101 ?_
      refine lv_iload hx hb dX0_growBy_104 (lv_at hl 5 rfl) ?_
      refine lv_iload_n hx hb dX0_growBy_106 rfl (lv_at hl 4 rfl) ?_
      refine va_iast hx hb hK hP hD hS 2 0 (f := c9) (x := jC an iv (b + 1)) rfl rfl (vp_in_nI (n := b + 1) (N := 20) (by omega) (by omega)) dX0_growBy_107 (fun H locs hP hD hS => ?_)
      rw [nI_clamp (show b + 1 < 2 ^ 31 by omega)] at hP hD
      have hP : va_P (dC, dI) vwCl [((aa 0), .inr (0, [.int (nI (an 0)), .int (nI (an 1)), .int (nI (an 0 + an 2)), .int (nI (an 3)), .int (nI (an 4)), .int (nI (an 5)), .int (nI (an 6)), .int (nI (an 7)), .ref (aa 1), .ref (aa 2), .ref (aa 3), .ref (aa 4), .long (kp)])), ((aa 2), .inl (cI, 20, .inl (upd (f9) (b + 1) (nI (jF an iv (b + 1)))))), ((aa 3), .inl (cI, 20, .inl (upd (c9) (b + 1) (jC an iv (b + 1))))), (ia, .inl (cI, 20, .inl (iv)))] H := hP
      have hD : va_D A [((aa 0), .inr (0, [.int (nI (an 0)), .int (nI (an 1)), .int (nI (an 0 + an 2)), .int (nI (an 3)), .int (nI (an 4)), .int (nI (an 5)), .int (nI (an 6)), .int (nI (an 7)), .ref (aa 1), .ref (aa 2), .ref (aa 3), .ref (aa 4), .long (kp)])), ((aa 2), .inl (cI, 20, .inl (upd (f9) (b + 1) (nI (jF an iv (b + 1)))))), ((aa 3), .inl (cI, 20, .inl (upd (c9) (b + 1) (jC an iv (b + 1))))), (ia, .inl (cI, 20, .inl (iv)))] := hD
      refine lv_iinc (v := nI (b + 1 + 1)) (lv' := [(4, .int (nI (b + 1 + 1))), (5, .int (nI (an 0 / 12 + b))), (0, .ref (aa 0)), (1, .ref ia), (2, .int (nI (jF an iv (b + 1)))), (3, .int (jC an iv (b + 1)))]) hx hb dX0_growBy_108 hl (k := 5) rfl (by exact nI_add _ 1) (by decide) rfl (fun ls hl => ?_)
      refine lv_goto (tgt := 24) hx hb dX0_growBy_111 (by decide) ?_
      refine IH (b + 1, upd (f9) (b + 1) (nI (jF an iv (b + 1))), upd (c9) (b + 1) (jC an iv (b + 1))) H locs ls ⟨by omega, fun i hi => ?_⟩ (show 20 - (b + 1) < 20 - b by omega) hP hD hS (lv_sub hl [2, 3, 4, 5, 0] rfl)
      by_cases h : i = b + 1
      · subst h
        exact ⟨pk_us, pk_us⟩
      · exact ⟨(pk_un h).trans (hI2 i (by omega)).1, (pk_un h).trans (hI2 i (by omega)).2⟩
    · have c_49 : ¬ (20 ≤ an 0 / 12 + b) := fun h => c_49 ((nI_leI (a := 20) (b := an 0 / 12 + b) (by omega) (by omega)).mpr h)
      have hy : an 0 / 12 + b < 20 := by omega
      refine lv_aload_n hx hb dX0_growBy_52 rfl (lv_at hl 2 rfl) ?_
      refine lv_iload hx hb dX0_growBy_53 (lv_at hl 0 rfl) ?_
      refine va_iald hx hb hK hP 3 0 (f := iv) rfl rfl (vp_in_nI (n := an 0 / 12 + b) (N := 20) (by omega) (by omega)) dX0_growBy_55 ?_
      refine j_i (y := iv (an 0 / 12 + b)) (by rw [nI_clamp (by omega)]) ?_
      refine lv_iload_n hx hb dX0_growBy_56 rfl (lv_at hl 4 rfl) ?_
      refine lv_iadd hx hb dX0_growBy_57 ?_
      refine lv_istore (lv' := [(6, .int ((iv (an 0 / 12 + b)) + (jC an iv b))), (5, .int (nI (an 0 / 12 + b))), (0, .ref (aa 0)), (1, .ref ia), (2, .int (nI (jF an iv b))), (3, .int (jC an iv b)), (4, .int (nI (b + 1)))]) hx hb dX0_growBy_58 hl (by decide) rfl (fun ls hl => ?_)
      refine lv_iconst (v := nI 0) hx hb dX0_growBy_60 (by decide) ?_
      refine lv_iload hx hb dX0_growBy_61 (lv_at hl 0 rfl) ?_
      refine lv_aload_n hx hb dX0_growBy_63 rfl (lv_at hl 2 rfl) ?_
      refine va_get (D := (dC, dI)) (ci := 0) (v := .int (nI (an 5))) (C := RX0) (T := TX0) (N := 13) hx hb hts (fun _ h => List.mem_cons_of_mem _ (List.mem_append_right _ h)) hown hK hP 0 rfl rfl 5 (by decide) (hts (.fieldLink RX0 28 "JointAnnuity$Annuity" "cap" "I") (List.mem_of_getElem? (i := 5) rfl)) (fun _ h9 => h9) rfl dX0_growBy_64 ?_
      refine va_mmin hx hb (hml.trans hl.1.symm) hown (hts (.methodLink RX0 55 Lib.Math.min.name) (List.mem_of_getElem? (i := 6) rfl)) (hts (.static Lib.Math.min.name) (List.mem_of_getElem? (i := 7) rfl)) (hts (.initialized "java/lang/Math") (List.mem_of_getElem? (i := 8) rfl)) (hts (.code Lib.Math.min.name Lib.Math.min.code 2 (some .int)) (List.mem_of_getElem? (i := 9) rfl)) (Nat.le_of_ble_eq_true rfl) (Nat.le_of_ble_eq_true rfl) (Nat.le_of_ble_eq_true rfl) (Nat.le_of_ble_eq_true rfl) dX0_growBy_67 ?_
      refine va_mmax hx hb (hml.trans hl.1.symm) hown (hts (.methodLink RX0 61 Lib.Math.max.name) (List.mem_of_getElem? (i := 10) rfl)) (hts (.static Lib.Math.max.name) (List.mem_of_getElem? (i := 11) rfl)) (hts (.initialized "java/lang/Math") (List.mem_of_getElem? (i := 8) rfl)) (hts (.code Lib.Math.max.name Lib.Math.max.code 2 (some .int)) (List.mem_of_getElem? (i := 12) rfl)) (Nat.le_of_ble_eq_true rfl) (Nat.le_of_ble_eq_true rfl) (Nat.le_of_ble_eq_true rfl) (Nat.le_of_ble_eq_true rfl) dX0_growBy_70 ?_
      refine j_i (y := nI (jcl (iv (an 0 / 12 + b) + jC an iv b) (an 5))) (jcl_A _ (by omega)) ?_
      refine lv_istore (lv' := [(7, .int (nI (jcl (iv (an 0 / 12 + b) + jC an iv b) (an 5)))), (6, .int ((iv (an 0 / 12 + b)) + (jC an iv b))), (5, .int (nI (an 0 / 12 + b))), (0, .ref (aa 0)), (1, .ref ia), (2, .int (nI (jF an iv b))), (3, .int (jC an iv b)), (4, .int (nI (b + 1)))]) hx hb dX0_growBy_73 hl (by decide) rfl (fun ls hl => ?_)
      refine lv_iload hx hb dX0_growBy_75 (lv_at hl 1 rfl) ?_
      refine lv_iload hx hb dX0_growBy_77 (lv_at hl 0 rfl) ?_
      refine lv_isub hx hb dX0_growBy_79 ?_
      refine j_i (y := jC an iv (b + 1)) ((jC_s an iv hy).symm) ?_
      refine lv_istore_n (lv' := [(3, .int (jC an iv (b + 1))), (7, .int (nI (jcl (iv (an 0 / 12 + b) + jC an iv b) (an 5)))), (6, .int ((iv (an 0 / 12 + b)) + (jC an iv b))), (5, .int (nI (an 0 / 12 + b))), (0, .ref (aa 0)), (1, .ref ia), (2, .int (nI (jF an iv b))), (4, .int (nI (b + 1)))]) hx hb dX0_growBy_80 rfl hl (by decide) rfl (fun ls hl => ?_)
      refine lv_iload_n hx hb dX0_growBy_81 rfl (lv_at hl 6 rfl) ?_
      refine lv_iload_n hx hb dX0_growBy_82 rfl (lv_at hl 6 rfl) ?_
      refine lv_iload hx hb dX0_growBy_83 (lv_at hl 1 rfl) ?_
      refine lv_imul hx hb dX0_growBy_85 ?_
      refine lv_sipush (v := nI 1000) hx hb dX0_growBy_86 (by decide) ?_
      refine lv_idiv hx hb dX0_growBy_89 (by decide) ?_
      refine lv_iadd hx hb dX0_growBy_90 ?_
      refine j_i (y := nI (jF an iv (b + 1))) (by rw [jF_s an iv hy]; exact jgrow (jF_bd hv iv (by omega)) (Nat.le_trans (jcl_le _ (by omega)) v5)) ?_
      refine lv_istore_n (lv' := [(2, .int (nI (jF an iv (b + 1)))), (3, .int (jC an iv (b + 1))), (7, .int (nI (jcl (iv (an 0 / 12 + b) + jC an iv b) (an 5)))), (6, .int ((iv (an 0 / 12 + b)) + (jC an iv b))), (5, .int (nI (an 0 / 12 + b))), (0, .ref (aa 0)), (1, .ref ia), (4, .int (nI (b + 1)))]) hx hb dX0_growBy_91 rfl hl (by decide) rfl (fun ls hl => ?_)
      refine lv_aload_n hx hb dX0_growBy_92 rfl (lv_at hl 5 rfl) ?_
      refine va_get (D := (dC, dI)) (ci := 0) (v := .ref (aa 2)) (C := RX0) (T := TX0) (N := 13) hx hb hts (fun _ h => List.mem_cons_of_mem _ (List.mem_append_right _ h)) hown hK hP 0 rfl rfl 9 (by decide) (hts (.fieldLink RX0 41 "JointAnnuity$Annuity" "fullAmounts" "[I") (List.mem_of_getElem? (i := 2) rfl)) (fun _ h9 => h9) rfl dX0_growBy_93 ?_
      refine lv_iload hx hb dX0_growBy_96 (lv_at hl 7 rfl) ?_
      refine lv_iload_n hx hb dX0_growBy_98 rfl (lv_at hl 0 rfl) ?_
      refine va_iast hx hb hK hP hD hS 1 0 (f := f9) (x := nI (jF an iv (b + 1))) rfl rfl (vp_in_nI (n := b + 1) (N := 20) (by omega) (by omega)) dX0_growBy_99 (fun H locs hP hD hS => ?_)
      rw [nI_clamp (show b + 1 < 2 ^ 31 by omega)] at hP hD
      have hP : va_P (dC, dI) vwCl [((aa 0), .inr (0, [.int (nI (an 0)), .int (nI (an 1)), .int (nI (an 0 + an 2)), .int (nI (an 3)), .int (nI (an 4)), .int (nI (an 5)), .int (nI (an 6)), .int (nI (an 7)), .ref (aa 1), .ref (aa 2), .ref (aa 3), .ref (aa 4), .long (kp)])), ((aa 2), .inl (cI, 20, .inl (upd (f9) (b + 1) (nI (jF an iv (b + 1)))))), ((aa 3), .inl (cI, 20, .inl (c9))), (ia, .inl (cI, 20, .inl (iv)))] H := hP
      have hD : va_D A [((aa 0), .inr (0, [.int (nI (an 0)), .int (nI (an 1)), .int (nI (an 0 + an 2)), .int (nI (an 3)), .int (nI (an 4)), .int (nI (an 5)), .int (nI (an 6)), .int (nI (an 7)), .ref (aa 1), .ref (aa 2), .ref (aa 3), .ref (aa 4), .long (kp)])), ((aa 2), .inl (cI, 20, .inl (upd (f9) (b + 1) (nI (jF an iv (b + 1)))))), ((aa 3), .inl (cI, 20, .inl (c9))), (ia, .inl (cI, 20, .inl (iv)))] := hD
      refine lv_aload_n hx hb dX0_growBy_100 rfl (lv_at hl 5 rfl) ?_
      refine va_get (D := (dC, dI)) (ci := 0) (v := .ref (aa 3)) (C := RX0) (T := TX0) (N := 13) hx hb hts (fun _ h => List.mem_cons_of_mem _ (List.mem_append_right _ h)) hown hK hP 0 rfl rfl 10 (by decide) (hts (.fieldLink RX0 44 "JointAnnuity$Annuity" "carries" "[I") (List.mem_of_getElem? (i := 3) rfl)) (fun _ h9 => h9) rfl dX0_growBy_101 ?_
      refine lv_iload hx hb dX0_growBy_104 (lv_at hl 7 rfl) ?_
      refine lv_iload_n hx hb dX0_growBy_106 rfl (lv_at hl 1 rfl) ?_
      refine va_iast hx hb hK hP hD hS 2 0 (f := c9) (x := jC an iv (b + 1)) rfl rfl (vp_in_nI (n := b + 1) (N := 20) (by omega) (by omega)) dX0_growBy_107 (fun H locs hP hD hS => ?_)
      rw [nI_clamp (show b + 1 < 2 ^ 31 by omega)] at hP hD
      have hP : va_P (dC, dI) vwCl [((aa 0), .inr (0, [.int (nI (an 0)), .int (nI (an 1)), .int (nI (an 0 + an 2)), .int (nI (an 3)), .int (nI (an 4)), .int (nI (an 5)), .int (nI (an 6)), .int (nI (an 7)), .ref (aa 1), .ref (aa 2), .ref (aa 3), .ref (aa 4), .long (kp)])), ((aa 2), .inl (cI, 20, .inl (upd (f9) (b + 1) (nI (jF an iv (b + 1)))))), ((aa 3), .inl (cI, 20, .inl (upd (c9) (b + 1) (jC an iv (b + 1))))), (ia, .inl (cI, 20, .inl (iv)))] H := hP
      have hD : va_D A [((aa 0), .inr (0, [.int (nI (an 0)), .int (nI (an 1)), .int (nI (an 0 + an 2)), .int (nI (an 3)), .int (nI (an 4)), .int (nI (an 5)), .int (nI (an 6)), .int (nI (an 7)), .ref (aa 1), .ref (aa 2), .ref (aa 3), .ref (aa 4), .long (kp)])), ((aa 2), .inl (cI, 20, .inl (upd (f9) (b + 1) (nI (jF an iv (b + 1)))))), ((aa 3), .inl (cI, 20, .inl (upd (c9) (b + 1) (jC an iv (b + 1))))), (ia, .inl (cI, 20, .inl (iv)))] := hD
      refine lv_iinc (v := nI (b + 1 + 1)) (lv' := [(4, .int (nI (b + 1 + 1))), (2, .int (nI (jF an iv (b + 1)))), (3, .int (jC an iv (b + 1))), (7, .int (nI (jcl (iv (an 0 / 12 + b) + jC an iv b) (an 5)))), (6, .int ((iv (an 0 / 12 + b)) + (jC an iv b))), (5, .int (nI (an 0 / 12 + b))), (0, .ref (aa 0)), (1, .ref ia)]) hx hb dX0_growBy_108 hl (k := 7) rfl (by exact nI_add _ 1) (by decide) rfl (fun ls hl => ?_)
      refine lv_goto (tgt := 24) hx hb dX0_growBy_111 (by decide) ?_
      refine IH (b + 1, upd (f9) (b + 1) (nI (jF an iv (b + 1))), upd (c9) (b + 1) (jC an iv (b + 1))) H locs ls ⟨by omega, fun i hi => ?_⟩ (show 20 - (b + 1) < 20 - b by omega) hP hD hS (lv_sub hl [6, 7, 1, 2, 0] rfl)
      by_cases h : i = b + 1
      · subst h
        exact ⟨pk_us, pk_us⟩
      · exact ⟨(pk_un h).trans (hI2 i (by omega)).1, (pk_un h).trans (hI2 i (by omega)).2⟩
set_option maxHeartbeats 4000000 in
set_option maxRecDepth 100000 in
/-- a month is paid -/
theorem c_X0_payIn (l : Launch) (dC : Nat → ClassId) (dI : Nat → Nat → Nat) (cI cJ cZ cO : ClassId) (aa an : Nat → Nat) (iv : Nat → Int32) (kp : Int64) (py : Nat → Int64) (k : Nat) (hv : jV an) (hk : k < 240) : Met l yX0_payIn wsX0_payIn ({ frames := 5, cells := 0, slots := 0, locals := 116 }) (va_Pc [.ref (aa 0), .int (nI k)] (jW (dC, dI) (jTY cI cJ cZ cO) (jAW cI cJ aa an iv kp py))) (va_Ql (fun r (_ : Unit) => r = jmx (lN (jU an iv (k + 1)) - kp)) (fun _ t => va_P (dC, dI) vwCl (jAW cI cJ aa an iv (kp + jmx (lN (jU an iv (k + 1)) - kp)) (vp_updL py k (jmx (lN (jU an iv (k + 1)) - kp)))) t.heap) (jA (jAW cI cJ aa an iv kp py))) 0 0 (jA (jAW cI cJ aa an iv kp py)) := by
  refine j_of (cc := cX0_payIn) (maxL := 4) (ret := (some .long)) (by decide) rfl (Nat.le_of_ble_eq_true rfl) ?_
  intro p e s m below meth c ls hx hb hr hml hts hown hlocks hnm hl hpre
  have hown : s.vm.findClass RX0 = some m.cls := hown
  have hl : lv_has ls 4 [(0, .ref (aa 0)), (1, .int (nI k))] := hl
  obtain ⟨v0, v1, v2, v3, v4, v5, v6, v7, v8, v9⟩ := id hv
  obtain ⟨hP, hK, hD0⟩ := hpre
  have hD := hD0.jA
  generalize hAe : jA (jAW cI cJ aa an iv kp py) = A at hD ⊢
  have hS : va_S A s.heap s.heap [] := va_S.rf
  refine lv_lconst (v := lN 0) hx hb dX0_payIn_0 (by decide) ?_
  refine lv_aload_n hx hb dX0_payIn_1 rfl (lv_at hl 0 rfl) ?_
  refine lv_iload_n hx hb dX0_payIn_2 rfl (lv_at hl 1 rfl) ?_
  refine lv_iconst (v := nI 1) hx hb dX0_payIn_3 (by decide) ?_
  refine lv_iadd hx hb dX0_payIn_4 ?_
  refine j_i (y := nI (k + 1)) (nI_add _ _) ?_
  refine j_cL_ (As := [.int (nI (k + 1))]) (rest := [.long (lN 0)]) ⟨hx, hb, hml, hown, hts⟩ (c_X0_dueAhead l dC dI cI cJ cZ cO aa an iv kp py (k + 1) hv (by omega)) (cwV 1 hts gX0_payIn_X0_dueAhead rfl rfl rfl (by decide +kernel) ⟨Nat.le_of_ble_eq_true rfl, Nat.le_of_ble_eq_true rfl⟩) (jR_V hK hP [0, 1, 2, 3, 4] rfl (ci := 0) (q0 := 0) rfl rfl rfl) rfl hl rfl (Nat.le_of_ble_eq_true rfl) dX0_payIn_5 ⟨Nat.le_of_ble_eq_true rfl, Nat.le_of_ble_eq_true rfl⟩ (fun r_5 hr_5 => ?_)
  subst hr_5
  refine lv_aload_n hx hb dX0_payIn_8 rfl (lv_at hl 0 rfl) ?_
  refine va_get (D := (dC, dI)) (ci := 0) (v := .long (kp)) (C := RX0) (T := TX0) (N := 13) hx hb hts (fun _ h => List.mem_cons_of_mem _ (List.mem_append_right _ h)) hown hK hP 0 rfl rfl 12 (by decide) (hts (.fieldLink RX0 51 "JointAnnuity$Annuity" "keptInAll" "J") (List.mem_of_getElem? (i := 1) rfl)) (fun _ h9 => h9) rfl dX0_payIn_9 ?_
  refine lv_lsub hx hb dX0_payIn_12 ?_
  refine va_mmax_long hx hb (hml.trans hl.1.symm) hown (hts (.methodLink RX0 81 Lib.MathLoose.max_long.x) (List.mem_of_getElem? (i := 2) rfl)) (hts (.static Lib.MathLoose.max_long.x) (List.mem_of_getElem? (i := 3) rfl)) (hts (.initialized "java/lang/Math") (List.mem_of_getElem? (i := 4) rfl)) (hts (.code Lib.MathLoose.max_long.x Lib.MathLoose.max_long.code 4 (some .long)) (List.mem_of_getElem? (i := 5) rfl)) (Nat.le_of_ble_eq_true rfl) (Nat.le_of_ble_eq_true rfl) (Nat.le_of_ble_eq_true rfl) (Nat.le_of_ble_eq_true rfl) dX0_payIn_13 ?_
  refine j_l (y := jmx (lN (jU an iv (k + 1)) - kp)) (jmx_of _) ?_
  refine lv_lstore_n (lv' := [(2, .long (jmx (lN (jU an iv (k + 1)) - kp))), (0, .ref (aa 0)), (1, .int (nI k))]) hx hb dX0_payIn_16 rfl hl (by decide) rfl (fun ls hl => ?_)
  refine lv_aload_n hx hb dX0_payIn_17 rfl (lv_at hl 1 rfl) ?_
  refine va_get (D := (dC, dI)) (ci := 0) (v := .ref (aa 4)) (C := RX0) (T := TX0) (N := 13) hx hb hts (fun _ h => List.mem_cons_of_mem _ (List.mem_append_right _ h)) hown hK hP 0 rfl rfl 11 (by decide) (hts (.fieldLink RX0 47 "JointAnnuity$Annuity" "payments" "[J") (List.mem_of_getElem? (i := 6) rfl)) (fun _ h9 => h9) rfl dX0_payIn_18 ?_
  refine lv_iload_n hx hb dX0_payIn_21 rfl (lv_at hl 2 rfl) ?_
  refine lv_lload_n hx hb dX0_payIn_22 rfl (lv_at hl 0 rfl) ?_
  refine va_last hx hb hK hP hD hS 4 1 (f := py) (x := jmx (lN (jU an iv (k + 1)) - kp)) rfl rfl (vp_in_nI (n := k) (N := 240) (by omega) (by omega)) dX0_payIn_23 (fun H locs hP hD hS => ?_)
  rw [nI_clamp (show k < 2 ^ 31 by omega)] at hP hD
  have hP : va_P (dC, dI) vwCl [((aa 0), .inr (0, [.int (nI (an 0)), .int (nI (an 1)), .int (nI (an 0 + an 2)), .int (nI (an 3)), .int (nI (an 4)), .int (nI (an 5)), .int (nI (an 6)), .int (nI (an 7)), .ref (aa 1), .ref (aa 2), .ref (aa 3), .ref (aa 4), .long (kp)])), ((aa 1), .inl (cI, 2, .inl (fun j => nI (if j = 0 then an 8 else an 9)))), ((aa 2), .inl (cI, 20, .inl (fun j => nI (jF an iv j)))), ((aa 3), .inl (cI, 20, .inl (fun j => jC an iv j))), ((aa 4), .inl (cJ, 240, .inr (.inl (vp_updL (py) k (jmx (lN (jU an iv (k + 1)) - kp))))))] H := hP
  have hD : va_D A [((aa 0), .inr (0, [.int (nI (an 0)), .int (nI (an 1)), .int (nI (an 0 + an 2)), .int (nI (an 3)), .int (nI (an 4)), .int (nI (an 5)), .int (nI (an 6)), .int (nI (an 7)), .ref (aa 1), .ref (aa 2), .ref (aa 3), .ref (aa 4), .long (kp)])), ((aa 1), .inl (cI, 2, .inl (fun j => nI (if j = 0 then an 8 else an 9)))), ((aa 2), .inl (cI, 20, .inl (fun j => nI (jF an iv j)))), ((aa 3), .inl (cI, 20, .inl (fun j => jC an iv j))), ((aa 4), .inl (cJ, 240, .inr (.inl (vp_updL (py) k (jmx (lN (jU an iv (k + 1)) - kp))))))] := hD
  refine lv_aload_n hx hb dX0_payIn_24 rfl (lv_at hl 1 rfl) ?_
  refine lv_dup hx hb dX0_payIn_25 rfl ?_
  refine va_get (D := (dC, dI)) (ci := 0) (v := .long (kp)) (C := RX0) (T := TX0) (N := 13) hx hb hts (fun _ h => List.mem_cons_of_mem _ (List.mem_append_right _ h)) hown hK hP 0 rfl rfl 12 (by decide) (hts (.fieldLink RX0 51 "JointAnnuity$Annuity" "keptInAll" "J") (List.mem_of_getElem? (i := 1) rfl)) (fun _ h9 => h9) rfl dX0_payIn_26 ?_
  refine lv_lload_n hx hb dX0_payIn_29 rfl (lv_at hl 0 rfl) ?_
  refine lv_ladd hx hb dX0_payIn_30 ?_
  refine va_put (D := (dC, dI)) (ci := 0) (v := .long (kp + (jmx (lN (jU an iv (k + 1)) - kp)))) (ty := .long) (C := RX0) (T := TX0) (N := 13) hx hb hts (fun _ h => List.mem_cons_of_mem _ (List.mem_append_right _ h)) tyX0 tyX0_ok nmX0 hown hK hP hD hS 0 rfl rfl 12 (by decide) (hts (.fieldLink RX0 51 "JointAnnuity$Annuity" "keptInAll" "J") (List.mem_of_getElem? (i := 1) rfl)) (fun _ h9 => h9) rfl (by decide +kernel) rfl rfl (Nat.le_of_ble_eq_true rfl) dX0_payIn_31 (fun H locs hP hD hS => ?_)
  have hP : va_P (dC, dI) vwCl [((aa 0), .inr (0, [.int (nI (an 0)), .int (nI (an 1)), .int (nI (an 0 + an 2)), .int (nI (an 3)), .int (nI (an 4)), .int (nI (an 5)), .int (nI (an 6)), .int (nI (an 7)), .ref (aa 1), .ref (aa 2), .ref (aa 3), .ref (aa 4), .long (kp + (jmx (lN (jU an iv (k + 1)) - kp)))])), ((aa 1), .inl (cI, 2, .inl (fun j => nI (if j = 0 then an 8 else an 9)))), ((aa 2), .inl (cI, 20, .inl (fun j => nI (jF an iv j)))), ((aa 3), .inl (cI, 20, .inl (fun j => jC an iv j))), ((aa 4), .inl (cJ, 240, .inr (.inl (vp_updL (py) k (jmx (lN (jU an iv (k + 1)) - kp))))))] H := hP
  have hD : va_D A [((aa 0), .inr (0, [.int (nI (an 0)), .int (nI (an 1)), .int (nI (an 0 + an 2)), .int (nI (an 3)), .int (nI (an 4)), .int (nI (an 5)), .int (nI (an 6)), .int (nI (an 7)), .ref (aa 1), .ref (aa 2), .ref (aa 3), .ref (aa 4), .long (kp + (jmx (lN (jU an iv (k + 1)) - kp)))])), ((aa 1), .inl (cI, 2, .inl (fun j => nI (if j = 0 then an 8 else an 9)))), ((aa 2), .inl (cI, 20, .inl (fun j => nI (jF an iv j)))), ((aa 3), .inl (cI, 20, .inl (fun j => jC an iv j))), ((aa 4), .inl (cJ, 240, .inr (.inl (vp_updL (py) k (jmx (lN (jU an iv (k + 1)) - kp))))))] := hD
  refine lv_lload_n hx hb dX0_payIn_34 rfl (lv_at hl 0 rfl) ?_
  exact W.lret (v := jmx (lN (jU an iv (k + 1)) - kp)) hx hb hr (fun t ht hW => ⟨⟨_, (), rfl, rfl, j_h ht hP⟩, hS.F ht⟩) hS.2.2 dX0_payIn_35
set_option maxHeartbeats 4000000 in
set_option maxRecDepth 100000 in
/-- a new annuity -/
theorem c_X0_init (l : Launch) (dC : Nat → ClassId) (dI : Nat → Nat → Nat) (cI cJ cZ cO : ClassId) (h0 sz : Nat) (sa ma ga : Nat)  : Met l yX0_init wsX0_init ({ frames := 1, cells := 4, slots := 282, locals := 12 }) (va_Pc [.ref h0, .int (nI sa), .int (nI ma), .int (nI ga)] (fun U => U.heap.size = sz ∧ va_P (dC, dI) vwCl [(h0, .inr (0, [.int 0, .int 0, .int 0, .int 0, .int 0, .int 0, .int 0, .int 0, .null, .null, .null, .null, .long 0]))] U.heap ∧ va_K (dC, dI) vwCl (jTY cI cJ cZ cO) U ∧ va_D (fun _ => True) [(h0, .inr (0, [.int 0, .int 0, .int 0, .int 0, .int 0, .int 0, .int 0, .int 0, .null, .null, .null, .null, .long 0]))])) (va_Qv (fun aa : Nat → Nat => aa 0 = h0) (fun aa t => va_P (dC, dI) vwCl [(aa 0, .inr (0, [.int (nI (jN sa ma ga 0)), .int (nI (jN sa ma ga 1)), .int (nI (jN sa ma ga 0 + jN sa ma ga 2)), .int (nI (jN sa ma ga 3)), .int (nI (jN sa ma ga 4)), .int (nI (jN sa ma ga 5)), .int (nI (jN sa ma ga 6)), .int (nI (jN sa ma ga 7)), .ref (aa 1), .ref (aa 2), .ref (aa 3), .ref (aa 4), .long 0])), (aa 1, .inl (cI, 2, .inl (fun j => nI (if j = 0 then jN sa ma ga 8 else jN sa ma ga 9)))), (aa 2, .inl (cI, 20, .inl (fun _ => 0))), (aa 3, .inl (cI, 20, .inl (fun _ => 0))), (aa 4, .inl (cJ, 240, .inr (.inl (fun _ => 0))))] t.heap ∧ va_D (va_A [(h0, .inr (0, [.int 0, .int 0, .int 0, .int 0, .int 0, .int 0, .int 0, .int 0, .null, .null, .null, .null, .long 0]))] sz) [(aa 0, .inr (0, [.int (nI (jN sa ma ga 0)), .int (nI (jN sa ma ga 1)), .int (nI (jN sa ma ga 0 + jN sa ma ga 2)), .int (nI (jN sa ma ga 3)), .int (nI (jN sa ma ga 4)), .int (nI (jN sa ma ga 5)), .int (nI (jN sa ma ga 6)), .int (nI (jN sa ma ga 7)), .ref (aa 1), .ref (aa 2), .ref (aa 3), .ref (aa 4), .long 0])), (aa 1, .inl (cI, 2, .inl (fun j => nI (if j = 0 then jN sa ma ga 8 else jN sa ma ga 9)))), (aa 2, .inl (cI, 20, .inl (fun _ => 0))), (aa 3, .inl (cI, 20, .inl (fun _ => 0))), (aa 4, .inl (cJ, 240, .inr (.inl (fun _ => 0))))]) (va_A [(h0, .inr (0, [.int 0, .int 0, .int 0, .int 0, .int 0, .int 0, .int 0, .int 0, .null, .null, .null, .null, .long 0]))] sz)) 4 282 (va_A [(h0, .inr (0, [.int 0, .int 0, .int 0, .int 0, .int 0, .int 0, .int 0, .int 0, .null, .null, .null, .null, .long 0]))] sz) := by
  refine j_of (cc := cX0_init) (maxL := 4) (ret := none) (by decide) rfl (Nat.le_of_ble_eq_true rfl) ?_
  intro p e s m below meth c ls hx hb hr hml hts hown hlocks hnm hl hpre
  have hown : s.vm.findClass RX0 = some m.cls := hown
  have hl : lv_has ls 4 [(0, .ref h0), (1, .int (nI sa)), (2, .int (nI ma)), (3, .int (nI ga))] := hl
  have hin : meth.name = "<init>" := hnm
  obtain ⟨hsz, hP, hK, hD0⟩ := hpre
  subst hsz
  have hD := hD0.self (sz := s.heap.size)
  generalize hAe : va_A [(h0, .inr (0, [.int 0, .int 0, .int 0, .int 0, .int 0, .int 0, .int 0, .int 0, .null, .null, .null, .null, .long 0]))] s.heap.size = A at hD ⊢
  have hA : ∀ q : Nat, s.heap.size ≤ q → A q := fun q h => by rw [← hAe]; exact Or.inr h
  have hS : va_S A s.heap s.heap [] := va_S.rf
  refine lv_aload_n hx hb dX0_init_0 rfl (lv_at hl 0 rfl) ?_
  refine W.objInit hx hb hown (hts (.methodLink RX0 3 objectInit) (List.mem_of_getElem? (i := 1) rfl)) (hts (.instanceMethod objectInit) (List.mem_of_getElem? (i := 2) rfl)) (hts _ (List.mem_of_getElem? (i := 3) rfl)) rfl (by rw [hml]; exact hl.1) rfl dX0_init_1 (Nat.le_of_ble_eq_true rfl) (Nat.le_of_ble_eq_true rfl) ?_
  refine W.eq (g2 := F0 m 4 ls []) rfl ?_
  refine lv_aload_n hx hb dX0_init_4 rfl (lv_at hl 0 rfl) ?_
  refine lv_iload_n hx hb dX0_init_5 rfl (lv_at hl 1 rfl) ?_
  refine va_putF (D := (dC, dI)) (ci := 0) (v := .int (nI sa)) (ty := .int) (C := RX0) (T := TX0) (N := 13) hx hb hts (fun _ h => List.mem_cons_of_mem _ (List.mem_append_right _ h)) tyX0 tyX0_ok nmX0 hown hK hP hD hS 0 rfl rfl 0 (by decide) (hts (.fieldLink RX0 9 "JointAnnuity$Annuity" "start" "I") (List.mem_of_getElem? (i := 4) rfl)) (fun _ h9 => h9) rfl hin rfl (by decide +kernel) rfl rfl (Nat.le_of_ble_eq_true rfl) dX0_init_6 (fun H locs hP hD hS => ?_)
  have hP : va_P (dC, dI) vwCl [(h0, .inr (0, [.int (nI sa), .int 0, .int 0, .int 0, .int 0, .int 0, .int 0, .int 0, .null, .null, .null, .null, .long 0]))] H := hP
  have hD : va_D A [(h0, .inr (0, [.int (nI sa), .int 0, .int 0, .int 0, .int 0, .int 0, .int 0, .int 0, .null, .null, .null, .null, .long 0]))] := hD
  refine lv_aload_n hx hb dX0_init_9 rfl (lv_at hl 0 rfl) ?_
  refine lv_iload_n hx hb dX0_init_10 rfl (lv_at hl 2 rfl) ?_
  refine va_putF (D := (dC, dI)) (ci := 0) (v := .int (nI ma)) (ty := .int) (C := RX0) (T := TX0) (N := 13) hx hb hts (fun _ h => List.mem_cons_of_mem _ (List.mem_append_right _ h)) tyX0 tyX0_ok nmX0 hown hK hP hD hS 0 rfl rfl 1 (by decide) (hts (.fieldLink RX0 15 "JointAnnuity$Annuity" "amount" "I") (List.mem_of_getElem? (i := 5) rfl)) (fun _ h9 => h9) rfl hin rfl (by decide +kernel) rfl rfl (Nat.le_of_ble_eq_true rfl) dX0_init_11 (fun H locs hP hD hS => ?_)
  have hP : va_P (dC, dI) vwCl [(h0, .inr (0, [.int (nI sa), .int (nI ma), .int 0, .int 0, .int 0, .int 0, .int 0, .int 0, .null, .null, .null, .null, .long 0]))] H := hP
  have hD : va_D A [(h0, .inr (0, [.int (nI sa), .int (nI ma), .int 0, .int 0, .int 0, .int 0, .int 0, .int 0, .null, .null, .null, .null, .long 0]))] := hD
  refine lv_aload_n hx hb dX0_init_14 rfl (lv_at hl 0 rfl) ?_
  refine lv_iload_n hx hb dX0_init_15 rfl (lv_at hl 1 rfl) ?_
  refine lv_iload_n hx hb dX0_init_16 rfl (lv_at hl 3 rfl) ?_
  refine lv_iadd hx hb dX0_init_17 ?_
  refine j_i (y := nI (sa + ga)) (nI_add _ _) ?_
  refine va_putF (D := (dC, dI)) (ci := 0) (v := .int (nI (sa + ga))) (ty := .int) (C := RX0) (T := TX0) (N := 13) hx hb hts (fun _ h => List.mem_cons_of_mem _ (List.mem_append_right _ h)) tyX0 tyX0_ok nmX0 hown hK hP hD hS 0 rfl rfl 2 (by decide) (hts (.fieldLink RX0 18 "JointAnnuity$Annuity" "guaranteeEnd" "I") (List.mem_of_getElem? (i := 6) rfl)) (fun _ h9 => h9) rfl hin rfl (by decide +kernel) rfl rfl (Nat.le_of_ble_eq_true rfl) dX0_init_18 (fun H locs hP hD hS => ?_)
  have hP : va_P (dC, dI) vwCl [(h0, .inr (0, [.int (nI sa), .int (nI ma), .int (nI (sa + ga)), .int 0, .int 0, .int 0, .int 0, .int 0, .null, .null, .null, .null, .long 0]))] H := hP
  have hD : va_D A [(h0, .inr (0, [.int (nI sa), .int (nI ma), .int (nI (sa + ga)), .int 0, .int 0, .int 0, .int 0, .int 0, .null, .null, .null, .null, .long 0]))] := hD
  refine lv_aload_n hx hb dX0_init_21 rfl (lv_at hl 0 rfl) ?_
  refine lv_bipush (v := nI 100) hx hb dX0_init_22 (by decide) ?_
  refine va_put (D := (dC, dI)) (ci := 0) (v := .int (nI 100)) (ty := .int) (C := RX0) (T := TX0) (N := 13) hx hb hts (fun _ h => List.mem_cons_of_mem _ (List.mem_append_right _ h)) tyX0 tyX0_ok nmX0 hown hK hP hD hS 0 rfl rfl 3 (by decide) (hts (.fieldLink RX0 21 "JointAnnuity$Annuity" "survivorPercent" "I") (List.mem_of_getElem? (i := 7) rfl)) (fun _ h9 => h9) rfl (by decide +kernel) rfl rfl (Nat.le_of_ble_eq_true rfl) dX0_init_24 (fun H locs hP hD hS => ?_)
  have hP : va_P (dC, dI) vwCl [(h0, .inr (0, [.int (nI sa), .int (nI ma), .int (nI (sa + ga)), .int (nI 100), .int 0, .int 0, .int 0, .int 0, .null, .null, .null, .null, .long 0]))] H := hP
  have hD : va_D A [(h0, .inr (0, [.int (nI sa), .int (nI ma), .int (nI (sa + ga)), .int (nI 100), .int 0, .int 0, .int 0, .int 0, .null, .null, .null, .null, .long 0]))] := hD
  refine lv_aload_n hx hb dX0_init_27 rfl (lv_at hl 0 rfl) ?_
  refine lv_iconst (v := nI 0) hx hb dX0_init_28 (by decide) ?_
  refine va_put (D := (dC, dI)) (ci := 0) (v := .int (nI 0)) (ty := .boolean) (C := RX0) (T := TX0) (N := 13) hx hb hts (fun _ h => List.mem_cons_of_mem _ (List.mem_append_right _ h)) tyX0 tyX0_ok nmX0 hown hK hP hD hS 0 rfl rfl 4 (by decide) (hts (.fieldLink RX0 24 "JointAnnuity$Annuity" "stepsOnFirst" "Z") (List.mem_of_getElem? (i := 8) rfl)) (fun _ h9 => h9) rfl (by decide +kernel) rfl rfl (Nat.le_of_ble_eq_true rfl) dX0_init_29 (fun H locs hP hD hS => ?_)
  have hP : va_P (dC, dI) vwCl [(h0, .inr (0, [.int (nI sa), .int (nI ma), .int (nI (sa + ga)), .int (nI 100), .int (nI 0), .int 0, .int 0, .int 0, .null, .null, .null, .null, .long 0]))] H := hP
  have hD : va_D A [(h0, .inr (0, [.int (nI sa), .int (nI ma), .int (nI (sa + ga)), .int (nI 100), .int (nI 0), .int 0, .int 0, .int 0, .null, .null, .null, .null, .long 0]))] := hD
  refine lv_aload_n hx hb dX0_init_32 rfl (lv_at hl 0 rfl) ?_
  refine lv_iconst (v := nI 0) hx hb dX0_init_33 (by decide) ?_
  refine va_put (D := (dC, dI)) (ci := 0) (v := .int (nI 0)) (ty := .int) (C := RX0) (T := TX0) (N := 13) hx hb hts (fun _ h => List.mem_cons_of_mem _ (List.mem_append_right _ h)) tyX0 tyX0_ok nmX0 hown hK hP hD hS 0 rfl rfl 5 (by decide) (hts (.fieldLink RX0 28 "JointAnnuity$Annuity" "cap" "I") (List.mem_of_getElem? (i := 9) rfl)) (fun _ h9 => h9) rfl (by decide +kernel) rfl rfl (Nat.le_of_ble_eq_true rfl) dX0_init_34 (fun H locs hP hD hS => ?_)
  have hP : va_P (dC, dI) vwCl [(h0, .inr (0, [.int (nI sa), .int (nI ma), .int (nI (sa + ga)), .int (nI 100), .int (nI 0), .int (nI 0), .int 0, .int 0, .null, .null, .null, .null, .long 0]))] H := hP
  have hD : va_D A [(h0, .inr (0, [.int (nI sa), .int (nI ma), .int (nI (sa + ga)), .int (nI 100), .int (nI 0), .int (nI 0), .int 0, .int 0, .null, .null, .null, .null, .long 0]))] := hD
  refine lv_aload_n hx hb dX0_init_37 rfl (lv_at hl 0 rfl) ?_
  refine lv_iconst (v := nI 0) hx hb dX0_init_38 (by decide) ?_
  refine va_put (D := (dC, dI)) (ci := 0) (v := .int (nI 0)) (ty := .int) (C := RX0) (T := TX0) (N := 13) hx hb hts (fun _ h => List.mem_cons_of_mem _ (List.mem_append_right _ h)) tyX0 tyX0_ok nmX0 hown hK hP hD hS 0 rfl rfl 6 (by decide) (hts (.fieldLink RX0 31 "JointAnnuity$Annuity" "price" "I") (List.mem_of_getElem? (i := 10) rfl)) (fun _ h9 => h9) rfl (by decide +kernel) rfl rfl (Nat.le_of_ble_eq_true rfl) dX0_init_39 (fun H locs hP hD hS => ?_)
  have hP : va_P (dC, dI) vwCl [(h0, .inr (0, [.int (nI sa), .int (nI ma), .int (nI (sa + ga)), .int (nI 100), .int (nI 0), .int (nI 0), .int (nI 0), .int 0, .null, .null, .null, .null, .long 0]))] H := hP
  have hD : va_D A [(h0, .inr (0, [.int (nI sa), .int (nI ma), .int (nI (sa + ga)), .int (nI 100), .int (nI 0), .int (nI 0), .int (nI 0), .int 0, .null, .null, .null, .null, .long 0]))] := hD
  refine lv_aload_n hx hb dX0_init_42 rfl (lv_at hl 0 rfl) ?_
  refine lv_iconst (v := nI 0) hx hb dX0_init_43 (by decide) ?_
  refine va_put (D := (dC, dI)) (ci := 0) (v := .int (nI 0)) (ty := .int) (C := RX0) (T := TX0) (N := 13) hx hb hts (fun _ h => List.mem_cons_of_mem _ (List.mem_append_right _ h)) tyX0 tyX0_ok nmX0 hown hK hP hD hS 0 rfl rfl 7 (by decide) (hts (.fieldLink RX0 34 "JointAnnuity$Annuity" "protectedPercent" "I") (List.mem_of_getElem? (i := 11) rfl)) (fun _ h9 => h9) rfl (by decide +kernel) rfl rfl (Nat.le_of_ble_eq_true rfl) dX0_init_44 (fun H locs hP hD hS => ?_)
  have hP : va_P (dC, dI) vwCl [(h0, .inr (0, [.int (nI sa), .int (nI ma), .int (nI (sa + ga)), .int (nI 100), .int (nI 0), .int (nI 0), .int (nI 0), .int (nI 0), .null, .null, .null, .null, .long 0]))] H := hP
  have hD : va_D A [(h0, .inr (0, [.int (nI sa), .int (nI ma), .int (nI (sa + ga)), .int (nI 100), .int (nI 0), .int (nI 0), .int (nI 0), .int (nI 0), .null, .null, .null, .null, .long 0]))] := hD
  refine lv_aload_n hx hb dX0_init_47 rfl (lv_at hl 0 rfl) ?_
  refine lv_iconst (v := nI 2) hx hb dX0_init_48 (by decide) ?_
  refine va_newa (atype := .int) (ty := .int) (N' := 2) (a0 := (2, .inl (fun _ => 0))) hx hb (hts (.arrayClass .int) (List.mem_of_getElem? (i := 12) rfl)) rfl hK hP hD hS hA (fun _ => rfl) (nI_pos (by omega)) (nI_clamp (by omega)) (by decide) (Nat.le_of_ble_eq_true rfl) (Nat.le_of_ble_eq_true rfl) dX0_init_49 (fun q49 cA9 H hK hP hD hS => ?_)
  obtain rfl := j_cls hK 0 4 rfl rfl
  have hK := hK.sub (tys' := jTY cI cJ cZ cO) [0, 1, 2, 3] rfl
  have hP : va_P (dC, dI) vwCl [(h0, .inr (0, [.int (nI sa), .int (nI ma), .int (nI (sa + ga)), .int (nI 100), .int (nI 0), .int (nI 0), .int (nI 0), .int (nI 0), .null, .null, .null, .null, .long 0])), (q49, .inl (cI, 2, .inl (fun _ => 0)))] H := hP
  have hD : va_D A [(h0, .inr (0, [.int (nI sa), .int (nI ma), .int (nI (sa + ga)), .int (nI 100), .int (nI 0), .int (nI 0), .int (nI 0), .int (nI 0), .null, .null, .null, .null, .long 0])), (q49, .inl (cI, 2, .inl (fun _ => 0)))] := hD
  refine lv_dup hx hb dX0_init_51 rfl ?_
  refine lv_iconst (v := nI 0) hx hb dX0_init_52 (by decide) ?_
  refine lv_sipush (v := nI 240) hx hb dX0_init_53 (by decide) ?_
  refine va_iast hx hb hK hP hD hS 1 0 (f := fun _ => 0) (x := nI 240) rfl rfl (vp_in_nI (n := 0) (N := 2) (by omega) (by omega)) dX0_init_56 (fun H locs hP hD hS => ?_)
  rw [nI_clamp (show 0 < 2 ^ 31 by omega)] at hP hD
  have hP : va_P (dC, dI) vwCl [(h0, .inr (0, [.int (nI sa), .int (nI ma), .int (nI (sa + ga)), .int (nI 100), .int (nI 0), .int (nI 0), .int (nI 0), .int (nI 0), .null, .null, .null, .null, .long 0])), (q49, .inl (cI, 2, .inl (upd (fun _ => 0) 0 (nI 240))))] H := hP
  have hD : va_D A [(h0, .inr (0, [.int (nI sa), .int (nI ma), .int (nI (sa + ga)), .int (nI 100), .int (nI 0), .int (nI 0), .int (nI 0), .int (nI 0), .null, .null, .null, .null, .long 0])), (q49, .inl (cI, 2, .inl (upd (fun _ => 0) 0 (nI 240))))] := hD
  refine lv_dup hx hb dX0_init_57 rfl ?_
  refine lv_iconst (v := nI 1) hx hb dX0_init_58 (by decide) ?_
  refine lv_sipush (v := nI 240) hx hb dX0_init_59 (by decide) ?_
  refine va_iast hx hb hK hP hD hS 1 0 (f := upd (fun _ => 0) 0 (nI 240)) (x := nI 240) rfl rfl (vp_in_nI (n := 1) (N := 2) (by omega) (by omega)) dX0_init_62 (fun H locs hP hD hS => ?_)
  rw [nI_clamp (show 1 < 2 ^ 31 by omega)] at hP hD
  have hP : va_P (dC, dI) vwCl [(h0, .inr (0, [.int (nI sa), .int (nI ma), .int (nI (sa + ga)), .int (nI 100), .int (nI 0), .int (nI 0), .int (nI 0), .int (nI 0), .null, .null, .null, .null, .long 0])), (q49, .inl (cI, 2, .inl (upd (upd (fun _ => 0) 0 (nI 240)) 1 (nI 240))))] H := hP
  have hD : va_D A [(h0, .inr (0, [.int (nI sa), .int (nI ma), .int (nI (sa + ga)), .int (nI 100), .int (nI 0), .int (nI 0), .int (nI 0), .int (nI 0), .null, .null, .null, .null, .long 0])), (q49, .inl (cI, 2, .inl (upd (upd (fun _ => 0) 0 (nI 240)) 1 (nI 240))))] := hD
  refine va_putF (D := (dC, dI)) (ci := 0) (v := .ref q49) (ty := .array .int) (C := RX0) (T := TX0) (N := 13) hx hb hts (fun _ h => List.mem_cons_of_mem _ (List.mem_append_right _ h)) tyX0 tyX0_ok nmX0 hown hK hP hD hS 0 rfl rfl 8 (by decide) (hts (.fieldLink RX0 37 "JointAnnuity$Annuity" "deaths" "[I") (List.mem_of_getElem? (i := 13) rfl)) (fun _ h9 => h9) rfl hin rfl (by decide +kernel) rfl rfl (Nat.le_of_ble_eq_true rfl) dX0_init_63 (fun H locs hP hD hS => ?_)
  have hP : va_P (dC, dI) vwCl [(h0, .inr (0, [.int (nI sa), .int (nI ma), .int (nI (sa + ga)), .int (nI 100), .int (nI 0), .int (nI 0), .int (nI 0), .int (nI 0), .ref q49, .null, .null, .null, .long 0])), (q49, .inl (cI, 2, .inl (upd (upd (fun _ => 0) 0 (nI 240)) 1 (nI 240))))] H := hP
  have hD : va_D A [(h0, .inr (0, [.int (nI sa), .int (nI ma), .int (nI (sa + ga)), .int (nI 100), .int (nI 0), .int (nI 0), .int (nI 0), .int (nI 0), .ref q49, .null, .null, .null, .long 0])), (q49, .inl (cI, 2, .inl (upd (upd (fun _ => 0) 0 (nI 240)) 1 (nI 240))))] := hD
  refine lv_aload_n hx hb dX0_init_66 rfl (lv_at hl 0 rfl) ?_
  refine lv_bipush (v := nI 20) hx hb dX0_init_67 (by decide) ?_
  refine va_newa (atype := .int) (ty := .int) (N' := 20) (a0 := (20, .inl (fun _ => 0))) hx hb (hts (.arrayClass .int) (List.mem_of_getElem? (i := 12) rfl)) rfl hK hP hD hS hA (fun _ => rfl) (nI_pos (by omega)) (nI_clamp (by omega)) (by decide) (Nat.le_of_ble_eq_true rfl) (Nat.le_of_ble_eq_true rfl) dX0_init_69 (fun q69 cA9 H hK hP hD hS => ?_)
  obtain rfl := j_cls hK 0 4 rfl rfl
  have hK := hK.sub (tys' := jTY cI cJ cZ cO) [0, 1, 2, 3] rfl
  have hP : va_P (dC, dI) vwCl [(h0, .inr (0, [.int (nI sa), .int (nI ma), .int (nI (sa + ga)), .int (nI 100), .int (nI 0), .int (nI 0), .int (nI 0), .int (nI 0), .ref q49, .null, .null, .null, .long 0])), (q49, .inl (cI, 2, .inl (upd (upd (fun _ => 0) 0 (nI 240)) 1 (nI 240)))), (q69, .inl (cI, 20, .inl (fun _ => 0)))] H := hP
  have hD : va_D A [(h0, .inr (0, [.int (nI sa), .int (nI ma), .int (nI (sa + ga)), .int (nI 100), .int (nI 0), .int (nI 0), .int (nI 0), .int (nI 0), .ref q49, .null, .null, .null, .long 0])), (q49, .inl (cI, 2, .inl (upd (upd (fun _ => 0) 0 (nI 240)) 1 (nI 240)))), (q69, .inl (cI, 20, .inl (fun _ => 0)))] := hD
  refine va_putF (D := (dC, dI)) (ci := 0) (v := .ref q69) (ty := .array .int) (C := RX0) (T := TX0) (N := 13) hx hb hts (fun _ h => List.mem_cons_of_mem _ (List.mem_append_right _ h)) tyX0 tyX0_ok nmX0 hown hK hP hD hS 0 rfl rfl 9 (by decide) (hts (.fieldLink RX0 41 "JointAnnuity$Annuity" "fullAmounts" "[I") (List.mem_of_getElem? (i := 14) rfl)) (fun _ h9 => h9) rfl hin rfl (by decide +kernel) rfl rfl (Nat.le_of_ble_eq_true rfl) dX0_init_71 (fun H locs hP hD hS => ?_)
  have hP : va_P (dC, dI) vwCl [(h0, .inr (0, [.int (nI sa), .int (nI ma), .int (nI (sa + ga)), .int (nI 100), .int (nI 0), .int (nI 0), .int (nI 0), .int (nI 0), .ref q49, .ref q69, .null, .null, .long 0])), (q49, .inl (cI, 2, .inl (upd (upd (fun _ => 0) 0 (nI 240)) 1 (nI 240)))), (q69, .inl (cI, 20, .inl (fun _ => 0)))] H := hP
  have hD : va_D A [(h0, .inr (0, [.int (nI sa), .int (nI ma), .int (nI (sa + ga)), .int (nI 100), .int (nI 0), .int (nI 0), .int (nI 0), .int (nI 0), .ref q49, .ref q69, .null, .null, .long 0])), (q49, .inl (cI, 2, .inl (upd (upd (fun _ => 0) 0 (nI 240)) 1 (nI 240)))), (q69, .inl (cI, 20, .inl (fun _ => 0)))] := hD
  refine lv_aload_n hx hb dX0_init_74 rfl (lv_at hl 0 rfl) ?_
  refine lv_bipush (v := nI 20) hx hb dX0_init_75 (by decide) ?_
  refine va_newa (atype := .int) (ty := .int) (N' := 20) (a0 := (20, .inl (fun _ => 0))) hx hb (hts (.arrayClass .int) (List.mem_of_getElem? (i := 12) rfl)) rfl hK hP hD hS hA (fun _ => rfl) (nI_pos (by omega)) (nI_clamp (by omega)) (by decide) (Nat.le_of_ble_eq_true rfl) (Nat.le_of_ble_eq_true rfl) dX0_init_77 (fun q77 cA9 H hK hP hD hS => ?_)
  obtain rfl := j_cls hK 0 4 rfl rfl
  have hK := hK.sub (tys' := jTY cI cJ cZ cO) [0, 1, 2, 3] rfl
  have hP : va_P (dC, dI) vwCl [(h0, .inr (0, [.int (nI sa), .int (nI ma), .int (nI (sa + ga)), .int (nI 100), .int (nI 0), .int (nI 0), .int (nI 0), .int (nI 0), .ref q49, .ref q69, .null, .null, .long 0])), (q49, .inl (cI, 2, .inl (upd (upd (fun _ => 0) 0 (nI 240)) 1 (nI 240)))), (q69, .inl (cI, 20, .inl (fun _ => 0))), (q77, .inl (cI, 20, .inl (fun _ => 0)))] H := hP
  have hD : va_D A [(h0, .inr (0, [.int (nI sa), .int (nI ma), .int (nI (sa + ga)), .int (nI 100), .int (nI 0), .int (nI 0), .int (nI 0), .int (nI 0), .ref q49, .ref q69, .null, .null, .long 0])), (q49, .inl (cI, 2, .inl (upd (upd (fun _ => 0) 0 (nI 240)) 1 (nI 240)))), (q69, .inl (cI, 20, .inl (fun _ => 0))), (q77, .inl (cI, 20, .inl (fun _ => 0)))] := hD
  refine va_putF (D := (dC, dI)) (ci := 0) (v := .ref q77) (ty := .array .int) (C := RX0) (T := TX0) (N := 13) hx hb hts (fun _ h => List.mem_cons_of_mem _ (List.mem_append_right _ h)) tyX0 tyX0_ok nmX0 hown hK hP hD hS 0 rfl rfl 10 (by decide) (hts (.fieldLink RX0 44 "JointAnnuity$Annuity" "carries" "[I") (List.mem_of_getElem? (i := 15) rfl)) (fun _ h9 => h9) rfl hin rfl (by decide +kernel) rfl rfl (Nat.le_of_ble_eq_true rfl) dX0_init_79 (fun H locs hP hD hS => ?_)
  have hP : va_P (dC, dI) vwCl [(h0, .inr (0, [.int (nI sa), .int (nI ma), .int (nI (sa + ga)), .int (nI 100), .int (nI 0), .int (nI 0), .int (nI 0), .int (nI 0), .ref q49, .ref q69, .ref q77, .null, .long 0])), (q49, .inl (cI, 2, .inl (upd (upd (fun _ => 0) 0 (nI 240)) 1 (nI 240)))), (q69, .inl (cI, 20, .inl (fun _ => 0))), (q77, .inl (cI, 20, .inl (fun _ => 0)))] H := hP
  have hD : va_D A [(h0, .inr (0, [.int (nI sa), .int (nI ma), .int (nI (sa + ga)), .int (nI 100), .int (nI 0), .int (nI 0), .int (nI 0), .int (nI 0), .ref q49, .ref q69, .ref q77, .null, .long 0])), (q49, .inl (cI, 2, .inl (upd (upd (fun _ => 0) 0 (nI 240)) 1 (nI 240)))), (q69, .inl (cI, 20, .inl (fun _ => 0))), (q77, .inl (cI, 20, .inl (fun _ => 0)))] := hD
  refine lv_aload_n hx hb dX0_init_82 rfl (lv_at hl 0 rfl) ?_
  refine lv_sipush (v := nI 240) hx hb dX0_init_83 (by decide) ?_
  refine va_newa (atype := .long) (ty := .long) (N' := 240) (a0 := (240, .inr (.inl (fun _ => 0)))) hx hb (hts (.arrayClass .long) (List.mem_of_getElem? (i := 16) rfl)) rfl hK hP hD hS hA (fun _ => rfl) (nI_pos (by omega)) (nI_clamp (by omega)) (by decide) (Nat.le_of_ble_eq_true rfl) (Nat.le_of_ble_eq_true rfl) dX0_init_86 (fun q86 cA9 H hK hP hD hS => ?_)
  obtain rfl := j_cls hK 1 4 rfl rfl
  have hK := hK.sub (tys' := jTY cI cJ cZ cO) [0, 1, 2, 3] rfl
  have hP : va_P (dC, dI) vwCl [(h0, .inr (0, [.int (nI sa), .int (nI ma), .int (nI (sa + ga)), .int (nI 100), .int (nI 0), .int (nI 0), .int (nI 0), .int (nI 0), .ref q49, .ref q69, .ref q77, .null, .long 0])), (q49, .inl (cI, 2, .inl (upd (upd (fun _ => 0) 0 (nI 240)) 1 (nI 240)))), (q69, .inl (cI, 20, .inl (fun _ => 0))), (q77, .inl (cI, 20, .inl (fun _ => 0))), (q86, .inl (cJ, 240, .inr (.inl (fun _ => 0))))] H := hP
  have hD : va_D A [(h0, .inr (0, [.int (nI sa), .int (nI ma), .int (nI (sa + ga)), .int (nI 100), .int (nI 0), .int (nI 0), .int (nI 0), .int (nI 0), .ref q49, .ref q69, .ref q77, .null, .long 0])), (q49, .inl (cI, 2, .inl (upd (upd (fun _ => 0) 0 (nI 240)) 1 (nI 240)))), (q69, .inl (cI, 20, .inl (fun _ => 0))), (q77, .inl (cI, 20, .inl (fun _ => 0))), (q86, .inl (cJ, 240, .inr (.inl (fun _ => 0))))] := hD
  refine va_putF (D := (dC, dI)) (ci := 0) (v := .ref q86) (ty := .array .long) (C := RX0) (T := TX0) (N := 13) hx hb hts (fun _ h => List.mem_cons_of_mem _ (List.mem_append_right _ h)) tyX0 tyX0_ok nmX0 hown hK hP hD hS 0 rfl rfl 11 (by decide) (hts (.fieldLink RX0 47 "JointAnnuity$Annuity" "payments" "[J") (List.mem_of_getElem? (i := 17) rfl)) (fun _ h9 => h9) rfl hin rfl (by decide +kernel) rfl rfl (Nat.le_of_ble_eq_true rfl) dX0_init_88 (fun H locs hP hD hS => ?_)
  have hP : va_P (dC, dI) vwCl [(h0, .inr (0, [.int (nI sa), .int (nI ma), .int (nI (sa + ga)), .int (nI 100), .int (nI 0), .int (nI 0), .int (nI 0), .int (nI 0), .ref q49, .ref q69, .ref q77, .ref q86, .long 0])), (q49, .inl (cI, 2, .inl (upd (upd (fun _ => 0) 0 (nI 240)) 1 (nI 240)))), (q69, .inl (cI, 20, .inl (fun _ => 0))), (q77, .inl (cI, 20, .inl (fun _ => 0))), (q86, .inl (cJ, 240, .inr (.inl (fun _ => 0))))] H := hP
  have hD : va_D A [(h0, .inr (0, [.int (nI sa), .int (nI ma), .int (nI (sa + ga)), .int (nI 100), .int (nI 0), .int (nI 0), .int (nI 0), .int (nI 0), .ref q49, .ref q69, .ref q77, .ref q86, .long 0])), (q49, .inl (cI, 2, .inl (upd (upd (fun _ => 0) 0 (nI 240)) 1 (nI 240)))), (q69, .inl (cI, 20, .inl (fun _ => 0))), (q77, .inl (cI, 20, .inl (fun _ => 0))), (q86, .inl (cJ, 240, .inr (.inl (fun _ => 0))))] := hD
  refine lv_aload_n hx hb dX0_init_91 rfl (lv_at hl 0 rfl) ?_
  refine lv_lconst (v := lN 0) hx hb dX0_init_92 (by decide) ?_
  refine va_put (D := (dC, dI)) (ci := 0) (v := .long (lN 0)) (ty := .long) (C := RX0) (T := TX0) (N := 13) hx hb hts (fun _ h => List.mem_cons_of_mem _ (List.mem_append_right _ h)) tyX0 tyX0_ok nmX0 hown hK hP hD hS 0 rfl rfl 12 (by decide) (hts (.fieldLink RX0 51 "JointAnnuity$Annuity" "keptInAll" "J") (List.mem_of_getElem? (i := 18) rfl)) (fun _ h9 => h9) rfl (by decide +kernel) rfl rfl (Nat.le_of_ble_eq_true rfl) dX0_init_93 (fun H locs hP hD hS => ?_)
  have hP : va_P (dC, dI) vwCl [(h0, .inr (0, [.int (nI sa), .int (nI ma), .int (nI (sa + ga)), .int (nI 100), .int (nI 0), .int (nI 0), .int (nI 0), .int (nI 0), .ref q49, .ref q69, .ref q77, .ref q86, .long (lN 0)])), (q49, .inl (cI, 2, .inl (upd (upd (fun _ => 0) 0 (nI 240)) 1 (nI 240)))), (q69, .inl (cI, 20, .inl (fun _ => 0))), (q77, .inl (cI, 20, .inl (fun _ => 0))), (q86, .inl (cJ, 240, .inr (.inl (fun _ => 0))))] H := hP
  have hD : va_D A [(h0, .inr (0, [.int (nI sa), .int (nI ma), .int (nI (sa + ga)), .int (nI 100), .int (nI 0), .int (nI 0), .int (nI 0), .int (nI 0), .ref q49, .ref q69, .ref q77, .ref q86, .long (lN 0)])), (q49, .inl (cI, 2, .inl (upd (upd (fun _ => 0) 0 (nI 240)) 1 (nI 240)))), (q69, .inl (cI, 20, .inl (fun _ => 0))), (q77, .inl (cI, 20, .inl (fun _ => 0))), (q86, .inl (cJ, 240, .inr (.inl (fun _ => 0))))] := hD
  have hP : va_P (dC, dI) vwCl [(h0, .inr (0, [.int (nI (jN sa ma ga 0)), .int (nI (jN sa ma ga 1)), .int (nI (jN sa ma ga 0 + jN sa ma ga 2)), .int (nI (jN sa ma ga 3)), .int (nI (jN sa ma ga 4)), .int (nI (jN sa ma ga 5)), .int (nI (jN sa ma ga 6)), .int (nI (jN sa ma ga 7)), .ref q49, .ref q69, .ref q77, .ref q86, .long 0])), (q49, .inl (cI, 2, .inl (fun j => nI (if j = 0 then jN sa ma ga 8 else jN sa ma ga 9)))), (q69, .inl (cI, 20, .inl (fun _ => 0))), (q77, .inl (cI, 20, .inl (fun _ => 0))), (q86, .inl (cJ, 240, .inr (.inl (fun _ => 0))))] H := j_same hP rfl (fun k hk => match k, hk with
    | 0, _ => Or.inl rfl
    | 1, _ => Or.inr ⟨_, _, _, rfl, rfl, j_cI (fun j hj => match j, hj with
      | 0, _ => rfl
      | 1, _ => rfl
      | _ + 2, h => absurd h (Nat.not_lt.mpr (Nat.le_add_left _ _)))⟩
    | 2, _ => Or.inl rfl
    | 3, _ => Or.inl rfl
    | 4, _ => Or.inl rfl
    | _ + 5, h => absurd h (Nat.not_lt.mpr (Nat.le_add_left _ _)))
  have hD : va_D A [(h0, .inr (0, [.int (nI (jN sa ma ga 0)), .int (nI (jN sa ma ga 1)), .int (nI (jN sa ma ga 0 + jN sa ma ga 2)), .int (nI (jN sa ma ga 3)), .int (nI (jN sa ma ga 4)), .int (nI (jN sa ma ga 5)), .int (nI (jN sa ma ga 6)), .int (nI (jN sa ma ga 7)), .ref q49, .ref q69, .ref q77, .ref q86, .long 0])), (q49, .inl (cI, 2, .inl (fun j => nI (if j = 0 then jN sa ma ga 8 else jN sa ma ga 9)))), (q69, .inl (cI, 20, .inl (fun _ => 0))), (q77, .inl (cI, 20, .inl (fun _ => 0))), (q86, .inl (cJ, 240, .inr (.inl (fun _ => 0))))] := hD.addr rfl
  exact W.vret hx hb hr (fun t ht hW => ⟨⟨fun i => match i with | 0 => h0 | 1 => q49 | 2 => q69 | 3 => q77 | _ => q86, rfl, rfl, j_h ht hP, hD⟩, hS.F ht⟩) hS.2.2 dX0_init_96
