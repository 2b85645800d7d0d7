/-! the contracts of the desk: made, an annuity added, the inflation told, a month run -/
set_option maxHeartbeats 4000000 in
set_option maxRecDepth 100000 in
/-- a new desk -/
theorem c_X1_init (l : Launch) (dC : Nat → ClassId) (dI : Nat → Nat → Nat) (h0 sz : Nat)  : Met l yX1_init wsX1_init ({ frames := 1, cells := 2, slots := 40, locals := 12 }) (va_Pc [.ref h0] (fun U => (U.heap.size = sz ∧ va_P (dC, dI) vwCl [(h0, .inr (1, [.null, .null, .int 0, .int 0]))] U.heap ∧ va_K (dC, dI) vwCl [] U ∧ va_D (fun _ => True) [(h0, .inr (1, [.null, .null, .int 0, .int 0]))]) ∧ va_AO "JointAnnuity$Annuity" U)) (va_Qv (fun u : ClassId × ClassId × (Nat → Nat) => u.2.2 0 = h0) (fun u t => va_P (dC, dI) vwCl [(u.2.2 0, .inr (1, [.ref (u.2.2 1), .ref (u.2.2 2), .int (nI 0), .int (nI 0)])), ((u.2.2 1), .inl (u.2.1, 20, .inr (.inr (.inr (.inr (fun _ => none)))))), ((u.2.2 2), .inl (u.1, 20, .inl (fun _ => 0)))] t.heap ∧ va_K (dC, dI) vwCl [(u.2.1, .object "JointAnnuity$Annuity"), (u.1, .int)] t ∧ va_D (va_A [(h0, .inr (1, [.null, .null, .int 0, .int 0]))] sz) [(u.2.2 0, .inr (1, [.ref (u.2.2 1), .ref (u.2.2 2), .int (nI 0), .int (nI 0)])), ((u.2.2 1), .inl (u.2.1, 20, .inr (.inr (.inr (.inr (fun _ => none)))))), ((u.2.2 2), .inl (u.1, 20, .inl (fun _ => 0)))]) (va_A [(h0, .inr (1, [.null, .null, .int 0, .int 0]))] sz)) 2 40 (va_A [(h0, .inr (1, [.null, .null, .int 0, .int 0]))] sz) := by
  refine j_of (cc := cX1_init) (maxL := 1) (ret := none) (by decide) rfl (Nat.le_of_ble_eq_true rfl) ?_
  intro p e s m below meth c ls hx hb hr hml hts hown hlocks hnm hl hpre
  have hown : s.vm.findClass RX1 = some m.cls := hown
  have hl : lv_has ls 1 [(0, .ref h0)] := hl
  have hin : meth.name = "<init>" := hnm
  obtain ⟨⟨hsz, hP, hK, hD0⟩, hao⟩ := hpre
  subst hsz
  have hD := hD0.self (sz := s.heap.size)
  generalize hAe : va_A [(h0, .inr (1, [.null, .null, .int 0, .int 0]))] s.heap.size = A at hD ⊢
  have hA : ∀ q : Nat, s.heap.size ≤ q → A q := fun q h => by rw [← hAe]; exact Or.inr h
  have hS : va_S A s.heap s.heap [] := va_S.rf
  refine lv_aload_n hx hb dX1_init_0 rfl (lv_at hl 0 rfl) ?_
  refine W.objInit hx hb hown (hts (.methodLink RX1 3 objectInit) (List.mem_of_getElem? (i := 1) rfl)) (hts (.instanceMethod objectInit) (List.mem_of_getElem? (i := 2) rfl)) (hts _ (List.mem_of_getElem? (i := 3) rfl)) rfl (by rw [hml]; exact hl.1) rfl dX1_init_1 (Nat.le_of_ble_eq_true rfl) (Nat.le_of_ble_eq_true rfl) ?_
  refine W.eq (g2 := F0 m 4 ls []) rfl ?_
  refine lv_aload_n hx hb dX1_init_4 rfl (lv_at hl 0 rfl) ?_
  refine lv_bipush (v := nI 20) hx hb dX1_init_5 (by decide) ?_
  refine va_newq (own := RX1) (C := "JointAnnuity$Annuity") (N' := 20) hx hb hown (hts (.classLink RX1 9 RX0) (List.mem_of_getElem? (i := 4) rfl)) hao hK hP hD hS hA (nI_pos (by omega)) (nI_clamp (by omega)) (by decide) (Nat.le_of_ble_eq_true rfl) (Nat.le_of_ble_eq_true rfl) dX1_init_7 (fun q7 cO H hK hP hD hS => ?_)
  have hP : va_P (dC, dI) vwCl [(h0, .inr (1, [.null, .null, .int 0, .int 0])), (q7, .inl (cO, 20, .inr (.inr (.inr (.inr (fun _ => none))))))] H := hP
  have hD : va_D A [(h0, .inr (1, [.null, .null, .int 0, .int 0])), (q7, .inl (cO, 20, .inr (.inr (.inr (.inr (fun _ => none))))))] := hD
  refine va_putF (D := (dC, dI)) (ci := 1) (v := .ref q7) (ty := .array (.object "JointAnnuity$Annuity")) (C := RX1) (T := TX1) (N := 4) hx hb hts (fun _ h => List.mem_cons_of_mem _ (List.mem_append_right _ h)) tyX1 tyX1_ok nmX1 hown hK hP hD hS 0 rfl rfl 0 (by decide) (hts (.fieldLink RX1 11 "JointAnnuity" "annuities" "[LJointAnnuity$Annuity;") (List.mem_of_getElem? (i := 5) rfl)) (fun _ h9 => h9) rfl hin rfl (by decide +kernel) rfl rfl (Nat.le_of_ble_eq_true rfl) dX1_init_10 (fun H locs hP hD hS => ?_)
  have hP : va_P (dC, dI) vwCl [(h0, .inr (1, [.ref q7, .null, .int 0, .int 0])), (q7, .inl (cO, 20, .inr (.inr (.inr (.inr (fun _ => none))))))] H := hP
  have hD : va_D A [(h0, .inr (1, [.ref q7, .null, .int 0, .int 0])), (q7, .inl (cO, 20, .inr (.inr (.inr (.inr (fun _ => none))))))] := hD
  refine lv_aload_n hx hb dX1_init_13 rfl (lv_at hl 0 rfl) ?_
  refine lv_bipush (v := nI 20) hx hb dX1_init_14 (by decide) ?_
  refine va_newa (atype := .int) (ty := .int) (N' := 20) (a0 := (20, .inl (fun _ => 0))) hx hb (hts (.arrayClass .int) (List.mem_of_getElem? (i := 6) rfl)) rfl hK hP hD hS hA (fun _ => rfl) (nI_pos (by omega)) (nI_clamp (by omega)) (by decide) (Nat.le_of_ble_eq_true rfl) (Nat.le_of_ble_eq_true rfl) dX1_init_16 (fun q16 cI H hK hP hD hS => ?_)
  have hP : va_P (dC, dI) vwCl [(h0, .inr (1, [.ref q7, .null, .int 0, .int 0])), (q7, .inl (cO, 20, .inr (.inr (.inr (.inr (fun _ => none)))))), (q16, .inl (cI, 20, .inl (fun _ => 0)))] H := hP
  have hD : va_D A [(h0, .inr (1, [.ref q7, .null, .int 0, .int 0])), (q7, .inl (cO, 20, .inr (.inr (.inr (.inr (fun _ => none)))))), (q16, .inl (cI, 20, .inl (fun _ => 0)))] := hD
  refine va_putF (D := (dC, dI)) (ci := 1) (v := .ref q16) (ty := .array .int) (C := RX1) (T := TX1) (N := 4) hx hb hts (fun _ h => List.mem_cons_of_mem _ (List.mem_append_right _ h)) tyX1 tyX1_ok nmX1 hown hK hP hD hS 0 rfl rfl 1 (by decide) (hts (.fieldLink RX1 15 "JointAnnuity" "inflation" "[I") (List.mem_of_getElem? (i := 7) rfl)) (fun _ h9 => h9) rfl hin rfl (by decide +kernel) rfl rfl (Nat.le_of_ble_eq_true rfl) dX1_init_18 (fun H locs hP hD hS => ?_)
  have hP : va_P (dC, dI) vwCl [(h0, .inr (1, [.ref q7, .ref q16, .int 0, .int 0])), (q7, .inl (cO, 20, .inr (.inr (.inr (.inr (fun _ => none)))))), (q16, .inl (cI, 20, .inl (fun _ => 0)))] H := hP
  have hD : va_D A [(h0, .inr (1, [.ref q7, .ref q16, .int 0, .int 0])), (q7, .inl (cO, 20, .inr (.inr (.inr (.inr (fun _ => none)))))), (q16, .inl (cI, 20, .inl (fun _ => 0)))] := hD
  refine lv_aload_n hx hb dX1_init_21 rfl (lv_at hl 0 rfl) ?_
  refine lv_iconst (v := nI 0) hx hb dX1_init_22 (by decide) ?_
  refine va_put (D := (dC, dI)) (ci := 1) (v := .int (nI 0)) (ty := .int) (C := RX1) (T := TX1) (N := 4) hx hb hts (fun _ h => List.mem_cons_of_mem _ (List.mem_append_right _ h)) tyX1 tyX1_ok nmX1 hown hK hP hD hS 0 rfl rfl 2 (by decide) (hts (.fieldLink RX1 19 "JointAnnuity" "count" "I") (List.mem_of_getElem? (i := 8) rfl)) (fun _ h9 => h9) rfl (by decide +kernel) rfl rfl (Nat.le_of_ble_eq_true rfl) dX1_init_23 (fun H locs hP hD hS => ?_)
  have hP : va_P (dC, dI) vwCl [(h0, .inr (1, [.ref q7, .ref q16, .int (nI 0), .int 0])), (q7, .inl (cO, 20, .inr (.inr (.inr (.inr (fun _ => none)))))), (q16, .inl (cI, 20, .inl (fun _ => 0)))] H := hP
  have hD : va_D A [(h0, .inr (1, [.ref q7, .ref q16, .int (nI 0), .int 0])), (q7, .inl (cO, 20, .inr (.inr (.inr (.inr (fun _ => none)))))), (q16, .inl (cI, 20, .inl (fun _ => 0)))] := hD
  refine lv_aload_n hx hb dX1_init_26 rfl (lv_at hl 0 rfl) ?_
  refine lv_iconst (v := nI 0) hx hb dX1_init_27 (by decide) ?_
  refine va_put (D := (dC, dI)) (ci := 1) (v := .int (nI 0)) (ty := .int) (C := RX1) (T := TX1) (N := 4) hx hb hts (fun _ h => List.mem_cons_of_mem _ (List.mem_append_right _ h)) tyX1 tyX1_ok nmX1 hown hK hP hD hS 0 rfl rfl 3 (by decide) (hts (.fieldLink RX1 23 "JointAnnuity" "monthThatGoesOn" "I") (List.mem_of_getElem? (i := 9) rfl)) (fun _ h9 => h9) rfl (by decide +kernel) rfl rfl (Nat.le_of_ble_eq_true rfl) dX1_init_28 (fun H locs hP hD hS => ?_)
  have hP : va_P (dC, dI) vwCl [(h0, .inr (1, [.ref q7, .ref q16, .int (nI 0), .int (nI 0)])), (q7, .inl (cO, 20, .inr (.inr (.inr (.inr (fun _ => none)))))), (q16, .inl (cI, 20, .inl (fun _ => 0)))] H := hP
  have hD : va_D A [(h0, .inr (1, [.ref q7, .ref q16, .int (nI 0), .int (nI 0)])), (q7, .inl (cO, 20, .inr (.inr (.inr (.inr (fun _ => none)))))), (q16, .inl (cI, 20, .inl (fun _ => 0)))] := hD
  have hP : va_P (dC, dI) vwCl [(h0, .inr (1, [.ref q7, .ref q16, .int (nI 0), .int (nI 0)])), (q7, .inl (cO, 20, .inr (.inr (.inr (.inr (fun _ => none)))))), (q16, .inl (cI, 20, .inl (fun _ => 0)))] H := hP
  have hD : va_D A [(h0, .inr (1, [.ref q7, .ref q16, .int (nI 0), .int (nI 0)])), (q7, .inl (cO, 20, .inr (.inr (.inr (.inr (fun _ => none)))))), (q16, .inl (cI, 20, .inl (fun _ => 0)))] := hD.addr rfl
  exact W.vret hx hb hr (fun t ht hW => ⟨⟨(cI, cO, fun i => match i with | 0 => h0 | 1 => q7 | _ => q16), rfl, rfl, by rw [ht]; exact hP, va_K.moved hW.alike hK, hD⟩, hS.F ht⟩) hS.2.2 dX1_init_31
set_option maxHeartbeats 4000000 in
set_option maxRecDepth 100000 in
/-- an annuity is added -/
theorem c_X1_add (l : Launch) (dC : Nat → ClassId) (dI : Nat → Nat → Nat) (cI cJ cZ cO : ClassId) (ax : Nat → Nat) (ao : Nat → Option Nat) (n mo : Nat) (iv : Nat → Int32) (sz sa ma ga : Nat) (hn : n < 20) (hs1 : mo ≤ sa) (hs2 : sa < 240) (h0 : 1 ≤ ma) (h1 : ma ≤ 100000) (h2 : ga ≤ 240) : Met l yX1_add wsX1_add ({ frames := 2, cells := 5, slots := 295, locals := 41 }) (va_Pc [.ref (ax 0), .int (nI sa), .int (nI ma), .int (nI ga)] (fun U => U.heap.size = sz ∧ va_P (dC, dI) vwCl (jX3 cI cO ax ao n mo iv) U.heap ∧ va_K (dC, dI) vwCl (jTY cI cJ cZ cO) U ∧ va_D (fun _ => True) (jX3 cI cO ax ao n mo iv))) (va_Qi (fun r (_ : Nat → Nat) => r = nI n) (fun u t => va_P (dC, dI) vwCl (jFW cI cJ cO ax (va_up ao n (some (u 0))) (n + 1) mo iv u (jN sa ma ga) 0 (fun _ => 0)) t.heap ∧ va_D (va_A (jX3 cI cO ax ao n mo iv) sz) (jFW cI cJ cO ax (va_up ao n (some (u 0))) (n + 1) mo iv u (jN sa ma ga) 0 (fun _ => 0))) (va_A (jX3 cI cO ax ao n mo iv) sz)) 5 295 (va_A (jX3 cI cO ax ao n mo iv) sz) := by
  refine j_of (cc := cX1_add) (maxL := 5) (ret := (some .int)) (by decide) rfl (Nat.le_of_ble_eq_true rfl) ?_
  intro p e s m below meth c ls hx hb hr hml hts hown hlocks hnm hl hpre
  have hown : s.vm.findClass RX1 = some m.cls := hown
  have hl : lv_has ls 5 [(0, .ref (ax 0)), (1, .int (nI sa)), (2, .int (nI ma)), (3, .int (nI ga))] := hl
  obtain ⟨hsz, hP, hK, hD0⟩ := hpre
  subst hsz
  have hD := hD0.self (sz := s.heap.size)
  generalize hAe : va_A (jX3 cI cO ax ao n mo iv) s.heap.size = A at hD ⊢
  have hA : ∀ q : Nat, s.heap.size ≤ q → A q := fun q h => by rw [← hAe]; exact Or.inr h
  have hS : va_S A s.heap s.heap [] := va_S.rf
  refine lv_iload_n hx hb dX1_add_0 rfl (lv_at hl 1 rfl) ?_
  refine lv_aload_n hx hb dX1_add_1 rfl (lv_at hl 0 rfl) ?_
  refine va_get (D := (dC, dI)) (ci := 1) (v := .int (nI mo)) (C := RX1) (T := TX1) (N := 4) hx hb hts (fun _ h => List.mem_cons_of_mem _ (List.mem_append_left _ (List.mem_append_left _ (List.mem_append_left _ (List.mem_append_right _ h))))) hown hK hP 0 rfl rfl 3 (by decide) (hts (.fieldLink RX1 23 "JointAnnuity" "monthThatGoesOn" "I") (List.mem_of_getElem? (i := 3) rfl)) (fun _ h9 => h9) rfl dX1_add_2 ?_
  refine lv_sipush (v := nI 239) hx hb dX1_add_5 (by decide) ?_
  refine j_sV (As := [.int (nI sa), .int (nI mo), .int (nI 239)]) (rest := []) ⟨hx, hb, hml, hown, hts⟩ (c_X1_requireRange l dC dI (nI sa) (nI mo) (nI 239) (nI_nlt (by omega) (by omega)) (nI_nlt (by omega) (by omega))) (cwS 3 hts gX1_add_X1_requireRange rfl rfl rfl (by decide +kernel) ⟨Nat.le_of_ble_eq_true rfl, Nat.le_of_ble_eq_true rfl⟩) rfl hl rfl (Nat.le_of_ble_eq_true rfl) dX1_add_8 ⟨Nat.le_of_ble_eq_true rfl, Nat.le_of_ble_eq_true rfl⟩ ?_
  refine lv_iload_n hx hb dX1_add_11 rfl (lv_at hl 2 rfl) ?_
  refine lv_iconst (v := nI 1) hx hb dX1_add_12 (by decide) ?_
  refine lv_ldc hx hb hown (hts (.constant RX1 30 (100000)) (List.mem_of_getElem? (i := 4) rfl)) dX1_add_13 ?_
  refine j_i (y := nI 100000) (by decide +kernel) ?_
  refine j_sV (As := [.int (nI ma), .int (nI 1), .int (nI 100000)]) (rest := []) ⟨hx, hb, hml, hown, hts⟩ (c_X1_requireRange l dC dI (nI ma) (nI 1) (nI 100000) (nI_nlt (by omega) (by omega)) (nI_nlt (by omega) (by omega))) (cwS 3 hts gX1_add_X1_requireRange rfl rfl rfl (by decide +kernel) ⟨Nat.le_of_ble_eq_true rfl, Nat.le_of_ble_eq_true rfl⟩) rfl hl rfl (Nat.le_of_ble_eq_true rfl) dX1_add_15 ⟨Nat.le_of_ble_eq_true rfl, Nat.le_of_ble_eq_true rfl⟩ ?_
  refine lv_iload_n hx hb dX1_add_18 rfl (lv_at hl 3 rfl) ?_
  refine lv_iconst (v := nI 0) hx hb dX1_add_19 (by decide) ?_
  refine lv_sipush (v := nI 240) hx hb dX1_add_20 (by decide) ?_
  refine j_sV (As := [.int (nI ga), .int (nI 0), .int (nI 240)]) (rest := []) ⟨hx, hb, hml, hown, hts⟩ (c_X1_requireRange l dC dI (nI ga) (nI 0) (nI 240) (nI_nlt (by omega) (by omega)) (nI_nlt (by omega) (by omega))) (cwS 3 hts gX1_add_X1_requireRange rfl rfl rfl (by decide +kernel) ⟨Nat.le_of_ble_eq_true rfl, Nat.le_of_ble_eq_true rfl⟩) rfl hl rfl (Nat.le_of_ble_eq_true rfl) dX1_add_23 ⟨Nat.le_of_ble_eq_true rfl, Nat.le_of_ble_eq_true rfl⟩ ?_
  refine lv_aload_n hx hb dX1_add_26 rfl (lv_at hl 0 rfl) ?_
  refine va_get (D := (dC, dI)) (ci := 1) (v := .int (nI n)) (C := RX1) (T := TX1) (N := 4) hx hb hts (fun _ h => List.mem_cons_of_mem _ (List.mem_append_left _ (List.mem_append_left _ (List.mem_append_left _ (List.mem_append_right _ h))))) hown hK hP 0 rfl rfl 2 (by decide) (hts (.fieldLink RX1 19 "JointAnnuity" "count" "I") (List.mem_of_getElem? (i := 5) rfl)) (fun _ h9 => h9) rfl dX1_add_27 ?_
  refine lv_aload_n hx hb dX1_add_30 rfl (lv_at hl 0 rfl) ?_
  refine va_get (D := (dC, dI)) (ci := 1) (v := .ref (ax 1)) (C := RX1) (T := TX1) (N := 4) hx hb hts (fun _ h => List.mem_cons_of_mem _ (List.mem_append_left _ (List.mem_append_left _ (List.mem_append_left _ (List.mem_append_right _ h))))) hown hK hP 0 rfl rfl 0 (by decide) (hts (.fieldLink RX1 11 "JointAnnuity" "annuities" "[LJointAnnuity$Annuity;") (List.mem_of_getElem? (i := 6) rfl)) (fun _ h9 => h9) rfl dX1_add_31 ?_
  refine va_alen hx hb hK hP 1 3 (v := nI 20) rfl rfl rfl dX1_add_34 ?_
  refine lv_icmp_lt (tgt := 48) hx hb dX1_add_35 (by decide) (fun c_35 => ?_) (fun c_35 => ?_)
  · have c_35 : n < 20 := (nI_ltI (a := n) (b := 20) (by omega) (by omega)).mp c_35
    refine va_new (ci := 0) (fs := [.int 0, .int 0, .int 0, .int 0, .int 0, .int 0, .int 0, .int 0, .null, .null, .null, .null, .long 0]) (C := RX0) (T := TX0) (N := 13) hx hb hts (fun _ h => List.mem_cons_of_mem _ (List.mem_append_left _ (List.mem_append_left _ (List.mem_append_right _ h)))) tyX0 tyX0_ok hown (hts (.classLink RX1 9 RX0) (List.mem_of_getElem? (i := 7) rfl)) (hts (.instantiable RX0 13) (List.mem_of_getElem? (i := 8) rfl)) (hts (.initialized RX0) (List.mem_of_getElem? (i := 9) rfl)) hK hP hD hS hA rfl (fun j hj => match j, hj with
      | 0, _ => rfl
      | 1, _ => rfl
      | 2, _ => rfl
      | 3, _ => rfl
      | 4, _ => rfl
      | 5, _ => rfl
      | 6, _ => rfl
      | 7, _ => rfl
      | 8, _ => rfl
      | 9, _ => rfl
      | 10, _ => rfl
      | 11, _ => rfl
      | 12, _ => rfl
      | _ + 13, h => absurd h (Nat.not_lt.mpr (Nat.le_add_left _ _))) (Nat.le_of_ble_eq_true rfl) (Nat.le_of_ble_eq_true rfl) dX1_add_48 (fun q48 H hP hD hS => ?_)
    have hP : va_P (dC, dI) vwCl [((ax 0), .inr (1, [.ref (ax 1), .ref (ax 2), .int (nI n), .int (nI mo)])), ((ax 1), .inl (cO, 20, .inr (.inr (.inr (.inr (ao)))))), ((ax 2), .inl (cI, 20, .inl (iv))), (q48, .inr (0, [.int 0, .int 0, .int 0, .int 0, .int 0, .int 0, .int 0, .int 0, .null, .null, .null, .null, .long 0]))] H := hP
    have hD : va_D A [((ax 0), .inr (1, [.ref (ax 1), .ref (ax 2), .int (nI n), .int (nI mo)])), ((ax 1), .inl (cO, 20, .inr (.inr (.inr (.inr (ao)))))), ((ax 2), .inl (cI, 20, .inl (iv))), (q48, .inr (0, [.int 0, .int 0, .int 0, .int 0, .int 0, .int 0, .int 0, .int 0, .null, .null, .null, .null, .long 0]))] := hD
    refine lv_dup hx hb dX1_add_51 rfl ?_
    refine lv_iload_n hx hb dX1_add_52 rfl (lv_at hl 1 rfl) ?_
    refine lv_iload_n hx hb dX1_add_53 rfl (lv_at hl 2 rfl) ?_
    refine lv_iload_n hx hb dX1_add_54 rfl (lv_at hl 3 rfl) ?_
    have hPc := hP.sub (ws' := [(q48, .inr (0, [.int 0, .int 0, .int 0, .int 0, .int 0, .int 0, .int 0, .int 0, .null, .null, .null, .null, .long 0]))]) [3] rfl
    have hDc := hD.sub (ws' := [(q48, .inr (0, [.int 0, .int 0, .int 0, .int 0, .int 0, .int 0, .int 0, .int 0, .null, .null, .null, .null, .long 0]))]) [3] (by decide) rfl
    have hFc := va_free (wc := [(q48, .inr (0, [.int 0, .int 0, .int 0, .int 0, .int 0, .int 0, .int 0, .int 0, .null, .null, .null, .null, .long 0]))]) hD hS hA [3] rfl
    refine va_callv (va_runI (As := [.int (nI sa), .int (nI ma), .int (nI ga)]) (rest := [.ref q48]) ⟨hx, hb, hml, hown, hts⟩ (c_X0_init l dC dI cI cJ cZ cO q48 H.size sa ma ga) (cwI 3 hts gX1_add_X0_init rfl rfl rfl (hts (.initialized RX0) (List.mem_of_getElem? (i := 9) rfl)) (hts (.methodLink RX1 38 yX0_init) (List.mem_of_getElem? (i := 17) rfl)) (hts (.instanceMethod yX0_init) (List.mem_of_getElem? (i := 18) rfl)) rfl (by decide +kernel) ⟨Nat.le_of_ble_eq_true rfl, Nat.le_of_ble_eq_true rfl⟩) ⟨fun a U g mk q => ⟨q.1, q.2.1, q.2.2.1, j_calls q.2.2.2.1, q.2.2.2.2⟩, fun U hU hW => ⟨rfl, by rw [hU], by rw [hU]; exact hPc, va_K.moved hW.alike hK, hDc.weaken (fun _ _ _ _ => trivial)⟩⟩ rfl rfl hl.1 rfl (lv_room (Nat.le_of_ble_eq_true rfl)) dX1_add_55 ⟨Nat.le_of_ble_eq_true rfl, Nat.le_of_ble_eq_true rfl⟩) hS (fun q _ h => hFc q h) hFc (fun u t H1 locs ht hvm hw hB hz1 hk1 hS => ?_)
    obtain ⟨hP1, hD1⟩ := hB
    rw [ht] at hP1
    try dsimp only at hw
    subst hw
    obtain ⟨hP, hD⟩ := va_join (wr := [((ax 0), .inr (1, [.ref (ax 1), .ref (ax 2), .int (nI n), .int (nI mo)])), ((ax 1), .inl (cO, 20, .inr (.inr (.inr (.inr (ao)))))), ((ax 2), .inl (cI, 20, .inl (iv)))]) (w1 := [((u 0), .inr (0, [.int (nI ((jN sa ma ga) 0)), .int (nI ((jN sa ma ga) 1)), .int (nI ((jN sa ma ga) 0 + (jN sa ma ga) 2)), .int (nI ((jN sa ma ga) 3)), .int (nI ((jN sa ma ga) 4)), .int (nI ((jN sa ma ga) 5)), .int (nI ((jN sa ma ga) 6)), .int (nI ((jN sa ma ga) 7)), .ref (u 1), .ref (u 2), .ref (u 3), .ref (u 4), .long 0])), ((u 1), .inl (cI, 2, .inl (fun j => nI (if j = 0 then (jN sa ma ga) 8 else (jN sa ma ga) 9)))), ((u 2), .inl (cI, 20, .inl (fun _ => 0))), ((u 3), .inl (cI, 20, .inl (fun _ => 0))), ((u 4), .inl (cJ, 240, .inr (.inl (fun _ => 0))))]) hP hD [3] [0, 1, 2] rfl rfl (by decide) (by decide) hk1 hFc hP1 hD1
    generalize H1 = H at hP hS ⊢
    have hP : va_P (dC, dI) vwCl [((ax 0), .inr (1, [.ref (ax 1), .ref (ax 2), .int (nI n), .int (nI mo)])), ((ax 1), .inl (cO, 20, .inr (.inr (.inr (.inr (ao)))))), ((ax 2), .inl (cI, 20, .inl (iv))), ((u 0), .inr (0, [.int (nI ((jN sa ma ga) 0)), .int (nI ((jN sa ma ga) 1)), .int (nI ((jN sa ma ga) 0 + (jN sa ma ga) 2)), .int (nI ((jN sa ma ga) 3)), .int (nI ((jN sa ma ga) 4)), .int (nI ((jN sa ma ga) 5)), .int (nI ((jN sa ma ga) 6)), .int (nI ((jN sa ma ga) 7)), .ref (u 1), .ref (u 2), .ref (u 3), .ref (u 4), .long 0])), ((u 1), .inl (cI, 2, .inl (fun j => nI (if j = 0 then (jN sa ma ga) 8 else (jN sa ma ga) 9)))), ((u 2), .inl (cI, 20, .inl (fun _ => 0))), ((u 3), .inl (cI, 20, .inl (fun _ => 0))), ((u 4), .inl (cJ, 240, .inr (.inl (fun _ => 0))))] H := hP
    have hD : va_D A [((ax 0), .inr (1, [.ref (ax 1), .ref (ax 2), .int (nI n), .int (nI mo)])), ((ax 1), .inl (cO, 20, .inr (.inr (.inr (.inr (ao)))))), ((ax 2), .inl (cI, 20, .inl (iv))), ((u 0), .inr (0, [.int (nI ((jN sa ma ga) 0)), .int (nI ((jN sa ma ga) 1)), .int (nI ((jN sa ma ga) 0 + (jN sa ma ga) 2)), .int (nI ((jN sa ma ga) 3)), .int (nI ((jN sa ma ga) 4)), .int (nI ((jN sa ma ga) 5)), .int (nI ((jN sa ma ga) 6)), .int (nI ((jN sa ma ga) 7)), .ref (u 1), .ref (u 2), .ref (u 3), .ref (u 4), .long 0])), ((u 1), .inl (cI, 2, .inl (fun j => nI (if j = 0 then (jN sa ma ga) 8 else (jN sa ma ga) 9)))), ((u 2), .inl (cI, 20, .inl (fun _ => 0))), ((u 3), .inl (cI, 20, .inl (fun _ => 0))), ((u 4), .inl (cJ, 240, .inr (.inl (fun _ => 0))))] := hD
    refine lv_astore (lv' := [(4, .ref (u 0)), (0, .ref (ax 0)), (1, .int (nI sa)), (2, .int (nI ma)), (3, .int (nI ga))]) hx hb dX1_add_58 hl (by decide) rfl (fun ls hl => ?_)
    refine lv_aload hx hb dX1_add_60 (lv_at hl 0 rfl) ?_
    refine lv_aload_n hx hb dX1_add_62 rfl (lv_at hl 1 rfl) ?_
    refine va_get (D := (dC, dI)) (ci := 1) (v := .ref (ax 2)) (C := RX1) (T := TX1) (N := 4) hx hb hts (fun _ h => List.mem_cons_of_mem _ (List.mem_append_left _ (List.mem_append_left _ (List.mem_append_left _ (List.mem_append_right _ h))))) hown hK hP 0 rfl rfl 1 (by decide) (hts (.fieldLink RX1 15 "JointAnnuity" "inflation" "[I") (List.mem_of_getElem? (i := 10) rfl)) (fun _ h9 => h9) rfl dX1_add_63 ?_
    refine j_wV (As := [.ref (ax 2)]) (rest := []) ⟨hx, hb, hml, hown, hts⟩ (c_X0_growBy l dC dI cI cJ cZ cO u (jN sa ma ga) iv 0 (ax 2) (fun _ => 0) (fun _ => 0) (jVN hs2 h1 h2)) (cwV 1 hts gX1_add_X0_growBy rfl rfl rfl (by decide +kernel) ⟨Nat.le_of_ble_eq_true rfl, Nat.le_of_ble_eq_true rfl⟩) (jW_V hK hP hD [3, 5, 6, 2] (by decide) rfl (ci := 0) (q0 := 3) rfl rfl rfl) rfl hl rfl (Nat.le_of_ble_eq_true rfl) dX1_add_66 ⟨Nat.le_of_ble_eq_true rfl, Nat.le_of_ble_eq_true rfl⟩ hP hD hS [3, 5, 6, 2] [0, 1, 4, 7] rfl (fun _ : Unit => [((ax 0), .inr (1, [.ref (ax 1), .ref (ax 2), .int (nI n), .int (nI mo)])), ((ax 1), .inl (cO, 20, .inr (.inr (.inr (.inr (ao)))))), ((ax 2), .inl (cI, 20, .inl (iv))), ((u 0), .inr (0, [.int (nI ((jN sa ma ga) 0)), .int (nI ((jN sa ma ga) 1)), .int (nI ((jN sa ma ga) 0 + (jN sa ma ga) 2)), .int (nI ((jN sa ma ga) 3)), .int (nI ((jN sa ma ga) 4)), .int (nI ((jN sa ma ga) 5)), .int (nI ((jN sa ma ga) 6)), .int (nI ((jN sa ma ga) 7)), .ref (u 1), .ref (u 2), .ref (u 3), .ref (u 4), .long 0])), ((u 1), .inl (cI, 2, .inl (fun j => nI (if j = 0 then (jN sa ma ga) 8 else (jN sa ma ga) 9)))), ((u 2), .inl (cI, 20, .inl (fun j => nI (jF (jN sa ma ga) iv j)))), ((u 3), .inl (cI, 20, .inl (fun j => jC (jN sa ma ga) iv j))), ((u 4), .inl (cJ, 240, .inr (.inl (fun _ => 0))))]) (fun _ => rfl) [(ax 0), (ax 1), (ax 2), (u 0), (u 1), (u 2), (u 3), (u 4)] rfl (fun _ => rfl) [((ax 0), .inr (1, [.ref (ax 1), .ref (ax 2), .int (nI n), .int (nI mo)])), ((ax 1), .inl (cO, 20, .inr (.inr (.inr (.inr (ao)))))), ((u 1), .inl (cI, 2, .inl (fun j => nI (if j = 0 then (jN sa ma ga) 8 else (jN sa ma ga) 9)))), ((u 4), .inl (cJ, 240, .inr (.inl (fun _ => 0))))] rfl (fun _ => rfl) (fun _ i hi => j_cov _ _ 8 (by decide) i hi) (fun _ H locs hr_66 hP hD hS => ?_)
    have hP : va_P (dC, dI) vwCl [((ax 0), .inr (1, [.ref (ax 1), .ref (ax 2), .int (nI n), .int (nI mo)])), ((ax 1), .inl (cO, 20, .inr (.inr (.inr (.inr (ao)))))), ((ax 2), .inl (cI, 20, .inl (iv))), ((u 0), .inr (0, [.int (nI ((jN sa ma ga) 0)), .int (nI ((jN sa ma ga) 1)), .int (nI ((jN sa ma ga) 0 + (jN sa ma ga) 2)), .int (nI ((jN sa ma ga) 3)), .int (nI ((jN sa ma ga) 4)), .int (nI ((jN sa ma ga) 5)), .int (nI ((jN sa ma ga) 6)), .int (nI ((jN sa ma ga) 7)), .ref (u 1), .ref (u 2), .ref (u 3), .ref (u 4), .long 0])), ((u 1), .inl (cI, 2, .inl (fun j => nI (if j = 0 then (jN sa ma ga) 8 else (jN sa ma ga) 9)))), ((u 2), .inl (cI, 20, .inl (fun j => nI (jF (jN sa ma ga) iv j)))), ((u 3), .inl (cI, 20, .inl (fun j => jC (jN sa ma ga) iv j))), ((u 4), .inl (cJ, 240, .inr (.inl (fun _ => 0))))] H := hP
    have hD : va_D A [((ax 0), .inr (1, [.ref (ax 1), .ref (ax 2), .int (nI n), .int (nI mo)])), ((ax 1), .inl (cO, 20, .inr (.inr (.inr (.inr (ao)))))), ((ax 2), .inl (cI, 20, .inl (iv))), ((u 0), .inr (0, [.int (nI ((jN sa ma ga) 0)), .int (nI ((jN sa ma ga) 1)), .int (nI ((jN sa ma ga) 0 + (jN sa ma ga) 2)), .int (nI ((jN sa ma ga) 3)), .int (nI ((jN sa ma ga) 4)), .int (nI ((jN sa ma ga) 5)), .int (nI ((jN sa ma ga) 6)), .int (nI ((jN sa ma ga) 7)), .ref (u 1), .ref (u 2), .ref (u 3), .ref (u 4), .long 0])), ((u 1), .inl (cI, 2, .inl (fun j => nI (if j = 0 then (jN sa ma ga) 8 else (jN sa ma ga) 9)))), ((u 2), .inl (cI, 20, .inl (fun j => nI (jF (jN sa ma ga) iv j)))), ((u 3), .inl (cI, 20, .inl (fun j => jC (jN sa ma ga) iv j))), ((u 4), .inl (cJ, 240, .inr (.inl (fun _ => 0))))] := hD
    refine lv_aload_n hx hb dX1_add_69 rfl (lv_at hl 1 rfl) ?_
    refine va_get (D := (dC, dI)) (ci := 1) (v := .ref (ax 1)) (C := RX1) (T := TX1) (N := 4) hx hb hts (fun _ h => List.mem_cons_of_mem _ (List.mem_append_left _ (List.mem_append_left _ (List.mem_append_left _ (List.mem_append_right _ h))))) hown hK hP 0 rfl rfl 0 (by decide) (hts (.fieldLink RX1 11 "JointAnnuity" "annuities" "[LJointAnnuity$Annuity;") (List.mem_of_getElem? (i := 6) rfl)) (fun _ h9 => h9) rfl dX1_add_70 ?_
    refine lv_aload_n hx hb dX1_add_73 rfl (lv_at hl 1 rfl) ?_
    refine va_get (D := (dC, dI)) (ci := 1) (v := .int (nI n)) (C := RX1) (T := TX1) (N := 4) hx hb hts (fun _ h => List.mem_cons_of_mem _ (List.mem_append_left _ (List.mem_append_left _ (List.mem_append_left _ (List.mem_append_right _ h))))) hown hK hP 0 rfl rfl 2 (by decide) (hts (.fieldLink RX1 19 "JointAnnuity" "count" "I") (List.mem_of_getElem? (i := 5) rfl)) (fun _ h9 => h9) rfl dX1_add_74 ?_
    refine lv_aload hx hb dX1_add_77 (lv_at hl 0 rfl) ?_
    refine va_astq hx hb hK hP hD hS 1 3 3 0 (f := ao) rfl rfl rfl rfl (vp_in_nI (n := n) (N := 20) (by omega) (by omega)) dX1_add_79 (fun H locs hP hD hS => ?_)
    rw [nI_clamp (show n < 2 ^ 31 by omega)] at hP hD
    have hP : va_P (dC, dI) vwCl [((ax 0), .inr (1, [.ref (ax 1), .ref (ax 2), .int (nI n), .int (nI mo)])), ((ax 1), .inl (cO, 20, .inr (.inr (.inr (.inr (va_up ao n (some (u 0)))))))), ((ax 2), .inl (cI, 20, .inl (iv))), ((u 0), .inr (0, [.int (nI ((jN sa ma ga) 0)), .int (nI ((jN sa ma ga) 1)), .int (nI ((jN sa ma ga) 0 + (jN sa ma ga) 2)), .int (nI ((jN sa ma ga) 3)), .int (nI ((jN sa ma ga) 4)), .int (nI ((jN sa ma ga) 5)), .int (nI ((jN sa ma ga) 6)), .int (nI ((jN sa ma ga) 7)), .ref (u 1), .ref (u 2), .ref (u 3), .ref (u 4), .long 0])), ((u 1), .inl (cI, 2, .inl (fun j => nI (if j = 0 then (jN sa ma ga) 8 else (jN sa ma ga) 9)))), ((u 2), .inl (cI, 20, .inl (fun j => nI (jF (jN sa ma ga) iv j)))), ((u 3), .inl (cI, 20, .inl (fun j => jC (jN sa ma ga) iv j))), ((u 4), .inl (cJ, 240, .inr (.inl (fun _ => 0))))] H := hP
    have hD : va_D A [((ax 0), .inr (1, [.ref (ax 1), .ref (ax 2), .int (nI n), .int (nI mo)])), ((ax 1), .inl (cO, 20, .inr (.inr (.inr (.inr (va_up ao n (some (u 0)))))))), ((ax 2), .inl (cI, 20, .inl (iv))), ((u 0), .inr (0, [.int (nI ((jN sa ma ga) 0)), .int (nI ((jN sa ma ga) 1)), .int (nI ((jN sa ma ga) 0 + (jN sa ma ga) 2)), .int (nI ((jN sa ma ga) 3)), .int (nI ((jN sa ma ga) 4)), .int (nI ((jN sa ma ga) 5)), .int (nI ((jN sa ma ga) 6)), .int (nI ((jN sa ma ga) 7)), .ref (u 1), .ref (u 2), .ref (u 3), .ref (u 4), .long 0])), ((u 1), .inl (cI, 2, .inl (fun j => nI (if j = 0 then (jN sa ma ga) 8 else (jN sa ma ga) 9)))), ((u 2), .inl (cI, 20, .inl (fun j => nI (jF (jN sa ma ga) iv j)))), ((u 3), .inl (cI, 20, .inl (fun j => jC (jN sa ma ga) iv j))), ((u 4), .inl (cJ, 240, .inr (.inl (fun _ => 0))))] := hD
    refine lv_aload_n hx hb dX1_add_80 rfl (lv_at hl 1 rfl) ?_
    refine lv_dup hx hb dX1_add_81 rfl ?_
    refine va_get (D := (dC, dI)) (ci := 1) (v := .int (nI n)) (C := RX1) (T := TX1) (N := 4) hx hb hts (fun _ h => List.mem_cons_of_mem _ (List.mem_append_left _ (List.mem_append_left _ (List.mem_append_left _ (List.mem_append_right _ h))))) hown hK hP 0 rfl rfl 2 (by decide) (hts (.fieldLink RX1 19 "JointAnnuity" "count" "I") (List.mem_of_getElem? (i := 5) rfl)) (fun _ h9 => h9) rfl dX1_add_82 ?_
    refine lv_iconst (v := nI 1) hx hb dX1_add_85 (by decide) ?_
    refine lv_iadd hx hb dX1_add_86 ?_
    refine j_i (y := nI (n + 1)) (nI_add _ _) ?_
    refine va_put (D := (dC, dI)) (ci := 1) (v := .int (nI (n + 1))) (ty := .int) (C := RX1) (T := TX1) (N := 4) hx hb hts (fun _ h => List.mem_cons_of_mem _ (List.mem_append_left _ (List.mem_append_left _ (List.mem_append_left _ (List.mem_append_right _ h))))) tyX1 tyX1_ok nmX1 hown hK hP hD hS 0 rfl rfl 2 (by decide) (hts (.fieldLink RX1 19 "JointAnnuity" "count" "I") (List.mem_of_getElem? (i := 5) rfl)) (fun _ h9 => h9) rfl (by decide +kernel) rfl rfl (Nat.le_of_ble_eq_true rfl) dX1_add_87 (fun H locs hP hD hS => ?_)
    have hP : va_P (dC, dI) vwCl [((ax 0), .inr (1, [.ref (ax 1), .ref (ax 2), .int (nI (n + 1)), .int (nI mo)])), ((ax 1), .inl (cO, 20, .inr (.inr (.inr (.inr (va_up ao n (some (u 0)))))))), ((ax 2), .inl (cI, 20, .inl (iv))), ((u 0), .inr (0, [.int (nI ((jN sa ma ga) 0)), .int (nI ((jN sa ma ga) 1)), .int (nI ((jN sa ma ga) 0 + (jN sa ma ga) 2)), .int (nI ((jN sa ma ga) 3)), .int (nI ((jN sa ma ga) 4)), .int (nI ((jN sa ma ga) 5)), .int (nI ((jN sa ma ga) 6)), .int (nI ((jN sa ma ga) 7)), .ref (u 1), .ref (u 2), .ref (u 3), .ref (u 4), .long 0])), ((u 1), .inl (cI, 2, .inl (fun j => nI (if j = 0 then (jN sa ma ga) 8 else (jN sa ma ga) 9)))), ((u 2), .inl (cI, 20, .inl (fun j => nI (jF (jN sa ma ga) iv j)))), ((u 3), .inl (cI, 20, .inl (fun j => jC (jN sa ma ga) iv j))), ((u 4), .inl (cJ, 240, .inr (.inl (fun _ => 0))))] H := hP
    have hD : va_D A [((ax 0), .inr (1, [.ref (ax 1), .ref (ax 2), .int (nI (n + 1)), .int (nI mo)])), ((ax 1), .inl (cO, 20, .inr (.inr (.inr (.inr (va_up ao n (some (u 0)))))))), ((ax 2), .inl (cI, 20, .inl (iv))), ((u 0), .inr (0, [.int (nI ((jN sa ma ga) 0)), .int (nI ((jN sa ma ga) 1)), .int (nI ((jN sa ma ga) 0 + (jN sa ma ga) 2)), .int (nI ((jN sa ma ga) 3)), .int (nI ((jN sa ma ga) 4)), .int (nI ((jN sa ma ga) 5)), .int (nI ((jN sa ma ga) 6)), .int (nI ((jN sa ma ga) 7)), .ref (u 1), .ref (u 2), .ref (u 3), .ref (u 4), .long 0])), ((u 1), .inl (cI, 2, .inl (fun j => nI (if j = 0 then (jN sa ma ga) 8 else (jN sa ma ga) 9)))), ((u 2), .inl (cI, 20, .inl (fun j => nI (jF (jN sa ma ga) iv j)))), ((u 3), .inl (cI, 20, .inl (fun j => jC (jN sa ma ga) iv j))), ((u 4), .inl (cJ, 240, .inr (.inl (fun _ => 0))))] := hD
    refine lv_aload_n hx hb dX1_add_90 rfl (lv_at hl 1 rfl) ?_
    refine va_get (D := (dC, dI)) (ci := 1) (v := .int (nI (n + 1))) (C := RX1) (T := TX1) (N := 4) hx hb hts (fun _ h => List.mem_cons_of_mem _ (List.mem_append_left _ (List.mem_append_left _ (List.mem_append_left _ (List.mem_append_right _ h))))) hown hK hP 0 rfl rfl 2 (by decide) (hts (.fieldLink RX1 19 "JointAnnuity" "count" "I") (List.mem_of_getElem? (i := 5) rfl)) (fun _ h9 => h9) rfl dX1_add_91 ?_
    refine lv_iconst (v := nI 1) hx hb dX1_add_94 (by decide) ?_
    refine lv_isub hx hb dX1_add_95 ?_
    refine j_i (y := nI ((n + 1) - 1)) (pk_sub (by omega)) ?_
    refine j_i (y := nI n) (congrArg nI (by omega)) ?_
    refine W.widen (k := 5) (n := 295) (by decide) (by decide) ?_
    exact W.iret (v := nI n) hx hb hr (fun t ht hW => ⟨⟨_, u, rfl, rfl, by rw [ht]; exact hP, hD⟩, hS.F ht⟩) hS.2.2 dX1_add_96
  · have c_35 : ¬ (n < 20) := fun h => c_35 ((nI_ltI (a := n) (b := 20) (by omega) (by omega)).mpr h)
    omega
set_option maxHeartbeats 4000000 in
set_option maxRecDepth 100000 in
/-- add refuses -/
theorem x1_X1_add (l : Launch) (dC : Nat → ClassId) (dI : Nat → Nat → Nat) (cI cJ cZ cO : ClassId) (ax : Nat → Nat) (ao : Nat → Option Nat) (n mo : Nat) (p0 p1 p2 : Int32) (hst : l.stackTraces = false) (hm : mo ≤ 240) (h : p0 < nI mo ∨ nI 239 < p0) : vx_Met l yX1_add wsX1_add ({ frames := 7, cells := 1, slots := 6, locals := 104 }) (va_Pc [.ref (ax 0), .int p0, .int p1, .int p2] (jRX (dC, dI) (jTY cI cJ cZ cO) [jXo ax n mo, jXa cO ax ao])) (jFQ) (jXC eA) 1 6 (fun _ => False) := by
  refine j_ofx (cc := cX1_add) (maxL := 5) (ret := (some .int)) (by decide) rfl (Nat.le_of_ble_eq_true rfl) ?_
  intro p e s m below meth c ls hx hb hr hml hts hown hlocks htab hl hpre
  have hown : s.vm.findClass RX1 = some m.cls := hown
  have hl : lv_has ls 5 [(0, .ref (ax 0)), (1, .int p0), (2, .int p1), (3, .int p2)] := hl
  obtain ⟨⟨hP, hK⟩, hX⟩ := hpre
  refine lv_iload_n hx hb dX1_add_0 rfl (lv_at hl 1 rfl) ?_
  refine lv_aload_n hx hb dX1_add_1 rfl (lv_at hl 0 rfl) ?_
  refine va_get (D := (dC, dI)) (ci := 1) (v := .int (nI mo)) (C := RX1) (T := TX1) (N := 4) hx hb hts (fun _ h => List.mem_cons_of_mem _ (List.mem_append_left _ (List.mem_append_left _ (List.mem_append_left _ (List.mem_append_right _ h))))) hown hK hP 0 rfl rfl 3 (by decide) (hts (.fieldLink RX1 23 "JointAnnuity" "monthThatGoesOn" "I") (List.mem_of_getElem? (i := 3) rfl)) (fun _ h9 => h9) rfl dX1_add_2 ?_
  refine lv_sipush (v := nI 239) hx hb dX1_add_5 (by decide) ?_
  exact j_bxS (As := [.int p0, .int (nI mo), .int (nI 239)]) (rest := []) ⟨hx, hb, hml, hown, hts⟩ (x_X1_requireRange l dC dI p0 (nI mo) (nI 239) hst h) (cwS 3 hts gX1_add_X1_requireRange rfl rfl rfl (by decide +kernel) ⟨Nat.le_of_ble_eq_true rfl, Nat.le_of_ble_eq_true rfl⟩) (jX_S hX) rfl hl rfl (Nat.le_of_ble_eq_true rfl) dX1_add_8 ⟨Nat.le_of_ble_eq_true rfl, Nat.le_of_ble_eq_true rfl⟩ htab hlocks
set_option maxHeartbeats 4000000 in
set_option maxRecDepth 100000 in
/-- add refuses -/
theorem x2_X1_add (l : Launch) (dC : Nat → ClassId) (dI : Nat → Nat → Nat) (cI cJ cZ cO : ClassId) (ax : Nat → Nat) (ao : Nat → Option Nat) (n mo : Nat) (p0 p1 p2 : Int32) (hst : l.stackTraces = false) (hm : mo ≤ 240) (h1 : ¬ p0 < nI mo) (h2 : ¬ nI 239 < p0) (h : p1 < nI 1 ∨ nI 100000 < p1) : vx_Met l yX1_add wsX1_add ({ frames := 7, cells := 1, slots := 6, locals := 104 }) (va_Pc [.ref (ax 0), .int p0, .int p1, .int p2] (jRX (dC, dI) (jTY cI cJ cZ cO) [jXo ax n mo, jXa cO ax ao])) (jFQ) (jXC eA) 1 6 (fun _ => False) := by
  refine j_ofx (cc := cX1_add) (maxL := 5) (ret := (some .int)) (by decide) rfl (Nat.le_of_ble_eq_true rfl) ?_
  intro p e s m below meth c ls hx hb hr hml hts hown hlocks htab hl hpre
  have hown : s.vm.findClass RX1 = some m.cls := hown
  have hl : lv_has ls 5 [(0, .ref (ax 0)), (1, .int p0), (2, .int p1), (3, .int p2)] := hl
  obtain ⟨⟨hP, hK⟩, hX⟩ := hpre
  refine lv_iload_n hx hb dX1_add_0 rfl (lv_at hl 1 rfl) ?_
  refine lv_aload_n hx hb dX1_add_1 rfl (lv_at hl 0 rfl) ?_
  refine va_get (D := (dC, dI)) (ci := 1) (v := .int (nI mo)) (C := RX1) (T := TX1) (N := 4) hx hb hts (fun _ h => List.mem_cons_of_mem _ (List.mem_append_left _ (List.mem_append_left _ (List.mem_append_left _ (List.mem_append_right _ h))))) hown hK hP 0 rfl rfl 3 (by decide) (hts (.fieldLink RX1 23 "JointAnnuity" "monthThatGoesOn" "I") (List.mem_of_getElem? (i := 3) rfl)) (fun _ h9 => h9) rfl dX1_add_2 ?_
  refine lv_sipush (v := nI 239) hx hb dX1_add_5 (by decide) ?_
  refine j_sV (As := [.int p0, .int (nI mo), .int (nI 239)]) (rest := []) ⟨hx, hb, hml, hown, hts⟩ (c_X1_requireRange l dC dI p0 (nI mo) (nI 239) h1 h2) (cwS 3 hts gX1_add_X1_requireRange rfl rfl rfl (by decide +kernel) ⟨Nat.le_of_ble_eq_true rfl, Nat.le_of_ble_eq_true rfl⟩) rfl hl rfl (Nat.le_of_ble_eq_true rfl) dX1_add_8 ⟨Nat.le_of_ble_eq_true rfl, Nat.le_of_ble_eq_true rfl⟩ ?_
  refine lv_iload_n hx hb dX1_add_11 rfl (lv_at hl 2 rfl) ?_
  refine lv_iconst (v := nI 1) hx hb dX1_add_12 (by decide) ?_
  refine lv_ldc hx hb hown (hts (.constant RX1 30 (100000)) (List.mem_of_getElem? (i := 4) rfl)) dX1_add_13 ?_
  refine j_i (y := nI 100000) (by decide +kernel) ?_
  exact j_bxS (As := [.int p1, .int (nI 1), .int (nI 100000)]) (rest := []) ⟨hx, hb, hml, hown, hts⟩ (x_X1_requireRange l dC dI p1 (nI 1) (nI 100000) hst h) (cwS 3 hts gX1_add_X1_requireRange rfl rfl rfl (by decide +kernel) ⟨Nat.le_of_ble_eq_true rfl, Nat.le_of_ble_eq_true rfl⟩) (jX_S hX) rfl hl rfl (Nat.le_of_ble_eq_true rfl) dX1_add_15 ⟨Nat.le_of_ble_eq_true rfl, Nat.le_of_ble_eq_true rfl⟩ htab hlocks
set_option maxHeartbeats 4000000 in
set_option maxRecDepth 100000 in
/-- add refuses -/
theorem x3_X1_add (l : Launch) (dC : Nat → ClassId) (dI : Nat → Nat → Nat) (cI cJ cZ cO : ClassId) (ax : Nat → Nat) (ao : Nat → Option Nat) (n mo : Nat) (p0 p1 p2 : Int32) (hst : l.stackTraces = false) (hm : mo ≤ 240) (h1 : ¬ p0 < nI mo) (h2 : ¬ nI 239 < p0) (h3 : ¬ p1 < nI 1) (h4 : ¬ nI 100000 < p1) (h : p2 < nI 0 ∨ nI 240 < p2) : vx_Met l yX1_add wsX1_add ({ frames := 7, cells := 1, slots := 6, locals := 104 }) (va_Pc [.ref (ax 0), .int p0, .int p1, .int p2] (jRX (dC, dI) (jTY cI cJ cZ cO) [jXo ax n mo, jXa cO ax ao])) (jFQ) (jXC eA) 1 6 (fun _ => False) := by
  refine j_ofx (cc := cX1_add) (maxL := 5) (ret := (some .int)) (by decide) rfl (Nat.le_of_ble_eq_true rfl) ?_
  intro p e s m below meth c ls hx hb hr hml hts hown hlocks htab hl hpre
  have hown : s.vm.findClass RX1 = some m.cls := hown
  have hl : lv_has ls 5 [(0, .ref (ax 0)), (1, .int p0), (2, .int p1), (3, .int p2)] := hl
  obtain ⟨⟨hP, hK⟩, hX⟩ := hpre
  refine lv_iload_n hx hb dX1_add_0 rfl (lv_at hl 1 rfl) ?_
  refine lv_aload_n hx hb dX1_add_1 rfl (lv_at hl 0 rfl) ?_
  refine va_get (D := (dC, dI)) (ci := 1) (v := .int (nI mo)) (C := RX1) (T := TX1) (N := 4) hx hb hts (fun _ h => List.mem_cons_of_mem _ (List.mem_append_left _ (List.mem_append_left _ (List.mem_append_left _ (List.mem_append_right _ h))))) hown hK hP 0 rfl rfl 3 (by decide) (hts (.fieldLink RX1 23 "JointAnnuity" "monthThatGoesOn" "I") (List.mem_of_getElem? (i := 3) rfl)) (fun _ h9 => h9) rfl dX1_add_2 ?_
  refine lv_sipush (v := nI 239) hx hb dX1_add_5 (by decide) ?_
  refine j_sV (As := [.int p0, .int (nI mo), .int (nI 239)]) (rest := []) ⟨hx, hb, hml, hown, hts⟩ (c_X1_requireRange l dC dI p0 (nI mo) (nI 239) h1 h2) (cwS 3 hts gX1_add_X1_requireRange rfl rfl rfl (by decide +kernel) ⟨Nat.le_of_ble_eq_true rfl, Nat.le_of_ble_eq_true rfl⟩) rfl hl rfl (Nat.le_of_ble_eq_true rfl) dX1_add_8 ⟨Nat.le_of_ble_eq_true rfl, Nat.le_of_ble_eq_true rfl⟩ ?_
  refine lv_iload_n hx hb dX1_add_11 rfl (lv_at hl 2 rfl) ?_
  refine lv_iconst (v := nI 1) hx hb dX1_add_12 (by decide) ?_
  refine lv_ldc hx hb hown (hts (.constant RX1 30 (100000)) (List.mem_of_getElem? (i := 4) rfl)) dX1_add_13 ?_
  refine j_i (y := nI 100000) (by decide +kernel) ?_
  refine j_sV (As := [.int p1, .int (nI 1), .int (nI 100000)]) (rest := []) ⟨hx, hb, hml, hown, hts⟩ (c_X1_requireRange l dC dI p1 (nI 1) (nI 100000) h3 h4) (cwS 3 hts gX1_add_X1_requireRange rfl rfl rfl (by decide +kernel) ⟨Nat.le_of_ble_eq_true rfl, Nat.le_of_ble_eq_true rfl⟩) rfl hl rfl (Nat.le_of_ble_eq_true rfl) dX1_add_15 ⟨Nat.le_of_ble_eq_true rfl, Nat.le_of_ble_eq_true rfl⟩ ?_
  refine lv_iload_n hx hb dX1_add_18 rfl (lv_at hl 3 rfl) ?_
  refine lv_iconst (v := nI 0) hx hb dX1_add_19 (by decide) ?_
  refine lv_sipush (v := nI 240) hx hb dX1_add_20 (by decide) ?_
  exact j_bxS (As := [.int p2, .int (nI 0), .int (nI 240)]) (rest := []) ⟨hx, hb, hml, hown, hts⟩ (x_X1_requireRange l dC dI p2 (nI 0) (nI 240) hst h) (cwS 3 hts gX1_add_X1_requireRange rfl rfl rfl (by decide +kernel) ⟨Nat.le_of_ble_eq_true rfl, Nat.le_of_ble_eq_true rfl⟩) (jX_S hX) rfl hl rfl (Nat.le_of_ble_eq_true rfl) dX1_add_23 ⟨Nat.le_of_ble_eq_true rfl, Nat.le_of_ble_eq_true rfl⟩ htab hlocks
set_option maxHeartbeats 4000000 in
set_option maxRecDepth 100000 in
/-- add refuses -/
theorem x4_X1_add (l : Launch) (dC : Nat → ClassId) (dI : Nat → Nat → Nat) (cI cJ cZ cO : ClassId) (ax : Nat → Nat) (ao : Nat → Option Nat) (n mo : Nat) (p0 p1 p2 : Int32) (hst : l.stackTraces = false) (hm : mo ≤ 240) (h1 : ¬ p0 < nI mo) (h2 : ¬ nI 239 < p0) (h3 : ¬ p1 < nI 1) (h4 : ¬ nI 100000 < p1) (h5 : ¬ p2 < nI 0) (h6 : ¬ nI 240 < p2) (hn : n = 20) : vx_Met l yX1_add wsX1_add ({ frames := 6, cells := 1, slots := 6, locals := 82 }) (va_Pc [.ref (ax 0), .int p0, .int p1, .int p2] (jRX (dC, dI) (jTY cI cJ cZ cO) [jXo ax n mo, jXa cO ax ao])) (jFQ) (jXC eS) 1 6 (fun _ => False) := by
  refine j_ofx (cc := cX1_add) (maxL := 5) (ret := (some .int)) (by decide) rfl (Nat.le_of_ble_eq_true rfl) ?_
  intro p e s m below meth c ls hx hb hr hml hts hown hlocks htab hl hpre
  have hown : s.vm.findClass RX1 = some m.cls := hown
  have hl : lv_has ls 5 [(0, .ref (ax 0)), (1, .int p0), (2, .int p1), (3, .int p2)] := hl
  obtain ⟨⟨hP, hK⟩, hX⟩ := hpre
  refine lv_iload_n hx hb dX1_add_0 rfl (lv_at hl 1 rfl) ?_
  refine lv_aload_n hx hb dX1_add_1 rfl (lv_at hl 0 rfl) ?_
  refine va_get (D := (dC, dI)) (ci := 1) (v := .int (nI mo)) (C := RX1) (T := TX1) (N := 4) hx hb hts (fun _ h => List.mem_cons_of_mem _ (List.mem_append_left _ (List.mem_append_left _ (List.mem_append_left _ (List.mem_append_right _ h))))) hown hK hP 0 rfl rfl 3 (by decide) (hts (.fieldLink RX1 23 "JointAnnuity" "monthThatGoesOn" "I") (List.mem_of_getElem? (i := 3) rfl)) (fun _ h9 => h9) rfl dX1_add_2 ?_
  refine lv_sipush (v := nI 239) hx hb dX1_add_5 (by decide) ?_
  refine j_sV (As := [.int p0, .int (nI mo), .int (nI 239)]) (rest := []) ⟨hx, hb, hml, hown, hts⟩ (c_X1_requireRange l dC dI p0 (nI mo) (nI 239) h1 h2) (cwS 3 hts gX1_add_X1_requireRange rfl rfl rfl (by decide +kernel) ⟨Nat.le_of_ble_eq_true rfl, Nat.le_of_ble_eq_true rfl⟩) rfl hl rfl (Nat.le_of_ble_eq_true rfl) dX1_add_8 ⟨Nat.le_of_ble_eq_true rfl, Nat.le_of_ble_eq_true rfl⟩ ?_
  refine lv_iload_n hx hb dX1_add_11 rfl (lv_at hl 2 rfl) ?_
  refine lv_iconst (v := nI 1) hx hb dX1_add_12 (by decide) ?_
  refine lv_ldc hx hb hown (hts (.constant RX1 30 (100000)) (List.mem_of_getElem? (i := 4) rfl)) dX1_add_13 ?_
  refine j_i (y := nI 100000) (by decide +kernel) ?_
  refine j_sV (As := [.int p1, .int (nI 1), .int (nI 100000)]) (rest := []) ⟨hx, hb, hml, hown, hts⟩ (c_X1_requireRange l dC dI p1 (nI 1) (nI 100000) h3 h4) (cwS 3 hts gX1_add_X1_requireRange rfl rfl rfl (by decide +kernel) ⟨Nat.le_of_ble_eq_true rfl, Nat.le_of_ble_eq_true rfl⟩) rfl hl rfl (Nat.le_of_ble_eq_true rfl) dX1_add_15 ⟨Nat.le_of_ble_eq_true rfl, Nat.le_of_ble_eq_true rfl⟩ ?_
  refine lv_iload_n hx hb dX1_add_18 rfl (lv_at hl 3 rfl) ?_
  refine lv_iconst (v := nI 0) hx hb dX1_add_19 (by decide) ?_
  refine lv_sipush (v := nI 240) hx hb dX1_add_20 (by decide) ?_
  refine j_sV (As := [.int p2, .int (nI 0), .int (nI 240)]) (rest := []) ⟨hx, hb, hml, hown, hts⟩ (c_X1_requireRange l dC dI p2 (nI 0) (nI 240) h5 h6) (cwS 3 hts gX1_add_X1_requireRange rfl rfl rfl (by decide +kernel) ⟨Nat.le_of_ble_eq_true rfl, Nat.le_of_ble_eq_true rfl⟩) rfl hl rfl (Nat.le_of_ble_eq_true rfl) dX1_add_23 ⟨Nat.le_of_ble_eq_true rfl, Nat.le_of_ble_eq_true rfl⟩ ?_
  refine lv_aload_n hx hb dX1_add_26 rfl (lv_at hl 0 rfl) ?_
  refine va_get (D := (dC, dI)) (ci := 1) (v := .int (nI n)) (C := RX1) (T := TX1) (N := 4) hx hb hts (fun _ h => List.mem_cons_of_mem _ (List.mem_append_left _ (List.mem_append_left _ (List.mem_append_left _ (List.mem_append_right _ h))))) hown hK hP 0 rfl rfl 2 (by decide) (hts (.fieldLink RX1 19 "JointAnnuity" "count" "I") (List.mem_of_getElem? (i := 5) rfl)) (fun _ h9 => h9) rfl dX1_add_27 ?_
  refine lv_aload_n hx hb dX1_add_30 rfl (lv_at hl 0 rfl) ?_
  refine va_get (D := (dC, dI)) (ci := 1) (v := .ref (ax 1)) (C := RX1) (T := TX1) (N := 4) hx hb hts (fun _ h => List.mem_cons_of_mem _ (List.mem_append_left _ (List.mem_append_left _ (List.mem_append_left _ (List.mem_append_right _ h))))) hown hK hP 0 rfl rfl 0 (by decide) (hts (.fieldLink RX1 11 "JointAnnuity" "annuities" "[LJointAnnuity$Annuity;") (List.mem_of_getElem? (i := 6) rfl)) (fun _ h9 => h9) rfl dX1_add_31 ?_
  refine va_alen hx hb hK hP 1 3 (v := nI 20) rfl rfl rfl dX1_add_34 ?_
  refine lv_icmp_lt (tgt := 48) hx hb dX1_add_35 (by decide) (fun c_35 => ?_) (fun c_35 => ?_)
  · have c_35 : n < 20 := (nI_ltI (a := n) (b := 20) (by omega) (by omega)).mp c_35
    omega
  · have c_35 : ¬ (n < 20) := fun h => c_35 ((nI_ltI (a := n) (b := 20) (by omega) (by omega)).mpr h)
    exact j_throw (E := eS) hx hb hst hown (by decide +kernel) (by simp) (hts (.classLink RX1 31 "java/lang/IllegalStateException") (List.mem_of_getElem? (i := 1) rfl)) (hts (.initialized "java/lang/IllegalStateException") (List.mem_of_getElem? (i := 2) rfl)) (fun w h => hts w (List.mem_cons_of_mem _ (List.mem_append_left _ (List.mem_append_right _ h)))) jgS jbS hX (List.mem_of_getElem? (i := 0) rfl) hl hml dX1_add_38 dX1_add_41 dX1_add_42 dX1_add_44 dX1_add_47 htab (Nat.le_of_ble_eq_true rfl) (Nat.le_of_ble_eq_true rfl) (Nat.le_of_ble_eq_true rfl) (Nat.le_of_ble_eq_true rfl) hlocks
set_option maxHeartbeats 4000000 in
set_option maxRecDepth 100000 in
/-- setInflation refuses -/
theorem x1_X1_setInflation (l : Launch) (dC : Nat → ClassId) (dI : Nat → Nat → Nat) (cI cJ cZ cO : ClassId) (ax : Nat → Nat) (ao : Nat → Option Nat) (n mo : Nat) (p0 p1 : Int32) (hst : l.stackTraces = false) (h : p0 < nI 0 ∨ nI 19 < p0) : vx_Met l yX1_setInflation wsX1_setInflation ({ frames := 7, cells := 1, slots := 6, locals := 104 }) (va_Pc [.ref (ax 0), .int p0, .int p1] (jRX (dC, dI) (jTY cI cJ cZ cO) [jXo ax n mo, jXa cO ax ao])) (jFQ) (jXC eA) 1 6 (fun _ => False) := by
  refine j_ofx (cc := cX1_setInflation) (maxL := 8) (ret := (some .int)) (by decide) rfl (Nat.le_of_ble_eq_true rfl) ?_
  intro p e s m below meth c ls hx hb hr hml hts hown hlocks htab hl hpre
  have hown : s.vm.findClass RX1 = some m.cls := hown
  have hl : lv_has ls 8 [(0, .ref (ax 0)), (1, .int p0), (2, .int p1)] := hl
  obtain ⟨⟨hP, hK⟩, hX⟩ := hpre
  refine lv_iload_n hx hb dX1_setInflation_0 rfl (lv_at hl 1 rfl) ?_
  refine lv_iconst (v := nI 0) hx hb dX1_setInflation_1 (by decide) ?_
  refine lv_bipush (v := nI 19) hx hb dX1_setInflation_2 (by decide) ?_
  exact j_bxS (As := [.int p0, .int (nI 0), .int (nI 19)]) (rest := []) ⟨hx, hb, hml, hown, hts⟩ (x_X1_requireRange l dC dI p0 (nI 0) (nI 19) hst h) (cwS 3 hts gX1_setInflation_X1_requireRange rfl rfl rfl (by decide +kernel) ⟨Nat.le_of_ble_eq_true rfl, Nat.le_of_ble_eq_true rfl⟩) (jX_S hX) rfl hl rfl (Nat.le_of_ble_eq_true rfl) dX1_setInflation_4 ⟨Nat.le_of_ble_eq_true rfl, Nat.le_of_ble_eq_true rfl⟩ htab hlocks
set_option maxHeartbeats 4000000 in
set_option maxRecDepth 100000 in
/-- setInflation refuses -/
theorem x2_X1_setInflation (l : Launch) (dC : Nat → ClassId) (dI : Nat → Nat → Nat) (cI cJ cZ cO : ClassId) (ax : Nat → Nat) (ao : Nat → Option Nat) (n mo : Nat) (p0 p1 : Int32) (hst : l.stackTraces = false) (h1 : ¬ p0 < nI 0) (h2 : ¬ nI 19 < p0) (h : p1 < (-100) ∨ nI 300 < p1) : vx_Met l yX1_setInflation wsX1_setInflation ({ frames := 7, cells := 1, slots := 6, locals := 104 }) (va_Pc [.ref (ax 0), .int p0, .int p1] (jRX (dC, dI) (jTY cI cJ cZ cO) [jXo ax n mo, jXa cO ax ao])) (jFQ) (jXC eA) 1 6 (fun _ => False) := by
  refine j_ofx (cc := cX1_setInflation) (maxL := 8) (ret := (some .int)) (by decide) rfl (Nat.le_of_ble_eq_true rfl) ?_
  intro p e s m below meth c ls hx hb hr hml hts hown hlocks htab hl hpre
  have hown : s.vm.findClass RX1 = some m.cls := hown
  have hl : lv_has ls 8 [(0, .ref (ax 0)), (1, .int p0), (2, .int p1)] := hl
  obtain ⟨⟨hP, hK⟩, hX⟩ := hpre
  refine lv_iload_n hx hb dX1_setInflation_0 rfl (lv_at hl 1 rfl) ?_
  refine lv_iconst (v := nI 0) hx hb dX1_setInflation_1 (by decide) ?_
  refine lv_bipush (v := nI 19) hx hb dX1_setInflation_2 (by decide) ?_
  refine j_sV (As := [.int p0, .int (nI 0), .int (nI 19)]) (rest := []) ⟨hx, hb, hml, hown, hts⟩ (c_X1_requireRange l dC dI p0 (nI 0) (nI 19) h1 h2) (cwS 3 hts gX1_setInflation_X1_requireRange rfl rfl rfl (by decide +kernel) ⟨Nat.le_of_ble_eq_true rfl, Nat.le_of_ble_eq_true rfl⟩) rfl hl rfl (Nat.le_of_ble_eq_true rfl) dX1_setInflation_4 ⟨Nat.le_of_ble_eq_true rfl, Nat.le_of_ble_eq_true rfl⟩ ?_
  refine lv_iload_n hx hb dX1_setInflation_7 rfl (lv_at hl 2 rfl) ?_
  refine lv_bipush (v := (-100)) hx hb dX1_setInflation_8 (by decide) ?_
  refine lv_sipush (v := nI 300) hx hb dX1_setInflation_10 (by decide) ?_
  exact j_bxS (As := [.int p1, .int (-100), .int (nI 300)]) (rest := []) ⟨hx, hb, hml, hown, hts⟩ (x_X1_requireRange l dC dI p1 (-100) (nI 300) hst h) (cwS 3 hts gX1_setInflation_X1_requireRange rfl rfl rfl (by decide +kernel) ⟨Nat.le_of_ble_eq_true rfl, Nat.le_of_ble_eq_true rfl⟩) (jX_S hX) rfl hl rfl (Nat.le_of_ble_eq_true rfl) dX1_setInflation_13 ⟨Nat.le_of_ble_eq_true rfl, Nat.le_of_ble_eq_true rfl⟩ htab hlocks
set_option maxHeartbeats 4000000 in
set_option maxRecDepth 100000 in
/-- the inflation of a year is told -/
theorem c_X1_setInflation (l : Launch) (dC : Nat → ClassId) (dI : Nat → Nat → Nat) (cI cJ cZ cO : ClassId) (ax : Nat → Nat) (n mo : Nat) (iv : Nat → Int32) (aa an : Nat → Nat → Nat) (kp : Nat → Int64) (py : Nat → Nat → Int64) (yy : Nat) (v : Int32) (hv : ∀ k, k < n → jV (an k)) (hn : n ≤ 20) (hy : yy < 20) (hv1 : ¬ v < (-100)) (hv2 : ¬ nI 300 < v) : Met l yX1_setInflation wsX1_setInflation ({ frames := 2, cells := 0, slots := 0, locals := 41 }) (va_Pc [.ref (ax 0), .int (nI yy), .int v] (jW (dC, dI) (jTY cI cJ cZ cO) (jX3 cI cO ax (jao aa n) n mo iv ++ jBl (jbk cI cJ aa an iv kp py) n))) (va_Qi (fun r (_ : Unit) => r = iv yy) (fun _ t => va_P (dC, dI) vwCl (jX3 cI cO ax (jao aa n) n mo (upd iv yy v) ++ jBl (jbk cI cJ aa an (upd iv yy v) kp py) n) t.heap) (jA (jX3 cI cO ax (jao aa n) n mo iv ++ jBl (jbk cI cJ aa an iv kp py) n))) 0 0 (jA (jX3 cI cO ax (jao aa n) n mo iv ++ jBl (jbk cI cJ aa an iv kp py) n)) := by
  refine j_of (cc := cX1_setInflation) (maxL := 8) (ret := (some .int)) (by decide) rfl (Nat.le_of_ble_eq_true rfl) ?_
  intro p e s m below meth c ls hx hb hr hml hts hown hlocks hnm hl hpre
  have hown : s.vm.findClass RX1 = some m.cls := hown
  have hl : lv_has ls 8 [(0, .ref (ax 0)), (1, .int (nI yy)), (2, .int v)] := hl
  obtain ⟨hP, hK, hD0⟩ := hpre
  have hD := hD0.jA
  generalize hAe : jA (jX3 cI cO ax (jao aa n) n mo iv ++ jBl (jbk cI cJ aa an iv kp py) n) = A at hD ⊢
  have hS : va_S A s.heap s.heap [] := va_S.rf
  refine lv_iload_n hx hb dX1_setInflation_0 rfl (lv_at hl 1 rfl) ?_
  refine lv_iconst (v := nI 0) hx hb dX1_setInflation_1 (by decide) ?_
  refine lv_bipush (v := nI 19) hx hb dX1_setInflation_2 (by decide) ?_
  refine j_sV (As := [.int (nI yy), .int (nI 0), .int (nI 19)]) (rest := []) ⟨hx, hb, hml, hown, hts⟩ (c_X1_requireRange l dC dI (nI yy) (nI 0) (nI 19) (nI_nlt (by omega) (by omega)) (nI_nlt (by omega) (by omega))) (cwS 3 hts gX1_setInflation_X1_requireRange rfl rfl rfl (by decide +kernel) ⟨Nat.le_of_ble_eq_true rfl, Nat.le_of_ble_eq_true rfl⟩) rfl hl rfl (Nat.le_of_ble_eq_true rfl) dX1_setInflation_4 ⟨Nat.le_of_ble_eq_true rfl, Nat.le_of_ble_eq_true rfl⟩ ?_
  refine lv_iload_n hx hb dX1_setInflation_7 rfl (lv_at hl 2 rfl) ?_
  refine lv_bipush (v := (-100)) hx hb dX1_setInflation_8 (by decide) ?_
  refine lv_sipush (v := nI 300) hx hb dX1_setInflation_10 (by decide) ?_
  refine j_sV (As := [.int v, .int (-100), .int (nI 300)]) (rest := []) ⟨hx, hb, hml, hown, hts⟩ (c_X1_requireRange l dC dI v (-100) (nI 300) hv1 hv2) (cwS 3 hts gX1_setInflation_X1_requireRange rfl rfl rfl (by decide +kernel) ⟨Nat.le_of_ble_eq_true rfl, Nat.le_of_ble_eq_true rfl⟩) rfl hl rfl (Nat.le_of_ble_eq_true rfl) dX1_setInflation_13 ⟨Nat.le_of_ble_eq_true rfl, Nat.le_of_ble_eq_true rfl⟩ ?_
  refine lv_aload_n hx hb dX1_setInflation_16 rfl (lv_at hl 0 rfl) ?_
  refine va_get (D := (dC, dI)) (ci := 1) (v := .ref (ax 2)) (C := RX1) (T := TX1) (N := 4) hx hb hts (fun _ h => List.mem_cons_of_mem _ (List.mem_append_left _ (List.mem_append_left _ (List.mem_append_right _ h)))) hown hK hP 0 rfl rfl 1 (by decide) (hts (.fieldLink RX1 15 "JointAnnuity" "inflation" "[I") (List.mem_of_getElem? (i := 1) rfl)) (fun _ h9 => h9) rfl dX1_setInflation_17 ?_
  refine lv_iload_n hx hb dX1_setInflation_20 rfl (lv_at hl 1 rfl) ?_
  refine va_iald hx hb hK hP 2 0 (f := iv) rfl rfl (vp_in_nI (n := yy) (N := 20) (by omega) (by omega)) dX1_setInflation_21 ?_
  refine j_i (y := iv yy) (by rw [nI_clamp (by omega)]) ?_
  refine lv_istore_n (lv' := [(3, .int (iv yy)), (0, .ref (ax 0)), (1, .int (nI yy)), (2, .int v)]) hx hb dX1_setInflation_22 rfl hl (by decide) rfl (fun ls hl => ?_)
  refine lv_aload_n hx hb dX1_setInflation_23 rfl (lv_at hl 1 rfl) ?_
  refine va_get (D := (dC, dI)) (ci := 1) (v := .ref (ax 2)) (C := RX1) (T := TX1) (N := 4) hx hb hts (fun _ h => List.mem_cons_of_mem _ (List.mem_append_left _ (List.mem_append_left _ (List.mem_append_right _ h)))) hown hK hP 0 rfl rfl 1 (by decide) (hts (.fieldLink RX1 15 "JointAnnuity" "inflation" "[I") (List.mem_of_getElem? (i := 1) rfl)) (fun _ h9 => h9) rfl dX1_setInflation_24 ?_
  refine lv_iload_n hx hb dX1_setInflation_27 rfl (lv_at hl 2 rfl) ?_
  refine lv_iload_n hx hb dX1_setInflation_28 rfl (lv_at hl 3 rfl) ?_
  refine va_iast hx hb hK hP hD hS 2 0 (f := iv) (x := v) rfl rfl (vp_in_nI (n := yy) (N := 20) (by omega) (by omega)) dX1_setInflation_29 (fun H locs hP hD hS => ?_)
  rw [nI_clamp (show yy < 2 ^ 31 by omega)] at hP hD
  have hP : va_P (dC, dI) vwCl ([((ax 0), .inr (1, [.ref (ax 1), .ref (ax 2), .int (nI n), .int (nI mo)])), ((ax 1), .inl (cO, 20, .inr (.inr (.inr (.inr (jao aa n)))))), ((ax 2), .inl (cI, 20, .inl (upd iv yy v)))] ++ jBl (jbk cI cJ aa an iv kp py) n) H := hP
  have hD : va_D A ([((ax 0), .inr (1, [.ref (ax 1), .ref (ax 2), .int (nI n), .int (nI mo)])), ((ax 1), .inl (cO, 20, .inr (.inr (.inr (.inr (jao aa n)))))), ((ax 2), .inl (cI, 20, .inl (upd iv yy v)))] ++ jBl (jbk cI cJ aa an iv kp py) n) := hD
  refine lv_aload_n hx hb dX1_setInflation_30 rfl (lv_at hl 1 rfl) ?_
  refine va_get (D := (dC, dI)) (ci := 1) (v := .ref (ax 1)) (C := RX1) (T := TX1) (N := 4) hx hb hts (fun _ h => List.mem_cons_of_mem _ (List.mem_append_left _ (List.mem_append_left _ (List.mem_append_right _ h)))) hown hK hP 0 rfl rfl 0 (by decide) (hts (.fieldLink RX1 11 "JointAnnuity" "annuities" "[LJointAnnuity$Annuity;") (List.mem_of_getElem? (i := 2) rfl)) (fun _ h9 => h9) rfl dX1_setInflation_31 ?_
  refine lv_astore (lv' := [(4, .ref (ax 1)), (3, .int (iv yy)), (0, .ref (ax 0)), (1, .int (nI yy)), (2, .int v)]) hx hb dX1_setInflation_34 hl (by decide) rfl (fun ls hl => ?_)
  refine lv_aload hx hb dX1_setInflation_36 (lv_at hl 0 rfl) ?_
  refine va_alen hx hb hK hP 1 3 (v := nI 20) rfl rfl rfl dX1_setInflation_38 ?_
  refine lv_istore (lv' := [(5, .int (nI 20)), (4, .ref (ax 1)), (3, .int (iv yy)), (0, .ref (ax 0)), (1, .int (nI yy)), (2, .int v)]) hx hb dX1_setInflation_39 hl (by decide) rfl (fun ls hl => ?_)
  refine lv_iconst (v := nI 0) hx hb dX1_setInflation_41 (by decide) ?_
  refine lv_istore (lv' := [(6, .int (nI 0)), (5, .int (nI 20)), (4, .ref (ax 1)), (3, .int (iv yy)), (0, .ref (ax 0)), (1, .int (nI yy)), (2, .int v)]) hx hb dX1_setInflation_42 hl (by decide) rfl (fun ls hl => ?_)
  have e0 : jBl (jbk cI cJ aa an iv kp py) n = jBl (jbi cI cJ aa an iv (upd iv yy v) kp py 0) n := jBl_congr (fun j hj => (jbi_a cI cJ aa an iv (upd iv yy v) kp py (Nat.zero_le j)).symm)
  rw [e0] at hP hD
  have hP : va_P (dC, dI) vwCl ([((ax 0), .inr (1, [.ref (ax 1), .ref (ax 2), .int (nI n), .int (nI mo)])), ((ax 1), .inl (cO, 20, .inr (.inr (.inr (.inr (jao aa n)))))), ((ax 2), .inl (cI, 20, .inl (upd iv yy v)))] ++ jBl (jbi cI cJ aa an iv (upd iv yy v) kp py 0) n) H := hP
  have hD : va_D A ([((ax 0), .inr (1, [.ref (ax 1), .ref (ax 2), .int (nI n), .int (nI mo)])), ((ax 1), .inl (cO, 20, .inr (.inr (.inr (.inr (jao aa n)))))), ((ax 2), .inl (cI, 20, .inl (upd iv yy v)))] ++ jBl (jbi cI cJ aa an iv (upd iv yy v) kp py 0) n) := hD
  refine j_loopW (I := fun i : Nat => i ≤ 20) (μ := fun i => 20 - i) (lv := fun i => [(0, .ref (ax 0)), (1, .int (nI yy)), (2, .int v), (3, .int (iv yy)), (4, .ref (ax 1)), (5, .int (nI 20)), (6, .int (nI i))]) (w := fun i => ([((ax 0), .inr (1, [.ref (ax 1), .ref (ax 2), .int (nI n), .int (nI mo)])), ((ax 1), .inl (cO, 20, .inr (.inr (.inr (.inr (jao aa n)))))), ((ax 2), .inl (cI, 20, .inl (upd iv yy v)))] ++ jBl (jbi cI cJ aa an iv (upd iv yy v) kp py i) n)) 0 (Nat.zero_le _) (lv_sub hl [4, 5, 6, 3, 2, 1, 0] rfl) hP hD hS ?_
  intro i H locs ls hI hP hD hS hl IH
  have hl : lv_has ls 8 [(0, .ref (ax 0)), (1, .int (nI yy)), (2, .int v), (3, .int (iv yy)), (4, .ref (ax 1)), (5, .int (nI 20)), (6, .int (nI i))] := hl
  have hP : va_P (dC, dI) vwCl ([((ax 0), .inr (1, [.ref (ax 1), .ref (ax 2), .int (nI n), .int (nI mo)])), ((ax 1), .inl (cO, 20, .inr (.inr (.inr (.inr (jao aa n)))))), ((ax 2), .inl (cI, 20, .inl (upd iv yy v)))] ++ jBl (jbi cI cJ aa an iv (upd iv yy v) kp py i) n) H := hP
  have hD : va_D A ([((ax 0), .inr (1, [.ref (ax 1), .ref (ax 2), .int (nI n), .int (nI mo)])), ((ax 1), .inl (cO, 20, .inr (.inr (.inr (.inr (jao aa n)))))), ((ax 2), .inl (cI, 20, .inl (upd iv yy v)))] ++ jBl (jbi cI cJ aa an iv (upd iv yy v) kp py i) n) := hD
  have hI : i ≤ 20 := hI
  refine lv_iload hx hb dX1_setInflation_44 (lv_at hl 6 rfl) ?_
  refine lv_iload hx hb dX1_setInflation_46 (lv_at hl 5 rfl) ?_
  refine lv_icmp_ge (tgt := 78) hx hb dX1_setInflation_48 (by decide) (fun c_48 => ?_) (fun c_48 => ?_)
  · have c_48 : 20 ≤ i := (nI_leI (a := 20) (b := i) (by omega) (by omega)).mp c_48
    refine lv_iload_n hx hb dX1_setInflation_78 rfl (lv_at hl 3 rfl) ?_
    have e9 : jBl (jbi cI cJ aa an iv (upd iv yy v) kp py i) n = jBl (jbk cI cJ aa an (upd iv yy v) kp py) n := jBl_congr (fun j hj => jbi_b cI cJ aa an iv (upd iv yy v) kp py (by omega))
    rw [e9] at hP hD
    exact W.iret (v := iv yy) hx hb hr (fun t ht hW => ⟨⟨_, (), rfl, rfl, j_h ht hP⟩, hS.F ht⟩) hS.2.2 dX1_setInflation_79
  · have c_48 : ¬ (20 ≤ i) := fun h => c_48 ((nI_leI (a := 20) (b := i) (by omega) (by omega)).mpr h)
    refine lv_aload hx hb dX1_setInflation_51 (lv_at hl 4 rfl) ?_
    refine lv_iload hx hb dX1_setInflation_53 (lv_at hl 6 rfl) ?_
    refine va_aldq hx hb hK hP 1 3 (f := jao aa n) rfl rfl (vp_in_nI (n := i) (N := 20) (by omega) (by omega)) dX1_setInflation_55 ?_
    by_cases hi : i < n
    · refine j_v (y := .ref (aa i 0)) (by rw [nI_clamp (by omega), show jao aa n i = some (aa i 0) from if_pos hi]; rfl) ?_
      refine lv_astore (lv' := [(7, .ref (aa i 0)), (0, .ref (ax 0)), (1, .int (nI yy)), (2, .int v), (3, .int (iv yy)), (4, .ref (ax 1)), (5, .int (nI 20)), (6, .int (nI i))]) hx hb dX1_setInflation_56 hl (by decide) rfl (fun ls hl => ?_)
      refine lv_aload hx hb dX1_setInflation_58 (lv_at hl 0 rfl) ?_
      refine lv_ifnull hx hb dX1_setInflation_60 ?_
      refine lv_aload hx hb dX1_setInflation_63 (lv_at hl 0 rfl) ?_
      refine lv_aload_n hx hb dX1_setInflation_65 rfl (lv_at hl 1 rfl) ?_
      refine va_get (D := (dC, dI)) (ci := 1) (v := .ref (ax 2)) (C := RX1) (T := TX1) (N := 4) hx hb hts (fun _ h => List.mem_cons_of_mem _ (List.mem_append_left _ (List.mem_append_left _ (List.mem_append_right _ h)))) hown hK hP 0 rfl rfl 1 (by decide) (hts (.fieldLink RX1 15 "JointAnnuity" "inflation" "[I") (List.mem_of_getElem? (i := 1) rfl)) (fun _ h9 => h9) rfl dX1_setInflation_66 ?_
      have hPf : va_P (dC, dI) vwCl [((ax 0), .inr (1, [.ref (ax 1), .ref (ax 2), .int (nI n), .int (nI mo)])), ((ax 1), .inl (cO, 20, .inr (.inr (.inr (.inr (jao aa n)))))), ((ax 2), .inl (cI, 20, .inl (upd iv yy v))), ((aa i 0), .inr (0, [.int (nI (an i 0)), .int (nI (an i 1)), .int (nI (an i 0 + an i 2)), .int (nI (an i 3)), .int (nI (an i 4)), .int (nI (an i 5)), .int (nI (an i 6)), .int (nI (an i 7)), .ref (aa i 1), .ref (aa i 2), .ref (aa i 3), .ref (aa i 4), .long (kp i)])), ((aa i 1), .inl (cI, 2, .inl (fun j => nI (if j = 0 then an i 8 else an i 9)))), ((aa i 2), .inl (cI, 20, .inl (fun j => nI (jF (an i) iv j)))), ((aa i 3), .inl (cI, 20, .inl (fun j => jC (an i) iv j))), ((aa i 4), .inl (cJ, 240, .inr (.inl (py i))))] H := by
        have h := j_subP hP (j_focus0 hi)
        rw [jbi_a cI cJ aa an iv (upd iv yy v) kp py (Nat.le_refl i)] at h
        exact h
      have hDf : va_D A [((ax 0), .inr (1, [.ref (ax 1), .ref (ax 2), .int (nI n), .int (nI mo)])), ((ax 1), .inl (cO, 20, .inr (.inr (.inr (.inr (jao aa n)))))), ((ax 2), .inl (cI, 20, .inl (upd iv yy v))), ((aa i 0), .inr (0, [.int (nI (an i 0)), .int (nI (an i 1)), .int (nI (an i 0 + an i 2)), .int (nI (an i 3)), .int (nI (an i 4)), .int (nI (an i 5)), .int (nI (an i 6)), .int (nI (an i 7)), .ref (aa i 1), .ref (aa i 2), .ref (aa i 3), .ref (aa i 4), .long (kp i)])), ((aa i 1), .inl (cI, 2, .inl (fun j => nI (if j = 0 then an i 8 else an i 9)))), ((aa i 2), .inl (cI, 20, .inl (fun j => nI (jF (an i) iv j)))), ((aa i 3), .inl (cI, 20, .inl (fun j => jC (an i) iv j))), ((aa i 4), .inl (cJ, 240, .inr (.inl (py i))))] := by
        have h := j_subD hD (j_focus0 hi)
        rw [jbi_a cI cJ aa an iv (upd iv yy v) kp py (Nat.le_refl i)] at h
        exact h
      refine j_gV (As := [.ref (ax 2)]) (rest := []) ⟨hx, hb, hml, hown, hts⟩ (c_X0_growBy l dC dI cI cJ cZ cO (aa i) (an i) (upd iv yy v) (kp i) (ax 2) (fun j => nI (jF (an i) iv j)) (fun j => jC (an i) iv j) (hv i hi)) (cwV 1 hts gX1_setInflation_X0_growBy rfl rfl rfl (by decide +kernel) ⟨Nat.le_of_ble_eq_true rfl, Nat.le_of_ble_eq_true rfl⟩) (jW_V hK hPf hDf [3, 5, 6, 2] (by decide) rfl (ci := 0) (q0 := 3) rfl rfl rfl) rfl hl rfl (Nat.le_of_ble_eq_true rfl) dX1_setInflation_69 ⟨Nat.le_of_ble_eq_true rfl, Nat.le_of_ble_eq_true rfl⟩ hS (fun q h => jA_sub hDf [3, 5, 6, 2] rfl q h) (fun u H2 locs hu hP1 hk2 hS => ?_)
      obtain ⟨hP, hD⟩ := j_backm (X := [((ax 0), .inr (1, [.ref (ax 1), .ref (ax 2), .int (nI n), .int (nI mo)])), ((ax 1), .inl (cO, 20, .inr (.inr (.inr (.inr (jao aa n)))))), ((ax 2), .inl (cI, 20, .inl (upd iv yy v)))]) (blk := jbi cI cJ aa an iv (upd iv yy v) kp py i) (blk' := jbi cI cJ aa an iv (upd iv yy v) kp py (i + 1)) (F := [((ax 0), .inr (1, [.ref (ax 1), .ref (ax 2), .int (nI n), .int (nI mo)])), ((ax 1), .inl (cO, 20, .inr (.inr (.inr (.inr (jao aa n)))))), ((ax 2), .inl (cI, 20, .inl (upd iv yy v))), ((aa i 0), .inr (0, [.int (nI (an i 0)), .int (nI (an i 1)), .int (nI (an i 0 + an i 2)), .int (nI (an i 3)), .int (nI (an i 4)), .int (nI (an i 5)), .int (nI (an i 6)), .int (nI (an i 7)), .ref (aa i 1), .ref (aa i 2), .ref (aa i 3), .ref (aa i 4), .long (kp i)])), ((aa i 1), .inl (cI, 2, .inl (fun j => nI (if j = 0 then an i 8 else an i 9)))), ((aa i 2), .inl (cI, 20, .inl (fun j => nI (jF (an i) iv j)))), ((aa i 3), .inl (cI, 20, .inl (fun j => jC (an i) iv j))), ((aa i 4), .inl (cJ, 240, .inr (.inl (py i))))]) (F' := [((ax 0), .inr (1, [.ref (ax 1), .ref (ax 2), .int (nI n), .int (nI mo)])), ((ax 1), .inl (cO, 20, .inr (.inr (.inr (.inr (jao aa n)))))), ((ax 2), .inl (cI, 20, .inl (upd iv yy v))), ((aa i 0), .inr (0, [.int (nI (an i 0)), .int (nI (an i 1)), .int (nI (an i 0 + an i 2)), .int (nI (an i 3)), .int (nI (an i 4)), .int (nI (an i 5)), .int (nI (an i 6)), .int (nI (an i 7)), .ref (aa i 1), .ref (aa i 2), .ref (aa i 3), .ref (aa i 4), .long (kp i)])), ((aa i 1), .inl (cI, 2, .inl (fun j => nI (if j = 0 then an i 8 else an i 9)))), ((aa i 2), .inl (cI, 20, .inl (fun j => nI (jF (an i) (upd iv yy v) j)))), ((aa i 3), .inl (cI, 20, .inl (fun j => jC (an i) (upd iv yy v) j))), ((aa i 4), .inl (cJ, 240, .inr (.inl (py i))))]) hi hP hD (by rw [jbi_a cI cJ aa an iv (upd iv yy v) kp py (Nat.le_refl i)]; rfl) [3, 5, 6, 2] [0, 1, 4, 7] rfl rfl [(ax 0), (ax 1), (ax 2), (aa i 0), (aa i 1), (aa i 2), (aa i 3), (aa i 4)] rfl rfl [((ax 0), .inr (1, [.ref (ax 1), .ref (ax 2), .int (nI n), .int (nI mo)])), ((ax 1), .inl (cO, 20, .inr (.inr (.inr (.inr (jao aa n)))))), ((aa i 1), .inl (cI, 2, .inl (fun j => nI (if j = 0 then an i 8 else an i 9)))), ((aa i 4), .inl (cJ, 240, .inr (.inl (py i))))] rfl rfl (fun j hj => j_cov _ _ 8 (by decide) j hj) hk2 hP1 (by rw [jbi_b cI cJ aa an iv (upd iv yy v) kp py (Nat.lt_succ_self i)]; rfl) (fun j hj => jbi_n cI cJ aa an iv (upd iv yy v) kp py hj)
      generalize H2 = H at hP hS ⊢
      have hP : va_P (dC, dI) vwCl ([((ax 0), .inr (1, [.ref (ax 1), .ref (ax 2), .int (nI n), .int (nI mo)])), ((ax 1), .inl (cO, 20, .inr (.inr (.inr (.inr (jao aa n)))))), ((ax 2), .inl (cI, 20, .inl (upd iv yy v)))] ++ jBl (jbi cI cJ aa an iv (upd iv yy v) kp py (i + 1)) n) H := hP
      have hD : va_D A ([((ax 0), .inr (1, [.ref (ax 1), .ref (ax 2), .int (nI n), .int (nI mo)])), ((ax 1), .inl (cO, 20, .inr (.inr (.inr (.inr (jao aa n)))))), ((ax 2), .inl (cI, 20, .inl (upd iv yy v)))] ++ jBl (jbi cI cJ aa an iv (upd iv yy v) kp py (i + 1)) n) := hD
      refine lv_iinc (v := nI (i + 1)) (lv' := [(6, .int (nI (i + 1))), (7, .ref (aa i 0)), (0, .ref (ax 0)), (1, .int (nI yy)), (2, .int v), (3, .int (iv yy)), (4, .ref (ax 1)), (5, .int (nI 20))]) hx hb dX1_setInflation_72 hl (k := 7) rfl (by exact nI_add _ 1) (by decide) rfl (fun ls hl => ?_)
      refine lv_goto (tgt := 44) hx hb dX1_setInflation_75 (by decide) ?_
      exact IH (i + 1) H locs ls (show i + 1 ≤ 20 by omega) (show 20 - (i + 1) < 20 - i by omega) hP hD hS (lv_sub hl [2, 3, 4, 5, 6, 7, 0] rfl)
    · refine j_v (y := .null) (by rw [nI_clamp (by omega), show jao aa n i = none from if_neg hi]; rfl) ?_
      refine lv_astoreN (lv' := [(7, .null), (0, .ref (ax 0)), (1, .int (nI yy)), (2, .int v), (3, .int (iv yy)), (4, .ref (ax 1)), (5, .int (nI 20)), (6, .int (nI i))]) hx hb dX1_setInflation_56 hl (by decide) rfl (fun ls hl => ?_)
      refine lv_aloadN hx hb dX1_setInflation_58 (lv_at hl 0 rfl) ?_
      refine lv_ifnullN (tgt := 72) hx hb dX1_setInflation_60 (by decide) ?_
      have e9 : jBl (jbi cI cJ aa an iv (upd iv yy v) kp py i) n = jBl (jbi cI cJ aa an iv (upd iv yy v) kp py (i + 1)) n := jBl_congr (fun j hj => (jbi_n cI cJ aa an iv (upd iv yy v) kp py (show j ≠ i by omega)).symm)
      rw [e9] at hP hD
      have hP : va_P (dC, dI) vwCl ([((ax 0), .inr (1, [.ref (ax 1), .ref (ax 2), .int (nI n), .int (nI mo)])), ((ax 1), .inl (cO, 20, .inr (.inr (.inr (.inr (jao aa n)))))), ((ax 2), .inl (cI, 20, .inl (upd iv yy v)))] ++ jBl (jbi cI cJ aa an iv (upd iv yy v) kp py (i + 1)) n) H := hP
      have hD : va_D A ([((ax 0), .inr (1, [.ref (ax 1), .ref (ax 2), .int (nI n), .int (nI mo)])), ((ax 1), .inl (cO, 20, .inr (.inr (.inr (.inr (jao aa n)))))), ((ax 2), .inl (cI, 20, .inl (upd iv yy v)))] ++ jBl (jbi cI cJ aa an iv (upd iv yy v) kp py (i + 1)) n) := hD
      refine lv_iinc (v := nI (i + 1)) (lv' := [(6, .int (nI (i + 1))), (7, .null), (0, .ref (ax 0)), (1, .int (nI yy)), (2, .int v), (3, .int (iv yy)), (4, .ref (ax 1)), (5, .int (nI 20))]) hx hb dX1_setInflation_72 hl (k := 7) rfl (by exact nI_add _ 1) (by decide) rfl (fun ls hl => ?_)
      refine lv_goto (tgt := 44) hx hb dX1_setInflation_75 (by decide) ?_
      exact IH (i + 1) H locs ls (show i + 1 ≤ 20 by omega) (show 20 - (i + 1) < 20 - i by omega) hP hD hS (lv_sub hl [2, 3, 4, 5, 6, 7, 0] rfl)
set_option maxHeartbeats 4000000 in
set_option maxRecDepth 100000 in
/-- all months have been run -/
theorem x1_X1_run (l : Launch) (dC : Nat → ClassId) (dI : Nat → Nat → Nat) (cI cJ cZ cO : ClassId) (ax : Nat → Nat) (n mo : Nat) (hst : l.stackTraces = false) (hm : mo = 240) : vx_Met l yX1_run wsX1_run ({ frames := 6, cells := 1, slots := 6, locals := 82 }) (va_Pc [.ref (ax 0)] (jRX (dC, dI) (jTY cI cJ cZ cO) [jXo ax n mo])) (jFQ) (jXC eS) 1 6 (fun _ => False) := by
  refine j_ofx (cc := cX1_run) (maxL := 7) (ret := (some .long)) (by decide) rfl (Nat.le_of_ble_eq_true rfl) ?_
  intro p e s m below meth c ls hx hb hr hml hts hown hlocks htab hl hpre
  have hown : s.vm.findClass RX1 = some m.cls := hown
  have hl : lv_has ls 7 [(0, .ref (ax 0))] := hl
  obtain ⟨⟨hP, hK⟩, hX⟩ := hpre
  refine lv_aload_n hx hb dX1_run_0 rfl (lv_at hl 0 rfl) ?_
  refine va_get (D := (dC, dI)) (ci := 1) (v := .int (nI mo)) (C := RX1) (T := TX1) (N := 4) hx hb hts (fun _ h => List.mem_cons_of_mem _ (List.mem_append_left _ (List.mem_append_left _ (List.mem_append_right _ h)))) hown hK hP 0 rfl rfl 3 (by decide) (hts (.fieldLink RX1 23 "JointAnnuity" "monthThatGoesOn" "I") (List.mem_of_getElem? (i := 3) rfl)) (fun _ h9 => h9) rfl dX1_run_1 ?_
  refine lv_sipush (v := nI 240) hx hb dX1_run_4 (by decide) ?_
  refine lv_icmp_lt (tgt := 20) hx hb dX1_run_7 (by decide) (fun c_7 => ?_) (fun c_7 => ?_)
  · have c_7 : mo < 240 := (nI_ltI (a := mo) (b := 240) (by omega) (by omega)).mp c_7
    omega
  · have c_7 : ¬ (mo < 240) := fun h => c_7 ((nI_ltI (a := mo) (b := 240) (by omega) (by omega)).mpr h)
    exact j_throw (E := eS) hx hb hst hown (by decide +kernel) (by simp) (hts (.classLink RX1 31 "java/lang/IllegalStateException") (List.mem_of_getElem? (i := 1) rfl)) (hts (.initialized "java/lang/IllegalStateException") (List.mem_of_getElem? (i := 2) rfl)) (fun w h => hts w (List.mem_cons_of_mem _ (List.mem_append_right _ h))) jgS jbS hX (List.mem_of_getElem? (i := 3) rfl) hl hml dX1_run_10 dX1_run_13 dX1_run_14 dX1_run_16 dX1_run_19 htab (Nat.le_of_ble_eq_true rfl) (Nat.le_of_ble_eq_true rfl) (Nat.le_of_ble_eq_true rfl) (Nat.le_of_ble_eq_true rfl) hlocks
set_option maxHeartbeats 4000000 in
set_option maxRecDepth 100000 in
/-- a month is run -/
theorem c_X1_run (l : Launch) (dC : Nat → ClassId) (dI : Nat → Nat → Nat) (cI cJ cZ cO : ClassId) (ax : Nat → Nat) (n mo : Nat) (iv : Nat → Int32) (aa an : Nat → Nat → Nat) (kp : Nat → Int64) (py : Nat → Nat → Int64) (hv : ∀ k, k < n → jV (an k)) (hn : n ≤ 20) (hm : mo < 240) : Met l yX1_run wsX1_run ({ frames := 6, cells := 0, slots := 0, locals := 139 }) (va_Pc [.ref (ax 0)] (jW (dC, dI) (jTY cI cJ cZ cO) (jX3 cI cO ax (jao aa n) n mo iv ++ jBl (jbk cI cJ aa an iv kp py) n))) (va_Ql (fun r (_ : Unit) => r = jSum (jZ an iv mo kp) n) (fun _ t => va_P (dC, dI) vwCl (jX3 cI cO ax (jao aa n) n (mo + 1) iv ++ jBl (jbk cI cJ aa an iv (fun j => kp j + jZ an iv mo kp j) (fun j => vp_updL (py j) mo (jZ an iv mo kp j))) n) t.heap) (jA (jX3 cI cO ax (jao aa n) n mo iv ++ jBl (jbk cI cJ aa an iv kp py) n))) 0 0 (jA (jX3 cI cO ax (jao aa n) n mo iv ++ jBl (jbk cI cJ aa an iv kp py) n)) := by
  refine j_of (cc := cX1_run) (maxL := 7) (ret := (some .long)) (by decide) rfl (Nat.le_of_ble_eq_true rfl) ?_
  intro p e s m below meth c ls hx hb hr hml hts hown hlocks hnm hl hpre
  have hown : s.vm.findClass RX1 = some m.cls := hown
  have hl : lv_has ls 7 [(0, .ref (ax 0))] := hl
  obtain ⟨hP, hK, hD0⟩ := hpre
  have hD := hD0.jA
  generalize hAe : jA (jX3 cI cO ax (jao aa n) n mo iv ++ jBl (jbk cI cJ aa an iv kp py) n) = A at hD ⊢
  have hS : va_S A s.heap s.heap [] := va_S.rf
  refine lv_aload_n hx hb dX1_run_0 rfl (lv_at hl 0 rfl) ?_
  refine va_get (D := (dC, dI)) (ci := 1) (v := .int (nI mo)) (C := RX1) (T := TX1) (N := 4) hx hb hts (fun _ h => List.mem_cons_of_mem _ (List.mem_append_left _ (List.mem_append_left _ (List.mem_append_right _ h)))) hown hK hP 0 rfl rfl 3 (by decide) (hts (.fieldLink RX1 23 "JointAnnuity" "monthThatGoesOn" "I") (List.mem_of_getElem? (i := 3) rfl)) (fun _ h9 => h9) rfl dX1_run_1 ?_
  refine lv_sipush (v := nI 240) hx hb dX1_run_4 (by decide) ?_
  refine lv_icmp_lt (tgt := 20) hx hb dX1_run_7 (by decide) (fun c_7 => ?_) (fun c_7 => ?_)
  · have c_7 : mo < 240 := (nI_ltI (a := mo) (b := 240) (by omega) (by omega)).mp c_7
    refine lv_lconst (v := lN 0) hx hb dX1_run_20 (by decide) ?_
    refine j_l (y := jSum (jZ an iv mo kp) (min 0 n)) (by rw [Nat.zero_min]; rfl) ?_
    refine lv_lstore_n (lv' := [(1, .long (jSum (jZ an iv mo kp) (min 0 n))), (0, .ref (ax 0))]) hx hb dX1_run_21 rfl hl (by decide) rfl (fun ls hl => ?_)
    refine lv_aload_n hx hb dX1_run_22 rfl (lv_at hl 1 rfl) ?_
    refine va_get (D := (dC, dI)) (ci := 1) (v := .ref (ax 1)) (C := RX1) (T := TX1) (N := 4) hx hb hts (fun _ h => List.mem_cons_of_mem _ (List.mem_append_left _ (List.mem_append_left _ (List.mem_append_right _ h)))) hown hK hP 0 rfl rfl 0 (by decide) (hts (.fieldLink RX1 11 "JointAnnuity" "annuities" "[LJointAnnuity$Annuity;") (List.mem_of_getElem? (i := 4) rfl)) (fun _ h9 => h9) rfl dX1_run_23 ?_
    refine lv_astore_n (lv' := [(3, .ref (ax 1)), (1, .long (jSum (jZ an iv mo kp) (min 0 n))), (0, .ref (ax 0))]) hx hb dX1_run_26 rfl hl (by decide) rfl (fun ls hl => ?_)
    refine lv_aload_n hx hb dX1_run_27 rfl (lv_at hl 0 rfl) ?_
    refine va_alen hx hb hK hP 1 3 (v := nI 20) rfl rfl rfl dX1_run_28 ?_
    refine lv_istore (lv' := [(4, .int (nI 20)), (3, .ref (ax 1)), (1, .long (jSum (jZ an iv mo kp) (min 0 n))), (0, .ref (ax 0))]) hx hb dX1_run_29 hl (by decide) rfl (fun ls hl => ?_)
    refine lv_iconst (v := nI 0) hx hb dX1_run_31 (by decide) ?_
    refine lv_istore (lv' := [(5, .int (nI 0)), (4, .int (nI 20)), (3, .ref (ax 1)), (1, .long (jSum (jZ an iv mo kp) (min 0 n))), (0, .ref (ax 0))]) hx hb dX1_run_32 hl (by decide) rfl (fun ls hl => ?_)
    have e0 : jBl (jbk cI cJ aa an iv kp py) n = jBl (jbk cI cJ aa an iv (jki kp (jZ an iv mo kp) 0) (jpi py (jZ an iv mo kp) mo 0)) n := jBl_congr (fun j hj => by dsimp only [jbk]; rw [jki_a kp _ (Nat.zero_le j), jpi_a py _ mo (Nat.zero_le j)])
    rw [e0] at hP hD
    have hP : va_P (dC, dI) vwCl ([((ax 0), .inr (1, [.ref (ax 1), .ref (ax 2), .int (nI n), .int (nI mo)])), ((ax 1), .inl (cO, 20, .inr (.inr (.inr (.inr (jao aa n)))))), ((ax 2), .inl (cI, 20, .inl (iv)))] ++ jBl (jbk cI cJ aa an iv (jki kp (jZ an iv mo kp) 0) (jpi py (jZ an iv mo kp) mo 0)) n) s.heap := hP
    have hD : va_D A ([((ax 0), .inr (1, [.ref (ax 1), .ref (ax 2), .int (nI n), .int (nI mo)])), ((ax 1), .inl (cO, 20, .inr (.inr (.inr (.inr (jao aa n)))))), ((ax 2), .inl (cI, 20, .inl (iv)))] ++ jBl (jbk cI cJ aa an iv (jki kp (jZ an iv mo kp) 0) (jpi py (jZ an iv mo kp) mo 0)) n) := hD
    refine j_loopW (I := fun i : Nat => i ≤ 20) (μ := fun i => 20 - i) (lv := fun i => [(0, .ref (ax 0)), (1, .long (jSum (jZ an iv mo kp) (min i n))), (3, .ref (ax 1)), (4, .int (nI 20)), (5, .int (nI i))]) (w := fun i => ([((ax 0), .inr (1, [.ref (ax 1), .ref (ax 2), .int (nI n), .int (nI mo)])), ((ax 1), .inl (cO, 20, .inr (.inr (.inr (.inr (jao aa n)))))), ((ax 2), .inl (cI, 20, .inl (iv)))] ++ jBl (jbk cI cJ aa an iv (jki kp (jZ an iv mo kp) i) (jpi py (jZ an iv mo kp) mo i)) n)) 0 (Nat.zero_le _) (lv_sub hl [4, 3, 2, 1, 0] rfl) hP hD hS ?_
    intro i H locs ls hI hP hD hS hl IH
    have hl : lv_has ls 7 [(0, .ref (ax 0)), (1, .long (jSum (jZ an iv mo kp) (min i n))), (3, .ref (ax 1)), (4, .int (nI 20)), (5, .int (nI i))] := hl
    have hP : va_P (dC, dI) vwCl ([((ax 0), .inr (1, [.ref (ax 1), .ref (ax 2), .int (nI n), .int (nI mo)])), ((ax 1), .inl (cO, 20, .inr (.inr (.inr (.inr (jao aa n)))))), ((ax 2), .inl (cI, 20, .inl (iv)))] ++ jBl (jbk cI cJ aa an iv (jki kp (jZ an iv mo kp) i) (jpi py (jZ an iv mo kp) mo i)) n) H := hP
    have hD : va_D A ([((ax 0), .inr (1, [.ref (ax 1), .ref (ax 2), .int (nI n), .int (nI mo)])), ((ax 1), .inl (cO, 20, .inr (.inr (.inr (.inr (jao aa n)))))), ((ax 2), .inl (cI, 20, .inl (iv)))] ++ jBl (jbk cI cJ aa an iv (jki kp (jZ an iv mo kp) i) (jpi py (jZ an iv mo kp) mo i)) n) := hD
    have hI : i ≤ 20 := hI
    refine lv_iload hx hb dX1_run_34 (lv_at hl 4 rfl) ?_
    refine lv_iload hx hb dX1_run_36 (lv_at hl 3 rfl) ?_
    refine lv_icmp_ge (tgt := 70) hx hb dX1_run_38 (by decide) (fun c_38 => ?_) (fun c_38 => ?_)
    · have c_38 : 20 ≤ i := (nI_leI (a := 20) (b := i) (by omega) (by omega)).mp c_38
      have hin : min i n = n := by omega
      have e9 : jBl (jbk cI cJ aa an iv (jki kp (jZ an iv mo kp) i) (jpi py (jZ an iv mo kp) mo i)) n = jBl (jbk cI cJ aa an iv (fun j => kp j + jZ an iv mo kp j) (fun j => vp_updL (py j) mo (jZ an iv mo kp j))) n := jBl_congr (fun j hj => by dsimp only [jbk]; rw [jki_b kp _ (show j < i by omega), jpi_b py _ mo (show j < i by omega)])
      rw [e9] at hP hD
      have hP : va_P (dC, dI) vwCl ([((ax 0), .inr (1, [.ref (ax 1), .ref (ax 2), .int (nI n), .int (nI mo)])), ((ax 1), .inl (cO, 20, .inr (.inr (.inr (.inr (jao aa n)))))), ((ax 2), .inl (cI, 20, .inl (iv)))] ++ jBl (jbk cI cJ aa an iv (fun j => kp j + jZ an iv mo kp j) (fun j => vp_updL (py j) mo (jZ an iv mo kp j))) n) H := hP
      have hD : va_D A ([((ax 0), .inr (1, [.ref (ax 1), .ref (ax 2), .int (nI n), .int (nI mo)])), ((ax 1), .inl (cO, 20, .inr (.inr (.inr (.inr (jao aa n)))))), ((ax 2), .inl (cI, 20, .inl (iv)))] ++ jBl (jbk cI cJ aa an iv (fun j => kp j + jZ an iv mo kp j) (fun j => vp_updL (py j) mo (jZ an iv mo kp j))) n) := hD
      refine lv_aload_n hx hb dX1_run_70 rfl (lv_at hl 0 rfl) ?_
      refine lv_dup hx hb dX1_run_71 rfl ?_
      refine va_get (D := (dC, dI)) (ci := 1) (v := .int (nI mo)) (C := RX1) (T := TX1) (N := 4) hx hb hts (fun _ h => List.mem_cons_of_mem _ (List.mem_append_left _ (List.mem_append_left _ (List.mem_append_right _ h)))) hown hK hP 0 rfl rfl 3 (by decide) (hts (.fieldLink RX1 23 "JointAnnuity" "monthThatGoesOn" "I") (List.mem_of_getElem? (i := 3) rfl)) (fun _ h9 => h9) rfl dX1_run_72 ?_
      refine lv_iconst (v := nI 1) hx hb dX1_run_75 (by decide) ?_
      refine lv_iadd hx hb dX1_run_76 ?_
      refine j_i (y := nI (mo + 1)) (nI_add _ _) ?_
      refine va_put (D := (dC, dI)) (ci := 1) (v := .int (nI (mo + 1))) (ty := .int) (C := RX1) (T := TX1) (N := 4) hx hb hts (fun _ h => List.mem_cons_of_mem _ (List.mem_append_left _ (List.mem_append_left _ (List.mem_append_right _ h)))) tyX1 tyX1_ok nmX1 hown hK hP hD hS 0 rfl rfl 3 (by decide) (hts (.fieldLink RX1 23 "JointAnnuity" "monthThatGoesOn" "I") (List.mem_of_getElem? (i := 3) rfl)) (fun _ h9 => h9) rfl (by decide +kernel) rfl rfl (Nat.le_of_ble_eq_true rfl) dX1_run_77 (fun H locs hP hD hS => ?_)
      have hP : va_P (dC, dI) vwCl ([((ax 0), .inr (1, [.ref (ax 1), .ref (ax 2), .int (nI n), .int (nI (mo + 1))])), ((ax 1), .inl (cO, 20, .inr (.inr (.inr (.inr (jao aa n)))))), ((ax 2), .inl (cI, 20, .inl (iv)))] ++ jBl (jbk cI cJ aa an iv (fun j => kp j + jZ an iv mo kp j) (fun j => vp_updL (py j) mo (jZ an iv mo kp j))) n) H := hP
      have hD : va_D A ([((ax 0), .inr (1, [.ref (ax 1), .ref (ax 2), .int (nI n), .int (nI (mo + 1))])), ((ax 1), .inl (cO, 20, .inr (.inr (.inr (.inr (jao aa n)))))), ((ax 2), .inl (cI, 20, .inl (iv)))] ++ jBl (jbk cI cJ aa an iv (fun j => kp j + jZ an iv mo kp j) (fun j => vp_updL (py j) mo (jZ an iv mo kp j))) n) := hD
      refine lv_lload_n hx hb dX1_run_80 rfl (lv_at hl 1 rfl) ?_
      exact W.lret (v := jSum (jZ an iv mo kp) (min i n)) hx hb hr (fun t ht hW => ⟨⟨_, (), rfl, by rw [hin], j_h ht hP⟩, hS.F ht⟩) hS.2.2 dX1_run_81
    · have c_38 : ¬ (20 ≤ i) := fun h => c_38 ((nI_leI (a := 20) (b := i) (by omega) (by omega)).mpr h)
      refine lv_aload_n hx hb dX1_run_41 rfl (lv_at hl 2 rfl) ?_
      refine lv_iload hx hb dX1_run_42 (lv_at hl 4 rfl) ?_
      refine va_aldq hx hb hK hP 1 3 (f := jao aa n) rfl rfl (vp_in_nI (n := i) (N := 20) (by omega) (by omega)) dX1_run_44 ?_
      by_cases hi : i < n
      · refine j_v (y := .ref (aa i 0)) (by rw [nI_clamp (by omega), show jao aa n i = some (aa i 0) from if_pos hi]; rfl) ?_
        refine lv_astore (lv' := [(6, .ref (aa i 0)), (0, .ref (ax 0)), (1, .long (jSum (jZ an iv mo kp) (min i n))), (3, .ref (ax 1)), (4, .int (nI 20)), (5, .int (nI i))]) hx hb dX1_run_45 hl (by decide) rfl (fun ls hl => ?_)
        refine lv_aload hx hb dX1_run_47 (lv_at hl 0 rfl) ?_
        refine lv_ifnull hx hb dX1_run_49 ?_
        refine lv_lload_n hx hb dX1_run_52 rfl (lv_at hl 2 rfl) ?_
        refine lv_aload hx hb dX1_run_53 (lv_at hl 0 rfl) ?_
        refine lv_aload_n hx hb dX1_run_55 rfl (lv_at hl 1 rfl) ?_
        refine va_get (D := (dC, dI)) (ci := 1) (v := .int (nI mo)) (C := RX1) (T := TX1) (N := 4) hx hb hts (fun _ h => List.mem_cons_of_mem _ (List.mem_append_left _ (List.mem_append_left _ (List.mem_append_right _ h)))) hown hK hP 0 rfl rfl 3 (by decide) (hts (.fieldLink RX1 23 "JointAnnuity" "monthThatGoesOn" "I") (List.mem_of_getElem? (i := 3) rfl)) (fun _ h9 => h9) rfl dX1_run_56 ?_
        have hPf : va_P (dC, dI) vwCl [((ax 0), .inr (1, [.ref (ax 1), .ref (ax 2), .int (nI n), .int (nI mo)])), ((ax 1), .inl (cO, 20, .inr (.inr (.inr (.inr (jao aa n)))))), ((ax 2), .inl (cI, 20, .inl (iv))), ((aa i 0), .inr (0, [.int (nI (an i 0)), .int (nI (an i 1)), .int (nI (an i 0 + an i 2)), .int (nI (an i 3)), .int (nI (an i 4)), .int (nI (an i 5)), .int (nI (an i 6)), .int (nI (an i 7)), .ref (aa i 1), .ref (aa i 2), .ref (aa i 3), .ref (aa i 4), .long (kp i)])), ((aa i 1), .inl (cI, 2, .inl (fun j => nI (if j = 0 then an i 8 else an i 9)))), ((aa i 2), .inl (cI, 20, .inl (fun j => nI (jF (an i) iv j)))), ((aa i 3), .inl (cI, 20, .inl (fun j => jC (an i) iv j))), ((aa i 4), .inl (cJ, 240, .inr (.inl (py i))))] H := by
          have h := j_subP hP (j_focus0 hi)
          dsimp only [jbk] at h
          rw [jki_a kp _ (Nat.le_refl i), jpi_a py _ mo (Nat.le_refl i)] at h
          exact h
        have hDf : va_D A [((ax 0), .inr (1, [.ref (ax 1), .ref (ax 2), .int (nI n), .int (nI mo)])), ((ax 1), .inl (cO, 20, .inr (.inr (.inr (.inr (jao aa n)))))), ((ax 2), .inl (cI, 20, .inl (iv))), ((aa i 0), .inr (0, [.int (nI (an i 0)), .int (nI (an i 1)), .int (nI (an i 0 + an i 2)), .int (nI (an i 3)), .int (nI (an i 4)), .int (nI (an i 5)), .int (nI (an i 6)), .int (nI (an i 7)), .ref (aa i 1), .ref (aa i 2), .ref (aa i 3), .ref (aa i 4), .long (kp i)])), ((aa i 1), .inl (cI, 2, .inl (fun j => nI (if j = 0 then an i 8 else an i 9)))), ((aa i 2), .inl (cI, 20, .inl (fun j => nI (jF (an i) iv j)))), ((aa i 3), .inl (cI, 20, .inl (fun j => jC (an i) iv j))), ((aa i 4), .inl (cJ, 240, .inr (.inl (py i))))] := by
          have h := j_subD hD (j_focus0 hi)
          dsimp only [jbk] at h
          rw [jki_a kp _ (Nat.le_refl i), jpi_a py _ mo (Nat.le_refl i)] at h
          exact h
        refine j_gL (As := [.int (nI mo)]) (rest := [.long (jSum (jZ an iv mo kp) (min i n))]) ⟨hx, hb, hml, hown, hts⟩ (c_X0_payIn l dC dI cI cJ cZ cO (aa i) (an i) iv (kp i) (py i) mo (hv i hi) hm) (cwV 1 hts gX1_run_X0_payIn rfl rfl rfl (by decide +kernel) ⟨Nat.le_of_ble_eq_true rfl, Nat.le_of_ble_eq_true rfl⟩) (jW_V hK hPf hDf [3, 4, 5, 6, 7] (by decide) rfl (ci := 0) (q0 := 3) rfl rfl rfl) rfl hl rfl (Nat.le_of_ble_eq_true rfl) dX1_run_59 ⟨Nat.le_of_ble_eq_true rfl, Nat.le_of_ble_eq_true rfl⟩ hS (fun q h => jA_sub hDf [3, 4, 5, 6, 7] rfl q h) (fun r u H2 locs hu hP1 hk2 hS => ?_)
        obtain ⟨hP, hD⟩ := j_backm (X := [((ax 0), .inr (1, [.ref (ax 1), .ref (ax 2), .int (nI n), .int (nI mo)])), ((ax 1), .inl (cO, 20, .inr (.inr (.inr (.inr (jao aa n)))))), ((ax 2), .inl (cI, 20, .inl (iv)))]) (blk := jbk cI cJ aa an iv (jki kp (jZ an iv mo kp) i) (jpi py (jZ an iv mo kp) mo i)) (blk' := jbk cI cJ aa an iv (jki kp (jZ an iv mo kp) (i + 1)) (jpi py (jZ an iv mo kp) mo (i + 1))) (F := [((ax 0), .inr (1, [.ref (ax 1), .ref (ax 2), .int (nI n), .int (nI mo)])), ((ax 1), .inl (cO, 20, .inr (.inr (.inr (.inr (jao aa n)))))), ((ax 2), .inl (cI, 20, .inl (iv))), ((aa i 0), .inr (0, [.int (nI (an i 0)), .int (nI (an i 1)), .int (nI (an i 0 + an i 2)), .int (nI (an i 3)), .int (nI (an i 4)), .int (nI (an i 5)), .int (nI (an i 6)), .int (nI (an i 7)), .ref (aa i 1), .ref (aa i 2), .ref (aa i 3), .ref (aa i 4), .long (kp i)])), ((aa i 1), .inl (cI, 2, .inl (fun j => nI (if j = 0 then an i 8 else an i 9)))), ((aa i 2), .inl (cI, 20, .inl (fun j => nI (jF (an i) iv j)))), ((aa i 3), .inl (cI, 20, .inl (fun j => jC (an i) iv j))), ((aa i 4), .inl (cJ, 240, .inr (.inl (py i))))]) (F' := [((ax 0), .inr (1, [.ref (ax 1), .ref (ax 2), .int (nI n), .int (nI mo)])), ((ax 1), .inl (cO, 20, .inr (.inr (.inr (.inr (jao aa n)))))), ((ax 2), .inl (cI, 20, .inl (iv))), ((aa i 0), .inr (0, [.int (nI (an i 0)), .int (nI (an i 1)), .int (nI (an i 0 + an i 2)), .int (nI (an i 3)), .int (nI (an i 4)), .int (nI (an i 5)), .int (nI (an i 6)), .int (nI (an i 7)), .ref (aa i 1), .ref (aa i 2), .ref (aa i 3), .ref (aa i 4), .long (kp i + jZ an iv mo kp i)])), ((aa i 1), .inl (cI, 2, .inl (fun j => nI (if j = 0 then an i 8 else an i 9)))), ((aa i 2), .inl (cI, 20, .inl (fun j => nI (jF (an i) iv j)))), ((aa i 3), .inl (cI, 20, .inl (fun j => jC (an i) iv j))), ((aa i 4), .inl (cJ, 240, .inr (.inl (vp_updL (py i) mo (jZ an iv mo kp i)))))]) hi hP hD (by dsimp only [jbk]; rw [jki_a kp _ (Nat.le_refl i), jpi_a py _ mo (Nat.le_refl i)]; rfl) [3, 4, 5, 6, 7] [0, 1, 2] rfl rfl [(ax 0), (ax 1), (ax 2), (aa i 0), (aa i 1), (aa i 2), (aa i 3), (aa i 4)] rfl rfl [((ax 0), .inr (1, [.ref (ax 1), .ref (ax 2), .int (nI n), .int (nI mo)])), ((ax 1), .inl (cO, 20, .inr (.inr (.inr (.inr (jao aa n)))))), ((ax 2), .inl (cI, 20, .inl (iv)))] rfl rfl (fun j hj => j_cov _ _ 8 (by decide) j hj) hk2 hP1 (by dsimp only [jbk]; rw [jki_b kp _ (Nat.lt_succ_self i), jpi_b py _ mo (Nat.lt_succ_self i)]; rfl) (fun j hj => by dsimp only [jbk]; rw [jki_n kp _ hj, jpi_n py _ mo hj])
        generalize H2 = H at hP hS ⊢
        subst hu
        refine j_l (y := jZ an iv mo kp i) rfl ?_
        have hP : va_P (dC, dI) vwCl ([((ax 0), .inr (1, [.ref (ax 1), .ref (ax 2), .int (nI n), .int (nI mo)])), ((ax 1), .inl (cO, 20, .inr (.inr (.inr (.inr (jao aa n)))))), ((ax 2), .inl (cI, 20, .inl (iv)))] ++ jBl (jbk cI cJ aa an iv (jki kp (jZ an iv mo kp) (i + 1)) (jpi py (jZ an iv mo kp) mo (i + 1))) n) H := hP
        have hD : va_D A ([((ax 0), .inr (1, [.ref (ax 1), .ref (ax 2), .int (nI n), .int (nI mo)])), ((ax 1), .inl (cO, 20, .inr (.inr (.inr (.inr (jao aa n)))))), ((ax 2), .inl (cI, 20, .inl (iv)))] ++ jBl (jbk cI cJ aa an iv (jki kp (jZ an iv mo kp) (i + 1)) (jpi py (jZ an iv mo kp) mo (i + 1))) n) := hD
        refine lv_ladd hx hb dX1_run_62 ?_
        refine j_l (y := jSum (jZ an iv mo kp) (min (i + 1) n)) (by rw [show min (i + 1) n = i + 1 by omega, show min i n = i by omega]; rfl) ?_
        refine lv_lstore_n (lv' := [(1, .long (jSum (jZ an iv mo kp) (min (i + 1) n))), (6, .ref (aa i 0)), (0, .ref (ax 0)), (3, .ref (ax 1)), (4, .int (nI 20)), (5, .int (nI i))]) hx hb dX1_run_63 rfl hl (by decide) rfl (fun ls hl => ?_)
        refine lv_iinc (v := nI (i + 1)) (lv' := [(5, .int (nI (i + 1))), (1, .long (jSum (jZ an iv mo kp) (min (i + 1) n))), (6, .ref (aa i 0)), (0, .ref (ax 0)), (3, .ref (ax 1)), (4, .int (nI 20))]) hx hb dX1_run_64 hl (k := 5) rfl (by exact nI_add _ 1) (by decide) rfl (fun ls hl => ?_)
        refine lv_goto (tgt := 34) hx hb dX1_run_67 (by decide) ?_
        exact IH (i + 1) H locs ls (show i + 1 ≤ 20 by omega) (show 20 - (i + 1) < 20 - i by omega) hP hD hS (lv_sub hl [3, 1, 4, 5, 0] rfl)
      · refine j_v (y := .null) (by rw [nI_clamp (by omega), show jao aa n i = none from if_neg hi]; rfl) ?_
        refine lv_astoreN (lv' := [(6, .null), (0, .ref (ax 0)), (1, .long (jSum (jZ an iv mo kp) (min i n))), (3, .ref (ax 1)), (4, .int (nI 20)), (5, .int (nI i))]) hx hb dX1_run_45 hl (by decide) rfl (fun ls hl => ?_)
        refine lv_aloadN hx hb dX1_run_47 (lv_at hl 0 rfl) ?_
        refine lv_ifnullN (tgt := 64) hx hb dX1_run_49 (by decide) ?_
        have e9 : jBl (jbk cI cJ aa an iv (jki kp (jZ an iv mo kp) i) (jpi py (jZ an iv mo kp) mo i)) n = jBl (jbk cI cJ aa an iv (jki kp (jZ an iv mo kp) (i + 1)) (jpi py (jZ an iv mo kp) mo (i + 1))) n := jBl_congr (fun j hj => by dsimp only [jbk]; rw [jki_n kp _ (show j ≠ i by omega), jpi_n py _ mo (show j ≠ i by omega)])
        rw [e9] at hP hD
        have hP : va_P (dC, dI) vwCl ([((ax 0), .inr (1, [.ref (ax 1), .ref (ax 2), .int (nI n), .int (nI mo)])), ((ax 1), .inl (cO, 20, .inr (.inr (.inr (.inr (jao aa n)))))), ((ax 2), .inl (cI, 20, .inl (iv)))] ++ jBl (jbk cI cJ aa an iv (jki kp (jZ an iv mo kp) (i + 1)) (jpi py (jZ an iv mo kp) mo (i + 1))) n) H := hP
        have hD : va_D A ([((ax 0), .inr (1, [.ref (ax 1), .ref (ax 2), .int (nI n), .int (nI mo)])), ((ax 1), .inl (cO, 20, .inr (.inr (.inr (.inr (jao aa n)))))), ((ax 2), .inl (cI, 20, .inl (iv)))] ++ jBl (jbk cI cJ aa an iv (jki kp (jZ an iv mo kp) (i + 1)) (jpi py (jZ an iv mo kp) mo (i + 1))) n) := hD
        have hl : lv_has ls 7 [(6, .null), (0, .ref (ax 0)), (1, .long (jSum (jZ an iv mo kp) (min (i + 1) n))), (3, .ref (ax 1)), (4, .int (nI 20)), (5, .int (nI i))] := by rw [show min (i + 1) n = min i n by omega]; exact hl
        refine lv_iinc (v := nI (i + 1)) (lv' := [(5, .int (nI (i + 1))), (6, .null), (0, .ref (ax 0)), (1, .long (jSum (jZ an iv mo kp) (min (i + 1) n))), (3, .ref (ax 1)), (4, .int (nI 20))]) hx hb dX1_run_64 hl (k := 5) rfl (by exact nI_add _ 1) (by decide) rfl (fun ls hl => ?_)
        refine lv_goto (tgt := 34) hx hb dX1_run_67 (by decide) ?_
        exact IH (i + 1) H locs ls (show i + 1 ≤ 20 by omega) (show 20 - (i + 1) < 20 - i by omega) hP hD hS (lv_sub hl [2, 3, 4, 5, 0] rfl)
  · have c_7 : ¬ (mo < 240) := fun h => c_7 ((nI_ltI (a := mo) (b := 240) (by omega) (by omega)).mpr h)
    omega
