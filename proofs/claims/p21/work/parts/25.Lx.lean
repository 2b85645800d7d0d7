/-! the law's own methods: what is refused -/
set_option maxHeartbeats 4000000 in
set_option maxRecDepth 100000 in
/-- the law calls paidInAll: refused -/
theorem x1_L_paidAll (l : Launch) (dC : Nat → ClassId) (dI : Nat → Nat → Nat) (cI cJ cZ cO : ClassId) (ax : Nat → Nat) (ao : Nat → Option Nat) (n mo : Nat) (p0 : Int32) (hst : l.stackTraces = false) (hn : n ≤ 20) (hao : ∀ j, n ≤ j → ao j = none) (hb0 : ¬ vp_in p0 n)  : Met l yL_paidAll wsL_paidAll ({ frames := 8, cells := 1, slots := 6, locals := 125 }) (va_Pc [.ref (ax 0), .int p0] (jRX (dC, dI) (jTY cI cJ cZ cO) ([jXo ax n mo, jXa cO ax ao]))) (va_Ql (fun r (_ : Unit) => r = (-101)) (fun _ _ => True) (fun _ => False)) 1 6 (fun _ => False) := by
  refine j_ofh (cc := cL_paidAll) (maxL := 3) (ret := (some .long)) (by decide) rfl (Nat.le_of_ble_eq_true rfl) ?_
  intro p e s m below meth c ls hx hb hr hml hts hown hlocks htab hl hpre
  have hown : s.vm.findClass RL = some m.cls := hown
  have hl : lv_has ls 3 [(0, .ref (ax 0)), (1, .int p0)] := hl
  obtain ⟨⟨hP, hK⟩, hX⟩ := hpre
  refine lv_aload_n hx hb dL_paidAll_0 rfl (lv_at hl 0 rfl) ?_
  refine lv_iload_n hx hb dL_paidAll_1 rfl (lv_at hl 1 rfl) ?_
  refine j_try (As := [.int p0]) (rest := []) (E := eO) (name := "java/lang/IndexOutOfBoundsException") ⟨hx, hb, hml, hown, hts⟩ (x1_X1_paidInAll l dC dI cI cJ cZ cO ax ao n mo p0 hst hn hao hb0) (cwV 1 hts gL_paidAll_X1_paidInAll rfl rfl rfl (by decide +kernel) ⟨Nat.le_of_ble_eq_true rfl, Nat.le_of_ble_eq_true rfl⟩) (jRX_V hX hK hP [0, 1] rfl (ci := 1) (q0 := 0) rfl rfl rfl) rfl hl rfl (Nat.le_of_ble_eq_true rfl) dL_paidAll_2 ⟨Nat.le_of_ble_eq_true rfl, Nat.le_of_ble_eq_true rfl⟩ [] ⟨0, 5, 6, 23⟩ [] (htab.trans rfl) (List.forall_mem_nil _) (by decide +kernel) (by decide) (hts (.classLink RL 23 "java/lang/IndexOutOfBoundsException") (List.mem_of_getElem? (i := 1) rfl)) (va_Nw.use rfl (hX.2.2.2.1 eO (by simp))) (fun q9 H hz9 hk9 => ?_)
  refine lv_astore_n (lv' := [(2, .ref q9), (0, .ref (ax 0)), (1, .int p0)]) hx hb dL_paidAll_6 rfl hl (by decide) rfl (fun ls hl => ?_)
  refine lv_ldc2 hx hb hown (hts (.constantLong RL 53 (-101)) (List.mem_of_getElem? (i := 2) rfl)) dL_paidAll_7 ?_
  refine W.widen (k := 1) (n := 6) (by decide) (by decide) ?_
  exact W.lret (v := -101) hx hb hr (fun t ht hW => ⟨⟨_, (), rfl, rfl, trivial⟩, by rw [ht]; exact hz9, fun q h1 _ => by rw [ht]; exact hk9 q h1⟩) (fun _ h => by cases h) dL_paidAll_10
set_option maxHeartbeats 4000000 in
set_option maxRecDepth 100000 in
/-- the law calls owes: refused -/
theorem x1_L_owes (l : Launch) (dC : Nat → ClassId) (dI : Nat → Nat → Nat) (cI cJ cZ cO : ClassId) (ax : Nat → Nat) (ao : Nat → Option Nat) (n mo : Nat) (p0 : Int32) (hst : l.stackTraces = false) (hn : n ≤ 20) (hao : ∀ j, n ≤ j → ao j = none) (hb0 : ¬ vp_in p0 n)  : Met l yL_owes wsL_owes ({ frames := 8, cells := 1, slots := 6, locals := 125 }) (va_Pc [.ref (ax 0), .int p0] (jRX (dC, dI) (jTY cI cJ cZ cO) ([jXo ax n mo, jXa cO ax ao]))) (va_Ql (fun r (_ : Unit) => r = (-101)) (fun _ _ => True) (fun _ => False)) 1 6 (fun _ => False) := by
  refine j_ofh (cc := cL_owes) (maxL := 3) (ret := (some .long)) (by decide) rfl (Nat.le_of_ble_eq_true rfl) ?_
  intro p e s m below meth c ls hx hb hr hml hts hown hlocks htab hl hpre
  have hown : s.vm.findClass RL = some m.cls := hown
  have hl : lv_has ls 3 [(0, .ref (ax 0)), (1, .int p0)] := hl
  obtain ⟨⟨hP, hK⟩, hX⟩ := hpre
  refine lv_aload_n hx hb dL_owes_0 rfl (lv_at hl 0 rfl) ?_
  refine lv_iload_n hx hb dL_owes_1 rfl (lv_at hl 1 rfl) ?_
  refine j_try (As := [.int p0]) (rest := []) (E := eO) (name := "java/lang/IndexOutOfBoundsException") ⟨hx, hb, hml, hown, hts⟩ (x1_X1_owes l dC dI cI cJ cZ cO ax ao n mo p0 hst hn hao hb0) (cwV 1 hts gL_owes_X1_owes rfl rfl rfl (by decide +kernel) ⟨Nat.le_of_ble_eq_true rfl, Nat.le_of_ble_eq_true rfl⟩) (jRX_V hX hK hP [0, 1] rfl (ci := 1) (q0 := 0) rfl rfl rfl) rfl hl rfl (Nat.le_of_ble_eq_true rfl) dL_owes_2 ⟨Nat.le_of_ble_eq_true rfl, Nat.le_of_ble_eq_true rfl⟩ [] ⟨0, 5, 6, 23⟩ [] (htab.trans rfl) (List.forall_mem_nil _) (by decide +kernel) (by decide) (hts (.classLink RL 23 "java/lang/IndexOutOfBoundsException") (List.mem_of_getElem? (i := 1) rfl)) (va_Nw.use rfl (hX.2.2.2.1 eO (by simp))) (fun q9 H hz9 hk9 => ?_)
  refine lv_astore_n (lv' := [(2, .ref q9), (0, .ref (ax 0)), (1, .int p0)]) hx hb dL_owes_6 rfl hl (by decide) rfl (fun ls hl => ?_)
  refine lv_ldc2 hx hb hown (hts (.constantLong RL 53 (-101)) (List.mem_of_getElem? (i := 2) rfl)) dL_owes_7 ?_
  refine W.widen (k := 1) (n := 6) (by decide) (by decide) ?_
  exact W.lret (v := -101) hx hb hr (fun t ht hW => ⟨⟨_, (), rfl, rfl, trivial⟩, by rw [ht]; exact hz9, fun q h1 _ => by rw [ht]; exact hk9 q h1⟩) (fun _ h => by cases h) dL_owes_10
set_option maxHeartbeats 4000000 in
set_option maxRecDepth 100000 in
/-- the law calls protection: refused -/
theorem x1_L_protection (l : Launch) (dC : Nat → ClassId) (dI : Nat → Nat → Nat) (cI cJ cZ cO : ClassId) (ax : Nat → Nat) (ao : Nat → Option Nat) (n mo : Nat) (p0 : Int32) (hst : l.stackTraces = false) (hn : n ≤ 20) (hao : ∀ j, n ≤ j → ao j = none) (hb0 : ¬ vp_in p0 n)  : Met l yL_protection wsL_protection ({ frames := 8, cells := 1, slots := 6, locals := 125 }) (va_Pc [.ref (ax 0), .int p0] (jRX (dC, dI) (jTY cI cJ cZ cO) ([jXo ax n mo, jXa cO ax ao]))) (va_Ql (fun r (_ : Unit) => r = (-101)) (fun _ _ => True) (fun _ => False)) 1 6 (fun _ => False) := by
  refine j_ofh (cc := cL_protection) (maxL := 3) (ret := (some .long)) (by decide) rfl (Nat.le_of_ble_eq_true rfl) ?_
  intro p e s m below meth c ls hx hb hr hml hts hown hlocks htab hl hpre
  have hown : s.vm.findClass RL = some m.cls := hown
  have hl : lv_has ls 3 [(0, .ref (ax 0)), (1, .int p0)] := hl
  obtain ⟨⟨hP, hK⟩, hX⟩ := hpre
  refine lv_aload_n hx hb dL_protection_0 rfl (lv_at hl 0 rfl) ?_
  refine lv_iload_n hx hb dL_protection_1 rfl (lv_at hl 1 rfl) ?_
  refine j_try (As := [.int p0]) (rest := []) (E := eO) (name := "java/lang/IndexOutOfBoundsException") ⟨hx, hb, hml, hown, hts⟩ (x1_X1_protection l dC dI cI cJ cZ cO ax ao n mo p0 hst hn hao hb0) (cwV 1 hts gL_protection_X1_protection rfl rfl rfl (by decide +kernel) ⟨Nat.le_of_ble_eq_true rfl, Nat.le_of_ble_eq_true rfl⟩) (jRX_V hX hK hP [0, 1] rfl (ci := 1) (q0 := 0) rfl rfl rfl) rfl hl rfl (Nat.le_of_ble_eq_true rfl) dL_protection_2 ⟨Nat.le_of_ble_eq_true rfl, Nat.le_of_ble_eq_true rfl⟩ [] ⟨0, 5, 6, 23⟩ [] (htab.trans rfl) (List.forall_mem_nil _) (by decide +kernel) (by decide) (hts (.classLink RL 23 "java/lang/IndexOutOfBoundsException") (List.mem_of_getElem? (i := 1) rfl)) (va_Nw.use rfl (hX.2.2.2.1 eO (by simp))) (fun q9 H hz9 hk9 => ?_)
  refine lv_astore_n (lv' := [(2, .ref q9), (0, .ref (ax 0)), (1, .int p0)]) hx hb dL_protection_6 rfl hl (by decide) rfl (fun ls hl => ?_)
  refine lv_ldc2 hx hb hown (hts (.constantLong RL 53 (-101)) (List.mem_of_getElem? (i := 2) rfl)) dL_protection_7 ?_
  refine W.widen (k := 1) (n := 6) (by decide) (by decide) ?_
  exact W.lret (v := -101) hx hb hr (fun t ht hW => ⟨⟨_, (), rfl, rfl, trivial⟩, by rw [ht]; exact hz9, fun q h1 _ => by rw [ht]; exact hk9 q h1⟩) (fun _ h => by cases h) dL_protection_10
set_option maxHeartbeats 4000000 in
set_option maxRecDepth 100000 in
/-- the law calls paid: refused -/
theorem x2_L_paid (l : Launch) (dC : Nat → ClassId) (dI : Nat → Nat → Nat) (cI cJ cZ cO : ClassId) (ax : Nat → Nat) (ao : Nat → Option Nat) (n mo : Nat) (iv : Nat → Int32) (aa an : Nat → Nat) (kp : Int64) (py : Nat → Int64) (k : Nat) (p1 : Int32) (hst : l.stackTraces = false) (hv : jV an) (hm : mo ≤ 240) (hk : k < 20) (hao : ao k = some (aa 0)) (h : p1 < nI 0 ∨ nI mo - nI 1 < p1)  : Met l yL_paid wsL_paid ({ frames := 8, cells := 1, slots := 6, locals := 127 }) (va_Pc [.ref (ax 0), .int (nI k), .int p1] (jRX (dC, dI) (jTY cI cJ cZ cO) (jFW cI cJ cO ax ao n mo iv aa an kp py))) (va_Ql (fun r (_ : Unit) => r = (-102)) (fun _ _ => True) (fun _ => False)) 1 6 (fun _ => False) := by
  refine j_ofh (cc := cL_paid) (maxL := 4) (ret := (some .long)) (by decide) rfl (Nat.le_of_ble_eq_true rfl) ?_
  intro p e s m below meth c ls hx hb hr hml hts hown hlocks htab hl hpre
  have hown : s.vm.findClass RL = some m.cls := hown
  have hl : lv_has ls 4 [(0, .ref (ax 0)), (1, .int (nI k)), (2, .int p1)] := hl
  obtain ⟨⟨hP, hK⟩, hX⟩ := hpre
  refine lv_aload_n hx hb dL_paid_0 rfl (lv_at hl 0 rfl) ?_
  refine lv_iload_n hx hb dL_paid_1 rfl (lv_at hl 1 rfl) ?_
  refine lv_iload_n hx hb dL_paid_2 rfl (lv_at hl 2 rfl) ?_
  refine j_try (As := [.int (nI k), .int p1]) (rest := []) (E := eA) (name := "java/lang/IllegalArgumentException") ⟨hx, hb, hml, hown, hts⟩ (x2_X1_paid l dC dI cI cJ cZ cO ax ao n mo iv aa an kp py k p1 hst hv hm hk hao h) (cwV 2 hts gL_paid_X1_paid rfl rfl rfl (by decide +kernel) ⟨Nat.le_of_ble_eq_true rfl, Nat.le_of_ble_eq_true rfl⟩) (jRX_V hX hK hP [0, 1, 2, 3, 4, 5, 6, 7] rfl (ci := 1) (q0 := 0) rfl rfl rfl) rfl hl rfl (Nat.le_of_ble_eq_true rfl) dL_paid_3 ⟨Nat.le_of_ble_eq_true rfl, Nat.le_of_ble_eq_true rfl⟩ [⟨0, 6, 7, 23⟩] ⟨0, 6, 12, 15⟩ [] (htab.trans rfl) (List.forall_mem_cons.mpr ⟨Or.inr ⟨by decide, _, (hts (.classLink RL 23 "java/lang/IndexOutOfBoundsException") (List.mem_of_getElem? (i := 1) rfl)), hX.2.2.2.2.2 eA (by simp) eO (by simp) (by decide)⟩, List.forall_mem_nil _⟩) (by decide +kernel) (by decide) (hts (.classLink RL 15 "java/lang/IllegalArgumentException") (List.mem_of_getElem? (i := 2) rfl)) (va_Nw.use rfl (hX.2.2.2.1 eA (by simp))) (fun q9 H hz9 hk9 => ?_)
  refine lv_astore_n (lv' := [(3, .ref q9), (0, .ref (ax 0)), (1, .int (nI k)), (2, .int p1)]) hx hb dL_paid_12 rfl hl (by decide) rfl (fun ls hl => ?_)
  refine lv_ldc2 hx hb hown (hts (.constantLong RL 55 (-102)) (List.mem_of_getElem? (i := 4) rfl)) dL_paid_13 ?_
  refine W.widen (k := 1) (n := 6) (by decide) (by decide) ?_
  exact W.lret (v := -102) hx hb hr (fun t ht hW => ⟨⟨_, (), rfl, rfl, trivial⟩, by rw [ht]; exact hz9, fun q h1 _ => by rw [ht]; exact hk9 q h1⟩) (fun _ h => by cases h) dL_paid_16
set_option maxHeartbeats 4000000 in
set_option maxRecDepth 100000 in
/-- the law calls fullAmount: refused -/
theorem x2_L_full (l : Launch) (dC : Nat → ClassId) (dI : Nat → Nat → Nat) (cI cJ cZ cO : ClassId) (ax : Nat → Nat) (ao : Nat → Option Nat) (n mo : Nat) (iv : Nat → Int32) (aa an : Nat → Nat) (kp : Int64) (py : Nat → Int64) (k : Nat) (p1 : Int32) (hst : l.stackTraces = false) (hv : jV an) (hm : mo ≤ 240) (hk : k < 20) (hao : ao k = some (aa 0)) (h : p1 < nI 0 ∨ nI 239 < p1)  : Met l yL_full wsL_full ({ frames := 9, cells := 1, slots := 6, locals := 147 }) (va_Pc [.ref (ax 0), .int (nI k), .int p1] (jRX (dC, dI) (jTY cI cJ cZ cO) (jFW cI cJ cO ax ao n mo iv aa an kp py))) (va_Qi (fun r (_ : Unit) => r = (-102)) (fun _ _ => True) (fun _ => False)) 1 6 (fun _ => False) := by
  refine j_ofh (cc := cL_full) (maxL := 4) (ret := (some .int)) (by decide) rfl (Nat.le_of_ble_eq_true rfl) ?_
  intro p e s m below meth c ls hx hb hr hml hts hown hlocks htab hl hpre
  have hown : s.vm.findClass RL = some m.cls := hown
  have hl : lv_has ls 4 [(0, .ref (ax 0)), (1, .int (nI k)), (2, .int p1)] := hl
  obtain ⟨⟨hP, hK⟩, hX⟩ := hpre
  refine lv_aload_n hx hb dL_full_0 rfl (lv_at hl 0 rfl) ?_
  refine lv_iload_n hx hb dL_full_1 rfl (lv_at hl 1 rfl) ?_
  refine lv_iload_n hx hb dL_full_2 rfl (lv_at hl 2 rfl) ?_
  refine j_try (As := [.int (nI k), .int p1]) (rest := []) (E := eA) (name := "java/lang/IllegalArgumentException") ⟨hx, hb, hml, hown, hts⟩ (x2_X1_fullAmount l dC dI cI cJ cZ cO ax ao n mo iv aa an kp py k p1 hst hv hm hk hao h) (cwV 2 hts gL_full_X1_fullAmount rfl rfl rfl (by decide +kernel) ⟨Nat.le_of_ble_eq_true rfl, Nat.le_of_ble_eq_true rfl⟩) (jRX_V hX hK hP [0, 1, 2, 3, 4, 5, 6, 7] rfl (ci := 1) (q0 := 0) rfl rfl rfl) rfl hl rfl (Nat.le_of_ble_eq_true rfl) dL_full_3 ⟨Nat.le_of_ble_eq_true rfl, Nat.le_of_ble_eq_true rfl⟩ [⟨0, 6, 7, 23⟩] ⟨0, 6, 11, 15⟩ [] (htab.trans rfl) (List.forall_mem_cons.mpr ⟨Or.inr ⟨by decide, _, (hts (.classLink RL 23 "java/lang/IndexOutOfBoundsException") (List.mem_of_getElem? (i := 1) rfl)), hX.2.2.2.2.2 eA (by simp) eO (by simp) (by decide)⟩, List.forall_mem_nil _⟩) (by decide +kernel) (by decide) (hts (.classLink RL 15 "java/lang/IllegalArgumentException") (List.mem_of_getElem? (i := 2) rfl)) (va_Nw.use rfl (hX.2.2.2.1 eA (by simp))) (fun q9 H hz9 hk9 => ?_)
  refine lv_astore_n (lv' := [(3, .ref q9), (0, .ref (ax 0)), (1, .int (nI k)), (2, .int p1)]) hx hb dL_full_11 rfl hl (by decide) rfl (fun ls hl => ?_)
  refine lv_bipush (v := (-102)) hx hb dL_full_12 (by decide) ?_
  refine W.widen (k := 1) (n := 6) (by decide) (by decide) ?_
  exact W.iret (v := -102) hx hb hr (fun t ht hW => ⟨⟨_, (), rfl, rfl, trivial⟩, by rw [ht]; exact hz9, fun q h1 _ => by rw [ht]; exact hk9 q h1⟩) (fun _ h => by cases h) dL_full_14
set_option maxHeartbeats 4000000 in
set_option maxRecDepth 100000 in
/-- the law calls entitled: refused -/
theorem x2_L_entitled (l : Launch) (dC : Nat → ClassId) (dI : Nat → Nat → Nat) (cI cJ cZ cO : ClassId) (ax : Nat → Nat) (ao : Nat → Option Nat) (n mo : Nat) (iv : Nat → Int32) (aa an : Nat → Nat) (kp : Int64) (py : Nat → Int64) (k : Nat) (p1 : Int32) (hst : l.stackTraces = false) (hv : jV an) (hm : mo ≤ 240) (hk : k < 20) (hao : ao k = some (aa 0)) (h : p1 < nI 0 ∨ nI 239 < p1)  : Met l yL_entitled wsL_entitled ({ frames := 9, cells := 1, slots := 6, locals := 147 }) (va_Pc [.ref (ax 0), .int (nI k), .int p1] (jRX (dC, dI) (jTY cI cJ cZ cO) (jFW cI cJ cO ax ao n mo iv aa an kp py))) (va_Ql (fun r (_ : Unit) => r = (-102)) (fun _ _ => True) (fun _ => False)) 1 6 (fun _ => False) := by
  refine j_ofh (cc := cL_entitled) (maxL := 4) (ret := (some .long)) (by decide) rfl (Nat.le_of_ble_eq_true rfl) ?_
  intro p e s m below meth c ls hx hb hr hml hts hown hlocks htab hl hpre
  have hown : s.vm.findClass RL = some m.cls := hown
  have hl : lv_has ls 4 [(0, .ref (ax 0)), (1, .int (nI k)), (2, .int p1)] := hl
  obtain ⟨⟨hP, hK⟩, hX⟩ := hpre
  refine lv_aload_n hx hb dL_entitled_0 rfl (lv_at hl 0 rfl) ?_
  refine lv_iload_n hx hb dL_entitled_1 rfl (lv_at hl 1 rfl) ?_
  refine lv_iload_n hx hb dL_entitled_2 rfl (lv_at hl 2 rfl) ?_
  refine j_try (As := [.int (nI k), .int p1]) (rest := []) (E := eA) (name := "java/lang/IllegalArgumentException") ⟨hx, hb, hml, hown, hts⟩ (x2_X1_entitled l dC dI cI cJ cZ cO ax ao n mo iv aa an kp py k p1 hst hv hm hk hao h) (cwV 2 hts gL_entitled_X1_entitled rfl rfl rfl (by decide +kernel) ⟨Nat.le_of_ble_eq_true rfl, Nat.le_of_ble_eq_true rfl⟩) (jRX_V hX hK hP [0, 1, 2, 3, 4, 5, 6, 7] rfl (ci := 1) (q0 := 0) rfl rfl rfl) rfl hl rfl (Nat.le_of_ble_eq_true rfl) dL_entitled_3 ⟨Nat.le_of_ble_eq_true rfl, Nat.le_of_ble_eq_true rfl⟩ [⟨0, 6, 7, 23⟩] ⟨0, 6, 12, 15⟩ [] (htab.trans rfl) (List.forall_mem_cons.mpr ⟨Or.inr ⟨by decide, _, (hts (.classLink RL 23 "java/lang/IndexOutOfBoundsException") (List.mem_of_getElem? (i := 1) rfl)), hX.2.2.2.2.2 eA (by simp) eO (by simp) (by decide)⟩, List.forall_mem_nil _⟩) (by decide +kernel) (by decide) (hts (.classLink RL 15 "java/lang/IllegalArgumentException") (List.mem_of_getElem? (i := 2) rfl)) (va_Nw.use rfl (hX.2.2.2.1 eA (by simp))) (fun q9 H hz9 hk9 => ?_)
  refine lv_astore_n (lv' := [(3, .ref q9), (0, .ref (ax 0)), (1, .int (nI k)), (2, .int p1)]) hx hb dL_entitled_12 rfl hl (by decide) rfl (fun ls hl => ?_)
  refine lv_ldc2 hx hb hown (hts (.constantLong RL 55 (-102)) (List.mem_of_getElem? (i := 4) rfl)) dL_entitled_13 ?_
  refine W.widen (k := 1) (n := 6) (by decide) (by decide) ?_
  exact W.lret (v := -102) hx hb hr (fun t ht hW => ⟨⟨_, (), rfl, rfl, trivial⟩, by rw [ht]; exact hz9, fun q h1 _ => by rw [ht]; exact hk9 q h1⟩) (fun _ h => by cases h) dL_entitled_16
set_option maxHeartbeats 4000000 in
set_option maxRecDepth 100000 in
/-- the law calls entitledUpTo: refused -/
theorem x2_L_upTo (l : Launch) (dC : Nat → ClassId) (dI : Nat → Nat → Nat) (cI cJ cZ cO : ClassId) (ax : Nat → Nat) (ao : Nat → Option Nat) (n mo : Nat) (iv : Nat → Int32) (aa an : Nat → Nat) (kp : Int64) (py : Nat → Int64) (k : Nat) (p1 : Int32) (hst : l.stackTraces = false) (hv : jV an) (hm : mo ≤ 240) (hk : k < 20) (hao : ao k = some (aa 0)) (h : p1 < nI 0 ∨ nI 239 < p1)  : Met l yL_upTo wsL_upTo ({ frames := 9, cells := 1, slots := 6, locals := 147 }) (va_Pc [.ref (ax 0), .int (nI k), .int p1] (jRX (dC, dI) (jTY cI cJ cZ cO) (jFW cI cJ cO ax ao n mo iv aa an kp py))) (va_Ql (fun r (_ : Unit) => r = (-102)) (fun _ _ => True) (fun _ => False)) 1 6 (fun _ => False) := by
  refine j_ofh (cc := cL_upTo) (maxL := 4) (ret := (some .long)) (by decide) rfl (Nat.le_of_ble_eq_true rfl) ?_
  intro p e s m below meth c ls hx hb hr hml hts hown hlocks htab hl hpre
  have hown : s.vm.findClass RL = some m.cls := hown
  have hl : lv_has ls 4 [(0, .ref (ax 0)), (1, .int (nI k)), (2, .int p1)] := hl
  obtain ⟨⟨hP, hK⟩, hX⟩ := hpre
  refine lv_aload_n hx hb dL_upTo_0 rfl (lv_at hl 0 rfl) ?_
  refine lv_iload_n hx hb dL_upTo_1 rfl (lv_at hl 1 rfl) ?_
  refine lv_iload_n hx hb dL_upTo_2 rfl (lv_at hl 2 rfl) ?_
  refine j_try (As := [.int (nI k), .int p1]) (rest := []) (E := eA) (name := "java/lang/IllegalArgumentException") ⟨hx, hb, hml, hown, hts⟩ (x2_X1_entitledUpTo l dC dI cI cJ cZ cO ax ao n mo iv aa an kp py k p1 hst hv hm hk hao h) (cwV 2 hts gL_upTo_X1_entitledUpTo rfl rfl rfl (by decide +kernel) ⟨Nat.le_of_ble_eq_true rfl, Nat.le_of_ble_eq_true rfl⟩) (jRX_V hX hK hP [0, 1, 2, 3, 4, 5, 6, 7] rfl (ci := 1) (q0 := 0) rfl rfl rfl) rfl hl rfl (Nat.le_of_ble_eq_true rfl) dL_upTo_3 ⟨Nat.le_of_ble_eq_true rfl, Nat.le_of_ble_eq_true rfl⟩ [⟨0, 6, 7, 23⟩] ⟨0, 6, 12, 15⟩ [] (htab.trans rfl) (List.forall_mem_cons.mpr ⟨Or.inr ⟨by decide, _, (hts (.classLink RL 23 "java/lang/IndexOutOfBoundsException") (List.mem_of_getElem? (i := 1) rfl)), hX.2.2.2.2.2 eA (by simp) eO (by simp) (by decide)⟩, List.forall_mem_nil _⟩) (by decide +kernel) (by decide) (hts (.classLink RL 15 "java/lang/IllegalArgumentException") (List.mem_of_getElem? (i := 2) rfl)) (va_Nw.use rfl (hX.2.2.2.1 eA (by simp))) (fun q9 H hz9 hk9 => ?_)
  refine lv_astore_n (lv' := [(3, .ref q9), (0, .ref (ax 0)), (1, .int (nI k)), (2, .int p1)]) hx hb dL_upTo_12 rfl hl (by decide) rfl (fun ls hl => ?_)
  refine lv_ldc2 hx hb hown (hts (.constantLong RL 55 (-102)) (List.mem_of_getElem? (i := 4) rfl)) dL_upTo_13 ?_
  refine W.widen (k := 1) (n := 6) (by decide) (by decide) ?_
  exact W.lret (v := -102) hx hb hr (fun t ht hW => ⟨⟨_, (), rfl, rfl, trivial⟩, by rw [ht]; exact hz9, fun q h1 _ => by rw [ht]; exact hk9 q h1⟩) (fun _ h => by cases h) dL_upTo_16
set_option maxHeartbeats 4000000 in
set_option maxRecDepth 100000 in
/-- the law calls die: refused -/
theorem x3_0_L_die (l : Launch) (dC : Nat → ClassId) (dI : Nat → Nat → Nat) (cI cJ cZ cO : ClassId) (ax : Nat → Nat) (ao : Nat → Option Nat) (n mo : Nat) (iv : Nat → Int32) (aa an : Nat → Nat) (kp : Int64) (py : Nat → Int64) (k : Nat) (v : Nat) (hst : l.stackTraces = false) (hv : jV an) (hm : mo ≤ 240) (hk : k < 20) (hao : ao k = some (aa 0)) (h1 : v ≤ mo) (h2 : v ≤ 239) (ht9 : an 8 ≠ 240)  : Met l yL_die wsL_die ({ frames := 7, cells := 1, slots := 6, locals := 106 }) (va_Pc [.ref (ax 0), .int (nI k), .int (nI 0), .int (nI v)] (jRX (dC, dI) (jTY cI cJ cZ cO) (jFW cI cJ cO ax ao n mo iv aa an kp py))) (va_Qi (fun r (_ : Unit) => r = (-103)) (fun _ _ => True) (fun _ => False)) 1 6 (fun _ => False) := by
  refine j_ofh (cc := cL_die) (maxL := 5) (ret := (some .int)) (by decide) rfl (Nat.le_of_ble_eq_true rfl) ?_
  intro p e s m below meth c ls hx hb hr hml hts hown hlocks htab hl hpre
  have hown : s.vm.findClass RL = some m.cls := hown
  have hl : lv_has ls 5 [(0, .ref (ax 0)), (1, .int (nI k)), (2, .int (nI 0)), (3, .int (nI v))] := hl
  obtain ⟨⟨hP, hK⟩, hX⟩ := hpre
  refine lv_aload_n hx hb dL_die_0 rfl (lv_at hl 0 rfl) ?_
  refine lv_iload_n hx hb dL_die_1 rfl (lv_at hl 1 rfl) ?_
  refine lv_iload_n hx hb dL_die_2 rfl (lv_at hl 2 rfl) ?_
  refine lv_iload_n hx hb dL_die_3 rfl (lv_at hl 3 rfl) ?_
  refine j_try (As := [.int (nI k), .int (nI 0), .int (nI v)]) (rest := []) (E := eS) (name := "java/lang/IllegalStateException") ⟨hx, hb, hml, hown, hts⟩ (x3_0_X1_die l dC dI cI cJ cZ cO ax ao n mo iv aa an kp py k v hst hv hm hk hao h1 h2 ht9) (cwV 3 hts gL_die_X1_die rfl rfl rfl (by decide +kernel) ⟨Nat.le_of_ble_eq_true rfl, Nat.le_of_ble_eq_true rfl⟩) (jRX_V hX hK hP [0, 1, 2, 3, 4, 5, 6, 7] rfl (ci := 1) (q0 := 0) rfl rfl rfl) rfl hl rfl (Nat.le_of_ble_eq_true rfl) dL_die_4 ⟨Nat.le_of_ble_eq_true rfl, Nat.le_of_ble_eq_true rfl⟩ [⟨0, 7, 10, 23⟩, ⟨0, 7, 15, 15⟩] ⟨0, 7, 20, 17⟩ [] (htab.trans rfl) (List.forall_mem_cons.mpr ⟨Or.inr ⟨by decide, _, (hts (.classLink RL 23 "java/lang/IndexOutOfBoundsException") (List.mem_of_getElem? (i := 1) rfl)), hX.2.2.2.2.2 eS (by simp) eO (by simp) (by decide)⟩, List.forall_mem_cons.mpr ⟨Or.inr ⟨by decide, _, (hts (.classLink RL 15 "java/lang/IllegalArgumentException") (List.mem_of_getElem? (i := 2) rfl)), hX.2.2.2.2.2 eS (by simp) eA (by simp) (by decide)⟩, List.forall_mem_nil _⟩⟩) (by decide +kernel) (by decide) (hts (.classLink RL 17 "java/lang/IllegalStateException") (List.mem_of_getElem? (i := 3) rfl)) (va_Nw.use rfl (hX.2.2.2.1 eS (by simp))) (fun q9 H hz9 hk9 => ?_)
  refine lv_astore (lv' := [(4, .ref q9), (0, .ref (ax 0)), (1, .int (nI k)), (2, .int (nI 0)), (3, .int (nI v))]) hx hb dL_die_20 hl (by decide) rfl (fun ls hl => ?_)
  refine lv_bipush (v := (-103)) hx hb dL_die_22 (by decide) ?_
  refine W.widen (k := 1) (n := 6) (by decide) (by decide) ?_
  exact W.iret (v := -103) hx hb hr (fun t ht hW => ⟨⟨_, (), rfl, rfl, trivial⟩, by rw [ht]; exact hz9, fun q h1 _ => by rw [ht]; exact hk9 q h1⟩) (fun _ h => by cases h) dL_die_24
set_option maxHeartbeats 4000000 in
set_option maxRecDepth 100000 in
/-- the law calls die: refused -/
theorem x3_1_L_die (l : Launch) (dC : Nat → ClassId) (dI : Nat → Nat → Nat) (cI cJ cZ cO : ClassId) (ax : Nat → Nat) (ao : Nat → Option Nat) (n mo : Nat) (iv : Nat → Int32) (aa an : Nat → Nat) (kp : Int64) (py : Nat → Int64) (k : Nat) (v : Nat) (hst : l.stackTraces = false) (hv : jV an) (hm : mo ≤ 240) (hk : k < 20) (hao : ao k = some (aa 0)) (h1 : v ≤ mo) (h2 : v ≤ 239) (ht9 : an 9 ≠ 240)  : Met l yL_die wsL_die ({ frames := 7, cells := 1, slots := 6, locals := 106 }) (va_Pc [.ref (ax 0), .int (nI k), .int (nI 1), .int (nI v)] (jRX (dC, dI) (jTY cI cJ cZ cO) (jFW cI cJ cO ax ao n mo iv aa an kp py))) (va_Qi (fun r (_ : Unit) => r = (-103)) (fun _ _ => True) (fun _ => False)) 1 6 (fun _ => False) := by
  refine j_ofh (cc := cL_die) (maxL := 5) (ret := (some .int)) (by decide) rfl (Nat.le_of_ble_eq_true rfl) ?_
  intro p e s m below meth c ls hx hb hr hml hts hown hlocks htab hl hpre
  have hown : s.vm.findClass RL = some m.cls := hown
  have hl : lv_has ls 5 [(0, .ref (ax 0)), (1, .int (nI k)), (2, .int (nI 1)), (3, .int (nI v))] := hl
  obtain ⟨⟨hP, hK⟩, hX⟩ := hpre
  refine lv_aload_n hx hb dL_die_0 rfl (lv_at hl 0 rfl) ?_
  refine lv_iload_n hx hb dL_die_1 rfl (lv_at hl 1 rfl) ?_
  refine lv_iload_n hx hb dL_die_2 rfl (lv_at hl 2 rfl) ?_
  refine lv_iload_n hx hb dL_die_3 rfl (lv_at hl 3 rfl) ?_
  refine j_try (As := [.int (nI k), .int (nI 1), .int (nI v)]) (rest := []) (E := eS) (name := "java/lang/IllegalStateException") ⟨hx, hb, hml, hown, hts⟩ (x3_1_X1_die l dC dI cI cJ cZ cO ax ao n mo iv aa an kp py k v hst hv hm hk hao h1 h2 ht9) (cwV 3 hts gL_die_X1_die rfl rfl rfl (by decide +kernel) ⟨Nat.le_of_ble_eq_true rfl, Nat.le_of_ble_eq_true rfl⟩) (jRX_V hX hK hP [0, 1, 2, 3, 4, 5, 6, 7] rfl (ci := 1) (q0 := 0) rfl rfl rfl) rfl hl rfl (Nat.le_of_ble_eq_true rfl) dL_die_4 ⟨Nat.le_of_ble_eq_true rfl, Nat.le_of_ble_eq_true rfl⟩ [⟨0, 7, 10, 23⟩, ⟨0, 7, 15, 15⟩] ⟨0, 7, 20, 17⟩ [] (htab.trans rfl) (List.forall_mem_cons.mpr ⟨Or.inr ⟨by decide, _, (hts (.classLink RL 23 "java/lang/IndexOutOfBoundsException") (List.mem_of_getElem? (i := 1) rfl)), hX.2.2.2.2.2 eS (by simp) eO (by simp) (by decide)⟩, List.forall_mem_cons.mpr ⟨Or.inr ⟨by decide, _, (hts (.classLink RL 15 "java/lang/IllegalArgumentException") (List.mem_of_getElem? (i := 2) rfl)), hX.2.2.2.2.2 eS (by simp) eA (by simp) (by decide)⟩, List.forall_mem_nil _⟩⟩) (by decide +kernel) (by decide) (hts (.classLink RL 17 "java/lang/IllegalStateException") (List.mem_of_getElem? (i := 3) rfl)) (va_Nw.use rfl (hX.2.2.2.1 eS (by simp))) (fun q9 H hz9 hk9 => ?_)
  refine lv_astore (lv' := [(4, .ref q9), (0, .ref (ax 0)), (1, .int (nI k)), (2, .int (nI 1)), (3, .int (nI v))]) hx hb dL_die_20 hl (by decide) rfl (fun ls hl => ?_)
  refine lv_bipush (v := (-103)) hx hb dL_die_22 (by decide) ?_
  refine W.widen (k := 1) (n := 6) (by decide) (by decide) ?_
  exact W.iret (v := -103) hx hb hr (fun t ht hW => ⟨⟨_, (), rfl, rfl, trivial⟩, by rw [ht]; exact hz9, fun q h1 _ => by rw [ht]; exact hk9 q h1⟩) (fun _ h => by cases h) dL_die_24
set_option maxHeartbeats 4000000 in
set_option maxRecDepth 100000 in
/-- the law calls takeBack: refused -/
theorem x3_0_L_takeBack (l : Launch) (dC : Nat → ClassId) (dI : Nat → Nat → Nat) (cI cJ cZ cO : ClassId) (ax : Nat → Nat) (ao : Nat → Option Nat) (n mo : Nat) (iv : Nat → Int32) (aa an : Nat → Nat) (kp : Int64) (py : Nat → Int64) (k : Nat) (hst : l.stackTraces = false) (hv : jV an) (hm : mo ≤ 240) (hk : k < 20) (hao : ao k = some (aa 0)) (ht9 : an 8 = 240)  : Met l yL_takeBack wsL_takeBack ({ frames := 7, cells := 1, slots := 6, locals := 106 }) (va_Pc [.ref (ax 0), .int (nI k), .int (nI 0)] (jRX (dC, dI) (jTY cI cJ cZ cO) (jFW cI cJ cO ax ao n mo iv aa an kp py))) (va_Qi (fun r (_ : Unit) => r = (-103)) (fun _ _ => True) (fun _ => False)) 1 6 (fun _ => False) := by
  refine j_ofh (cc := cL_takeBack) (maxL := 4) (ret := (some .int)) (by decide) rfl (Nat.le_of_ble_eq_true rfl) ?_
  intro p e s m below meth c ls hx hb hr hml hts hown hlocks htab hl hpre
  have hown : s.vm.findClass RL = some m.cls := hown
  have hl : lv_has ls 4 [(0, .ref (ax 0)), (1, .int (nI k)), (2, .int (nI 0))] := hl
  obtain ⟨⟨hP, hK⟩, hX⟩ := hpre
  refine lv_aload_n hx hb dL_takeBack_0 rfl (lv_at hl 0 rfl) ?_
  refine lv_iload_n hx hb dL_takeBack_1 rfl (lv_at hl 1 rfl) ?_
  refine lv_iload_n hx hb dL_takeBack_2 rfl (lv_at hl 2 rfl) ?_
  refine j_try (As := [.int (nI k), .int (nI 0)]) (rest := []) (E := eS) (name := "java/lang/IllegalStateException") ⟨hx, hb, hml, hown, hts⟩ (x3_0_X1_takeBack l dC dI cI cJ cZ cO ax ao n mo iv aa an kp py k hst hv hm hk hao ht9) (cwV 2 hts gL_takeBack_X1_takeBack rfl rfl rfl (by decide +kernel) ⟨Nat.le_of_ble_eq_true rfl, Nat.le_of_ble_eq_true rfl⟩) (jRX_V hX hK hP [0, 1, 2, 3, 4, 5, 6, 7] rfl (ci := 1) (q0 := 0) rfl rfl rfl) rfl hl rfl (Nat.le_of_ble_eq_true rfl) dL_takeBack_3 ⟨Nat.le_of_ble_eq_true rfl, Nat.le_of_ble_eq_true rfl⟩ [⟨0, 6, 7, 23⟩, ⟨0, 6, 11, 15⟩] ⟨0, 6, 15, 17⟩ [] (htab.trans rfl) (List.forall_mem_cons.mpr ⟨Or.inr ⟨by decide, _, (hts (.classLink RL 23 "java/lang/IndexOutOfBoundsException") (List.mem_of_getElem? (i := 1) rfl)), hX.2.2.2.2.2 eS (by simp) eO (by simp) (by decide)⟩, List.forall_mem_cons.mpr ⟨Or.inr ⟨by decide, _, (hts (.classLink RL 15 "java/lang/IllegalArgumentException") (List.mem_of_getElem? (i := 2) rfl)), hX.2.2.2.2.2 eS (by simp) eA (by simp) (by decide)⟩, List.forall_mem_nil _⟩⟩) (by decide +kernel) (by decide) (hts (.classLink RL 17 "java/lang/IllegalStateException") (List.mem_of_getElem? (i := 3) rfl)) (va_Nw.use rfl (hX.2.2.2.1 eS (by simp))) (fun q9 H hz9 hk9 => ?_)
  refine lv_astore_n (lv' := [(3, .ref q9), (0, .ref (ax 0)), (1, .int (nI k)), (2, .int (nI 0))]) hx hb dL_takeBack_15 rfl hl (by decide) rfl (fun ls hl => ?_)
  refine lv_bipush (v := (-103)) hx hb dL_takeBack_16 (by decide) ?_
  refine W.widen (k := 1) (n := 6) (by decide) (by decide) ?_
  exact W.iret (v := -103) hx hb hr (fun t ht hW => ⟨⟨_, (), rfl, rfl, trivial⟩, by rw [ht]; exact hz9, fun q h1 _ => by rw [ht]; exact hk9 q h1⟩) (fun _ h => by cases h) dL_takeBack_18
set_option maxHeartbeats 4000000 in
set_option maxRecDepth 100000 in
/-- the law calls takeBack: refused -/
theorem x3_1_L_takeBack (l : Launch) (dC : Nat → ClassId) (dI : Nat → Nat → Nat) (cI cJ cZ cO : ClassId) (ax : Nat → Nat) (ao : Nat → Option Nat) (n mo : Nat) (iv : Nat → Int32) (aa an : Nat → Nat) (kp : Int64) (py : Nat → Int64) (k : Nat) (hst : l.stackTraces = false) (hv : jV an) (hm : mo ≤ 240) (hk : k < 20) (hao : ao k = some (aa 0)) (ht9 : an 9 = 240)  : Met l yL_takeBack wsL_takeBack ({ frames := 7, cells := 1, slots := 6, locals := 106 }) (va_Pc [.ref (ax 0), .int (nI k), .int (nI 1)] (jRX (dC, dI) (jTY cI cJ cZ cO) (jFW cI cJ cO ax ao n mo iv aa an kp py))) (va_Qi (fun r (_ : Unit) => r = (-103)) (fun _ _ => True) (fun _ => False)) 1 6 (fun _ => False) := by
  refine j_ofh (cc := cL_takeBack) (maxL := 4) (ret := (some .int)) (by decide) rfl (Nat.le_of_ble_eq_true rfl) ?_
  intro p e s m below meth c ls hx hb hr hml hts hown hlocks htab hl hpre
  have hown : s.vm.findClass RL = some m.cls := hown
  have hl : lv_has ls 4 [(0, .ref (ax 0)), (1, .int (nI k)), (2, .int (nI 1))] := hl
  obtain ⟨⟨hP, hK⟩, hX⟩ := hpre
  refine lv_aload_n hx hb dL_takeBack_0 rfl (lv_at hl 0 rfl) ?_
  refine lv_iload_n hx hb dL_takeBack_1 rfl (lv_at hl 1 rfl) ?_
  refine lv_iload_n hx hb dL_takeBack_2 rfl (lv_at hl 2 rfl) ?_
  refine j_try (As := [.int (nI k), .int (nI 1)]) (rest := []) (E := eS) (name := "java/lang/IllegalStateException") ⟨hx, hb, hml, hown, hts⟩ (x3_1_X1_takeBack l dC dI cI cJ cZ cO ax ao n mo iv aa an kp py k hst hv hm hk hao ht9) (cwV 2 hts gL_takeBack_X1_takeBack rfl rfl rfl (by decide +kernel) ⟨Nat.le_of_ble_eq_true rfl, Nat.le_of_ble_eq_true rfl⟩) (jRX_V hX hK hP [0, 1, 2, 3, 4, 5, 6, 7] rfl (ci := 1) (q0 := 0) rfl rfl rfl) rfl hl rfl (Nat.le_of_ble_eq_true rfl) dL_takeBack_3 ⟨Nat.le_of_ble_eq_true rfl, Nat.le_of_ble_eq_true rfl⟩ [⟨0, 6, 7, 23⟩, ⟨0, 6, 11, 15⟩] ⟨0, 6, 15, 17⟩ [] (htab.trans rfl) (List.forall_mem_cons.mpr ⟨Or.inr ⟨by decide, _, (hts (.classLink RL 23 "java/lang/IndexOutOfBoundsException") (List.mem_of_getElem? (i := 1) rfl)), hX.2.2.2.2.2 eS (by simp) eO (by simp) (by decide)⟩, List.forall_mem_cons.mpr ⟨Or.inr ⟨by decide, _, (hts (.classLink RL 15 "java/lang/IllegalArgumentException") (List.mem_of_getElem? (i := 2) rfl)), hX.2.2.2.2.2 eS (by simp) eA (by simp) (by decide)⟩, List.forall_mem_nil _⟩⟩) (by decide +kernel) (by decide) (hts (.classLink RL 17 "java/lang/IllegalStateException") (List.mem_of_getElem? (i := 3) rfl)) (va_Nw.use rfl (hX.2.2.2.1 eS (by simp))) (fun q9 H hz9 hk9 => ?_)
  refine lv_astore_n (lv' := [(3, .ref q9), (0, .ref (ax 0)), (1, .int (nI k)), (2, .int (nI 1))]) hx hb dL_takeBack_15 rfl hl (by decide) rfl (fun ls hl => ?_)
  refine lv_bipush (v := (-103)) hx hb dL_takeBack_16 (by decide) ?_
  refine W.widen (k := 1) (n := 6) (by decide) (by decide) ?_
  exact W.iret (v := -103) hx hb hr (fun t ht hW => ⟨⟨_, (), rfl, rfl, trivial⟩, by rw [ht]; exact hz9, fun q h1 _ => by rw [ht]; exact hk9 q h1⟩) (fun _ h => by cases h) dL_takeBack_18
set_option maxHeartbeats 4000000 in
set_option maxRecDepth 100000 in
/-- the law calls giveBack: refused -/
theorem x3_L_back (l : Launch) (dC : Nat → ClassId) (dI : Nat → Nat → Nat) (cI cJ cZ cO : ClassId) (ax : Nat → Nat) (ao : Nat → Option Nat) (n mo : Nat) (iv : Nat → Int32) (aa an : Nat → Nat) (kp : Int64) (py : Nat → Int64) (k : Nat) (v : Nat) (hst : l.stackTraces = false) (hv : jV an) (hm : mo ≤ 240) (hk : k < 20) (hao : ao k = some (aa 0)) (h1 : 1 ≤ v) (h2 : v ≤ 100000000) (ho : jmx (kp - lN (jU an iv mo)) < lN v)  : Met l yL_back wsL_back ({ frames := 7, cells := 1, slots := 6, locals := 162 }) (va_Pc [.ref (ax 0), .int (nI k), .int (nI v)] (jRX (dC, dI) (jTY cI cJ cZ cO) (jFW cI cJ cO ax ao n mo iv aa an kp py))) (va_Ql (fun r (_ : Unit) => r = (-103)) (fun _ _ => True) (fun _ => False)) 1 6 (fun _ => False) := by
  refine j_ofh (cc := cL_back) (maxL := 4) (ret := (some .long)) (by decide) rfl (Nat.le_of_ble_eq_true rfl) ?_
  intro p e s m below meth c ls hx hb hr hml hts hown hlocks htab hl hpre
  have hown : s.vm.findClass RL = some m.cls := hown
  have hl : lv_has ls 4 [(0, .ref (ax 0)), (1, .int (nI k)), (2, .int (nI v))] := hl
  obtain ⟨⟨hP, hK⟩, hX⟩ := hpre
  refine lv_aload_n hx hb dL_back_0 rfl (lv_at hl 0 rfl) ?_
  refine lv_iload_n hx hb dL_back_1 rfl (lv_at hl 1 rfl) ?_
  refine lv_iload_n hx hb dL_back_2 rfl (lv_at hl 2 rfl) ?_
  refine j_try (As := [.int (nI k), .int (nI v)]) (rest := []) (E := eS) (name := "java/lang/IllegalStateException") ⟨hx, hb, hml, hown, hts⟩ (x3_X1_giveBack l dC dI cI cJ cZ cO ax ao n mo iv aa an kp py k v hst hv hm hk hao h1 h2 ho) (cwV 2 hts gL_back_X1_giveBack rfl rfl rfl (by decide +kernel) ⟨Nat.le_of_ble_eq_true rfl, Nat.le_of_ble_eq_true rfl⟩) (jRX_V hX hK hP [0, 1, 2, 3, 4, 5, 6, 7] rfl (ci := 1) (q0 := 0) rfl rfl rfl) rfl hl rfl (Nat.le_of_ble_eq_true rfl) dL_back_3 ⟨Nat.le_of_ble_eq_true rfl, Nat.le_of_ble_eq_true rfl⟩ [⟨0, 6, 7, 23⟩, ⟨0, 6, 12, 15⟩] ⟨0, 6, 17, 17⟩ [] (htab.trans rfl) (List.forall_mem_cons.mpr ⟨Or.inr ⟨by decide, _, (hts (.classLink RL 23 "java/lang/IndexOutOfBoundsException") (List.mem_of_getElem? (i := 1) rfl)), hX.2.2.2.2.2 eS (by simp) eO (by simp) (by decide)⟩, List.forall_mem_cons.mpr ⟨Or.inr ⟨by decide, _, (hts (.classLink RL 15 "java/lang/IllegalArgumentException") (List.mem_of_getElem? (i := 2) rfl)), hX.2.2.2.2.2 eS (by simp) eA (by simp) (by decide)⟩, List.forall_mem_nil _⟩⟩) (by decide +kernel) (by decide) (hts (.classLink RL 17 "java/lang/IllegalStateException") (List.mem_of_getElem? (i := 3) rfl)) (va_Nw.use rfl (hX.2.2.2.1 eS (by simp))) (fun q9 H hz9 hk9 => ?_)
  refine lv_astore_n (lv' := [(3, .ref q9), (0, .ref (ax 0)), (1, .int (nI k)), (2, .int (nI v))]) hx hb dL_back_17 rfl hl (by decide) rfl (fun ls hl => ?_)
  refine lv_ldc2 hx hb hown (hts (.constantLong RL 47 (-103)) (List.mem_of_getElem? (i := 6) rfl)) dL_back_18 ?_
  refine W.widen (k := 1) (n := 6) (by decide) (by decide) ?_
  exact W.lret (v := -103) hx hb hr (fun t ht hW => ⟨⟨_, (), rfl, rfl, trivial⟩, by rw [ht]; exact hz9, fun q h1 _ => by rw [ht]; exact hk9 q h1⟩) (fun _ h => by cases h) dL_back_21
