/-! the law's own methods: what goes -/
set_option maxHeartbeats 4000000 in
set_option maxRecDepth 100000 in
/-- the law calls paid: it goes -/
theorem c_L_paid (l : Launch) (dC : Nat → ClassId) (dI : Nat → Nat → Nat) (cI cJ cZ cO : ClassId) (ax : Nat → Nat) (ao : Nat → Option Nat) (n mo : Nat) (iv : Nat → Int32) (aa an : Nat → Nat) (kp : Int64) (py : Nat → Int64) (k : Nat) (v : Nat) (hv : jV an) (hm : mo ≤ 240) (hk : k < 20) (hao : ao k = some (aa 0)) (hb9 : v < mo) : Met l yL_paid wsL_paid ({ frames := 2, cells := 0, slots := 0, locals := 45 }) (va_Pc [.ref (ax 0), .int (nI k), .int (nI v)] (jR (dC, dI) (jTY cI cJ cZ cO) (jFW cI cJ cO ax ao n mo iv aa an kp py))) (vp_Sl (fun r => r = py v)) 0 0 (fun _ => False) := by
  refine j_ofh (cc := cL_paid) (maxL := 4) (ret := (some .long)) (by decide) rfl (Nat.le_of_ble_eq_true rfl) ?_
  intro p e s m below meth c ls hx hb hr hml hts hown hlocks htab hl hpre
  have hown : s.vm.findClass RL = some m.cls := hown
  have hl : lv_has ls 4 [(0, .ref (ax 0)), (1, .int (nI k)), (2, .int (nI v))] := hl
  obtain ⟨hP, hK⟩ := hpre
  refine lv_aload_n hx hb dL_paid_0 rfl (lv_at hl 0 rfl) ?_
  refine lv_iload_n hx hb dL_paid_1 rfl (lv_at hl 1 rfl) ?_
  refine lv_iload_n hx hb dL_paid_2 rfl (lv_at hl 2 rfl) ?_
  refine j_cL_ (As := [.int (nI k), .int (nI v)]) (rest := []) ⟨hx, hb, hml, hown, hts⟩ (c_X1_paid l dC dI cI cJ cZ cO ax ao n mo iv aa an kp py k v hv hm hk hao hb9) (cwV 2 hts gL_paid_X1_paid rfl rfl rfl (by decide +kernel) ⟨Nat.le_of_ble_eq_true rfl, Nat.le_of_ble_eq_true rfl⟩) (jR_V hK hP [0, 1, 2, 3, 4, 5, 6, 7] rfl (ci := 1) (q0 := 0) rfl rfl rfl) rfl hl rfl (Nat.le_of_ble_eq_true rfl) dL_paid_3 ⟨Nat.le_of_ble_eq_true rfl, Nat.le_of_ble_eq_true rfl⟩ (fun r_3 hr_3 => ?_)
  subst hr_3
  exact W.lret (v := py v) hx hb hr (fun t ht hW => ⟨_, rfl, rfl, ht⟩) (fun _ h => by cases h) dL_paid_6
set_option maxHeartbeats 4000000 in
set_option maxRecDepth 100000 in
/-- the law calls paidInAll: it goes -/
theorem c_L_paidAll (l : Launch) (dC : Nat → ClassId) (dI : Nat → Nat → Nat) (cI cJ cZ cO : ClassId) (ax : Nat → Nat) (ao : Nat → Option Nat) (n mo : Nat) (iv : Nat → Int32) (aa an : Nat → Nat) (kp : Int64) (py : Nat → Int64) (k : Nat) (hv : jV an) (hm : mo ≤ 240) (hk : k < 20) (hao : ao k = some (aa 0)) : Met l yL_paidAll wsL_paidAll ({ frames := 2, cells := 0, slots := 0, locals := 43 }) (va_Pc [.ref (ax 0), .int (nI k)] (jR (dC, dI) (jTY cI cJ cZ cO) (jFW cI cJ cO ax ao n mo iv aa an kp py))) (vp_Sl (fun r => r = kp)) 0 0 (fun _ => False) := by
  refine j_ofh (cc := cL_paidAll) (maxL := 3) (ret := (some .long)) (by decide) rfl (Nat.le_of_ble_eq_true rfl) ?_
  intro p e s m below meth c ls hx hb hr hml hts hown hlocks htab hl hpre
  have hown : s.vm.findClass RL = some m.cls := hown
  have hl : lv_has ls 3 [(0, .ref (ax 0)), (1, .int (nI k))] := hl
  obtain ⟨hP, hK⟩ := hpre
  refine lv_aload_n hx hb dL_paidAll_0 rfl (lv_at hl 0 rfl) ?_
  refine lv_iload_n hx hb dL_paidAll_1 rfl (lv_at hl 1 rfl) ?_
  refine j_cL_ (As := [.int (nI k)]) (rest := []) ⟨hx, hb, hml, hown, hts⟩ (c_X1_paidInAll l dC dI cI cJ cZ cO ax ao n mo iv aa an kp py k hv hm hk hao) (cwV 1 hts gL_paidAll_X1_paidInAll rfl rfl rfl (by decide +kernel) ⟨Nat.le_of_ble_eq_true rfl, Nat.le_of_ble_eq_true rfl⟩) (jR_V hK hP [0, 1, 2, 3, 4, 5, 6, 7] rfl (ci := 1) (q0 := 0) rfl rfl rfl) rfl hl rfl (Nat.le_of_ble_eq_true rfl) dL_paidAll_2 ⟨Nat.le_of_ble_eq_true rfl, Nat.le_of_ble_eq_true rfl⟩ (fun r_2 hr_2 => ?_)
  refine j_l (y := kp) hr_2 ?_
  exact W.lret (v := kp) hx hb hr (fun t ht hW => ⟨_, rfl, rfl, ht⟩) (fun _ h => by cases h) dL_paidAll_5
set_option maxHeartbeats 4000000 in
set_option maxRecDepth 100000 in
/-- the law calls owes: it goes -/
theorem c_L_owes (l : Launch) (dC : Nat → ClassId) (dI : Nat → Nat → Nat) (cI cJ cZ cO : ClassId) (ax : Nat → Nat) (ao : Nat → Option Nat) (n mo : Nat) (iv : Nat → Int32) (aa an : Nat → Nat) (kp : Int64) (py : Nat → Int64) (k : Nat) (hv : jV an) (hm : mo ≤ 240) (hk : k < 20) (hao : ao k = some (aa 0)) : Met l yL_owes wsL_owes ({ frames := 7, cells := 0, slots := 0, locals := 158 }) (va_Pc [.ref (ax 0), .int (nI k)] (jR (dC, dI) (jTY cI cJ cZ cO) (jFW cI cJ cO ax ao n mo iv aa an kp py))) (vp_Sl (fun r => r = jmx (kp - lN (jU an iv mo)))) 0 0 (fun _ => False) := by
  refine j_ofh (cc := cL_owes) (maxL := 3) (ret := (some .long)) (by decide) rfl (Nat.le_of_ble_eq_true rfl) ?_
  intro p e s m below meth c ls hx hb hr hml hts hown hlocks htab hl hpre
  have hown : s.vm.findClass RL = some m.cls := hown
  have hl : lv_has ls 3 [(0, .ref (ax 0)), (1, .int (nI k))] := hl
  obtain ⟨hP, hK⟩ := hpre
  refine lv_aload_n hx hb dL_owes_0 rfl (lv_at hl 0 rfl) ?_
  refine lv_iload_n hx hb dL_owes_1 rfl (lv_at hl 1 rfl) ?_
  refine j_cL_ (As := [.int (nI k)]) (rest := []) ⟨hx, hb, hml, hown, hts⟩ (c_X1_owes l dC dI cI cJ cZ cO ax ao n mo iv aa an kp py k hv hm hk hao) (cwV 1 hts gL_owes_X1_owes rfl rfl rfl (by decide +kernel) ⟨Nat.le_of_ble_eq_true rfl, Nat.le_of_ble_eq_true rfl⟩) (jR_V hK hP [0, 1, 2, 3, 4, 5, 6, 7] rfl (ci := 1) (q0 := 0) rfl rfl rfl) rfl hl rfl (Nat.le_of_ble_eq_true rfl) dL_owes_2 ⟨Nat.le_of_ble_eq_true rfl, Nat.le_of_ble_eq_true rfl⟩ (fun r_2 hr_2 => ?_)
  subst hr_2
  exact W.lret (v := jmx (kp - lN (jU an iv mo))) hx hb hr (fun t ht hW => ⟨_, rfl, rfl, ht⟩) (fun _ h => by cases h) dL_owes_5
set_option maxHeartbeats 4000000 in
set_option maxRecDepth 100000 in
/-- the law calls fullAmount: it goes -/
theorem c_L_full (l : Launch) (dC : Nat → ClassId) (dI : Nat → Nat → Nat) (cI cJ cZ cO : ClassId) (ax : Nat → Nat) (ao : Nat → Option Nat) (n mo : Nat) (iv : Nat → Int32) (aa an : Nat → Nat) (kp : Int64) (py : Nat → Int64) (k : Nat) (v : Nat) (hv : jV an) (hm : mo ≤ 240) (hk : k < 20) (hao : ao k = some (aa 0)) (hb9 : v < 240) : Met l yL_full wsL_full ({ frames := 3, cells := 0, slots := 0, locals := 65 }) (va_Pc [.ref (ax 0), .int (nI k), .int (nI v)] (jR (dC, dI) (jTY cI cJ cZ cO) (jFW cI cJ cO ax ao n mo iv aa an kp py))) (vp_Si (fun r => r = nI (if v < an 0 then 0 else jM an iv v))) 0 0 (fun _ => False) := by
  refine j_ofh (cc := cL_full) (maxL := 4) (ret := (some .int)) (by decide) rfl (Nat.le_of_ble_eq_true rfl) ?_
  intro p e s m below meth c ls hx hb hr hml hts hown hlocks htab hl hpre
  have hown : s.vm.findClass RL = some m.cls := hown
  have hl : lv_has ls 4 [(0, .ref (ax 0)), (1, .int (nI k)), (2, .int (nI v))] := hl
  obtain ⟨hP, hK⟩ := hpre
  refine lv_aload_n hx hb dL_full_0 rfl (lv_at hl 0 rfl) ?_
  refine lv_iload_n hx hb dL_full_1 rfl (lv_at hl 1 rfl) ?_
  refine lv_iload_n hx hb dL_full_2 rfl (lv_at hl 2 rfl) ?_
  refine j_cI_ (As := [.int (nI k), .int (nI v)]) (rest := []) ⟨hx, hb, hml, hown, hts⟩ (c_X1_fullAmount l dC dI cI cJ cZ cO ax ao n mo iv aa an kp py k v hv hm hk hao hb9) (cwV 2 hts gL_full_X1_fullAmount rfl rfl rfl (by decide +kernel) ⟨Nat.le_of_ble_eq_true rfl, Nat.le_of_ble_eq_true rfl⟩) (jR_V hK hP [0, 1, 2, 3, 4, 5, 6, 7] rfl (ci := 1) (q0 := 0) rfl rfl rfl) rfl hl rfl (Nat.le_of_ble_eq_true rfl) dL_full_3 ⟨Nat.le_of_ble_eq_true rfl, Nat.le_of_ble_eq_true rfl⟩ (fun r_3 hr_3 => ?_)
  subst hr_3
  exact W.iret (v := nI (if v < an 0 then 0 else jM an iv v)) hx hb hr (fun t ht hW => ⟨_, rfl, rfl, ht⟩) (fun _ h => by cases h) dL_full_6
set_option maxHeartbeats 4000000 in
set_option maxRecDepth 100000 in
/-- the law calls carry: it goes -/
theorem c_L_carry (l : Launch) (dC : Nat → ClassId) (dI : Nat → Nat → Nat) (cI cJ cZ cO : ClassId) (ax : Nat → Nat) (ao : Nat → Option Nat) (n mo : Nat) (iv : Nat → Int32) (aa an : Nat → Nat) (kp : Int64) (py : Nat → Int64) (k : Nat) (v : Nat) (hv : jV an) (hm : mo ≤ 240) (hk : k < 20) (hao : ao k = some (aa 0)) (hb9 : v < 240) : Met l yL_carry wsL_carry ({ frames := 3, cells := 0, slots := 0, locals := 65 }) (va_Pc [.ref (ax 0), .int (nI k), .int (nI v)] (jR (dC, dI) (jTY cI cJ cZ cO) (jFW cI cJ cO ax ao n mo iv aa an kp py))) (vp_Si (fun r => r = if v < an 0 then 0 else jC an iv ((v - an 0) / 12))) 0 0 (fun _ => False) := by
  refine j_ofh (cc := cL_carry) (maxL := 4) (ret := (some .int)) (by decide) rfl (Nat.le_of_ble_eq_true rfl) ?_
  intro p e s m below meth c ls hx hb hr hml hts hown hlocks htab hl hpre
  have hown : s.vm.findClass RL = some m.cls := hown
  have hl : lv_has ls 4 [(0, .ref (ax 0)), (1, .int (nI k)), (2, .int (nI v))] := hl
  obtain ⟨hP, hK⟩ := hpre
  refine lv_aload_n hx hb dL_carry_0 rfl (lv_at hl 0 rfl) ?_
  refine lv_iload_n hx hb dL_carry_1 rfl (lv_at hl 1 rfl) ?_
  refine lv_iload_n hx hb dL_carry_2 rfl (lv_at hl 2 rfl) ?_
  refine j_cI_ (As := [.int (nI k), .int (nI v)]) (rest := []) ⟨hx, hb, hml, hown, hts⟩ (c_X1_carry l dC dI cI cJ cZ cO ax ao n mo iv aa an kp py k v hv hm hk hao hb9) (cwV 2 hts gL_carry_X1_carry rfl rfl rfl (by decide +kernel) ⟨Nat.le_of_ble_eq_true rfl, Nat.le_of_ble_eq_true rfl⟩) (jR_V hK hP [0, 1, 2, 3, 4, 5, 6, 7] rfl (ci := 1) (q0 := 0) rfl rfl rfl) rfl hl rfl (Nat.le_of_ble_eq_true rfl) dL_carry_3 ⟨Nat.le_of_ble_eq_true rfl, Nat.le_of_ble_eq_true rfl⟩ (fun r_3 hr_3 => ?_)
  subst hr_3
  exact W.iret (v := if v < an 0 then 0 else jC an iv ((v - an 0) / 12)) hx hb hr (fun t ht hW => ⟨_, rfl, rfl, ht⟩) (fun _ h => by cases h) dL_carry_6
set_option maxHeartbeats 4000000 in
set_option maxRecDepth 100000 in
/-- the law calls entitled: it goes -/
theorem c_L_entitled (l : Launch) (dC : Nat → ClassId) (dI : Nat → Nat → Nat) (cI cJ cZ cO : ClassId) (ax : Nat → Nat) (ao : Nat → Option Nat) (n mo : Nat) (iv : Nat → Int32) (aa an : Nat → Nat) (kp : Int64) (py : Nat → Int64) (k : Nat) (v : Nat) (hv : jV an) (hm : mo ≤ 240) (hk : k < 20) (hao : ao k = some (aa 0)) (hb9 : v < 240) : Met l yL_entitled wsL_entitled ({ frames := 6, cells := 0, slots := 0, locals := 139 }) (va_Pc [.ref (ax 0), .int (nI k), .int (nI v)] (jR (dC, dI) (jTY cI cJ cZ cO) (jFW cI cJ cO ax ao n mo iv aa an kp py))) (vp_Sl (fun r => r = lN ((if v < an 0 then 0 else jS an iv v) + (if v = jP an then jQ an iv else 0)))) 0 0 (fun _ => False) := by
  refine j_ofh (cc := cL_entitled) (maxL := 4) (ret := (some .long)) (by decide) rfl (Nat.le_of_ble_eq_true rfl) ?_
  intro p e s m below meth c ls hx hb hr hml hts hown hlocks htab hl hpre
  have hown : s.vm.findClass RL = some m.cls := hown
  have hl : lv_has ls 4 [(0, .ref (ax 0)), (1, .int (nI k)), (2, .int (nI v))] := hl
  obtain ⟨hP, hK⟩ := hpre
  refine lv_aload_n hx hb dL_entitled_0 rfl (lv_at hl 0 rfl) ?_
  refine lv_iload_n hx hb dL_entitled_1 rfl (lv_at hl 1 rfl) ?_
  refine lv_iload_n hx hb dL_entitled_2 rfl (lv_at hl 2 rfl) ?_
  refine j_cL_ (As := [.int (nI k), .int (nI v)]) (rest := []) ⟨hx, hb, hml, hown, hts⟩ (c_X1_entitled l dC dI cI cJ cZ cO ax ao n mo iv aa an kp py k v hv hm hk hao hb9) (cwV 2 hts gL_entitled_X1_entitled rfl rfl rfl (by decide +kernel) ⟨Nat.le_of_ble_eq_true rfl, Nat.le_of_ble_eq_true rfl⟩) (jR_V hK hP [0, 1, 2, 3, 4, 5, 6, 7] rfl (ci := 1) (q0 := 0) rfl rfl rfl) rfl hl rfl (Nat.le_of_ble_eq_true rfl) dL_entitled_3 ⟨Nat.le_of_ble_eq_true rfl, Nat.le_of_ble_eq_true rfl⟩ (fun r_3 hr_3 => ?_)
  subst hr_3
  exact W.lret (v := lN ((if v < an 0 then 0 else jS an iv v) + (if v = jP an then jQ an iv else 0))) hx hb hr (fun t ht hW => ⟨_, rfl, rfl, ht⟩) (fun _ h => by cases h) dL_entitled_6
set_option maxHeartbeats 4000000 in
set_option maxRecDepth 100000 in
/-- the law calls entitledUpTo: it goes -/
theorem c_L_upTo (l : Launch) (dC : Nat → ClassId) (dI : Nat → Nat → Nat) (cI cJ cZ cO : ClassId) (ax : Nat → Nat) (ao : Nat → Option Nat) (n mo : Nat) (iv : Nat → Int32) (aa an : Nat → Nat) (kp : Int64) (py : Nat → Int64) (k : Nat) (v : Nat) (hv : jV an) (hm : mo ≤ 240) (hk : k < 20) (hao : ao k = some (aa 0)) (hb9 : v < 240) : Met l yL_upTo wsL_upTo ({ frames := 6, cells := 0, slots := 0, locals := 139 }) (va_Pc [.ref (ax 0), .int (nI k), .int (nI v)] (jR (dC, dI) (jTY cI cJ cZ cO) (jFW cI cJ cO ax ao n mo iv aa an kp py))) (vp_Sl (fun r => r = lN (jU an iv (v + 1)))) 0 0 (fun _ => False) := by
  refine j_ofh (cc := cL_upTo) (maxL := 4) (ret := (some .long)) (by decide) rfl (Nat.le_of_ble_eq_true rfl) ?_
  intro p e s m below meth c ls hx hb hr hml hts hown hlocks htab hl hpre
  have hown : s.vm.findClass RL = some m.cls := hown
  have hl : lv_has ls 4 [(0, .ref (ax 0)), (1, .int (nI k)), (2, .int (nI v))] := hl
  obtain ⟨hP, hK⟩ := hpre
  refine lv_aload_n hx hb dL_upTo_0 rfl (lv_at hl 0 rfl) ?_
  refine lv_iload_n hx hb dL_upTo_1 rfl (lv_at hl 1 rfl) ?_
  refine lv_iload_n hx hb dL_upTo_2 rfl (lv_at hl 2 rfl) ?_
  refine j_cL_ (As := [.int (nI k), .int (nI v)]) (rest := []) ⟨hx, hb, hml, hown, hts⟩ (c_X1_entitledUpTo l dC dI cI cJ cZ cO ax ao n mo iv aa an kp py k v hv hm hk hao hb9) (cwV 2 hts gL_upTo_X1_entitledUpTo rfl rfl rfl (by decide +kernel) ⟨Nat.le_of_ble_eq_true rfl, Nat.le_of_ble_eq_true rfl⟩) (jR_V hK hP [0, 1, 2, 3, 4, 5, 6, 7] rfl (ci := 1) (q0 := 0) rfl rfl rfl) rfl hl rfl (Nat.le_of_ble_eq_true rfl) dL_upTo_3 ⟨Nat.le_of_ble_eq_true rfl, Nat.le_of_ble_eq_true rfl⟩ (fun r_3 hr_3 => ?_)
  subst hr_3
  exact W.lret (v := lN (jU an iv (v + 1))) hx hb hr (fun t ht hW => ⟨_, rfl, rfl, ht⟩) (fun _ h => by cases h) dL_upTo_6
set_option maxHeartbeats 4000000 in
set_option maxRecDepth 100000 in
/-- the law calls protection: it goes -/
theorem c_L_protection (l : Launch) (dC : Nat → ClassId) (dI : Nat → Nat → Nat) (cI cJ cZ cO : ClassId) (ax : Nat → Nat) (ao : Nat → Option Nat) (n mo : Nat) (iv : Nat → Int32) (aa an : Nat → Nat) (kp : Int64) (py : Nat → Int64) (k : Nat) (hv : jV an) (hm : mo ≤ 240) (hk : k < 20) (hao : ao k = some (aa 0)) : Met l yL_protection wsL_protection ({ frames := 5, cells := 0, slots := 0, locals := 114 }) (va_Pc [.ref (ax 0), .int (nI k)] (jR (dC, dI) (jTY cI cJ cZ cO) (jFW cI cJ cO ax ao n mo iv aa an kp py))) (vp_Sl (fun r => r = lN (jQ an iv))) 0 0 (fun _ => False) := by
  refine j_ofh (cc := cL_protection) (maxL := 3) (ret := (some .long)) (by decide) rfl (Nat.le_of_ble_eq_true rfl) ?_
  intro p e s m below meth c ls hx hb hr hml hts hown hlocks htab hl hpre
  have hown : s.vm.findClass RL = some m.cls := hown
  have hl : lv_has ls 3 [(0, .ref (ax 0)), (1, .int (nI k))] := hl
  obtain ⟨hP, hK⟩ := hpre
  refine lv_aload_n hx hb dL_protection_0 rfl (lv_at hl 0 rfl) ?_
  refine lv_iload_n hx hb dL_protection_1 rfl (lv_at hl 1 rfl) ?_
  refine j_cL_ (As := [.int (nI k)]) (rest := []) ⟨hx, hb, hml, hown, hts⟩ (c_X1_protection l dC dI cI cJ cZ cO ax ao n mo iv aa an kp py k hv hm hk hao) (cwV 1 hts gL_protection_X1_protection rfl rfl rfl (by decide +kernel) ⟨Nat.le_of_ble_eq_true rfl, Nat.le_of_ble_eq_true rfl⟩) (jR_V hK hP [0, 1, 2, 3, 4, 5, 6, 7] rfl (ci := 1) (q0 := 0) rfl rfl rfl) rfl hl rfl (Nat.le_of_ble_eq_true rfl) dL_protection_2 ⟨Nat.le_of_ble_eq_true rfl, Nat.le_of_ble_eq_true rfl⟩ (fun r_2 hr_2 => ?_)
  subst hr_2
  exact W.lret (v := lN (jQ an iv)) hx hb hr (fun t ht hW => ⟨_, rfl, rfl, ht⟩) (fun _ h => by cases h) dL_protection_5
set_option maxHeartbeats 4000000 in
set_option maxRecDepth 100000 in
/-- the law calls setSurvivor: it goes -/
theorem c_L_survivor (l : Launch) (dC : Nat → ClassId) (dI : Nat → Nat → Nat) (cI cJ cZ cO : ClassId) (ax : Nat → Nat) (ao : Nat → Option Nat) (n mo : Nat) (iv : Nat → Int32) (aa an : Nat → Nat) (kp : Int64) (py : Nat → Int64) (k : Nat) (v w : Nat) (hv : jV an) (hm : mo ≤ 240) (hk : k < 20) (hao : ao k = some (aa 0)) (h1 : v ≤ 100) (h2 : w ≤ 1) (hs : ¬ an 0 < mo) : Met l yL_survivor wsL_survivor ({ frames := 2, cells := 0, slots := 0, locals := 46 }) (va_Pc [.ref (ax 0), .int (nI k), .int (nI v), .int (nI w)] (jW (dC, dI) (jTY cI cJ cZ cO) (jFW cI cJ cO ax ao n mo iv aa an kp py))) (va_Qi (fun r (_ : Unit) => r = nI 0) (fun _ t => va_P (dC, dI) vwCl (jFW cI cJ cO ax ao n mo iv aa (upN (upN an 3 v) 4 w) kp py) t.heap) (jA (jFW cI cJ cO ax ao n mo iv aa an kp py))) 0 0 (jA (jFW cI cJ cO ax ao n mo iv aa an kp py)) := by
  refine j_ofh (cc := cL_survivor) (maxL := 5) (ret := (some .int)) (by decide) rfl (Nat.le_of_ble_eq_true rfl) ?_
  intro p e s m below meth c ls hx hb hr hml hts hown hlocks htab hl hpre
  have hown : s.vm.findClass RL = some m.cls := hown
  have hl : lv_has ls 5 [(0, .ref (ax 0)), (1, .int (nI k)), (2, .int (nI v)), (3, .int (nI w))] := hl
  obtain ⟨hP, hK, hD0⟩ := hpre
  have hD := hD0.jA
  generalize hAe : jA (jFW cI cJ cO ax ao n mo iv aa an kp py) = A at hD ⊢
  have hS : va_S A s.heap s.heap [] := va_S.rf
  refine lv_aload_n hx hb dL_survivor_0 rfl (lv_at hl 0 rfl) ?_
  refine lv_iload_n hx hb dL_survivor_1 rfl (lv_at hl 1 rfl) ?_
  refine lv_iload_n hx hb dL_survivor_2 rfl (lv_at hl 2 rfl) ?_
  refine lv_iload_n hx hb dL_survivor_3 rfl (lv_at hl 3 rfl) ?_
  refine j_wV (As := [.int (nI k), .int (nI v), .int (nI w)]) (rest := []) ⟨hx, hb, hml, hown, hts⟩ (c_X1_setSurvivor l dC dI cI cJ cZ cO ax ao n mo iv aa an kp py k v w hv hm hk hao h1 h2 hs) (cwV 3 hts gL_survivor_X1_setSurvivor rfl rfl rfl (by decide +kernel) ⟨Nat.le_of_ble_eq_true rfl, Nat.le_of_ble_eq_true rfl⟩) (jW_V hK hP hD [0, 1, 2, 3, 4, 5, 6, 7] (by decide) rfl (ci := 1) (q0 := 0) rfl rfl rfl) rfl hl rfl (Nat.le_of_ble_eq_true rfl) dL_survivor_4 ⟨Nat.le_of_ble_eq_true rfl, Nat.le_of_ble_eq_true rfl⟩ hP hD hS [0, 1, 2, 3, 4, 5, 6, 7] [] rfl (fun _ : Unit => [((ax 0), .inr (1, [.ref (ax 1), .ref (ax 2), .int (nI n), .int (nI mo)])), ((ax 1), .inl (cO, 20, .inr (.inr (.inr (.inr (ao)))))), ((ax 2), .inl (cI, 20, .inl (iv))), ((aa 0), .inr (0, [.int (nI ((upN (upN an 3 v) 4 w) 0)), .int (nI ((upN (upN an 3 v) 4 w) 1)), .int (nI ((upN (upN an 3 v) 4 w) 0 + (upN (upN an 3 v) 4 w) 2)), .int (nI ((upN (upN an 3 v) 4 w) 3)), .int (nI ((upN (upN an 3 v) 4 w) 4)), .int (nI ((upN (upN an 3 v) 4 w) 5)), .int (nI ((upN (upN an 3 v) 4 w) 6)), .int (nI ((upN (upN an 3 v) 4 w) 7)), .ref (aa 1), .ref (aa 2), .ref (aa 3), .ref (aa 4), .long (kp)])), ((aa 1), .inl (cI, 2, .inl (fun j => nI (if j = 0 then (upN (upN an 3 v) 4 w) 8 else (upN (upN an 3 v) 4 w) 9)))), ((aa 2), .inl (cI, 20, .inl (fun j => nI (jF (upN (upN an 3 v) 4 w) iv j)))), ((aa 3), .inl (cI, 20, .inl (fun j => jC (upN (upN an 3 v) 4 w) iv j))), ((aa 4), .inl (cJ, 240, .inr (.inl (py))))]) (fun _ => rfl) [(ax 0), (ax 1), (ax 2), (aa 0), (aa 1), (aa 2), (aa 3), (aa 4)] rfl (fun _ => rfl) [] rfl (fun _ => rfl) (fun _ i hi => j_cov _ _ 8 (by decide) i hi) (fun _ H locs hr_4 hP hD hS => ?_)
  have hP : va_P (dC, dI) vwCl [((ax 0), .inr (1, [.ref (ax 1), .ref (ax 2), .int (nI n), .int (nI mo)])), ((ax 1), .inl (cO, 20, .inr (.inr (.inr (.inr (ao)))))), ((ax 2), .inl (cI, 20, .inl (iv))), ((aa 0), .inr (0, [.int (nI ((upN (upN an 3 v) 4 w) 0)), .int (nI ((upN (upN an 3 v) 4 w) 1)), .int (nI ((upN (upN an 3 v) 4 w) 0 + (upN (upN an 3 v) 4 w) 2)), .int (nI ((upN (upN an 3 v) 4 w) 3)), .int (nI ((upN (upN an 3 v) 4 w) 4)), .int (nI ((upN (upN an 3 v) 4 w) 5)), .int (nI ((upN (upN an 3 v) 4 w) 6)), .int (nI ((upN (upN an 3 v) 4 w) 7)), .ref (aa 1), .ref (aa 2), .ref (aa 3), .ref (aa 4), .long (kp)])), ((aa 1), .inl (cI, 2, .inl (fun j => nI (if j = 0 then (upN (upN an 3 v) 4 w) 8 else (upN (upN an 3 v) 4 w) 9)))), ((aa 2), .inl (cI, 20, .inl (fun j => nI (jF (upN (upN an 3 v) 4 w) iv j)))), ((aa 3), .inl (cI, 20, .inl (fun j => jC (upN (upN an 3 v) 4 w) iv j))), ((aa 4), .inl (cJ, 240, .inr (.inl (py))))] H := hP
  have hD : va_D A [((ax 0), .inr (1, [.ref (ax 1), .ref (ax 2), .int (nI n), .int (nI mo)])), ((ax 1), .inl (cO, 20, .inr (.inr (.inr (.inr (ao)))))), ((ax 2), .inl (cI, 20, .inl (iv))), ((aa 0), .inr (0, [.int (nI ((upN (upN an 3 v) 4 w) 0)), .int (nI ((upN (upN an 3 v) 4 w) 1)), .int (nI ((upN (upN an 3 v) 4 w) 0 + (upN (upN an 3 v) 4 w) 2)), .int (nI ((upN (upN an 3 v) 4 w) 3)), .int (nI ((upN (upN an 3 v) 4 w) 4)), .int (nI ((upN (upN an 3 v) 4 w) 5)), .int (nI ((upN (upN an 3 v) 4 w) 6)), .int (nI ((upN (upN an 3 v) 4 w) 7)), .ref (aa 1), .ref (aa 2), .ref (aa 3), .ref (aa 4), .long (kp)])), ((aa 1), .inl (cI, 2, .inl (fun j => nI (if j = 0 then (upN (upN an 3 v) 4 w) 8 else (upN (upN an 3 v) 4 w) 9)))), ((aa 2), .inl (cI, 20, .inl (fun j => nI (jF (upN (upN an 3 v) 4 w) iv j)))), ((aa 3), .inl (cI, 20, .inl (fun j => jC (upN (upN an 3 v) 4 w) iv j))), ((aa 4), .inl (cJ, 240, .inr (.inl (py))))] := hD
  refine lv_goto (tgt := 25) hx hb dL_survivor_7 (by decide) ?_
  refine lv_iconst (v := nI 0) hx hb dL_survivor_25 (by decide) ?_
  have hP : va_P (dC, dI) vwCl (jFW cI cJ cO ax ao n mo iv aa (upN (upN an 3 v) 4 w) kp py) H := hP
  exact W.iret (v := nI 0) hx hb hr (fun t ht hW => ⟨⟨_, (), rfl, rfl, j_h ht hP⟩, hS.F ht⟩) hS.2.2 dL_survivor_26
set_option maxHeartbeats 4000000 in
set_option maxRecDepth 100000 in
/-- the law calls setCap: it goes -/
theorem c_L_cap (l : Launch) (dC : Nat → ClassId) (dI : Nat → Nat → Nat) (cI cJ cZ cO : ClassId) (ax : Nat → Nat) (ao : Nat → Option Nat) (n mo : Nat) (iv : Nat → Int32) (aa an : Nat → Nat) (kp : Int64) (py : Nat → Int64) (k : Nat) (v : Nat) (hv : jV an) (hm : mo ≤ 240) (hk : k < 20) (hao : ao k = some (aa 0)) (h1 : v ≤ 200) (hs : ¬ an 0 < mo) : Met l yL_cap wsL_cap ({ frames := 3, cells := 0, slots := 0, locals := 64 }) (va_Pc [.ref (ax 0), .int (nI k), .int (nI v)] (jW (dC, dI) (jTY cI cJ cZ cO) (jFW cI cJ cO ax ao n mo iv aa an kp py))) (va_Qi (fun r (_ : Unit) => r = nI 0) (fun _ t => va_P (dC, dI) vwCl (jFW cI cJ cO ax ao n mo iv aa (upN an 5 v) kp py) t.heap) (jA (jFW cI cJ cO ax ao n mo iv aa an kp py))) 0 0 (jA (jFW cI cJ cO ax ao n mo iv aa an kp py)) := by
  refine j_ofh (cc := cL_cap) (maxL := 4) (ret := (some .int)) (by decide) rfl (Nat.le_of_ble_eq_true rfl) ?_
  intro p e s m below meth c ls hx hb hr hml hts hown hlocks htab hl hpre
  have hown : s.vm.findClass RL = some m.cls := hown
  have hl : lv_has ls 4 [(0, .ref (ax 0)), (1, .int (nI k)), (2, .int (nI v))] := hl
  obtain ⟨hP, hK, hD0⟩ := hpre
  have hD := hD0.jA
  generalize hAe : jA (jFW cI cJ cO ax ao n mo iv aa an kp py) = A at hD ⊢
  have hS : va_S A s.heap s.heap [] := va_S.rf
  refine lv_aload_n hx hb dL_cap_0 rfl (lv_at hl 0 rfl) ?_
  refine lv_iload_n hx hb dL_cap_1 rfl (lv_at hl 1 rfl) ?_
  refine lv_iload_n hx hb dL_cap_2 rfl (lv_at hl 2 rfl) ?_
  refine j_wV (As := [.int (nI k), .int (nI v)]) (rest := []) ⟨hx, hb, hml, hown, hts⟩ (c_X1_setCap l dC dI cI cJ cZ cO ax ao n mo iv aa an kp py k v hv hm hk hao h1 hs) (cwV 2 hts gL_cap_X1_setCap rfl rfl rfl (by decide +kernel) ⟨Nat.le_of_ble_eq_true rfl, Nat.le_of_ble_eq_true rfl⟩) (jW_V hK hP hD [0, 1, 2, 3, 4, 5, 6, 7] (by decide) rfl (ci := 1) (q0 := 0) rfl rfl rfl) rfl hl rfl (Nat.le_of_ble_eq_true rfl) dL_cap_3 ⟨Nat.le_of_ble_eq_true rfl, Nat.le_of_ble_eq_true rfl⟩ hP hD hS [0, 1, 2, 3, 4, 5, 6, 7] [] rfl (fun _ : Unit => [((ax 0), .inr (1, [.ref (ax 1), .ref (ax 2), .int (nI n), .int (nI mo)])), ((ax 1), .inl (cO, 20, .inr (.inr (.inr (.inr (ao)))))), ((ax 2), .inl (cI, 20, .inl (iv))), ((aa 0), .inr (0, [.int (nI ((upN an 5 v) 0)), .int (nI ((upN an 5 v) 1)), .int (nI ((upN an 5 v) 0 + (upN an 5 v) 2)), .int (nI ((upN an 5 v) 3)), .int (nI ((upN an 5 v) 4)), .int (nI ((upN an 5 v) 5)), .int (nI ((upN an 5 v) 6)), .int (nI ((upN an 5 v) 7)), .ref (aa 1), .ref (aa 2), .ref (aa 3), .ref (aa 4), .long (kp)])), ((aa 1), .inl (cI, 2, .inl (fun j => nI (if j = 0 then (upN an 5 v) 8 else (upN an 5 v) 9)))), ((aa 2), .inl (cI, 20, .inl (fun j => nI (jF (upN an 5 v) iv j)))), ((aa 3), .inl (cI, 20, .inl (fun j => jC (upN an 5 v) iv j))), ((aa 4), .inl (cJ, 240, .inr (.inl (py))))]) (fun _ => rfl) [(ax 0), (ax 1), (ax 2), (aa 0), (aa 1), (aa 2), (aa 3), (aa 4)] rfl (fun _ => rfl) [] rfl (fun _ => rfl) (fun _ i hi => j_cov _ _ 8 (by decide) i hi) (fun _ H locs hr_3 hP hD hS => ?_)
  have hP : va_P (dC, dI) vwCl [((ax 0), .inr (1, [.ref (ax 1), .ref (ax 2), .int (nI n), .int (nI mo)])), ((ax 1), .inl (cO, 20, .inr (.inr (.inr (.inr (ao)))))), ((ax 2), .inl (cI, 20, .inl (iv))), ((aa 0), .inr (0, [.int (nI ((upN an 5 v) 0)), .int (nI ((upN an 5 v) 1)), .int (nI ((upN an 5 v) 0 + (upN an 5 v) 2)), .int (nI ((upN an 5 v) 3)), .int (nI ((upN an 5 v) 4)), .int (nI ((upN an 5 v) 5)), .int (nI ((upN an 5 v) 6)), .int (nI ((upN an 5 v) 7)), .ref (aa 1), .ref (aa 2), .ref (aa 3), .ref (aa 4), .long (kp)])), ((aa 1), .inl (cI, 2, .inl (fun j => nI (if j = 0 then (upN an 5 v) 8 else (upN an 5 v) 9)))), ((aa 2), .inl (cI, 20, .inl (fun j => nI (jF (upN an 5 v) iv j)))), ((aa 3), .inl (cI, 20, .inl (fun j => jC (upN an 5 v) iv j))), ((aa 4), .inl (cJ, 240, .inr (.inl (py))))] H := hP
  have hD : va_D A [((ax 0), .inr (1, [.ref (ax 1), .ref (ax 2), .int (nI n), .int (nI mo)])), ((ax 1), .inl (cO, 20, .inr (.inr (.inr (.inr (ao)))))), ((ax 2), .inl (cI, 20, .inl (iv))), ((aa 0), .inr (0, [.int (nI ((upN an 5 v) 0)), .int (nI ((upN an 5 v) 1)), .int (nI ((upN an 5 v) 0 + (upN an 5 v) 2)), .int (nI ((upN an 5 v) 3)), .int (nI ((upN an 5 v) 4)), .int (nI ((upN an 5 v) 5)), .int (nI ((upN an 5 v) 6)), .int (nI ((upN an 5 v) 7)), .ref (aa 1), .ref (aa 2), .ref (aa 3), .ref (aa 4), .long (kp)])), ((aa 1), .inl (cI, 2, .inl (fun j => nI (if j = 0 then (upN an 5 v) 8 else (upN an 5 v) 9)))), ((aa 2), .inl (cI, 20, .inl (fun j => nI (jF (upN an 5 v) iv j)))), ((aa 3), .inl (cI, 20, .inl (fun j => jC (upN an 5 v) iv j))), ((aa 4), .inl (cJ, 240, .inr (.inl (py))))] := hD
  refine lv_goto (tgt := 21) hx hb dL_cap_6 (by decide) ?_
  refine lv_iconst (v := nI 0) hx hb dL_cap_21 (by decide) ?_
  have hP : va_P (dC, dI) vwCl (jFW cI cJ cO ax ao n mo iv aa (upN an 5 v) kp py) H := hP
  exact W.iret (v := nI 0) hx hb hr (fun t ht hW => ⟨⟨_, (), rfl, rfl, j_h ht hP⟩, hS.F ht⟩) hS.2.2 dL_cap_22
set_option maxHeartbeats 4000000 in
set_option maxRecDepth 100000 in
/-- the law calls protect: it goes -/
theorem c_L_protect (l : Launch) (dC : Nat → ClassId) (dI : Nat → Nat → Nat) (cI cJ cZ cO : ClassId) (ax : Nat → Nat) (ao : Nat → Option Nat) (n mo : Nat) (iv : Nat → Int32) (aa an : Nat → Nat) (kp : Int64) (py : Nat → Int64) (k : Nat) (v w : Nat) (hv : jV an) (hm : mo ≤ 240) (hk : k < 20) (hao : ao k = some (aa 0)) (h1 : v ≤ 10000000) (h2 : w ≤ 100) (hs : ¬ an 0 < mo) : Met l yL_protect wsL_protect ({ frames := 2, cells := 0, slots := 0, locals := 46 }) (va_Pc [.ref (ax 0), .int (nI k), .int (nI v), .int (nI w)] (jW (dC, dI) (jTY cI cJ cZ cO) (jFW cI cJ cO ax ao n mo iv aa an kp py))) (va_Qi (fun r (_ : Unit) => r = nI 0) (fun _ t => va_P (dC, dI) vwCl (jFW cI cJ cO ax ao n mo iv aa (upN (upN an 6 v) 7 w) kp py) t.heap) (jA (jFW cI cJ cO ax ao n mo iv aa an kp py))) 0 0 (jA (jFW cI cJ cO ax ao n mo iv aa an kp py)) := by
  refine j_ofh (cc := cL_protect) (maxL := 5) (ret := (some .int)) (by decide) rfl (Nat.le_of_ble_eq_true rfl) ?_
  intro p e s m below meth c ls hx hb hr hml hts hown hlocks htab hl hpre
  have hown : s.vm.findClass RL = some m.cls := hown
  have hl : lv_has ls 5 [(0, .ref (ax 0)), (1, .int (nI k)), (2, .int (nI v)), (3, .int (nI w))] := hl
  obtain ⟨hP, hK, hD0⟩ := hpre
  have hD := hD0.jA
  generalize hAe : jA (jFW cI cJ cO ax ao n mo iv aa an kp py) = A at hD ⊢
  have hS : va_S A s.heap s.heap [] := va_S.rf
  refine lv_aload_n hx hb dL_protect_0 rfl (lv_at hl 0 rfl) ?_
  refine lv_iload_n hx hb dL_protect_1 rfl (lv_at hl 1 rfl) ?_
  refine lv_iload_n hx hb dL_protect_2 rfl (lv_at hl 2 rfl) ?_
  refine lv_iload_n hx hb dL_protect_3 rfl (lv_at hl 3 rfl) ?_
  refine j_wV (As := [.int (nI k), .int (nI v), .int (nI w)]) (rest := []) ⟨hx, hb, hml, hown, hts⟩ (c_X1_protect l dC dI cI cJ cZ cO ax ao n mo iv aa an kp py k v w hv hm hk hao h1 h2 hs) (cwV 3 hts gL_protect_X1_protect rfl rfl rfl (by decide +kernel) ⟨Nat.le_of_ble_eq_true rfl, Nat.le_of_ble_eq_true rfl⟩) (jW_V hK hP hD [0, 1, 2, 3, 4, 5, 6, 7] (by decide) rfl (ci := 1) (q0 := 0) rfl rfl rfl) rfl hl rfl (Nat.le_of_ble_eq_true rfl) dL_protect_4 ⟨Nat.le_of_ble_eq_true rfl, Nat.le_of_ble_eq_true rfl⟩ hP hD hS [0, 1, 2, 3, 4, 5, 6, 7] [] rfl (fun _ : Unit => [((ax 0), .inr (1, [.ref (ax 1), .ref (ax 2), .int (nI n), .int (nI mo)])), ((ax 1), .inl (cO, 20, .inr (.inr (.inr (.inr (ao)))))), ((ax 2), .inl (cI, 20, .inl (iv))), ((aa 0), .inr (0, [.int (nI ((upN (upN an 6 v) 7 w) 0)), .int (nI ((upN (upN an 6 v) 7 w) 1)), .int (nI ((upN (upN an 6 v) 7 w) 0 + (upN (upN an 6 v) 7 w) 2)), .int (nI ((upN (upN an 6 v) 7 w) 3)), .int (nI ((upN (upN an 6 v) 7 w) 4)), .int (nI ((upN (upN an 6 v) 7 w) 5)), .int (nI ((upN (upN an 6 v) 7 w) 6)), .int (nI ((upN (upN an 6 v) 7 w) 7)), .ref (aa 1), .ref (aa 2), .ref (aa 3), .ref (aa 4), .long (kp)])), ((aa 1), .inl (cI, 2, .inl (fun j => nI (if j = 0 then (upN (upN an 6 v) 7 w) 8 else (upN (upN an 6 v) 7 w) 9)))), ((aa 2), .inl (cI, 20, .inl (fun j => nI (jF (upN (upN an 6 v) 7 w) iv j)))), ((aa 3), .inl (cI, 20, .inl (fun j => jC (upN (upN an 6 v) 7 w) iv j))), ((aa 4), .inl (cJ, 240, .inr (.inl (py))))]) (fun _ => rfl) [(ax 0), (ax 1), (ax 2), (aa 0), (aa 1), (aa 2), (aa 3), (aa 4)] rfl (fun _ => rfl) [] rfl (fun _ => rfl) (fun _ i hi => j_cov _ _ 8 (by decide) i hi) (fun _ H locs hr_4 hP hD hS => ?_)
  have hP : va_P (dC, dI) vwCl [((ax 0), .inr (1, [.ref (ax 1), .ref (ax 2), .int (nI n), .int (nI mo)])), ((ax 1), .inl (cO, 20, .inr (.inr (.inr (.inr (ao)))))), ((ax 2), .inl (cI, 20, .inl (iv))), ((aa 0), .inr (0, [.int (nI ((upN (upN an 6 v) 7 w) 0)), .int (nI ((upN (upN an 6 v) 7 w) 1)), .int (nI ((upN (upN an 6 v) 7 w) 0 + (upN (upN an 6 v) 7 w) 2)), .int (nI ((upN (upN an 6 v) 7 w) 3)), .int (nI ((upN (upN an 6 v) 7 w) 4)), .int (nI ((upN (upN an 6 v) 7 w) 5)), .int (nI ((upN (upN an 6 v) 7 w) 6)), .int (nI ((upN (upN an 6 v) 7 w) 7)), .ref (aa 1), .ref (aa 2), .ref (aa 3), .ref (aa 4), .long (kp)])), ((aa 1), .inl (cI, 2, .inl (fun j => nI (if j = 0 then (upN (upN an 6 v) 7 w) 8 else (upN (upN an 6 v) 7 w) 9)))), ((aa 2), .inl (cI, 20, .inl (fun j => nI (jF (upN (upN an 6 v) 7 w) iv j)))), ((aa 3), .inl (cI, 20, .inl (fun j => jC (upN (upN an 6 v) 7 w) iv j))), ((aa 4), .inl (cJ, 240, .inr (.inl (py))))] H := hP
  have hD : va_D A [((ax 0), .inr (1, [.ref (ax 1), .ref (ax 2), .int (nI n), .int (nI mo)])), ((ax 1), .inl (cO, 20, .inr (.inr (.inr (.inr (ao)))))), ((ax 2), .inl (cI, 20, .inl (iv))), ((aa 0), .inr (0, [.int (nI ((upN (upN an 6 v) 7 w) 0)), .int (nI ((upN (upN an 6 v) 7 w) 1)), .int (nI ((upN (upN an 6 v) 7 w) 0 + (upN (upN an 6 v) 7 w) 2)), .int (nI ((upN (upN an 6 v) 7 w) 3)), .int (nI ((upN (upN an 6 v) 7 w) 4)), .int (nI ((upN (upN an 6 v) 7 w) 5)), .int (nI ((upN (upN an 6 v) 7 w) 6)), .int (nI ((upN (upN an 6 v) 7 w) 7)), .ref (aa 1), .ref (aa 2), .ref (aa 3), .ref (aa 4), .long (kp)])), ((aa 1), .inl (cI, 2, .inl (fun j => nI (if j = 0 then (upN (upN an 6 v) 7 w) 8 else (upN (upN an 6 v) 7 w) 9)))), ((aa 2), .inl (cI, 20, .inl (fun j => nI (jF (upN (upN an 6 v) 7 w) iv j)))), ((aa 3), .inl (cI, 20, .inl (fun j => jC (upN (upN an 6 v) 7 w) iv j))), ((aa 4), .inl (cJ, 240, .inr (.inl (py))))] := hD
  refine lv_goto (tgt := 25) hx hb dL_protect_7 (by decide) ?_
  refine lv_iconst (v := nI 0) hx hb dL_protect_25 (by decide) ?_
  have hP : va_P (dC, dI) vwCl (jFW cI cJ cO ax ao n mo iv aa (upN (upN an 6 v) 7 w) kp py) H := hP
  exact W.iret (v := nI 0) hx hb hr (fun t ht hW => ⟨⟨_, (), rfl, rfl, j_h ht hP⟩, hS.F ht⟩) hS.2.2 dL_protect_26
set_option maxHeartbeats 4000000 in
set_option maxRecDepth 100000 in
/-- the law calls die: it goes -/
theorem c_L_die0 (l : Launch) (dC : Nat → ClassId) (dI : Nat → Nat → Nat) (cI cJ cZ cO : ClassId) (ax : Nat → Nat) (ao : Nat → Option Nat) (n mo : Nat) (iv : Nat → Int32) (aa an : Nat → Nat) (kp : Int64) (py : Nat → Int64) (k : Nat) (v : Nat) (hv : jV an) (hm : mo ≤ 240) (hk : k < 20) (hao : ao k = some (aa 0)) (h1 : v ≤ mo) (h2 : v ≤ 239) (ht9 : an 8 = 240) : Met l yL_die wsL_die ({ frames := 2, cells := 0, slots := 0, locals := 46 }) (va_Pc [.ref (ax 0), .int (nI k), .int (nI 0), .int (nI v)] (jW (dC, dI) (jTY cI cJ cZ cO) (jFW cI cJ cO ax ao n mo iv aa an kp py))) (va_Qi (fun r (_ : Unit) => r = nI 0) (fun _ t => va_P (dC, dI) vwCl (jFW cI cJ cO ax ao n mo iv aa (upN an 8 v) kp py) t.heap) (jA (jFW cI cJ cO ax ao n mo iv aa an kp py))) 0 0 (jA (jFW cI cJ cO ax ao n mo iv aa an kp py)) := by
  refine j_ofh (cc := cL_die) (maxL := 5) (ret := (some .int)) (by decide) rfl (Nat.le_of_ble_eq_true rfl) ?_
  intro p e s m below meth c ls hx hb hr hml hts hown hlocks htab hl hpre
  have hown : s.vm.findClass RL = some m.cls := hown
  have hl : lv_has ls 5 [(0, .ref (ax 0)), (1, .int (nI k)), (2, .int (nI 0)), (3, .int (nI v))] := hl
  obtain ⟨hP, hK, hD0⟩ := hpre
  have hD := hD0.jA
  generalize hAe : jA (jFW cI cJ cO ax ao n mo iv aa an kp py) = A at hD ⊢
  have hS : va_S A s.heap s.heap [] := va_S.rf
  refine lv_aload_n hx hb dL_die_0 rfl (lv_at hl 0 rfl) ?_
  refine lv_iload_n hx hb dL_die_1 rfl (lv_at hl 1 rfl) ?_
  refine lv_iload_n hx hb dL_die_2 rfl (lv_at hl 2 rfl) ?_
  refine lv_iload_n hx hb dL_die_3 rfl (lv_at hl 3 rfl) ?_
  refine j_wV (As := [.int (nI k), .int (nI 0), .int (nI v)]) (rest := []) ⟨hx, hb, hml, hown, hts⟩ (c_X1_die0 l dC dI cI cJ cZ cO ax ao n mo iv aa an kp py k v hv hm hk hao h1 h2 ht9) (cwV 3 hts gL_die_X1_die rfl rfl rfl (by decide +kernel) ⟨Nat.le_of_ble_eq_true rfl, Nat.le_of_ble_eq_true rfl⟩) (jW_V hK hP hD [0, 1, 2, 3, 4, 5, 6, 7] (by decide) rfl (ci := 1) (q0 := 0) rfl rfl rfl) rfl hl rfl (Nat.le_of_ble_eq_true rfl) dL_die_4 ⟨Nat.le_of_ble_eq_true rfl, Nat.le_of_ble_eq_true rfl⟩ hP hD hS [0, 1, 2, 3, 4, 5, 6, 7] [] rfl (fun _ : Unit => [((ax 0), .inr (1, [.ref (ax 1), .ref (ax 2), .int (nI n), .int (nI mo)])), ((ax 1), .inl (cO, 20, .inr (.inr (.inr (.inr (ao)))))), ((ax 2), .inl (cI, 20, .inl (iv))), ((aa 0), .inr (0, [.int (nI ((upN an 8 v) 0)), .int (nI ((upN an 8 v) 1)), .int (nI ((upN an 8 v) 0 + (upN an 8 v) 2)), .int (nI ((upN an 8 v) 3)), .int (nI ((upN an 8 v) 4)), .int (nI ((upN an 8 v) 5)), .int (nI ((upN an 8 v) 6)), .int (nI ((upN an 8 v) 7)), .ref (aa 1), .ref (aa 2), .ref (aa 3), .ref (aa 4), .long (kp)])), ((aa 1), .inl (cI, 2, .inl (fun j => nI (if j = 0 then (upN an 8 v) 8 else (upN an 8 v) 9)))), ((aa 2), .inl (cI, 20, .inl (fun j => nI (jF (upN an 8 v) iv j)))), ((aa 3), .inl (cI, 20, .inl (fun j => jC (upN an 8 v) iv j))), ((aa 4), .inl (cJ, 240, .inr (.inl (py))))]) (fun _ => rfl) [(ax 0), (ax 1), (ax 2), (aa 0), (aa 1), (aa 2), (aa 3), (aa 4)] rfl (fun _ => rfl) [] rfl (fun _ => rfl) (fun _ i hi => j_cov _ _ 8 (by decide) i hi) (fun _ H locs hr_4 hP hD hS => ?_)
  have hP : va_P (dC, dI) vwCl [((ax 0), .inr (1, [.ref (ax 1), .ref (ax 2), .int (nI n), .int (nI mo)])), ((ax 1), .inl (cO, 20, .inr (.inr (.inr (.inr (ao)))))), ((ax 2), .inl (cI, 20, .inl (iv))), ((aa 0), .inr (0, [.int (nI ((upN an 8 v) 0)), .int (nI ((upN an 8 v) 1)), .int (nI ((upN an 8 v) 0 + (upN an 8 v) 2)), .int (nI ((upN an 8 v) 3)), .int (nI ((upN an 8 v) 4)), .int (nI ((upN an 8 v) 5)), .int (nI ((upN an 8 v) 6)), .int (nI ((upN an 8 v) 7)), .ref (aa 1), .ref (aa 2), .ref (aa 3), .ref (aa 4), .long (kp)])), ((aa 1), .inl (cI, 2, .inl (fun j => nI (if j = 0 then (upN an 8 v) 8 else (upN an 8 v) 9)))), ((aa 2), .inl (cI, 20, .inl (fun j => nI (jF (upN an 8 v) iv j)))), ((aa 3), .inl (cI, 20, .inl (fun j => jC (upN an 8 v) iv j))), ((aa 4), .inl (cJ, 240, .inr (.inl (py))))] H := hP
  have hD : va_D A [((ax 0), .inr (1, [.ref (ax 1), .ref (ax 2), .int (nI n), .int (nI mo)])), ((ax 1), .inl (cO, 20, .inr (.inr (.inr (.inr (ao)))))), ((ax 2), .inl (cI, 20, .inl (iv))), ((aa 0), .inr (0, [.int (nI ((upN an 8 v) 0)), .int (nI ((upN an 8 v) 1)), .int (nI ((upN an 8 v) 0 + (upN an 8 v) 2)), .int (nI ((upN an 8 v) 3)), .int (nI ((upN an 8 v) 4)), .int (nI ((upN an 8 v) 5)), .int (nI ((upN an 8 v) 6)), .int (nI ((upN an 8 v) 7)), .ref (aa 1), .ref (aa 2), .ref (aa 3), .ref (aa 4), .long (kp)])), ((aa 1), .inl (cI, 2, .inl (fun j => nI (if j = 0 then (upN an 8 v) 8 else (upN an 8 v) 9)))), ((aa 2), .inl (cI, 20, .inl (fun j => nI (jF (upN an 8 v) iv j)))), ((aa 3), .inl (cI, 20, .inl (fun j => jC (upN an 8 v) iv j))), ((aa 4), .inl (cJ, 240, .inr (.inl (py))))] := hD
  refine lv_goto (tgt := 25) hx hb dL_die_7 (by decide) ?_
  refine lv_iconst (v := nI 0) hx hb dL_die_25 (by decide) ?_
  have hP : va_P (dC, dI) vwCl (jFW cI cJ cO ax ao n mo iv aa (upN an 8 v) kp py) H := hP
  exact W.iret (v := nI 0) hx hb hr (fun t ht hW => ⟨⟨_, (), rfl, rfl, j_h ht hP⟩, hS.F ht⟩) hS.2.2 dL_die_26
set_option maxHeartbeats 4000000 in
set_option maxRecDepth 100000 in
/-- the law calls takeBack: it goes -/
theorem c_L_takeBack0 (l : Launch) (dC : Nat → ClassId) (dI : Nat → Nat → Nat) (cI cJ cZ cO : ClassId) (ax : Nat → Nat) (ao : Nat → Option Nat) (n mo : Nat) (iv : Nat → Int32) (aa an : Nat → Nat) (kp : Int64) (py : Nat → Int64) (k : Nat) (hv : jV an) (hm : mo ≤ 240) (hk : k < 20) (hao : ao k = some (aa 0)) (ht9 : an 8 ≠ 240) : Met l yL_takeBack wsL_takeBack ({ frames := 2, cells := 0, slots := 0, locals := 46 }) (va_Pc [.ref (ax 0), .int (nI k), .int (nI 0)] (jW (dC, dI) (jTY cI cJ cZ cO) (jFW cI cJ cO ax ao n mo iv aa an kp py))) (va_Qi (fun r (_ : Unit) => r = nI (an 8)) (fun _ t => va_P (dC, dI) vwCl (jFW cI cJ cO ax ao n mo iv aa (upN an 8 240) kp py) t.heap) (jA (jFW cI cJ cO ax ao n mo iv aa an kp py))) 0 0 (jA (jFW cI cJ cO ax ao n mo iv aa an kp py)) := by
  refine j_ofh (cc := cL_takeBack) (maxL := 4) (ret := (some .int)) (by decide) rfl (Nat.le_of_ble_eq_true rfl) ?_
  intro p e s m below meth c ls hx hb hr hml hts hown hlocks htab hl hpre
  have hown : s.vm.findClass RL = some m.cls := hown
  have hl : lv_has ls 4 [(0, .ref (ax 0)), (1, .int (nI k)), (2, .int (nI 0))] := hl
  obtain ⟨hP, hK, hD0⟩ := hpre
  have hD := hD0.jA
  generalize hAe : jA (jFW cI cJ cO ax ao n mo iv aa an kp py) = A at hD ⊢
  have hS : va_S A s.heap s.heap [] := va_S.rf
  refine lv_aload_n hx hb dL_takeBack_0 rfl (lv_at hl 0 rfl) ?_
  refine lv_iload_n hx hb dL_takeBack_1 rfl (lv_at hl 1 rfl) ?_
  refine lv_iload_n hx hb dL_takeBack_2 rfl (lv_at hl 2 rfl) ?_
  refine j_wI (As := [.int (nI k), .int (nI 0)]) (rest := []) ⟨hx, hb, hml, hown, hts⟩ (c_X1_takeBack0 l dC dI cI cJ cZ cO ax ao n mo iv aa an kp py k hv hm hk hao ht9) (cwV 2 hts gL_takeBack_X1_takeBack rfl rfl rfl (by decide +kernel) ⟨Nat.le_of_ble_eq_true rfl, Nat.le_of_ble_eq_true rfl⟩) (jW_V hK hP hD [0, 1, 2, 3, 4, 5, 6, 7] (by decide) rfl (ci := 1) (q0 := 0) rfl rfl rfl) rfl hl rfl (Nat.le_of_ble_eq_true rfl) dL_takeBack_3 ⟨Nat.le_of_ble_eq_true rfl, Nat.le_of_ble_eq_true rfl⟩ hP hD hS [0, 1, 2, 3, 4, 5, 6, 7] [] rfl (fun _ : Unit => [((ax 0), .inr (1, [.ref (ax 1), .ref (ax 2), .int (nI n), .int (nI mo)])), ((ax 1), .inl (cO, 20, .inr (.inr (.inr (.inr (ao)))))), ((ax 2), .inl (cI, 20, .inl (iv))), ((aa 0), .inr (0, [.int (nI ((upN an 8 240) 0)), .int (nI ((upN an 8 240) 1)), .int (nI ((upN an 8 240) 0 + (upN an 8 240) 2)), .int (nI ((upN an 8 240) 3)), .int (nI ((upN an 8 240) 4)), .int (nI ((upN an 8 240) 5)), .int (nI ((upN an 8 240) 6)), .int (nI ((upN an 8 240) 7)), .ref (aa 1), .ref (aa 2), .ref (aa 3), .ref (aa 4), .long (kp)])), ((aa 1), .inl (cI, 2, .inl (fun j => nI (if j = 0 then (upN an 8 240) 8 else (upN an 8 240) 9)))), ((aa 2), .inl (cI, 20, .inl (fun j => nI (jF (upN an 8 240) iv j)))), ((aa 3), .inl (cI, 20, .inl (fun j => jC (upN an 8 240) iv j))), ((aa 4), .inl (cJ, 240, .inr (.inl (py))))]) (fun _ => rfl) [(ax 0), (ax 1), (ax 2), (aa 0), (aa 1), (aa 2), (aa 3), (aa 4)] rfl (fun _ => rfl) [] rfl (fun _ => rfl) (fun _ i hi => j_cov _ _ 8 (by decide) i hi) (fun r_3 _ H locs hr_3 hP hD hS => ?_)
  subst hr_3
  have hP : va_P (dC, dI) vwCl [((ax 0), .inr (1, [.ref (ax 1), .ref (ax 2), .int (nI n), .int (nI mo)])), ((ax 1), .inl (cO, 20, .inr (.inr (.inr (.inr (ao)))))), ((ax 2), .inl (cI, 20, .inl (iv))), ((aa 0), .inr (0, [.int (nI ((upN an 8 240) 0)), .int (nI ((upN an 8 240) 1)), .int (nI ((upN an 8 240) 0 + (upN an 8 240) 2)), .int (nI ((upN an 8 240) 3)), .int (nI ((upN an 8 240) 4)), .int (nI ((upN an 8 240) 5)), .int (nI ((upN an 8 240) 6)), .int (nI ((upN an 8 240) 7)), .ref (aa 1), .ref (aa 2), .ref (aa 3), .ref (aa 4), .long (kp)])), ((aa 1), .inl (cI, 2, .inl (fun j => nI (if j = 0 then (upN an 8 240) 8 else (upN an 8 240) 9)))), ((aa 2), .inl (cI, 20, .inl (fun j => nI (jF (upN an 8 240) iv j)))), ((aa 3), .inl (cI, 20, .inl (fun j => jC (upN an 8 240) iv j))), ((aa 4), .inl (cJ, 240, .inr (.inl (py))))] H := hP
  have hD : va_D A [((ax 0), .inr (1, [.ref (ax 1), .ref (ax 2), .int (nI n), .int (nI mo)])), ((ax 1), .inl (cO, 20, .inr (.inr (.inr (.inr (ao)))))), ((ax 2), .inl (cI, 20, .inl (iv))), ((aa 0), .inr (0, [.int (nI ((upN an 8 240) 0)), .int (nI ((upN an 8 240) 1)), .int (nI ((upN an 8 240) 0 + (upN an 8 240) 2)), .int (nI ((upN an 8 240) 3)), .int (nI ((upN an 8 240) 4)), .int (nI ((upN an 8 240) 5)), .int (nI ((upN an 8 240) 6)), .int (nI ((upN an 8 240) 7)), .ref (aa 1), .ref (aa 2), .ref (aa 3), .ref (aa 4), .long (kp)])), ((aa 1), .inl (cI, 2, .inl (fun j => nI (if j = 0 then (upN an 8 240) 8 else (upN an 8 240) 9)))), ((aa 2), .inl (cI, 20, .inl (fun j => nI (jF (upN an 8 240) iv j)))), ((aa 3), .inl (cI, 20, .inl (fun j => jC (upN an 8 240) iv j))), ((aa 4), .inl (cJ, 240, .inr (.inl (py))))] := hD
  have hP : va_P (dC, dI) vwCl (jFW cI cJ cO ax ao n mo iv aa (upN an 8 240) kp py) H := hP
  exact W.iret (v := nI (an 8)) hx hb hr (fun t ht hW => ⟨⟨_, (), rfl, rfl, j_h ht hP⟩, hS.F ht⟩) hS.2.2 dL_takeBack_6
set_option maxHeartbeats 4000000 in
set_option maxRecDepth 100000 in
/-- the law calls die: it goes -/
theorem c_L_die1 (l : Launch) (dC : Nat → ClassId) (dI : Nat → Nat → Nat) (cI cJ cZ cO : ClassId) (ax : Nat → Nat) (ao : Nat → Option Nat) (n mo : Nat) (iv : Nat → Int32) (aa an : Nat → Nat) (kp : Int64) (py : Nat → Int64) (k : Nat) (v : Nat) (hv : jV an) (hm : mo ≤ 240) (hk : k < 20) (hao : ao k = some (aa 0)) (h1 : v ≤ mo) (h2 : v ≤ 239) (ht9 : an 9 = 240) : Met l yL_die wsL_die ({ frames := 2, cells := 0, slots := 0, locals := 46 }) (va_Pc [.ref (ax 0), .int (nI k), .int (nI 1), .int (nI v)] (jW (dC, dI) (jTY cI cJ cZ cO) (jFW cI cJ cO ax ao n mo iv aa an kp py))) (va_Qi (fun r (_ : Unit) => r = nI 0) (fun _ t => va_P (dC, dI) vwCl (jFW cI cJ cO ax ao n mo iv aa (upN an 9 v) kp py) t.heap) (jA (jFW cI cJ cO ax ao n mo iv aa an kp py))) 0 0 (jA (jFW cI cJ cO ax ao n mo iv aa an kp py)) := by
  refine j_ofh (cc := cL_die) (maxL := 5) (ret := (some .int)) (by decide) rfl (Nat.le_of_ble_eq_true rfl) ?_
  intro p e s m below meth c ls hx hb hr hml hts hown hlocks htab hl hpre
  have hown : s.vm.findClass RL = some m.cls := hown
  have hl : lv_has ls 5 [(0, .ref (ax 0)), (1, .int (nI k)), (2, .int (nI 1)), (3, .int (nI v))] := hl
  obtain ⟨hP, hK, hD0⟩ := hpre
  have hD := hD0.jA
  generalize hAe : jA (jFW cI cJ cO ax ao n mo iv aa an kp py) = A at hD ⊢
  have hS : va_S A s.heap s.heap [] := va_S.rf
  refine lv_aload_n hx hb dL_die_0 rfl (lv_at hl 0 rfl) ?_
  refine lv_iload_n hx hb dL_die_1 rfl (lv_at hl 1 rfl) ?_
  refine lv_iload_n hx hb dL_die_2 rfl (lv_at hl 2 rfl) ?_
  refine lv_iload_n hx hb dL_die_3 rfl (lv_at hl 3 rfl) ?_
  refine j_wV (As := [.int (nI k), .int (nI 1), .int (nI v)]) (rest := []) ⟨hx, hb, hml, hown, hts⟩ (c_X1_die1 l dC dI cI cJ cZ cO ax ao n mo iv aa an kp py k v hv hm hk hao h1 h2 ht9) (cwV 3 hts gL_die_X1_die rfl rfl rfl (by decide +kernel) ⟨Nat.le_of_ble_eq_true rfl, Nat.le_of_ble_eq_true rfl⟩) (jW_V hK hP hD [0, 1, 2, 3, 4, 5, 6, 7] (by decide) rfl (ci := 1) (q0 := 0) rfl rfl rfl) rfl hl rfl (Nat.le_of_ble_eq_true rfl) dL_die_4 ⟨Nat.le_of_ble_eq_true rfl, Nat.le_of_ble_eq_true rfl⟩ hP hD hS [0, 1, 2, 3, 4, 5, 6, 7] [] rfl (fun _ : Unit => [((ax 0), .inr (1, [.ref (ax 1), .ref (ax 2), .int (nI n), .int (nI mo)])), ((ax 1), .inl (cO, 20, .inr (.inr (.inr (.inr (ao)))))), ((ax 2), .inl (cI, 20, .inl (iv))), ((aa 0), .inr (0, [.int (nI ((upN an 9 v) 0)), .int (nI ((upN an 9 v) 1)), .int (nI ((upN an 9 v) 0 + (upN an 9 v) 2)), .int (nI ((upN an 9 v) 3)), .int (nI ((upN an 9 v) 4)), .int (nI ((upN an 9 v) 5)), .int (nI ((upN an 9 v) 6)), .int (nI ((upN an 9 v) 7)), .ref (aa 1), .ref (aa 2), .ref (aa 3), .ref (aa 4), .long (kp)])), ((aa 1), .inl (cI, 2, .inl (fun j => nI (if j = 0 then (upN an 9 v) 8 else (upN an 9 v) 9)))), ((aa 2), .inl (cI, 20, .inl (fun j => nI (jF (upN an 9 v) iv j)))), ((aa 3), .inl (cI, 20, .inl (fun j => jC (upN an 9 v) iv j))), ((aa 4), .inl (cJ, 240, .inr (.inl (py))))]) (fun _ => rfl) [(ax 0), (ax 1), (ax 2), (aa 0), (aa 1), (aa 2), (aa 3), (aa 4)] rfl (fun _ => rfl) [] rfl (fun _ => rfl) (fun _ i hi => j_cov _ _ 8 (by decide) i hi) (fun _ H locs hr_4 hP hD hS => ?_)
  have hP : va_P (dC, dI) vwCl [((ax 0), .inr (1, [.ref (ax 1), .ref (ax 2), .int (nI n), .int (nI mo)])), ((ax 1), .inl (cO, 20, .inr (.inr (.inr (.inr (ao)))))), ((ax 2), .inl (cI, 20, .inl (iv))), ((aa 0), .inr (0, [.int (nI ((upN an 9 v) 0)), .int (nI ((upN an 9 v) 1)), .int (nI ((upN an 9 v) 0 + (upN an 9 v) 2)), .int (nI ((upN an 9 v) 3)), .int (nI ((upN an 9 v) 4)), .int (nI ((upN an 9 v) 5)), .int (nI ((upN an 9 v) 6)), .int (nI ((upN an 9 v) 7)), .ref (aa 1), .ref (aa 2), .ref (aa 3), .ref (aa 4), .long (kp)])), ((aa 1), .inl (cI, 2, .inl (fun j => nI (if j = 0 then (upN an 9 v) 8 else (upN an 9 v) 9)))), ((aa 2), .inl (cI, 20, .inl (fun j => nI (jF (upN an 9 v) iv j)))), ((aa 3), .inl (cI, 20, .inl (fun j => jC (upN an 9 v) iv j))), ((aa 4), .inl (cJ, 240, .inr (.inl (py))))] H := hP
  have hD : va_D A [((ax 0), .inr (1, [.ref (ax 1), .ref (ax 2), .int (nI n), .int (nI mo)])), ((ax 1), .inl (cO, 20, .inr (.inr (.inr (.inr (ao)))))), ((ax 2), .inl (cI, 20, .inl (iv))), ((aa 0), .inr (0, [.int (nI ((upN an 9 v) 0)), .int (nI ((upN an 9 v) 1)), .int (nI ((upN an 9 v) 0 + (upN an 9 v) 2)), .int (nI ((upN an 9 v) 3)), .int (nI ((upN an 9 v) 4)), .int (nI ((upN an 9 v) 5)), .int (nI ((upN an 9 v) 6)), .int (nI ((upN an 9 v) 7)), .ref (aa 1), .ref (aa 2), .ref (aa 3), .ref (aa 4), .long (kp)])), ((aa 1), .inl (cI, 2, .inl (fun j => nI (if j = 0 then (upN an 9 v) 8 else (upN an 9 v) 9)))), ((aa 2), .inl (cI, 20, .inl (fun j => nI (jF (upN an 9 v) iv j)))), ((aa 3), .inl (cI, 20, .inl (fun j => jC (upN an 9 v) iv j))), ((aa 4), .inl (cJ, 240, .inr (.inl (py))))] := hD
  refine lv_goto (tgt := 25) hx hb dL_die_7 (by decide) ?_
  refine lv_iconst (v := nI 0) hx hb dL_die_25 (by decide) ?_
  have hP : va_P (dC, dI) vwCl (jFW cI cJ cO ax ao n mo iv aa (upN an 9 v) kp py) H := hP
  exact W.iret (v := nI 0) hx hb hr (fun t ht hW => ⟨⟨_, (), rfl, rfl, j_h ht hP⟩, hS.F ht⟩) hS.2.2 dL_die_26
set_option maxHeartbeats 4000000 in
set_option maxRecDepth 100000 in
/-- the law calls takeBack: it goes -/
theorem c_L_takeBack1 (l : Launch) (dC : Nat → ClassId) (dI : Nat → Nat → Nat) (cI cJ cZ cO : ClassId) (ax : Nat → Nat) (ao : Nat → Option Nat) (n mo : Nat) (iv : Nat → Int32) (aa an : Nat → Nat) (kp : Int64) (py : Nat → Int64) (k : Nat) (hv : jV an) (hm : mo ≤ 240) (hk : k < 20) (hao : ao k = some (aa 0)) (ht9 : an 9 ≠ 240) : Met l yL_takeBack wsL_takeBack ({ frames := 2, cells := 0, slots := 0, locals := 46 }) (va_Pc [.ref (ax 0), .int (nI k), .int (nI 1)] (jW (dC, dI) (jTY cI cJ cZ cO) (jFW cI cJ cO ax ao n mo iv aa an kp py))) (va_Qi (fun r (_ : Unit) => r = nI (an 9)) (fun _ t => va_P (dC, dI) vwCl (jFW cI cJ cO ax ao n mo iv aa (upN an 9 240) kp py) t.heap) (jA (jFW cI cJ cO ax ao n mo iv aa an kp py))) 0 0 (jA (jFW cI cJ cO ax ao n mo iv aa an kp py)) := by
  refine j_ofh (cc := cL_takeBack) (maxL := 4) (ret := (some .int)) (by decide) rfl (Nat.le_of_ble_eq_true rfl) ?_
  intro p e s m below meth c ls hx hb hr hml hts hown hlocks htab hl hpre
  have hown : s.vm.findClass RL = some m.cls := hown
  have hl : lv_has ls 4 [(0, .ref (ax 0)), (1, .int (nI k)), (2, .int (nI 1))] := hl
  obtain ⟨hP, hK, hD0⟩ := hpre
  have hD := hD0.jA
  generalize hAe : jA (jFW cI cJ cO ax ao n mo iv aa an kp py) = A at hD ⊢
  have hS : va_S A s.heap s.heap [] := va_S.rf
  refine lv_aload_n hx hb dL_takeBack_0 rfl (lv_at hl 0 rfl) ?_
  refine lv_iload_n hx hb dL_takeBack_1 rfl (lv_at hl 1 rfl) ?_
  refine lv_iload_n hx hb dL_takeBack_2 rfl (lv_at hl 2 rfl) ?_
  refine j_wI (As := [.int (nI k), .int (nI 1)]) (rest := []) ⟨hx, hb, hml, hown, hts⟩ (c_X1_takeBack1 l dC dI cI cJ cZ cO ax ao n mo iv aa an kp py k hv hm hk hao ht9) (cwV 2 hts gL_takeBack_X1_takeBack rfl rfl rfl (by decide +kernel) ⟨Nat.le_of_ble_eq_true rfl, Nat.le_of_ble_eq_true rfl⟩) (jW_V hK hP hD [0, 1, 2, 3, 4, 5, 6, 7] (by decide) rfl (ci := 1) (q0 := 0) rfl rfl rfl) rfl hl rfl (Nat.le_of_ble_eq_true rfl) dL_takeBack_3 ⟨Nat.le_of_ble_eq_true rfl, Nat.le_of_ble_eq_true rfl⟩ hP hD hS [0, 1, 2, 3, 4, 5, 6, 7] [] rfl (fun _ : Unit => [((ax 0), .inr (1, [.ref (ax 1), .ref (ax 2), .int (nI n), .int (nI mo)])), ((ax 1), .inl (cO, 20, .inr (.inr (.inr (.inr (ao)))))), ((ax 2), .inl (cI, 20, .inl (iv))), ((aa 0), .inr (0, [.int (nI ((upN an 9 240) 0)), .int (nI ((upN an 9 240) 1)), .int (nI ((upN an 9 240) 0 + (upN an 9 240) 2)), .int (nI ((upN an 9 240) 3)), .int (nI ((upN an 9 240) 4)), .int (nI ((upN an 9 240) 5)), .int (nI ((upN an 9 240) 6)), .int (nI ((upN an 9 240) 7)), .ref (aa 1), .ref (aa 2), .ref (aa 3), .ref (aa 4), .long (kp)])), ((aa 1), .inl (cI, 2, .inl (fun j => nI (if j = 0 then (upN an 9 240) 8 else (upN an 9 240) 9)))), ((aa 2), .inl (cI, 20, .inl (fun j => nI (jF (upN an 9 240) iv j)))), ((aa 3), .inl (cI, 20, .inl (fun j => jC (upN an 9 240) iv j))), ((aa 4), .inl (cJ, 240, .inr (.inl (py))))]) (fun _ => rfl) [(ax 0), (ax 1), (ax 2), (aa 0), (aa 1), (aa 2), (aa 3), (aa 4)] rfl (fun _ => rfl) [] rfl (fun _ => rfl) (fun _ i hi => j_cov _ _ 8 (by decide) i hi) (fun r_3 _ H locs hr_3 hP hD hS => ?_)
  subst hr_3
  have hP : va_P (dC, dI) vwCl [((ax 0), .inr (1, [.ref (ax 1), .ref (ax 2), .int (nI n), .int (nI mo)])), ((ax 1), .inl (cO, 20, .inr (.inr (.inr (.inr (ao)))))), ((ax 2), .inl (cI, 20, .inl (iv))), ((aa 0), .inr (0, [.int (nI ((upN an 9 240) 0)), .int (nI ((upN an 9 240) 1)), .int (nI ((upN an 9 240) 0 + (upN an 9 240) 2)), .int (nI ((upN an 9 240) 3)), .int (nI ((upN an 9 240) 4)), .int (nI ((upN an 9 240) 5)), .int (nI ((upN an 9 240) 6)), .int (nI ((upN an 9 240) 7)), .ref (aa 1), .ref (aa 2), .ref (aa 3), .ref (aa 4), .long (kp)])), ((aa 1), .inl (cI, 2, .inl (fun j => nI (if j = 0 then (upN an 9 240) 8 else (upN an 9 240) 9)))), ((aa 2), .inl (cI, 20, .inl (fun j => nI (jF (upN an 9 240) iv j)))), ((aa 3), .inl (cI, 20, .inl (fun j => jC (upN an 9 240) iv j))), ((aa 4), .inl (cJ, 240, .inr (.inl (py))))] H := hP
  have hD : va_D A [((ax 0), .inr (1, [.ref (ax 1), .ref (ax 2), .int (nI n), .int (nI mo)])), ((ax 1), .inl (cO, 20, .inr (.inr (.inr (.inr (ao)))))), ((ax 2), .inl (cI, 20, .inl (iv))), ((aa 0), .inr (0, [.int (nI ((upN an 9 240) 0)), .int (nI ((upN an 9 240) 1)), .int (nI ((upN an 9 240) 0 + (upN an 9 240) 2)), .int (nI ((upN an 9 240) 3)), .int (nI ((upN an 9 240) 4)), .int (nI ((upN an 9 240) 5)), .int (nI ((upN an 9 240) 6)), .int (nI ((upN an 9 240) 7)), .ref (aa 1), .ref (aa 2), .ref (aa 3), .ref (aa 4), .long (kp)])), ((aa 1), .inl (cI, 2, .inl (fun j => nI (if j = 0 then (upN an 9 240) 8 else (upN an 9 240) 9)))), ((aa 2), .inl (cI, 20, .inl (fun j => nI (jF (upN an 9 240) iv j)))), ((aa 3), .inl (cI, 20, .inl (fun j => jC (upN an 9 240) iv j))), ((aa 4), .inl (cJ, 240, .inr (.inl (py))))] := hD
  have hP : va_P (dC, dI) vwCl (jFW cI cJ cO ax ao n mo iv aa (upN an 9 240) kp py) H := hP
  exact W.iret (v := nI (an 9)) hx hb hr (fun t ht hW => ⟨⟨_, (), rfl, rfl, j_h ht hP⟩, hS.F ht⟩) hS.2.2 dL_takeBack_6
set_option maxHeartbeats 4000000 in
set_option maxRecDepth 100000 in
/-- the law calls giveBack: it goes -/
theorem c_L_back (l : Launch) (dC : Nat → ClassId) (dI : Nat → Nat → Nat) (cI cJ cZ cO : ClassId) (ax : Nat → Nat) (ao : Nat → Option Nat) (n mo : Nat) (iv : Nat → Int32) (aa an : Nat → Nat) (kp : Int64) (py : Nat → Int64) (k : Nat) (v : Nat) (hv : jV an) (hm : mo ≤ 240) (hk : k < 20) (hao : ao k = some (aa 0)) (h1 : 1 ≤ v) (h2 : v ≤ 100000000) (ho : ¬ jmx (kp - lN (jU an iv mo)) < lN v) : Met l yL_back wsL_back ({ frames := 7, cells := 0, slots := 0, locals := 162 }) (va_Pc [.ref (ax 0), .int (nI k), .int (nI v)] (jW (dC, dI) (jTY cI cJ cZ cO) (jFW cI cJ cO ax ao n mo iv aa an kp py))) (va_Ql (fun r (_ : Unit) => r = jmx (kp - lN (jU an iv mo)) - lN v) (fun _ t => va_P (dC, dI) vwCl (jFW cI cJ cO ax ao n mo iv aa an (kp - lN v) py) t.heap) (jA (jFW cI cJ cO ax ao n mo iv aa an kp py))) 0 0 (jA (jFW cI cJ cO ax ao n mo iv aa an kp py)) := by
  refine j_ofh (cc := cL_back) (maxL := 4) (ret := (some .long)) (by decide) rfl (Nat.le_of_ble_eq_true rfl) ?_
  intro p e s m below meth c ls hx hb hr hml hts hown hlocks htab hl hpre
  have hown : s.vm.findClass RL = some m.cls := hown
  have hl : lv_has ls 4 [(0, .ref (ax 0)), (1, .int (nI k)), (2, .int (nI v))] := hl
  obtain ⟨hP, hK, hD0⟩ := hpre
  have hD := hD0.jA
  generalize hAe : jA (jFW cI cJ cO ax ao n mo iv aa an kp py) = A at hD ⊢
  have hS : va_S A s.heap s.heap [] := va_S.rf
  refine lv_aload_n hx hb dL_back_0 rfl (lv_at hl 0 rfl) ?_
  refine lv_iload_n hx hb dL_back_1 rfl (lv_at hl 1 rfl) ?_
  refine lv_iload_n hx hb dL_back_2 rfl (lv_at hl 2 rfl) ?_
  refine j_wL (As := [.int (nI k), .int (nI v)]) (rest := []) ⟨hx, hb, hml, hown, hts⟩ (c_X1_giveBack l dC dI cI cJ cZ cO ax ao n mo iv aa an kp py k v hv hm hk hao h1 h2 ho) (cwV 2 hts gL_back_X1_giveBack rfl rfl rfl (by decide +kernel) ⟨Nat.le_of_ble_eq_true rfl, Nat.le_of_ble_eq_true rfl⟩) (jW_V hK hP hD [0, 1, 2, 3, 4, 5, 6, 7] (by decide) rfl (ci := 1) (q0 := 0) rfl rfl rfl) rfl hl rfl (Nat.le_of_ble_eq_true rfl) dL_back_3 ⟨Nat.le_of_ble_eq_true rfl, Nat.le_of_ble_eq_true rfl⟩ hP hD hS [0, 1, 2, 3, 4, 5, 6, 7] [] rfl (fun _ : Unit => [((ax 0), .inr (1, [.ref (ax 1), .ref (ax 2), .int (nI n), .int (nI mo)])), ((ax 1), .inl (cO, 20, .inr (.inr (.inr (.inr (ao)))))), ((ax 2), .inl (cI, 20, .inl (iv))), ((aa 0), .inr (0, [.int (nI (an 0)), .int (nI (an 1)), .int (nI (an 0 + an 2)), .int (nI (an 3)), .int (nI (an 4)), .int (nI (an 5)), .int (nI (an 6)), .int (nI (an 7)), .ref (aa 1), .ref (aa 2), .ref (aa 3), .ref (aa 4), .long (kp - lN v)])), ((aa 1), .inl (cI, 2, .inl (fun j => nI (if j = 0 then an 8 else an 9)))), ((aa 2), .inl (cI, 20, .inl (fun j => nI (jF an iv j)))), ((aa 3), .inl (cI, 20, .inl (fun j => jC an iv j))), ((aa 4), .inl (cJ, 240, .inr (.inl (py))))]) (fun _ => rfl) [(ax 0), (ax 1), (ax 2), (aa 0), (aa 1), (aa 2), (aa 3), (aa 4)] rfl (fun _ => rfl) [] rfl (fun _ => rfl) (fun _ i hi => j_cov _ _ 8 (by decide) i hi) (fun r_3 _ H locs hr_3 hP hD hS => ?_)
  subst hr_3
  have hP : va_P (dC, dI) vwCl [((ax 0), .inr (1, [.ref (ax 1), .ref (ax 2), .int (nI n), .int (nI mo)])), ((ax 1), .inl (cO, 20, .inr (.inr (.inr (.inr (ao)))))), ((ax 2), .inl (cI, 20, .inl (iv))), ((aa 0), .inr (0, [.int (nI (an 0)), .int (nI (an 1)), .int (nI (an 0 + an 2)), .int (nI (an 3)), .int (nI (an 4)), .int (nI (an 5)), .int (nI (an 6)), .int (nI (an 7)), .ref (aa 1), .ref (aa 2), .ref (aa 3), .ref (aa 4), .long (kp - lN v)])), ((aa 1), .inl (cI, 2, .inl (fun j => nI (if j = 0 then an 8 else an 9)))), ((aa 2), .inl (cI, 20, .inl (fun j => nI (jF an iv j)))), ((aa 3), .inl (cI, 20, .inl (fun j => jC an iv j))), ((aa 4), .inl (cJ, 240, .inr (.inl (py))))] H := hP
  have hD : va_D A [((ax 0), .inr (1, [.ref (ax 1), .ref (ax 2), .int (nI n), .int (nI mo)])), ((ax 1), .inl (cO, 20, .inr (.inr (.inr (.inr (ao)))))), ((ax 2), .inl (cI, 20, .inl (iv))), ((aa 0), .inr (0, [.int (nI (an 0)), .int (nI (an 1)), .int (nI (an 0 + an 2)), .int (nI (an 3)), .int (nI (an 4)), .int (nI (an 5)), .int (nI (an 6)), .int (nI (an 7)), .ref (aa 1), .ref (aa 2), .ref (aa 3), .ref (aa 4), .long (kp - lN v)])), ((aa 1), .inl (cI, 2, .inl (fun j => nI (if j = 0 then an 8 else an 9)))), ((aa 2), .inl (cI, 20, .inl (fun j => nI (jF an iv j)))), ((aa 3), .inl (cI, 20, .inl (fun j => jC an iv j))), ((aa 4), .inl (cJ, 240, .inr (.inl (py))))] := hD
  have hP : va_P (dC, dI) vwCl (jFW cI cJ cO ax ao n mo iv aa an (kp - lN v) py) H := hP
  exact W.lret (v := jmx (kp - lN (jU an iv mo)) - lN v) hx hb hr (fun t ht hW => ⟨⟨_, (), rfl, rfl, j_h ht hP⟩, hS.F ht⟩) hS.2.2 dL_back_6
set_option maxHeartbeats 4000000 in
set_option maxRecDepth 100000 in
/-- the law calls setInflation: it goes -/
theorem c_L_inflation (l : Launch) (dC : Nat → ClassId) (dI : Nat → Nat → Nat) (cI cJ cZ cO : ClassId) (ax : Nat → Nat) (n mo : Nat) (iv : Nat → Int32) (aa an : Nat → Nat → Nat) (kp : Nat → Int64) (py : Nat → Nat → Int64) (yy : Nat) (v : Int32) (hv : ∀ k, k < n → jV (an k)) (hn : n ≤ 20) (hy : yy < 20) (hv1 : ¬ v < (-100)) (hv2 : ¬ nI 300 < v) : Met l yL_inflation wsL_inflation ({ frames := 3, cells := 0, slots := 0, locals := 68 }) (va_Pc [.ref (ax 0), .int (nI yy), .int v] (jW (dC, dI) (jTY cI cJ cZ cO) (jX3 cI cO ax (jao aa n) n mo iv ++ jBl (jbk cI cJ aa an iv kp py) n))) (va_Qi (fun r (_ : Unit) => r = iv yy) (fun _ t => va_P (dC, dI) vwCl (jX3 cI cO ax (jao aa n) n mo (upd iv yy v) ++ jBl (jbk cI cJ aa an (upd iv yy v) kp py) n) t.heap) (jA (jX3 cI cO ax (jao aa n) n mo iv ++ jBl (jbk cI cJ aa an iv kp py) n))) 0 0 (jA (jX3 cI cO ax (jao aa n) n mo iv ++ jBl (jbk cI cJ aa an iv kp py) n)) := by
  refine j_ofh (cc := cL_inflation) (maxL := 4) (ret := (some .int)) (by decide) rfl (Nat.le_of_ble_eq_true rfl) ?_
  intro p e s m below meth c ls hx hb hr hml hts hown hlocks htab hl hpre
  have hown : s.vm.findClass RL = some m.cls := hown
  have hl : lv_has ls 4 [(0, .ref (ax 0)), (1, .int (nI yy)), (2, .int v)] := hl
  obtain ⟨hP, hK, hD0⟩ := hpre
  have hD := hD0.jA
  generalize hAe : jA (jX3 cI cO ax (jao aa n) n mo iv ++ jBl (jbk cI cJ aa an iv kp py) n) = A at hD ⊢
  have hS : va_S A s.heap s.heap [] := va_S.rf
  refine lv_aload_n hx hb dL_inflation_0 rfl (lv_at hl 0 rfl) ?_
  refine lv_iload_n hx hb dL_inflation_1 rfl (lv_at hl 1 rfl) ?_
  refine lv_iload_n hx hb dL_inflation_2 rfl (lv_at hl 2 rfl) ?_
  refine j_gI (As := [.int (nI yy), .int v]) (rest := []) ⟨hx, hb, hml, hown, hts⟩ (c_X1_setInflation l dC dI cI cJ cZ cO ax n mo iv aa an kp py yy v hv hn hy hv1 hv2) (cwV 2 hts gL_inflation_X1_setInflation rfl rfl rfl (by decide +kernel) ⟨Nat.le_of_ble_eq_true rfl, Nat.le_of_ble_eq_true rfl⟩) (jW_V0 hK hP hD (ci := 1) (q0 := 0) rfl rfl rfl) rfl hl rfl (Nat.le_of_ble_eq_true rfl) dL_inflation_3 ⟨Nat.le_of_ble_eq_true rfl, Nat.le_of_ble_eq_true rfl⟩ hS (fun q h => by rw [← hAe]; exact h) (fun r9 u H locs hu hP hk2 hS => ?_)
  subst hu
  exact W.iret (v := iv yy) hx hb hr (fun t ht hW => ⟨⟨_, (), rfl, rfl, j_h ht hP⟩, hS.F ht⟩) hS.2.2 dL_inflation_6
set_option maxHeartbeats 4000000 in
set_option maxRecDepth 100000 in
/-- the law calls run: it goes -/
theorem c_L_run (l : Launch) (dC : Nat → ClassId) (dI : Nat → Nat → Nat) (cI cJ cZ cO : ClassId) (ax : Nat → Nat) (n mo : Nat) (iv : Nat → Int32) (aa an : Nat → Nat → Nat) (kp : Nat → Int64) (py : Nat → Nat → Int64) (hv : ∀ k, k < n → jV (an k)) (hn : n ≤ 20) (hm : mo < 240) : Met l yL_run wsL_run ({ frames := 7, cells := 0, slots := 0, locals := 165 }) (va_Pc [.ref (ax 0)] (jW (dC, dI) (jTY cI cJ cZ cO) (jX3 cI cO ax (jao aa n) n mo iv ++ jBl (jbk cI cJ aa an iv kp py) n))) (va_Ql (fun r (_ : Unit) => r = jSum (jZ an iv mo kp) n) (fun _ t => va_P (dC, dI) vwCl (jX3 cI cO ax (jao aa n) n (mo + 1) iv ++ jBl (jbk cI cJ aa an iv (fun j => kp j + jZ an iv mo kp j) (fun j => vp_updL (py j) mo (jZ an iv mo kp j))) n) t.heap) (jA (jX3 cI cO ax (jao aa n) n mo iv ++ jBl (jbk cI cJ aa an iv kp py) n))) 0 0 (jA (jX3 cI cO ax (jao aa n) n mo iv ++ jBl (jbk cI cJ aa an iv kp py) n)) := by
  refine j_ofh (cc := cL_run) (maxL := 2) (ret := (some .long)) (by decide) rfl (Nat.le_of_ble_eq_true rfl) ?_
  intro p e s m below meth c ls hx hb hr hml hts hown hlocks htab hl hpre
  have hown : s.vm.findClass RL = some m.cls := hown
  have hl : lv_has ls 2 [(0, .ref (ax 0))] := hl
  obtain ⟨hP, hK, hD0⟩ := hpre
  have hD := hD0.jA
  generalize hAe : jA (jX3 cI cO ax (jao aa n) n mo iv ++ jBl (jbk cI cJ aa an iv kp py) n) = A at hD ⊢
  have hS : va_S A s.heap s.heap [] := va_S.rf
  refine lv_aload_n hx hb dL_run_0 rfl (lv_at hl 0 rfl) ?_
  refine j_gL (As := []) (rest := []) ⟨hx, hb, hml, hown, hts⟩ (c_X1_run l dC dI cI cJ cZ cO ax n mo iv aa an kp py hv hn hm) (cwV 0 hts gL_run_X1_run rfl rfl rfl (by decide +kernel) ⟨Nat.le_of_ble_eq_true rfl, Nat.le_of_ble_eq_true rfl⟩) (jW_V0 hK hP hD (ci := 1) (q0 := 0) rfl rfl rfl) rfl hl rfl (Nat.le_of_ble_eq_true rfl) dL_run_1 ⟨Nat.le_of_ble_eq_true rfl, Nat.le_of_ble_eq_true rfl⟩ hS (fun q h => by rw [← hAe]; exact h) (fun r9 u H locs hu hP hk2 hS => ?_)
  subst hu
  exact W.lret (v := jSum (jZ an iv mo kp) n) hx hb hr (fun t ht hW => ⟨⟨_, (), rfl, rfl, j_h ht hP⟩, hS.F ht⟩) hS.2.2 dL_run_4
set_option maxHeartbeats 4000000 in
set_option maxRecDepth 100000 in
/-- the law calls add: it goes -/
theorem c_L_add (l : Launch) (dC : Nat → ClassId) (dI : Nat → Nat → Nat) (cI cJ cZ cO : ClassId) (ax : Nat → Nat) (ao : Nat → Option Nat) (n mo : Nat) (iv : Nat → Int32) (sz sa ma ga : Nat) (hn : n < 20) (hs1 : mo ≤ sa) (hs2 : sa < 240) (h0 : 1 ≤ ma) (h1 : ma ≤ 100000) (h2 : ga ≤ 240) : Met l yL_add wsL_add ({ frames := 3, cells := 5, slots := 295, locals := 65 }) (va_Pc [.ref (ax 0), .int (nI sa), .int (nI ma), .int (nI ga)] (fun U => U.heap.size = sz ∧ va_P (dC, dI) vwCl (jX3 cI cO ax ao n mo iv) U.heap ∧ va_K (dC, dI) vwCl (jTY cI cJ cZ cO) U ∧ va_D (fun _ => True) (jX3 cI cO ax ao n mo iv))) (va_Qi (fun r (_ : Nat → Nat) => r = nI n) (fun u t => va_P (dC, dI) vwCl (jFW cI cJ cO ax (va_up ao n (some (u 0))) (n + 1) mo iv u (jN sa ma ga) 0 (fun _ => 0)) t.heap ∧ va_D (va_A (jX3 cI cO ax ao n mo iv) sz) (jFW cI cJ cO ax (va_up ao n (some (u 0))) (n + 1) mo iv u (jN sa ma ga) 0 (fun _ => 0))) (va_A (jX3 cI cO ax ao n mo iv) sz)) 5 295 (va_A (jX3 cI cO ax ao n mo iv) sz) := by
  refine j_ofh (cc := cL_add) (maxL := 5) (ret := (some .int)) (by decide) rfl (Nat.le_of_ble_eq_true rfl) ?_
  intro p e s m below meth c ls hx hb hr hml hts hown hlocks htab hl hpre
  have hown : s.vm.findClass RL = some m.cls := hown
  have hl : lv_has ls 5 [(0, .ref (ax 0)), (1, .int (nI sa)), (2, .int (nI ma)), (3, .int (nI ga))] := hl
  obtain ⟨hsz, hP, hK, hD0⟩ := hpre
  subst hsz
  have hD := hD0.self (sz := s.heap.size)
  generalize hAe : va_A (jX3 cI cO ax ao n mo iv) s.heap.size = A at hD ⊢
  have hS : va_S A s.heap s.heap [] := va_S.rf
  refine lv_aload_n hx hb dL_add_0 rfl (lv_at hl 0 rfl) ?_
  refine lv_iload_n hx hb dL_add_1 rfl (lv_at hl 1 rfl) ?_
  refine lv_iload_n hx hb dL_add_2 rfl (lv_at hl 2 rfl) ?_
  refine lv_iload_n hx hb dL_add_3 rfl (lv_at hl 3 rfl) ?_
  refine va_calli (va_runV (As := [.int (nI sa), .int (nI ma), .int (nI ga)]) (rest := []) ⟨hx, hb, hml, hown, hts⟩ (c_X1_add l dC dI cI cJ cZ cO ax ao n mo iv s.heap.size sa ma ga hn hs1 hs2 h0 h1 h2) (cwV 3 hts gL_add_X1_add rfl rfl rfl (by decide +kernel) ⟨Nat.le_of_ble_eq_true rfl, Nat.le_of_ble_eq_true rfl⟩) ⟨fun a U g mk q => ⟨q.1, q.2.1, q.2.2.1, j_calls q.2.2.2.1, q.2.2.2.2⟩, va_recv hK hP (ci := 1) (q0 := 0) rfl rfl, fun U hU hW => ⟨rfl, by rw [hU], by rw [hU]; exact hP, va_K.moved hW.alike hK, hD.weaken (fun _ _ _ _ => trivial)⟩⟩ rfl rfl hl.1 rfl (lv_room (Nat.le_of_ble_eq_true rfl)) dL_add_4 ⟨Nat.le_of_ble_eq_true rfl, Nat.le_of_ble_eq_true rfl⟩) hS (fun q _ h => by rw [← hAe]; exact h) (fun q h => by rw [← hAe]; exact h) (fun r9 u t H1 locs ht hvm hw hB hz1 hk1 hS => ?_)
  obtain ⟨hP1, hD1⟩ := hB
  rw [ht] at hP1
  rw [hAe] at hD1
  try dsimp only at hw
  subst hw
  refine W.widen (k := 5) (n := 295) (by decide) (by decide) ?_
  exact W.iret (v := nI n) hx hb hr (fun t ht hW => ⟨⟨_, u, rfl, rfl, by rw [ht]; exact hP1, hD1⟩, hS.F ht⟩) hS.2.2 dL_add_7
