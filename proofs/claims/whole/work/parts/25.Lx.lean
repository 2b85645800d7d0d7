/-! the law's own methods: what is refused -/
set_option maxHeartbeats 4000000 in
set_option maxRecDepth 100000 in
/-- the law calls setSurvivor: refused -/
theorem x1_L_setSurvivor (l : Launch) (dC : Nat → ClassId) (dI : Nat → Nat → Nat) (cI cJ cZ cO : ClassId) (ax : Nat → Nat) (ao : Nat → Option Nat) (n mo : Nat) (p0 p1 p2 : Int32) (hst : l.stackTraces = false) (hn : n ≤ 20) (hao : ∀ j, n ≤ j → ao j = none) (hb0 : ¬ vp_in p0 n)  : Met l yL_setSurvivor wsL_setSurvivor ({ frames := 8, cells := 1, slots := 6, locals := 128 }) (va_Pc [.ref (ax 0), .int p0, .int p1, .int p2] (jRX (dC, dI) (jTY cI cJ cZ cO) ([jXo ax n mo, jXa cO ax ao]))) (va_Qi (fun r (_ : Unit) => r = nI 1) (fun _ _ => True) (fun _ => False)) 1 6 (fun _ => False) := by
  refine j_ofh (cc := cL_setSurvivor) (maxL := 5) (ret := (some .int)) (by decide) rfl (Nat.le_of_ble_eq_true rfl) ?_
  intro p e s m below meth c ls hx hb hr hml hts hown hlocks htab hl hpre
  have hown : s.vm.findClass RL = some m.cls := hown
  have hl : lv_has ls 5 [(0, .ref (ax 0)), (1, .int p0), (2, .int p1), (3, .int p2)] := hl
  obtain ⟨⟨hP, hK⟩, hX⟩ := hpre
  refine lv_aload_n hx hb dL_setSurvivor_0 rfl (lv_at hl 0 rfl) ?_
  refine lv_iload_n hx hb dL_setSurvivor_1 rfl (lv_at hl 1 rfl) ?_
  refine lv_iload_n hx hb dL_setSurvivor_2 rfl (lv_at hl 2 rfl) ?_
  refine lv_iload_n hx hb dL_setSurvivor_3 rfl (lv_at hl 3 rfl) ?_
  refine j_try (As := [.int p0, .int p1, .int p2]) (rest := []) (E := eO) (name := "java/lang/IndexOutOfBoundsException") ⟨hx, hb, hml, hown, hts⟩ (x1_X1_setSurvivor l dC dI cI cJ cZ cO ax ao n mo p0 p1 p2 hst hn hao hb0) (cwV 3 hts gL_setSurvivor_X1_setSurvivor rfl rfl rfl (by decide +kernel) ⟨Nat.le_of_ble_eq_true rfl, Nat.le_of_ble_eq_true rfl⟩) (jRX_V hX hK hP [0, 1] rfl (ci := 1) (q0 := 0) rfl rfl rfl) rfl hl rfl (Nat.le_of_ble_eq_true rfl) dL_setSurvivor_4 ⟨Nat.le_of_ble_eq_true rfl, Nat.le_of_ble_eq_true rfl⟩ [] ⟨0, 7, 10, 21⟩ [⟨0, 7, 14, 13⟩, ⟨0, 7, 18, 15⟩] (htab.trans rfl) (List.forall_mem_nil _) (by decide +kernel) (by decide) (hts (.classLink RL 21 "java/lang/IndexOutOfBoundsException") (List.mem_of_getElem? (i := 1) rfl)) (va_Nw.use rfl (hX.2.2.2.1 eO (by simp))) (fun q9 H hz9 hk9 => ?_)
  refine lv_astore (lv' := [(4, .ref q9), (0, .ref (ax 0)), (1, .int p0), (2, .int p1), (3, .int p2)]) hx hb dL_setSurvivor_10 hl (by decide) rfl (fun ls hl => ?_)
  refine lv_iconst (v := nI 1) hx hb dL_setSurvivor_12 (by decide) ?_
  refine W.widen (k := 1) (n := 6) (by decide) (by decide) ?_
  exact W.iret (v := nI 1) hx hb hr (fun t ht hW => ⟨⟨_, (), rfl, rfl, trivial⟩, by rw [ht]; exact hz9, fun q h1 _ => by rw [ht]; exact hk9 q h1⟩) (fun _ h => by cases h) dL_setSurvivor_13
set_option maxHeartbeats 4000000 in
set_option maxRecDepth 100000 in
/-- the law calls setCap: refused -/
theorem x1_L_setCap (l : Launch) (dC : Nat → ClassId) (dI : Nat → Nat → Nat) (cI cJ cZ cO : ClassId) (ax : Nat → Nat) (ao : Nat → Option Nat) (n mo : Nat) (p0 p1 : Int32) (hst : l.stackTraces = false) (hn : n ≤ 20) (hao : ∀ j, n ≤ j → ao j = none) (hb0 : ¬ vp_in p0 n)  : Met l yL_setCap wsL_setCap ({ frames := 8, cells := 1, slots := 6, locals := 127 }) (va_Pc [.ref (ax 0), .int p0, .int p1] (jRX (dC, dI) (jTY cI cJ cZ cO) ([jXo ax n mo, jXa cO ax ao]))) (va_Qi (fun r (_ : Unit) => r = nI 1) (fun _ _ => True) (fun _ => False)) 1 6 (fun _ => False) := by
  refine j_ofh (cc := cL_setCap) (maxL := 4) (ret := (some .int)) (by decide) rfl (Nat.le_of_ble_eq_true rfl) ?_
  intro p e s m below meth c ls hx hb hr hml hts hown hlocks htab hl hpre
  have hown : s.vm.findClass RL = some m.cls := hown
  have hl : lv_has ls 4 [(0, .ref (ax 0)), (1, .int p0), (2, .int p1)] := hl
  obtain ⟨⟨hP, hK⟩, hX⟩ := hpre
  refine lv_aload_n hx hb dL_setCap_0 rfl (lv_at hl 0 rfl) ?_
  refine lv_iload_n hx hb dL_setCap_1 rfl (lv_at hl 1 rfl) ?_
  refine lv_iload_n hx hb dL_setCap_2 rfl (lv_at hl 2 rfl) ?_
  refine j_try (As := [.int p0, .int p1]) (rest := []) (E := eO) (name := "java/lang/IndexOutOfBoundsException") ⟨hx, hb, hml, hown, hts⟩ (x1_X1_setCap l dC dI cI cJ cZ cO ax ao n mo p0 p1 hst hn hao hb0) (cwV 2 hts gL_setCap_X1_setCap rfl rfl rfl (by decide +kernel) ⟨Nat.le_of_ble_eq_true rfl, Nat.le_of_ble_eq_true rfl⟩) (jRX_V hX hK hP [0, 1] rfl (ci := 1) (q0 := 0) rfl rfl rfl) rfl hl rfl (Nat.le_of_ble_eq_true rfl) dL_setCap_3 ⟨Nat.le_of_ble_eq_true rfl, Nat.le_of_ble_eq_true rfl⟩ [] ⟨0, 6, 9, 21⟩ [⟨0, 6, 12, 13⟩, ⟨0, 6, 15, 15⟩] (htab.trans rfl) (List.forall_mem_nil _) (by decide +kernel) (by decide) (hts (.classLink RL 21 "java/lang/IndexOutOfBoundsException") (List.mem_of_getElem? (i := 1) rfl)) (va_Nw.use rfl (hX.2.2.2.1 eO (by simp))) (fun q9 H hz9 hk9 => ?_)
  refine lv_astore_n (lv' := [(3, .ref q9), (0, .ref (ax 0)), (1, .int p0), (2, .int p1)]) hx hb dL_setCap_9 rfl hl (by decide) rfl (fun ls hl => ?_)
  refine lv_iconst (v := nI 1) hx hb dL_setCap_10 (by decide) ?_
  refine W.widen (k := 1) (n := 6) (by decide) (by decide) ?_
  exact W.iret (v := nI 1) hx hb hr (fun t ht hW => ⟨⟨_, (), rfl, rfl, trivial⟩, by rw [ht]; exact hz9, fun q h1 _ => by rw [ht]; exact hk9 q h1⟩) (fun _ h => by cases h) dL_setCap_11
set_option maxHeartbeats 4000000 in
set_option maxRecDepth 100000 in
/-- the law calls protect: refused -/
theorem x1_L_protect (l : Launch) (dC : Nat → ClassId) (dI : Nat → Nat → Nat) (cI cJ cZ cO : ClassId) (ax : Nat → Nat) (ao : Nat → Option Nat) (n mo : Nat) (p0 p1 p2 : Int32) (hst : l.stackTraces = false) (hn : n ≤ 20) (hao : ∀ j, n ≤ j → ao j = none) (hb0 : ¬ vp_in p0 n)  : Met l yL_protect wsL_protect ({ frames := 8, cells := 1, slots := 6, locals := 128 }) (va_Pc [.ref (ax 0), .int p0, .int p1, .int p2] (jRX (dC, dI) (jTY cI cJ cZ cO) ([jXo ax n mo, jXa cO ax ao]))) (va_Qi (fun r (_ : Unit) => r = nI 1) (fun _ _ => True) (fun _ => False)) 1 6 (fun _ => False) := by
  refine j_ofh (cc := cL_protect) (maxL := 5) (ret := (some .int)) (by decide) rfl (Nat.le_of_ble_eq_true rfl) ?_
  intro p e s m below meth c ls hx hb hr hml hts hown hlocks htab hl hpre
  have hown : s.vm.findClass RL = some m.cls := hown
  have hl : lv_has ls 5 [(0, .ref (ax 0)), (1, .int p0), (2, .int p1), (3, .int p2)] := hl
  obtain ⟨⟨hP, hK⟩, hX⟩ := hpre
  refine lv_aload_n hx hb dL_protect_0 rfl (lv_at hl 0 rfl) ?_
  refine lv_iload_n hx hb dL_protect_1 rfl (lv_at hl 1 rfl) ?_
  refine lv_iload_n hx hb dL_protect_2 rfl (lv_at hl 2 rfl) ?_
  refine lv_iload_n hx hb dL_protect_3 rfl (lv_at hl 3 rfl) ?_
  refine j_try (As := [.int p0, .int p1, .int p2]) (rest := []) (E := eO) (name := "java/lang/IndexOutOfBoundsException") ⟨hx, hb, hml, hown, hts⟩ (x1_X1_protect l dC dI cI cJ cZ cO ax ao n mo p0 p1 p2 hst hn hao hb0) (cwV 3 hts gL_protect_X1_protect rfl rfl rfl (by decide +kernel) ⟨Nat.le_of_ble_eq_true rfl, Nat.le_of_ble_eq_true rfl⟩) (jRX_V hX hK hP [0, 1] rfl (ci := 1) (q0 := 0) rfl rfl rfl) rfl hl rfl (Nat.le_of_ble_eq_true rfl) dL_protect_4 ⟨Nat.le_of_ble_eq_true rfl, Nat.le_of_ble_eq_true rfl⟩ [] ⟨0, 7, 10, 21⟩ [⟨0, 7, 14, 13⟩, ⟨0, 7, 18, 15⟩] (htab.trans rfl) (List.forall_mem_nil _) (by decide +kernel) (by decide) (hts (.classLink RL 21 "java/lang/IndexOutOfBoundsException") (List.mem_of_getElem? (i := 1) rfl)) (va_Nw.use rfl (hX.2.2.2.1 eO (by simp))) (fun q9 H hz9 hk9 => ?_)
  refine lv_astore (lv' := [(4, .ref q9), (0, .ref (ax 0)), (1, .int p0), (2, .int p1), (3, .int p2)]) hx hb dL_protect_10 hl (by decide) rfl (fun ls hl => ?_)
  refine lv_iconst (v := nI 1) hx hb dL_protect_12 (by decide) ?_
  refine W.widen (k := 1) (n := 6) (by decide) (by decide) ?_
  exact W.iret (v := nI 1) hx hb hr (fun t ht hW => ⟨⟨_, (), rfl, rfl, trivial⟩, by rw [ht]; exact hz9, fun q h1 _ => by rw [ht]; exact hk9 q h1⟩) (fun _ h => by cases h) dL_protect_13
set_option maxHeartbeats 4000000 in
set_option maxRecDepth 100000 in
/-- the law calls die: refused -/
theorem x1_L_die (l : Launch) (dC : Nat → ClassId) (dI : Nat → Nat → Nat) (cI cJ cZ cO : ClassId) (ax : Nat → Nat) (ao : Nat → Option Nat) (n mo : Nat) (p0 p1 p2 : Int32) (hst : l.stackTraces = false) (hn : n ≤ 20) (hao : ∀ j, n ≤ j → ao j = none) (hb0 : ¬ vp_in p0 n)  : Met l yL_die wsL_die ({ frames := 8, cells := 1, slots := 6, locals := 128 }) (va_Pc [.ref (ax 0), .int p0, .int p1, .int p2] (jRX (dC, dI) (jTY cI cJ cZ cO) ([jXo ax n mo, jXa cO ax ao]))) (va_Qi (fun r (_ : Unit) => r = nI 1) (fun _ _ => True) (fun _ => False)) 1 6 (fun _ => False) := by
  refine j_ofh (cc := cL_die) (maxL := 5) (ret := (some .int)) (by decide) rfl (Nat.le_of_ble_eq_true rfl) ?_
  intro p e s m below meth c ls hx hb hr hml hts hown hlocks htab hl hpre
  have hown : s.vm.findClass RL = some m.cls := hown
  have hl : lv_has ls 5 [(0, .ref (ax 0)), (1, .int p0), (2, .int p1), (3, .int p2)] := hl
  obtain ⟨⟨hP, hK⟩, hX⟩ := hpre
  refine lv_aload_n hx hb dL_die_0 rfl (lv_at hl 0 rfl) ?_
  refine lv_iload_n hx hb dL_die_1 rfl (lv_at hl 1 rfl) ?_
  refine lv_iload_n hx hb dL_die_2 rfl (lv_at hl 2 rfl) ?_
  refine lv_iload_n hx hb dL_die_3 rfl (lv_at hl 3 rfl) ?_
  refine j_try (As := [.int p0, .int p1, .int p2]) (rest := []) (E := eO) (name := "java/lang/IndexOutOfBoundsException") ⟨hx, hb, hml, hown, hts⟩ (x1_X1_die l dC dI cI cJ cZ cO ax ao n mo p0 p1 p2 hst hn hao hb0) (cwV 3 hts gL_die_X1_die rfl rfl rfl (by decide +kernel) ⟨Nat.le_of_ble_eq_true rfl, Nat.le_of_ble_eq_true rfl⟩) (jRX_V hX hK hP [0, 1] rfl (ci := 1) (q0 := 0) rfl rfl rfl) rfl hl rfl (Nat.le_of_ble_eq_true rfl) dL_die_4 ⟨Nat.le_of_ble_eq_true rfl, Nat.le_of_ble_eq_true rfl⟩ [] ⟨0, 7, 10, 21⟩ [⟨0, 7, 14, 13⟩, ⟨0, 7, 18, 15⟩] (htab.trans rfl) (List.forall_mem_nil _) (by decide +kernel) (by decide) (hts (.classLink RL 21 "java/lang/IndexOutOfBoundsException") (List.mem_of_getElem? (i := 1) rfl)) (va_Nw.use rfl (hX.2.2.2.1 eO (by simp))) (fun q9 H hz9 hk9 => ?_)
  refine lv_astore (lv' := [(4, .ref q9), (0, .ref (ax 0)), (1, .int p0), (2, .int p1), (3, .int p2)]) hx hb dL_die_10 hl (by decide) rfl (fun ls hl => ?_)
  refine lv_iconst (v := nI 1) hx hb dL_die_12 (by decide) ?_
  refine W.widen (k := 1) (n := 6) (by decide) (by decide) ?_
  exact W.iret (v := nI 1) hx hb hr (fun t ht hW => ⟨⟨_, (), rfl, rfl, trivial⟩, by rw [ht]; exact hz9, fun q h1 _ => by rw [ht]; exact hk9 q h1⟩) (fun _ h => by cases h) dL_die_13
set_option maxHeartbeats 4000000 in
set_option maxRecDepth 100000 in
/-- the law calls takeBack: refused -/
theorem x1_L_takeBack (l : Launch) (dC : Nat → ClassId) (dI : Nat → Nat → Nat) (cI cJ cZ cO : ClassId) (ax : Nat → Nat) (ao : Nat → Option Nat) (n mo : Nat) (p0 p1 : Int32) (hst : l.stackTraces = false) (hn : n ≤ 20) (hao : ∀ j, n ≤ j → ao j = none) (hb0 : ¬ vp_in p0 n) (oa : Nat)  : Met l yL_takeBack wsL_takeBack ({ frames := 8, cells := 1, slots := 6, locals := 128 }) (va_Pc [.ref (ax 0), .int p0, .int p1, .ref oa] (jRX (dC, dI) (jTY cI cJ cZ cO) ([jXo ax n mo, jXa cO ax ao]))) (va_Qi (fun r (_ : Unit) => r = nI 1) (fun _ _ => True) (fun _ => False)) 1 6 (fun _ => False) := by
  refine j_ofh (cc := cL_takeBack) (maxL := 5) (ret := (some .int)) (by decide) rfl (Nat.le_of_ble_eq_true rfl) ?_
  intro p e s m below meth c ls hx hb hr hml hts hown hlocks htab hl hpre
  have hown : s.vm.findClass RL = some m.cls := hown
  have hl : lv_has ls 5 [(0, .ref (ax 0)), (1, .int p0), (2, .int p1), (3, .ref oa)] := hl
  obtain ⟨⟨hP, hK⟩, hX⟩ := hpre
  refine lv_aload_n hx hb dL_takeBack_0 rfl (lv_at hl 3 rfl) ?_
  refine lv_iconst (v := nI 0) hx hb dL_takeBack_1 (by decide) ?_
  refine lv_aload_n hx hb dL_takeBack_2 rfl (lv_at hl 0 rfl) ?_
  refine lv_iload_n hx hb dL_takeBack_3 rfl (lv_at hl 1 rfl) ?_
  refine lv_iload_n hx hb dL_takeBack_4 rfl (lv_at hl 2 rfl) ?_
  refine j_try (As := [.int p0, .int p1]) (rest := [.int (nI 0), .ref oa]) (E := eO) (name := "java/lang/IndexOutOfBoundsException") ⟨hx, hb, hml, hown, hts⟩ (x1_X1_takeBack l dC dI cI cJ cZ cO ax ao n mo p0 p1 hst hn hao hb0) (cwV 2 hts gL_takeBack_X1_takeBack rfl rfl rfl (by decide +kernel) ⟨Nat.le_of_ble_eq_true rfl, Nat.le_of_ble_eq_true rfl⟩) (jRX_V hX hK hP [0, 1] rfl (ci := 1) (q0 := 0) rfl rfl rfl) rfl hl rfl (Nat.le_of_ble_eq_true rfl) dL_takeBack_5 ⟨Nat.le_of_ble_eq_true rfl, Nat.le_of_ble_eq_true rfl⟩ [] ⟨0, 10, 13, 21⟩ [⟨0, 10, 17, 13⟩, ⟨0, 10, 21, 15⟩] (htab.trans rfl) (List.forall_mem_nil _) (by decide +kernel) (by decide) (hts (.classLink RL 21 "java/lang/IndexOutOfBoundsException") (List.mem_of_getElem? (i := 1) rfl)) (va_Nw.use rfl (hX.2.2.2.1 eO (by simp))) (fun q9 H hz9 hk9 => ?_)
  refine lv_astore (lv' := [(4, .ref q9), (0, .ref (ax 0)), (1, .int p0), (2, .int p1), (3, .ref oa)]) hx hb dL_takeBack_13 hl (by decide) rfl (fun ls hl => ?_)
  refine lv_iconst (v := nI 1) hx hb dL_takeBack_15 (by decide) ?_
  refine W.widen (k := 1) (n := 6) (by decide) (by decide) ?_
  exact W.iret (v := nI 1) hx hb hr (fun t ht hW => ⟨⟨_, (), rfl, rfl, trivial⟩, by rw [ht]; exact hz9, fun q h1 _ => by rw [ht]; exact hk9 q h1⟩) (fun _ h => by cases h) dL_takeBack_16
set_option maxHeartbeats 4000000 in
set_option maxRecDepth 100000 in
/-- the law calls giveBack: refused -/
theorem x1_L_giveBack (l : Launch) (dC : Nat → ClassId) (dI : Nat → Nat → Nat) (cI cJ cZ cO : ClassId) (ax : Nat → Nat) (ao : Nat → Option Nat) (n mo : Nat) (p0 p1 : Int32) (hst : l.stackTraces = false) (hn : n ≤ 20) (hao : ∀ j, n ≤ j → ao j = none) (hb0 : ¬ vp_in p0 n) (oa : Nat)  : Met l yL_giveBack wsL_giveBack ({ frames := 8, cells := 1, slots := 6, locals := 129 }) (va_Pc [.ref (ax 0), .int p0, .int p1, .ref oa] (jRX (dC, dI) (jTY cI cJ cZ cO) ([jXo ax n mo, jXa cO ax ao]))) (va_Qi (fun r (_ : Unit) => r = nI 1) (fun _ _ => True) (fun _ => False)) 1 6 (fun _ => False) := by
  refine j_ofh (cc := cL_giveBack) (maxL := 5) (ret := (some .int)) (by decide) rfl (Nat.le_of_ble_eq_true rfl) ?_
  intro p e s m below meth c ls hx hb hr hml hts hown hlocks htab hl hpre
  have hown : s.vm.findClass RL = some m.cls := hown
  have hl : lv_has ls 5 [(0, .ref (ax 0)), (1, .int p0), (2, .int p1), (3, .ref oa)] := hl
  obtain ⟨⟨hP, hK⟩, hX⟩ := hpre
  refine lv_aload_n hx hb dL_giveBack_0 rfl (lv_at hl 3 rfl) ?_
  refine lv_iconst (v := nI 0) hx hb dL_giveBack_1 (by decide) ?_
  refine lv_aload_n hx hb dL_giveBack_2 rfl (lv_at hl 0 rfl) ?_
  refine lv_iload_n hx hb dL_giveBack_3 rfl (lv_at hl 1 rfl) ?_
  refine lv_iload_n hx hb dL_giveBack_4 rfl (lv_at hl 2 rfl) ?_
  refine j_try (As := [.int p0, .int p1]) (rest := [.int (nI 0), .ref oa]) (E := eO) (name := "java/lang/IndexOutOfBoundsException") ⟨hx, hb, hml, hown, hts⟩ (x1_X1_giveBack l dC dI cI cJ cZ cO ax ao n mo p0 p1 hst hn hao hb0) (cwV 2 hts gL_giveBack_X1_giveBack rfl rfl rfl (by decide +kernel) ⟨Nat.le_of_ble_eq_true rfl, Nat.le_of_ble_eq_true rfl⟩) (jRX_V hX hK hP [0, 1] rfl (ci := 1) (q0 := 0) rfl rfl rfl) rfl hl rfl (Nat.le_of_ble_eq_true rfl) dL_giveBack_5 ⟨Nat.le_of_ble_eq_true rfl, Nat.le_of_ble_eq_true rfl⟩ [] ⟨0, 9, 12, 21⟩ [⟨0, 9, 16, 13⟩, ⟨0, 9, 20, 15⟩] (htab.trans rfl) (List.forall_mem_nil _) (by decide +kernel) (by decide) (hts (.classLink RL 21 "java/lang/IndexOutOfBoundsException") (List.mem_of_getElem? (i := 1) rfl)) (va_Nw.use rfl (hX.2.2.2.1 eO (by simp))) (fun q9 H hz9 hk9 => ?_)
  refine lv_astore (lv' := [(4, .ref q9), (0, .ref (ax 0)), (1, .int p0), (2, .int p1), (3, .ref oa)]) hx hb dL_giveBack_12 hl (by decide) rfl (fun ls hl => ?_)
  refine lv_iconst (v := nI 1) hx hb dL_giveBack_14 (by decide) ?_
  refine W.widen (k := 1) (n := 6) (by decide) (by decide) ?_
  exact W.iret (v := nI 1) hx hb hr (fun t ht hW => ⟨⟨_, (), rfl, rfl, trivial⟩, by rw [ht]; exact hz9, fun q h1 _ => by rw [ht]; exact hk9 q h1⟩) (fun _ h => by cases h) dL_giveBack_15
set_option maxHeartbeats 4000000 in
set_option maxRecDepth 100000 in
/-- the law calls paid: refused -/
theorem x1_L_paid (l : Launch) (dC : Nat → ClassId) (dI : Nat → Nat → Nat) (cI cJ cZ cO : ClassId) (ax : Nat → Nat) (ao : Nat → Option Nat) (n mo : Nat) (p0 p1 : Int32) (hst : l.stackTraces = false) (hn : n ≤ 20) (hao : ∀ j, n ≤ j → ao j = none) (hb0 : ¬ vp_in p0 n) (oa : Nat)  : Met l yL_paid wsL_paid ({ frames := 8, cells := 1, slots := 6, locals := 127 }) (va_Pc [.ref (ax 0), .int p0, .int p1, .ref oa] (jRX (dC, dI) (jTY cI cJ cZ cO) ([jXo ax n mo, jXa cO ax ao]))) (va_Qi (fun r (_ : Unit) => r = nI 1) (fun _ _ => True) (fun _ => False)) 1 6 (fun _ => False) := by
  refine j_ofh (cc := cL_paid) (maxL := 5) (ret := (some .int)) (by decide) rfl (Nat.le_of_ble_eq_true rfl) ?_
  intro p e s m below meth c ls hx hb hr hml hts hown hlocks htab hl hpre
  have hown : s.vm.findClass RL = some m.cls := hown
  have hl : lv_has ls 5 [(0, .ref (ax 0)), (1, .int p0), (2, .int p1), (3, .ref oa)] := hl
  obtain ⟨⟨hP, hK⟩, hX⟩ := hpre
  refine lv_aload_n hx hb dL_paid_0 rfl (lv_at hl 3 rfl) ?_
  refine lv_iconst (v := nI 0) hx hb dL_paid_1 (by decide) ?_
  refine lv_aload_n hx hb dL_paid_2 rfl (lv_at hl 0 rfl) ?_
  refine lv_iload_n hx hb dL_paid_3 rfl (lv_at hl 1 rfl) ?_
  refine lv_iload_n hx hb dL_paid_4 rfl (lv_at hl 2 rfl) ?_
  refine j_try (As := [.int p0, .int p1]) (rest := [.int (nI 0), .ref oa]) (E := eO) (name := "java/lang/IndexOutOfBoundsException") ⟨hx, hb, hml, hown, hts⟩ (x1_X1_paid l dC dI cI cJ cZ cO ax ao n mo p0 p1 hst hn hao hb0) (cwV 2 hts gL_paid_X1_paid rfl rfl rfl (by decide +kernel) ⟨Nat.le_of_ble_eq_true rfl, Nat.le_of_ble_eq_true rfl⟩) (jRX_V hX hK hP [0, 1] rfl (ci := 1) (q0 := 0) rfl rfl rfl) rfl hl rfl (Nat.le_of_ble_eq_true rfl) dL_paid_5 ⟨Nat.le_of_ble_eq_true rfl, Nat.le_of_ble_eq_true rfl⟩ [] ⟨0, 9, 12, 21⟩ [⟨0, 9, 16, 13⟩] (htab.trans rfl) (List.forall_mem_nil _) (by decide +kernel) (by decide) (hts (.classLink RL 21 "java/lang/IndexOutOfBoundsException") (List.mem_of_getElem? (i := 1) rfl)) (va_Nw.use rfl (hX.2.2.2.1 eO (by simp))) (fun q9 H hz9 hk9 => ?_)
  refine lv_astore (lv' := [(4, .ref q9), (0, .ref (ax 0)), (1, .int p0), (2, .int p1), (3, .ref oa)]) hx hb dL_paid_12 hl (by decide) rfl (fun ls hl => ?_)
  refine lv_iconst (v := nI 1) hx hb dL_paid_14 (by decide) ?_
  refine W.widen (k := 1) (n := 6) (by decide) (by decide) ?_
  exact W.iret (v := nI 1) hx hb hr (fun t ht hW => ⟨⟨_, (), rfl, rfl, trivial⟩, by rw [ht]; exact hz9, fun q h1 _ => by rw [ht]; exact hk9 q h1⟩) (fun _ h => by cases h) dL_paid_15
set_option maxHeartbeats 4000000 in
set_option maxRecDepth 100000 in
/-- the law calls paidInAll: refused -/
theorem x1_L_paidInAll (l : Launch) (dC : Nat → ClassId) (dI : Nat → Nat → Nat) (cI cJ cZ cO : ClassId) (ax : Nat → Nat) (ao : Nat → Option Nat) (n mo : Nat) (p0 : Int32) (hst : l.stackTraces = false) (hn : n ≤ 20) (hao : ∀ j, n ≤ j → ao j = none) (hb0 : ¬ vp_in p0 n) (oa : Nat)  : Met l yL_paidInAll wsL_paidInAll ({ frames := 8, cells := 1, slots := 6, locals := 125 }) (va_Pc [.ref (ax 0), .int p0, .ref oa] (jRX (dC, dI) (jTY cI cJ cZ cO) ([jXo ax n mo, jXa cO ax ao]))) (va_Qi (fun r (_ : Unit) => r = nI 1) (fun _ _ => True) (fun _ => False)) 1 6 (fun _ => False) := by
  refine j_ofh (cc := cL_paidInAll) (maxL := 4) (ret := (some .int)) (by decide) rfl (Nat.le_of_ble_eq_true rfl) ?_
  intro p e s m below meth c ls hx hb hr hml hts hown hlocks htab hl hpre
  have hown : s.vm.findClass RL = some m.cls := hown
  have hl : lv_has ls 4 [(0, .ref (ax 0)), (1, .int p0), (2, .ref oa)] := hl
  obtain ⟨⟨hP, hK⟩, hX⟩ := hpre
  refine lv_aload_n hx hb dL_paidInAll_0 rfl (lv_at hl 2 rfl) ?_
  refine lv_iconst (v := nI 0) hx hb dL_paidInAll_1 (by decide) ?_
  refine lv_aload_n hx hb dL_paidInAll_2 rfl (lv_at hl 0 rfl) ?_
  refine lv_iload_n hx hb dL_paidInAll_3 rfl (lv_at hl 1 rfl) ?_
  refine j_try (As := [.int p0]) (rest := [.int (nI 0), .ref oa]) (E := eO) (name := "java/lang/IndexOutOfBoundsException") ⟨hx, hb, hml, hown, hts⟩ (x1_X1_paidInAll l dC dI cI cJ cZ cO ax ao n mo p0 hst hn hao hb0) (cwV 1 hts gL_paidInAll_X1_paidInAll rfl rfl rfl (by decide +kernel) ⟨Nat.le_of_ble_eq_true rfl, Nat.le_of_ble_eq_true rfl⟩) (jRX_V hX hK hP [0, 1] rfl (ci := 1) (q0 := 0) rfl rfl rfl) rfl hl rfl (Nat.le_of_ble_eq_true rfl) dL_paidInAll_4 ⟨Nat.le_of_ble_eq_true rfl, Nat.le_of_ble_eq_true rfl⟩ [] ⟨0, 8, 11, 21⟩ [] (htab.trans rfl) (List.forall_mem_nil _) (by decide +kernel) (by decide) (hts (.classLink RL 21 "java/lang/IndexOutOfBoundsException") (List.mem_of_getElem? (i := 1) rfl)) (va_Nw.use rfl (hX.2.2.2.1 eO (by simp))) (fun q9 H hz9 hk9 => ?_)
  refine lv_astore_n (lv' := [(3, .ref q9), (0, .ref (ax 0)), (1, .int p0), (2, .ref oa)]) hx hb dL_paidInAll_11 rfl hl (by decide) rfl (fun ls hl => ?_)
  refine lv_iconst (v := nI 1) hx hb dL_paidInAll_12 (by decide) ?_
  refine W.widen (k := 1) (n := 6) (by decide) (by decide) ?_
  exact W.iret (v := nI 1) hx hb hr (fun t ht hW => ⟨⟨_, (), rfl, rfl, trivial⟩, by rw [ht]; exact hz9, fun q h1 _ => by rw [ht]; exact hk9 q h1⟩) (fun _ h => by cases h) dL_paidInAll_13
set_option maxHeartbeats 4000000 in
set_option maxRecDepth 100000 in
/-- the law calls owes: refused -/
theorem x1_L_owes (l : Launch) (dC : Nat → ClassId) (dI : Nat → Nat → Nat) (cI cJ cZ cO : ClassId) (ax : Nat → Nat) (ao : Nat → Option Nat) (n mo : Nat) (p0 : Int32) (hst : l.stackTraces = false) (hn : n ≤ 20) (hao : ∀ j, n ≤ j → ao j = none) (hb0 : ¬ vp_in p0 n) (oa : Nat)  : Met l yL_owes wsL_owes ({ frames := 8, cells := 1, slots := 6, locals := 125 }) (va_Pc [.ref (ax 0), .int p0, .ref oa] (jRX (dC, dI) (jTY cI cJ cZ cO) ([jXo ax n mo, jXa cO ax ao]))) (va_Qi (fun r (_ : Unit) => r = nI 1) (fun _ _ => True) (fun _ => False)) 1 6 (fun _ => False) := by
  refine j_ofh (cc := cL_owes) (maxL := 4) (ret := (some .int)) (by decide) rfl (Nat.le_of_ble_eq_true rfl) ?_
  intro p e s m below meth c ls hx hb hr hml hts hown hlocks htab hl hpre
  have hown : s.vm.findClass RL = some m.cls := hown
  have hl : lv_has ls 4 [(0, .ref (ax 0)), (1, .int p0), (2, .ref oa)] := hl
  obtain ⟨⟨hP, hK⟩, hX⟩ := hpre
  refine lv_aload_n hx hb dL_owes_0 rfl (lv_at hl 2 rfl) ?_
  refine lv_iconst (v := nI 0) hx hb dL_owes_1 (by decide) ?_
  refine lv_aload_n hx hb dL_owes_2 rfl (lv_at hl 0 rfl) ?_
  refine lv_iload_n hx hb dL_owes_3 rfl (lv_at hl 1 rfl) ?_
  refine j_try (As := [.int p0]) (rest := [.int (nI 0), .ref oa]) (E := eO) (name := "java/lang/IndexOutOfBoundsException") ⟨hx, hb, hml, hown, hts⟩ (x1_X1_owes l dC dI cI cJ cZ cO ax ao n mo p0 hst hn hao hb0) (cwV 1 hts gL_owes_X1_owes rfl rfl rfl (by decide +kernel) ⟨Nat.le_of_ble_eq_true rfl, Nat.le_of_ble_eq_true rfl⟩) (jRX_V hX hK hP [0, 1] rfl (ci := 1) (q0 := 0) rfl rfl rfl) rfl hl rfl (Nat.le_of_ble_eq_true rfl) dL_owes_4 ⟨Nat.le_of_ble_eq_true rfl, Nat.le_of_ble_eq_true rfl⟩ [] ⟨0, 8, 11, 21⟩ [] (htab.trans rfl) (List.forall_mem_nil _) (by decide +kernel) (by decide) (hts (.classLink RL 21 "java/lang/IndexOutOfBoundsException") (List.mem_of_getElem? (i := 1) rfl)) (va_Nw.use rfl (hX.2.2.2.1 eO (by simp))) (fun q9 H hz9 hk9 => ?_)
  refine lv_astore_n (lv' := [(3, .ref q9), (0, .ref (ax 0)), (1, .int p0), (2, .ref oa)]) hx hb dL_owes_11 rfl hl (by decide) rfl (fun ls hl => ?_)
  refine lv_iconst (v := nI 1) hx hb dL_owes_12 (by decide) ?_
  refine W.widen (k := 1) (n := 6) (by decide) (by decide) ?_
  exact W.iret (v := nI 1) hx hb hr (fun t ht hW => ⟨⟨_, (), rfl, rfl, trivial⟩, by rw [ht]; exact hz9, fun q h1 _ => by rw [ht]; exact hk9 q h1⟩) (fun _ h => by cases h) dL_owes_13
set_option maxHeartbeats 4000000 in
set_option maxRecDepth 100000 in
/-- the law calls fullAmount: refused -/
theorem x1_L_fullAmount (l : Launch) (dC : Nat → ClassId) (dI : Nat → Nat → Nat) (cI cJ cZ cO : ClassId) (ax : Nat → Nat) (ao : Nat → Option Nat) (n mo : Nat) (p0 p1 : Int32) (hst : l.stackTraces = false) (hn : n ≤ 20) (hao : ∀ j, n ≤ j → ao j = none) (hb0 : ¬ vp_in p0 n) (oa : Nat)  : Met l yL_fullAmount wsL_fullAmount ({ frames := 8, cells := 1, slots := 6, locals := 127 }) (va_Pc [.ref (ax 0), .int p0, .int p1, .ref oa] (jRX (dC, dI) (jTY cI cJ cZ cO) ([jXo ax n mo, jXa cO ax ao]))) (va_Qi (fun r (_ : Unit) => r = nI 1) (fun _ _ => True) (fun _ => False)) 1 6 (fun _ => False) := by
  refine j_ofh (cc := cL_fullAmount) (maxL := 5) (ret := (some .int)) (by decide) rfl (Nat.le_of_ble_eq_true rfl) ?_
  intro p e s m below meth c ls hx hb hr hml hts hown hlocks htab hl hpre
  have hown : s.vm.findClass RL = some m.cls := hown
  have hl : lv_has ls 5 [(0, .ref (ax 0)), (1, .int p0), (2, .int p1), (3, .ref oa)] := hl
  obtain ⟨⟨hP, hK⟩, hX⟩ := hpre
  refine lv_aload_n hx hb dL_fullAmount_0 rfl (lv_at hl 3 rfl) ?_
  refine lv_iconst (v := nI 0) hx hb dL_fullAmount_1 (by decide) ?_
  refine lv_aload_n hx hb dL_fullAmount_2 rfl (lv_at hl 0 rfl) ?_
  refine lv_iload_n hx hb dL_fullAmount_3 rfl (lv_at hl 1 rfl) ?_
  refine lv_iload_n hx hb dL_fullAmount_4 rfl (lv_at hl 2 rfl) ?_
  refine j_try (As := [.int p0, .int p1]) (rest := [.int (nI 0), .ref oa]) (E := eO) (name := "java/lang/IndexOutOfBoundsException") ⟨hx, hb, hml, hown, hts⟩ (x1_X1_fullAmount l dC dI cI cJ cZ cO ax ao n mo p0 p1 hst hn hao hb0) (cwV 2 hts gL_fullAmount_X1_fullAmount rfl rfl rfl (by decide +kernel) ⟨Nat.le_of_ble_eq_true rfl, Nat.le_of_ble_eq_true rfl⟩) (jRX_V hX hK hP [0, 1] rfl (ci := 1) (q0 := 0) rfl rfl rfl) rfl hl rfl (Nat.le_of_ble_eq_true rfl) dL_fullAmount_5 ⟨Nat.le_of_ble_eq_true rfl, Nat.le_of_ble_eq_true rfl⟩ [] ⟨0, 10, 13, 21⟩ [⟨0, 10, 17, 13⟩] (htab.trans rfl) (List.forall_mem_nil _) (by decide +kernel) (by decide) (hts (.classLink RL 21 "java/lang/IndexOutOfBoundsException") (List.mem_of_getElem? (i := 1) rfl)) (va_Nw.use rfl (hX.2.2.2.1 eO (by simp))) (fun q9 H hz9 hk9 => ?_)
  refine lv_astore (lv' := [(4, .ref q9), (0, .ref (ax 0)), (1, .int p0), (2, .int p1), (3, .ref oa)]) hx hb dL_fullAmount_13 hl (by decide) rfl (fun ls hl => ?_)
  refine lv_iconst (v := nI 1) hx hb dL_fullAmount_15 (by decide) ?_
  refine W.widen (k := 1) (n := 6) (by decide) (by decide) ?_
  exact W.iret (v := nI 1) hx hb hr (fun t ht hW => ⟨⟨_, (), rfl, rfl, trivial⟩, by rw [ht]; exact hz9, fun q h1 _ => by rw [ht]; exact hk9 q h1⟩) (fun _ h => by cases h) dL_fullAmount_16
set_option maxHeartbeats 4000000 in
set_option maxRecDepth 100000 in
/-- the law calls carry: refused -/
theorem x1_L_carry (l : Launch) (dC : Nat → ClassId) (dI : Nat → Nat → Nat) (cI cJ cZ cO : ClassId) (ax : Nat → Nat) (ao : Nat → Option Nat) (n mo : Nat) (p0 p1 : Int32) (hst : l.stackTraces = false) (hn : n ≤ 20) (hao : ∀ j, n ≤ j → ao j = none) (hb0 : ¬ vp_in p0 n) (oa : Nat)  : Met l yL_carry wsL_carry ({ frames := 8, cells := 1, slots := 6, locals := 127 }) (va_Pc [.ref (ax 0), .int p0, .int p1, .ref oa] (jRX (dC, dI) (jTY cI cJ cZ cO) ([jXo ax n mo, jXa cO ax ao]))) (va_Qi (fun r (_ : Unit) => r = nI 1) (fun _ _ => True) (fun _ => False)) 1 6 (fun _ => False) := by
  refine j_ofh (cc := cL_carry) (maxL := 5) (ret := (some .int)) (by decide) rfl (Nat.le_of_ble_eq_true rfl) ?_
  intro p e s m below meth c ls hx hb hr hml hts hown hlocks htab hl hpre
  have hown : s.vm.findClass RL = some m.cls := hown
  have hl : lv_has ls 5 [(0, .ref (ax 0)), (1, .int p0), (2, .int p1), (3, .ref oa)] := hl
  obtain ⟨⟨hP, hK⟩, hX⟩ := hpre
  refine lv_aload_n hx hb dL_carry_0 rfl (lv_at hl 3 rfl) ?_
  refine lv_iconst (v := nI 0) hx hb dL_carry_1 (by decide) ?_
  refine lv_aload_n hx hb dL_carry_2 rfl (lv_at hl 0 rfl) ?_
  refine lv_iload_n hx hb dL_carry_3 rfl (lv_at hl 1 rfl) ?_
  refine lv_iload_n hx hb dL_carry_4 rfl (lv_at hl 2 rfl) ?_
  refine j_try (As := [.int p0, .int p1]) (rest := [.int (nI 0), .ref oa]) (E := eO) (name := "java/lang/IndexOutOfBoundsException") ⟨hx, hb, hml, hown, hts⟩ (x1_X1_carry l dC dI cI cJ cZ cO ax ao n mo p0 p1 hst hn hao hb0) (cwV 2 hts gL_carry_X1_carry rfl rfl rfl (by decide +kernel) ⟨Nat.le_of_ble_eq_true rfl, Nat.le_of_ble_eq_true rfl⟩) (jRX_V hX hK hP [0, 1] rfl (ci := 1) (q0 := 0) rfl rfl rfl) rfl hl rfl (Nat.le_of_ble_eq_true rfl) dL_carry_5 ⟨Nat.le_of_ble_eq_true rfl, Nat.le_of_ble_eq_true rfl⟩ [] ⟨0, 10, 13, 21⟩ [⟨0, 10, 17, 13⟩] (htab.trans rfl) (List.forall_mem_nil _) (by decide +kernel) (by decide) (hts (.classLink RL 21 "java/lang/IndexOutOfBoundsException") (List.mem_of_getElem? (i := 1) rfl)) (va_Nw.use rfl (hX.2.2.2.1 eO (by simp))) (fun q9 H hz9 hk9 => ?_)
  refine lv_astore (lv' := [(4, .ref q9), (0, .ref (ax 0)), (1, .int p0), (2, .int p1), (3, .ref oa)]) hx hb dL_carry_13 hl (by decide) rfl (fun ls hl => ?_)
  refine lv_iconst (v := nI 1) hx hb dL_carry_15 (by decide) ?_
  refine W.widen (k := 1) (n := 6) (by decide) (by decide) ?_
  exact W.iret (v := nI 1) hx hb hr (fun t ht hW => ⟨⟨_, (), rfl, rfl, trivial⟩, by rw [ht]; exact hz9, fun q h1 _ => by rw [ht]; exact hk9 q h1⟩) (fun _ h => by cases h) dL_carry_16
set_option maxHeartbeats 4000000 in
set_option maxRecDepth 100000 in
/-- the law calls entitled: refused -/
theorem x1_L_entitled (l : Launch) (dC : Nat → ClassId) (dI : Nat → Nat → Nat) (cI cJ cZ cO : ClassId) (ax : Nat → Nat) (ao : Nat → Option Nat) (n mo : Nat) (p0 p1 : Int32) (hst : l.stackTraces = false) (hn : n ≤ 20) (hao : ∀ j, n ≤ j → ao j = none) (hb0 : ¬ vp_in p0 n) (oa : Nat)  : Met l yL_entitled wsL_entitled ({ frames := 8, cells := 1, slots := 6, locals := 127 }) (va_Pc [.ref (ax 0), .int p0, .int p1, .ref oa] (jRX (dC, dI) (jTY cI cJ cZ cO) ([jXo ax n mo, jXa cO ax ao]))) (va_Qi (fun r (_ : Unit) => r = nI 1) (fun _ _ => True) (fun _ => False)) 1 6 (fun _ => False) := by
  refine j_ofh (cc := cL_entitled) (maxL := 5) (ret := (some .int)) (by decide) rfl (Nat.le_of_ble_eq_true rfl) ?_
  intro p e s m below meth c ls hx hb hr hml hts hown hlocks htab hl hpre
  have hown : s.vm.findClass RL = some m.cls := hown
  have hl : lv_has ls 5 [(0, .ref (ax 0)), (1, .int p0), (2, .int p1), (3, .ref oa)] := hl
  obtain ⟨⟨hP, hK⟩, hX⟩ := hpre
  refine lv_aload_n hx hb dL_entitled_0 rfl (lv_at hl 3 rfl) ?_
  refine lv_iconst (v := nI 0) hx hb dL_entitled_1 (by decide) ?_
  refine lv_aload_n hx hb dL_entitled_2 rfl (lv_at hl 0 rfl) ?_
  refine lv_iload_n hx hb dL_entitled_3 rfl (lv_at hl 1 rfl) ?_
  refine lv_iload_n hx hb dL_entitled_4 rfl (lv_at hl 2 rfl) ?_
  refine j_try (As := [.int p0, .int p1]) (rest := [.int (nI 0), .ref oa]) (E := eO) (name := "java/lang/IndexOutOfBoundsException") ⟨hx, hb, hml, hown, hts⟩ (x1_X1_entitled l dC dI cI cJ cZ cO ax ao n mo p0 p1 hst hn hao hb0) (cwV 2 hts gL_entitled_X1_entitled rfl rfl rfl (by decide +kernel) ⟨Nat.le_of_ble_eq_true rfl, Nat.le_of_ble_eq_true rfl⟩) (jRX_V hX hK hP [0, 1] rfl (ci := 1) (q0 := 0) rfl rfl rfl) rfl hl rfl (Nat.le_of_ble_eq_true rfl) dL_entitled_5 ⟨Nat.le_of_ble_eq_true rfl, Nat.le_of_ble_eq_true rfl⟩ [] ⟨0, 9, 12, 21⟩ [⟨0, 9, 16, 13⟩] (htab.trans rfl) (List.forall_mem_nil _) (by decide +kernel) (by decide) (hts (.classLink RL 21 "java/lang/IndexOutOfBoundsException") (List.mem_of_getElem? (i := 1) rfl)) (va_Nw.use rfl (hX.2.2.2.1 eO (by simp))) (fun q9 H hz9 hk9 => ?_)
  refine lv_astore (lv' := [(4, .ref q9), (0, .ref (ax 0)), (1, .int p0), (2, .int p1), (3, .ref oa)]) hx hb dL_entitled_12 hl (by decide) rfl (fun ls hl => ?_)
  refine lv_iconst (v := nI 1) hx hb dL_entitled_14 (by decide) ?_
  refine W.widen (k := 1) (n := 6) (by decide) (by decide) ?_
  exact W.iret (v := nI 1) hx hb hr (fun t ht hW => ⟨⟨_, (), rfl, rfl, trivial⟩, by rw [ht]; exact hz9, fun q h1 _ => by rw [ht]; exact hk9 q h1⟩) (fun _ h => by cases h) dL_entitled_15
set_option maxHeartbeats 4000000 in
set_option maxRecDepth 100000 in
/-- the law calls entitledUpTo: refused -/
theorem x1_L_entitledUpTo (l : Launch) (dC : Nat → ClassId) (dI : Nat → Nat → Nat) (cI cJ cZ cO : ClassId) (ax : Nat → Nat) (ao : Nat → Option Nat) (n mo : Nat) (p0 p1 : Int32) (hst : l.stackTraces = false) (hn : n ≤ 20) (hao : ∀ j, n ≤ j → ao j = none) (hb0 : ¬ vp_in p0 n) (oa : Nat)  : Met l yL_entitledUpTo wsL_entitledUpTo ({ frames := 8, cells := 1, slots := 6, locals := 127 }) (va_Pc [.ref (ax 0), .int p0, .int p1, .ref oa] (jRX (dC, dI) (jTY cI cJ cZ cO) ([jXo ax n mo, jXa cO ax ao]))) (va_Qi (fun r (_ : Unit) => r = nI 1) (fun _ _ => True) (fun _ => False)) 1 6 (fun _ => False) := by
  refine j_ofh (cc := cL_entitledUpTo) (maxL := 5) (ret := (some .int)) (by decide) rfl (Nat.le_of_ble_eq_true rfl) ?_
  intro p e s m below meth c ls hx hb hr hml hts hown hlocks htab hl hpre
  have hown : s.vm.findClass RL = some m.cls := hown
  have hl : lv_has ls 5 [(0, .ref (ax 0)), (1, .int p0), (2, .int p1), (3, .ref oa)] := hl
  obtain ⟨⟨hP, hK⟩, hX⟩ := hpre
  refine lv_aload_n hx hb dL_entitledUpTo_0 rfl (lv_at hl 3 rfl) ?_
  refine lv_iconst (v := nI 0) hx hb dL_entitledUpTo_1 (by decide) ?_
  refine lv_aload_n hx hb dL_entitledUpTo_2 rfl (lv_at hl 0 rfl) ?_
  refine lv_iload_n hx hb dL_entitledUpTo_3 rfl (lv_at hl 1 rfl) ?_
  refine lv_iload_n hx hb dL_entitledUpTo_4 rfl (lv_at hl 2 rfl) ?_
  refine j_try (As := [.int p0, .int p1]) (rest := [.int (nI 0), .ref oa]) (E := eO) (name := "java/lang/IndexOutOfBoundsException") ⟨hx, hb, hml, hown, hts⟩ (x1_X1_entitledUpTo l dC dI cI cJ cZ cO ax ao n mo p0 p1 hst hn hao hb0) (cwV 2 hts gL_entitledUpTo_X1_entitledUpTo rfl rfl rfl (by decide +kernel) ⟨Nat.le_of_ble_eq_true rfl, Nat.le_of_ble_eq_true rfl⟩) (jRX_V hX hK hP [0, 1] rfl (ci := 1) (q0 := 0) rfl rfl rfl) rfl hl rfl (Nat.le_of_ble_eq_true rfl) dL_entitledUpTo_5 ⟨Nat.le_of_ble_eq_true rfl, Nat.le_of_ble_eq_true rfl⟩ [] ⟨0, 9, 12, 21⟩ [⟨0, 9, 16, 13⟩] (htab.trans rfl) (List.forall_mem_nil _) (by decide +kernel) (by decide) (hts (.classLink RL 21 "java/lang/IndexOutOfBoundsException") (List.mem_of_getElem? (i := 1) rfl)) (va_Nw.use rfl (hX.2.2.2.1 eO (by simp))) (fun q9 H hz9 hk9 => ?_)
  refine lv_astore (lv' := [(4, .ref q9), (0, .ref (ax 0)), (1, .int p0), (2, .int p1), (3, .ref oa)]) hx hb dL_entitledUpTo_12 hl (by decide) rfl (fun ls hl => ?_)
  refine lv_iconst (v := nI 1) hx hb dL_entitledUpTo_14 (by decide) ?_
  refine W.widen (k := 1) (n := 6) (by decide) (by decide) ?_
  exact W.iret (v := nI 1) hx hb hr (fun t ht hW => ⟨⟨_, (), rfl, rfl, trivial⟩, by rw [ht]; exact hz9, fun q h1 _ => by rw [ht]; exact hk9 q h1⟩) (fun _ h => by cases h) dL_entitledUpTo_15
set_option maxHeartbeats 4000000 in
set_option maxRecDepth 100000 in
/-- the law calls protection: refused -/
theorem x1_L_protection (l : Launch) (dC : Nat → ClassId) (dI : Nat → Nat → Nat) (cI cJ cZ cO : ClassId) (ax : Nat → Nat) (ao : Nat → Option Nat) (n mo : Nat) (p0 : Int32) (hst : l.stackTraces = false) (hn : n ≤ 20) (hao : ∀ j, n ≤ j → ao j = none) (hb0 : ¬ vp_in p0 n) (oa : Nat)  : Met l yL_protection wsL_protection ({ frames := 8, cells := 1, slots := 6, locals := 125 }) (va_Pc [.ref (ax 0), .int p0, .ref oa] (jRX (dC, dI) (jTY cI cJ cZ cO) ([jXo ax n mo, jXa cO ax ao]))) (va_Qi (fun r (_ : Unit) => r = nI 1) (fun _ _ => True) (fun _ => False)) 1 6 (fun _ => False) := by
  refine j_ofh (cc := cL_protection) (maxL := 4) (ret := (some .int)) (by decide) rfl (Nat.le_of_ble_eq_true rfl) ?_
  intro p e s m below meth c ls hx hb hr hml hts hown hlocks htab hl hpre
  have hown : s.vm.findClass RL = some m.cls := hown
  have hl : lv_has ls 4 [(0, .ref (ax 0)), (1, .int p0), (2, .ref oa)] := hl
  obtain ⟨⟨hP, hK⟩, hX⟩ := hpre
  refine lv_aload_n hx hb dL_protection_0 rfl (lv_at hl 2 rfl) ?_
  refine lv_iconst (v := nI 0) hx hb dL_protection_1 (by decide) ?_
  refine lv_aload_n hx hb dL_protection_2 rfl (lv_at hl 0 rfl) ?_
  refine lv_iload_n hx hb dL_protection_3 rfl (lv_at hl 1 rfl) ?_
  refine j_try (As := [.int p0]) (rest := [.int (nI 0), .ref oa]) (E := eO) (name := "java/lang/IndexOutOfBoundsException") ⟨hx, hb, hml, hown, hts⟩ (x1_X1_protection l dC dI cI cJ cZ cO ax ao n mo p0 hst hn hao hb0) (cwV 1 hts gL_protection_X1_protection rfl rfl rfl (by decide +kernel) ⟨Nat.le_of_ble_eq_true rfl, Nat.le_of_ble_eq_true rfl⟩) (jRX_V hX hK hP [0, 1] rfl (ci := 1) (q0 := 0) rfl rfl rfl) rfl hl rfl (Nat.le_of_ble_eq_true rfl) dL_protection_4 ⟨Nat.le_of_ble_eq_true rfl, Nat.le_of_ble_eq_true rfl⟩ [] ⟨0, 8, 11, 21⟩ [] (htab.trans rfl) (List.forall_mem_nil _) (by decide +kernel) (by decide) (hts (.classLink RL 21 "java/lang/IndexOutOfBoundsException") (List.mem_of_getElem? (i := 1) rfl)) (va_Nw.use rfl (hX.2.2.2.1 eO (by simp))) (fun q9 H hz9 hk9 => ?_)
  refine lv_astore_n (lv' := [(3, .ref q9), (0, .ref (ax 0)), (1, .int p0), (2, .ref oa)]) hx hb dL_protection_11 rfl hl (by decide) rfl (fun ls hl => ?_)
  refine lv_iconst (v := nI 1) hx hb dL_protection_12 (by decide) ?_
  refine W.widen (k := 1) (n := 6) (by decide) (by decide) ?_
  exact W.iret (v := nI 1) hx hb hr (fun t ht hW => ⟨⟨_, (), rfl, rfl, trivial⟩, by rw [ht]; exact hz9, fun q h1 _ => by rw [ht]; exact hk9 q h1⟩) (fun _ h => by cases h) dL_protection_13
set_option maxHeartbeats 4000000 in
set_option maxRecDepth 100000 in
/-- the law calls setSurvivor: refused -/
theorem x2_L_setSurvivor (l : Launch) (dC : Nat → ClassId) (dI : Nat → Nat → Nat) (cI cJ cZ cO : ClassId) (ax : Nat → Nat) (ao : Nat → Option Nat) (n mo : Nat) (iv : Nat → Int32) (aa an : Nat → Nat) (kp : Int64) (py : Nat → Int64) (k : Nat) (p1 p2 : Int32) (hst : l.stackTraces = false) (hv : jV an) (hm : mo ≤ 240) (hk : k < 20) (hao : ao k = some (aa 0)) (h : p1 < nI 0 ∨ nI 100 < p1)  : Met l yL_setSurvivor wsL_setSurvivor ({ frames := 8, cells := 1, slots := 6, locals := 128 }) (va_Pc [.ref (ax 0), .int (nI k), .int p1, .int p2] (jRX (dC, dI) (jTY cI cJ cZ cO) (jFW cI cJ cO ax ao n mo iv aa an kp py))) (va_Qi (fun r (_ : Unit) => r = nI 2) (fun _ _ => True) (fun _ => False)) 1 6 (fun _ => False) := by
  refine j_ofh (cc := cL_setSurvivor) (maxL := 5) (ret := (some .int)) (by decide) rfl (Nat.le_of_ble_eq_true rfl) ?_
  intro p e s m below meth c ls hx hb hr hml hts hown hlocks htab hl hpre
  have hown : s.vm.findClass RL = some m.cls := hown
  have hl : lv_has ls 5 [(0, .ref (ax 0)), (1, .int (nI k)), (2, .int p1), (3, .int p2)] := hl
  obtain ⟨⟨hP, hK⟩, hX⟩ := hpre
  refine lv_aload_n hx hb dL_setSurvivor_0 rfl (lv_at hl 0 rfl) ?_
  refine lv_iload_n hx hb dL_setSurvivor_1 rfl (lv_at hl 1 rfl) ?_
  refine lv_iload_n hx hb dL_setSurvivor_2 rfl (lv_at hl 2 rfl) ?_
  refine lv_iload_n hx hb dL_setSurvivor_3 rfl (lv_at hl 3 rfl) ?_
  refine j_try (As := [.int (nI k), .int p1, .int p2]) (rest := []) (E := eA) (name := "java/lang/IllegalArgumentException") ⟨hx, hb, hml, hown, hts⟩ (x2_X1_setSurvivor l dC dI cI cJ cZ cO ax ao n mo iv aa an kp py k p1 p2 hst hv hm hk hao h) (cwV 3 hts gL_setSurvivor_X1_setSurvivor rfl rfl rfl (by decide +kernel) ⟨Nat.le_of_ble_eq_true rfl, Nat.le_of_ble_eq_true rfl⟩) (jRX_V hX hK hP [0, 1, 2, 3, 4, 5, 6, 7] rfl (ci := 1) (q0 := 0) rfl rfl rfl) rfl hl rfl (Nat.le_of_ble_eq_true rfl) dL_setSurvivor_4 ⟨Nat.le_of_ble_eq_true rfl, Nat.le_of_ble_eq_true rfl⟩ [⟨0, 7, 10, 21⟩] ⟨0, 7, 14, 13⟩ [⟨0, 7, 18, 15⟩] (htab.trans rfl) (List.forall_mem_cons.mpr ⟨Or.inr ⟨by decide, _, (hts (.classLink RL 21 "java/lang/IndexOutOfBoundsException") (List.mem_of_getElem? (i := 1) rfl)), hX.2.2.2.2.2 eA (by simp) eO (by simp) (by decide)⟩, List.forall_mem_nil _⟩) (by decide +kernel) (by decide) (hts (.classLink RL 13 "java/lang/IllegalArgumentException") (List.mem_of_getElem? (i := 2) rfl)) (va_Nw.use rfl (hX.2.2.2.1 eA (by simp))) (fun q9 H hz9 hk9 => ?_)
  refine lv_astore (lv' := [(4, .ref q9), (0, .ref (ax 0)), (1, .int (nI k)), (2, .int p1), (3, .int p2)]) hx hb dL_setSurvivor_14 hl (by decide) rfl (fun ls hl => ?_)
  refine lv_iconst (v := nI 2) hx hb dL_setSurvivor_16 (by decide) ?_
  refine W.widen (k := 1) (n := 6) (by decide) (by decide) ?_
  exact W.iret (v := nI 2) hx hb hr (fun t ht hW => ⟨⟨_, (), rfl, rfl, trivial⟩, by rw [ht]; exact hz9, fun q h1 _ => by rw [ht]; exact hk9 q h1⟩) (fun _ h => by cases h) dL_setSurvivor_17
set_option maxHeartbeats 4000000 in
set_option maxRecDepth 100000 in
/-- the law calls setCap: refused -/
theorem x2_L_setCap (l : Launch) (dC : Nat → ClassId) (dI : Nat → Nat → Nat) (cI cJ cZ cO : ClassId) (ax : Nat → Nat) (ao : Nat → Option Nat) (n mo : Nat) (iv : Nat → Int32) (aa an : Nat → Nat) (kp : Int64) (py : Nat → Int64) (k : Nat) (p1 : Int32) (hst : l.stackTraces = false) (hv : jV an) (hm : mo ≤ 240) (hk : k < 20) (hao : ao k = some (aa 0)) (h : p1 < nI 0 ∨ nI 200 < p1)  : Met l yL_setCap wsL_setCap ({ frames := 8, cells := 1, slots := 6, locals := 127 }) (va_Pc [.ref (ax 0), .int (nI k), .int p1] (jRX (dC, dI) (jTY cI cJ cZ cO) (jFW cI cJ cO ax ao n mo iv aa an kp py))) (va_Qi (fun r (_ : Unit) => r = nI 2) (fun _ _ => True) (fun _ => False)) 1 6 (fun _ => False) := by
  refine j_ofh (cc := cL_setCap) (maxL := 4) (ret := (some .int)) (by decide) rfl (Nat.le_of_ble_eq_true rfl) ?_
  intro p e s m below meth c ls hx hb hr hml hts hown hlocks htab hl hpre
  have hown : s.vm.findClass RL = some m.cls := hown
  have hl : lv_has ls 4 [(0, .ref (ax 0)), (1, .int (nI k)), (2, .int p1)] := hl
  obtain ⟨⟨hP, hK⟩, hX⟩ := hpre
  refine lv_aload_n hx hb dL_setCap_0 rfl (lv_at hl 0 rfl) ?_
  refine lv_iload_n hx hb dL_setCap_1 rfl (lv_at hl 1 rfl) ?_
  refine lv_iload_n hx hb dL_setCap_2 rfl (lv_at hl 2 rfl) ?_
  refine j_try (As := [.int (nI k), .int p1]) (rest := []) (E := eA) (name := "java/lang/IllegalArgumentException") ⟨hx, hb, hml, hown, hts⟩ (x2_X1_setCap l dC dI cI cJ cZ cO ax ao n mo iv aa an kp py k p1 hst hv hm hk hao h) (cwV 2 hts gL_setCap_X1_setCap rfl rfl rfl (by decide +kernel) ⟨Nat.le_of_ble_eq_true rfl, Nat.le_of_ble_eq_true rfl⟩) (jRX_V hX hK hP [0, 1, 2, 3, 4, 5, 6, 7] rfl (ci := 1) (q0 := 0) rfl rfl rfl) rfl hl rfl (Nat.le_of_ble_eq_true rfl) dL_setCap_3 ⟨Nat.le_of_ble_eq_true rfl, Nat.le_of_ble_eq_true rfl⟩ [⟨0, 6, 9, 21⟩] ⟨0, 6, 12, 13⟩ [⟨0, 6, 15, 15⟩] (htab.trans rfl) (List.forall_mem_cons.mpr ⟨Or.inr ⟨by decide, _, (hts (.classLink RL 21 "java/lang/IndexOutOfBoundsException") (List.mem_of_getElem? (i := 1) rfl)), hX.2.2.2.2.2 eA (by simp) eO (by simp) (by decide)⟩, List.forall_mem_nil _⟩) (by decide +kernel) (by decide) (hts (.classLink RL 13 "java/lang/IllegalArgumentException") (List.mem_of_getElem? (i := 2) rfl)) (va_Nw.use rfl (hX.2.2.2.1 eA (by simp))) (fun q9 H hz9 hk9 => ?_)
  refine lv_astore_n (lv' := [(3, .ref q9), (0, .ref (ax 0)), (1, .int (nI k)), (2, .int p1)]) hx hb dL_setCap_12 rfl hl (by decide) rfl (fun ls hl => ?_)
  refine lv_iconst (v := nI 2) hx hb dL_setCap_13 (by decide) ?_
  refine W.widen (k := 1) (n := 6) (by decide) (by decide) ?_
  exact W.iret (v := nI 2) hx hb hr (fun t ht hW => ⟨⟨_, (), rfl, rfl, trivial⟩, by rw [ht]; exact hz9, fun q h1 _ => by rw [ht]; exact hk9 q h1⟩) (fun _ h => by cases h) dL_setCap_14
set_option maxHeartbeats 4000000 in
set_option maxRecDepth 100000 in
/-- the law calls protect: refused -/
theorem x2_L_protect (l : Launch) (dC : Nat → ClassId) (dI : Nat → Nat → Nat) (cI cJ cZ cO : ClassId) (ax : Nat → Nat) (ao : Nat → Option Nat) (n mo : Nat) (iv : Nat → Int32) (aa an : Nat → Nat) (kp : Int64) (py : Nat → Int64) (k : Nat) (p1 p2 : Int32) (hst : l.stackTraces = false) (hv : jV an) (hm : mo ≤ 240) (hk : k < 20) (hao : ao k = some (aa 0)) (h : p1 < nI 0 ∨ nI 10000000 < p1)  : Met l yL_protect wsL_protect ({ frames := 8, cells := 1, slots := 6, locals := 128 }) (va_Pc [.ref (ax 0), .int (nI k), .int p1, .int p2] (jRX (dC, dI) (jTY cI cJ cZ cO) (jFW cI cJ cO ax ao n mo iv aa an kp py))) (va_Qi (fun r (_ : Unit) => r = nI 2) (fun _ _ => True) (fun _ => False)) 1 6 (fun _ => False) := by
  refine j_ofh (cc := cL_protect) (maxL := 5) (ret := (some .int)) (by decide) rfl (Nat.le_of_ble_eq_true rfl) ?_
  intro p e s m below meth c ls hx hb hr hml hts hown hlocks htab hl hpre
  have hown : s.vm.findClass RL = some m.cls := hown
  have hl : lv_has ls 5 [(0, .ref (ax 0)), (1, .int (nI k)), (2, .int p1), (3, .int p2)] := hl
  obtain ⟨⟨hP, hK⟩, hX⟩ := hpre
  refine lv_aload_n hx hb dL_protect_0 rfl (lv_at hl 0 rfl) ?_
  refine lv_iload_n hx hb dL_protect_1 rfl (lv_at hl 1 rfl) ?_
  refine lv_iload_n hx hb dL_protect_2 rfl (lv_at hl 2 rfl) ?_
  refine lv_iload_n hx hb dL_protect_3 rfl (lv_at hl 3 rfl) ?_
  refine j_try (As := [.int (nI k), .int p1, .int p2]) (rest := []) (E := eA) (name := "java/lang/IllegalArgumentException") ⟨hx, hb, hml, hown, hts⟩ (x2_X1_protect l dC dI cI cJ cZ cO ax ao n mo iv aa an kp py k p1 p2 hst hv hm hk hao h) (cwV 3 hts gL_protect_X1_protect rfl rfl rfl (by decide +kernel) ⟨Nat.le_of_ble_eq_true rfl, Nat.le_of_ble_eq_true rfl⟩) (jRX_V hX hK hP [0, 1, 2, 3, 4, 5, 6, 7] rfl (ci := 1) (q0 := 0) rfl rfl rfl) rfl hl rfl (Nat.le_of_ble_eq_true rfl) dL_protect_4 ⟨Nat.le_of_ble_eq_true rfl, Nat.le_of_ble_eq_true rfl⟩ [⟨0, 7, 10, 21⟩] ⟨0, 7, 14, 13⟩ [⟨0, 7, 18, 15⟩] (htab.trans rfl) (List.forall_mem_cons.mpr ⟨Or.inr ⟨by decide, _, (hts (.classLink RL 21 "java/lang/IndexOutOfBoundsException") (List.mem_of_getElem? (i := 1) rfl)), hX.2.2.2.2.2 eA (by simp) eO (by simp) (by decide)⟩, List.forall_mem_nil _⟩) (by decide +kernel) (by decide) (hts (.classLink RL 13 "java/lang/IllegalArgumentException") (List.mem_of_getElem? (i := 2) rfl)) (va_Nw.use rfl (hX.2.2.2.1 eA (by simp))) (fun q9 H hz9 hk9 => ?_)
  refine lv_astore (lv' := [(4, .ref q9), (0, .ref (ax 0)), (1, .int (nI k)), (2, .int p1), (3, .int p2)]) hx hb dL_protect_14 hl (by decide) rfl (fun ls hl => ?_)
  refine lv_iconst (v := nI 2) hx hb dL_protect_16 (by decide) ?_
  refine W.widen (k := 1) (n := 6) (by decide) (by decide) ?_
  exact W.iret (v := nI 2) hx hb hr (fun t ht hW => ⟨⟨_, (), rfl, rfl, trivial⟩, by rw [ht]; exact hz9, fun q h1 _ => by rw [ht]; exact hk9 q h1⟩) (fun _ h => by cases h) dL_protect_17
set_option maxHeartbeats 4000000 in
set_option maxRecDepth 100000 in
/-- the law calls protect: refused -/
theorem x2b_L_protect (l : Launch) (dC : Nat → ClassId) (dI : Nat → Nat → Nat) (cI cJ cZ cO : ClassId) (ax : Nat → Nat) (ao : Nat → Option Nat) (n mo : Nat) (iv : Nat → Int32) (aa an : Nat → Nat) (kp : Int64) (py : Nat → Int64) (k : Nat) (v : Nat) (p2 : Int32) (hst : l.stackTraces = false) (hv : jV an) (hm : mo ≤ 240) (hk : k < 20) (hao : ao k = some (aa 0)) (h1 : v ≤ 10000000) (h : p2 < nI 0 ∨ nI 100 < p2)  : Met l yL_protect wsL_protect ({ frames := 8, cells := 1, slots := 6, locals := 128 }) (va_Pc [.ref (ax 0), .int (nI k), .int (nI v), .int p2] (jRX (dC, dI) (jTY cI cJ cZ cO) (jFW cI cJ cO ax ao n mo iv aa an kp py))) (va_Qi (fun r (_ : Unit) => r = nI 2) (fun _ _ => True) (fun _ => False)) 1 6 (fun _ => False) := by
  refine j_ofh (cc := cL_protect) (maxL := 5) (ret := (some .int)) (by decide) rfl (Nat.le_of_ble_eq_true rfl) ?_
  intro p e s m below meth c ls hx hb hr hml hts hown hlocks htab hl hpre
  have hown : s.vm.findClass RL = some m.cls := hown
  have hl : lv_has ls 5 [(0, .ref (ax 0)), (1, .int (nI k)), (2, .int (nI v)), (3, .int p2)] := hl
  obtain ⟨⟨hP, hK⟩, hX⟩ := hpre
  refine lv_aload_n hx hb dL_protect_0 rfl (lv_at hl 0 rfl) ?_
  refine lv_iload_n hx hb dL_protect_1 rfl (lv_at hl 1 rfl) ?_
  refine lv_iload_n hx hb dL_protect_2 rfl (lv_at hl 2 rfl) ?_
  refine lv_iload_n hx hb dL_protect_3 rfl (lv_at hl 3 rfl) ?_
  refine j_try (As := [.int (nI k), .int (nI v), .int p2]) (rest := []) (E := eA) (name := "java/lang/IllegalArgumentException") ⟨hx, hb, hml, hown, hts⟩ (x2b_X1_protect l dC dI cI cJ cZ cO ax ao n mo iv aa an kp py k v p2 hst hv hm hk hao h1 h) (cwV 3 hts gL_protect_X1_protect rfl rfl rfl (by decide +kernel) ⟨Nat.le_of_ble_eq_true rfl, Nat.le_of_ble_eq_true rfl⟩) (jRX_V hX hK hP [0, 1, 2, 3, 4, 5, 6, 7] rfl (ci := 1) (q0 := 0) rfl rfl rfl) rfl hl rfl (Nat.le_of_ble_eq_true rfl) dL_protect_4 ⟨Nat.le_of_ble_eq_true rfl, Nat.le_of_ble_eq_true rfl⟩ [⟨0, 7, 10, 21⟩] ⟨0, 7, 14, 13⟩ [⟨0, 7, 18, 15⟩] (htab.trans rfl) (List.forall_mem_cons.mpr ⟨Or.inr ⟨by decide, _, (hts (.classLink RL 21 "java/lang/IndexOutOfBoundsException") (List.mem_of_getElem? (i := 1) rfl)), hX.2.2.2.2.2 eA (by simp) eO (by simp) (by decide)⟩, List.forall_mem_nil _⟩) (by decide +kernel) (by decide) (hts (.classLink RL 13 "java/lang/IllegalArgumentException") (List.mem_of_getElem? (i := 2) rfl)) (va_Nw.use rfl (hX.2.2.2.1 eA (by simp))) (fun q9 H hz9 hk9 => ?_)
  refine lv_astore (lv' := [(4, .ref q9), (0, .ref (ax 0)), (1, .int (nI k)), (2, .int (nI v)), (3, .int p2)]) hx hb dL_protect_14 hl (by decide) rfl (fun ls hl => ?_)
  refine lv_iconst (v := nI 2) hx hb dL_protect_16 (by decide) ?_
  refine W.widen (k := 1) (n := 6) (by decide) (by decide) ?_
  exact W.iret (v := nI 2) hx hb hr (fun t ht hW => ⟨⟨_, (), rfl, rfl, trivial⟩, by rw [ht]; exact hz9, fun q h1 _ => by rw [ht]; exact hk9 q h1⟩) (fun _ h => by cases h) dL_protect_17
set_option maxHeartbeats 4000000 in
set_option maxRecDepth 100000 in
/-- the law calls die: refused -/
theorem x2_L_die (l : Launch) (dC : Nat → ClassId) (dI : Nat → Nat → Nat) (cI cJ cZ cO : ClassId) (ax : Nat → Nat) (ao : Nat → Option Nat) (n mo : Nat) (iv : Nat → Int32) (aa an : Nat → Nat) (kp : Int64) (py : Nat → Int64) (k : Nat) (p1 p2 : Int32) (hst : l.stackTraces = false) (hv : jV an) (hm : mo ≤ 240) (hk : k < 20) (hao : ao k = some (aa 0)) (h : p1 < nI 0 ∨ nI 1 < p1)  : Met l yL_die wsL_die ({ frames := 8, cells := 1, slots := 6, locals := 128 }) (va_Pc [.ref (ax 0), .int (nI k), .int p1, .int p2] (jRX (dC, dI) (jTY cI cJ cZ cO) (jFW cI cJ cO ax ao n mo iv aa an kp py))) (va_Qi (fun r (_ : Unit) => r = nI 2) (fun _ _ => True) (fun _ => False)) 1 6 (fun _ => False) := by
  refine j_ofh (cc := cL_die) (maxL := 5) (ret := (some .int)) (by decide) rfl (Nat.le_of_ble_eq_true rfl) ?_
  intro p e s m below meth c ls hx hb hr hml hts hown hlocks htab hl hpre
  have hown : s.vm.findClass RL = some m.cls := hown
  have hl : lv_has ls 5 [(0, .ref (ax 0)), (1, .int (nI k)), (2, .int p1), (3, .int p2)] := hl
  obtain ⟨⟨hP, hK⟩, hX⟩ := hpre
  refine lv_aload_n hx hb dL_die_0 rfl (lv_at hl 0 rfl) ?_
  refine lv_iload_n hx hb dL_die_1 rfl (lv_at hl 1 rfl) ?_
  refine lv_iload_n hx hb dL_die_2 rfl (lv_at hl 2 rfl) ?_
  refine lv_iload_n hx hb dL_die_3 rfl (lv_at hl 3 rfl) ?_
  refine j_try (As := [.int (nI k), .int p1, .int p2]) (rest := []) (E := eA) (name := "java/lang/IllegalArgumentException") ⟨hx, hb, hml, hown, hts⟩ (x2_X1_die l dC dI cI cJ cZ cO ax ao n mo iv aa an kp py k p1 p2 hst hv hm hk hao h) (cwV 3 hts gL_die_X1_die rfl rfl rfl (by decide +kernel) ⟨Nat.le_of_ble_eq_true rfl, Nat.le_of_ble_eq_true rfl⟩) (jRX_V hX hK hP [0, 1, 2, 3, 4, 5, 6, 7] rfl (ci := 1) (q0 := 0) rfl rfl rfl) rfl hl rfl (Nat.le_of_ble_eq_true rfl) dL_die_4 ⟨Nat.le_of_ble_eq_true rfl, Nat.le_of_ble_eq_true rfl⟩ [⟨0, 7, 10, 21⟩] ⟨0, 7, 14, 13⟩ [⟨0, 7, 18, 15⟩] (htab.trans rfl) (List.forall_mem_cons.mpr ⟨Or.inr ⟨by decide, _, (hts (.classLink RL 21 "java/lang/IndexOutOfBoundsException") (List.mem_of_getElem? (i := 1) rfl)), hX.2.2.2.2.2 eA (by simp) eO (by simp) (by decide)⟩, List.forall_mem_nil _⟩) (by decide +kernel) (by decide) (hts (.classLink RL 13 "java/lang/IllegalArgumentException") (List.mem_of_getElem? (i := 2) rfl)) (va_Nw.use rfl (hX.2.2.2.1 eA (by simp))) (fun q9 H hz9 hk9 => ?_)
  refine lv_astore (lv' := [(4, .ref q9), (0, .ref (ax 0)), (1, .int (nI k)), (2, .int p1), (3, .int p2)]) hx hb dL_die_14 hl (by decide) rfl (fun ls hl => ?_)
  refine lv_iconst (v := nI 2) hx hb dL_die_16 (by decide) ?_
  refine W.widen (k := 1) (n := 6) (by decide) (by decide) ?_
  exact W.iret (v := nI 2) hx hb hr (fun t ht hW => ⟨⟨_, (), rfl, rfl, trivial⟩, by rw [ht]; exact hz9, fun q h1 _ => by rw [ht]; exact hk9 q h1⟩) (fun _ h => by cases h) dL_die_17
set_option maxHeartbeats 4000000 in
set_option maxRecDepth 100000 in
/-- the law calls die: refused -/
theorem x2b_L_die (l : Launch) (dC : Nat → ClassId) (dI : Nat → Nat → Nat) (cI cJ cZ cO : ClassId) (ax : Nat → Nat) (ao : Nat → Option Nat) (n mo : Nat) (iv : Nat → Int32) (aa an : Nat → Nat) (kp : Int64) (py : Nat → Int64) (k : Nat) (i : Nat) (p2 : Int32) (hst : l.stackTraces = false) (hv : jV an) (hm : mo ≤ 240) (hk : k < 20) (hao : ao k = some (aa 0)) (hi : i ≤ 1) (h : p2 < nI 0 ∨ nI (min mo 239) < p2)  : Met l yL_die wsL_die ({ frames := 8, cells := 1, slots := 6, locals := 128 }) (va_Pc [.ref (ax 0), .int (nI k), .int (nI i), .int p2] (jRX (dC, dI) (jTY cI cJ cZ cO) (jFW cI cJ cO ax ao n mo iv aa an kp py))) (va_Qi (fun r (_ : Unit) => r = nI 2) (fun _ _ => True) (fun _ => False)) 1 6 (fun _ => False) := by
  refine j_ofh (cc := cL_die) (maxL := 5) (ret := (some .int)) (by decide) rfl (Nat.le_of_ble_eq_true rfl) ?_
  intro p e s m below meth c ls hx hb hr hml hts hown hlocks htab hl hpre
  have hown : s.vm.findClass RL = some m.cls := hown
  have hl : lv_has ls 5 [(0, .ref (ax 0)), (1, .int (nI k)), (2, .int (nI i)), (3, .int p2)] := hl
  obtain ⟨⟨hP, hK⟩, hX⟩ := hpre
  refine lv_aload_n hx hb dL_die_0 rfl (lv_at hl 0 rfl) ?_
  refine lv_iload_n hx hb dL_die_1 rfl (lv_at hl 1 rfl) ?_
  refine lv_iload_n hx hb dL_die_2 rfl (lv_at hl 2 rfl) ?_
  refine lv_iload_n hx hb dL_die_3 rfl (lv_at hl 3 rfl) ?_
  refine j_try (As := [.int (nI k), .int (nI i), .int p2]) (rest := []) (E := eA) (name := "java/lang/IllegalArgumentException") ⟨hx, hb, hml, hown, hts⟩ (x2b_X1_die l dC dI cI cJ cZ cO ax ao n mo iv aa an kp py k i p2 hst hv hm hk hao hi h) (cwV 3 hts gL_die_X1_die rfl rfl rfl (by decide +kernel) ⟨Nat.le_of_ble_eq_true rfl, Nat.le_of_ble_eq_true rfl⟩) (jRX_V hX hK hP [0, 1, 2, 3, 4, 5, 6, 7] rfl (ci := 1) (q0 := 0) rfl rfl rfl) rfl hl rfl (Nat.le_of_ble_eq_true rfl) dL_die_4 ⟨Nat.le_of_ble_eq_true rfl, Nat.le_of_ble_eq_true rfl⟩ [⟨0, 7, 10, 21⟩] ⟨0, 7, 14, 13⟩ [⟨0, 7, 18, 15⟩] (htab.trans rfl) (List.forall_mem_cons.mpr ⟨Or.inr ⟨by decide, _, (hts (.classLink RL 21 "java/lang/IndexOutOfBoundsException") (List.mem_of_getElem? (i := 1) rfl)), hX.2.2.2.2.2 eA (by simp) eO (by simp) (by decide)⟩, List.forall_mem_nil _⟩) (by decide +kernel) (by decide) (hts (.classLink RL 13 "java/lang/IllegalArgumentException") (List.mem_of_getElem? (i := 2) rfl)) (va_Nw.use rfl (hX.2.2.2.1 eA (by simp))) (fun q9 H hz9 hk9 => ?_)
  refine lv_astore (lv' := [(4, .ref q9), (0, .ref (ax 0)), (1, .int (nI k)), (2, .int (nI i)), (3, .int p2)]) hx hb dL_die_14 hl (by decide) rfl (fun ls hl => ?_)
  refine lv_iconst (v := nI 2) hx hb dL_die_16 (by decide) ?_
  refine W.widen (k := 1) (n := 6) (by decide) (by decide) ?_
  exact W.iret (v := nI 2) hx hb hr (fun t ht hW => ⟨⟨_, (), rfl, rfl, trivial⟩, by rw [ht]; exact hz9, fun q h1 _ => by rw [ht]; exact hk9 q h1⟩) (fun _ h => by cases h) dL_die_17
set_option maxHeartbeats 4000000 in
set_option maxRecDepth 100000 in
/-- the law calls takeBack: refused -/
theorem x2_L_takeBack (l : Launch) (dC : Nat → ClassId) (dI : Nat → Nat → Nat) (cI cJ cZ cO : ClassId) (ax : Nat → Nat) (ao : Nat → Option Nat) (n mo : Nat) (iv : Nat → Int32) (aa an : Nat → Nat) (kp : Int64) (py : Nat → Int64) (k : Nat) (p1 : Int32) (hst : l.stackTraces = false) (hv : jV an) (hm : mo ≤ 240) (hk : k < 20) (hao : ao k = some (aa 0)) (h : p1 < nI 0 ∨ nI 1 < p1) (oa : Nat)  : Met l yL_takeBack wsL_takeBack ({ frames := 8, cells := 1, slots := 6, locals := 128 }) (va_Pc [.ref (ax 0), .int (nI k), .int p1, .ref oa] (jRX (dC, dI) (jTY cI cJ cZ cO) (jFW cI cJ cO ax ao n mo iv aa an kp py))) (va_Qi (fun r (_ : Unit) => r = nI 2) (fun _ _ => True) (fun _ => False)) 1 6 (fun _ => False) := by
  refine j_ofh (cc := cL_takeBack) (maxL := 5) (ret := (some .int)) (by decide) rfl (Nat.le_of_ble_eq_true rfl) ?_
  intro p e s m below meth c ls hx hb hr hml hts hown hlocks htab hl hpre
  have hown : s.vm.findClass RL = some m.cls := hown
  have hl : lv_has ls 5 [(0, .ref (ax 0)), (1, .int (nI k)), (2, .int p1), (3, .ref oa)] := hl
  obtain ⟨⟨hP, hK⟩, hX⟩ := hpre
  refine lv_aload_n hx hb dL_takeBack_0 rfl (lv_at hl 3 rfl) ?_
  refine lv_iconst (v := nI 0) hx hb dL_takeBack_1 (by decide) ?_
  refine lv_aload_n hx hb dL_takeBack_2 rfl (lv_at hl 0 rfl) ?_
  refine lv_iload_n hx hb dL_takeBack_3 rfl (lv_at hl 1 rfl) ?_
  refine lv_iload_n hx hb dL_takeBack_4 rfl (lv_at hl 2 rfl) ?_
  refine j_try (As := [.int (nI k), .int p1]) (rest := [.int (nI 0), .ref oa]) (E := eA) (name := "java/lang/IllegalArgumentException") ⟨hx, hb, hml, hown, hts⟩ (x2_X1_takeBack l dC dI cI cJ cZ cO ax ao n mo iv aa an kp py k p1 hst hv hm hk hao h) (cwV 2 hts gL_takeBack_X1_takeBack rfl rfl rfl (by decide +kernel) ⟨Nat.le_of_ble_eq_true rfl, Nat.le_of_ble_eq_true rfl⟩) (jRX_V hX hK hP [0, 1, 2, 3, 4, 5, 6, 7] rfl (ci := 1) (q0 := 0) rfl rfl rfl) rfl hl rfl (Nat.le_of_ble_eq_true rfl) dL_takeBack_5 ⟨Nat.le_of_ble_eq_true rfl, Nat.le_of_ble_eq_true rfl⟩ [⟨0, 10, 13, 21⟩] ⟨0, 10, 17, 13⟩ [⟨0, 10, 21, 15⟩] (htab.trans rfl) (List.forall_mem_cons.mpr ⟨Or.inr ⟨by decide, _, (hts (.classLink RL 21 "java/lang/IndexOutOfBoundsException") (List.mem_of_getElem? (i := 1) rfl)), hX.2.2.2.2.2 eA (by simp) eO (by simp) (by decide)⟩, List.forall_mem_nil _⟩) (by decide +kernel) (by decide) (hts (.classLink RL 13 "java/lang/IllegalArgumentException") (List.mem_of_getElem? (i := 2) rfl)) (va_Nw.use rfl (hX.2.2.2.1 eA (by simp))) (fun q9 H hz9 hk9 => ?_)
  refine lv_astore (lv' := [(4, .ref q9), (0, .ref (ax 0)), (1, .int (nI k)), (2, .int p1), (3, .ref oa)]) hx hb dL_takeBack_17 hl (by decide) rfl (fun ls hl => ?_)
  refine lv_iconst (v := nI 2) hx hb dL_takeBack_19 (by decide) ?_
  refine W.widen (k := 1) (n := 6) (by decide) (by decide) ?_
  exact W.iret (v := nI 2) hx hb hr (fun t ht hW => ⟨⟨_, (), rfl, rfl, trivial⟩, by rw [ht]; exact hz9, fun q h1 _ => by rw [ht]; exact hk9 q h1⟩) (fun _ h => by cases h) dL_takeBack_20
set_option maxHeartbeats 4000000 in
set_option maxRecDepth 100000 in
/-- the law calls giveBack: refused -/
theorem x2_L_giveBack (l : Launch) (dC : Nat → ClassId) (dI : Nat → Nat → Nat) (cI cJ cZ cO : ClassId) (ax : Nat → Nat) (ao : Nat → Option Nat) (n mo : Nat) (iv : Nat → Int32) (aa an : Nat → Nat) (kp : Int64) (py : Nat → Int64) (k : Nat) (p1 : Int32) (hst : l.stackTraces = false) (hv : jV an) (hm : mo ≤ 240) (hk : k < 20) (hao : ao k = some (aa 0)) (h : p1 < nI 1 ∨ nI 100000000 < p1) (oa : Nat)  : Met l yL_giveBack wsL_giveBack ({ frames := 8, cells := 1, slots := 6, locals := 129 }) (va_Pc [.ref (ax 0), .int (nI k), .int p1, .ref oa] (jRX (dC, dI) (jTY cI cJ cZ cO) (jFW cI cJ cO ax ao n mo iv aa an kp py))) (va_Qi (fun r (_ : Unit) => r = nI 2) (fun _ _ => True) (fun _ => False)) 1 6 (fun _ => False) := by
  refine j_ofh (cc := cL_giveBack) (maxL := 5) (ret := (some .int)) (by decide) rfl (Nat.le_of_ble_eq_true rfl) ?_
  intro p e s m below meth c ls hx hb hr hml hts hown hlocks htab hl hpre
  have hown : s.vm.findClass RL = some m.cls := hown
  have hl : lv_has ls 5 [(0, .ref (ax 0)), (1, .int (nI k)), (2, .int p1), (3, .ref oa)] := hl
  obtain ⟨⟨hP, hK⟩, hX⟩ := hpre
  refine lv_aload_n hx hb dL_giveBack_0 rfl (lv_at hl 3 rfl) ?_
  refine lv_iconst (v := nI 0) hx hb dL_giveBack_1 (by decide) ?_
  refine lv_aload_n hx hb dL_giveBack_2 rfl (lv_at hl 0 rfl) ?_
  refine lv_iload_n hx hb dL_giveBack_3 rfl (lv_at hl 1 rfl) ?_
  refine lv_iload_n hx hb dL_giveBack_4 rfl (lv_at hl 2 rfl) ?_
  refine j_try (As := [.int (nI k), .int p1]) (rest := [.int (nI 0), .ref oa]) (E := eA) (name := "java/lang/IllegalArgumentException") ⟨hx, hb, hml, hown, hts⟩ (x2_X1_giveBack l dC dI cI cJ cZ cO ax ao n mo iv aa an kp py k p1 hst hv hm hk hao h) (cwV 2 hts gL_giveBack_X1_giveBack rfl rfl rfl (by decide +kernel) ⟨Nat.le_of_ble_eq_true rfl, Nat.le_of_ble_eq_true rfl⟩) (jRX_V hX hK hP [0, 1, 2, 3, 4, 5, 6, 7] rfl (ci := 1) (q0 := 0) rfl rfl rfl) rfl hl rfl (Nat.le_of_ble_eq_true rfl) dL_giveBack_5 ⟨Nat.le_of_ble_eq_true rfl, Nat.le_of_ble_eq_true rfl⟩ [⟨0, 9, 12, 21⟩] ⟨0, 9, 16, 13⟩ [⟨0, 9, 20, 15⟩] (htab.trans rfl) (List.forall_mem_cons.mpr ⟨Or.inr ⟨by decide, _, (hts (.classLink RL 21 "java/lang/IndexOutOfBoundsException") (List.mem_of_getElem? (i := 1) rfl)), hX.2.2.2.2.2 eA (by simp) eO (by simp) (by decide)⟩, List.forall_mem_nil _⟩) (by decide +kernel) (by decide) (hts (.classLink RL 13 "java/lang/IllegalArgumentException") (List.mem_of_getElem? (i := 2) rfl)) (va_Nw.use rfl (hX.2.2.2.1 eA (by simp))) (fun q9 H hz9 hk9 => ?_)
  refine lv_astore (lv' := [(4, .ref q9), (0, .ref (ax 0)), (1, .int (nI k)), (2, .int p1), (3, .ref oa)]) hx hb dL_giveBack_16 hl (by decide) rfl (fun ls hl => ?_)
  refine lv_iconst (v := nI 2) hx hb dL_giveBack_18 (by decide) ?_
  refine W.widen (k := 1) (n := 6) (by decide) (by decide) ?_
  exact W.iret (v := nI 2) hx hb hr (fun t ht hW => ⟨⟨_, (), rfl, rfl, trivial⟩, by rw [ht]; exact hz9, fun q h1 _ => by rw [ht]; exact hk9 q h1⟩) (fun _ h => by cases h) dL_giveBack_19
set_option maxHeartbeats 4000000 in
set_option maxRecDepth 100000 in
/-- the law calls paid: refused -/
theorem x2_L_paid (l : Launch) (dC : Nat → ClassId) (dI : Nat → Nat → Nat) (cI cJ cZ cO : ClassId) (ax : Nat → Nat) (ao : Nat → Option Nat) (n mo : Nat) (iv : Nat → Int32) (aa an : Nat → Nat) (kp : Int64) (py : Nat → Int64) (k : Nat) (p1 : Int32) (hst : l.stackTraces = false) (hv : jV an) (hm : mo ≤ 240) (hk : k < 20) (hao : ao k = some (aa 0)) (h : p1 < nI 0 ∨ nI mo - nI 1 < p1) (oa : Nat)  : Met l yL_paid wsL_paid ({ frames := 8, cells := 1, slots := 6, locals := 127 }) (va_Pc [.ref (ax 0), .int (nI k), .int p1, .ref oa] (jRX (dC, dI) (jTY cI cJ cZ cO) (jFW cI cJ cO ax ao n mo iv aa an kp py))) (va_Qi (fun r (_ : Unit) => r = nI 2) (fun _ _ => True) (fun _ => False)) 1 6 (fun _ => False) := by
  refine j_ofh (cc := cL_paid) (maxL := 5) (ret := (some .int)) (by decide) rfl (Nat.le_of_ble_eq_true rfl) ?_
  intro p e s m below meth c ls hx hb hr hml hts hown hlocks htab hl hpre
  have hown : s.vm.findClass RL = some m.cls := hown
  have hl : lv_has ls 5 [(0, .ref (ax 0)), (1, .int (nI k)), (2, .int p1), (3, .ref oa)] := hl
  obtain ⟨⟨hP, hK⟩, hX⟩ := hpre
  refine lv_aload_n hx hb dL_paid_0 rfl (lv_at hl 3 rfl) ?_
  refine lv_iconst (v := nI 0) hx hb dL_paid_1 (by decide) ?_
  refine lv_aload_n hx hb dL_paid_2 rfl (lv_at hl 0 rfl) ?_
  refine lv_iload_n hx hb dL_paid_3 rfl (lv_at hl 1 rfl) ?_
  refine lv_iload_n hx hb dL_paid_4 rfl (lv_at hl 2 rfl) ?_
  refine j_try (As := [.int (nI k), .int p1]) (rest := [.int (nI 0), .ref oa]) (E := eA) (name := "java/lang/IllegalArgumentException") ⟨hx, hb, hml, hown, hts⟩ (x2_X1_paid l dC dI cI cJ cZ cO ax ao n mo iv aa an kp py k p1 hst hv hm hk hao h) (cwV 2 hts gL_paid_X1_paid rfl rfl rfl (by decide +kernel) ⟨Nat.le_of_ble_eq_true rfl, Nat.le_of_ble_eq_true rfl⟩) (jRX_V hX hK hP [0, 1, 2, 3, 4, 5, 6, 7] rfl (ci := 1) (q0 := 0) rfl rfl rfl) rfl hl rfl (Nat.le_of_ble_eq_true rfl) dL_paid_5 ⟨Nat.le_of_ble_eq_true rfl, Nat.le_of_ble_eq_true rfl⟩ [⟨0, 9, 12, 21⟩] ⟨0, 9, 16, 13⟩ [] (htab.trans rfl) (List.forall_mem_cons.mpr ⟨Or.inr ⟨by decide, _, (hts (.classLink RL 21 "java/lang/IndexOutOfBoundsException") (List.mem_of_getElem? (i := 1) rfl)), hX.2.2.2.2.2 eA (by simp) eO (by simp) (by decide)⟩, List.forall_mem_nil _⟩) (by decide +kernel) (by decide) (hts (.classLink RL 13 "java/lang/IllegalArgumentException") (List.mem_of_getElem? (i := 2) rfl)) (va_Nw.use rfl (hX.2.2.2.1 eA (by simp))) (fun q9 H hz9 hk9 => ?_)
  refine lv_astore (lv' := [(4, .ref q9), (0, .ref (ax 0)), (1, .int (nI k)), (2, .int p1), (3, .ref oa)]) hx hb dL_paid_16 hl (by decide) rfl (fun ls hl => ?_)
  refine lv_iconst (v := nI 2) hx hb dL_paid_18 (by decide) ?_
  refine W.widen (k := 1) (n := 6) (by decide) (by decide) ?_
  exact W.iret (v := nI 2) hx hb hr (fun t ht hW => ⟨⟨_, (), rfl, rfl, trivial⟩, by rw [ht]; exact hz9, fun q h1 _ => by rw [ht]; exact hk9 q h1⟩) (fun _ h => by cases h) dL_paid_19
set_option maxHeartbeats 4000000 in
set_option maxRecDepth 100000 in
/-- the law calls fullAmount: refused -/
theorem x2_L_fullAmount (l : Launch) (dC : Nat → ClassId) (dI : Nat → Nat → Nat) (cI cJ cZ cO : ClassId) (ax : Nat → Nat) (ao : Nat → Option Nat) (n mo : Nat) (iv : Nat → Int32) (aa an : Nat → Nat) (kp : Int64) (py : Nat → Int64) (k : Nat) (p1 : Int32) (hst : l.stackTraces = false) (hv : jV an) (hm : mo ≤ 240) (hk : k < 20) (hao : ao k = some (aa 0)) (h : p1 < nI 0 ∨ nI 239 < p1) (oa : Nat)  : Met l yL_fullAmount wsL_fullAmount ({ frames := 9, cells := 1, slots := 6, locals := 147 }) (va_Pc [.ref (ax 0), .int (nI k), .int p1, .ref oa] (jRX (dC, dI) (jTY cI cJ cZ cO) (jFW cI cJ cO ax ao n mo iv aa an kp py))) (va_Qi (fun r (_ : Unit) => r = nI 2) (fun _ _ => True) (fun _ => False)) 1 6 (fun _ => False) := by
  refine j_ofh (cc := cL_fullAmount) (maxL := 5) (ret := (some .int)) (by decide) rfl (Nat.le_of_ble_eq_true rfl) ?_
  intro p e s m below meth c ls hx hb hr hml hts hown hlocks htab hl hpre
  have hown : s.vm.findClass RL = some m.cls := hown
  have hl : lv_has ls 5 [(0, .ref (ax 0)), (1, .int (nI k)), (2, .int p1), (3, .ref oa)] := hl
  obtain ⟨⟨hP, hK⟩, hX⟩ := hpre
  refine lv_aload_n hx hb dL_fullAmount_0 rfl (lv_at hl 3 rfl) ?_
  refine lv_iconst (v := nI 0) hx hb dL_fullAmount_1 (by decide) ?_
  refine lv_aload_n hx hb dL_fullAmount_2 rfl (lv_at hl 0 rfl) ?_
  refine lv_iload_n hx hb dL_fullAmount_3 rfl (lv_at hl 1 rfl) ?_
  refine lv_iload_n hx hb dL_fullAmount_4 rfl (lv_at hl 2 rfl) ?_
  refine j_try (As := [.int (nI k), .int p1]) (rest := [.int (nI 0), .ref oa]) (E := eA) (name := "java/lang/IllegalArgumentException") ⟨hx, hb, hml, hown, hts⟩ (x2_X1_fullAmount l dC dI cI cJ cZ cO ax ao n mo iv aa an kp py k p1 hst hv hm hk hao h) (cwV 2 hts gL_fullAmount_X1_fullAmount rfl rfl rfl (by decide +kernel) ⟨Nat.le_of_ble_eq_true rfl, Nat.le_of_ble_eq_true rfl⟩) (jRX_V hX hK hP [0, 1, 2, 3, 4, 5, 6, 7] rfl (ci := 1) (q0 := 0) rfl rfl rfl) rfl hl rfl (Nat.le_of_ble_eq_true rfl) dL_fullAmount_5 ⟨Nat.le_of_ble_eq_true rfl, Nat.le_of_ble_eq_true rfl⟩ [⟨0, 10, 13, 21⟩] ⟨0, 10, 17, 13⟩ [] (htab.trans rfl) (List.forall_mem_cons.mpr ⟨Or.inr ⟨by decide, _, (hts (.classLink RL 21 "java/lang/IndexOutOfBoundsException") (List.mem_of_getElem? (i := 1) rfl)), hX.2.2.2.2.2 eA (by simp) eO (by simp) (by decide)⟩, List.forall_mem_nil _⟩) (by decide +kernel) (by decide) (hts (.classLink RL 13 "java/lang/IllegalArgumentException") (List.mem_of_getElem? (i := 2) rfl)) (va_Nw.use rfl (hX.2.2.2.1 eA (by simp))) (fun q9 H hz9 hk9 => ?_)
  refine lv_astore (lv' := [(4, .ref q9), (0, .ref (ax 0)), (1, .int (nI k)), (2, .int p1), (3, .ref oa)]) hx hb dL_fullAmount_17 hl (by decide) rfl (fun ls hl => ?_)
  refine lv_iconst (v := nI 2) hx hb dL_fullAmount_19 (by decide) ?_
  refine W.widen (k := 1) (n := 6) (by decide) (by decide) ?_
  exact W.iret (v := nI 2) hx hb hr (fun t ht hW => ⟨⟨_, (), rfl, rfl, trivial⟩, by rw [ht]; exact hz9, fun q h1 _ => by rw [ht]; exact hk9 q h1⟩) (fun _ h => by cases h) dL_fullAmount_20
set_option maxHeartbeats 4000000 in
set_option maxRecDepth 100000 in
/-- the law calls carry: refused -/
theorem x2_L_carry (l : Launch) (dC : Nat → ClassId) (dI : Nat → Nat → Nat) (cI cJ cZ cO : ClassId) (ax : Nat → Nat) (ao : Nat → Option Nat) (n mo : Nat) (iv : Nat → Int32) (aa an : Nat → Nat) (kp : Int64) (py : Nat → Int64) (k : Nat) (p1 : Int32) (hst : l.stackTraces = false) (hv : jV an) (hm : mo ≤ 240) (hk : k < 20) (hao : ao k = some (aa 0)) (h : p1 < nI 0 ∨ nI 239 < p1) (oa : Nat)  : Met l yL_carry wsL_carry ({ frames := 9, cells := 1, slots := 6, locals := 147 }) (va_Pc [.ref (ax 0), .int (nI k), .int p1, .ref oa] (jRX (dC, dI) (jTY cI cJ cZ cO) (jFW cI cJ cO ax ao n mo iv aa an kp py))) (va_Qi (fun r (_ : Unit) => r = nI 2) (fun _ _ => True) (fun _ => False)) 1 6 (fun _ => False) := by
  refine j_ofh (cc := cL_carry) (maxL := 5) (ret := (some .int)) (by decide) rfl (Nat.le_of_ble_eq_true rfl) ?_
  intro p e s m below meth c ls hx hb hr hml hts hown hlocks htab hl hpre
  have hown : s.vm.findClass RL = some m.cls := hown
  have hl : lv_has ls 5 [(0, .ref (ax 0)), (1, .int (nI k)), (2, .int p1), (3, .ref oa)] := hl
  obtain ⟨⟨hP, hK⟩, hX⟩ := hpre
  refine lv_aload_n hx hb dL_carry_0 rfl (lv_at hl 3 rfl) ?_
  refine lv_iconst (v := nI 0) hx hb dL_carry_1 (by decide) ?_
  refine lv_aload_n hx hb dL_carry_2 rfl (lv_at hl 0 rfl) ?_
  refine lv_iload_n hx hb dL_carry_3 rfl (lv_at hl 1 rfl) ?_
  refine lv_iload_n hx hb dL_carry_4 rfl (lv_at hl 2 rfl) ?_
  refine j_try (As := [.int (nI k), .int p1]) (rest := [.int (nI 0), .ref oa]) (E := eA) (name := "java/lang/IllegalArgumentException") ⟨hx, hb, hml, hown, hts⟩ (x2_X1_carry l dC dI cI cJ cZ cO ax ao n mo iv aa an kp py k p1 hst hv hm hk hao h) (cwV 2 hts gL_carry_X1_carry rfl rfl rfl (by decide +kernel) ⟨Nat.le_of_ble_eq_true rfl, Nat.le_of_ble_eq_true rfl⟩) (jRX_V hX hK hP [0, 1, 2, 3, 4, 5, 6, 7] rfl (ci := 1) (q0 := 0) rfl rfl rfl) rfl hl rfl (Nat.le_of_ble_eq_true rfl) dL_carry_5 ⟨Nat.le_of_ble_eq_true rfl, Nat.le_of_ble_eq_true rfl⟩ [⟨0, 10, 13, 21⟩] ⟨0, 10, 17, 13⟩ [] (htab.trans rfl) (List.forall_mem_cons.mpr ⟨Or.inr ⟨by decide, _, (hts (.classLink RL 21 "java/lang/IndexOutOfBoundsException") (List.mem_of_getElem? (i := 1) rfl)), hX.2.2.2.2.2 eA (by simp) eO (by simp) (by decide)⟩, List.forall_mem_nil _⟩) (by decide +kernel) (by decide) (hts (.classLink RL 13 "java/lang/IllegalArgumentException") (List.mem_of_getElem? (i := 2) rfl)) (va_Nw.use rfl (hX.2.2.2.1 eA (by simp))) (fun q9 H hz9 hk9 => ?_)
  refine lv_astore (lv' := [(4, .ref q9), (0, .ref (ax 0)), (1, .int (nI k)), (2, .int p1), (3, .ref oa)]) hx hb dL_carry_17 hl (by decide) rfl (fun ls hl => ?_)
  refine lv_iconst (v := nI 2) hx hb dL_carry_19 (by decide) ?_
  refine W.widen (k := 1) (n := 6) (by decide) (by decide) ?_
  exact W.iret (v := nI 2) hx hb hr (fun t ht hW => ⟨⟨_, (), rfl, rfl, trivial⟩, by rw [ht]; exact hz9, fun q h1 _ => by rw [ht]; exact hk9 q h1⟩) (fun _ h => by cases h) dL_carry_20
set_option maxHeartbeats 4000000 in
set_option maxRecDepth 100000 in
/-- the law calls entitled: refused -/
theorem x2_L_entitled (l : Launch) (dC : Nat → ClassId) (dI : Nat → Nat → Nat) (cI cJ cZ cO : ClassId) (ax : Nat → Nat) (ao : Nat → Option Nat) (n mo : Nat) (iv : Nat → Int32) (aa an : Nat → Nat) (kp : Int64) (py : Nat → Int64) (k : Nat) (p1 : Int32) (hst : l.stackTraces = false) (hv : jV an) (hm : mo ≤ 240) (hk : k < 20) (hao : ao k = some (aa 0)) (h : p1 < nI 0 ∨ nI 239 < p1) (oa : Nat)  : Met l yL_entitled wsL_entitled ({ frames := 9, cells := 1, slots := 6, locals := 147 }) (va_Pc [.ref (ax 0), .int (nI k), .int p1, .ref oa] (jRX (dC, dI) (jTY cI cJ cZ cO) (jFW cI cJ cO ax ao n mo iv aa an kp py))) (va_Qi (fun r (_ : Unit) => r = nI 2) (fun _ _ => True) (fun _ => False)) 1 6 (fun _ => False) := by
  refine j_ofh (cc := cL_entitled) (maxL := 5) (ret := (some .int)) (by decide) rfl (Nat.le_of_ble_eq_true rfl) ?_
  intro p e s m below meth c ls hx hb hr hml hts hown hlocks htab hl hpre
  have hown : s.vm.findClass RL = some m.cls := hown
  have hl : lv_has ls 5 [(0, .ref (ax 0)), (1, .int (nI k)), (2, .int p1), (3, .ref oa)] := hl
  obtain ⟨⟨hP, hK⟩, hX⟩ := hpre
  refine lv_aload_n hx hb dL_entitled_0 rfl (lv_at hl 3 rfl) ?_
  refine lv_iconst (v := nI 0) hx hb dL_entitled_1 (by decide) ?_
  refine lv_aload_n hx hb dL_entitled_2 rfl (lv_at hl 0 rfl) ?_
  refine lv_iload_n hx hb dL_entitled_3 rfl (lv_at hl 1 rfl) ?_
  refine lv_iload_n hx hb dL_entitled_4 rfl (lv_at hl 2 rfl) ?_
  refine j_try (As := [.int (nI k), .int p1]) (rest := [.int (nI 0), .ref oa]) (E := eA) (name := "java/lang/IllegalArgumentException") ⟨hx, hb, hml, hown, hts⟩ (x2_X1_entitled l dC dI cI cJ cZ cO ax ao n mo iv aa an kp py k p1 hst hv hm hk hao h) (cwV 2 hts gL_entitled_X1_entitled rfl rfl rfl (by decide +kernel) ⟨Nat.le_of_ble_eq_true rfl, Nat.le_of_ble_eq_true rfl⟩) (jRX_V hX hK hP [0, 1, 2, 3, 4, 5, 6, 7] rfl (ci := 1) (q0 := 0) rfl rfl rfl) rfl hl rfl (Nat.le_of_ble_eq_true rfl) dL_entitled_5 ⟨Nat.le_of_ble_eq_true rfl, Nat.le_of_ble_eq_true rfl⟩ [⟨0, 9, 12, 21⟩] ⟨0, 9, 16, 13⟩ [] (htab.trans rfl) (List.forall_mem_cons.mpr ⟨Or.inr ⟨by decide, _, (hts (.classLink RL 21 "java/lang/IndexOutOfBoundsException") (List.mem_of_getElem? (i := 1) rfl)), hX.2.2.2.2.2 eA (by simp) eO (by simp) (by decide)⟩, List.forall_mem_nil _⟩) (by decide +kernel) (by decide) (hts (.classLink RL 13 "java/lang/IllegalArgumentException") (List.mem_of_getElem? (i := 2) rfl)) (va_Nw.use rfl (hX.2.2.2.1 eA (by simp))) (fun q9 H hz9 hk9 => ?_)
  refine lv_astore (lv' := [(4, .ref q9), (0, .ref (ax 0)), (1, .int (nI k)), (2, .int p1), (3, .ref oa)]) hx hb dL_entitled_16 hl (by decide) rfl (fun ls hl => ?_)
  refine lv_iconst (v := nI 2) hx hb dL_entitled_18 (by decide) ?_
  refine W.widen (k := 1) (n := 6) (by decide) (by decide) ?_
  exact W.iret (v := nI 2) hx hb hr (fun t ht hW => ⟨⟨_, (), rfl, rfl, trivial⟩, by rw [ht]; exact hz9, fun q h1 _ => by rw [ht]; exact hk9 q h1⟩) (fun _ h => by cases h) dL_entitled_19
set_option maxHeartbeats 4000000 in
set_option maxRecDepth 100000 in
/-- the law calls entitledUpTo: refused -/
theorem x2_L_entitledUpTo (l : Launch) (dC : Nat → ClassId) (dI : Nat → Nat → Nat) (cI cJ cZ cO : ClassId) (ax : Nat → Nat) (ao : Nat → Option Nat) (n mo : Nat) (iv : Nat → Int32) (aa an : Nat → Nat) (kp : Int64) (py : Nat → Int64) (k : Nat) (p1 : Int32) (hst : l.stackTraces = false) (hv : jV an) (hm : mo ≤ 240) (hk : k < 20) (hao : ao k = some (aa 0)) (h : p1 < nI 0 ∨ nI 239 < p1) (oa : Nat)  : Met l yL_entitledUpTo wsL_entitledUpTo ({ frames := 9, cells := 1, slots := 6, locals := 147 }) (va_Pc [.ref (ax 0), .int (nI k), .int p1, .ref oa] (jRX (dC, dI) (jTY cI cJ cZ cO) (jFW cI cJ cO ax ao n mo iv aa an kp py))) (va_Qi (fun r (_ : Unit) => r = nI 2) (fun _ _ => True) (fun _ => False)) 1 6 (fun _ => False) := by
  refine j_ofh (cc := cL_entitledUpTo) (maxL := 5) (ret := (some .int)) (by decide) rfl (Nat.le_of_ble_eq_true rfl) ?_
  intro p e s m below meth c ls hx hb hr hml hts hown hlocks htab hl hpre
  have hown : s.vm.findClass RL = some m.cls := hown
  have hl : lv_has ls 5 [(0, .ref (ax 0)), (1, .int (nI k)), (2, .int p1), (3, .ref oa)] := hl
  obtain ⟨⟨hP, hK⟩, hX⟩ := hpre
  refine lv_aload_n hx hb dL_entitledUpTo_0 rfl (lv_at hl 3 rfl) ?_
  refine lv_iconst (v := nI 0) hx hb dL_entitledUpTo_1 (by decide) ?_
  refine lv_aload_n hx hb dL_entitledUpTo_2 rfl (lv_at hl 0 rfl) ?_
  refine lv_iload_n hx hb dL_entitledUpTo_3 rfl (lv_at hl 1 rfl) ?_
  refine lv_iload_n hx hb dL_entitledUpTo_4 rfl (lv_at hl 2 rfl) ?_
  refine j_try (As := [.int (nI k), .int p1]) (rest := [.int (nI 0), .ref oa]) (E := eA) (name := "java/lang/IllegalArgumentException") ⟨hx, hb, hml, hown, hts⟩ (x2_X1_entitledUpTo l dC dI cI cJ cZ cO ax ao n mo iv aa an kp py k p1 hst hv hm hk hao h) (cwV 2 hts gL_entitledUpTo_X1_entitledUpTo rfl rfl rfl (by decide +kernel) ⟨Nat.le_of_ble_eq_true rfl, Nat.le_of_ble_eq_true rfl⟩) (jRX_V hX hK hP [0, 1, 2, 3, 4, 5, 6, 7] rfl (ci := 1) (q0 := 0) rfl rfl rfl) rfl hl rfl (Nat.le_of_ble_eq_true rfl) dL_entitledUpTo_5 ⟨Nat.le_of_ble_eq_true rfl, Nat.le_of_ble_eq_true rfl⟩ [⟨0, 9, 12, 21⟩] ⟨0, 9, 16, 13⟩ [] (htab.trans rfl) (List.forall_mem_cons.mpr ⟨Or.inr ⟨by decide, _, (hts (.classLink RL 21 "java/lang/IndexOutOfBoundsException") (List.mem_of_getElem? (i := 1) rfl)), hX.2.2.2.2.2 eA (by simp) eO (by simp) (by decide)⟩, List.forall_mem_nil _⟩) (by decide +kernel) (by decide) (hts (.classLink RL 13 "java/lang/IllegalArgumentException") (List.mem_of_getElem? (i := 2) rfl)) (va_Nw.use rfl (hX.2.2.2.1 eA (by simp))) (fun q9 H hz9 hk9 => ?_)
  refine lv_astore (lv' := [(4, .ref q9), (0, .ref (ax 0)), (1, .int (nI k)), (2, .int p1), (3, .ref oa)]) hx hb dL_entitledUpTo_16 hl (by decide) rfl (fun ls hl => ?_)
  refine lv_iconst (v := nI 2) hx hb dL_entitledUpTo_18 (by decide) ?_
  refine W.widen (k := 1) (n := 6) (by decide) (by decide) ?_
  exact W.iret (v := nI 2) hx hb hr (fun t ht hW => ⟨⟨_, (), rfl, rfl, trivial⟩, by rw [ht]; exact hz9, fun q h1 _ => by rw [ht]; exact hk9 q h1⟩) (fun _ h => by cases h) dL_entitledUpTo_19
set_option maxHeartbeats 4000000 in
set_option maxRecDepth 100000 in
/-- the law calls setSurvivor: refused -/
theorem x3_L_setSurvivor (l : Launch) (dC : Nat → ClassId) (dI : Nat → Nat → Nat) (cI cJ cZ cO : ClassId) (ax : Nat → Nat) (ao : Nat → Option Nat) (n mo : Nat) (iv : Nat → Int32) (aa an : Nat → Nat) (kp : Int64) (py : Nat → Int64) (k : Nat) (v : Nat) (p2 : Int32) (hst : l.stackTraces = false) (hv : jV an) (hm : mo ≤ 240) (hk : k < 20) (hao : ao k = some (aa 0)) (h1 : v ≤ 100) (hs : an 0 < mo)  : Met l yL_setSurvivor wsL_setSurvivor ({ frames := 8, cells := 1, slots := 6, locals := 127 }) (va_Pc [.ref (ax 0), .int (nI k), .int (nI v), .int p2] (jRX (dC, dI) (jTY cI cJ cZ cO) (jFW cI cJ cO ax ao n mo iv aa an kp py))) (va_Qi (fun r (_ : Unit) => r = nI 3) (fun _ _ => True) (fun _ => False)) 1 6 (fun _ => False) := by
  refine j_ofh (cc := cL_setSurvivor) (maxL := 5) (ret := (some .int)) (by decide) rfl (Nat.le_of_ble_eq_true rfl) ?_
  intro p e s m below meth c ls hx hb hr hml hts hown hlocks htab hl hpre
  have hown : s.vm.findClass RL = some m.cls := hown
  have hl : lv_has ls 5 [(0, .ref (ax 0)), (1, .int (nI k)), (2, .int (nI v)), (3, .int p2)] := hl
  obtain ⟨⟨hP, hK⟩, hX⟩ := hpre
  refine lv_aload_n hx hb dL_setSurvivor_0 rfl (lv_at hl 0 rfl) ?_
  refine lv_iload_n hx hb dL_setSurvivor_1 rfl (lv_at hl 1 rfl) ?_
  refine lv_iload_n hx hb dL_setSurvivor_2 rfl (lv_at hl 2 rfl) ?_
  refine lv_iload_n hx hb dL_setSurvivor_3 rfl (lv_at hl 3 rfl) ?_
  refine j_try (As := [.int (nI k), .int (nI v), .int p2]) (rest := []) (E := eS) (name := "java/lang/IllegalStateException") ⟨hx, hb, hml, hown, hts⟩ (x3_X1_setSurvivor l dC dI cI cJ cZ cO ax ao n mo iv aa an kp py k v p2 hst hv hm hk hao h1 hs) (cwV 3 hts gL_setSurvivor_X1_setSurvivor rfl rfl rfl (by decide +kernel) ⟨Nat.le_of_ble_eq_true rfl, Nat.le_of_ble_eq_true rfl⟩) (jRX_V hX hK hP [0, 1, 2, 3, 4, 5, 6, 7] rfl (ci := 1) (q0 := 0) rfl rfl rfl) rfl hl rfl (Nat.le_of_ble_eq_true rfl) dL_setSurvivor_4 ⟨Nat.le_of_ble_eq_true rfl, Nat.le_of_ble_eq_true rfl⟩ [⟨0, 7, 10, 21⟩, ⟨0, 7, 14, 13⟩] ⟨0, 7, 18, 15⟩ [] (htab.trans rfl) (List.forall_mem_cons.mpr ⟨Or.inr ⟨by decide, _, (hts (.classLink RL 21 "java/lang/IndexOutOfBoundsException") (List.mem_of_getElem? (i := 1) rfl)), hX.2.2.2.2.2 eS (by simp) eO (by simp) (by decide)⟩, List.forall_mem_cons.mpr ⟨Or.inr ⟨by decide, _, (hts (.classLink RL 13 "java/lang/IllegalArgumentException") (List.mem_of_getElem? (i := 2) rfl)), hX.2.2.2.2.2 eS (by simp) eA (by simp) (by decide)⟩, List.forall_mem_nil _⟩⟩) (by decide +kernel) (by decide) (hts (.classLink RL 15 "java/lang/IllegalStateException") (List.mem_of_getElem? (i := 3) rfl)) (va_Nw.use rfl (hX.2.2.2.1 eS (by simp))) (fun q9 H hz9 hk9 => ?_)
  refine lv_astore (lv' := [(4, .ref q9), (0, .ref (ax 0)), (1, .int (nI k)), (2, .int (nI v)), (3, .int p2)]) hx hb dL_setSurvivor_18 hl (by decide) rfl (fun ls hl => ?_)
  refine lv_iconst (v := nI 3) hx hb dL_setSurvivor_20 (by decide) ?_
  refine W.widen (k := 1) (n := 6) (by decide) (by decide) ?_
  exact W.iret (v := nI 3) hx hb hr (fun t ht hW => ⟨⟨_, (), rfl, rfl, trivial⟩, by rw [ht]; exact hz9, fun q h1 _ => by rw [ht]; exact hk9 q h1⟩) (fun _ h => by cases h) dL_setSurvivor_21
set_option maxHeartbeats 4000000 in
set_option maxRecDepth 100000 in
/-- the law calls setCap: refused -/
theorem x3_L_setCap (l : Launch) (dC : Nat → ClassId) (dI : Nat → Nat → Nat) (cI cJ cZ cO : ClassId) (ax : Nat → Nat) (ao : Nat → Option Nat) (n mo : Nat) (iv : Nat → Int32) (aa an : Nat → Nat) (kp : Int64) (py : Nat → Int64) (k : Nat) (v : Nat) (hst : l.stackTraces = false) (hv : jV an) (hm : mo ≤ 240) (hk : k < 20) (hao : ao k = some (aa 0)) (h1 : v ≤ 200) (hs : an 0 < mo)  : Met l yL_setCap wsL_setCap ({ frames := 8, cells := 1, slots := 6, locals := 126 }) (va_Pc [.ref (ax 0), .int (nI k), .int (nI v)] (jRX (dC, dI) (jTY cI cJ cZ cO) (jFW cI cJ cO ax ao n mo iv aa an kp py))) (va_Qi (fun r (_ : Unit) => r = nI 3) (fun _ _ => True) (fun _ => False)) 1 6 (fun _ => False) := by
  refine j_ofh (cc := cL_setCap) (maxL := 4) (ret := (some .int)) (by decide) rfl (Nat.le_of_ble_eq_true rfl) ?_
  intro p e s m below meth c ls hx hb hr hml hts hown hlocks htab hl hpre
  have hown : s.vm.findClass RL = some m.cls := hown
  have hl : lv_has ls 4 [(0, .ref (ax 0)), (1, .int (nI k)), (2, .int (nI v))] := hl
  obtain ⟨⟨hP, hK⟩, hX⟩ := hpre
  refine lv_aload_n hx hb dL_setCap_0 rfl (lv_at hl 0 rfl) ?_
  refine lv_iload_n hx hb dL_setCap_1 rfl (lv_at hl 1 rfl) ?_
  refine lv_iload_n hx hb dL_setCap_2 rfl (lv_at hl 2 rfl) ?_
  refine j_try (As := [.int (nI k), .int (nI v)]) (rest := []) (E := eS) (name := "java/lang/IllegalStateException") ⟨hx, hb, hml, hown, hts⟩ (x3_X1_setCap l dC dI cI cJ cZ cO ax ao n mo iv aa an kp py k v hst hv hm hk hao h1 hs) (cwV 2 hts gL_setCap_X1_setCap rfl rfl rfl (by decide +kernel) ⟨Nat.le_of_ble_eq_true rfl, Nat.le_of_ble_eq_true rfl⟩) (jRX_V hX hK hP [0, 1, 2, 3, 4, 5, 6, 7] rfl (ci := 1) (q0 := 0) rfl rfl rfl) rfl hl rfl (Nat.le_of_ble_eq_true rfl) dL_setCap_3 ⟨Nat.le_of_ble_eq_true rfl, Nat.le_of_ble_eq_true rfl⟩ [⟨0, 6, 9, 21⟩, ⟨0, 6, 12, 13⟩] ⟨0, 6, 15, 15⟩ [] (htab.trans rfl) (List.forall_mem_cons.mpr ⟨Or.inr ⟨by decide, _, (hts (.classLink RL 21 "java/lang/IndexOutOfBoundsException") (List.mem_of_getElem? (i := 1) rfl)), hX.2.2.2.2.2 eS (by simp) eO (by simp) (by decide)⟩, List.forall_mem_cons.mpr ⟨Or.inr ⟨by decide, _, (hts (.classLink RL 13 "java/lang/IllegalArgumentException") (List.mem_of_getElem? (i := 2) rfl)), hX.2.2.2.2.2 eS (by simp) eA (by simp) (by decide)⟩, List.forall_mem_nil _⟩⟩) (by decide +kernel) (by decide) (hts (.classLink RL 15 "java/lang/IllegalStateException") (List.mem_of_getElem? (i := 3) rfl)) (va_Nw.use rfl (hX.2.2.2.1 eS (by simp))) (fun q9 H hz9 hk9 => ?_)
  refine lv_astore_n (lv' := [(3, .ref q9), (0, .ref (ax 0)), (1, .int (nI k)), (2, .int (nI v))]) hx hb dL_setCap_15 rfl hl (by decide) rfl (fun ls hl => ?_)
  refine lv_iconst (v := nI 3) hx hb dL_setCap_16 (by decide) ?_
  refine W.widen (k := 1) (n := 6) (by decide) (by decide) ?_
  exact W.iret (v := nI 3) hx hb hr (fun t ht hW => ⟨⟨_, (), rfl, rfl, trivial⟩, by rw [ht]; exact hz9, fun q h1 _ => by rw [ht]; exact hk9 q h1⟩) (fun _ h => by cases h) dL_setCap_17
set_option maxHeartbeats 4000000 in
set_option maxRecDepth 100000 in
/-- the law calls protect: refused -/
theorem x3_L_protect (l : Launch) (dC : Nat → ClassId) (dI : Nat → Nat → Nat) (cI cJ cZ cO : ClassId) (ax : Nat → Nat) (ao : Nat → Option Nat) (n mo : Nat) (iv : Nat → Int32) (aa an : Nat → Nat) (kp : Int64) (py : Nat → Int64) (k : Nat) (v w : Nat) (hst : l.stackTraces = false) (hv : jV an) (hm : mo ≤ 240) (hk : k < 20) (hao : ao k = some (aa 0)) (h1 : v ≤ 10000000) (h2 : w ≤ 100) (hs : an 0 < mo)  : Met l yL_protect wsL_protect ({ frames := 8, cells := 1, slots := 6, locals := 127 }) (va_Pc [.ref (ax 0), .int (nI k), .int (nI v), .int (nI w)] (jRX (dC, dI) (jTY cI cJ cZ cO) (jFW cI cJ cO ax ao n mo iv aa an kp py))) (va_Qi (fun r (_ : Unit) => r = nI 3) (fun _ _ => True) (fun _ => False)) 1 6 (fun _ => False) := by
  refine j_ofh (cc := cL_protect) (maxL := 5) (ret := (some .int)) (by decide) rfl (Nat.le_of_ble_eq_true rfl) ?_
  intro p e s m below meth c ls hx hb hr hml hts hown hlocks htab hl hpre
  have hown : s.vm.findClass RL = some m.cls := hown
  have hl : lv_has ls 5 [(0, .ref (ax 0)), (1, .int (nI k)), (2, .int (nI v)), (3, .int (nI w))] := hl
  obtain ⟨⟨hP, hK⟩, hX⟩ := hpre
  refine lv_aload_n hx hb dL_protect_0 rfl (lv_at hl 0 rfl) ?_
  refine lv_iload_n hx hb dL_protect_1 rfl (lv_at hl 1 rfl) ?_
  refine lv_iload_n hx hb dL_protect_2 rfl (lv_at hl 2 rfl) ?_
  refine lv_iload_n hx hb dL_protect_3 rfl (lv_at hl 3 rfl) ?_
  refine j_try (As := [.int (nI k), .int (nI v), .int (nI w)]) (rest := []) (E := eS) (name := "java/lang/IllegalStateException") ⟨hx, hb, hml, hown, hts⟩ (x3_X1_protect l dC dI cI cJ cZ cO ax ao n mo iv aa an kp py k v w hst hv hm hk hao h1 h2 hs) (cwV 3 hts gL_protect_X1_protect rfl rfl rfl (by decide +kernel) ⟨Nat.le_of_ble_eq_true rfl, Nat.le_of_ble_eq_true rfl⟩) (jRX_V hX hK hP [0, 1, 2, 3, 4, 5, 6, 7] rfl (ci := 1) (q0 := 0) rfl rfl rfl) rfl hl rfl (Nat.le_of_ble_eq_true rfl) dL_protect_4 ⟨Nat.le_of_ble_eq_true rfl, Nat.le_of_ble_eq_true rfl⟩ [⟨0, 7, 10, 21⟩, ⟨0, 7, 14, 13⟩] ⟨0, 7, 18, 15⟩ [] (htab.trans rfl) (List.forall_mem_cons.mpr ⟨Or.inr ⟨by decide, _, (hts (.classLink RL 21 "java/lang/IndexOutOfBoundsException") (List.mem_of_getElem? (i := 1) rfl)), hX.2.2.2.2.2 eS (by simp) eO (by simp) (by decide)⟩, List.forall_mem_cons.mpr ⟨Or.inr ⟨by decide, _, (hts (.classLink RL 13 "java/lang/IllegalArgumentException") (List.mem_of_getElem? (i := 2) rfl)), hX.2.2.2.2.2 eS (by simp) eA (by simp) (by decide)⟩, List.forall_mem_nil _⟩⟩) (by decide +kernel) (by decide) (hts (.classLink RL 15 "java/lang/IllegalStateException") (List.mem_of_getElem? (i := 3) rfl)) (va_Nw.use rfl (hX.2.2.2.1 eS (by simp))) (fun q9 H hz9 hk9 => ?_)
  refine lv_astore (lv' := [(4, .ref q9), (0, .ref (ax 0)), (1, .int (nI k)), (2, .int (nI v)), (3, .int (nI w))]) hx hb dL_protect_18 hl (by decide) rfl (fun ls hl => ?_)
  refine lv_iconst (v := nI 3) hx hb dL_protect_20 (by decide) ?_
  refine W.widen (k := 1) (n := 6) (by decide) (by decide) ?_
  exact W.iret (v := nI 3) hx hb hr (fun t ht hW => ⟨⟨_, (), rfl, rfl, trivial⟩, by rw [ht]; exact hz9, fun q h1 _ => by rw [ht]; exact hk9 q h1⟩) (fun _ h => by cases h) dL_protect_21
set_option maxHeartbeats 4000000 in
set_option maxRecDepth 100000 in
/-- the law calls die: refused -/
theorem x3_0_L_die (l : Launch) (dC : Nat → ClassId) (dI : Nat → Nat → Nat) (cI cJ cZ cO : ClassId) (ax : Nat → Nat) (ao : Nat → Option Nat) (n mo : Nat) (iv : Nat → Int32) (aa an : Nat → Nat) (kp : Int64) (py : Nat → Int64) (k : Nat) (v : Nat) (hst : l.stackTraces = false) (hv : jV an) (hm : mo ≤ 240) (hk : k < 20) (hao : ao k = some (aa 0)) (h1 : v ≤ mo) (h2 : v ≤ 239) (ht9 : an 8 ≠ 240)  : Met l yL_die wsL_die ({ frames := 7, cells := 1, slots := 6, locals := 106 }) (va_Pc [.ref (ax 0), .int (nI k), .int (nI 0), .int (nI v)] (jRX (dC, dI) (jTY cI cJ cZ cO) (jFW cI cJ cO ax ao n mo iv aa an kp py))) (va_Qi (fun r (_ : Unit) => r = nI 3) (fun _ _ => True) (fun _ => False)) 1 6 (fun _ => False) := by
  refine j_ofh (cc := cL_die) (maxL := 5) (ret := (some .int)) (by decide) rfl (Nat.le_of_ble_eq_true rfl) ?_
  intro p e s m below meth c ls hx hb hr hml hts hown hlocks htab hl hpre
  have hown : s.vm.findClass RL = some m.cls := hown
  have hl : lv_has ls 5 [(0, .ref (ax 0)), (1, .int (nI k)), (2, .int (nI 0)), (3, .int (nI v))] := hl
  obtain ⟨⟨hP, hK⟩, hX⟩ := hpre
  refine lv_aload_n hx hb dL_die_0 rfl (lv_at hl 0 rfl) ?_
  refine lv_iload_n hx hb dL_die_1 rfl (lv_at hl 1 rfl) ?_
  refine lv_iload_n hx hb dL_die_2 rfl (lv_at hl 2 rfl) ?_
  refine lv_iload_n hx hb dL_die_3 rfl (lv_at hl 3 rfl) ?_
  refine j_try (As := [.int (nI k), .int (nI 0), .int (nI v)]) (rest := []) (E := eS) (name := "java/lang/IllegalStateException") ⟨hx, hb, hml, hown, hts⟩ (x3_0_X1_die l dC dI cI cJ cZ cO ax ao n mo iv aa an kp py k v hst hv hm hk hao h1 h2 ht9) (cwV 3 hts gL_die_X1_die rfl rfl rfl (by decide +kernel) ⟨Nat.le_of_ble_eq_true rfl, Nat.le_of_ble_eq_true rfl⟩) (jRX_V hX hK hP [0, 1, 2, 3, 4, 5, 6, 7] rfl (ci := 1) (q0 := 0) rfl rfl rfl) rfl hl rfl (Nat.le_of_ble_eq_true rfl) dL_die_4 ⟨Nat.le_of_ble_eq_true rfl, Nat.le_of_ble_eq_true rfl⟩ [⟨0, 7, 10, 21⟩, ⟨0, 7, 14, 13⟩] ⟨0, 7, 18, 15⟩ [] (htab.trans rfl) (List.forall_mem_cons.mpr ⟨Or.inr ⟨by decide, _, (hts (.classLink RL 21 "java/lang/IndexOutOfBoundsException") (List.mem_of_getElem? (i := 1) rfl)), hX.2.2.2.2.2 eS (by simp) eO (by simp) (by decide)⟩, List.forall_mem_cons.mpr ⟨Or.inr ⟨by decide, _, (hts (.classLink RL 13 "java/lang/IllegalArgumentException") (List.mem_of_getElem? (i := 2) rfl)), hX.2.2.2.2.2 eS (by simp) eA (by simp) (by decide)⟩, List.forall_mem_nil _⟩⟩) (by decide +kernel) (by decide) (hts (.classLink RL 15 "java/lang/IllegalStateException") (List.mem_of_getElem? (i := 3) rfl)) (va_Nw.use rfl (hX.2.2.2.1 eS (by simp))) (fun q9 H hz9 hk9 => ?_)
  refine lv_astore (lv' := [(4, .ref q9), (0, .ref (ax 0)), (1, .int (nI k)), (2, .int (nI 0)), (3, .int (nI v))]) hx hb dL_die_18 hl (by decide) rfl (fun ls hl => ?_)
  refine lv_iconst (v := nI 3) hx hb dL_die_20 (by decide) ?_
  refine W.widen (k := 1) (n := 6) (by decide) (by decide) ?_
  exact W.iret (v := nI 3) hx hb hr (fun t ht hW => ⟨⟨_, (), rfl, rfl, trivial⟩, by rw [ht]; exact hz9, fun q h1 _ => by rw [ht]; exact hk9 q h1⟩) (fun _ h => by cases h) dL_die_21
set_option maxHeartbeats 4000000 in
set_option maxRecDepth 100000 in
/-- the law calls takeBack: refused -/
theorem x3_0_L_takeBack (l : Launch) (dC : Nat → ClassId) (dI : Nat → Nat → Nat) (cI cJ cZ cO : ClassId) (ax : Nat → Nat) (ao : Nat → Option Nat) (n mo : Nat) (iv : Nat → Int32) (aa an : Nat → Nat) (kp : Int64) (py : Nat → Int64) (k : Nat) (hst : l.stackTraces = false) (hv : jV an) (hm : mo ≤ 240) (hk : k < 20) (hao : ao k = some (aa 0)) (ht9 : an 8 = 240) (oa : Nat)  : Met l yL_takeBack wsL_takeBack ({ frames := 7, cells := 1, slots := 6, locals := 106 }) (va_Pc [.ref (ax 0), .int (nI k), .int (nI 0), .ref oa] (jRX (dC, dI) (jTY cI cJ cZ cO) (jFW cI cJ cO ax ao n mo iv aa an kp py))) (va_Qi (fun r (_ : Unit) => r = nI 3) (fun _ _ => True) (fun _ => False)) 1 6 (fun _ => False) := by
  refine j_ofh (cc := cL_takeBack) (maxL := 5) (ret := (some .int)) (by decide) rfl (Nat.le_of_ble_eq_true rfl) ?_
  intro p e s m below meth c ls hx hb hr hml hts hown hlocks htab hl hpre
  have hown : s.vm.findClass RL = some m.cls := hown
  have hl : lv_has ls 5 [(0, .ref (ax 0)), (1, .int (nI k)), (2, .int (nI 0)), (3, .ref oa)] := hl
  obtain ⟨⟨hP, hK⟩, hX⟩ := hpre
  refine lv_aload_n hx hb dL_takeBack_0 rfl (lv_at hl 3 rfl) ?_
  refine lv_iconst (v := nI 0) hx hb dL_takeBack_1 (by decide) ?_
  refine lv_aload_n hx hb dL_takeBack_2 rfl (lv_at hl 0 rfl) ?_
  refine lv_iload_n hx hb dL_takeBack_3 rfl (lv_at hl 1 rfl) ?_
  refine lv_iload_n hx hb dL_takeBack_4 rfl (lv_at hl 2 rfl) ?_
  refine j_try (As := [.int (nI k), .int (nI 0)]) (rest := [.int (nI 0), .ref oa]) (E := eS) (name := "java/lang/IllegalStateException") ⟨hx, hb, hml, hown, hts⟩ (x3_0_X1_takeBack l dC dI cI cJ cZ cO ax ao n mo iv aa an kp py k hst hv hm hk hao ht9) (cwV 2 hts gL_takeBack_X1_takeBack rfl rfl rfl (by decide +kernel) ⟨Nat.le_of_ble_eq_true rfl, Nat.le_of_ble_eq_true rfl⟩) (jRX_V hX hK hP [0, 1, 2, 3, 4, 5, 6, 7] rfl (ci := 1) (q0 := 0) rfl rfl rfl) rfl hl rfl (Nat.le_of_ble_eq_true rfl) dL_takeBack_5 ⟨Nat.le_of_ble_eq_true rfl, Nat.le_of_ble_eq_true rfl⟩ [⟨0, 10, 13, 21⟩, ⟨0, 10, 17, 13⟩] ⟨0, 10, 21, 15⟩ [] (htab.trans rfl) (List.forall_mem_cons.mpr ⟨Or.inr ⟨by decide, _, (hts (.classLink RL 21 "java/lang/IndexOutOfBoundsException") (List.mem_of_getElem? (i := 1) rfl)), hX.2.2.2.2.2 eS (by simp) eO (by simp) (by decide)⟩, List.forall_mem_cons.mpr ⟨Or.inr ⟨by decide, _, (hts (.classLink RL 13 "java/lang/IllegalArgumentException") (List.mem_of_getElem? (i := 2) rfl)), hX.2.2.2.2.2 eS (by simp) eA (by simp) (by decide)⟩, List.forall_mem_nil _⟩⟩) (by decide +kernel) (by decide) (hts (.classLink RL 15 "java/lang/IllegalStateException") (List.mem_of_getElem? (i := 3) rfl)) (va_Nw.use rfl (hX.2.2.2.1 eS (by simp))) (fun q9 H hz9 hk9 => ?_)
  refine lv_astore (lv' := [(4, .ref q9), (0, .ref (ax 0)), (1, .int (nI k)), (2, .int (nI 0)), (3, .ref oa)]) hx hb dL_takeBack_21 hl (by decide) rfl (fun ls hl => ?_)
  refine lv_iconst (v := nI 3) hx hb dL_takeBack_23 (by decide) ?_
  refine W.widen (k := 1) (n := 6) (by decide) (by decide) ?_
  exact W.iret (v := nI 3) hx hb hr (fun t ht hW => ⟨⟨_, (), rfl, rfl, trivial⟩, by rw [ht]; exact hz9, fun q h1 _ => by rw [ht]; exact hk9 q h1⟩) (fun _ h => by cases h) dL_takeBack_24
set_option maxHeartbeats 4000000 in
set_option maxRecDepth 100000 in
/-- the law calls die: refused -/
theorem x3_1_L_die (l : Launch) (dC : Nat → ClassId) (dI : Nat → Nat → Nat) (cI cJ cZ cO : ClassId) (ax : Nat → Nat) (ao : Nat → Option Nat) (n mo : Nat) (iv : Nat → Int32) (aa an : Nat → Nat) (kp : Int64) (py : Nat → Int64) (k : Nat) (v : Nat) (hst : l.stackTraces = false) (hv : jV an) (hm : mo ≤ 240) (hk : k < 20) (hao : ao k = some (aa 0)) (h1 : v ≤ mo) (h2 : v ≤ 239) (ht9 : an 9 ≠ 240)  : Met l yL_die wsL_die ({ frames := 7, cells := 1, slots := 6, locals := 106 }) (va_Pc [.ref (ax 0), .int (nI k), .int (nI 1), .int (nI v)] (jRX (dC, dI) (jTY cI cJ cZ cO) (jFW cI cJ cO ax ao n mo iv aa an kp py))) (va_Qi (fun r (_ : Unit) => r = nI 3) (fun _ _ => True) (fun _ => False)) 1 6 (fun _ => False) := by
  refine j_ofh (cc := cL_die) (maxL := 5) (ret := (some .int)) (by decide) rfl (Nat.le_of_ble_eq_true rfl) ?_
  intro p e s m below meth c ls hx hb hr hml hts hown hlocks htab hl hpre
  have hown : s.vm.findClass RL = some m.cls := hown
  have hl : lv_has ls 5 [(0, .ref (ax 0)), (1, .int (nI k)), (2, .int (nI 1)), (3, .int (nI v))] := hl
  obtain ⟨⟨hP, hK⟩, hX⟩ := hpre
  refine lv_aload_n hx hb dL_die_0 rfl (lv_at hl 0 rfl) ?_
  refine lv_iload_n hx hb dL_die_1 rfl (lv_at hl 1 rfl) ?_
  refine lv_iload_n hx hb dL_die_2 rfl (lv_at hl 2 rfl) ?_
  refine lv_iload_n hx hb dL_die_3 rfl (lv_at hl 3 rfl) ?_
  refine j_try (As := [.int (nI k), .int (nI 1), .int (nI v)]) (rest := []) (E := eS) (name := "java/lang/IllegalStateException") ⟨hx, hb, hml, hown, hts⟩ (x3_1_X1_die l dC dI cI cJ cZ cO ax ao n mo iv aa an kp py k v hst hv hm hk hao h1 h2 ht9) (cwV 3 hts gL_die_X1_die rfl rfl rfl (by decide +kernel) ⟨Nat.le_of_ble_eq_true rfl, Nat.le_of_ble_eq_true rfl⟩) (jRX_V hX hK hP [0, 1, 2, 3, 4, 5, 6, 7] rfl (ci := 1) (q0 := 0) rfl rfl rfl) rfl hl rfl (Nat.le_of_ble_eq_true rfl) dL_die_4 ⟨Nat.le_of_ble_eq_true rfl, Nat.le_of_ble_eq_true rfl⟩ [⟨0, 7, 10, 21⟩, ⟨0, 7, 14, 13⟩] ⟨0, 7, 18, 15⟩ [] (htab.trans rfl) (List.forall_mem_cons.mpr ⟨Or.inr ⟨by decide, _, (hts (.classLink RL 21 "java/lang/IndexOutOfBoundsException") (List.mem_of_getElem? (i := 1) rfl)), hX.2.2.2.2.2 eS (by simp) eO (by simp) (by decide)⟩, List.forall_mem_cons.mpr ⟨Or.inr ⟨by decide, _, (hts (.classLink RL 13 "java/lang/IllegalArgumentException") (List.mem_of_getElem? (i := 2) rfl)), hX.2.2.2.2.2 eS (by simp) eA (by simp) (by decide)⟩, List.forall_mem_nil _⟩⟩) (by decide +kernel) (by decide) (hts (.classLink RL 15 "java/lang/IllegalStateException") (List.mem_of_getElem? (i := 3) rfl)) (va_Nw.use rfl (hX.2.2.2.1 eS (by simp))) (fun q9 H hz9 hk9 => ?_)
  refine lv_astore (lv' := [(4, .ref q9), (0, .ref (ax 0)), (1, .int (nI k)), (2, .int (nI 1)), (3, .int (nI v))]) hx hb dL_die_18 hl (by decide) rfl (fun ls hl => ?_)
  refine lv_iconst (v := nI 3) hx hb dL_die_20 (by decide) ?_
  refine W.widen (k := 1) (n := 6) (by decide) (by decide) ?_
  exact W.iret (v := nI 3) hx hb hr (fun t ht hW => ⟨⟨_, (), rfl, rfl, trivial⟩, by rw [ht]; exact hz9, fun q h1 _ => by rw [ht]; exact hk9 q h1⟩) (fun _ h => by cases h) dL_die_21
set_option maxHeartbeats 4000000 in
set_option maxRecDepth 100000 in
/-- the law calls takeBack: refused -/
theorem x3_1_L_takeBack (l : Launch) (dC : Nat → ClassId) (dI : Nat → Nat → Nat) (cI cJ cZ cO : ClassId) (ax : Nat → Nat) (ao : Nat → Option Nat) (n mo : Nat) (iv : Nat → Int32) (aa an : Nat → Nat) (kp : Int64) (py : Nat → Int64) (k : Nat) (hst : l.stackTraces = false) (hv : jV an) (hm : mo ≤ 240) (hk : k < 20) (hao : ao k = some (aa 0)) (ht9 : an 9 = 240) (oa : Nat)  : Met l yL_takeBack wsL_takeBack ({ frames := 7, cells := 1, slots := 6, locals := 106 }) (va_Pc [.ref (ax 0), .int (nI k), .int (nI 1), .ref oa] (jRX (dC, dI) (jTY cI cJ cZ cO) (jFW cI cJ cO ax ao n mo iv aa an kp py))) (va_Qi (fun r (_ : Unit) => r = nI 3) (fun _ _ => True) (fun _ => False)) 1 6 (fun _ => False) := by
  refine j_ofh (cc := cL_takeBack) (maxL := 5) (ret := (some .int)) (by decide) rfl (Nat.le_of_ble_eq_true rfl) ?_
  intro p e s m below meth c ls hx hb hr hml hts hown hlocks htab hl hpre
  have hown : s.vm.findClass RL = some m.cls := hown
  have hl : lv_has ls 5 [(0, .ref (ax 0)), (1, .int (nI k)), (2, .int (nI 1)), (3, .ref oa)] := hl
  obtain ⟨⟨hP, hK⟩, hX⟩ := hpre
  refine lv_aload_n hx hb dL_takeBack_0 rfl (lv_at hl 3 rfl) ?_
  refine lv_iconst (v := nI 0) hx hb dL_takeBack_1 (by decide) ?_
  refine lv_aload_n hx hb dL_takeBack_2 rfl (lv_at hl 0 rfl) ?_
  refine lv_iload_n hx hb dL_takeBack_3 rfl (lv_at hl 1 rfl) ?_
  refine lv_iload_n hx hb dL_takeBack_4 rfl (lv_at hl 2 rfl) ?_
  refine j_try (As := [.int (nI k), .int (nI 1)]) (rest := [.int (nI 0), .ref oa]) (E := eS) (name := "java/lang/IllegalStateException") ⟨hx, hb, hml, hown, hts⟩ (x3_1_X1_takeBack l dC dI cI cJ cZ cO ax ao n mo iv aa an kp py k hst hv hm hk hao ht9) (cwV 2 hts gL_takeBack_X1_takeBack rfl rfl rfl (by decide +kernel) ⟨Nat.le_of_ble_eq_true rfl, Nat.le_of_ble_eq_true rfl⟩) (jRX_V hX hK hP [0, 1, 2, 3, 4, 5, 6, 7] rfl (ci := 1) (q0 := 0) rfl rfl rfl) rfl hl rfl (Nat.le_of_ble_eq_true rfl) dL_takeBack_5 ⟨Nat.le_of_ble_eq_true rfl, Nat.le_of_ble_eq_true rfl⟩ [⟨0, 10, 13, 21⟩, ⟨0, 10, 17, 13⟩] ⟨0, 10, 21, 15⟩ [] (htab.trans rfl) (List.forall_mem_cons.mpr ⟨Or.inr ⟨by decide, _, (hts (.classLink RL 21 "java/lang/IndexOutOfBoundsException") (List.mem_of_getElem? (i := 1) rfl)), hX.2.2.2.2.2 eS (by simp) eO (by simp) (by decide)⟩, List.forall_mem_cons.mpr ⟨Or.inr ⟨by decide, _, (hts (.classLink RL 13 "java/lang/IllegalArgumentException") (List.mem_of_getElem? (i := 2) rfl)), hX.2.2.2.2.2 eS (by simp) eA (by simp) (by decide)⟩, List.forall_mem_nil _⟩⟩) (by decide +kernel) (by decide) (hts (.classLink RL 15 "java/lang/IllegalStateException") (List.mem_of_getElem? (i := 3) rfl)) (va_Nw.use rfl (hX.2.2.2.1 eS (by simp))) (fun q9 H hz9 hk9 => ?_)
  refine lv_astore (lv' := [(4, .ref q9), (0, .ref (ax 0)), (1, .int (nI k)), (2, .int (nI 1)), (3, .ref oa)]) hx hb dL_takeBack_21 hl (by decide) rfl (fun ls hl => ?_)
  refine lv_iconst (v := nI 3) hx hb dL_takeBack_23 (by decide) ?_
  refine W.widen (k := 1) (n := 6) (by decide) (by decide) ?_
  exact W.iret (v := nI 3) hx hb hr (fun t ht hW => ⟨⟨_, (), rfl, rfl, trivial⟩, by rw [ht]; exact hz9, fun q h1 _ => by rw [ht]; exact hk9 q h1⟩) (fun _ h => by cases h) dL_takeBack_24
set_option maxHeartbeats 4000000 in
set_option maxRecDepth 100000 in
/-- the law calls giveBack: refused -/
theorem x3_L_giveBack (l : Launch) (dC : Nat → ClassId) (dI : Nat → Nat → Nat) (cI cJ cZ cO : ClassId) (ax : Nat → Nat) (ao : Nat → Option Nat) (n mo : Nat) (iv : Nat → Int32) (aa an : Nat → Nat) (kp : Int64) (py : Nat → Int64) (k : Nat) (v : Nat) (hst : l.stackTraces = false) (hv : jV an) (hm : mo ≤ 240) (hk : k < 20) (hao : ao k = some (aa 0)) (h1 : 1 ≤ v) (h2 : v ≤ 100000000) (ho : jmx (kp - lN (jU an iv mo)) < lN v) (oa : Nat)  : Met l yL_giveBack wsL_giveBack ({ frames := 7, cells := 1, slots := 6, locals := 162 }) (va_Pc [.ref (ax 0), .int (nI k), .int (nI v), .ref oa] (jRX (dC, dI) (jTY cI cJ cZ cO) (jFW cI cJ cO ax ao n mo iv aa an kp py))) (va_Qi (fun r (_ : Unit) => r = nI 3) (fun _ _ => True) (fun _ => False)) 1 6 (fun _ => False) := by
  refine j_ofh (cc := cL_giveBack) (maxL := 5) (ret := (some .int)) (by decide) rfl (Nat.le_of_ble_eq_true rfl) ?_
  intro p e s m below meth c ls hx hb hr hml hts hown hlocks htab hl hpre
  have hown : s.vm.findClass RL = some m.cls := hown
  have hl : lv_has ls 5 [(0, .ref (ax 0)), (1, .int (nI k)), (2, .int (nI v)), (3, .ref oa)] := hl
  obtain ⟨⟨hP, hK⟩, hX⟩ := hpre
  refine lv_aload_n hx hb dL_giveBack_0 rfl (lv_at hl 3 rfl) ?_
  refine lv_iconst (v := nI 0) hx hb dL_giveBack_1 (by decide) ?_
  refine lv_aload_n hx hb dL_giveBack_2 rfl (lv_at hl 0 rfl) ?_
  refine lv_iload_n hx hb dL_giveBack_3 rfl (lv_at hl 1 rfl) ?_
  refine lv_iload_n hx hb dL_giveBack_4 rfl (lv_at hl 2 rfl) ?_
  refine j_try (As := [.int (nI k), .int (nI v)]) (rest := [.int (nI 0), .ref oa]) (E := eS) (name := "java/lang/IllegalStateException") ⟨hx, hb, hml, hown, hts⟩ (x3_X1_giveBack l dC dI cI cJ cZ cO ax ao n mo iv aa an kp py k v hst hv hm hk hao h1 h2 ho) (cwV 2 hts gL_giveBack_X1_giveBack rfl rfl rfl (by decide +kernel) ⟨Nat.le_of_ble_eq_true rfl, Nat.le_of_ble_eq_true rfl⟩) (jRX_V hX hK hP [0, 1, 2, 3, 4, 5, 6, 7] rfl (ci := 1) (q0 := 0) rfl rfl rfl) rfl hl rfl (Nat.le_of_ble_eq_true rfl) dL_giveBack_5 ⟨Nat.le_of_ble_eq_true rfl, Nat.le_of_ble_eq_true rfl⟩ [⟨0, 9, 12, 21⟩, ⟨0, 9, 16, 13⟩] ⟨0, 9, 20, 15⟩ [] (htab.trans rfl) (List.forall_mem_cons.mpr ⟨Or.inr ⟨by decide, _, (hts (.classLink RL 21 "java/lang/IndexOutOfBoundsException") (List.mem_of_getElem? (i := 1) rfl)), hX.2.2.2.2.2 eS (by simp) eO (by simp) (by decide)⟩, List.forall_mem_cons.mpr ⟨Or.inr ⟨by decide, _, (hts (.classLink RL 13 "java/lang/IllegalArgumentException") (List.mem_of_getElem? (i := 2) rfl)), hX.2.2.2.2.2 eS (by simp) eA (by simp) (by decide)⟩, List.forall_mem_nil _⟩⟩) (by decide +kernel) (by decide) (hts (.classLink RL 15 "java/lang/IllegalStateException") (List.mem_of_getElem? (i := 3) rfl)) (va_Nw.use rfl (hX.2.2.2.1 eS (by simp))) (fun q9 H hz9 hk9 => ?_)
  refine lv_astore (lv' := [(4, .ref q9), (0, .ref (ax 0)), (1, .int (nI k)), (2, .int (nI v)), (3, .ref oa)]) hx hb dL_giveBack_20 hl (by decide) rfl (fun ls hl => ?_)
  refine lv_iconst (v := nI 3) hx hb dL_giveBack_22 (by decide) ?_
  refine W.widen (k := 1) (n := 6) (by decide) (by decide) ?_
  exact W.iret (v := nI 3) hx hb hr (fun t ht hW => ⟨⟨_, (), rfl, rfl, trivial⟩, by rw [ht]; exact hz9, fun q h1 _ => by rw [ht]; exact hk9 q h1⟩) (fun _ h => by cases h) dL_giveBack_23
set_option maxHeartbeats 4000000 in
set_option maxRecDepth 100000 in
/-- the law calls add: refused -/
theorem x1_L_add (l : Launch) (dC : Nat → ClassId) (dI : Nat → Nat → Nat) (cI cJ cZ cO : ClassId) (ax : Nat → Nat) (ao : Nat → Option Nat) (n mo : Nat) (p0 p1 p2 : Int32) (hst : l.stackTraces = false) (hm : mo ≤ 240) (h : p0 < nI mo ∨ nI 239 < p0) (oa : Nat)  : Met l yL_add wsL_add ({ frames := 8, cells := 1, slots := 6, locals := 128 }) (va_Pc [.ref (ax 0), .int p0, .int p1, .int p2, .ref oa] (jRX (dC, dI) (jTY cI cJ cZ cO) ([jXo ax n mo, jXa cO ax ao]))) (va_Qi (fun r (_ : Unit) => r = nI 1) (fun _ _ => True) (fun _ => False)) 1 6 (fun _ => False) := by
  refine j_ofh (cc := cL_add) (maxL := 6) (ret := (some .int)) (by decide) rfl (Nat.le_of_ble_eq_true rfl) ?_
  intro p e s m below meth c ls hx hb hr hml hts hown hlocks htab hl hpre
  have hown : s.vm.findClass RL = some m.cls := hown
  have hl : lv_has ls 6 [(0, .ref (ax 0)), (1, .int p0), (2, .int p1), (3, .int p2), (4, .ref oa)] := hl
  obtain ⟨⟨hP, hK⟩, hX⟩ := hpre
  refine lv_aload hx hb dL_add_0 (lv_at hl 4 rfl) ?_
  refine lv_iconst (v := nI 0) hx hb dL_add_2 (by decide) ?_
  refine lv_aload_n hx hb dL_add_3 rfl (lv_at hl 0 rfl) ?_
  refine lv_iload_n hx hb dL_add_4 rfl (lv_at hl 1 rfl) ?_
  refine lv_iload_n hx hb dL_add_5 rfl (lv_at hl 2 rfl) ?_
  refine lv_iload_n hx hb dL_add_6 rfl (lv_at hl 3 rfl) ?_
  refine j_try (As := [.int p0, .int p1, .int p2]) (rest := [.int (nI 0), .ref oa]) (E := eA) (name := "java/lang/IllegalArgumentException") ⟨hx, hb, hml, hown, hts⟩ (x1_X1_add l dC dI cI cJ cZ cO ax ao n mo p0 p1 p2 hst hm h) (cwV 3 hts gL_add_X1_add rfl rfl rfl (by decide +kernel) ⟨Nat.le_of_ble_eq_true rfl, Nat.le_of_ble_eq_true rfl⟩) (jRX_V hX hK hP [0, 1] rfl (ci := 1) (q0 := 0) rfl rfl rfl) rfl hl rfl (Nat.le_of_ble_eq_true rfl) dL_add_7 ⟨Nat.le_of_ble_eq_true rfl, Nat.le_of_ble_eq_true rfl⟩ [] ⟨0, 12, 15, 13⟩ [⟨0, 12, 19, 15⟩] (htab.trans rfl) (List.forall_mem_nil _) (by decide +kernel) (by decide) (hts (.classLink RL 13 "java/lang/IllegalArgumentException") (List.mem_of_getElem? (i := 1) rfl)) (va_Nw.use rfl (hX.2.2.2.1 eA (by simp))) (fun q9 H hz9 hk9 => ?_)
  refine lv_astore (lv' := [(5, .ref q9), (0, .ref (ax 0)), (1, .int p0), (2, .int p1), (3, .int p2), (4, .ref oa)]) hx hb dL_add_15 hl (by decide) rfl (fun ls hl => ?_)
  refine lv_iconst (v := nI 1) hx hb dL_add_17 (by decide) ?_
  refine W.widen (k := 1) (n := 6) (by decide) (by decide) ?_
  exact W.iret (v := nI 1) hx hb hr (fun t ht hW => ⟨⟨_, (), rfl, rfl, trivial⟩, by rw [ht]; exact hz9, fun q h1 _ => by rw [ht]; exact hk9 q h1⟩) (fun _ h => by cases h) dL_add_18
set_option maxHeartbeats 4000000 in
set_option maxRecDepth 100000 in
/-- the law calls add: refused -/
theorem x2_L_add (l : Launch) (dC : Nat → ClassId) (dI : Nat → Nat → Nat) (cI cJ cZ cO : ClassId) (ax : Nat → Nat) (ao : Nat → Option Nat) (n mo : Nat) (p0 p1 p2 : Int32) (hst : l.stackTraces = false) (hm : mo ≤ 240) (h1 : ¬ p0 < nI mo) (h2 : ¬ nI 239 < p0) (h : p1 < nI 1 ∨ nI 100000 < p1) (oa : Nat)  : Met l yL_add wsL_add ({ frames := 8, cells := 1, slots := 6, locals := 128 }) (va_Pc [.ref (ax 0), .int p0, .int p1, .int p2, .ref oa] (jRX (dC, dI) (jTY cI cJ cZ cO) ([jXo ax n mo, jXa cO ax ao]))) (va_Qi (fun r (_ : Unit) => r = nI 1) (fun _ _ => True) (fun _ => False)) 1 6 (fun _ => False) := by
  refine j_ofh (cc := cL_add) (maxL := 6) (ret := (some .int)) (by decide) rfl (Nat.le_of_ble_eq_true rfl) ?_
  intro p e s m below meth c ls hx hb hr hml hts hown hlocks htab hl hpre
  have hown : s.vm.findClass RL = some m.cls := hown
  have hl : lv_has ls 6 [(0, .ref (ax 0)), (1, .int p0), (2, .int p1), (3, .int p2), (4, .ref oa)] := hl
  obtain ⟨⟨hP, hK⟩, hX⟩ := hpre
  refine lv_aload hx hb dL_add_0 (lv_at hl 4 rfl) ?_
  refine lv_iconst (v := nI 0) hx hb dL_add_2 (by decide) ?_
  refine lv_aload_n hx hb dL_add_3 rfl (lv_at hl 0 rfl) ?_
  refine lv_iload_n hx hb dL_add_4 rfl (lv_at hl 1 rfl) ?_
  refine lv_iload_n hx hb dL_add_5 rfl (lv_at hl 2 rfl) ?_
  refine lv_iload_n hx hb dL_add_6 rfl (lv_at hl 3 rfl) ?_
  refine j_try (As := [.int p0, .int p1, .int p2]) (rest := [.int (nI 0), .ref oa]) (E := eA) (name := "java/lang/IllegalArgumentException") ⟨hx, hb, hml, hown, hts⟩ (x2_X1_add l dC dI cI cJ cZ cO ax ao n mo p0 p1 p2 hst hm h1 h2 h) (cwV 3 hts gL_add_X1_add rfl rfl rfl (by decide +kernel) ⟨Nat.le_of_ble_eq_true rfl, Nat.le_of_ble_eq_true rfl⟩) (jRX_V hX hK hP [0, 1] rfl (ci := 1) (q0 := 0) rfl rfl rfl) rfl hl rfl (Nat.le_of_ble_eq_true rfl) dL_add_7 ⟨Nat.le_of_ble_eq_true rfl, Nat.le_of_ble_eq_true rfl⟩ [] ⟨0, 12, 15, 13⟩ [⟨0, 12, 19, 15⟩] (htab.trans rfl) (List.forall_mem_nil _) (by decide +kernel) (by decide) (hts (.classLink RL 13 "java/lang/IllegalArgumentException") (List.mem_of_getElem? (i := 1) rfl)) (va_Nw.use rfl (hX.2.2.2.1 eA (by simp))) (fun q9 H hz9 hk9 => ?_)
  refine lv_astore (lv' := [(5, .ref q9), (0, .ref (ax 0)), (1, .int p0), (2, .int p1), (3, .int p2), (4, .ref oa)]) hx hb dL_add_15 hl (by decide) rfl (fun ls hl => ?_)
  refine lv_iconst (v := nI 1) hx hb dL_add_17 (by decide) ?_
  refine W.widen (k := 1) (n := 6) (by decide) (by decide) ?_
  exact W.iret (v := nI 1) hx hb hr (fun t ht hW => ⟨⟨_, (), rfl, rfl, trivial⟩, by rw [ht]; exact hz9, fun q h1 _ => by rw [ht]; exact hk9 q h1⟩) (fun _ h => by cases h) dL_add_18
set_option maxHeartbeats 4000000 in
set_option maxRecDepth 100000 in
/-- the law calls add: refused -/
theorem x3_L_add (l : Launch) (dC : Nat → ClassId) (dI : Nat → Nat → Nat) (cI cJ cZ cO : ClassId) (ax : Nat → Nat) (ao : Nat → Option Nat) (n mo : Nat) (p0 p1 p2 : Int32) (hst : l.stackTraces = false) (hm : mo ≤ 240) (h1 : ¬ p0 < nI mo) (h2 : ¬ nI 239 < p0) (h3 : ¬ p1 < nI 1) (h4 : ¬ nI 100000 < p1) (h : p2 < nI 0 ∨ nI 240 < p2) (oa : Nat)  : Met l yL_add wsL_add ({ frames := 8, cells := 1, slots := 6, locals := 128 }) (va_Pc [.ref (ax 0), .int p0, .int p1, .int p2, .ref oa] (jRX (dC, dI) (jTY cI cJ cZ cO) ([jXo ax n mo, jXa cO ax ao]))) (va_Qi (fun r (_ : Unit) => r = nI 1) (fun _ _ => True) (fun _ => False)) 1 6 (fun _ => False) := by
  refine j_ofh (cc := cL_add) (maxL := 6) (ret := (some .int)) (by decide) rfl (Nat.le_of_ble_eq_true rfl) ?_
  intro p e s m below meth c ls hx hb hr hml hts hown hlocks htab hl hpre
  have hown : s.vm.findClass RL = some m.cls := hown
  have hl : lv_has ls 6 [(0, .ref (ax 0)), (1, .int p0), (2, .int p1), (3, .int p2), (4, .ref oa)] := hl
  obtain ⟨⟨hP, hK⟩, hX⟩ := hpre
  refine lv_aload hx hb dL_add_0 (lv_at hl 4 rfl) ?_
  refine lv_iconst (v := nI 0) hx hb dL_add_2 (by decide) ?_
  refine lv_aload_n hx hb dL_add_3 rfl (lv_at hl 0 rfl) ?_
  refine lv_iload_n hx hb dL_add_4 rfl (lv_at hl 1 rfl) ?_
  refine lv_iload_n hx hb dL_add_5 rfl (lv_at hl 2 rfl) ?_
  refine lv_iload_n hx hb dL_add_6 rfl (lv_at hl 3 rfl) ?_
  refine j_try (As := [.int p0, .int p1, .int p2]) (rest := [.int (nI 0), .ref oa]) (E := eA) (name := "java/lang/IllegalArgumentException") ⟨hx, hb, hml, hown, hts⟩ (x3_X1_add l dC dI cI cJ cZ cO ax ao n mo p0 p1 p2 hst hm h1 h2 h3 h4 h) (cwV 3 hts gL_add_X1_add rfl rfl rfl (by decide +kernel) ⟨Nat.le_of_ble_eq_true rfl, Nat.le_of_ble_eq_true rfl⟩) (jRX_V hX hK hP [0, 1] rfl (ci := 1) (q0 := 0) rfl rfl rfl) rfl hl rfl (Nat.le_of_ble_eq_true rfl) dL_add_7 ⟨Nat.le_of_ble_eq_true rfl, Nat.le_of_ble_eq_true rfl⟩ [] ⟨0, 12, 15, 13⟩ [⟨0, 12, 19, 15⟩] (htab.trans rfl) (List.forall_mem_nil _) (by decide +kernel) (by decide) (hts (.classLink RL 13 "java/lang/IllegalArgumentException") (List.mem_of_getElem? (i := 1) rfl)) (va_Nw.use rfl (hX.2.2.2.1 eA (by simp))) (fun q9 H hz9 hk9 => ?_)
  refine lv_astore (lv' := [(5, .ref q9), (0, .ref (ax 0)), (1, .int p0), (2, .int p1), (3, .int p2), (4, .ref oa)]) hx hb dL_add_15 hl (by decide) rfl (fun ls hl => ?_)
  refine lv_iconst (v := nI 1) hx hb dL_add_17 (by decide) ?_
  refine W.widen (k := 1) (n := 6) (by decide) (by decide) ?_
  exact W.iret (v := nI 1) hx hb hr (fun t ht hW => ⟨⟨_, (), rfl, rfl, trivial⟩, by rw [ht]; exact hz9, fun q h1 _ => by rw [ht]; exact hk9 q h1⟩) (fun _ h => by cases h) dL_add_18
set_option maxHeartbeats 4000000 in
set_option maxRecDepth 100000 in
/-- the law calls add: refused -/
theorem x4_L_add (l : Launch) (dC : Nat → ClassId) (dI : Nat → Nat → Nat) (cI cJ cZ cO : ClassId) (ax : Nat → Nat) (ao : Nat → Option Nat) (n mo : Nat) (p0 p1 p2 : Int32) (hst : l.stackTraces = false) (hm : mo ≤ 240) (h1 : ¬ p0 < nI mo) (h2 : ¬ nI 239 < p0) (h3 : ¬ p1 < nI 1) (h4 : ¬ nI 100000 < p1) (h5 : ¬ p2 < nI 0) (h6 : ¬ nI 240 < p2) (hn : n = 20) (oa : Nat)  : Met l yL_add wsL_add ({ frames := 7, cells := 1, slots := 6, locals := 106 }) (va_Pc [.ref (ax 0), .int p0, .int p1, .int p2, .ref oa] (jRX (dC, dI) (jTY cI cJ cZ cO) ([jXo ax n mo, jXa cO ax ao]))) (va_Qi (fun r (_ : Unit) => r = nI 2) (fun _ _ => True) (fun _ => False)) 1 6 (fun _ => False) := by
  refine j_ofh (cc := cL_add) (maxL := 6) (ret := (some .int)) (by decide) rfl (Nat.le_of_ble_eq_true rfl) ?_
  intro p e s m below meth c ls hx hb hr hml hts hown hlocks htab hl hpre
  have hown : s.vm.findClass RL = some m.cls := hown
  have hl : lv_has ls 6 [(0, .ref (ax 0)), (1, .int p0), (2, .int p1), (3, .int p2), (4, .ref oa)] := hl
  obtain ⟨⟨hP, hK⟩, hX⟩ := hpre
  refine lv_aload hx hb dL_add_0 (lv_at hl 4 rfl) ?_
  refine lv_iconst (v := nI 0) hx hb dL_add_2 (by decide) ?_
  refine lv_aload_n hx hb dL_add_3 rfl (lv_at hl 0 rfl) ?_
  refine lv_iload_n hx hb dL_add_4 rfl (lv_at hl 1 rfl) ?_
  refine lv_iload_n hx hb dL_add_5 rfl (lv_at hl 2 rfl) ?_
  refine lv_iload_n hx hb dL_add_6 rfl (lv_at hl 3 rfl) ?_
  refine j_try (As := [.int p0, .int p1, .int p2]) (rest := [.int (nI 0), .ref oa]) (E := eS) (name := "java/lang/IllegalStateException") ⟨hx, hb, hml, hown, hts⟩ (x4_X1_add l dC dI cI cJ cZ cO ax ao n mo p0 p1 p2 hst hm h1 h2 h3 h4 h5 h6 hn) (cwV 3 hts gL_add_X1_add rfl rfl rfl (by decide +kernel) ⟨Nat.le_of_ble_eq_true rfl, Nat.le_of_ble_eq_true rfl⟩) (jRX_V hX hK hP [0, 1] rfl (ci := 1) (q0 := 0) rfl rfl rfl) rfl hl rfl (Nat.le_of_ble_eq_true rfl) dL_add_7 ⟨Nat.le_of_ble_eq_true rfl, Nat.le_of_ble_eq_true rfl⟩ [⟨0, 12, 15, 13⟩] ⟨0, 12, 19, 15⟩ [] (htab.trans rfl) (List.forall_mem_cons.mpr ⟨Or.inr ⟨by decide, _, (hts (.classLink RL 13 "java/lang/IllegalArgumentException") (List.mem_of_getElem? (i := 1) rfl)), hX.2.2.2.2.2 eS (by simp) eA (by simp) (by decide)⟩, List.forall_mem_nil _⟩) (by decide +kernel) (by decide) (hts (.classLink RL 15 "java/lang/IllegalStateException") (List.mem_of_getElem? (i := 2) rfl)) (va_Nw.use rfl (hX.2.2.2.1 eS (by simp))) (fun q9 H hz9 hk9 => ?_)
  refine lv_astore (lv' := [(5, .ref q9), (0, .ref (ax 0)), (1, .int p0), (2, .int p1), (3, .int p2), (4, .ref oa)]) hx hb dL_add_19 hl (by decide) rfl (fun ls hl => ?_)
  refine lv_iconst (v := nI 2) hx hb dL_add_21 (by decide) ?_
  refine W.widen (k := 1) (n := 6) (by decide) (by decide) ?_
  exact W.iret (v := nI 2) hx hb hr (fun t ht hW => ⟨⟨_, (), rfl, rfl, trivial⟩, by rw [ht]; exact hz9, fun q h1 _ => by rw [ht]; exact hk9 q h1⟩) (fun _ h => by cases h) dL_add_22
set_option maxHeartbeats 4000000 in
set_option maxRecDepth 100000 in
/-- the law calls setInflation: refused -/
theorem x1_L_setInflation (l : Launch) (dC : Nat → ClassId) (dI : Nat → Nat → Nat) (cI cJ cZ cO : ClassId) (ax : Nat → Nat) (ao : Nat → Option Nat) (n mo : Nat) (p0 p1 : Int32) (hst : l.stackTraces = false) (h : p0 < nI 0 ∨ nI 19 < p0) (oa : Nat)  : Met l yL_setInflation wsL_setInflation ({ frames := 8, cells := 1, slots := 6, locals := 131 }) (va_Pc [.ref (ax 0), .int p0, .int p1, .ref oa] (jRX (dC, dI) (jTY cI cJ cZ cO) ([jXo ax n mo, jXa cO ax ao]))) (va_Qi (fun r (_ : Unit) => r = nI 1) (fun _ _ => True) (fun _ => False)) 1 6 (fun _ => False) := by
  refine j_ofh (cc := cL_setInflation) (maxL := 5) (ret := (some .int)) (by decide) rfl (Nat.le_of_ble_eq_true rfl) ?_
  intro p e s m below meth c ls hx hb hr hml hts hown hlocks htab hl hpre
  have hown : s.vm.findClass RL = some m.cls := hown
  have hl : lv_has ls 5 [(0, .ref (ax 0)), (1, .int p0), (2, .int p1), (3, .ref oa)] := hl
  obtain ⟨⟨hP, hK⟩, hX⟩ := hpre
  refine lv_aload_n hx hb dL_setInflation_0 rfl (lv_at hl 3 rfl) ?_
  refine lv_iconst (v := nI 0) hx hb dL_setInflation_1 (by decide) ?_
  refine lv_aload_n hx hb dL_setInflation_2 rfl (lv_at hl 0 rfl) ?_
  refine lv_iload_n hx hb dL_setInflation_3 rfl (lv_at hl 1 rfl) ?_
  refine lv_iload_n hx hb dL_setInflation_4 rfl (lv_at hl 2 rfl) ?_
  refine j_try (As := [.int p0, .int p1]) (rest := [.int (nI 0), .ref oa]) (E := eA) (name := "java/lang/IllegalArgumentException") ⟨hx, hb, hml, hown, hts⟩ (x1_X1_setInflation l dC dI cI cJ cZ cO ax ao n mo p0 p1 hst h) (cwV 2 hts gL_setInflation_X1_setInflation rfl rfl rfl (by decide +kernel) ⟨Nat.le_of_ble_eq_true rfl, Nat.le_of_ble_eq_true rfl⟩) (jRX_V hX hK hP [0, 1] rfl (ci := 1) (q0 := 0) rfl rfl rfl) rfl hl rfl (Nat.le_of_ble_eq_true rfl) dL_setInflation_5 ⟨Nat.le_of_ble_eq_true rfl, Nat.le_of_ble_eq_true rfl⟩ [] ⟨0, 10, 13, 13⟩ [] (htab.trans rfl) (List.forall_mem_nil _) (by decide +kernel) (by decide) (hts (.classLink RL 13 "java/lang/IllegalArgumentException") (List.mem_of_getElem? (i := 1) rfl)) (va_Nw.use rfl (hX.2.2.2.1 eA (by simp))) (fun q9 H hz9 hk9 => ?_)
  refine lv_astore (lv' := [(4, .ref q9), (0, .ref (ax 0)), (1, .int p0), (2, .int p1), (3, .ref oa)]) hx hb dL_setInflation_13 hl (by decide) rfl (fun ls hl => ?_)
  refine lv_iconst (v := nI 1) hx hb dL_setInflation_15 (by decide) ?_
  refine W.widen (k := 1) (n := 6) (by decide) (by decide) ?_
  exact W.iret (v := nI 1) hx hb hr (fun t ht hW => ⟨⟨_, (), rfl, rfl, trivial⟩, by rw [ht]; exact hz9, fun q h1 _ => by rw [ht]; exact hk9 q h1⟩) (fun _ h => by cases h) dL_setInflation_16
set_option maxHeartbeats 4000000 in
set_option maxRecDepth 100000 in
/-- the law calls setInflation: refused -/
theorem x2_L_setInflation (l : Launch) (dC : Nat → ClassId) (dI : Nat → Nat → Nat) (cI cJ cZ cO : ClassId) (ax : Nat → Nat) (ao : Nat → Option Nat) (n mo : Nat) (p0 p1 : Int32) (hst : l.stackTraces = false) (h1 : ¬ p0 < nI 0) (h2 : ¬ nI 19 < p0) (h : p1 < (-100) ∨ nI 300 < p1) (oa : Nat)  : Met l yL_setInflation wsL_setInflation ({ frames := 8, cells := 1, slots := 6, locals := 131 }) (va_Pc [.ref (ax 0), .int p0, .int p1, .ref oa] (jRX (dC, dI) (jTY cI cJ cZ cO) ([jXo ax n mo, jXa cO ax ao]))) (va_Qi (fun r (_ : Unit) => r = nI 1) (fun _ _ => True) (fun _ => False)) 1 6 (fun _ => False) := by
  refine j_ofh (cc := cL_setInflation) (maxL := 5) (ret := (some .int)) (by decide) rfl (Nat.le_of_ble_eq_true rfl) ?_
  intro p e s m below meth c ls hx hb hr hml hts hown hlocks htab hl hpre
  have hown : s.vm.findClass RL = some m.cls := hown
  have hl : lv_has ls 5 [(0, .ref (ax 0)), (1, .int p0), (2, .int p1), (3, .ref oa)] := hl
  obtain ⟨⟨hP, hK⟩, hX⟩ := hpre
  refine lv_aload_n hx hb dL_setInflation_0 rfl (lv_at hl 3 rfl) ?_
  refine lv_iconst (v := nI 0) hx hb dL_setInflation_1 (by decide) ?_
  refine lv_aload_n hx hb dL_setInflation_2 rfl (lv_at hl 0 rfl) ?_
  refine lv_iload_n hx hb dL_setInflation_3 rfl (lv_at hl 1 rfl) ?_
  refine lv_iload_n hx hb dL_setInflation_4 rfl (lv_at hl 2 rfl) ?_
  refine j_try (As := [.int p0, .int p1]) (rest := [.int (nI 0), .ref oa]) (E := eA) (name := "java/lang/IllegalArgumentException") ⟨hx, hb, hml, hown, hts⟩ (x2_X1_setInflation l dC dI cI cJ cZ cO ax ao n mo p0 p1 hst h1 h2 h) (cwV 2 hts gL_setInflation_X1_setInflation rfl rfl rfl (by decide +kernel) ⟨Nat.le_of_ble_eq_true rfl, Nat.le_of_ble_eq_true rfl⟩) (jRX_V hX hK hP [0, 1] rfl (ci := 1) (q0 := 0) rfl rfl rfl) rfl hl rfl (Nat.le_of_ble_eq_true rfl) dL_setInflation_5 ⟨Nat.le_of_ble_eq_true rfl, Nat.le_of_ble_eq_true rfl⟩ [] ⟨0, 10, 13, 13⟩ [] (htab.trans rfl) (List.forall_mem_nil _) (by decide +kernel) (by decide) (hts (.classLink RL 13 "java/lang/IllegalArgumentException") (List.mem_of_getElem? (i := 1) rfl)) (va_Nw.use rfl (hX.2.2.2.1 eA (by simp))) (fun q9 H hz9 hk9 => ?_)
  refine lv_astore (lv' := [(4, .ref q9), (0, .ref (ax 0)), (1, .int p0), (2, .int p1), (3, .ref oa)]) hx hb dL_setInflation_13 hl (by decide) rfl (fun ls hl => ?_)
  refine lv_iconst (v := nI 1) hx hb dL_setInflation_15 (by decide) ?_
  refine W.widen (k := 1) (n := 6) (by decide) (by decide) ?_
  exact W.iret (v := nI 1) hx hb hr (fun t ht hW => ⟨⟨_, (), rfl, rfl, trivial⟩, by rw [ht]; exact hz9, fun q h1 _ => by rw [ht]; exact hk9 q h1⟩) (fun _ h => by cases h) dL_setInflation_16
set_option maxHeartbeats 4000000 in
set_option maxRecDepth 100000 in
/-- the law calls run: refused -/
theorem x1_L_run (l : Launch) (dC : Nat → ClassId) (dI : Nat → Nat → Nat) (cI cJ cZ cO : ClassId) (ax : Nat → Nat) (n mo : Nat) (hst : l.stackTraces = false) (hm : mo = 240) (oa : Nat)  : Met l yL_run wsL_run ({ frames := 7, cells := 1, slots := 6, locals := 108 }) (va_Pc [.ref (ax 0), .ref oa] (jRX (dC, dI) (jTY cI cJ cZ cO) ([jXo ax n mo]))) (va_Qi (fun r (_ : Unit) => r = nI 1) (fun _ _ => True) (fun _ => False)) 1 6 (fun _ => False) := by
  refine j_ofh (cc := cL_run) (maxL := 3) (ret := (some .int)) (by decide) rfl (Nat.le_of_ble_eq_true rfl) ?_
  intro p e s m below meth c ls hx hb hr hml hts hown hlocks htab hl hpre
  have hown : s.vm.findClass RL = some m.cls := hown
  have hl : lv_has ls 3 [(0, .ref (ax 0)), (1, .ref oa)] := hl
  obtain ⟨⟨hP, hK⟩, hX⟩ := hpre
  refine lv_aload_n hx hb dL_run_0 rfl (lv_at hl 1 rfl) ?_
  refine lv_iconst (v := nI 0) hx hb dL_run_1 (by decide) ?_
  refine lv_aload_n hx hb dL_run_2 rfl (lv_at hl 0 rfl) ?_
  refine j_try (As := []) (rest := [.int (nI 0), .ref oa]) (E := eS) (name := "java/lang/IllegalStateException") ⟨hx, hb, hml, hown, hts⟩ (x1_X1_run l dC dI cI cJ cZ cO ax n mo hst hm) (cwV 0 hts gL_run_X1_run rfl rfl rfl (by decide +kernel) ⟨Nat.le_of_ble_eq_true rfl, Nat.le_of_ble_eq_true rfl⟩) (jRX_V hX hK hP [0] rfl (ci := 1) (q0 := 0) rfl rfl rfl) rfl hl rfl (Nat.le_of_ble_eq_true rfl) dL_run_3 ⟨Nat.le_of_ble_eq_true rfl, Nat.le_of_ble_eq_true rfl⟩ [] ⟨0, 7, 10, 15⟩ [] (htab.trans rfl) (List.forall_mem_nil _) (by decide +kernel) (by decide) (hts (.classLink RL 15 "java/lang/IllegalStateException") (List.mem_of_getElem? (i := 1) rfl)) (va_Nw.use rfl (hX.2.2.2.1 eS (by simp))) (fun q9 H hz9 hk9 => ?_)
  refine lv_astore_n (lv' := [(2, .ref q9), (0, .ref (ax 0)), (1, .ref oa)]) hx hb dL_run_10 rfl hl (by decide) rfl (fun ls hl => ?_)
  refine lv_iconst (v := nI 1) hx hb dL_run_11 (by decide) ?_
  refine W.widen (k := 1) (n := 6) (by decide) (by decide) ?_
  exact W.iret (v := nI 1) hx hb hr (fun t ht hW => ⟨⟨_, (), rfl, rfl, trivial⟩, by rw [ht]; exact hz9, fun q h1 _ => by rw [ht]; exact hk9 q h1⟩) (fun _ h => by cases h) dL_run_12
