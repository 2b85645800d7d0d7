/-! the law: a round, the loop, the beginning -/
section QLa
variable {p : Program} {l : Launch} {e : Env} {s : State} {m : MethodId} {below : List Frame} {meth : Method} {c : Code} {dC : Nat → ClassId} {dI : Nat → Nat → Nat} {cI cJ cO : ClassId} {b L : Nat} {xs : Nat → Int32} {ai ax : Nat → Nat} {Q : State → Prop} {i cells slots n mo : Nat} {iv : Nat → Int32} {aa an : Nat → Nat → Nat} {kp : Nat → Int64} {py : Nat → Nat → Int64} {K : Nat → Nat} {f0 f1 f2 f3 : Nat → Int32} {a : Nat} {H : Heap} {locs : List Loc} {ls : Array Slot}
theorem qNx_w {pc k1 n1 k2 n2 : Nat} (h : qNx p l e s m below meth c dC dI cI cJ cO b ai ax Q pc i k2 n2) (h1 : k1 ≤ k2) (h2 : n1 ≤ n2) : qNx p l e s m below meth c dC dI cI cJ cO b ai ax Q pc i k1 n1 :=
  fun n mo iv aa an kp py K f1 f2 f3 H locs ls hI hP hD hS hl => W.widen h1 h2 (h n mo iv aa an kp py K f1 f2 f3 H locs ls hI hP hD hS hl)
/-- behind an operation: the rest of the round -/
theorem lo_737 (hA9 : qAt p l s m c dC dI cI cJ cO b L xs) (hi9 : i < 1000) (hrc : cells + 4 ≤ 863873) (hrs : slots + 24 ≤ 6509848) (go : qNx p l e s m below meth c dC dI cI cJ cO b ai ax Q 86 (i + 1) (cells + 4) (slots + 24)) : qGo p l e s m below meth c dC dI cI cJ cO b ai ax Q 737 i cells slots := by
  intro n mo iv aa an kp py K f1 f2 f3 a H locs ls hI ha hP hD hS hl
  exact lo_owes hA9 hP hD hS hl hI (by omega) (by omega) (fun ls hl => lo_tail hA9 hP hD hS hl hI ha hi9 hrc hrs go)
set_option maxHeartbeats 4000000 in
set_option maxRecDepth 100000 in
/-- a round -/
theorem lo_round  (hA9 : qAt p l s m c dC dI cI cJ cO b L xs) (hP : va_P (dC, dI) vwCl (qW cI cJ cO ai iv f1 f2 f3 ax n mo iv aa an kp py) H) (hD : va_D (fun q => s.heap.size ≤ q) (qW cI cJ cO ai iv f1 f2 f3 ax n mo iv aa an kp py)) (hS : va_S (fun q => s.heap.size ≤ q) s.heap H locs) (hl : lv_has ls 21 [(0, .ref b), (1, .ref (ax 0)), (2, .ref (ai 0)), (3, .ref (ai 1)), (4, .ref (ai 2)), (5, .ref (ai 3)), (6, .int (nI n)), (7, .int (nI 1)), (8, .int (nI i))]) (hL : L ≤ 260) (hI : qInv n mo an kp K f1 f2 f3) (hi9 : i < 30) (hrc : cells + 124 ≤ 863873) (hrs : slots + 744 ≤ 6509848) (go : qNx p l e s m below meth c dC dI cI cJ cO b ai ax Q 86 (i + 1) (cells + 124) (slots + 744)) : W p l e room_1 s m #[Value.ref b] below meth c H locs cells slots Q (F0 m 86 ls []) := by
  obtain ⟨hx, hb, hml, hown, hts, hX, hbl, hst, hZ, hK⟩ := id hA9
  have hbA : ¬ s.heap.size ≤ b := Nat.not_le.mpr hbl
  obtain ⟨hn6, hm, hn0, hall⟩ := id hI
  refine lv_iload hx hb dL_law_86 (lv_at hl 8 rfl) ?_
  refine lv_bipush (v := nI 30) hx hb dL_law_88 (by decide) ?_
  refine lv_icmp_ge (tgt := 952) hx hb dL_law_90 (by decide) (fun c_90 => ?_) (fun c_90 => ?_)
  · have c_90 : 30 ≤ i := (nI_leI (a := 30) (b := i) (by omega) (by omega)).mp c_90
    omega
  · have c_90 : ¬ (30 ≤ i) := fun h => c_90 ((nI_leI (a := 30) (b := i) (by omega) (by omega)).mpr h)
    refine lv_iload hx hb dL_law_93 (lv_at hl 7 rfl) ?_
    refine lv_if_eq (tgt := 952) hx hb dL_law_95 (by decide) (fun c_95 => ?_) (fun c_95 => ?_)
    · have c_95 : 1 = 0 := (nI_eq (a := 1) (b := 0) (by omega) (by omega)).mp c_95
      omega
    · have c_95 : ¬ (1 = 0) := fun h => c_95 ((nI_eq (a := 1) (b := 0) (by omega) (by omega)).mpr h)
      refine lv_aload_n hx hb dL_law_98 rfl (lv_at hl 0 rfl) ?_
      refine lv_iload hx hb dL_law_99 (lv_at hl 8 rfl) ?_
      refine q_cell rfl ⟨hx, hb, hml, hown, hts⟩ (c_L_cell l b L xs i hL (by omega)) (cwS 2 hts gL_law_L_cell rfl rfl rfl (by decide +kernel) ⟨Nat.le_of_ble_eq_true rfl, Nat.le_of_ble_eq_true rfl⟩) hX hbl hbA hS hl (Nat.le_of_ble_eq_true rfl) dL_law_101 (show cells ≤ 863873 ∧ slots ≤ 6509848 from ⟨by omega, by omega⟩) (fun y hy9 => ?_)
      refine lv_istore (lv' := [(9, .int (nI y)), (0, .ref b), (1, .ref (ax 0)), (2, .ref (ai 0)), (3, .ref (ai 1)), (4, .ref (ai 2)), (5, .ref (ai 3)), (6, .int (nI n)), (7, .int (nI 1)), (8, .int (nI i))]) hx hb dL_law_104 hl (by decide) rfl (fun ls hl => ?_)
      refine lv_iload hx hb dL_law_106 (lv_at hl 0 rfl) ?_
      refine lv_bipush (v := nI 8) hx hb dL_law_108 (by decide) ?_
      refine lv_idiv hx hb dL_law_110 (by decide) ?_
      refine j_i (y := nI (y / 8)) (pk_div (by omega) (by omega) (by omega)) ?_
      refine lv_istore (lv' := [(10, .int (nI (y / 8))), (9, .int (nI y)), (0, .ref b), (1, .ref (ax 0)), (2, .ref (ai 0)), (3, .ref (ai 1)), (4, .ref (ai 2)), (5, .ref (ai 3)), (6, .int (nI n)), (7, .int (nI 1)), (8, .int (nI i))]) hx hb dL_law_111 hl (by decide) rfl (fun ls hl => ?_)
      refine lv_iload hx hb dL_law_113 (lv_at hl 8 rfl) ?_
      refine j_join (fun a : Nat => a ≤ n ∧ (n ≠ 0 → a < n)) (fun a => F0 m 127 ls [.int (nI a)]) (fun a ha => ?_) (fun J127 => ?_)
      · refine lv_istore (lv' := [(11, .int (nI a)), (10, .int (nI (y / 8))), (9, .int (nI y)), (0, .ref b), (1, .ref (ax 0)), (2, .ref (ai 0)), (3, .ref (ai 1)), (4, .ref (ai 2)), (5, .ref (ai 3)), (6, .int (nI n)), (7, .int (nI 1)), (8, .int (nI i))]) hx hb dL_law_127 hl (by decide) rfl (fun ls hl => ?_)
        refine lv_iload hx hb dL_law_129 (lv_at hl 1 rfl) ?_
        refine lv_iconst (v := nI 4) hx hb dL_law_131 (by decide) ?_
        refine lv_idiv hx hb dL_law_132 (by decide) ?_
        refine j_i (y := nI ((y / 8) / 4)) (pk_div (by omega) (by omega) (by omega)) ?_
        have hv9 : y / 8 / 4 < 2 ^ 31 := by omega
        generalize y / 8 / 4 = v at hv9 ⊢
        refine lv_istore (lv' := [(12, .int (nI v)), (11, .int (nI a)), (10, .int (nI (y / 8))), (9, .int (nI y)), (0, .ref b), (1, .ref (ax 0)), (2, .ref (ai 0)), (3, .ref (ai 1)), (4, .ref (ai 2)), (5, .ref (ai 3)), (6, .int (nI n)), (7, .int (nI 1)), (8, .int (nI i))]) hx hb dL_law_133 hl (by decide) rfl (fun ls hl => ?_)
        refine lv_aload_n hx hb dL_law_135 rfl (lv_at hl 5 rfl) ?_
        refine j_cI_ (As := []) (rest := []) ⟨hx, hb, hml, hown, hts⟩ (c_X1_month l dC dI cI cJ cI cO ax n mo) (cwV 0 hts gL_law_X1_month rfl rfl rfl (by decide +kernel) ⟨Nat.le_of_ble_eq_true rfl, Nat.le_of_ble_eq_true rfl⟩) (jR_V hK hP [4] rfl (ci := 1) (q0 := 4) rfl rfl rfl) rfl hl rfl (Nat.le_of_ble_eq_true rfl) dL_law_136 (show cells ≤ 863873 ∧ slots ≤ 6509848 from ⟨by omega, by omega⟩) (fun r_136 hr_136 => ?_)
        subst hr_136
        refine lv_istore (lv' := [(13, .int (nI mo)), (12, .int (nI v)), (11, .int (nI a)), (10, .int (nI (y / 8))), (9, .int (nI y)), (0, .ref b), (1, .ref (ax 0)), (2, .ref (ai 0)), (3, .ref (ai 1)), (4, .ref (ai 2)), (5, .ref (ai 3)), (6, .int (nI n)), (7, .int (nI 1)), (8, .int (nI i))]) hx hb dL_law_139 hl (by decide) rfl (fun ls hl => ?_)
        refine j_join (fun _ : Unit => n < 6 ∧ mo < 240) (fun _ => F0 m 170 ls []) (fun _ hu9 => ?_) (fun J170 => ?_)
        · exact lo_add hA9 hP hD hS (lv_sub hl [5, 6, 7, 8, 9, 10, 11, 12, 13, 2, 1, 0] rfl) hv9 hI hu9.1 hu9.2 ha.1 (by omega) (by omega) (lo_737 hA9 (by omega) (by omega) (by omega) (qNx_w go (by omega) (by omega)))
        refine j_join (fun u9 : Unit => True) (fun u9 => F0 m 165 ls []) (fun u9 hu9 => ?_) (fun J165 => ?_)
        · refine lv_iload hx hb dL_law_165 (lv_at hl 11 rfl) ?_
          refine lv_if_ne (tgt := 315) hx hb dL_law_167 (by decide) (fun c_167 => ?_) (fun c_167 => ?_)
          · have c_167 : ¬ (n = 0) := fun h => c_167 ((nI_eq (a := n) (b := 0) (by omega) (by omega)).mpr h)
            have ha9 : a < n := ha.2 c_167
            refine lv_iload hx hb dL_law_315 (lv_at hl 4 rfl) ?_
            refine lv_bipush (v := nI 8) hx hb dL_law_317 (by decide) ?_
            refine lv_irem hx hb dL_law_319 (by decide) ?_
            refine j_i (y := nI (y % 8)) (pk_rem (by omega) (by omega) (by omega)) ?_
            refine lv_iconst (v := nI 5) hx hb dL_law_320 (by decide) ?_
            refine lv_icmp_ge (tgt := 517) hx hb dL_law_321 (by decide) (fun c_321 => ?_) (fun c_321 => ?_)
            · have c_321 : 5 ≤ y % 8 := (nI_leI (a := 5) (b := y % 8) (by omega) (by omega)).mp c_321
              refine lv_iload hx hb dL_law_517 (lv_at hl 4 rfl) ?_
              refine lv_bipush (v := nI 8) hx hb dL_law_519 (by decide) ?_
              refine lv_irem hx hb dL_law_521 (by decide) ?_
              refine j_i (y := nI (y % 8)) (pk_rem (by omega) (by omega) (by omega)) ?_
              refine lv_iconst (v := nI 5) hx hb dL_law_522 (by decide) ?_
              refine lv_icmp_ne (tgt := 578) hx hb dL_law_523 (by decide) (fun c_523 => ?_) (fun c_523 => ?_)
              · have c_523 : ¬ (y % 8 = 5) := fun h => c_523 ((nI_eq (a := y % 8) (b := 5) (by omega) (by omega)).mpr h)
                rcases (show v % 2 = 0 ∨ v % 2 = 1 by omega) with hlf | hlf
                · exact lo_die0 hA9 hP hD hS (lv_sub hl [5, 6, 7, 8, 9, 10, 11, 12, 13, 2, 4, 1, 0] rfl) hlf hy9 hv9 hI ha9 (by omega) (by omega) (lo_737 hA9 (by omega) (by omega) (by omega) (qNx_w go (by omega) (by omega)))
                · exact lo_die1 hA9 hP hD hS (lv_sub hl [5, 6, 7, 8, 9, 10, 11, 12, 13, 2, 4, 1, 0] rfl) hlf hy9 hv9 hI ha9 (by omega) (by omega) (lo_737 hA9 (by omega) (by omega) (by omega) (qNx_w go (by omega) (by omega)))
              · have c_523 : y % 8 = 5 := (nI_eq (a := y % 8) (b := 5) (by omega) (by omega)).mp c_523
                exact lo_infl hA9 hP hD hS (lv_sub hl [5, 6, 7, 8, 9, 10, 11, 12, 13, 2, 1] rfl) hI ha9 hv9 (by omega) (by omega) (lo_737 hA9 (by omega) (by omega) (by omega) (qNx_w go (by omega) (by omega)))
            · have c_321 : ¬ (5 ≤ y % 8) := fun h => c_321 ((nI_leI (a := 5) (b := y % 8) (by omega) (by omega)).mpr h)
              exact lo_run hA9 hP hD hS (lv_sub hl [5, 6, 7, 8, 9, 10, 11, 12, 13, 2, 1] rfl) hv9 hI ha9 (by omega) (by omega) (lo_737 hA9 (by omega) (by omega) (by omega) (qNx_w go (by omega) (by omega)))
          · have c_167 : n = 0 := (nI_eq (a := n) (b := 0) (by omega) (by omega)).mp c_167
            exact J170 () ⟨by omega, by omega⟩
        refine lv_iload hx hb dL_law_141 (lv_at hl 4 rfl) ?_
        refine lv_bipush (v := nI 8) hx hb dL_law_143 (by decide) ?_
        refine lv_irem hx hb dL_law_145 (by decide) ?_
        refine j_i (y := nI (y % 8)) (pk_rem (by omega) (by omega) (by omega)) ?_
        refine lv_iconst (v := nI 2) hx hb dL_law_146 (by decide) ?_
        refine lv_icmp_ge (tgt := 165) hx hb dL_law_147 (by decide) (fun c_147 => ?_) (fun c_147 => ?_)
        · have c_147 : 2 ≤ y % 8 := (nI_leI (a := 2) (b := y % 8) (by omega) (by omega)).mp c_147
          exact J165 () trivial
        · have c_147 : ¬ (2 ≤ y % 8) := fun h => c_147 ((nI_leI (a := 2) (b := y % 8) (by omega) (by omega)).mpr h)
          refine lv_iload hx hb dL_law_150 (lv_at hl 11 rfl) ?_
          refine lv_bipush (v := nI 6) hx hb dL_law_152 (by decide) ?_
          refine lv_icmp_ge (tgt := 165) hx hb dL_law_154 (by decide) (fun c_154 => ?_) (fun c_154 => ?_)
          · have c_154 : 6 ≤ n := (nI_leI (a := 6) (b := n) (by omega) (by omega)).mp c_154
            exact J165 () trivial
          · have c_154 : ¬ (6 ≤ n) := fun h => c_154 ((nI_leI (a := 6) (b := n) (by omega) (by omega)).mpr h)
            refine lv_iload hx hb dL_law_157 (lv_at hl 0 rfl) ?_
            refine lv_sipush (v := nI 240) hx hb dL_law_159 (by decide) ?_
            refine lv_icmp_lt (tgt := 170) hx hb dL_law_162 (by decide) (fun c_162 => ?_) (fun c_162 => ?_)
            · have c_162 : mo < 240 := (nI_ltI (a := mo) (b := 240) (by omega) (by omega)).mp c_162
              exact J170 () ⟨by omega, by omega⟩
            · have c_162 : ¬ (mo < 240) := fun h => c_162 ((nI_ltI (a := mo) (b := 240) (by omega) (by omega)).mpr h)
              exact J165 () trivial
      refine lv_if_ne (tgt := 122) hx hb dL_law_115 (by decide) (fun c_115 => ?_) (fun c_115 => ?_)
      · have c_115 : ¬ (n = 0) := fun h => c_115 ((nI_eq (a := n) (b := 0) (by omega) (by omega)).mpr h)
        refine lv_iload hx hb dL_law_122 (lv_at hl 0 rfl) ?_
        refine lv_iload hx hb dL_law_124 (lv_at hl 8 rfl) ?_
        refine lv_irem hx hb dL_law_126 (fun h0 => c_115 ((nI_eq (a := n) (b := 0) (by omega) (by decide)).mp h0)) ?_
        refine j_i (y := nI (y / 8 % n)) (pk_rem (by omega) (by omega) (by omega)) ?_
        exact J127 (y / 8 % n) ⟨Nat.le_of_lt (Nat.mod_lt _ (by omega)), fun _ => Nat.mod_lt _ (by omega)⟩
      · have c_115 : n = 0 := (nI_eq (a := n) (b := 0) (by omega) (by omega)).mp c_115
        refine lv_iconst (v := nI 0) hx hb dL_law_118 (by decide) ?_
        refine lv_goto (tgt := 127) hx hb dL_law_119 (by decide) ?_
        exact J127 0 ⟨Nat.zero_le _, fun h => absurd c_115 h⟩
set_option maxHeartbeats 4000000 in
set_option maxRecDepth 100000 in
/-- nothing was told yet -/
theorem lo_begin  (hA9 : qAt p l s m c dC dI cI cJ cO b L xs) (hP : va_P (dC, dI) vwCl (qW cI cJ cO ai (fun _ => 0) (fun _ => 0) (fun _ => 0) (fun _ => 0) ax 0 0 (fun _ => 0) aa an kp py) H) (hD : va_D (fun q => s.heap.size ≤ q) (qW cI cJ cO ai (fun _ => 0) (fun _ => 0) (fun _ => 0) (fun _ => 0) ax 0 0 (fun _ => 0) aa an kp py)) (hS : va_S (fun q => s.heap.size ≤ q) s.heap H locs) (hl : lv_has ls 21 [(0, .ref b), (1, .ref (ax 0)), (2, .ref (ai 0)), (3, .ref (ai 1)), (4, .ref (ai 2)), (5, .ref (ai 3))]) (hrc : cells + 3 ≤ 863873) (hrs : slots + 18 ≤ 6509848) (go : qNx p l e s m below meth c dC dI cI cJ cO b ai ax Q 86 0 (cells + 3) (slots + 18)) : W p l e room_1 s m #[Value.ref b] below meth c H locs cells slots Q (F0 m 30 ls []) := by
  obtain ⟨hx, hb, hml, hown, hts, hX, hbl, hst, hZ, hK⟩ := id hA9
  have hbA : ¬ s.heap.size ≤ b := Nat.not_le.mpr hbl
  refine lv_iconst (v := nI 0) hx hb dL_law_30 (by decide) ?_
  refine lv_istore (lv' := [(6, .int (nI 0)), (0, .ref b), (1, .ref (ax 0)), (2, .ref (ai 0)), (3, .ref (ai 1)), (4, .ref (ai 2)), (5, .ref (ai 3))]) hx hb dL_law_31 hl (by decide) rfl (fun ls hl => ?_)
  refine lv_aload_n hx hb dL_law_33 rfl (lv_at hl 2 rfl) ?_
  refine j_cI_ (As := []) (rest := []) ⟨hx, hb, hml, hown, hts⟩ (c_X1_month l dC dI cI cJ cI cO ax 0 0) (cwV 0 hts gL_law_X1_month rfl rfl rfl (by decide +kernel) ⟨Nat.le_of_ble_eq_true rfl, Nat.le_of_ble_eq_true rfl⟩) (jR_V hK hP [4] rfl (ci := 1) (q0 := 4) rfl rfl rfl) rfl hl rfl (Nat.le_of_ble_eq_true rfl) dL_law_34 (show cells ≤ 863873 ∧ slots ≤ 6509848 from ⟨by omega, by omega⟩) (fun r_34 hr_34 => ?_)
  subst hr_34
  refine lv_if_ne (tgt := 80) hx hb dL_law_37 (by decide) (fun c_37 => ?_) (fun c_37 => ?_)
  · have c_37 : ¬ (0 = 0) := fun h => c_37 ((nI_eq (a := 0) (b := 0) (by omega) (by omega)).mpr h)
    omega
  · have c_37 : 0 = 0 := (nI_eq (a := 0) (b := 0) (by omega) (by omega)).mp c_37
    refine lv_aload_n hx hb dL_law_40 rfl (lv_at hl 2 rfl) ?_
    refine lv_iconst (v := nI 0) hx hb dL_law_41 (by decide) ?_
    have hX9 : jX (fun _ => False) s H := jX.narrow (jX.kept hZ (fun a h1 h2 => hS.2.1 a h1 h2)) (fun _ h => h.elim)
    refine q_xL (As := [.ref (ax 0), .int (nI 0)]) (rest := []) ⟨hx, hb, hml, hown, hts⟩ (x1_L_paidAll l dC dI cI cJ cI cO ax (jao aa 0) 0 0 (nI 0) hst (Nat.zero_le _) (fun j _ => if_neg (Nat.not_lt_zero j)) (fun h => h (Or.inr (Nat.zero_le _)))) (vx_cwSW 2 hts gL_law_L_paidAll rfl rfl rfl (by decide +kernel) ⟨Nat.le_of_ble_eq_true rfl, Nat.le_of_ble_eq_true rfl⟩) hX9 hK (j_subP hP q_s2) rfl hl rfl (Nat.le_of_ble_eq_true rfl) dL_law_42 (show cells + 1 ≤ 863873 ∧ slots + 6 ≤ 6509848 from ⟨by omega, by omega⟩) hS (fun H1 locs _ hk1 hS => ?_)
    have hP := j_keep hP hk1
    clear hk1 hX9
    generalize H1 = H at hP hS ⊢
    refine lv_ldc2 hx hb hown (hts (.constantLong RL 53 (-101)) (List.mem_of_getElem? (i := 4) rfl)) dL_law_45 ?_
    refine W.lcmp hx hb dL_law_48 ?_
    refine lv_if_ne (tgt := 80) hx hb dL_law_49 (by decide) (fun c_49 => ?_) (fun c_49 => ?_)
    · exact absurd (jcmp0 _) c_49
    · refine lv_aload_n hx hb dL_law_52 rfl (lv_at hl 2 rfl) ?_
      refine lv_iconst (v := nI 0) hx hb dL_law_53 (by decide) ?_
      have hX9 : jX (fun _ => False) s H := jX.narrow (jX.kept hZ (fun a h1 h2 => hS.2.1 a h1 h2)) (fun _ h => h.elim)
      refine q_xL (As := [.ref (ax 0), .int (nI 0)]) (rest := []) ⟨hx, hb, hml, hown, hts⟩ (x1_L_owes l dC dI cI cJ cI cO ax (jao aa 0) 0 0 (nI 0) hst (Nat.zero_le _) (fun j _ => if_neg (Nat.not_lt_zero j)) (fun h => h (Or.inr (Nat.zero_le _)))) (vx_cwSW 2 hts gL_law_L_owes rfl rfl rfl (by decide +kernel) ⟨Nat.le_of_ble_eq_true rfl, Nat.le_of_ble_eq_true rfl⟩) hX9 hK (j_subP hP q_s2) rfl hl rfl (Nat.le_of_ble_eq_true rfl) dL_law_54 (show cells + 1 + 1 ≤ 863873 ∧ slots + 6 + 6 ≤ 6509848 from ⟨by omega, by omega⟩) hS (fun H1 locs _ hk1 hS => ?_)
      have hP := j_keep hP hk1
      clear hk1 hX9
      generalize H1 = H at hP hS ⊢
      refine lv_ldc2 hx hb hown (hts (.constantLong RL 53 (-101)) (List.mem_of_getElem? (i := 4) rfl)) dL_law_57 ?_
      refine W.lcmp hx hb dL_law_60 ?_
      refine lv_if_ne (tgt := 80) hx hb dL_law_61 (by decide) (fun c_61 => ?_) (fun c_61 => ?_)
      · exact absurd (jcmp0 _) c_61
      · refine lv_aload_n hx hb dL_law_64 rfl (lv_at hl 2 rfl) ?_
        refine lv_iconst (v := nI 0) hx hb dL_law_65 (by decide) ?_
        have hX9 : jX (fun _ => False) s H := jX.narrow (jX.kept hZ (fun a h1 h2 => hS.2.1 a h1 h2)) (fun _ h => h.elim)
        refine q_xL (As := [.ref (ax 0), .int (nI 0)]) (rest := []) ⟨hx, hb, hml, hown, hts⟩ (x1_L_protection l dC dI cI cJ cI cO ax (jao aa 0) 0 0 (nI 0) hst (Nat.zero_le _) (fun j _ => if_neg (Nat.not_lt_zero j)) (fun h => h (Or.inr (Nat.zero_le _)))) (vx_cwSW 2 hts gL_law_L_protection rfl rfl rfl (by decide +kernel) ⟨Nat.le_of_ble_eq_true rfl, Nat.le_of_ble_eq_true rfl⟩) hX9 hK (j_subP hP q_s2) rfl hl rfl (Nat.le_of_ble_eq_true rfl) dL_law_66 (show cells + 1 + 1 + 1 ≤ 863873 ∧ slots + 6 + 6 + 6 ≤ 6509848 from ⟨by omega, by omega⟩) hS (fun H1 locs _ hk1 hS => ?_)
        have hP := j_keep hP hk1
        clear hk1 hX9
        generalize H1 = H at hP hS ⊢
        refine lv_ldc2 hx hb hown (hts (.constantLong RL 53 (-101)) (List.mem_of_getElem? (i := 4) rfl)) dL_law_69 ?_
        refine W.lcmp hx hb dL_law_72 ?_
        refine lv_if_ne (tgt := 80) hx hb dL_law_73 (by decide) (fun c_73 => ?_) (fun c_73 => ?_)
        · exact absurd (jcmp0 _) c_73
        · refine lv_iconst (v := nI 1) hx hb dL_law_76 (by decide) ?_
          refine lv_goto (tgt := 81) hx hb dL_law_77 (by decide) ?_
          refine lv_istore (lv' := [(7, .int (nI 1)), (6, .int (nI 0)), (0, .ref b), (1, .ref (ax 0)), (2, .ref (ai 0)), (3, .ref (ai 1)), (4, .ref (ai 2)), (5, .ref (ai 3))]) hx hb dL_law_81 hl (by decide) rfl (fun ls hl => ?_)
          refine lv_iconst (v := nI 0) hx hb dL_law_83 (by decide) ?_
          refine lv_istore (lv' := [(8, .int (nI 0)), (7, .int (nI 1)), (6, .int (nI 0)), (0, .ref b), (1, .ref (ax 0)), (2, .ref (ai 0)), (3, .ref (ai 1)), (4, .ref (ai 2)), (5, .ref (ai 3))]) hx hb dL_law_84 hl (by decide) rfl (fun ls hl => ?_)
          exact W.widen (by omega) (by omega) (go 0 0 (fun _ => 0) aa an kp py (fun _ => 0) (fun _ => 0) (fun _ => 0) (fun _ => 0) H locs _ ⟨by decide, by decide, fun _ => rfl, fun k h => absurd h (Nat.not_lt_zero k)⟩ hP hD hS (lv_sub hl [3, 4, 5, 6, 7, 8, 2, 1, 0] rfl))
set_option maxHeartbeats 4000000 in
set_option maxRecDepth 100000 in
/-- the loop -/
theorem lo_loop (hA9 : qAt p l s m c dC dI cI cJ cO b L xs) (hr : meth.sig.returnType = ret) (hlocks : meth.locks = false) (hL : L ≤ 260) : ∀ (f i : Nat), i + f = 30 → qNx p l e s m below meth c dC dI cI cJ cO b ai ax (lw_Z below #[Value.ref b] s) 86 i (200 + 124 * i) (1000 + 744 * i) := by
  obtain ⟨hx, hb, hml, hown, hts, hX, hbl, hst, hZ, hK⟩ := id hA9
  intro f
  induction f with
  | zero =>
    intro i hf n mo iv aa an kp py K f1 f2 f3 H locs ls hI hP hD hS hl
    refine lv_iload hx hb dL_law_86 (lv_at hl 8 rfl) ?_
    refine lv_bipush (v := nI 30) hx hb dL_law_88 (by decide) ?_
    refine lv_icmp_ge (tgt := 952) hx hb dL_law_90 (by decide) (fun h => ?_) (fun h => ?_)
    · refine lv_iload hx hb dL_law_952 (lv_at hl 7 rfl) ?_
      refine j_i (y := 1) rfl ?_
      refine va_forget (fun q hq => hS.2.2 q hq) ?_
      refine W.widen (k := 863873) (n := 6509848) (by omega) (by omega) ?_
      exact lw_ret hx hb hr hlocks dL_law_954
    · exact absurd ((nI_leI (a := 30) (b := i) (by omega) (by omega)).mpr (by omega)) h
  | succ f ih =>
    intro i hf n mo iv aa an kp py K f1 f2 f3 H locs ls hI hP hD hS hl
    exact lo_round hA9 hP hD hS hl hL hI (by omega) (by omega) (by omega) (qNx_w (ih (i + 1) (by omega)) (by omega) (by omega))
end QLa
