/-! the rounds, case by case -/
section JLR
variable {p : Program} {l : Launch} {e : Env} {s : State} {m : MethodId} {below : List Frame} {meth : Method} {c : Code} {dC : Nat → ClassId} {dI : Nat → Nat → Nat} {cI cJ cZ cO : ClassId} {b L : Nat} {xs : Nat → Int32} {oa : Nat} {ax ad : Nat → Nat} {Q : State → Prop} {i cells slots n mo : Nat} {iv : Nat → Int32} {aa an : Nat → Nat → Nat} {kp T B : Nat → Int64} {py : Nat → Nat → Int64} {ov : Nat → Int64} {fu cy th : Int32} {H : Heap} {locs : List Loc} {ls : Array Slot}
set_option maxHeartbeats 4000000 in
set_option maxRecDepth 100000 in
theorem lw_add_c (h9 : jRd p l e s m below meth c dC dI cI cJ cZ cO b L xs oa ax ad Q i cells slots n mo iv aa an kp T B py ov fu cy th H locs ls) (sa : Nat) (ma : Nat) (ga : Nat) (hn2 : n < 20) (hs1 : mo ≤ sa) (hs2 : sa < 240) (h0 : 1 ≤ ma) (h1 : ma ≤ 100000) (h2 : ga ≤ 240) (e1 : xs (i + 1) = nI sa) (e2 : xs (i + 2) = nI ma) (e3 : xs (i + 3) = nI ga) : W p l e room_1 s m #[Value.ref b] below meth c H locs cells slots Q (F0 m 124 ls []) := by
  obtain ⟨⟨hx, hb, hml, hown, hts, hX, hbl, hst, hZ, hK⟩, hI, hP, hD, hS, hl, hrm, hi9, hL, go⟩ := id h9
  have hA9 := h9.1
  obtain ⟨hn, hm, hv, hkp, hfr⟩ := id hI
  have hbA : ¬ s.heap.size ≤ b := Nat.not_le.mpr hbl
  have hf0 : cells ≤ 601024 ∧ slots ≤ 7293034 := ⟨by omega, by omega⟩
  refine lv_aload_n hx hb dL_law_124 rfl (lv_at hl 1 rfl) ?_
  refine j_arg (v := nI sa) hx hb hX hbl hbA hS (lv_at hl 0 rfl) (lv_at hl 4 rfl) 1 rfl (by omega) hL e1 dL_law_125 dL_law_126 dL_law_128 dL_law_129 dL_law_130 ?_
  refine j_arg (v := nI ma) hx hb hX hbl hbA hS (lv_at hl 0 rfl) (lv_at hl 4 rfl) 2 rfl (by omega) hL e2 dL_law_131 dL_law_132 dL_law_134 dL_law_135 dL_law_136 ?_
  refine j_arg (v := nI ga) hx hb hX hbl hbA hS (lv_at hl 0 rfl) (lv_at hl 4 rfl) 3 rfl (by omega) hL e3 dL_law_137 dL_law_138 dL_law_140 dL_law_141 dL_law_142 ?_
  refine lv_aload_n hx hb dL_law_143 rfl (lv_at hl 3 rfl) ?_
  have hXp : va_P (dC, dI) vwCl (jLX cI cJ cO oa ov ax n mo iv aa) H := j_subP hP ((List.sublist_append_left _ _).trans (List.sublist_append_left _ _))
  have hXd : va_D (fun q => s.heap.size ≤ q) (jLX cI cJ cO oa ov ax n mo iv aa) := j_subD hD ((List.sublist_append_left _ _).trans (List.sublist_append_left _ _))
  have hf1 : cells + 5 ≤ 601024 ∧ slots + 295 ≤ 7293034 := hrm
  have hS9 := hS
  refine j_lN (As := [.ref (ax 0), .int (nI sa), .int (nI ma), .int (nI ga), .ref oa]) (rest := []) ⟨hx, hb, hml, hown, hts⟩ (c_L_add l dC dI cI cJ cZ cO oa ov ax (jao aa n) n mo iv H.size sa ma ga hn2 hs1 hs2 h0 h1 h2) (vx_cwSW 5 hts gL_law_L_add rfl rfl rfl (by decide +kernel) ⟨Nat.le_of_ble_eq_true rfl, Nat.le_of_ble_eq_true rfl⟩) hK hXp hXd rfl hl rfl (Nat.le_of_ble_eq_true rfl) dL_law_144 hf1 hS (fun q h => h) (fun u H1 locs hP1 hD1 hk1 hS => ?_)
  have hpn : (fun _ => 0 : Nat → Int64) = py n := (hfr n (Nat.le_refl n)).2.2.2.symm
  rw [hpn, jao_s] at hP1 hD1
  obtain ⟨hP, hD⟩ := jl_new (X' := jLX cI cJ cO oa (vp_updL ov 0 (nI n).toInt64) ax (n + 1) mo iv (jSet aa n u)) (N := jAW cI cJ u (jN sa ma ga) iv 0 (py n)) hP hD ((jl_adX cI cJ cO oa ov ax n mo iv aa).trans (jl_adX cI cJ cO oa _ ax (n + 1) mo iv (jSet aa n u)).symm) (fun q h => Nat.le_trans hS9.1 h) hk1 rfl hP1 hD1
  rw [jBl_new] at hP hD
  clear hP1 hD1 hk1 hXp hXd
  refine lv_istore (lv' := [(5, .int (nI 0)), (0, .ref b), (1, .ref (ax 0)), (2, .ref (ad 0)), (3, .ref oa), (4, .int (nI i))]) hx hb dL_law_147 hl (by decide) rfl (fun ls hl => ?_)
  refine lv_aload_n hx hb dL_law_149 rfl (lv_at hl 3 rfl) ?_
  refine j_arg (v := nI sa) hx hb hX hbl hbA hS (lv_at hl 1 rfl) (lv_at hl 5 rfl) 1 rfl (by omega) hL e1 dL_law_150 dL_law_151 dL_law_153 dL_law_154 dL_law_155 ?_
  refine j_arg (v := nI ma) hx hb hX hbl hbA hS (lv_at hl 1 rfl) (lv_at hl 5 rfl) 2 rfl (by omega) hL e2 dL_law_156 dL_law_157 dL_law_159 dL_law_160 dL_law_161 ?_
  refine j_arg (v := nI ga) hx hb hX hbl hbA hS (lv_at hl 1 rfl) (lv_at hl 5 rfl) 3 rfl (by omega) hL e3 dL_law_162 dL_law_163 dL_law_165 dL_law_166 dL_law_167 ?_
  refine j_mI (As := [.int (nI sa), .int (nI ma), .int (nI ga)]) (rest := []) ⟨hx, hb, hml, hown, hts⟩ (c_X2_add l dC dI cI cJ cZ cO ad n mo iv an T B py fu cy th sa ma ga hn hm hv hn2 hs1 hs2 h0 h1 h2 (hfr n (Nat.le_refl n)).1.1 (hfr n (Nat.le_refl n)).1.2.1 (hfr n (Nat.le_refl n)).1.2.2.1 (hfr n (Nat.le_refl n)).1.2.2.2) (cwV 3 hts gL_law_X2_add rfl rfl rfl (by decide +kernel) ⟨Nat.le_of_ble_eq_true rfl, Nat.le_of_ble_eq_true rfl⟩) hK hP hD rfl (jMW_adr _ _ _ _ _ _ _ _ _ _ _ _ _ _) (fun _ => jMW_adr _ _ _ _ _ _ _ _ _ _ _ _ _ _) rfl hl rfl (Nat.le_of_ble_eq_true rfl) dL_law_168 hf1 hS (fun r u H locs hr hP hD hS => ?_)
  subst hr
  refine lv_istore (lv' := [(6, .int (nI n)), (5, .int (nI 0)), (0, .ref b), (1, .ref (ax 0)), (2, .ref (ad 0)), (3, .ref oa), (4, .int (nI i))]) hx hb dL_law_171 hl (by decide) rfl (fun ls hl => ?_)
  have hI2 := jInv_N hI hn2 hs2 h1 h2
  exact jt_I hA9 hP hl (lv_at hl 4 rfl) (lv_at hl 5 rfl) (lv_at hl 1 rfl) (lv_at hl 0 rfl) (by decide) (fun _ => pk_uLs) hf1 dL_law_173 dL_law_174 dL_law_177 dL_law_179 dL_law_184 dL_law_186 dL_law_189 dL_law_190 dL_law_191 dL_law_192 dL_law_194 dL_law_195 dL_law_196 dL_law_201 (by decide) (W.widen (by omega) (by omega) (go _ _ _ _ _ _ _ _ _ _ _ _ _ _ _ _ hI2 hP hD hS (lv_sub hl [2, 3, 4, 5, 6] rfl)))
set_option maxHeartbeats 4000000 in
set_option maxRecDepth 100000 in
theorem lw_add_x1 (h9 : jRd p l e s m below meth c dC dI cI cJ cZ cO b L xs oa ax ad Q i cells slots n mo iv aa an kp T B py ov fu cy th H locs ls) (p0 : Int32) (p1 : Int32) (p2 : Int32) (h : p0 < nI mo ∨ nI 239 < p0) (e1 : xs (i + 1) = p0) (e2 : xs (i + 2) = p1) (e3 : xs (i + 3) = p2) : W p l e room_1 s m #[Value.ref b] below meth c H locs cells slots Q (F0 m 124 ls []) := by
  obtain ⟨⟨hx, hb, hml, hown, hts, hX, hbl, hst, hZ, hK⟩, hI, hP, hD, hS, hl, hrm, hi9, hL, go⟩ := id h9
  have hA9 := h9.1
  obtain ⟨hn, hm, hv, hkp, hfr⟩ := id hI
  have hbA : ¬ s.heap.size ≤ b := Nat.not_le.mpr hbl
  have hf0 : cells ≤ 601024 ∧ slots ≤ 7293034 := ⟨by omega, by omega⟩
  refine lv_aload_n hx hb dL_law_124 rfl (lv_at hl 1 rfl) ?_
  refine j_arg (v := p0) hx hb hX hbl hbA hS (lv_at hl 0 rfl) (lv_at hl 4 rfl) 1 rfl (by omega) hL e1 dL_law_125 dL_law_126 dL_law_128 dL_law_129 dL_law_130 ?_
  refine j_arg (v := p1) hx hb hX hbl hbA hS (lv_at hl 0 rfl) (lv_at hl 4 rfl) 2 rfl (by omega) hL e2 dL_law_131 dL_law_132 dL_law_134 dL_law_135 dL_law_136 ?_
  refine j_arg (v := p2) hx hb hX hbl hbA hS (lv_at hl 0 rfl) (lv_at hl 4 rfl) 3 rfl (by omega) hL e3 dL_law_137 dL_law_138 dL_law_140 dL_law_141 dL_law_142 ?_
  refine lv_aload_n hx hb dL_law_143 rfl (lv_at hl 3 rfl) ?_
  have hZ9 : jX (fun _ => False) s H := jX.narrow (jX.kept hZ (fun a h1 h2 => hS.2.1 a h1 h2)) (fun _ h => h.elim)
  have hf1 : cells + 1 ≤ 601024 ∧ slots + 6 ≤ 7293034 := ⟨by omega, by omega⟩
  refine j_lX (As := [.ref (ax 0), .int p0, .int p1, .int p2, .ref oa]) (rest := []) ⟨hx, hb, hml, hown, hts⟩ (x1_L_add l dC dI cI cJ cZ cO ax (jao aa n) n mo p0 p1 p2 hst hm h oa) (vx_cwSW 5 hts gL_law_L_add rfl rfl rfl (by decide +kernel) ⟨Nat.le_of_ble_eq_true rfl, Nat.le_of_ble_eq_true rfl⟩) hZ9 hK (j_subP hP jl_s2) rfl hl rfl (Nat.le_of_ble_eq_true rfl) dL_law_144 hf1 hS (fun H1 locs hk1 hS => ?_)
  have hP := j_keep hP hk1
  clear hZ9 hk1
  refine lv_istore (lv' := [(5, .int (nI 1)), (0, .ref b), (1, .ref (ax 0)), (2, .ref (ad 0)), (3, .ref oa), (4, .int (nI i))]) hx hb dL_law_147 hl (by decide) rfl (fun ls hl => ?_)
  refine lv_aload_n hx hb dL_law_149 rfl (lv_at hl 3 rfl) ?_
  refine j_arg (v := p0) hx hb hX hbl hbA hS (lv_at hl 1 rfl) (lv_at hl 5 rfl) 1 rfl (by omega) hL e1 dL_law_150 dL_law_151 dL_law_153 dL_law_154 dL_law_155 ?_
  refine j_arg (v := p1) hx hb hX hbl hbA hS (lv_at hl 1 rfl) (lv_at hl 5 rfl) 2 rfl (by omega) hL e2 dL_law_156 dL_law_157 dL_law_159 dL_law_160 dL_law_161 ?_
  refine j_arg (v := p2) hx hb hX hbl hbA hS (lv_at hl 1 rfl) (lv_at hl 5 rfl) 3 rfl (by omega) hL e3 dL_law_162 dL_law_163 dL_law_165 dL_law_166 dL_law_167 ?_
  refine j_mI (As := [.int p0, .int p1, .int p2]) (rest := []) ⟨hx, hb, hml, hown, hts⟩ (x1_X2_add l dC dI cI cJ cZ cO ad n mo iv an T B py fu cy th p0 p1 p2 hn hm hv h) (cwV 3 hts gL_law_X2_add rfl rfl rfl (by decide +kernel) ⟨Nat.le_of_ble_eq_true rfl, Nat.le_of_ble_eq_true rfl⟩) hK hP hD rfl (jMW_adr _ _ _ _ _ _ _ _ _ _ _ _ _ _) (fun _ => jMW_adr _ _ _ _ _ _ _ _ _ _ _ _ _ _) rfl hl rfl (Nat.le_of_ble_eq_true rfl) dL_law_168 hf1 hS (fun r u H locs hr hP hD hS => ?_)
  refine lv_istore (lv' := [(6, .int r), (5, .int (nI 1)), (0, .ref b), (1, .ref (ax 0)), (2, .ref (ad 0)), (3, .ref oa), (4, .int (nI i))]) hx hb dL_law_171 hl (by decide) rfl (fun ls hl => ?_)
  have hI2 := hI
  exact jt_I hA9 hP hl (lv_at hl 4 rfl) (lv_at hl 5 rfl) (lv_at hl 1 rfl) (lv_at hl 0 rfl) (by decide) (fun h => absurd h (by decide)) hf1 dL_law_173 dL_law_174 dL_law_177 dL_law_179 dL_law_184 dL_law_186 dL_law_189 dL_law_190 dL_law_191 dL_law_192 dL_law_194 dL_law_195 dL_law_196 dL_law_201 (by decide) (W.widen (by omega) (by omega) (go _ _ _ _ _ _ _ _ _ _ _ _ _ _ _ _ hI2 hP hD hS (lv_sub hl [2, 3, 4, 5, 6] rfl)))
set_option maxHeartbeats 4000000 in
set_option maxRecDepth 100000 in
theorem lw_add_x2 (h9 : jRd p l e s m below meth c dC dI cI cJ cZ cO b L xs oa ax ad Q i cells slots n mo iv aa an kp T B py ov fu cy th H locs ls) (p0 : Int32) (p1 : Int32) (p2 : Int32) (h1 : ¬ p0 < nI mo) (h2 : ¬ nI 239 < p0) (h : p1 < nI 1 ∨ nI 100000 < p1) (e1 : xs (i + 1) = p0) (e2 : xs (i + 2) = p1) (e3 : xs (i + 3) = p2) : W p l e room_1 s m #[Value.ref b] below meth c H locs cells slots Q (F0 m 124 ls []) := by
  obtain ⟨⟨hx, hb, hml, hown, hts, hX, hbl, hst, hZ, hK⟩, hI, hP, hD, hS, hl, hrm, hi9, hL, go⟩ := id h9
  have hA9 := h9.1
  obtain ⟨hn, hm, hv, hkp, hfr⟩ := id hI
  have hbA : ¬ s.heap.size ≤ b := Nat.not_le.mpr hbl
  have hf0 : cells ≤ 601024 ∧ slots ≤ 7293034 := ⟨by omega, by omega⟩
  refine lv_aload_n hx hb dL_law_124 rfl (lv_at hl 1 rfl) ?_
  refine j_arg (v := p0) hx hb hX hbl hbA hS (lv_at hl 0 rfl) (lv_at hl 4 rfl) 1 rfl (by omega) hL e1 dL_law_125 dL_law_126 dL_law_128 dL_law_129 dL_law_130 ?_
  refine j_arg (v := p1) hx hb hX hbl hbA hS (lv_at hl 0 rfl) (lv_at hl 4 rfl) 2 rfl (by omega) hL e2 dL_law_131 dL_law_132 dL_law_134 dL_law_135 dL_law_136 ?_
  refine j_arg (v := p2) hx hb hX hbl hbA hS (lv_at hl 0 rfl) (lv_at hl 4 rfl) 3 rfl (by omega) hL e3 dL_law_137 dL_law_138 dL_law_140 dL_law_141 dL_law_142 ?_
  refine lv_aload_n hx hb dL_law_143 rfl (lv_at hl 3 rfl) ?_
  have hZ9 : jX (fun _ => False) s H := jX.narrow (jX.kept hZ (fun a h1 h2 => hS.2.1 a h1 h2)) (fun _ h => h.elim)
  have hf1 : cells + 1 ≤ 601024 ∧ slots + 6 ≤ 7293034 := ⟨by omega, by omega⟩
  refine j_lX (As := [.ref (ax 0), .int p0, .int p1, .int p2, .ref oa]) (rest := []) ⟨hx, hb, hml, hown, hts⟩ (x2_L_add l dC dI cI cJ cZ cO ax (jao aa n) n mo p0 p1 p2 hst hm h1 h2 h oa) (vx_cwSW 5 hts gL_law_L_add rfl rfl rfl (by decide +kernel) ⟨Nat.le_of_ble_eq_true rfl, Nat.le_of_ble_eq_true rfl⟩) hZ9 hK (j_subP hP jl_s2) rfl hl rfl (Nat.le_of_ble_eq_true rfl) dL_law_144 hf1 hS (fun H1 locs hk1 hS => ?_)
  have hP := j_keep hP hk1
  clear hZ9 hk1
  refine lv_istore (lv' := [(5, .int (nI 1)), (0, .ref b), (1, .ref (ax 0)), (2, .ref (ad 0)), (3, .ref oa), (4, .int (nI i))]) hx hb dL_law_147 hl (by decide) rfl (fun ls hl => ?_)
  refine lv_aload_n hx hb dL_law_149 rfl (lv_at hl 3 rfl) ?_
  refine j_arg (v := p0) hx hb hX hbl hbA hS (lv_at hl 1 rfl) (lv_at hl 5 rfl) 1 rfl (by omega) hL e1 dL_law_150 dL_law_151 dL_law_153 dL_law_154 dL_law_155 ?_
  refine j_arg (v := p1) hx hb hX hbl hbA hS (lv_at hl 1 rfl) (lv_at hl 5 rfl) 2 rfl (by omega) hL e2 dL_law_156 dL_law_157 dL_law_159 dL_law_160 dL_law_161 ?_
  refine j_arg (v := p2) hx hb hX hbl hbA hS (lv_at hl 1 rfl) (lv_at hl 5 rfl) 3 rfl (by omega) hL e3 dL_law_162 dL_law_163 dL_law_165 dL_law_166 dL_law_167 ?_
  refine j_mI (As := [.int p0, .int p1, .int p2]) (rest := []) ⟨hx, hb, hml, hown, hts⟩ (x2_X2_add l dC dI cI cJ cZ cO ad n mo iv an T B py fu cy th p0 p1 p2 hn hm hv h1 h2 h) (cwV 3 hts gL_law_X2_add rfl rfl rfl (by decide +kernel) ⟨Nat.le_of_ble_eq_true rfl, Nat.le_of_ble_eq_true rfl⟩) hK hP hD rfl (jMW_adr _ _ _ _ _ _ _ _ _ _ _ _ _ _) (fun _ => jMW_adr _ _ _ _ _ _ _ _ _ _ _ _ _ _) rfl hl rfl (Nat.le_of_ble_eq_true rfl) dL_law_168 hf1 hS (fun r u H locs hr hP hD hS => ?_)
  refine lv_istore (lv' := [(6, .int r), (5, .int (nI 1)), (0, .ref b), (1, .ref (ax 0)), (2, .ref (ad 0)), (3, .ref oa), (4, .int (nI i))]) hx hb dL_law_171 hl (by decide) rfl (fun ls hl => ?_)
  have hI2 := hI
  exact jt_I hA9 hP hl (lv_at hl 4 rfl) (lv_at hl 5 rfl) (lv_at hl 1 rfl) (lv_at hl 0 rfl) (by decide) (fun h => absurd h (by decide)) hf1 dL_law_173 dL_law_174 dL_law_177 dL_law_179 dL_law_184 dL_law_186 dL_law_189 dL_law_190 dL_law_191 dL_law_192 dL_law_194 dL_law_195 dL_law_196 dL_law_201 (by decide) (W.widen (by omega) (by omega) (go _ _ _ _ _ _ _ _ _ _ _ _ _ _ _ _ hI2 hP hD hS (lv_sub hl [2, 3, 4, 5, 6] rfl)))
set_option maxHeartbeats 4000000 in
set_option maxRecDepth 100000 in
theorem lw_add_x3 (h9 : jRd p l e s m below meth c dC dI cI cJ cZ cO b L xs oa ax ad Q i cells slots n mo iv aa an kp T B py ov fu cy th H locs ls) (p0 : Int32) (p1 : Int32) (p2 : Int32) (h1 : ¬ p0 < nI mo) (h2 : ¬ nI 239 < p0) (h3 : ¬ p1 < nI 1) (h4 : ¬ nI 100000 < p1) (h : p2 < nI 0 ∨ nI 240 < p2) (e1 : xs (i + 1) = p0) (e2 : xs (i + 2) = p1) (e3 : xs (i + 3) = p2) : W p l e room_1 s m #[Value.ref b] below meth c H locs cells slots Q (F0 m 124 ls []) := by
  obtain ⟨⟨hx, hb, hml, hown, hts, hX, hbl, hst, hZ, hK⟩, hI, hP, hD, hS, hl, hrm, hi9, hL, go⟩ := id h9
  have hA9 := h9.1
  obtain ⟨hn, hm, hv, hkp, hfr⟩ := id hI
  have hbA : ¬ s.heap.size ≤ b := Nat.not_le.mpr hbl
  have hf0 : cells ≤ 601024 ∧ slots ≤ 7293034 := ⟨by omega, by omega⟩
  refine lv_aload_n hx hb dL_law_124 rfl (lv_at hl 1 rfl) ?_
  refine j_arg (v := p0) hx hb hX hbl hbA hS (lv_at hl 0 rfl) (lv_at hl 4 rfl) 1 rfl (by omega) hL e1 dL_law_125 dL_law_126 dL_law_128 dL_law_129 dL_law_130 ?_
  refine j_arg (v := p1) hx hb hX hbl hbA hS (lv_at hl 0 rfl) (lv_at hl 4 rfl) 2 rfl (by omega) hL e2 dL_law_131 dL_law_132 dL_law_134 dL_law_135 dL_law_136 ?_
  refine j_arg (v := p2) hx hb hX hbl hbA hS (lv_at hl 0 rfl) (lv_at hl 4 rfl) 3 rfl (by omega) hL e3 dL_law_137 dL_law_138 dL_law_140 dL_law_141 dL_law_142 ?_
  refine lv_aload_n hx hb dL_law_143 rfl (lv_at hl 3 rfl) ?_
  have hZ9 : jX (fun _ => False) s H := jX.narrow (jX.kept hZ (fun a h1 h2 => hS.2.1 a h1 h2)) (fun _ h => h.elim)
  have hf1 : cells + 1 ≤ 601024 ∧ slots + 6 ≤ 7293034 := ⟨by omega, by omega⟩
  refine j_lX (As := [.ref (ax 0), .int p0, .int p1, .int p2, .ref oa]) (rest := []) ⟨hx, hb, hml, hown, hts⟩ (x3_L_add l dC dI cI cJ cZ cO ax (jao aa n) n mo p0 p1 p2 hst hm h1 h2 h3 h4 h oa) (vx_cwSW 5 hts gL_law_L_add rfl rfl rfl (by decide +kernel) ⟨Nat.le_of_ble_eq_true rfl, Nat.le_of_ble_eq_true rfl⟩) hZ9 hK (j_subP hP jl_s2) rfl hl rfl (Nat.le_of_ble_eq_true rfl) dL_law_144 hf1 hS (fun H1 locs hk1 hS => ?_)
  have hP := j_keep hP hk1
  clear hZ9 hk1
  refine lv_istore (lv' := [(5, .int (nI 1)), (0, .ref b), (1, .ref (ax 0)), (2, .ref (ad 0)), (3, .ref oa), (4, .int (nI i))]) hx hb dL_law_147 hl (by decide) rfl (fun ls hl => ?_)
  refine lv_aload_n hx hb dL_law_149 rfl (lv_at hl 3 rfl) ?_
  refine j_arg (v := p0) hx hb hX hbl hbA hS (lv_at hl 1 rfl) (lv_at hl 5 rfl) 1 rfl (by omega) hL e1 dL_law_150 dL_law_151 dL_law_153 dL_law_154 dL_law_155 ?_
  refine j_arg (v := p1) hx hb hX hbl hbA hS (lv_at hl 1 rfl) (lv_at hl 5 rfl) 2 rfl (by omega) hL e2 dL_law_156 dL_law_157 dL_law_159 dL_law_160 dL_law_161 ?_
  refine j_arg (v := p2) hx hb hX hbl hbA hS (lv_at hl 1 rfl) (lv_at hl 5 rfl) 3 rfl (by omega) hL e3 dL_law_162 dL_law_163 dL_law_165 dL_law_166 dL_law_167 ?_
  refine j_mI (As := [.int p0, .int p1, .int p2]) (rest := []) ⟨hx, hb, hml, hown, hts⟩ (x3_X2_add l dC dI cI cJ cZ cO ad n mo iv an T B py fu cy th p0 p1 p2 hn hm hv h1 h2 h3 h4 h) (cwV 3 hts gL_law_X2_add rfl rfl rfl (by decide +kernel) ⟨Nat.le_of_ble_eq_true rfl, Nat.le_of_ble_eq_true rfl⟩) hK hP hD rfl (jMW_adr _ _ _ _ _ _ _ _ _ _ _ _ _ _) (fun _ => jMW_adr _ _ _ _ _ _ _ _ _ _ _ _ _ _) rfl hl rfl (Nat.le_of_ble_eq_true rfl) dL_law_168 hf1 hS (fun r u H locs hr hP hD hS => ?_)
  refine lv_istore (lv' := [(6, .int r), (5, .int (nI 1)), (0, .ref b), (1, .ref (ax 0)), (2, .ref (ad 0)), (3, .ref oa), (4, .int (nI i))]) hx hb dL_law_171 hl (by decide) rfl (fun ls hl => ?_)
  have hI2 := hI
  exact jt_I hA9 hP hl (lv_at hl 4 rfl) (lv_at hl 5 rfl) (lv_at hl 1 rfl) (lv_at hl 0 rfl) (by decide) (fun h => absurd h (by decide)) hf1 dL_law_173 dL_law_174 dL_law_177 dL_law_179 dL_law_184 dL_law_186 dL_law_189 dL_law_190 dL_law_191 dL_law_192 dL_law_194 dL_law_195 dL_law_196 dL_law_201 (by decide) (W.widen (by omega) (by omega) (go _ _ _ _ _ _ _ _ _ _ _ _ _ _ _ _ hI2 hP hD hS (lv_sub hl [2, 3, 4, 5, 6] rfl)))
set_option maxHeartbeats 4000000 in
set_option maxRecDepth 100000 in
theorem lw_add_x4 (h9 : jRd p l e s m below meth c dC dI cI cJ cZ cO b L xs oa ax ad Q i cells slots n mo iv aa an kp T B py ov fu cy th H locs ls) (p0 : Int32) (p1 : Int32) (p2 : Int32) (h1 : ¬ p0 < nI mo) (h2 : ¬ nI 239 < p0) (h3 : ¬ p1 < nI 1) (h4 : ¬ nI 100000 < p1) (h5 : ¬ p2 < nI 0) (h6 : ¬ nI 240 < p2) (hn2 : n = 20) (e1 : xs (i + 1) = p0) (e2 : xs (i + 2) = p1) (e3 : xs (i + 3) = p2) : W p l e room_1 s m #[Value.ref b] below meth c H locs cells slots Q (F0 m 124 ls []) := by
  obtain ⟨⟨hx, hb, hml, hown, hts, hX, hbl, hst, hZ, hK⟩, hI, hP, hD, hS, hl, hrm, hi9, hL, go⟩ := id h9
  have hA9 := h9.1
  obtain ⟨hn, hm, hv, hkp, hfr⟩ := id hI
  have hbA : ¬ s.heap.size ≤ b := Nat.not_le.mpr hbl
  have hf0 : cells ≤ 601024 ∧ slots ≤ 7293034 := ⟨by omega, by omega⟩
  refine lv_aload_n hx hb dL_law_124 rfl (lv_at hl 1 rfl) ?_
  refine j_arg (v := p0) hx hb hX hbl hbA hS (lv_at hl 0 rfl) (lv_at hl 4 rfl) 1 rfl (by omega) hL e1 dL_law_125 dL_law_126 dL_law_128 dL_law_129 dL_law_130 ?_
  refine j_arg (v := p1) hx hb hX hbl hbA hS (lv_at hl 0 rfl) (lv_at hl 4 rfl) 2 rfl (by omega) hL e2 dL_law_131 dL_law_132 dL_law_134 dL_law_135 dL_law_136 ?_
  refine j_arg (v := p2) hx hb hX hbl hbA hS (lv_at hl 0 rfl) (lv_at hl 4 rfl) 3 rfl (by omega) hL e3 dL_law_137 dL_law_138 dL_law_140 dL_law_141 dL_law_142 ?_
  refine lv_aload_n hx hb dL_law_143 rfl (lv_at hl 3 rfl) ?_
  have hZ9 : jX (fun _ => False) s H := jX.narrow (jX.kept hZ (fun a h1 h2 => hS.2.1 a h1 h2)) (fun _ h => h.elim)
  have hf1 : cells + 1 ≤ 601024 ∧ slots + 6 ≤ 7293034 := ⟨by omega, by omega⟩
  refine j_lX (As := [.ref (ax 0), .int p0, .int p1, .int p2, .ref oa]) (rest := []) ⟨hx, hb, hml, hown, hts⟩ (x4_L_add l dC dI cI cJ cZ cO ax (jao aa n) n mo p0 p1 p2 hst hm h1 h2 h3 h4 h5 h6 hn2 oa) (vx_cwSW 5 hts gL_law_L_add rfl rfl rfl (by decide +kernel) ⟨Nat.le_of_ble_eq_true rfl, Nat.le_of_ble_eq_true rfl⟩) hZ9 hK (j_subP hP jl_s2) rfl hl rfl (Nat.le_of_ble_eq_true rfl) dL_law_144 hf1 hS (fun H1 locs hk1 hS => ?_)
  have hP := j_keep hP hk1
  clear hZ9 hk1
  refine lv_istore (lv' := [(5, .int (nI 2)), (0, .ref b), (1, .ref (ax 0)), (2, .ref (ad 0)), (3, .ref oa), (4, .int (nI i))]) hx hb dL_law_147 hl (by decide) rfl (fun ls hl => ?_)
  refine lv_aload_n hx hb dL_law_149 rfl (lv_at hl 3 rfl) ?_
  refine j_arg (v := p0) hx hb hX hbl hbA hS (lv_at hl 1 rfl) (lv_at hl 5 rfl) 1 rfl (by omega) hL e1 dL_law_150 dL_law_151 dL_law_153 dL_law_154 dL_law_155 ?_
  refine j_arg (v := p1) hx hb hX hbl hbA hS (lv_at hl 1 rfl) (lv_at hl 5 rfl) 2 rfl (by omega) hL e2 dL_law_156 dL_law_157 dL_law_159 dL_law_160 dL_law_161 ?_
  refine j_arg (v := p2) hx hb hX hbl hbA hS (lv_at hl 1 rfl) (lv_at hl 5 rfl) 3 rfl (by omega) hL e3 dL_law_162 dL_law_163 dL_law_165 dL_law_166 dL_law_167 ?_
  refine j_mI (As := [.int p0, .int p1, .int p2]) (rest := []) ⟨hx, hb, hml, hown, hts⟩ (x4_X2_add l dC dI cI cJ cZ cO ad n mo iv an T B py fu cy th p0 p1 p2 hn hm hv h1 h2 h3 h4 h5 h6 hn2) (cwV 3 hts gL_law_X2_add rfl rfl rfl (by decide +kernel) ⟨Nat.le_of_ble_eq_true rfl, Nat.le_of_ble_eq_true rfl⟩) hK hP hD rfl (jMW_adr _ _ _ _ _ _ _ _ _ _ _ _ _ _) (fun _ => jMW_adr _ _ _ _ _ _ _ _ _ _ _ _ _ _) rfl hl rfl (Nat.le_of_ble_eq_true rfl) dL_law_168 hf1 hS (fun r u H locs hr hP hD hS => ?_)
  refine lv_istore (lv' := [(6, .int r), (5, .int (nI 2)), (0, .ref b), (1, .ref (ax 0)), (2, .ref (ad 0)), (3, .ref oa), (4, .int (nI i))]) hx hb dL_law_171 hl (by decide) rfl (fun ls hl => ?_)
  have hI2 := hI
  exact jt_I hA9 hP hl (lv_at hl 4 rfl) (lv_at hl 5 rfl) (lv_at hl 1 rfl) (lv_at hl 0 rfl) (by decide) (fun h => absurd h (by decide)) hf1 dL_law_173 dL_law_174 dL_law_177 dL_law_179 dL_law_184 dL_law_186 dL_law_189 dL_law_190 dL_law_191 dL_law_192 dL_law_194 dL_law_195 dL_law_196 dL_law_201 (by decide) (W.widen (by omega) (by omega) (go _ _ _ _ _ _ _ _ _ _ _ _ _ _ _ _ hI2 hP hD hS (lv_sub hl [2, 3, 4, 5, 6] rfl)))
set_option maxHeartbeats 4000000 in
set_option maxRecDepth 100000 in
theorem lw_setSurvivor_c (h9 : jRd p l e s m below meth c dC dI cI cJ cZ cO b L xs oa ax ad Q i cells slots n mo iv aa an kp T B py ov fu cy th H locs ls) (k : Nat) (v : Nat) (w : Nat) (hk : k < n) (h1 : v ≤ 100) (h2 : w ≤ 1) (hs : ¬ an k 0 < mo) (e1 : xs (i + 1) = nI k) (e2 : xs (i + 2) = nI v) (e3 : (if xs (i + 3) = 0 then 0 else 1) = w) : W p l e room_1 s m #[Value.ref b] below meth c H locs cells slots Q (F0 m 204 ls []) := by
  obtain ⟨⟨hx, hb, hml, hown, hts, hX, hbl, hst, hZ, hK⟩, hI, hP, hD, hS, hl, hrm, hi9, hL, go⟩ := id h9
  have hA9 := h9.1
  obtain ⟨hn, hm, hv, hkp, hfr⟩ := id hI
  have hbA : ¬ s.heap.size ≤ b := Nat.not_le.mpr hbl
  have hf0 : cells ≤ 601024 ∧ slots ≤ 7293034 := ⟨by omega, by omega⟩
  refine lv_aload_n hx hb dL_law_204 rfl (lv_at hl 1 rfl) ?_
  refine j_arg (v := nI k) hx hb hX hbl hbA hS (lv_at hl 0 rfl) (lv_at hl 4 rfl) 1 rfl (by omega) hL e1 dL_law_205 dL_law_206 dL_law_208 dL_law_209 dL_law_210 ?_
  refine j_arg (v := nI v) hx hb hX hbl hbA hS (lv_at hl 0 rfl) (lv_at hl 4 rfl) 2 rfl (by omega) hL e2 dL_law_211 dL_law_212 dL_law_214 dL_law_215 dL_law_216 ?_
  refine j_arg (v := xs (i + 3)) hx hb hX hbl hbA hS (lv_at hl 0 rfl) (lv_at hl 4 rfl) 3 rfl (by omega) hL rfl dL_law_217 dL_law_218 dL_law_220 dL_law_221 dL_law_222 ?_
  refine j_argB (w := w) hx hb e3 dL_law_223 dL_law_226 dL_law_227 dL_law_230 ?_
  refine j_lI (As := [.ref (ax 0), .int (nI k), .int (nI v), .int (nI w)]) (rest := []) ⟨hx, hb, hml, hown, hts⟩ (c_L_setSurvivor l dC dI cI cJ cZ cO oa ov ax (jao aa n) n mo iv (aa k) (an k) (kp k) (py k) k v w (hv k hk) hm (by omega) (if_pos hk) h1 h2 hs) (vx_cwSW 4 hts gL_law_L_setSurvivor rfl rfl rfl (by decide +kernel) ⟨Nat.le_of_ble_eq_true rfl, Nat.le_of_ble_eq_true rfl⟩) hK (j_subP hP (jl_sB hk)) (j_subD hD (jl_sB hk)) rfl hl rfl (Nat.le_of_ble_eq_true rfl) dL_law_231 hf0 hS (j_subA hD (jl_sB hk)) (fun H1 locs hP1 hk1 hS => ?_)
  obtain ⟨hP, hD⟩ := jl_putA hk hP hD hk1 hP1
  clear hP1 hk1
  refine lv_istore (lv' := [(5, .int (nI 0)), (0, .ref b), (1, .ref (ax 0)), (2, .ref (ad 0)), (3, .ref oa), (4, .int (nI i))]) hx hb dL_law_234 hl (by decide) rfl (fun ls hl => ?_)
  refine lv_aload_n hx hb dL_law_236 rfl (lv_at hl 3 rfl) ?_
  refine j_arg (v := nI k) hx hb hX hbl hbA hS (lv_at hl 1 rfl) (lv_at hl 5 rfl) 1 rfl (by omega) hL e1 dL_law_237 dL_law_238 dL_law_240 dL_law_241 dL_law_242 ?_
  refine j_arg (v := nI v) hx hb hX hbl hbA hS (lv_at hl 1 rfl) (lv_at hl 5 rfl) 2 rfl (by omega) hL e2 dL_law_243 dL_law_244 dL_law_246 dL_law_247 dL_law_248 ?_
  refine j_arg (v := xs (i + 3)) hx hb hX hbl hbA hS (lv_at hl 1 rfl) (lv_at hl 5 rfl) 3 rfl (by omega) hL rfl dL_law_249 dL_law_250 dL_law_252 dL_law_253 dL_law_254 ?_
  refine j_argB (w := w) hx hb e3 dL_law_255 dL_law_258 dL_law_259 dL_law_262 ?_
  refine j_mV (As := [.int (nI k), .int (nI v), .int (nI w)]) (rest := []) ⟨hx, hb, hml, hown, hts⟩ (c_X2_setSurvivor l dC dI cI cJ cZ cO ad n mo iv an T B py fu cy th k v w hn hm hv hk h1 h2 hs) (cwV 3 hts gL_law_X2_setSurvivor rfl rfl rfl (by decide +kernel) ⟨Nat.le_of_ble_eq_true rfl, Nat.le_of_ble_eq_true rfl⟩) hK hP hD rfl (jMW_adr _ _ _ _ _ _ _ _ _ _ _ _ _ _) (fun _ => jMW_adr _ _ _ _ _ _ _ _ _ _ _ _ _ _) rfl hl rfl (Nat.le_of_ble_eq_true rfl) dL_law_263 hf0 hS (fun u H locs hr hP hD hS => ?_)
  have hI2 := jInv_A hI hk (jVu (jVu (hv k hk) (i := 3) h1) (i := 4) h2)
  exact jt_V hA9 hP hl (lv_at hl 3 rfl) (lv_at hl 0 rfl) hf0 dL_law_266 dL_law_267 dL_law_270 dL_law_272 dL_law_277 (by decide) (W.widen (by omega) (by omega) (go _ _ _ _ _ _ _ _ _ _ _ _ _ _ _ _ hI2 hP hD hS (lv_sub hl [1, 2, 3, 4, 5] rfl)))
set_option maxHeartbeats 4000000 in
set_option maxRecDepth 100000 in
theorem lw_setSurvivor_x1 (h9 : jRd p l e s m below meth c dC dI cI cJ cZ cO b L xs oa ax ad Q i cells slots n mo iv aa an kp T B py ov fu cy th H locs ls) (p0 : Int32) (p1 : Int32) (w : Nat) (hb0 : ¬ vp_in p0 n) (e1 : xs (i + 1) = p0) (e2 : xs (i + 2) = p1) (e3 : (if xs (i + 3) = 0 then 0 else 1) = w) : W p l e room_1 s m #[Value.ref b] below meth c H locs cells slots Q (F0 m 204 ls []) := by
  obtain ⟨⟨hx, hb, hml, hown, hts, hX, hbl, hst, hZ, hK⟩, hI, hP, hD, hS, hl, hrm, hi9, hL, go⟩ := id h9
  have hA9 := h9.1
  obtain ⟨hn, hm, hv, hkp, hfr⟩ := id hI
  have hbA : ¬ s.heap.size ≤ b := Nat.not_le.mpr hbl
  have hf0 : cells ≤ 601024 ∧ slots ≤ 7293034 := ⟨by omega, by omega⟩
  refine lv_aload_n hx hb dL_law_204 rfl (lv_at hl 1 rfl) ?_
  refine j_arg (v := p0) hx hb hX hbl hbA hS (lv_at hl 0 rfl) (lv_at hl 4 rfl) 1 rfl (by omega) hL e1 dL_law_205 dL_law_206 dL_law_208 dL_law_209 dL_law_210 ?_
  refine j_arg (v := p1) hx hb hX hbl hbA hS (lv_at hl 0 rfl) (lv_at hl 4 rfl) 2 rfl (by omega) hL e2 dL_law_211 dL_law_212 dL_law_214 dL_law_215 dL_law_216 ?_
  refine j_arg (v := xs (i + 3)) hx hb hX hbl hbA hS (lv_at hl 0 rfl) (lv_at hl 4 rfl) 3 rfl (by omega) hL rfl dL_law_217 dL_law_218 dL_law_220 dL_law_221 dL_law_222 ?_
  refine j_argB (w := w) hx hb e3 dL_law_223 dL_law_226 dL_law_227 dL_law_230 ?_
  have hZ9 : jX (fun _ => False) s H := jX.narrow (jX.kept hZ (fun a h1 h2 => hS.2.1 a h1 h2)) (fun _ h => h.elim)
  have hf1 : cells + 1 ≤ 601024 ∧ slots + 6 ≤ 7293034 := ⟨by omega, by omega⟩
  refine j_lX (As := [.ref (ax 0), .int p0, .int p1, .int (nI w)]) (rest := []) ⟨hx, hb, hml, hown, hts⟩ (x1_L_setSurvivor l dC dI cI cJ cZ cO ax (jao aa n) n mo p0 p1 (nI w) hst hn (fun j hj => if_neg (by omega)) hb0) (vx_cwSW 4 hts gL_law_L_setSurvivor rfl rfl rfl (by decide +kernel) ⟨Nat.le_of_ble_eq_true rfl, Nat.le_of_ble_eq_true rfl⟩) hZ9 hK (j_subP hP jl_s2) rfl hl rfl (Nat.le_of_ble_eq_true rfl) dL_law_231 hf1 hS (fun H1 locs hk1 hS => ?_)
  have hP := j_keep hP hk1
  clear hZ9 hk1
  refine lv_istore (lv' := [(5, .int (nI 1)), (0, .ref b), (1, .ref (ax 0)), (2, .ref (ad 0)), (3, .ref oa), (4, .int (nI i))]) hx hb dL_law_234 hl (by decide) rfl (fun ls hl => ?_)
  refine lv_aload_n hx hb dL_law_236 rfl (lv_at hl 3 rfl) ?_
  refine j_arg (v := p0) hx hb hX hbl hbA hS (lv_at hl 1 rfl) (lv_at hl 5 rfl) 1 rfl (by omega) hL e1 dL_law_237 dL_law_238 dL_law_240 dL_law_241 dL_law_242 ?_
  refine j_arg (v := p1) hx hb hX hbl hbA hS (lv_at hl 1 rfl) (lv_at hl 5 rfl) 2 rfl (by omega) hL e2 dL_law_243 dL_law_244 dL_law_246 dL_law_247 dL_law_248 ?_
  refine j_arg (v := xs (i + 3)) hx hb hX hbl hbA hS (lv_at hl 1 rfl) (lv_at hl 5 rfl) 3 rfl (by omega) hL rfl dL_law_249 dL_law_250 dL_law_252 dL_law_253 dL_law_254 ?_
  refine j_argB (w := w) hx hb e3 dL_law_255 dL_law_258 dL_law_259 dL_law_262 ?_
  refine j_mV (As := [.int p0, .int p1, .int (nI w)]) (rest := []) ⟨hx, hb, hml, hown, hts⟩ (x1_X2_setSurvivor l dC dI cI cJ cZ cO ad n mo iv an T B py fu cy th p0 p1 (nI w) hn hm hv hb0) (cwV 3 hts gL_law_X2_setSurvivor rfl rfl rfl (by decide +kernel) ⟨Nat.le_of_ble_eq_true rfl, Nat.le_of_ble_eq_true rfl⟩) hK hP hD rfl (jMW_adr _ _ _ _ _ _ _ _ _ _ _ _ _ _) (fun _ => jMW_adr _ _ _ _ _ _ _ _ _ _ _ _ _ _) rfl hl rfl (Nat.le_of_ble_eq_true rfl) dL_law_263 hf1 hS (fun u H locs hr hP hD hS => ?_)
  have hI2 := hI
  exact jt_V hA9 hP hl (lv_at hl 3 rfl) (lv_at hl 0 rfl) hf1 dL_law_266 dL_law_267 dL_law_270 dL_law_272 dL_law_277 (by decide) (W.widen (by omega) (by omega) (go _ _ _ _ _ _ _ _ _ _ _ _ _ _ _ _ hI2 hP hD hS (lv_sub hl [1, 2, 3, 4, 5] rfl)))
set_option maxHeartbeats 4000000 in
set_option maxRecDepth 100000 in
theorem lw_setSurvivor_x2 (h9 : jRd p l e s m below meth c dC dI cI cJ cZ cO b L xs oa ax ad Q i cells slots n mo iv aa an kp T B py ov fu cy th H locs ls) (k : Nat) (p1 : Int32) (w : Nat) (hk : k < n) (h : p1 < nI 0 ∨ nI 100 < p1) (e1 : xs (i + 1) = nI k) (e2 : xs (i + 2) = p1) (e3 : (if xs (i + 3) = 0 then 0 else 1) = w) : W p l e room_1 s m #[Value.ref b] below meth c H locs cells slots Q (F0 m 204 ls []) := by
  obtain ⟨⟨hx, hb, hml, hown, hts, hX, hbl, hst, hZ, hK⟩, hI, hP, hD, hS, hl, hrm, hi9, hL, go⟩ := id h9
  have hA9 := h9.1
  obtain ⟨hn, hm, hv, hkp, hfr⟩ := id hI
  have hbA : ¬ s.heap.size ≤ b := Nat.not_le.mpr hbl
  have hf0 : cells ≤ 601024 ∧ slots ≤ 7293034 := ⟨by omega, by omega⟩
  refine lv_aload_n hx hb dL_law_204 rfl (lv_at hl 1 rfl) ?_
  refine j_arg (v := nI k) hx hb hX hbl hbA hS (lv_at hl 0 rfl) (lv_at hl 4 rfl) 1 rfl (by omega) hL e1 dL_law_205 dL_law_206 dL_law_208 dL_law_209 dL_law_210 ?_
  refine j_arg (v := p1) hx hb hX hbl hbA hS (lv_at hl 0 rfl) (lv_at hl 4 rfl) 2 rfl (by omega) hL e2 dL_law_211 dL_law_212 dL_law_214 dL_law_215 dL_law_216 ?_
  refine j_arg (v := xs (i + 3)) hx hb hX hbl hbA hS (lv_at hl 0 rfl) (lv_at hl 4 rfl) 3 rfl (by omega) hL rfl dL_law_217 dL_law_218 dL_law_220 dL_law_221 dL_law_222 ?_
  refine j_argB (w := w) hx hb e3 dL_law_223 dL_law_226 dL_law_227 dL_law_230 ?_
  have hZ9 : jX (fun _ => False) s H := jX.narrow (jX.kept hZ (fun a h1 h2 => hS.2.1 a h1 h2)) (fun _ h => h.elim)
  have hf1 : cells + 1 ≤ 601024 ∧ slots + 6 ≤ 7293034 := ⟨by omega, by omega⟩
  refine j_lX (As := [.ref (ax 0), .int (nI k), .int p1, .int (nI w)]) (rest := []) ⟨hx, hb, hml, hown, hts⟩ (x2_L_setSurvivor l dC dI cI cJ cZ cO ax (jao aa n) n mo iv (aa k) (an k) (kp k) (py k) k p1 (nI w) hst (hv k hk) hm (by omega) (if_pos hk) h) (vx_cwSW 4 hts gL_law_L_setSurvivor rfl rfl rfl (by decide +kernel) ⟨Nat.le_of_ble_eq_true rfl, Nat.le_of_ble_eq_true rfl⟩) hZ9 hK (j_subP hP (jl_s8 hk)) rfl hl rfl (Nat.le_of_ble_eq_true rfl) dL_law_231 hf1 hS (fun H1 locs hk1 hS => ?_)
  have hP := j_keep hP hk1
  clear hZ9 hk1
  refine lv_istore (lv' := [(5, .int (nI 2)), (0, .ref b), (1, .ref (ax 0)), (2, .ref (ad 0)), (3, .ref oa), (4, .int (nI i))]) hx hb dL_law_234 hl (by decide) rfl (fun ls hl => ?_)
  refine lv_aload_n hx hb dL_law_236 rfl (lv_at hl 3 rfl) ?_
  refine j_arg (v := nI k) hx hb hX hbl hbA hS (lv_at hl 1 rfl) (lv_at hl 5 rfl) 1 rfl (by omega) hL e1 dL_law_237 dL_law_238 dL_law_240 dL_law_241 dL_law_242 ?_
  refine j_arg (v := p1) hx hb hX hbl hbA hS (lv_at hl 1 rfl) (lv_at hl 5 rfl) 2 rfl (by omega) hL e2 dL_law_243 dL_law_244 dL_law_246 dL_law_247 dL_law_248 ?_
  refine j_arg (v := xs (i + 3)) hx hb hX hbl hbA hS (lv_at hl 1 rfl) (lv_at hl 5 rfl) 3 rfl (by omega) hL rfl dL_law_249 dL_law_250 dL_law_252 dL_law_253 dL_law_254 ?_
  refine j_argB (w := w) hx hb e3 dL_law_255 dL_law_258 dL_law_259 dL_law_262 ?_
  refine j_mV (As := [.int (nI k), .int p1, .int (nI w)]) (rest := []) ⟨hx, hb, hml, hown, hts⟩ (x2_X2_setSurvivor l dC dI cI cJ cZ cO ad n mo iv an T B py fu cy th k p1 (nI w) hn hm hv hk h) (cwV 3 hts gL_law_X2_setSurvivor rfl rfl rfl (by decide +kernel) ⟨Nat.le_of_ble_eq_true rfl, Nat.le_of_ble_eq_true rfl⟩) hK hP hD rfl (jMW_adr _ _ _ _ _ _ _ _ _ _ _ _ _ _) (fun _ => jMW_adr _ _ _ _ _ _ _ _ _ _ _ _ _ _) rfl hl rfl (Nat.le_of_ble_eq_true rfl) dL_law_263 hf1 hS (fun u H locs hr hP hD hS => ?_)
  have hI2 := hI
  exact jt_V hA9 hP hl (lv_at hl 3 rfl) (lv_at hl 0 rfl) hf1 dL_law_266 dL_law_267 dL_law_270 dL_law_272 dL_law_277 (by decide) (W.widen (by omega) (by omega) (go _ _ _ _ _ _ _ _ _ _ _ _ _ _ _ _ hI2 hP hD hS (lv_sub hl [1, 2, 3, 4, 5] rfl)))
set_option maxHeartbeats 4000000 in
set_option maxRecDepth 100000 in
theorem lw_setSurvivor_x3 (h9 : jRd p l e s m below meth c dC dI cI cJ cZ cO b L xs oa ax ad Q i cells slots n mo iv aa an kp T B py ov fu cy th H locs ls) (k : Nat) (v : Nat) (w : Nat) (hk : k < n) (h1 : v ≤ 100) (hs : an k 0 < mo) (e1 : xs (i + 1) = nI k) (e2 : xs (i + 2) = nI v) (e3 : (if xs (i + 3) = 0 then 0 else 1) = w) : W p l e room_1 s m #[Value.ref b] below meth c H locs cells slots Q (F0 m 204 ls []) := by
  obtain ⟨⟨hx, hb, hml, hown, hts, hX, hbl, hst, hZ, hK⟩, hI, hP, hD, hS, hl, hrm, hi9, hL, go⟩ := id h9
  have hA9 := h9.1
  obtain ⟨hn, hm, hv, hkp, hfr⟩ := id hI
  have hbA : ¬ s.heap.size ≤ b := Nat.not_le.mpr hbl
  have hf0 : cells ≤ 601024 ∧ slots ≤ 7293034 := ⟨by omega, by omega⟩
  refine lv_aload_n hx hb dL_law_204 rfl (lv_at hl 1 rfl) ?_
  refine j_arg (v := nI k) hx hb hX hbl hbA hS (lv_at hl 0 rfl) (lv_at hl 4 rfl) 1 rfl (by omega) hL e1 dL_law_205 dL_law_206 dL_law_208 dL_law_209 dL_law_210 ?_
  refine j_arg (v := nI v) hx hb hX hbl hbA hS (lv_at hl 0 rfl) (lv_at hl 4 rfl) 2 rfl (by omega) hL e2 dL_law_211 dL_law_212 dL_law_214 dL_law_215 dL_law_216 ?_
  refine j_arg (v := xs (i + 3)) hx hb hX hbl hbA hS (lv_at hl 0 rfl) (lv_at hl 4 rfl) 3 rfl (by omega) hL rfl dL_law_217 dL_law_218 dL_law_220 dL_law_221 dL_law_222 ?_
  refine j_argB (w := w) hx hb e3 dL_law_223 dL_law_226 dL_law_227 dL_law_230 ?_
  have hZ9 : jX (fun _ => False) s H := jX.narrow (jX.kept hZ (fun a h1 h2 => hS.2.1 a h1 h2)) (fun _ h => h.elim)
  have hf1 : cells + 1 ≤ 601024 ∧ slots + 6 ≤ 7293034 := ⟨by omega, by omega⟩
  refine j_lX (As := [.ref (ax 0), .int (nI k), .int (nI v), .int (nI w)]) (rest := []) ⟨hx, hb, hml, hown, hts⟩ (x3_L_setSurvivor l dC dI cI cJ cZ cO ax (jao aa n) n mo iv (aa k) (an k) (kp k) (py k) k v (nI w) hst (hv k hk) hm (by omega) (if_pos hk) h1 hs) (vx_cwSW 4 hts gL_law_L_setSurvivor rfl rfl rfl (by decide +kernel) ⟨Nat.le_of_ble_eq_true rfl, Nat.le_of_ble_eq_true rfl⟩) hZ9 hK (j_subP hP (jl_s8 hk)) rfl hl rfl (Nat.le_of_ble_eq_true rfl) dL_law_231 hf1 hS (fun H1 locs hk1 hS => ?_)
  have hP := j_keep hP hk1
  clear hZ9 hk1
  refine lv_istore (lv' := [(5, .int (nI 3)), (0, .ref b), (1, .ref (ax 0)), (2, .ref (ad 0)), (3, .ref oa), (4, .int (nI i))]) hx hb dL_law_234 hl (by decide) rfl (fun ls hl => ?_)
  refine lv_aload_n hx hb dL_law_236 rfl (lv_at hl 3 rfl) ?_
  refine j_arg (v := nI k) hx hb hX hbl hbA hS (lv_at hl 1 rfl) (lv_at hl 5 rfl) 1 rfl (by omega) hL e1 dL_law_237 dL_law_238 dL_law_240 dL_law_241 dL_law_242 ?_
  refine j_arg (v := nI v) hx hb hX hbl hbA hS (lv_at hl 1 rfl) (lv_at hl 5 rfl) 2 rfl (by omega) hL e2 dL_law_243 dL_law_244 dL_law_246 dL_law_247 dL_law_248 ?_
  refine j_arg (v := xs (i + 3)) hx hb hX hbl hbA hS (lv_at hl 1 rfl) (lv_at hl 5 rfl) 3 rfl (by omega) hL rfl dL_law_249 dL_law_250 dL_law_252 dL_law_253 dL_law_254 ?_
  refine j_argB (w := w) hx hb e3 dL_law_255 dL_law_258 dL_law_259 dL_law_262 ?_
  refine j_mV (As := [.int (nI k), .int (nI v), .int (nI w)]) (rest := []) ⟨hx, hb, hml, hown, hts⟩ (x3_X2_setSurvivor l dC dI cI cJ cZ cO ad n mo iv an T B py fu cy th k v (nI w) hn hm hv hk h1 hs) (cwV 3 hts gL_law_X2_setSurvivor rfl rfl rfl (by decide +kernel) ⟨Nat.le_of_ble_eq_true rfl, Nat.le_of_ble_eq_true rfl⟩) hK hP hD rfl (jMW_adr _ _ _ _ _ _ _ _ _ _ _ _ _ _) (fun _ => jMW_adr _ _ _ _ _ _ _ _ _ _ _ _ _ _) rfl hl rfl (Nat.le_of_ble_eq_true rfl) dL_law_263 hf1 hS (fun u H locs hr hP hD hS => ?_)
  have hI2 := hI
  exact jt_V hA9 hP hl (lv_at hl 3 rfl) (lv_at hl 0 rfl) hf1 dL_law_266 dL_law_267 dL_law_270 dL_law_272 dL_law_277 (by decide) (W.widen (by omega) (by omega) (go _ _ _ _ _ _ _ _ _ _ _ _ _ _ _ _ hI2 hP hD hS (lv_sub hl [1, 2, 3, 4, 5] rfl)))
set_option maxHeartbeats 4000000 in
set_option maxRecDepth 100000 in
theorem lw_setCap_c (h9 : jRd p l e s m below meth c dC dI cI cJ cZ cO b L xs oa ax ad Q i cells slots n mo iv aa an kp T B py ov fu cy th H locs ls) (k : Nat) (v : Nat) (hk : k < n) (h1 : v ≤ 200) (hs : ¬ an k 0 < mo) (e1 : xs (i + 1) = nI k) (e2 : xs (i + 2) = nI v) : W p l e room_1 s m #[Value.ref b] below meth c H locs cells slots Q (F0 m 280 ls []) := by
  obtain ⟨⟨hx, hb, hml, hown, hts, hX, hbl, hst, hZ, hK⟩, hI, hP, hD, hS, hl, hrm, hi9, hL, go⟩ := id h9
  have hA9 := h9.1
  obtain ⟨hn, hm, hv, hkp, hfr⟩ := id hI
  have hbA : ¬ s.heap.size ≤ b := Nat.not_le.mpr hbl
  have hf0 : cells ≤ 601024 ∧ slots ≤ 7293034 := ⟨by omega, by omega⟩
  refine lv_aload_n hx hb dL_law_280 rfl (lv_at hl 1 rfl) ?_
  refine j_arg (v := nI k) hx hb hX hbl hbA hS (lv_at hl 0 rfl) (lv_at hl 4 rfl) 1 rfl (by omega) hL e1 dL_law_281 dL_law_282 dL_law_284 dL_law_285 dL_law_286 ?_
  refine j_arg (v := nI v) hx hb hX hbl hbA hS (lv_at hl 0 rfl) (lv_at hl 4 rfl) 2 rfl (by omega) hL e2 dL_law_287 dL_law_288 dL_law_290 dL_law_291 dL_law_292 ?_
  refine j_lI (As := [.ref (ax 0), .int (nI k), .int (nI v)]) (rest := []) ⟨hx, hb, hml, hown, hts⟩ (c_L_setCap l dC dI cI cJ cZ cO oa ov ax (jao aa n) n mo iv (aa k) (an k) (kp k) (py k) k v (hv k hk) hm (by omega) (if_pos hk) h1 hs) (vx_cwSW 3 hts gL_law_L_setCap rfl rfl rfl (by decide +kernel) ⟨Nat.le_of_ble_eq_true rfl, Nat.le_of_ble_eq_true rfl⟩) hK (j_subP hP (jl_sB hk)) (j_subD hD (jl_sB hk)) rfl hl rfl (Nat.le_of_ble_eq_true rfl) dL_law_293 hf0 hS (j_subA hD (jl_sB hk)) (fun H1 locs hP1 hk1 hS => ?_)
  obtain ⟨hP, hD⟩ := jl_putA hk hP hD hk1 hP1
  clear hP1 hk1
  refine lv_istore (lv' := [(5, .int (nI 0)), (0, .ref b), (1, .ref (ax 0)), (2, .ref (ad 0)), (3, .ref oa), (4, .int (nI i))]) hx hb dL_law_296 hl (by decide) rfl (fun ls hl => ?_)
  refine lv_aload_n hx hb dL_law_298 rfl (lv_at hl 3 rfl) ?_
  refine j_arg (v := nI k) hx hb hX hbl hbA hS (lv_at hl 1 rfl) (lv_at hl 5 rfl) 1 rfl (by omega) hL e1 dL_law_299 dL_law_300 dL_law_302 dL_law_303 dL_law_304 ?_
  refine j_arg (v := nI v) hx hb hX hbl hbA hS (lv_at hl 1 rfl) (lv_at hl 5 rfl) 2 rfl (by omega) hL e2 dL_law_305 dL_law_306 dL_law_308 dL_law_309 dL_law_310 ?_
  refine j_mV (As := [.int (nI k), .int (nI v)]) (rest := []) ⟨hx, hb, hml, hown, hts⟩ (c_X2_setCap l dC dI cI cJ cZ cO ad n mo iv an T B py fu cy th k v hn hm hv hk h1 hs) (cwV 2 hts gL_law_X2_setCap rfl rfl rfl (by decide +kernel) ⟨Nat.le_of_ble_eq_true rfl, Nat.le_of_ble_eq_true rfl⟩) hK hP hD rfl (jMW_adr _ _ _ _ _ _ _ _ _ _ _ _ _ _) (fun _ => jMW_adr _ _ _ _ _ _ _ _ _ _ _ _ _ _) rfl hl rfl (Nat.le_of_ble_eq_true rfl) dL_law_311 hf0 hS (fun u H locs hr hP hD hS => ?_)
  have hI2 := jInv_A hI hk (jVu (hv k hk) (i := 5) h1)
  exact jt_V hA9 hP hl (lv_at hl 3 rfl) (lv_at hl 0 rfl) hf0 dL_law_314 dL_law_315 dL_law_318 dL_law_320 dL_law_325 (by decide) (W.widen (by omega) (by omega) (go _ _ _ _ _ _ _ _ _ _ _ _ _ _ _ _ hI2 hP hD hS (lv_sub hl [1, 2, 3, 4, 5] rfl)))
set_option maxHeartbeats 4000000 in
set_option maxRecDepth 100000 in
theorem lw_setCap_x1 (h9 : jRd p l e s m below meth c dC dI cI cJ cZ cO b L xs oa ax ad Q i cells slots n mo iv aa an kp T B py ov fu cy th H locs ls) (p0 : Int32) (p1 : Int32) (hb0 : ¬ vp_in p0 n) (e1 : xs (i + 1) = p0) (e2 : xs (i + 2) = p1) : W p l e room_1 s m #[Value.ref b] below meth c H locs cells slots Q (F0 m 280 ls []) := by
  obtain ⟨⟨hx, hb, hml, hown, hts, hX, hbl, hst, hZ, hK⟩, hI, hP, hD, hS, hl, hrm, hi9, hL, go⟩ := id h9
  have hA9 := h9.1
  obtain ⟨hn, hm, hv, hkp, hfr⟩ := id hI
  have hbA : ¬ s.heap.size ≤ b := Nat.not_le.mpr hbl
  have hf0 : cells ≤ 601024 ∧ slots ≤ 7293034 := ⟨by omega, by omega⟩
  refine lv_aload_n hx hb dL_law_280 rfl (lv_at hl 1 rfl) ?_
  refine j_arg (v := p0) hx hb hX hbl hbA hS (lv_at hl 0 rfl) (lv_at hl 4 rfl) 1 rfl (by omega) hL e1 dL_law_281 dL_law_282 dL_law_284 dL_law_285 dL_law_286 ?_
  refine j_arg (v := p1) hx hb hX hbl hbA hS (lv_at hl 0 rfl) (lv_at hl 4 rfl) 2 rfl (by omega) hL e2 dL_law_287 dL_law_288 dL_law_290 dL_law_291 dL_law_292 ?_
  have hZ9 : jX (fun _ => False) s H := jX.narrow (jX.kept hZ (fun a h1 h2 => hS.2.1 a h1 h2)) (fun _ h => h.elim)
  have hf1 : cells + 1 ≤ 601024 ∧ slots + 6 ≤ 7293034 := ⟨by omega, by omega⟩
  refine j_lX (As := [.ref (ax 0), .int p0, .int p1]) (rest := []) ⟨hx, hb, hml, hown, hts⟩ (x1_L_setCap l dC dI cI cJ cZ cO ax (jao aa n) n mo p0 p1 hst hn (fun j hj => if_neg (by omega)) hb0) (vx_cwSW 3 hts gL_law_L_setCap rfl rfl rfl (by decide +kernel) ⟨Nat.le_of_ble_eq_true rfl, Nat.le_of_ble_eq_true rfl⟩) hZ9 hK (j_subP hP jl_s2) rfl hl rfl (Nat.le_of_ble_eq_true rfl) dL_law_293 hf1 hS (fun H1 locs hk1 hS => ?_)
  have hP := j_keep hP hk1
  clear hZ9 hk1
  refine lv_istore (lv' := [(5, .int (nI 1)), (0, .ref b), (1, .ref (ax 0)), (2, .ref (ad 0)), (3, .ref oa), (4, .int (nI i))]) hx hb dL_law_296 hl (by decide) rfl (fun ls hl => ?_)
  refine lv_aload_n hx hb dL_law_298 rfl (lv_at hl 3 rfl) ?_
  refine j_arg (v := p0) hx hb hX hbl hbA hS (lv_at hl 1 rfl) (lv_at hl 5 rfl) 1 rfl (by omega) hL e1 dL_law_299 dL_law_300 dL_law_302 dL_law_303 dL_law_304 ?_
  refine j_arg (v := p1) hx hb hX hbl hbA hS (lv_at hl 1 rfl) (lv_at hl 5 rfl) 2 rfl (by omega) hL e2 dL_law_305 dL_law_306 dL_law_308 dL_law_309 dL_law_310 ?_
  refine j_mV (As := [.int p0, .int p1]) (rest := []) ⟨hx, hb, hml, hown, hts⟩ (x1_X2_setCap l dC dI cI cJ cZ cO ad n mo iv an T B py fu cy th p0 p1 hn hm hv hb0) (cwV 2 hts gL_law_X2_setCap rfl rfl rfl (by decide +kernel) ⟨Nat.le_of_ble_eq_true rfl, Nat.le_of_ble_eq_true rfl⟩) hK hP hD rfl (jMW_adr _ _ _ _ _ _ _ _ _ _ _ _ _ _) (fun _ => jMW_adr _ _ _ _ _ _ _ _ _ _ _ _ _ _) rfl hl rfl (Nat.le_of_ble_eq_true rfl) dL_law_311 hf1 hS (fun u H locs hr hP hD hS => ?_)
  have hI2 := hI
  exact jt_V hA9 hP hl (lv_at hl 3 rfl) (lv_at hl 0 rfl) hf1 dL_law_314 dL_law_315 dL_law_318 dL_law_320 dL_law_325 (by decide) (W.widen (by omega) (by omega) (go _ _ _ _ _ _ _ _ _ _ _ _ _ _ _ _ hI2 hP hD hS (lv_sub hl [1, 2, 3, 4, 5] rfl)))
set_option maxHeartbeats 4000000 in
set_option maxRecDepth 100000 in
theorem lw_setCap_x2 (h9 : jRd p l e s m below meth c dC dI cI cJ cZ cO b L xs oa ax ad Q i cells slots n mo iv aa an kp T B py ov fu cy th H locs ls) (k : Nat) (p1 : Int32) (hk : k < n) (h : p1 < nI 0 ∨ nI 200 < p1) (e1 : xs (i + 1) = nI k) (e2 : xs (i + 2) = p1) : W p l e room_1 s m #[Value.ref b] below meth c H locs cells slots Q (F0 m 280 ls []) := by
  obtain ⟨⟨hx, hb, hml, hown, hts, hX, hbl, hst, hZ, hK⟩, hI, hP, hD, hS, hl, hrm, hi9, hL, go⟩ := id h9
  have hA9 := h9.1
  obtain ⟨hn, hm, hv, hkp, hfr⟩ := id hI
  have hbA : ¬ s.heap.size ≤ b := Nat.not_le.mpr hbl
  have hf0 : cells ≤ 601024 ∧ slots ≤ 7293034 := ⟨by omega, by omega⟩
  refine lv_aload_n hx hb dL_law_280 rfl (lv_at hl 1 rfl) ?_
  refine j_arg (v := nI k) hx hb hX hbl hbA hS (lv_at hl 0 rfl) (lv_at hl 4 rfl) 1 rfl (by omega) hL e1 dL_law_281 dL_law_282 dL_law_284 dL_law_285 dL_law_286 ?_
  refine j_arg (v := p1) hx hb hX hbl hbA hS (lv_at hl 0 rfl) (lv_at hl 4 rfl) 2 rfl (by omega) hL e2 dL_law_287 dL_law_288 dL_law_290 dL_law_291 dL_law_292 ?_
  have hZ9 : jX (fun _ => False) s H := jX.narrow (jX.kept hZ (fun a h1 h2 => hS.2.1 a h1 h2)) (fun _ h => h.elim)
  have hf1 : cells + 1 ≤ 601024 ∧ slots + 6 ≤ 7293034 := ⟨by omega, by omega⟩
  refine j_lX (As := [.ref (ax 0), .int (nI k), .int p1]) (rest := []) ⟨hx, hb, hml, hown, hts⟩ (x2_L_setCap l dC dI cI cJ cZ cO ax (jao aa n) n mo iv (aa k) (an k) (kp k) (py k) k p1 hst (hv k hk) hm (by omega) (if_pos hk) h) (vx_cwSW 3 hts gL_law_L_setCap rfl rfl rfl (by decide +kernel) ⟨Nat.le_of_ble_eq_true rfl, Nat.le_of_ble_eq_true rfl⟩) hZ9 hK (j_subP hP (jl_s8 hk)) rfl hl rfl (Nat.le_of_ble_eq_true rfl) dL_law_293 hf1 hS (fun H1 locs hk1 hS => ?_)
  have hP := j_keep hP hk1
  clear hZ9 hk1
  refine lv_istore (lv' := [(5, .int (nI 2)), (0, .ref b), (1, .ref (ax 0)), (2, .ref (ad 0)), (3, .ref oa), (4, .int (nI i))]) hx hb dL_law_296 hl (by decide) rfl (fun ls hl => ?_)
  refine lv_aload_n hx hb dL_law_298 rfl (lv_at hl 3 rfl) ?_
  refine j_arg (v := nI k) hx hb hX hbl hbA hS (lv_at hl 1 rfl) (lv_at hl 5 rfl) 1 rfl (by omega) hL e1 dL_law_299 dL_law_300 dL_law_302 dL_law_303 dL_law_304 ?_
  refine j_arg (v := p1) hx hb hX hbl hbA hS (lv_at hl 1 rfl) (lv_at hl 5 rfl) 2 rfl (by omega) hL e2 dL_law_305 dL_law_306 dL_law_308 dL_law_309 dL_law_310 ?_
  refine j_mV (As := [.int (nI k), .int p1]) (rest := []) ⟨hx, hb, hml, hown, hts⟩ (x2_X2_setCap l dC dI cI cJ cZ cO ad n mo iv an T B py fu cy th k p1 hn hm hv hk h) (cwV 2 hts gL_law_X2_setCap rfl rfl rfl (by decide +kernel) ⟨Nat.le_of_ble_eq_true rfl, Nat.le_of_ble_eq_true rfl⟩) hK hP hD rfl (jMW_adr _ _ _ _ _ _ _ _ _ _ _ _ _ _) (fun _ => jMW_adr _ _ _ _ _ _ _ _ _ _ _ _ _ _) rfl hl rfl (Nat.le_of_ble_eq_true rfl) dL_law_311 hf1 hS (fun u H locs hr hP hD hS => ?_)
  have hI2 := hI
  exact jt_V hA9 hP hl (lv_at hl 3 rfl) (lv_at hl 0 rfl) hf1 dL_law_314 dL_law_315 dL_law_318 dL_law_320 dL_law_325 (by decide) (W.widen (by omega) (by omega) (go _ _ _ _ _ _ _ _ _ _ _ _ _ _ _ _ hI2 hP hD hS (lv_sub hl [1, 2, 3, 4, 5] rfl)))
set_option maxHeartbeats 4000000 in
set_option maxRecDepth 100000 in
theorem lw_setCap_x3 (h9 : jRd p l e s m below meth c dC dI cI cJ cZ cO b L xs oa ax ad Q i cells slots n mo iv aa an kp T B py ov fu cy th H locs ls) (k : Nat) (v : Nat) (hk : k < n) (h1 : v ≤ 200) (hs : an k 0 < mo) (e1 : xs (i + 1) = nI k) (e2 : xs (i + 2) = nI v) : W p l e room_1 s m #[Value.ref b] below meth c H locs cells slots Q (F0 m 280 ls []) := by
  obtain ⟨⟨hx, hb, hml, hown, hts, hX, hbl, hst, hZ, hK⟩, hI, hP, hD, hS, hl, hrm, hi9, hL, go⟩ := id h9
  have hA9 := h9.1
  obtain ⟨hn, hm, hv, hkp, hfr⟩ := id hI
  have hbA : ¬ s.heap.size ≤ b := Nat.not_le.mpr hbl
  have hf0 : cells ≤ 601024 ∧ slots ≤ 7293034 := ⟨by omega, by omega⟩
  refine lv_aload_n hx hb dL_law_280 rfl (lv_at hl 1 rfl) ?_
  refine j_arg (v := nI k) hx hb hX hbl hbA hS (lv_at hl 0 rfl) (lv_at hl 4 rfl) 1 rfl (by omega) hL e1 dL_law_281 dL_law_282 dL_law_284 dL_law_285 dL_law_286 ?_
  refine j_arg (v := nI v) hx hb hX hbl hbA hS (lv_at hl 0 rfl) (lv_at hl 4 rfl) 2 rfl (by omega) hL e2 dL_law_287 dL_law_288 dL_law_290 dL_law_291 dL_law_292 ?_
  have hZ9 : jX (fun _ => False) s H := jX.narrow (jX.kept hZ (fun a h1 h2 => hS.2.1 a h1 h2)) (fun _ h => h.elim)
  have hf1 : cells + 1 ≤ 601024 ∧ slots + 6 ≤ 7293034 := ⟨by omega, by omega⟩
  refine j_lX (As := [.ref (ax 0), .int (nI k), .int (nI v)]) (rest := []) ⟨hx, hb, hml, hown, hts⟩ (x3_L_setCap l dC dI cI cJ cZ cO ax (jao aa n) n mo iv (aa k) (an k) (kp k) (py k) k v hst (hv k hk) hm (by omega) (if_pos hk) h1 hs) (vx_cwSW 3 hts gL_law_L_setCap rfl rfl rfl (by decide +kernel) ⟨Nat.le_of_ble_eq_true rfl, Nat.le_of_ble_eq_true rfl⟩) hZ9 hK (j_subP hP (jl_s8 hk)) rfl hl rfl (Nat.le_of_ble_eq_true rfl) dL_law_293 hf1 hS (fun H1 locs hk1 hS => ?_)
  have hP := j_keep hP hk1
  clear hZ9 hk1
  refine lv_istore (lv' := [(5, .int (nI 3)), (0, .ref b), (1, .ref (ax 0)), (2, .ref (ad 0)), (3, .ref oa), (4, .int (nI i))]) hx hb dL_law_296 hl (by decide) rfl (fun ls hl => ?_)
  refine lv_aload_n hx hb dL_law_298 rfl (lv_at hl 3 rfl) ?_
  refine j_arg (v := nI k) hx hb hX hbl hbA hS (lv_at hl 1 rfl) (lv_at hl 5 rfl) 1 rfl (by omega) hL e1 dL_law_299 dL_law_300 dL_law_302 dL_law_303 dL_law_304 ?_
  refine j_arg (v := nI v) hx hb hX hbl hbA hS (lv_at hl 1 rfl) (lv_at hl 5 rfl) 2 rfl (by omega) hL e2 dL_law_305 dL_law_306 dL_law_308 dL_law_309 dL_law_310 ?_
  refine j_mV (As := [.int (nI k), .int (nI v)]) (rest := []) ⟨hx, hb, hml, hown, hts⟩ (x3_X2_setCap l dC dI cI cJ cZ cO ad n mo iv an T B py fu cy th k v hn hm hv hk h1 hs) (cwV 2 hts gL_law_X2_setCap rfl rfl rfl (by decide +kernel) ⟨Nat.le_of_ble_eq_true rfl, Nat.le_of_ble_eq_true rfl⟩) hK hP hD rfl (jMW_adr _ _ _ _ _ _ _ _ _ _ _ _ _ _) (fun _ => jMW_adr _ _ _ _ _ _ _ _ _ _ _ _ _ _) rfl hl rfl (Nat.le_of_ble_eq_true rfl) dL_law_311 hf1 hS (fun u H locs hr hP hD hS => ?_)
  have hI2 := hI
  exact jt_V hA9 hP hl (lv_at hl 3 rfl) (lv_at hl 0 rfl) hf1 dL_law_314 dL_law_315 dL_law_318 dL_law_320 dL_law_325 (by decide) (W.widen (by omega) (by omega) (go _ _ _ _ _ _ _ _ _ _ _ _ _ _ _ _ hI2 hP hD hS (lv_sub hl [1, 2, 3, 4, 5] rfl)))
set_option maxHeartbeats 4000000 in
set_option maxRecDepth 100000 in
theorem lw_protect_c (h9 : jRd p l e s m below meth c dC dI cI cJ cZ cO b L xs oa ax ad Q i cells slots n mo iv aa an kp T B py ov fu cy th H locs ls) (k : Nat) (v : Nat) (w : Nat) (hk : k < n) (h1 : v ≤ 10000000) (h2 : w ≤ 100) (hs : ¬ an k 0 < mo) (e1 : xs (i + 1) = nI k) (e2 : xs (i + 2) = nI v) (e3 : xs (i + 3) = nI w) : W p l e room_1 s m #[Value.ref b] below meth c H locs cells slots Q (F0 m 328 ls []) := by
  obtain ⟨⟨hx, hb, hml, hown, hts, hX, hbl, hst, hZ, hK⟩, hI, hP, hD, hS, hl, hrm, hi9, hL, go⟩ := id h9
  have hA9 := h9.1
  obtain ⟨hn, hm, hv, hkp, hfr⟩ := id hI
  have hbA : ¬ s.heap.size ≤ b := Nat.not_le.mpr hbl
  have hf0 : cells ≤ 601024 ∧ slots ≤ 7293034 := ⟨by omega, by omega⟩
  refine lv_aload_n hx hb dL_law_328 rfl (lv_at hl 1 rfl) ?_
  refine j_arg (v := nI k) hx hb hX hbl hbA hS (lv_at hl 0 rfl) (lv_at hl 4 rfl) 1 rfl (by omega) hL e1 dL_law_329 dL_law_330 dL_law_332 dL_law_333 dL_law_334 ?_
  refine j_arg (v := nI v) hx hb hX hbl hbA hS (lv_at hl 0 rfl) (lv_at hl 4 rfl) 2 rfl (by omega) hL e2 dL_law_335 dL_law_336 dL_law_338 dL_law_339 dL_law_340 ?_
  refine j_arg (v := nI w) hx hb hX hbl hbA hS (lv_at hl 0 rfl) (lv_at hl 4 rfl) 3 rfl (by omega) hL e3 dL_law_341 dL_law_342 dL_law_344 dL_law_345 dL_law_346 ?_
  refine j_lI (As := [.ref (ax 0), .int (nI k), .int (nI v), .int (nI w)]) (rest := []) ⟨hx, hb, hml, hown, hts⟩ (c_L_protect l dC dI cI cJ cZ cO oa ov ax (jao aa n) n mo iv (aa k) (an k) (kp k) (py k) k v w (hv k hk) hm (by omega) (if_pos hk) h1 h2 hs) (vx_cwSW 4 hts gL_law_L_protect rfl rfl rfl (by decide +kernel) ⟨Nat.le_of_ble_eq_true rfl, Nat.le_of_ble_eq_true rfl⟩) hK (j_subP hP (jl_sB hk)) (j_subD hD (jl_sB hk)) rfl hl rfl (Nat.le_of_ble_eq_true rfl) dL_law_347 hf0 hS (j_subA hD (jl_sB hk)) (fun H1 locs hP1 hk1 hS => ?_)
  obtain ⟨hP, hD⟩ := jl_putA hk hP hD hk1 hP1
  clear hP1 hk1
  refine lv_istore (lv' := [(5, .int (nI 0)), (0, .ref b), (1, .ref (ax 0)), (2, .ref (ad 0)), (3, .ref oa), (4, .int (nI i))]) hx hb dL_law_350 hl (by decide) rfl (fun ls hl => ?_)
  refine lv_aload_n hx hb dL_law_352 rfl (lv_at hl 3 rfl) ?_
  refine j_arg (v := nI k) hx hb hX hbl hbA hS (lv_at hl 1 rfl) (lv_at hl 5 rfl) 1 rfl (by omega) hL e1 dL_law_353 dL_law_354 dL_law_356 dL_law_357 dL_law_358 ?_
  refine j_arg (v := nI v) hx hb hX hbl hbA hS (lv_at hl 1 rfl) (lv_at hl 5 rfl) 2 rfl (by omega) hL e2 dL_law_359 dL_law_360 dL_law_362 dL_law_363 dL_law_364 ?_
  refine j_arg (v := nI w) hx hb hX hbl hbA hS (lv_at hl 1 rfl) (lv_at hl 5 rfl) 3 rfl (by omega) hL e3 dL_law_365 dL_law_366 dL_law_368 dL_law_369 dL_law_370 ?_
  refine j_mV (As := [.int (nI k), .int (nI v), .int (nI w)]) (rest := []) ⟨hx, hb, hml, hown, hts⟩ (c_X2_protect l dC dI cI cJ cZ cO ad n mo iv an T B py fu cy th k v w hn hm hv hk h1 h2 hs) (cwV 3 hts gL_law_X2_protect rfl rfl rfl (by decide +kernel) ⟨Nat.le_of_ble_eq_true rfl, Nat.le_of_ble_eq_true rfl⟩) hK hP hD rfl (jMW_adr _ _ _ _ _ _ _ _ _ _ _ _ _ _) (fun _ => jMW_adr _ _ _ _ _ _ _ _ _ _ _ _ _ _) rfl hl rfl (Nat.le_of_ble_eq_true rfl) dL_law_371 hf0 hS (fun u H locs hr hP hD hS => ?_)
  have hI2 := jInv_A hI hk (jVu (jVu (hv k hk) (i := 6) h1) (i := 7) h2)
  exact jt_V hA9 hP hl (lv_at hl 3 rfl) (lv_at hl 0 rfl) hf0 dL_law_374 dL_law_375 dL_law_378 dL_law_380 dL_law_385 (by decide) (W.widen (by omega) (by omega) (go _ _ _ _ _ _ _ _ _ _ _ _ _ _ _ _ hI2 hP hD hS (lv_sub hl [1, 2, 3, 4, 5] rfl)))
set_option maxHeartbeats 4000000 in
set_option maxRecDepth 100000 in
theorem lw_protect_x1 (h9 : jRd p l e s m below meth c dC dI cI cJ cZ cO b L xs oa ax ad Q i cells slots n mo iv aa an kp T B py ov fu cy th H locs ls) (p0 : Int32) (p1 : Int32) (p2 : Int32) (hb0 : ¬ vp_in p0 n) (e1 : xs (i + 1) = p0) (e2 : xs (i + 2) = p1) (e3 : xs (i + 3) = p2) : W p l e room_1 s m #[Value.ref b] below meth c H locs cells slots Q (F0 m 328 ls []) := by
  obtain ⟨⟨hx, hb, hml, hown, hts, hX, hbl, hst, hZ, hK⟩, hI, hP, hD, hS, hl, hrm, hi9, hL, go⟩ := id h9
  have hA9 := h9.1
  obtain ⟨hn, hm, hv, hkp, hfr⟩ := id hI
  have hbA : ¬ s.heap.size ≤ b := Nat.not_le.mpr hbl
  have hf0 : cells ≤ 601024 ∧ slots ≤ 7293034 := ⟨by omega, by omega⟩
  refine lv_aload_n hx hb dL_law_328 rfl (lv_at hl 1 rfl) ?_
  refine j_arg (v := p0) hx hb hX hbl hbA hS (lv_at hl 0 rfl) (lv_at hl 4 rfl) 1 rfl (by omega) hL e1 dL_law_329 dL_law_330 dL_law_332 dL_law_333 dL_law_334 ?_
  refine j_arg (v := p1) hx hb hX hbl hbA hS (lv_at hl 0 rfl) (lv_at hl 4 rfl) 2 rfl (by omega) hL e2 dL_law_335 dL_law_336 dL_law_338 dL_law_339 dL_law_340 ?_
  refine j_arg (v := p2) hx hb hX hbl hbA hS (lv_at hl 0 rfl) (lv_at hl 4 rfl) 3 rfl (by omega) hL e3 dL_law_341 dL_law_342 dL_law_344 dL_law_345 dL_law_346 ?_
  have hZ9 : jX (fun _ => False) s H := jX.narrow (jX.kept hZ (fun a h1 h2 => hS.2.1 a h1 h2)) (fun _ h => h.elim)
  have hf1 : cells + 1 ≤ 601024 ∧ slots + 6 ≤ 7293034 := ⟨by omega, by omega⟩
  refine j_lX (As := [.ref (ax 0), .int p0, .int p1, .int p2]) (rest := []) ⟨hx, hb, hml, hown, hts⟩ (x1_L_protect l dC dI cI cJ cZ cO ax (jao aa n) n mo p0 p1 p2 hst hn (fun j hj => if_neg (by omega)) hb0) (vx_cwSW 4 hts gL_law_L_protect rfl rfl rfl (by decide +kernel) ⟨Nat.le_of_ble_eq_true rfl, Nat.le_of_ble_eq_true rfl⟩) hZ9 hK (j_subP hP jl_s2) rfl hl rfl (Nat.le_of_ble_eq_true rfl) dL_law_347 hf1 hS (fun H1 locs hk1 hS => ?_)
  have hP := j_keep hP hk1
  clear hZ9 hk1
  refine lv_istore (lv' := [(5, .int (nI 1)), (0, .ref b), (1, .ref (ax 0)), (2, .ref (ad 0)), (3, .ref oa), (4, .int (nI i))]) hx hb dL_law_350 hl (by decide) rfl (fun ls hl => ?_)
  refine lv_aload_n hx hb dL_law_352 rfl (lv_at hl 3 rfl) ?_
  refine j_arg (v := p0) hx hb hX hbl hbA hS (lv_at hl 1 rfl) (lv_at hl 5 rfl) 1 rfl (by omega) hL e1 dL_law_353 dL_law_354 dL_law_356 dL_law_357 dL_law_358 ?_
  refine j_arg (v := p1) hx hb hX hbl hbA hS (lv_at hl 1 rfl) (lv_at hl 5 rfl) 2 rfl (by omega) hL e2 dL_law_359 dL_law_360 dL_law_362 dL_law_363 dL_law_364 ?_
  refine j_arg (v := p2) hx hb hX hbl hbA hS (lv_at hl 1 rfl) (lv_at hl 5 rfl) 3 rfl (by omega) hL e3 dL_law_365 dL_law_366 dL_law_368 dL_law_369 dL_law_370 ?_
  refine j_mV (As := [.int p0, .int p1, .int p2]) (rest := []) ⟨hx, hb, hml, hown, hts⟩ (x1_X2_protect l dC dI cI cJ cZ cO ad n mo iv an T B py fu cy th p0 p1 p2 hn hm hv hb0) (cwV 3 hts gL_law_X2_protect rfl rfl rfl (by decide +kernel) ⟨Nat.le_of_ble_eq_true rfl, Nat.le_of_ble_eq_true rfl⟩) hK hP hD rfl (jMW_adr _ _ _ _ _ _ _ _ _ _ _ _ _ _) (fun _ => jMW_adr _ _ _ _ _ _ _ _ _ _ _ _ _ _) rfl hl rfl (Nat.le_of_ble_eq_true rfl) dL_law_371 hf1 hS (fun u H locs hr hP hD hS => ?_)
  have hI2 := hI
  exact jt_V hA9 hP hl (lv_at hl 3 rfl) (lv_at hl 0 rfl) hf1 dL_law_374 dL_law_375 dL_law_378 dL_law_380 dL_law_385 (by decide) (W.widen (by omega) (by omega) (go _ _ _ _ _ _ _ _ _ _ _ _ _ _ _ _ hI2 hP hD hS (lv_sub hl [1, 2, 3, 4, 5] rfl)))
set_option maxHeartbeats 4000000 in
set_option maxRecDepth 100000 in
theorem lw_protect_x2 (h9 : jRd p l e s m below meth c dC dI cI cJ cZ cO b L xs oa ax ad Q i cells slots n mo iv aa an kp T B py ov fu cy th H locs ls) (k : Nat) (p1 : Int32) (p2 : Int32) (hk : k < n) (h : p1 < nI 0 ∨ nI 10000000 < p1) (e1 : xs (i + 1) = nI k) (e2 : xs (i + 2) = p1) (e3 : xs (i + 3) = p2) : W p l e room_1 s m #[Value.ref b] below meth c H locs cells slots Q (F0 m 328 ls []) := by
  obtain ⟨⟨hx, hb, hml, hown, hts, hX, hbl, hst, hZ, hK⟩, hI, hP, hD, hS, hl, hrm, hi9, hL, go⟩ := id h9
  have hA9 := h9.1
  obtain ⟨hn, hm, hv, hkp, hfr⟩ := id hI
  have hbA : ¬ s.heap.size ≤ b := Nat.not_le.mpr hbl
  have hf0 : cells ≤ 601024 ∧ slots ≤ 7293034 := ⟨by omega, by omega⟩
  refine lv_aload_n hx hb dL_law_328 rfl (lv_at hl 1 rfl) ?_
  refine j_arg (v := nI k) hx hb hX hbl hbA hS (lv_at hl 0 rfl) (lv_at hl 4 rfl) 1 rfl (by omega) hL e1 dL_law_329 dL_law_330 dL_law_332 dL_law_333 dL_law_334 ?_
  refine j_arg (v := p1) hx hb hX hbl hbA hS (lv_at hl 0 rfl) (lv_at hl 4 rfl) 2 rfl (by omega) hL e2 dL_law_335 dL_law_336 dL_law_338 dL_law_339 dL_law_340 ?_
  refine j_arg (v := p2) hx hb hX hbl hbA hS (lv_at hl 0 rfl) (lv_at hl 4 rfl) 3 rfl (by omega) hL e3 dL_law_341 dL_law_342 dL_law_344 dL_law_345 dL_law_346 ?_
  have hZ9 : jX (fun _ => False) s H := jX.narrow (jX.kept hZ (fun a h1 h2 => hS.2.1 a h1 h2)) (fun _ h => h.elim)
  have hf1 : cells + 1 ≤ 601024 ∧ slots + 6 ≤ 7293034 := ⟨by omega, by omega⟩
  refine j_lX (As := [.ref (ax 0), .int (nI k), .int p1, .int p2]) (rest := []) ⟨hx, hb, hml, hown, hts⟩ (x2_L_protect l dC dI cI cJ cZ cO ax (jao aa n) n mo iv (aa k) (an k) (kp k) (py k) k p1 p2 hst (hv k hk) hm (by omega) (if_pos hk) h) (vx_cwSW 4 hts gL_law_L_protect rfl rfl rfl (by decide +kernel) ⟨Nat.le_of_ble_eq_true rfl, Nat.le_of_ble_eq_true rfl⟩) hZ9 hK (j_subP hP (jl_s8 hk)) rfl hl rfl (Nat.le_of_ble_eq_true rfl) dL_law_347 hf1 hS (fun H1 locs hk1 hS => ?_)
  have hP := j_keep hP hk1
  clear hZ9 hk1
  refine lv_istore (lv' := [(5, .int (nI 2)), (0, .ref b), (1, .ref (ax 0)), (2, .ref (ad 0)), (3, .ref oa), (4, .int (nI i))]) hx hb dL_law_350 hl (by decide) rfl (fun ls hl => ?_)
  refine lv_aload_n hx hb dL_law_352 rfl (lv_at hl 3 rfl) ?_
  refine j_arg (v := nI k) hx hb hX hbl hbA hS (lv_at hl 1 rfl) (lv_at hl 5 rfl) 1 rfl (by omega) hL e1 dL_law_353 dL_law_354 dL_law_356 dL_law_357 dL_law_358 ?_
  refine j_arg (v := p1) hx hb hX hbl hbA hS (lv_at hl 1 rfl) (lv_at hl 5 rfl) 2 rfl (by omega) hL e2 dL_law_359 dL_law_360 dL_law_362 dL_law_363 dL_law_364 ?_
  refine j_arg (v := p2) hx hb hX hbl hbA hS (lv_at hl 1 rfl) (lv_at hl 5 rfl) 3 rfl (by omega) hL e3 dL_law_365 dL_law_366 dL_law_368 dL_law_369 dL_law_370 ?_
  refine j_mV (As := [.int (nI k), .int p1, .int p2]) (rest := []) ⟨hx, hb, hml, hown, hts⟩ (x2_X2_protect l dC dI cI cJ cZ cO ad n mo iv an T B py fu cy th k p1 p2 hn hm hv hk h) (cwV 3 hts gL_law_X2_protect rfl rfl rfl (by decide +kernel) ⟨Nat.le_of_ble_eq_true rfl, Nat.le_of_ble_eq_true rfl⟩) hK hP hD rfl (jMW_adr _ _ _ _ _ _ _ _ _ _ _ _ _ _) (fun _ => jMW_adr _ _ _ _ _ _ _ _ _ _ _ _ _ _) rfl hl rfl (Nat.le_of_ble_eq_true rfl) dL_law_371 hf1 hS (fun u H locs hr hP hD hS => ?_)
  have hI2 := hI
  exact jt_V hA9 hP hl (lv_at hl 3 rfl) (lv_at hl 0 rfl) hf1 dL_law_374 dL_law_375 dL_law_378 dL_law_380 dL_law_385 (by decide) (W.widen (by omega) (by omega) (go _ _ _ _ _ _ _ _ _ _ _ _ _ _ _ _ hI2 hP hD hS (lv_sub hl [1, 2, 3, 4, 5] rfl)))
set_option maxHeartbeats 4000000 in
set_option maxRecDepth 100000 in
theorem lw_protect_x2b (h9 : jRd p l e s m below meth c dC dI cI cJ cZ cO b L xs oa ax ad Q i cells slots n mo iv aa an kp T B py ov fu cy th H locs ls) (k : Nat) (v : Nat) (p2 : Int32) (hk : k < n) (h1 : v ≤ 10000000) (h : p2 < nI 0 ∨ nI 100 < p2) (e1 : xs (i + 1) = nI k) (e2 : xs (i + 2) = nI v) (e3 : xs (i + 3) = p2) : W p l e room_1 s m #[Value.ref b] below meth c H locs cells slots Q (F0 m 328 ls []) := by
  obtain ⟨⟨hx, hb, hml, hown, hts, hX, hbl, hst, hZ, hK⟩, hI, hP, hD, hS, hl, hrm, hi9, hL, go⟩ := id h9
  have hA9 := h9.1
  obtain ⟨hn, hm, hv, hkp, hfr⟩ := id hI
  have hbA : ¬ s.heap.size ≤ b := Nat.not_le.mpr hbl
  have hf0 : cells ≤ 601024 ∧ slots ≤ 7293034 := ⟨by omega, by omega⟩
  refine lv_aload_n hx hb dL_law_328 rfl (lv_at hl 1 rfl) ?_
  refine j_arg (v := nI k) hx hb hX hbl hbA hS (lv_at hl 0 rfl) (lv_at hl 4 rfl) 1 rfl (by omega) hL e1 dL_law_329 dL_law_330 dL_law_332 dL_law_333 dL_law_334 ?_
  refine j_arg (v := nI v) hx hb hX hbl hbA hS (lv_at hl 0 rfl) (lv_at hl 4 rfl) 2 rfl (by omega) hL e2 dL_law_335 dL_law_336 dL_law_338 dL_law_339 dL_law_340 ?_
  refine j_arg (v := p2) hx hb hX hbl hbA hS (lv_at hl 0 rfl) (lv_at hl 4 rfl) 3 rfl (by omega) hL e3 dL_law_341 dL_law_342 dL_law_344 dL_law_345 dL_law_346 ?_
  have hZ9 : jX (fun _ => False) s H := jX.narrow (jX.kept hZ (fun a h1 h2 => hS.2.1 a h1 h2)) (fun _ h => h.elim)
  have hf1 : cells + 1 ≤ 601024 ∧ slots + 6 ≤ 7293034 := ⟨by omega, by omega⟩
  refine j_lX (As := [.ref (ax 0), .int (nI k), .int (nI v), .int p2]) (rest := []) ⟨hx, hb, hml, hown, hts⟩ (x2b_L_protect l dC dI cI cJ cZ cO ax (jao aa n) n mo iv (aa k) (an k) (kp k) (py k) k v p2 hst (hv k hk) hm (by omega) (if_pos hk) h1 h) (vx_cwSW 4 hts gL_law_L_protect rfl rfl rfl (by decide +kernel) ⟨Nat.le_of_ble_eq_true rfl, Nat.le_of_ble_eq_true rfl⟩) hZ9 hK (j_subP hP (jl_s8 hk)) rfl hl rfl (Nat.le_of_ble_eq_true rfl) dL_law_347 hf1 hS (fun H1 locs hk1 hS => ?_)
  have hP := j_keep hP hk1
  clear hZ9 hk1
  refine lv_istore (lv' := [(5, .int (nI 2)), (0, .ref b), (1, .ref (ax 0)), (2, .ref (ad 0)), (3, .ref oa), (4, .int (nI i))]) hx hb dL_law_350 hl (by decide) rfl (fun ls hl => ?_)
  refine lv_aload_n hx hb dL_law_352 rfl (lv_at hl 3 rfl) ?_
  refine j_arg (v := nI k) hx hb hX hbl hbA hS (lv_at hl 1 rfl) (lv_at hl 5 rfl) 1 rfl (by omega) hL e1 dL_law_353 dL_law_354 dL_law_356 dL_law_357 dL_law_358 ?_
  refine j_arg (v := nI v) hx hb hX hbl hbA hS (lv_at hl 1 rfl) (lv_at hl 5 rfl) 2 rfl (by omega) hL e2 dL_law_359 dL_law_360 dL_law_362 dL_law_363 dL_law_364 ?_
  refine j_arg (v := p2) hx hb hX hbl hbA hS (lv_at hl 1 rfl) (lv_at hl 5 rfl) 3 rfl (by omega) hL e3 dL_law_365 dL_law_366 dL_law_368 dL_law_369 dL_law_370 ?_
  refine j_mV (As := [.int (nI k), .int (nI v), .int p2]) (rest := []) ⟨hx, hb, hml, hown, hts⟩ (x2b_X2_protect l dC dI cI cJ cZ cO ad n mo iv an T B py fu cy th k v p2 hn hm hv hk h1 h) (cwV 3 hts gL_law_X2_protect rfl rfl rfl (by decide +kernel) ⟨Nat.le_of_ble_eq_true rfl, Nat.le_of_ble_eq_true rfl⟩) hK hP hD rfl (jMW_adr _ _ _ _ _ _ _ _ _ _ _ _ _ _) (fun _ => jMW_adr _ _ _ _ _ _ _ _ _ _ _ _ _ _) rfl hl rfl (Nat.le_of_ble_eq_true rfl) dL_law_371 hf1 hS (fun u H locs hr hP hD hS => ?_)
  have hI2 := hI
  exact jt_V hA9 hP hl (lv_at hl 3 rfl) (lv_at hl 0 rfl) hf1 dL_law_374 dL_law_375 dL_law_378 dL_law_380 dL_law_385 (by decide) (W.widen (by omega) (by omega) (go _ _ _ _ _ _ _ _ _ _ _ _ _ _ _ _ hI2 hP hD hS (lv_sub hl [1, 2, 3, 4, 5] rfl)))
set_option maxHeartbeats 4000000 in
set_option maxRecDepth 100000 in
theorem lw_protect_x3 (h9 : jRd p l e s m below meth c dC dI cI cJ cZ cO b L xs oa ax ad Q i cells slots n mo iv aa an kp T B py ov fu cy th H locs ls) (k : Nat) (v : Nat) (w : Nat) (hk : k < n) (h1 : v ≤ 10000000) (h2 : w ≤ 100) (hs : an k 0 < mo) (e1 : xs (i + 1) = nI k) (e2 : xs (i + 2) = nI v) (e3 : xs (i + 3) = nI w) : W p l e room_1 s m #[Value.ref b] below meth c H locs cells slots Q (F0 m 328 ls []) := by
  obtain ⟨⟨hx, hb, hml, hown, hts, hX, hbl, hst, hZ, hK⟩, hI, hP, hD, hS, hl, hrm, hi9, hL, go⟩ := id h9
  have hA9 := h9.1
  obtain ⟨hn, hm, hv, hkp, hfr⟩ := id hI
  have hbA : ¬ s.heap.size ≤ b := Nat.not_le.mpr hbl
  have hf0 : cells ≤ 601024 ∧ slots ≤ 7293034 := ⟨by omega, by omega⟩
  refine lv_aload_n hx hb dL_law_328 rfl (lv_at hl 1 rfl) ?_
  refine j_arg (v := nI k) hx hb hX hbl hbA hS (lv_at hl 0 rfl) (lv_at hl 4 rfl) 1 rfl (by omega) hL e1 dL_law_329 dL_law_330 dL_law_332 dL_law_333 dL_law_334 ?_
  refine j_arg (v := nI v) hx hb hX hbl hbA hS (lv_at hl 0 rfl) (lv_at hl 4 rfl) 2 rfl (by omega) hL e2 dL_law_335 dL_law_336 dL_law_338 dL_law_339 dL_law_340 ?_
  refine j_arg (v := nI w) hx hb hX hbl hbA hS (lv_at hl 0 rfl) (lv_at hl 4 rfl) 3 rfl (by omega) hL e3 dL_law_341 dL_law_342 dL_law_344 dL_law_345 dL_law_346 ?_
  have hZ9 : jX (fun _ => False) s H := jX.narrow (jX.kept hZ (fun a h1 h2 => hS.2.1 a h1 h2)) (fun _ h => h.elim)
  have hf1 : cells + 1 ≤ 601024 ∧ slots + 6 ≤ 7293034 := ⟨by omega, by omega⟩
  refine j_lX (As := [.ref (ax 0), .int (nI k), .int (nI v), .int (nI w)]) (rest := []) ⟨hx, hb, hml, hown, hts⟩ (x3_L_protect l dC dI cI cJ cZ cO ax (jao aa n) n mo iv (aa k) (an k) (kp k) (py k) k v w hst (hv k hk) hm (by omega) (if_pos hk) h1 h2 hs) (vx_cwSW 4 hts gL_law_L_protect rfl rfl rfl (by decide +kernel) ⟨Nat.le_of_ble_eq_true rfl, Nat.le_of_ble_eq_true rfl⟩) hZ9 hK (j_subP hP (jl_s8 hk)) rfl hl rfl (Nat.le_of_ble_eq_true rfl) dL_law_347 hf1 hS (fun H1 locs hk1 hS => ?_)
  have hP := j_keep hP hk1
  clear hZ9 hk1
  refine lv_istore (lv' := [(5, .int (nI 3)), (0, .ref b), (1, .ref (ax 0)), (2, .ref (ad 0)), (3, .ref oa), (4, .int (nI i))]) hx hb dL_law_350 hl (by decide) rfl (fun ls hl => ?_)
  refine lv_aload_n hx hb dL_law_352 rfl (lv_at hl 3 rfl) ?_
  refine j_arg (v := nI k) hx hb hX hbl hbA hS (lv_at hl 1 rfl) (lv_at hl 5 rfl) 1 rfl (by omega) hL e1 dL_law_353 dL_law_354 dL_law_356 dL_law_357 dL_law_358 ?_
  refine j_arg (v := nI v) hx hb hX hbl hbA hS (lv_at hl 1 rfl) (lv_at hl 5 rfl) 2 rfl (by omega) hL e2 dL_law_359 dL_law_360 dL_law_362 dL_law_363 dL_law_364 ?_
  refine j_arg (v := nI w) hx hb hX hbl hbA hS (lv_at hl 1 rfl) (lv_at hl 5 rfl) 3 rfl (by omega) hL e3 dL_law_365 dL_law_366 dL_law_368 dL_law_369 dL_law_370 ?_
  refine j_mV (As := [.int (nI k), .int (nI v), .int (nI w)]) (rest := []) ⟨hx, hb, hml, hown, hts⟩ (x3_X2_protect l dC dI cI cJ cZ cO ad n mo iv an T B py fu cy th k v w hn hm hv hk h1 h2 hs) (cwV 3 hts gL_law_X2_protect rfl rfl rfl (by decide +kernel) ⟨Nat.le_of_ble_eq_true rfl, Nat.le_of_ble_eq_true rfl⟩) hK hP hD rfl (jMW_adr _ _ _ _ _ _ _ _ _ _ _ _ _ _) (fun _ => jMW_adr _ _ _ _ _ _ _ _ _ _ _ _ _ _) rfl hl rfl (Nat.le_of_ble_eq_true rfl) dL_law_371 hf1 hS (fun u H locs hr hP hD hS => ?_)
  have hI2 := hI
  exact jt_V hA9 hP hl (lv_at hl 3 rfl) (lv_at hl 0 rfl) hf1 dL_law_374 dL_law_375 dL_law_378 dL_law_380 dL_law_385 (by decide) (W.widen (by omega) (by omega) (go _ _ _ _ _ _ _ _ _ _ _ _ _ _ _ _ hI2 hP hD hS (lv_sub hl [1, 2, 3, 4, 5] rfl)))
end JLR
