/-! the rounds, case by case -/
section JLR
variable {p : Program} {l : Launch} {e : Env} {s : State} {m : MethodId} {below : List Frame} {meth : Method} {c : Code} {dC : Nat → ClassId} {dI : Nat → Nat → Nat} {cI cJ cZ cO : ClassId} {b L : Nat} {xs : Nat → Int32} {oa : Nat} {ax ad : Nat → Nat} {Q : State → Prop} {i cells slots n mo : Nat} {iv : Nat → Int32} {aa an : Nat → Nat → Nat} {kp T B : Nat → Int64} {py : Nat → Nat → Int64} {ov : Nat → Int64} {fu cy th : Int32} {H : Heap} {locs : List Loc} {ls : Array Slot}
set_option maxHeartbeats 4000000 in
set_option maxRecDepth 100000 in
theorem lw_setInflation_c (h9 : jRd p l e s m below meth c dC dI cI cJ cZ cO b L xs oa ax ad Q i cells slots n mo iv aa an kp T B py ov fu cy th H locs ls) (yy : Nat) (v : Int32) (hy : yy < 20) (hv1 : ¬ v < (-100)) (hv2 : ¬ nI 300 < v) (e1 : xs (i + 1) = nI yy) (e2 : xs (i + 2) = v) : W p l e room_1 s m #[Value.ref b] below meth c H locs cells slots Q (F0 m 388 ls []) := by
  obtain ⟨⟨hx, hb, hml, hown, hts, hX, hbl, hst, hZ, hK⟩, hI, hP, hD, hS, hl, hrm, hi9, hL, go⟩ := id h9
  have hA9 := h9.1
  obtain ⟨hn, hm, hv, hkp, hfr⟩ := id hI
  have hbA : ¬ s.heap.size ≤ b := Nat.not_le.mpr hbl
  have hf0 : cells ≤ 601024 ∧ slots ≤ 7293034 := ⟨by omega, by omega⟩
  refine lv_aload_n hx hb dL_law_388 rfl (lv_at hl 1 rfl) ?_
  refine j_arg (v := nI yy) hx hb hX hbl hbA hS (lv_at hl 0 rfl) (lv_at hl 4 rfl) 1 rfl (by omega) hL e1 dL_law_389 dL_law_390 dL_law_392 dL_law_393 dL_law_394 ?_
  refine j_arg (v := v) hx hb hX hbl hbA hS (lv_at hl 0 rfl) (lv_at hl 4 rfl) 2 rfl (by omega) hL e2 dL_law_395 dL_law_396 dL_law_398 dL_law_399 dL_law_400 ?_
  refine lv_aload_n hx hb dL_law_401 rfl (lv_at hl 3 rfl) ?_
  have hPc : va_P (dC, dI) vwCl (jLX cI cJ cO oa ov ax n mo iv aa ++ jBl (jbk cI cJ aa an iv kp py) n) H := j_subP hP (List.sublist_append_left _ _)
  have hDc : va_D (fun q => s.heap.size ≤ q) (jLX cI cJ cO oa ov ax n mo iv aa ++ jBl (jbk cI cJ aa an iv kp py) n) := j_subD hD (List.sublist_append_left _ _)
  have hAc : ∀ q, jA (jLX cI cJ cO oa ov ax n mo iv aa ++ jBl (jbk cI cJ aa an iv kp py) n) q → s.heap.size ≤ q := j_subA hD (List.sublist_append_left _ _)
  refine j_lI (As := [.ref (ax 0), .int (nI yy), .int v, .ref oa]) (rest := []) ⟨hx, hb, hml, hown, hts⟩ (c_L_setInflation l dC dI cI cJ cZ cO oa ov ax n mo iv aa an kp py yy v hv hn hy hv1 hv2) (vx_cwSW 4 hts gL_law_L_setInflation rfl rfl rfl (by decide +kernel) ⟨Nat.le_of_ble_eq_true rfl, Nat.le_of_ble_eq_true rfl⟩) hK hPc hDc rfl hl rfl (Nat.le_of_ble_eq_true rfl) dL_law_402 hf0 hS hAc (fun H1 locs hP1 hk1 hS => ?_)
  have hP1 : va_P (dC, dI) vwCl (jLX cI cJ cO oa (vp_updL ov 0 (iv yy).toInt64) ax n mo (upd iv yy v) aa ++ jBl (jbk cI cJ aa an (upd iv yy v) kp py) n) H1 := hP1
  obtain ⟨hP, hD⟩ := j_left hP hD (jl_adL cI cJ cO oa ov (vp_updL ov 0 (iv yy).toInt64) ax n mo mo iv (upd iv yy v) aa an kp kp py py) hk1 hP1
  clear hP1 hk1 hPc hDc hAc
  refine lv_istore (lv' := [(5, .int (nI 0)), (0, .ref b), (1, .ref (ax 0)), (2, .ref (ad 0)), (3, .ref oa), (4, .int (nI i))]) hx hb dL_law_405 hl (by decide) rfl (fun ls hl => ?_)
  refine lv_aload_n hx hb dL_law_407 rfl (lv_at hl 3 rfl) ?_
  refine j_arg (v := nI yy) hx hb hX hbl hbA hS (lv_at hl 1 rfl) (lv_at hl 5 rfl) 1 rfl (by omega) hL e1 dL_law_408 dL_law_409 dL_law_411 dL_law_412 dL_law_413 ?_
  refine j_arg (v := v) hx hb hX hbl hbA hS (lv_at hl 1 rfl) (lv_at hl 5 rfl) 2 rfl (by omega) hL e2 dL_law_414 dL_law_415 dL_law_417 dL_law_418 dL_law_419 ?_
  refine j_mI (As := [.int (nI yy), .int v]) (rest := []) ⟨hx, hb, hml, hown, hts⟩ (c_X2_setInflation l dC dI cI cJ cZ cO ad n mo iv an T B py fu cy th yy v hy hv1 hv2) (cwV 2 hts gL_law_X2_setInflation rfl rfl rfl (by decide +kernel) ⟨Nat.le_of_ble_eq_true rfl, Nat.le_of_ble_eq_true rfl⟩) hK hP hD rfl (jMW_adr _ _ _ _ _ _ _ _ _ _ _ _ _ _) (fun _ => jMW_adr _ _ _ _ _ _ _ _ _ _ _ _ _ _) rfl hl rfl (Nat.le_of_ble_eq_true rfl) dL_law_420 hf0 hS (fun r u H locs hr hP hD hS => ?_)
  subst hr
  refine lv_istore (lv' := [(6, .int (iv yy)), (5, .int (nI 0)), (0, .ref b), (1, .ref (ax 0)), (2, .ref (ad 0)), (3, .ref oa), (4, .int (nI i))]) hx hb dL_law_423 hl (by decide) rfl (fun ls hl => ?_)
  have hI2 := hI
  exact jt_I hA9 hP hl (lv_at hl 4 rfl) (lv_at hl 5 rfl) (lv_at hl 1 rfl) (lv_at hl 0 rfl) (by decide) (fun _ => pk_uLs) hf0 dL_law_425 dL_law_426 dL_law_429 dL_law_431 dL_law_436 dL_law_438 dL_law_441 dL_law_442 dL_law_443 dL_law_444 dL_law_446 dL_law_447 dL_law_448 dL_law_453 (by decide) (W.widen (by omega) (by omega) (go _ _ _ _ _ _ _ _ _ _ _ _ _ _ _ _ hI2 hP hD hS (lv_sub hl [2, 3, 4, 5, 6] rfl)))
set_option maxHeartbeats 4000000 in
set_option maxRecDepth 100000 in
theorem lw_setInflation_x1 (h9 : jRd p l e s m below meth c dC dI cI cJ cZ cO b L xs oa ax ad Q i cells slots n mo iv aa an kp T B py ov fu cy th H locs ls) (p0 : Int32) (p1 : Int32) (h : p0 < nI 0 ∨ nI 19 < p0) (e1 : xs (i + 1) = p0) (e2 : xs (i + 2) = p1) : W p l e room_1 s m #[Value.ref b] below meth c H locs cells slots Q (F0 m 388 ls []) := by
  obtain ⟨⟨hx, hb, hml, hown, hts, hX, hbl, hst, hZ, hK⟩, hI, hP, hD, hS, hl, hrm, hi9, hL, go⟩ := id h9
  have hA9 := h9.1
  obtain ⟨hn, hm, hv, hkp, hfr⟩ := id hI
  have hbA : ¬ s.heap.size ≤ b := Nat.not_le.mpr hbl
  have hf0 : cells ≤ 601024 ∧ slots ≤ 7293034 := ⟨by omega, by omega⟩
  refine lv_aload_n hx hb dL_law_388 rfl (lv_at hl 1 rfl) ?_
  refine j_arg (v := p0) hx hb hX hbl hbA hS (lv_at hl 0 rfl) (lv_at hl 4 rfl) 1 rfl (by omega) hL e1 dL_law_389 dL_law_390 dL_law_392 dL_law_393 dL_law_394 ?_
  refine j_arg (v := p1) hx hb hX hbl hbA hS (lv_at hl 0 rfl) (lv_at hl 4 rfl) 2 rfl (by omega) hL e2 dL_law_395 dL_law_396 dL_law_398 dL_law_399 dL_law_400 ?_
  refine lv_aload_n hx hb dL_law_401 rfl (lv_at hl 3 rfl) ?_
  have hZ9 : jX (fun _ => False) s H := jX.narrow (jX.kept hZ (fun a h1 h2 => hS.2.1 a h1 h2)) (fun _ h => h.elim)
  have hf1 : cells + 1 ≤ 601024 ∧ slots + 6 ≤ 7293034 := ⟨by omega, by omega⟩
  refine j_lX (As := [.ref (ax 0), .int p0, .int p1, .ref oa]) (rest := []) ⟨hx, hb, hml, hown, hts⟩ (x1_L_setInflation l dC dI cI cJ cZ cO ax (jao aa n) n mo p0 p1 hst h oa) (vx_cwSW 4 hts gL_law_L_setInflation rfl rfl rfl (by decide +kernel) ⟨Nat.le_of_ble_eq_true rfl, Nat.le_of_ble_eq_true rfl⟩) hZ9 hK (j_subP hP jl_s2) rfl hl rfl (Nat.le_of_ble_eq_true rfl) dL_law_402 hf1 hS (fun H1 locs hk1 hS => ?_)
  have hP := j_keep hP hk1
  clear hZ9 hk1
  refine lv_istore (lv' := [(5, .int (nI 1)), (0, .ref b), (1, .ref (ax 0)), (2, .ref (ad 0)), (3, .ref oa), (4, .int (nI i))]) hx hb dL_law_405 hl (by decide) rfl (fun ls hl => ?_)
  refine lv_aload_n hx hb dL_law_407 rfl (lv_at hl 3 rfl) ?_
  refine j_arg (v := p0) hx hb hX hbl hbA hS (lv_at hl 1 rfl) (lv_at hl 5 rfl) 1 rfl (by omega) hL e1 dL_law_408 dL_law_409 dL_law_411 dL_law_412 dL_law_413 ?_
  refine j_arg (v := p1) hx hb hX hbl hbA hS (lv_at hl 1 rfl) (lv_at hl 5 rfl) 2 rfl (by omega) hL e2 dL_law_414 dL_law_415 dL_law_417 dL_law_418 dL_law_419 ?_
  refine j_mI (As := [.int p0, .int p1]) (rest := []) ⟨hx, hb, hml, hown, hts⟩ (x1_X2_setInflation l dC dI cI cJ cZ cO ad n mo iv an T B py fu cy th p0 p1 h) (cwV 2 hts gL_law_X2_setInflation rfl rfl rfl (by decide +kernel) ⟨Nat.le_of_ble_eq_true rfl, Nat.le_of_ble_eq_true rfl⟩) hK hP hD rfl (jMW_adr _ _ _ _ _ _ _ _ _ _ _ _ _ _) (fun _ => jMW_adr _ _ _ _ _ _ _ _ _ _ _ _ _ _) rfl hl rfl (Nat.le_of_ble_eq_true rfl) dL_law_420 hf1 hS (fun r u H locs hr hP hD hS => ?_)
  refine lv_istore (lv' := [(6, .int r), (5, .int (nI 1)), (0, .ref b), (1, .ref (ax 0)), (2, .ref (ad 0)), (3, .ref oa), (4, .int (nI i))]) hx hb dL_law_423 hl (by decide) rfl (fun ls hl => ?_)
  have hI2 := hI
  exact jt_I hA9 hP hl (lv_at hl 4 rfl) (lv_at hl 5 rfl) (lv_at hl 1 rfl) (lv_at hl 0 rfl) (by decide) (fun h => absurd h (by decide)) hf1 dL_law_425 dL_law_426 dL_law_429 dL_law_431 dL_law_436 dL_law_438 dL_law_441 dL_law_442 dL_law_443 dL_law_444 dL_law_446 dL_law_447 dL_law_448 dL_law_453 (by decide) (W.widen (by omega) (by omega) (go _ _ _ _ _ _ _ _ _ _ _ _ _ _ _ _ hI2 hP hD hS (lv_sub hl [2, 3, 4, 5, 6] rfl)))
set_option maxHeartbeats 4000000 in
set_option maxRecDepth 100000 in
theorem lw_setInflation_x2 (h9 : jRd p l e s m below meth c dC dI cI cJ cZ cO b L xs oa ax ad Q i cells slots n mo iv aa an kp T B py ov fu cy th H locs ls) (p0 : Int32) (p1 : Int32) (h1 : ¬ p0 < nI 0) (h2 : ¬ nI 19 < p0) (h : p1 < (-100) ∨ nI 300 < p1) (e1 : xs (i + 1) = p0) (e2 : xs (i + 2) = p1) : W p l e room_1 s m #[Value.ref b] below meth c H locs cells slots Q (F0 m 388 ls []) := by
  obtain ⟨⟨hx, hb, hml, hown, hts, hX, hbl, hst, hZ, hK⟩, hI, hP, hD, hS, hl, hrm, hi9, hL, go⟩ := id h9
  have hA9 := h9.1
  obtain ⟨hn, hm, hv, hkp, hfr⟩ := id hI
  have hbA : ¬ s.heap.size ≤ b := Nat.not_le.mpr hbl
  have hf0 : cells ≤ 601024 ∧ slots ≤ 7293034 := ⟨by omega, by omega⟩
  refine lv_aload_n hx hb dL_law_388 rfl (lv_at hl 1 rfl) ?_
  refine j_arg (v := p0) hx hb hX hbl hbA hS (lv_at hl 0 rfl) (lv_at hl 4 rfl) 1 rfl (by omega) hL e1 dL_law_389 dL_law_390 dL_law_392 dL_law_393 dL_law_394 ?_
  refine j_arg (v := p1) hx hb hX hbl hbA hS (lv_at hl 0 rfl) (lv_at hl 4 rfl) 2 rfl (by omega) hL e2 dL_law_395 dL_law_396 dL_law_398 dL_law_399 dL_law_400 ?_
  refine lv_aload_n hx hb dL_law_401 rfl (lv_at hl 3 rfl) ?_
  have hZ9 : jX (fun _ => False) s H := jX.narrow (jX.kept hZ (fun a h1 h2 => hS.2.1 a h1 h2)) (fun _ h => h.elim)
  have hf1 : cells + 1 ≤ 601024 ∧ slots + 6 ≤ 7293034 := ⟨by omega, by omega⟩
  refine j_lX (As := [.ref (ax 0), .int p0, .int p1, .ref oa]) (rest := []) ⟨hx, hb, hml, hown, hts⟩ (x2_L_setInflation l dC dI cI cJ cZ cO ax (jao aa n) n mo p0 p1 hst h1 h2 h oa) (vx_cwSW 4 hts gL_law_L_setInflation rfl rfl rfl (by decide +kernel) ⟨Nat.le_of_ble_eq_true rfl, Nat.le_of_ble_eq_true rfl⟩) hZ9 hK (j_subP hP jl_s2) rfl hl rfl (Nat.le_of_ble_eq_true rfl) dL_law_402 hf1 hS (fun H1 locs hk1 hS => ?_)
  have hP := j_keep hP hk1
  clear hZ9 hk1
  refine lv_istore (lv' := [(5, .int (nI 1)), (0, .ref b), (1, .ref (ax 0)), (2, .ref (ad 0)), (3, .ref oa), (4, .int (nI i))]) hx hb dL_law_405 hl (by decide) rfl (fun ls hl => ?_)
  refine lv_aload_n hx hb dL_law_407 rfl (lv_at hl 3 rfl) ?_
  refine j_arg (v := p0) hx hb hX hbl hbA hS (lv_at hl 1 rfl) (lv_at hl 5 rfl) 1 rfl (by omega) hL e1 dL_law_408 dL_law_409 dL_law_411 dL_law_412 dL_law_413 ?_
  refine j_arg (v := p1) hx hb hX hbl hbA hS (lv_at hl 1 rfl) (lv_at hl 5 rfl) 2 rfl (by omega) hL e2 dL_law_414 dL_law_415 dL_law_417 dL_law_418 dL_law_419 ?_
  refine j_mI (As := [.int p0, .int p1]) (rest := []) ⟨hx, hb, hml, hown, hts⟩ (x2_X2_setInflation l dC dI cI cJ cZ cO ad n mo iv an T B py fu cy th p0 p1 h1 h2 h) (cwV 2 hts gL_law_X2_setInflation rfl rfl rfl (by decide +kernel) ⟨Nat.le_of_ble_eq_true rfl, Nat.le_of_ble_eq_true rfl⟩) hK hP hD rfl (jMW_adr _ _ _ _ _ _ _ _ _ _ _ _ _ _) (fun _ => jMW_adr _ _ _ _ _ _ _ _ _ _ _ _ _ _) rfl hl rfl (Nat.le_of_ble_eq_true rfl) dL_law_420 hf1 hS (fun r u H locs hr hP hD hS => ?_)
  refine lv_istore (lv' := [(6, .int r), (5, .int (nI 1)), (0, .ref b), (1, .ref (ax 0)), (2, .ref (ad 0)), (3, .ref oa), (4, .int (nI i))]) hx hb dL_law_423 hl (by decide) rfl (fun ls hl => ?_)
  have hI2 := hI
  exact jt_I hA9 hP hl (lv_at hl 4 rfl) (lv_at hl 5 rfl) (lv_at hl 1 rfl) (lv_at hl 0 rfl) (by decide) (fun h => absurd h (by decide)) hf1 dL_law_425 dL_law_426 dL_law_429 dL_law_431 dL_law_436 dL_law_438 dL_law_441 dL_law_442 dL_law_443 dL_law_444 dL_law_446 dL_law_447 dL_law_448 dL_law_453 (by decide) (W.widen (by omega) (by omega) (go _ _ _ _ _ _ _ _ _ _ _ _ _ _ _ _ hI2 hP hD hS (lv_sub hl [2, 3, 4, 5, 6] rfl)))
set_option maxHeartbeats 4000000 in
set_option maxRecDepth 100000 in
theorem lw_die_c0 (h9 : jRd p l e s m below meth c dC dI cI cJ cZ cO b L xs oa ax ad Q i cells slots n mo iv aa an kp T B py ov fu cy th H locs ls) (k : Nat) (v : Nat) (hk : k < n) (h1 : v ≤ mo) (h2 : v ≤ 239) (ht9 : an k 8 = 240) (e1 : xs (i + 1) = nI k) (e2 : xs (i + 2) = nI 0) (e3 : xs (i + 3) = nI v) : W p l e room_1 s m #[Value.ref b] below meth c H locs cells slots Q (F0 m 456 ls []) := by
  obtain ⟨⟨hx, hb, hml, hown, hts, hX, hbl, hst, hZ, hK⟩, hI, hP, hD, hS, hl, hrm, hi9, hL, go⟩ := id h9
  have hA9 := h9.1
  obtain ⟨hn, hm, hv, hkp, hfr⟩ := id hI
  have hbA : ¬ s.heap.size ≤ b := Nat.not_le.mpr hbl
  have hf0 : cells ≤ 601024 ∧ slots ≤ 7293034 := ⟨by omega, by omega⟩
  refine lv_aload_n hx hb dL_law_456 rfl (lv_at hl 1 rfl) ?_
  refine j_arg (v := nI k) hx hb hX hbl hbA hS (lv_at hl 0 rfl) (lv_at hl 4 rfl) 1 rfl (by omega) hL e1 dL_law_457 dL_law_458 dL_law_460 dL_law_461 dL_law_462 ?_
  refine j_arg (v := nI 0) hx hb hX hbl hbA hS (lv_at hl 0 rfl) (lv_at hl 4 rfl) 2 rfl (by omega) hL e2 dL_law_463 dL_law_464 dL_law_466 dL_law_467 dL_law_468 ?_
  refine j_arg (v := nI v) hx hb hX hbl hbA hS (lv_at hl 0 rfl) (lv_at hl 4 rfl) 3 rfl (by omega) hL e3 dL_law_469 dL_law_470 dL_law_472 dL_law_473 dL_law_474 ?_
  refine j_lI (As := [.ref (ax 0), .int (nI k), .int (nI 0), .int (nI v)]) (rest := []) ⟨hx, hb, hml, hown, hts⟩ (c_L_die0 l dC dI cI cJ cZ cO oa ov ax (jao aa n) n mo iv (aa k) (an k) (kp k) (py k) k v (hv k hk) hm (by omega) (if_pos hk) h1 h2 ht9) (vx_cwSW 4 hts gL_law_L_die rfl rfl rfl (by decide +kernel) ⟨Nat.le_of_ble_eq_true rfl, Nat.le_of_ble_eq_true rfl⟩) hK (j_subP hP (jl_sB hk)) (j_subD hD (jl_sB hk)) rfl hl rfl (Nat.le_of_ble_eq_true rfl) dL_law_475 hf0 hS (j_subA hD (jl_sB hk)) (fun H1 locs hP1 hk1 hS => ?_)
  obtain ⟨hP, hD⟩ := jl_putA hk hP hD hk1 hP1
  clear hP1 hk1
  refine lv_istore (lv' := [(5, .int (nI 0)), (0, .ref b), (1, .ref (ax 0)), (2, .ref (ad 0)), (3, .ref oa), (4, .int (nI i))]) hx hb dL_law_478 hl (by decide) rfl (fun ls hl => ?_)
  refine lv_aload_n hx hb dL_law_480 rfl (lv_at hl 3 rfl) ?_
  refine j_arg (v := nI k) hx hb hX hbl hbA hS (lv_at hl 1 rfl) (lv_at hl 5 rfl) 1 rfl (by omega) hL e1 dL_law_481 dL_law_482 dL_law_484 dL_law_485 dL_law_486 ?_
  refine j_arg (v := nI 0) hx hb hX hbl hbA hS (lv_at hl 1 rfl) (lv_at hl 5 rfl) 2 rfl (by omega) hL e2 dL_law_487 dL_law_488 dL_law_490 dL_law_491 dL_law_492 ?_
  refine j_arg (v := nI v) hx hb hX hbl hbA hS (lv_at hl 1 rfl) (lv_at hl 5 rfl) 3 rfl (by omega) hL e3 dL_law_493 dL_law_494 dL_law_496 dL_law_497 dL_law_498 ?_
  refine j_mV (As := [.int (nI k), .int (nI 0), .int (nI v)]) (rest := []) ⟨hx, hb, hml, hown, hts⟩ (c_X2_die0 l dC dI cI cJ cZ cO ad n mo iv an T B py fu cy th k v hn hm hv hk h1 h2 ht9) (cwV 3 hts gL_law_X2_die rfl rfl rfl (by decide +kernel) ⟨Nat.le_of_ble_eq_true rfl, Nat.le_of_ble_eq_true rfl⟩) hK hP hD rfl (jMW_adr _ _ _ _ _ _ _ _ _ _ _ _ _ _) (fun _ => jMW_adr _ _ _ _ _ _ _ _ _ _ _ _ _ _) rfl hl rfl (Nat.le_of_ble_eq_true rfl) dL_law_499 hf0 hS (fun u H locs hr hP hD hS => ?_)
  have hI2 := jInv_A hI hk (jVu (hv k hk) (i := 8) (show v ≤ 240 by omega))
  exact jt_V hA9 hP hl (lv_at hl 3 rfl) (lv_at hl 0 rfl) hf0 dL_law_502 dL_law_503 dL_law_506 dL_law_508 dL_law_513 (by decide) (W.widen (by omega) (by omega) (go _ _ _ _ _ _ _ _ _ _ _ _ _ _ _ _ hI2 hP hD hS (lv_sub hl [1, 2, 3, 4, 5] rfl)))
set_option maxHeartbeats 4000000 in
set_option maxRecDepth 100000 in
theorem lw_die_c1 (h9 : jRd p l e s m below meth c dC dI cI cJ cZ cO b L xs oa ax ad Q i cells slots n mo iv aa an kp T B py ov fu cy th H locs ls) (k : Nat) (v : Nat) (hk : k < n) (h1 : v ≤ mo) (h2 : v ≤ 239) (ht9 : an k 9 = 240) (e1 : xs (i + 1) = nI k) (e2 : xs (i + 2) = nI 1) (e3 : xs (i + 3) = nI v) : W p l e room_1 s m #[Value.ref b] below meth c H locs cells slots Q (F0 m 456 ls []) := by
  obtain ⟨⟨hx, hb, hml, hown, hts, hX, hbl, hst, hZ, hK⟩, hI, hP, hD, hS, hl, hrm, hi9, hL, go⟩ := id h9
  have hA9 := h9.1
  obtain ⟨hn, hm, hv, hkp, hfr⟩ := id hI
  have hbA : ¬ s.heap.size ≤ b := Nat.not_le.mpr hbl
  have hf0 : cells ≤ 601024 ∧ slots ≤ 7293034 := ⟨by omega, by omega⟩
  refine lv_aload_n hx hb dL_law_456 rfl (lv_at hl 1 rfl) ?_
  refine j_arg (v := nI k) hx hb hX hbl hbA hS (lv_at hl 0 rfl) (lv_at hl 4 rfl) 1 rfl (by omega) hL e1 dL_law_457 dL_law_458 dL_law_460 dL_law_461 dL_law_462 ?_
  refine j_arg (v := nI 1) hx hb hX hbl hbA hS (lv_at hl 0 rfl) (lv_at hl 4 rfl) 2 rfl (by omega) hL e2 dL_law_463 dL_law_464 dL_law_466 dL_law_467 dL_law_468 ?_
  refine j_arg (v := nI v) hx hb hX hbl hbA hS (lv_at hl 0 rfl) (lv_at hl 4 rfl) 3 rfl (by omega) hL e3 dL_law_469 dL_law_470 dL_law_472 dL_law_473 dL_law_474 ?_
  refine j_lI (As := [.ref (ax 0), .int (nI k), .int (nI 1), .int (nI v)]) (rest := []) ⟨hx, hb, hml, hown, hts⟩ (c_L_die1 l dC dI cI cJ cZ cO oa ov ax (jao aa n) n mo iv (aa k) (an k) (kp k) (py k) k v (hv k hk) hm (by omega) (if_pos hk) h1 h2 ht9) (vx_cwSW 4 hts gL_law_L_die rfl rfl rfl (by decide +kernel) ⟨Nat.le_of_ble_eq_true rfl, Nat.le_of_ble_eq_true rfl⟩) hK (j_subP hP (jl_sB hk)) (j_subD hD (jl_sB hk)) rfl hl rfl (Nat.le_of_ble_eq_true rfl) dL_law_475 hf0 hS (j_subA hD (jl_sB hk)) (fun H1 locs hP1 hk1 hS => ?_)
  obtain ⟨hP, hD⟩ := jl_putA hk hP hD hk1 hP1
  clear hP1 hk1
  refine lv_istore (lv' := [(5, .int (nI 0)), (0, .ref b), (1, .ref (ax 0)), (2, .ref (ad 0)), (3, .ref oa), (4, .int (nI i))]) hx hb dL_law_478 hl (by decide) rfl (fun ls hl => ?_)
  refine lv_aload_n hx hb dL_law_480 rfl (lv_at hl 3 rfl) ?_
  refine j_arg (v := nI k) hx hb hX hbl hbA hS (lv_at hl 1 rfl) (lv_at hl 5 rfl) 1 rfl (by omega) hL e1 dL_law_481 dL_law_482 dL_law_484 dL_law_485 dL_law_486 ?_
  refine j_arg (v := nI 1) hx hb hX hbl hbA hS (lv_at hl 1 rfl) (lv_at hl 5 rfl) 2 rfl (by omega) hL e2 dL_law_487 dL_law_488 dL_law_490 dL_law_491 dL_law_492 ?_
  refine j_arg (v := nI v) hx hb hX hbl hbA hS (lv_at hl 1 rfl) (lv_at hl 5 rfl) 3 rfl (by omega) hL e3 dL_law_493 dL_law_494 dL_law_496 dL_law_497 dL_law_498 ?_
  refine j_mV (As := [.int (nI k), .int (nI 1), .int (nI v)]) (rest := []) ⟨hx, hb, hml, hown, hts⟩ (c_X2_die1 l dC dI cI cJ cZ cO ad n mo iv an T B py fu cy th k v hn hm hv hk h1 h2 ht9) (cwV 3 hts gL_law_X2_die rfl rfl rfl (by decide +kernel) ⟨Nat.le_of_ble_eq_true rfl, Nat.le_of_ble_eq_true rfl⟩) hK hP hD rfl (jMW_adr _ _ _ _ _ _ _ _ _ _ _ _ _ _) (fun _ => jMW_adr _ _ _ _ _ _ _ _ _ _ _ _ _ _) rfl hl rfl (Nat.le_of_ble_eq_true rfl) dL_law_499 hf0 hS (fun u H locs hr hP hD hS => ?_)
  have hI2 := jInv_A hI hk (jVu (hv k hk) (i := 9) (show v ≤ 240 by omega))
  exact jt_V hA9 hP hl (lv_at hl 3 rfl) (lv_at hl 0 rfl) hf0 dL_law_502 dL_law_503 dL_law_506 dL_law_508 dL_law_513 (by decide) (W.widen (by omega) (by omega) (go _ _ _ _ _ _ _ _ _ _ _ _ _ _ _ _ hI2 hP hD hS (lv_sub hl [1, 2, 3, 4, 5] rfl)))
set_option maxHeartbeats 4000000 in
set_option maxRecDepth 100000 in
theorem lw_die_x1 (h9 : jRd p l e s m below meth c dC dI cI cJ cZ cO b L xs oa ax ad Q i cells slots n mo iv aa an kp T B py ov fu cy th H locs ls) (p0 : Int32) (p1 : Int32) (p2 : Int32) (hb0 : ¬ vp_in p0 n) (e1 : xs (i + 1) = p0) (e2 : xs (i + 2) = p1) (e3 : xs (i + 3) = p2) : W p l e room_1 s m #[Value.ref b] below meth c H locs cells slots Q (F0 m 456 ls []) := by
  obtain ⟨⟨hx, hb, hml, hown, hts, hX, hbl, hst, hZ, hK⟩, hI, hP, hD, hS, hl, hrm, hi9, hL, go⟩ := id h9
  have hA9 := h9.1
  obtain ⟨hn, hm, hv, hkp, hfr⟩ := id hI
  have hbA : ¬ s.heap.size ≤ b := Nat.not_le.mpr hbl
  have hf0 : cells ≤ 601024 ∧ slots ≤ 7293034 := ⟨by omega, by omega⟩
  refine lv_aload_n hx hb dL_law_456 rfl (lv_at hl 1 rfl) ?_
  refine j_arg (v := p0) hx hb hX hbl hbA hS (lv_at hl 0 rfl) (lv_at hl 4 rfl) 1 rfl (by omega) hL e1 dL_law_457 dL_law_458 dL_law_460 dL_law_461 dL_law_462 ?_
  refine j_arg (v := p1) hx hb hX hbl hbA hS (lv_at hl 0 rfl) (lv_at hl 4 rfl) 2 rfl (by omega) hL e2 dL_law_463 dL_law_464 dL_law_466 dL_law_467 dL_law_468 ?_
  refine j_arg (v := p2) hx hb hX hbl hbA hS (lv_at hl 0 rfl) (lv_at hl 4 rfl) 3 rfl (by omega) hL e3 dL_law_469 dL_law_470 dL_law_472 dL_law_473 dL_law_474 ?_
  have hZ9 : jX (fun _ => False) s H := jX.narrow (jX.kept hZ (fun a h1 h2 => hS.2.1 a h1 h2)) (fun _ h => h.elim)
  have hf1 : cells + 1 ≤ 601024 ∧ slots + 6 ≤ 7293034 := ⟨by omega, by omega⟩
  refine j_lX (As := [.ref (ax 0), .int p0, .int p1, .int p2]) (rest := []) ⟨hx, hb, hml, hown, hts⟩ (x1_L_die l dC dI cI cJ cZ cO ax (jao aa n) n mo p0 p1 p2 hst hn (fun j hj => if_neg (by omega)) hb0) (vx_cwSW 4 hts gL_law_L_die rfl rfl rfl (by decide +kernel) ⟨Nat.le_of_ble_eq_true rfl, Nat.le_of_ble_eq_true rfl⟩) hZ9 hK (j_subP hP jl_s2) rfl hl rfl (Nat.le_of_ble_eq_true rfl) dL_law_475 hf1 hS (fun H1 locs hk1 hS => ?_)
  have hP := j_keep hP hk1
  clear hZ9 hk1
  refine lv_istore (lv' := [(5, .int (nI 1)), (0, .ref b), (1, .ref (ax 0)), (2, .ref (ad 0)), (3, .ref oa), (4, .int (nI i))]) hx hb dL_law_478 hl (by decide) rfl (fun ls hl => ?_)
  refine lv_aload_n hx hb dL_law_480 rfl (lv_at hl 3 rfl) ?_
  refine j_arg (v := p0) hx hb hX hbl hbA hS (lv_at hl 1 rfl) (lv_at hl 5 rfl) 1 rfl (by omega) hL e1 dL_law_481 dL_law_482 dL_law_484 dL_law_485 dL_law_486 ?_
  refine j_arg (v := p1) hx hb hX hbl hbA hS (lv_at hl 1 rfl) (lv_at hl 5 rfl) 2 rfl (by omega) hL e2 dL_law_487 dL_law_488 dL_law_490 dL_law_491 dL_law_492 ?_
  refine j_arg (v := p2) hx hb hX hbl hbA hS (lv_at hl 1 rfl) (lv_at hl 5 rfl) 3 rfl (by omega) hL e3 dL_law_493 dL_law_494 dL_law_496 dL_law_497 dL_law_498 ?_
  refine j_mV (As := [.int p0, .int p1, .int p2]) (rest := []) ⟨hx, hb, hml, hown, hts⟩ (x1_X2_die l dC dI cI cJ cZ cO ad n mo iv an T B py fu cy th p0 p1 p2 hn hm hv hb0) (cwV 3 hts gL_law_X2_die rfl rfl rfl (by decide +kernel) ⟨Nat.le_of_ble_eq_true rfl, Nat.le_of_ble_eq_true rfl⟩) hK hP hD rfl (jMW_adr _ _ _ _ _ _ _ _ _ _ _ _ _ _) (fun _ => jMW_adr _ _ _ _ _ _ _ _ _ _ _ _ _ _) rfl hl rfl (Nat.le_of_ble_eq_true rfl) dL_law_499 hf1 hS (fun u H locs hr hP hD hS => ?_)
  have hI2 := hI
  exact jt_V hA9 hP hl (lv_at hl 3 rfl) (lv_at hl 0 rfl) hf1 dL_law_502 dL_law_503 dL_law_506 dL_law_508 dL_law_513 (by decide) (W.widen (by omega) (by omega) (go _ _ _ _ _ _ _ _ _ _ _ _ _ _ _ _ hI2 hP hD hS (lv_sub hl [1, 2, 3, 4, 5] rfl)))
set_option maxHeartbeats 4000000 in
set_option maxRecDepth 100000 in
theorem lw_die_x2 (h9 : jRd p l e s m below meth c dC dI cI cJ cZ cO b L xs oa ax ad Q i cells slots n mo iv aa an kp T B py ov fu cy th H locs ls) (k : Nat) (p1 : Int32) (p2 : Int32) (hk : k < n) (h : p1 < nI 0 ∨ nI 1 < p1) (e1 : xs (i + 1) = nI k) (e2 : xs (i + 2) = p1) (e3 : xs (i + 3) = p2) : W p l e room_1 s m #[Value.ref b] below meth c H locs cells slots Q (F0 m 456 ls []) := by
  obtain ⟨⟨hx, hb, hml, hown, hts, hX, hbl, hst, hZ, hK⟩, hI, hP, hD, hS, hl, hrm, hi9, hL, go⟩ := id h9
  have hA9 := h9.1
  obtain ⟨hn, hm, hv, hkp, hfr⟩ := id hI
  have hbA : ¬ s.heap.size ≤ b := Nat.not_le.mpr hbl
  have hf0 : cells ≤ 601024 ∧ slots ≤ 7293034 := ⟨by omega, by omega⟩
  refine lv_aload_n hx hb dL_law_456 rfl (lv_at hl 1 rfl) ?_
  refine j_arg (v := nI k) hx hb hX hbl hbA hS (lv_at hl 0 rfl) (lv_at hl 4 rfl) 1 rfl (by omega) hL e1 dL_law_457 dL_law_458 dL_law_460 dL_law_461 dL_law_462 ?_
  refine j_arg (v := p1) hx hb hX hbl hbA hS (lv_at hl 0 rfl) (lv_at hl 4 rfl) 2 rfl (by omega) hL e2 dL_law_463 dL_law_464 dL_law_466 dL_law_467 dL_law_468 ?_
  refine j_arg (v := p2) hx hb hX hbl hbA hS (lv_at hl 0 rfl) (lv_at hl 4 rfl) 3 rfl (by omega) hL e3 dL_law_469 dL_law_470 dL_law_472 dL_law_473 dL_law_474 ?_
  have hZ9 : jX (fun _ => False) s H := jX.narrow (jX.kept hZ (fun a h1 h2 => hS.2.1 a h1 h2)) (fun _ h => h.elim)
  have hf1 : cells + 1 ≤ 601024 ∧ slots + 6 ≤ 7293034 := ⟨by omega, by omega⟩
  refine j_lX (As := [.ref (ax 0), .int (nI k), .int p1, .int p2]) (rest := []) ⟨hx, hb, hml, hown, hts⟩ (x2_L_die l dC dI cI cJ cZ cO ax (jao aa n) n mo iv (aa k) (an k) (kp k) (py k) k p1 p2 hst (hv k hk) hm (by omega) (if_pos hk) h) (vx_cwSW 4 hts gL_law_L_die rfl rfl rfl (by decide +kernel) ⟨Nat.le_of_ble_eq_true rfl, Nat.le_of_ble_eq_true rfl⟩) hZ9 hK (j_subP hP (jl_s8 hk)) rfl hl rfl (Nat.le_of_ble_eq_true rfl) dL_law_475 hf1 hS (fun H1 locs hk1 hS => ?_)
  have hP := j_keep hP hk1
  clear hZ9 hk1
  refine lv_istore (lv' := [(5, .int (nI 2)), (0, .ref b), (1, .ref (ax 0)), (2, .ref (ad 0)), (3, .ref oa), (4, .int (nI i))]) hx hb dL_law_478 hl (by decide) rfl (fun ls hl => ?_)
  refine lv_aload_n hx hb dL_law_480 rfl (lv_at hl 3 rfl) ?_
  refine j_arg (v := nI k) hx hb hX hbl hbA hS (lv_at hl 1 rfl) (lv_at hl 5 rfl) 1 rfl (by omega) hL e1 dL_law_481 dL_law_482 dL_law_484 dL_law_485 dL_law_486 ?_
  refine j_arg (v := p1) hx hb hX hbl hbA hS (lv_at hl 1 rfl) (lv_at hl 5 rfl) 2 rfl (by omega) hL e2 dL_law_487 dL_law_488 dL_law_490 dL_law_491 dL_law_492 ?_
  refine j_arg (v := p2) hx hb hX hbl hbA hS (lv_at hl 1 rfl) (lv_at hl 5 rfl) 3 rfl (by omega) hL e3 dL_law_493 dL_law_494 dL_law_496 dL_law_497 dL_law_498 ?_
  refine j_mV (As := [.int (nI k), .int p1, .int p2]) (rest := []) ⟨hx, hb, hml, hown, hts⟩ (x2_X2_die l dC dI cI cJ cZ cO ad n mo iv an T B py fu cy th k p1 p2 hn hm hv hk h) (cwV 3 hts gL_law_X2_die rfl rfl rfl (by decide +kernel) ⟨Nat.le_of_ble_eq_true rfl, Nat.le_of_ble_eq_true rfl⟩) hK hP hD rfl (jMW_adr _ _ _ _ _ _ _ _ _ _ _ _ _ _) (fun _ => jMW_adr _ _ _ _ _ _ _ _ _ _ _ _ _ _) rfl hl rfl (Nat.le_of_ble_eq_true rfl) dL_law_499 hf1 hS (fun u H locs hr hP hD hS => ?_)
  have hI2 := hI
  exact jt_V hA9 hP hl (lv_at hl 3 rfl) (lv_at hl 0 rfl) hf1 dL_law_502 dL_law_503 dL_law_506 dL_law_508 dL_law_513 (by decide) (W.widen (by omega) (by omega) (go _ _ _ _ _ _ _ _ _ _ _ _ _ _ _ _ hI2 hP hD hS (lv_sub hl [1, 2, 3, 4, 5] rfl)))
set_option maxHeartbeats 4000000 in
set_option maxRecDepth 100000 in
theorem lw_die_x2b (h9 : jRd p l e s m below meth c dC dI cI cJ cZ cO b L xs oa ax ad Q i cells slots n mo iv aa an kp T B py ov fu cy th H locs ls) (k : Nat) (ii : Nat) (p2 : Int32) (hk : k < n) (hi : ii ≤ 1) (h : p2 < nI 0 ∨ nI (min mo 239) < p2) (e1 : xs (i + 1) = nI k) (e2 : xs (i + 2) = nI ii) (e3 : xs (i + 3) = p2) : W p l e room_1 s m #[Value.ref b] below meth c H locs cells slots Q (F0 m 456 ls []) := by
  obtain ⟨⟨hx, hb, hml, hown, hts, hX, hbl, hst, hZ, hK⟩, hI, hP, hD, hS, hl, hrm, hi9, hL, go⟩ := id h9
  have hA9 := h9.1
  obtain ⟨hn, hm, hv, hkp, hfr⟩ := id hI
  have hbA : ¬ s.heap.size ≤ b := Nat.not_le.mpr hbl
  have hf0 : cells ≤ 601024 ∧ slots ≤ 7293034 := ⟨by omega, by omega⟩
  refine lv_aload_n hx hb dL_law_456 rfl (lv_at hl 1 rfl) ?_
  refine j_arg (v := nI k) hx hb hX hbl hbA hS (lv_at hl 0 rfl) (lv_at hl 4 rfl) 1 rfl (by omega) hL e1 dL_law_457 dL_law_458 dL_law_460 dL_law_461 dL_law_462 ?_
  refine j_arg (v := nI ii) hx hb hX hbl hbA hS (lv_at hl 0 rfl) (lv_at hl 4 rfl) 2 rfl (by omega) hL e2 dL_law_463 dL_law_464 dL_law_466 dL_law_467 dL_law_468 ?_
  refine j_arg (v := p2) hx hb hX hbl hbA hS (lv_at hl 0 rfl) (lv_at hl 4 rfl) 3 rfl (by omega) hL e3 dL_law_469 dL_law_470 dL_law_472 dL_law_473 dL_law_474 ?_
  have hZ9 : jX (fun _ => False) s H := jX.narrow (jX.kept hZ (fun a h1 h2 => hS.2.1 a h1 h2)) (fun _ h => h.elim)
  have hf1 : cells + 1 ≤ 601024 ∧ slots + 6 ≤ 7293034 := ⟨by omega, by omega⟩
  refine j_lX (As := [.ref (ax 0), .int (nI k), .int (nI ii), .int p2]) (rest := []) ⟨hx, hb, hml, hown, hts⟩ (x2b_L_die l dC dI cI cJ cZ cO ax (jao aa n) n mo iv (aa k) (an k) (kp k) (py k) k ii p2 hst (hv k hk) hm (by omega) (if_pos hk) hi h) (vx_cwSW 4 hts gL_law_L_die rfl rfl rfl (by decide +kernel) ⟨Nat.le_of_ble_eq_true rfl, Nat.le_of_ble_eq_true rfl⟩) hZ9 hK (j_subP hP (jl_s8 hk)) rfl hl rfl (Nat.le_of_ble_eq_true rfl) dL_law_475 hf1 hS (fun H1 locs hk1 hS => ?_)
  have hP := j_keep hP hk1
  clear hZ9 hk1
  refine lv_istore (lv' := [(5, .int (nI 2)), (0, .ref b), (1, .ref (ax 0)), (2, .ref (ad 0)), (3, .ref oa), (4, .int (nI i))]) hx hb dL_law_478 hl (by decide) rfl (fun ls hl => ?_)
  refine lv_aload_n hx hb dL_law_480 rfl (lv_at hl 3 rfl) ?_
  refine j_arg (v := nI k) hx hb hX hbl hbA hS (lv_at hl 1 rfl) (lv_at hl 5 rfl) 1 rfl (by omega) hL e1 dL_law_481 dL_law_482 dL_law_484 dL_law_485 dL_law_486 ?_
  refine j_arg (v := nI ii) hx hb hX hbl hbA hS (lv_at hl 1 rfl) (lv_at hl 5 rfl) 2 rfl (by omega) hL e2 dL_law_487 dL_law_488 dL_law_490 dL_law_491 dL_law_492 ?_
  refine j_arg (v := p2) hx hb hX hbl hbA hS (lv_at hl 1 rfl) (lv_at hl 5 rfl) 3 rfl (by omega) hL e3 dL_law_493 dL_law_494 dL_law_496 dL_law_497 dL_law_498 ?_
  refine j_mV (As := [.int (nI k), .int (nI ii), .int p2]) (rest := []) ⟨hx, hb, hml, hown, hts⟩ (x2b_X2_die l dC dI cI cJ cZ cO ad n mo iv an T B py fu cy th k ii p2 hn hm hv hk hi h) (cwV 3 hts gL_law_X2_die rfl rfl rfl (by decide +kernel) ⟨Nat.le_of_ble_eq_true rfl, Nat.le_of_ble_eq_true rfl⟩) hK hP hD rfl (jMW_adr _ _ _ _ _ _ _ _ _ _ _ _ _ _) (fun _ => jMW_adr _ _ _ _ _ _ _ _ _ _ _ _ _ _) rfl hl rfl (Nat.le_of_ble_eq_true rfl) dL_law_499 hf1 hS (fun u H locs hr hP hD hS => ?_)
  have hI2 := hI
  exact jt_V hA9 hP hl (lv_at hl 3 rfl) (lv_at hl 0 rfl) hf1 dL_law_502 dL_law_503 dL_law_506 dL_law_508 dL_law_513 (by decide) (W.widen (by omega) (by omega) (go _ _ _ _ _ _ _ _ _ _ _ _ _ _ _ _ hI2 hP hD hS (lv_sub hl [1, 2, 3, 4, 5] rfl)))
set_option maxHeartbeats 4000000 in
set_option maxRecDepth 100000 in
theorem lw_die_x3_0 (h9 : jRd p l e s m below meth c dC dI cI cJ cZ cO b L xs oa ax ad Q i cells slots n mo iv aa an kp T B py ov fu cy th H locs ls) (k : Nat) (v : Nat) (hk : k < n) (h1 : v ≤ mo) (h2 : v ≤ 239) (ht9 : an k 8 ≠ 240) (e1 : xs (i + 1) = nI k) (e2 : xs (i + 2) = nI 0) (e3 : xs (i + 3) = nI v) : W p l e room_1 s m #[Value.ref b] below meth c H locs cells slots Q (F0 m 456 ls []) := by
  obtain ⟨⟨hx, hb, hml, hown, hts, hX, hbl, hst, hZ, hK⟩, hI, hP, hD, hS, hl, hrm, hi9, hL, go⟩ := id h9
  have hA9 := h9.1
  obtain ⟨hn, hm, hv, hkp, hfr⟩ := id hI
  have hbA : ¬ s.heap.size ≤ b := Nat.not_le.mpr hbl
  have hf0 : cells ≤ 601024 ∧ slots ≤ 7293034 := ⟨by omega, by omega⟩
  refine lv_aload_n hx hb dL_law_456 rfl (lv_at hl 1 rfl) ?_
  refine j_arg (v := nI k) hx hb hX hbl hbA hS (lv_at hl 0 rfl) (lv_at hl 4 rfl) 1 rfl (by omega) hL e1 dL_law_457 dL_law_458 dL_law_460 dL_law_461 dL_law_462 ?_
  refine j_arg (v := nI 0) hx hb hX hbl hbA hS (lv_at hl 0 rfl) (lv_at hl 4 rfl) 2 rfl (by omega) hL e2 dL_law_463 dL_law_464 dL_law_466 dL_law_467 dL_law_468 ?_
  refine j_arg (v := nI v) hx hb hX hbl hbA hS (lv_at hl 0 rfl) (lv_at hl 4 rfl) 3 rfl (by omega) hL e3 dL_law_469 dL_law_470 dL_law_472 dL_law_473 dL_law_474 ?_
  have hZ9 : jX (fun _ => False) s H := jX.narrow (jX.kept hZ (fun a h1 h2 => hS.2.1 a h1 h2)) (fun _ h => h.elim)
  have hf1 : cells + 1 ≤ 601024 ∧ slots + 6 ≤ 7293034 := ⟨by omega, by omega⟩
  refine j_lX (As := [.ref (ax 0), .int (nI k), .int (nI 0), .int (nI v)]) (rest := []) ⟨hx, hb, hml, hown, hts⟩ (x3_0_L_die l dC dI cI cJ cZ cO ax (jao aa n) n mo iv (aa k) (an k) (kp k) (py k) k v hst (hv k hk) hm (by omega) (if_pos hk) h1 h2 ht9) (vx_cwSW 4 hts gL_law_L_die rfl rfl rfl (by decide +kernel) ⟨Nat.le_of_ble_eq_true rfl, Nat.le_of_ble_eq_true rfl⟩) hZ9 hK (j_subP hP (jl_s8 hk)) rfl hl rfl (Nat.le_of_ble_eq_true rfl) dL_law_475 hf1 hS (fun H1 locs hk1 hS => ?_)
  have hP := j_keep hP hk1
  clear hZ9 hk1
  refine lv_istore (lv' := [(5, .int (nI 3)), (0, .ref b), (1, .ref (ax 0)), (2, .ref (ad 0)), (3, .ref oa), (4, .int (nI i))]) hx hb dL_law_478 hl (by decide) rfl (fun ls hl => ?_)
  refine lv_aload_n hx hb dL_law_480 rfl (lv_at hl 3 rfl) ?_
  refine j_arg (v := nI k) hx hb hX hbl hbA hS (lv_at hl 1 rfl) (lv_at hl 5 rfl) 1 rfl (by omega) hL e1 dL_law_481 dL_law_482 dL_law_484 dL_law_485 dL_law_486 ?_
  refine j_arg (v := nI 0) hx hb hX hbl hbA hS (lv_at hl 1 rfl) (lv_at hl 5 rfl) 2 rfl (by omega) hL e2 dL_law_487 dL_law_488 dL_law_490 dL_law_491 dL_law_492 ?_
  refine j_arg (v := nI v) hx hb hX hbl hbA hS (lv_at hl 1 rfl) (lv_at hl 5 rfl) 3 rfl (by omega) hL e3 dL_law_493 dL_law_494 dL_law_496 dL_law_497 dL_law_498 ?_
  refine j_mV (As := [.int (nI k), .int (nI 0), .int (nI v)]) (rest := []) ⟨hx, hb, hml, hown, hts⟩ (x3_0_X2_die l dC dI cI cJ cZ cO ad n mo iv an T B py fu cy th k v hn hm hv hk h1 h2 ht9) (cwV 3 hts gL_law_X2_die rfl rfl rfl (by decide +kernel) ⟨Nat.le_of_ble_eq_true rfl, Nat.le_of_ble_eq_true rfl⟩) hK hP hD rfl (jMW_adr _ _ _ _ _ _ _ _ _ _ _ _ _ _) (fun _ => jMW_adr _ _ _ _ _ _ _ _ _ _ _ _ _ _) rfl hl rfl (Nat.le_of_ble_eq_true rfl) dL_law_499 hf1 hS (fun u H locs hr hP hD hS => ?_)
  have hI2 := hI
  exact jt_V hA9 hP hl (lv_at hl 3 rfl) (lv_at hl 0 rfl) hf1 dL_law_502 dL_law_503 dL_law_506 dL_law_508 dL_law_513 (by decide) (W.widen (by omega) (by omega) (go _ _ _ _ _ _ _ _ _ _ _ _ _ _ _ _ hI2 hP hD hS (lv_sub hl [1, 2, 3, 4, 5] rfl)))
set_option maxHeartbeats 4000000 in
set_option maxRecDepth 100000 in
theorem lw_die_x3_1 (h9 : jRd p l e s m below meth c dC dI cI cJ cZ cO b L xs oa ax ad Q i cells slots n mo iv aa an kp T B py ov fu cy th H locs ls) (k : Nat) (v : Nat) (hk : k < n) (h1 : v ≤ mo) (h2 : v ≤ 239) (ht9 : an k 9 ≠ 240) (e1 : xs (i + 1) = nI k) (e2 : xs (i + 2) = nI 1) (e3 : xs (i + 3) = nI v) : W p l e room_1 s m #[Value.ref b] below meth c H locs cells slots Q (F0 m 456 ls []) := by
  obtain ⟨⟨hx, hb, hml, hown, hts, hX, hbl, hst, hZ, hK⟩, hI, hP, hD, hS, hl, hrm, hi9, hL, go⟩ := id h9
  have hA9 := h9.1
  obtain ⟨hn, hm, hv, hkp, hfr⟩ := id hI
  have hbA : ¬ s.heap.size ≤ b := Nat.not_le.mpr hbl
  have hf0 : cells ≤ 601024 ∧ slots ≤ 7293034 := ⟨by omega, by omega⟩
  refine lv_aload_n hx hb dL_law_456 rfl (lv_at hl 1 rfl) ?_
  refine j_arg (v := nI k) hx hb hX hbl hbA hS (lv_at hl 0 rfl) (lv_at hl 4 rfl) 1 rfl (by omega) hL e1 dL_law_457 dL_law_458 dL_law_460 dL_law_461 dL_law_462 ?_
  refine j_arg (v := nI 1) hx hb hX hbl hbA hS (lv_at hl 0 rfl) (lv_at hl 4 rfl) 2 rfl (by omega) hL e2 dL_law_463 dL_law_464 dL_law_466 dL_law_467 dL_law_468 ?_
  refine j_arg (v := nI v) hx hb hX hbl hbA hS (lv_at hl 0 rfl) (lv_at hl 4 rfl) 3 rfl (by omega) hL e3 dL_law_469 dL_law_470 dL_law_472 dL_law_473 dL_law_474 ?_
  have hZ9 : jX (fun _ => False) s H := jX.narrow (jX.kept hZ (fun a h1 h2 => hS.2.1 a h1 h2)) (fun _ h => h.elim)
  have hf1 : cells + 1 ≤ 601024 ∧ slots + 6 ≤ 7293034 := ⟨by omega, by omega⟩
  refine j_lX (As := [.ref (ax 0), .int (nI k), .int (nI 1), .int (nI v)]) (rest := []) ⟨hx, hb, hml, hown, hts⟩ (x3_1_L_die l dC dI cI cJ cZ cO ax (jao aa n) n mo iv (aa k) (an k) (kp k) (py k) k v hst (hv k hk) hm (by omega) (if_pos hk) h1 h2 ht9) (vx_cwSW 4 hts gL_law_L_die rfl rfl rfl (by decide +kernel) ⟨Nat.le_of_ble_eq_true rfl, Nat.le_of_ble_eq_true rfl⟩) hZ9 hK (j_subP hP (jl_s8 hk)) rfl hl rfl (Nat.le_of_ble_eq_true rfl) dL_law_475 hf1 hS (fun H1 locs hk1 hS => ?_)
  have hP := j_keep hP hk1
  clear hZ9 hk1
  refine lv_istore (lv' := [(5, .int (nI 3)), (0, .ref b), (1, .ref (ax 0)), (2, .ref (ad 0)), (3, .ref oa), (4, .int (nI i))]) hx hb dL_law_478 hl (by decide) rfl (fun ls hl => ?_)
  refine lv_aload_n hx hb dL_law_480 rfl (lv_at hl 3 rfl) ?_
  refine j_arg (v := nI k) hx hb hX hbl hbA hS (lv_at hl 1 rfl) (lv_at hl 5 rfl) 1 rfl (by omega) hL e1 dL_law_481 dL_law_482 dL_law_484 dL_law_485 dL_law_486 ?_
  refine j_arg (v := nI 1) hx hb hX hbl hbA hS (lv_at hl 1 rfl) (lv_at hl 5 rfl) 2 rfl (by omega) hL e2 dL_law_487 dL_law_488 dL_law_490 dL_law_491 dL_law_492 ?_
  refine j_arg (v := nI v) hx hb hX hbl hbA hS (lv_at hl 1 rfl) (lv_at hl 5 rfl) 3 rfl (by omega) hL e3 dL_law_493 dL_law_494 dL_law_496 dL_law_497 dL_law_498 ?_
  refine j_mV (As := [.int (nI k), .int (nI 1), .int (nI v)]) (rest := []) ⟨hx, hb, hml, hown, hts⟩ (x3_1_X2_die l dC dI cI cJ cZ cO ad n mo iv an T B py fu cy th k v hn hm hv hk h1 h2 ht9) (cwV 3 hts gL_law_X2_die rfl rfl rfl (by decide +kernel) ⟨Nat.le_of_ble_eq_true rfl, Nat.le_of_ble_eq_true rfl⟩) hK hP hD rfl (jMW_adr _ _ _ _ _ _ _ _ _ _ _ _ _ _) (fun _ => jMW_adr _ _ _ _ _ _ _ _ _ _ _ _ _ _) rfl hl rfl (Nat.le_of_ble_eq_true rfl) dL_law_499 hf1 hS (fun u H locs hr hP hD hS => ?_)
  have hI2 := hI
  exact jt_V hA9 hP hl (lv_at hl 3 rfl) (lv_at hl 0 rfl) hf1 dL_law_502 dL_law_503 dL_law_506 dL_law_508 dL_law_513 (by decide) (W.widen (by omega) (by omega) (go _ _ _ _ _ _ _ _ _ _ _ _ _ _ _ _ hI2 hP hD hS (lv_sub hl [1, 2, 3, 4, 5] rfl)))
set_option maxHeartbeats 4000000 in
set_option maxRecDepth 100000 in
theorem lw_takeBack_c0 (h9 : jRd p l e s m below meth c dC dI cI cJ cZ cO b L xs oa ax ad Q i cells slots n mo iv aa an kp T B py ov fu cy th H locs ls) (k : Nat) (hk : k < n) (ht9 : an k 8 ≠ 240) (e1 : xs (i + 1) = nI k) (e2 : xs (i + 2) = nI 0) : W p l e room_1 s m #[Value.ref b] below meth c H locs cells slots Q (F0 m 516 ls []) := by
  obtain ⟨⟨hx, hb, hml, hown, hts, hX, hbl, hst, hZ, hK⟩, hI, hP, hD, hS, hl, hrm, hi9, hL, go⟩ := id h9
  have hA9 := h9.1
  obtain ⟨hn, hm, hv, hkp, hfr⟩ := id hI
  have hbA : ¬ s.heap.size ≤ b := Nat.not_le.mpr hbl
  have hf0 : cells ≤ 601024 ∧ slots ≤ 7293034 := ⟨by omega, by omega⟩
  refine lv_aload_n hx hb dL_law_516 rfl (lv_at hl 1 rfl) ?_
  refine j_arg (v := nI k) hx hb hX hbl hbA hS (lv_at hl 0 rfl) (lv_at hl 4 rfl) 1 rfl (by omega) hL e1 dL_law_517 dL_law_518 dL_law_520 dL_law_521 dL_law_522 ?_
  refine j_arg (v := nI 0) hx hb hX hbl hbA hS (lv_at hl 0 rfl) (lv_at hl 4 rfl) 2 rfl (by omega) hL e2 dL_law_523 dL_law_524 dL_law_526 dL_law_527 dL_law_528 ?_
  refine lv_aload_n hx hb dL_law_529 rfl (lv_at hl 3 rfl) ?_
  refine j_lI (As := [.ref (ax 0), .int (nI k), .int (nI 0), .ref oa]) (rest := []) ⟨hx, hb, hml, hown, hts⟩ (c_L_takeBack0 l dC dI cI cJ cZ cO oa ov ax (jao aa n) n mo iv (aa k) (an k) (kp k) (py k) k (hv k hk) hm (by omega) (if_pos hk) ht9) (vx_cwSW 4 hts gL_law_L_takeBack rfl rfl rfl (by decide +kernel) ⟨Nat.le_of_ble_eq_true rfl, Nat.le_of_ble_eq_true rfl⟩) hK (j_subP hP (jl_sB hk)) (j_subD hD (jl_sB hk)) rfl hl rfl (Nat.le_of_ble_eq_true rfl) dL_law_530 hf0 hS (j_subA hD (jl_sB hk)) (fun H1 locs hP1 hk1 hS => ?_)
  obtain ⟨hP, hD⟩ := jl_putA hk hP hD hk1 hP1
  clear hP1 hk1
  refine lv_istore (lv' := [(5, .int (nI 0)), (0, .ref b), (1, .ref (ax 0)), (2, .ref (ad 0)), (3, .ref oa), (4, .int (nI i))]) hx hb dL_law_533 hl (by decide) rfl (fun ls hl => ?_)
  refine lv_aload_n hx hb dL_law_535 rfl (lv_at hl 3 rfl) ?_
  refine j_arg (v := nI k) hx hb hX hbl hbA hS (lv_at hl 1 rfl) (lv_at hl 5 rfl) 1 rfl (by omega) hL e1 dL_law_536 dL_law_537 dL_law_539 dL_law_540 dL_law_541 ?_
  refine j_arg (v := nI 0) hx hb hX hbl hbA hS (lv_at hl 1 rfl) (lv_at hl 5 rfl) 2 rfl (by omega) hL e2 dL_law_542 dL_law_543 dL_law_545 dL_law_546 dL_law_547 ?_
  refine j_mI (As := [.int (nI k), .int (nI 0)]) (rest := []) ⟨hx, hb, hml, hown, hts⟩ (c_X2_takeBack0 l dC dI cI cJ cZ cO ad n mo iv an T B py fu cy th k hn hm hv hk ht9) (cwV 2 hts gL_law_X2_takeBack rfl rfl rfl (by decide +kernel) ⟨Nat.le_of_ble_eq_true rfl, Nat.le_of_ble_eq_true rfl⟩) hK hP hD rfl (jMW_adr _ _ _ _ _ _ _ _ _ _ _ _ _ _) (fun _ => jMW_adr _ _ _ _ _ _ _ _ _ _ _ _ _ _) rfl hl rfl (Nat.le_of_ble_eq_true rfl) dL_law_548 hf0 hS (fun r u H locs hr hP hD hS => ?_)
  subst hr
  refine lv_istore (lv' := [(6, .int (nI (an k 8))), (5, .int (nI 0)), (0, .ref b), (1, .ref (ax 0)), (2, .ref (ad 0)), (3, .ref oa), (4, .int (nI i))]) hx hb dL_law_551 hl (by decide) rfl (fun ls hl => ?_)
  have hI2 := jInv_A hI hk (jVu (hv k hk) (i := 8) (Nat.le_refl 240))
  exact jt_I hA9 hP hl (lv_at hl 4 rfl) (lv_at hl 5 rfl) (lv_at hl 1 rfl) (lv_at hl 0 rfl) (by decide) (fun _ => pk_uLs) hf0 dL_law_553 dL_law_554 dL_law_557 dL_law_559 dL_law_564 dL_law_566 dL_law_569 dL_law_570 dL_law_571 dL_law_572 dL_law_574 dL_law_575 dL_law_576 dL_law_581 (by decide) (W.widen (by omega) (by omega) (go _ _ _ _ _ _ _ _ _ _ _ _ _ _ _ _ hI2 hP hD hS (lv_sub hl [2, 3, 4, 5, 6] rfl)))
set_option maxHeartbeats 4000000 in
set_option maxRecDepth 100000 in
theorem lw_takeBack_c1 (h9 : jRd p l e s m below meth c dC dI cI cJ cZ cO b L xs oa ax ad Q i cells slots n mo iv aa an kp T B py ov fu cy th H locs ls) (k : Nat) (hk : k < n) (ht9 : an k 9 ≠ 240) (e1 : xs (i + 1) = nI k) (e2 : xs (i + 2) = nI 1) : W p l e room_1 s m #[Value.ref b] below meth c H locs cells slots Q (F0 m 516 ls []) := by
  obtain ⟨⟨hx, hb, hml, hown, hts, hX, hbl, hst, hZ, hK⟩, hI, hP, hD, hS, hl, hrm, hi9, hL, go⟩ := id h9
  have hA9 := h9.1
  obtain ⟨hn, hm, hv, hkp, hfr⟩ := id hI
  have hbA : ¬ s.heap.size ≤ b := Nat.not_le.mpr hbl
  have hf0 : cells ≤ 601024 ∧ slots ≤ 7293034 := ⟨by omega, by omega⟩
  refine lv_aload_n hx hb dL_law_516 rfl (lv_at hl 1 rfl) ?_
  refine j_arg (v := nI k) hx hb hX hbl hbA hS (lv_at hl 0 rfl) (lv_at hl 4 rfl) 1 rfl (by omega) hL e1 dL_law_517 dL_law_518 dL_law_520 dL_law_521 dL_law_522 ?_
  refine j_arg (v := nI 1) hx hb hX hbl hbA hS (lv_at hl 0 rfl) (lv_at hl 4 rfl) 2 rfl (by omega) hL e2 dL_law_523 dL_law_524 dL_law_526 dL_law_527 dL_law_528 ?_
  refine lv_aload_n hx hb dL_law_529 rfl (lv_at hl 3 rfl) ?_
  refine j_lI (As := [.ref (ax 0), .int (nI k), .int (nI 1), .ref oa]) (rest := []) ⟨hx, hb, hml, hown, hts⟩ (c_L_takeBack1 l dC dI cI cJ cZ cO oa ov ax (jao aa n) n mo iv (aa k) (an k) (kp k) (py k) k (hv k hk) hm (by omega) (if_pos hk) ht9) (vx_cwSW 4 hts gL_law_L_takeBack rfl rfl rfl (by decide +kernel) ⟨Nat.le_of_ble_eq_true rfl, Nat.le_of_ble_eq_true rfl⟩) hK (j_subP hP (jl_sB hk)) (j_subD hD (jl_sB hk)) rfl hl rfl (Nat.le_of_ble_eq_true rfl) dL_law_530 hf0 hS (j_subA hD (jl_sB hk)) (fun H1 locs hP1 hk1 hS => ?_)
  obtain ⟨hP, hD⟩ := jl_putA hk hP hD hk1 hP1
  clear hP1 hk1
  refine lv_istore (lv' := [(5, .int (nI 0)), (0, .ref b), (1, .ref (ax 0)), (2, .ref (ad 0)), (3, .ref oa), (4, .int (nI i))]) hx hb dL_law_533 hl (by decide) rfl (fun ls hl => ?_)
  refine lv_aload_n hx hb dL_law_535 rfl (lv_at hl 3 rfl) ?_
  refine j_arg (v := nI k) hx hb hX hbl hbA hS (lv_at hl 1 rfl) (lv_at hl 5 rfl) 1 rfl (by omega) hL e1 dL_law_536 dL_law_537 dL_law_539 dL_law_540 dL_law_541 ?_
  refine j_arg (v := nI 1) hx hb hX hbl hbA hS (lv_at hl 1 rfl) (lv_at hl 5 rfl) 2 rfl (by omega) hL e2 dL_law_542 dL_law_543 dL_law_545 dL_law_546 dL_law_547 ?_
  refine j_mI (As := [.int (nI k), .int (nI 1)]) (rest := []) ⟨hx, hb, hml, hown, hts⟩ (c_X2_takeBack1 l dC dI cI cJ cZ cO ad n mo iv an T B py fu cy th k hn hm hv hk ht9) (cwV 2 hts gL_law_X2_takeBack rfl rfl rfl (by decide +kernel) ⟨Nat.le_of_ble_eq_true rfl, Nat.le_of_ble_eq_true rfl⟩) hK hP hD rfl (jMW_adr _ _ _ _ _ _ _ _ _ _ _ _ _ _) (fun _ => jMW_adr _ _ _ _ _ _ _ _ _ _ _ _ _ _) rfl hl rfl (Nat.le_of_ble_eq_true rfl) dL_law_548 hf0 hS (fun r u H locs hr hP hD hS => ?_)
  subst hr
  refine lv_istore (lv' := [(6, .int (nI (an k 9))), (5, .int (nI 0)), (0, .ref b), (1, .ref (ax 0)), (2, .ref (ad 0)), (3, .ref oa), (4, .int (nI i))]) hx hb dL_law_551 hl (by decide) rfl (fun ls hl => ?_)
  have hI2 := jInv_A hI hk (jVu (hv k hk) (i := 9) (Nat.le_refl 240))
  exact jt_I hA9 hP hl (lv_at hl 4 rfl) (lv_at hl 5 rfl) (lv_at hl 1 rfl) (lv_at hl 0 rfl) (by decide) (fun _ => pk_uLs) hf0 dL_law_553 dL_law_554 dL_law_557 dL_law_559 dL_law_564 dL_law_566 dL_law_569 dL_law_570 dL_law_571 dL_law_572 dL_law_574 dL_law_575 dL_law_576 dL_law_581 (by decide) (W.widen (by omega) (by omega) (go _ _ _ _ _ _ _ _ _ _ _ _ _ _ _ _ hI2 hP hD hS (lv_sub hl [2, 3, 4, 5, 6] rfl)))
set_option maxHeartbeats 4000000 in
set_option maxRecDepth 100000 in
theorem lw_takeBack_x1 (h9 : jRd p l e s m below meth c dC dI cI cJ cZ cO b L xs oa ax ad Q i cells slots n mo iv aa an kp T B py ov fu cy th H locs ls) (p0 : Int32) (p1 : Int32) (hb0 : ¬ vp_in p0 n) (e1 : xs (i + 1) = p0) (e2 : xs (i + 2) = p1) : W p l e room_1 s m #[Value.ref b] below meth c H locs cells slots Q (F0 m 516 ls []) := by
  obtain ⟨⟨hx, hb, hml, hown, hts, hX, hbl, hst, hZ, hK⟩, hI, hP, hD, hS, hl, hrm, hi9, hL, go⟩ := id h9
  have hA9 := h9.1
  obtain ⟨hn, hm, hv, hkp, hfr⟩ := id hI
  have hbA : ¬ s.heap.size ≤ b := Nat.not_le.mpr hbl
  have hf0 : cells ≤ 601024 ∧ slots ≤ 7293034 := ⟨by omega, by omega⟩
  refine lv_aload_n hx hb dL_law_516 rfl (lv_at hl 1 rfl) ?_
  refine j_arg (v := p0) hx hb hX hbl hbA hS (lv_at hl 0 rfl) (lv_at hl 4 rfl) 1 rfl (by omega) hL e1 dL_law_517 dL_law_518 dL_law_520 dL_law_521 dL_law_522 ?_
  refine j_arg (v := p1) hx hb hX hbl hbA hS (lv_at hl 0 rfl) (lv_at hl 4 rfl) 2 rfl (by omega) hL e2 dL_law_523 dL_law_524 dL_law_526 dL_law_527 dL_law_528 ?_
  refine lv_aload_n hx hb dL_law_529 rfl (lv_at hl 3 rfl) ?_
  have hZ9 : jX (fun _ => False) s H := jX.narrow (jX.kept hZ (fun a h1 h2 => hS.2.1 a h1 h2)) (fun _ h => h.elim)
  have hf1 : cells + 1 ≤ 601024 ∧ slots + 6 ≤ 7293034 := ⟨by omega, by omega⟩
  refine j_lX (As := [.ref (ax 0), .int p0, .int p1, .ref oa]) (rest := []) ⟨hx, hb, hml, hown, hts⟩ (x1_L_takeBack l dC dI cI cJ cZ cO ax (jao aa n) n mo p0 p1 hst hn (fun j hj => if_neg (by omega)) hb0 oa) (vx_cwSW 4 hts gL_law_L_takeBack rfl rfl rfl (by decide +kernel) ⟨Nat.le_of_ble_eq_true rfl, Nat.le_of_ble_eq_true rfl⟩) hZ9 hK (j_subP hP jl_s2) rfl hl rfl (Nat.le_of_ble_eq_true rfl) dL_law_530 hf1 hS (fun H1 locs hk1 hS => ?_)
  have hP := j_keep hP hk1
  clear hZ9 hk1
  refine lv_istore (lv' := [(5, .int (nI 1)), (0, .ref b), (1, .ref (ax 0)), (2, .ref (ad 0)), (3, .ref oa), (4, .int (nI i))]) hx hb dL_law_533 hl (by decide) rfl (fun ls hl => ?_)
  refine lv_aload_n hx hb dL_law_535 rfl (lv_at hl 3 rfl) ?_
  refine j_arg (v := p0) hx hb hX hbl hbA hS (lv_at hl 1 rfl) (lv_at hl 5 rfl) 1 rfl (by omega) hL e1 dL_law_536 dL_law_537 dL_law_539 dL_law_540 dL_law_541 ?_
  refine j_arg (v := p1) hx hb hX hbl hbA hS (lv_at hl 1 rfl) (lv_at hl 5 rfl) 2 rfl (by omega) hL e2 dL_law_542 dL_law_543 dL_law_545 dL_law_546 dL_law_547 ?_
  refine j_mI (As := [.int p0, .int p1]) (rest := []) ⟨hx, hb, hml, hown, hts⟩ (x1_X2_takeBack l dC dI cI cJ cZ cO ad n mo iv an T B py fu cy th p0 p1 hn hm hv hb0) (cwV 2 hts gL_law_X2_takeBack rfl rfl rfl (by decide +kernel) ⟨Nat.le_of_ble_eq_true rfl, Nat.le_of_ble_eq_true rfl⟩) hK hP hD rfl (jMW_adr _ _ _ _ _ _ _ _ _ _ _ _ _ _) (fun _ => jMW_adr _ _ _ _ _ _ _ _ _ _ _ _ _ _) rfl hl rfl (Nat.le_of_ble_eq_true rfl) dL_law_548 hf1 hS (fun r u H locs hr hP hD hS => ?_)
  refine lv_istore (lv' := [(6, .int r), (5, .int (nI 1)), (0, .ref b), (1, .ref (ax 0)), (2, .ref (ad 0)), (3, .ref oa), (4, .int (nI i))]) hx hb dL_law_551 hl (by decide) rfl (fun ls hl => ?_)
  have hI2 := hI
  exact jt_I hA9 hP hl (lv_at hl 4 rfl) (lv_at hl 5 rfl) (lv_at hl 1 rfl) (lv_at hl 0 rfl) (by decide) (fun h => absurd h (by decide)) hf1 dL_law_553 dL_law_554 dL_law_557 dL_law_559 dL_law_564 dL_law_566 dL_law_569 dL_law_570 dL_law_571 dL_law_572 dL_law_574 dL_law_575 dL_law_576 dL_law_581 (by decide) (W.widen (by omega) (by omega) (go _ _ _ _ _ _ _ _ _ _ _ _ _ _ _ _ hI2 hP hD hS (lv_sub hl [2, 3, 4, 5, 6] rfl)))
set_option maxHeartbeats 4000000 in
set_option maxRecDepth 100000 in
theorem lw_takeBack_x2 (h9 : jRd p l e s m below meth c dC dI cI cJ cZ cO b L xs oa ax ad Q i cells slots n mo iv aa an kp T B py ov fu cy th H locs ls) (k : Nat) (p1 : Int32) (hk : k < n) (h : p1 < nI 0 ∨ nI 1 < p1) (e1 : xs (i + 1) = nI k) (e2 : xs (i + 2) = p1) : W p l e room_1 s m #[Value.ref b] below meth c H locs cells slots Q (F0 m 516 ls []) := by
  obtain ⟨⟨hx, hb, hml, hown, hts, hX, hbl, hst, hZ, hK⟩, hI, hP, hD, hS, hl, hrm, hi9, hL, go⟩ := id h9
  have hA9 := h9.1
  obtain ⟨hn, hm, hv, hkp, hfr⟩ := id hI
  have hbA : ¬ s.heap.size ≤ b := Nat.not_le.mpr hbl
  have hf0 : cells ≤ 601024 ∧ slots ≤ 7293034 := ⟨by omega, by omega⟩
  refine lv_aload_n hx hb dL_law_516 rfl (lv_at hl 1 rfl) ?_
  refine j_arg (v := nI k) hx hb hX hbl hbA hS (lv_at hl 0 rfl) (lv_at hl 4 rfl) 1 rfl (by omega) hL e1 dL_law_517 dL_law_518 dL_law_520 dL_law_521 dL_law_522 ?_
  refine j_arg (v := p1) hx hb hX hbl hbA hS (lv_at hl 0 rfl) (lv_at hl 4 rfl) 2 rfl (by omega) hL e2 dL_law_523 dL_law_524 dL_law_526 dL_law_527 dL_law_528 ?_
  refine lv_aload_n hx hb dL_law_529 rfl (lv_at hl 3 rfl) ?_
  have hZ9 : jX (fun _ => False) s H := jX.narrow (jX.kept hZ (fun a h1 h2 => hS.2.1 a h1 h2)) (fun _ h => h.elim)
  have hf1 : cells + 1 ≤ 601024 ∧ slots + 6 ≤ 7293034 := ⟨by omega, by omega⟩
  refine j_lX (As := [.ref (ax 0), .int (nI k), .int p1, .ref oa]) (rest := []) ⟨hx, hb, hml, hown, hts⟩ (x2_L_takeBack l dC dI cI cJ cZ cO ax (jao aa n) n mo iv (aa k) (an k) (kp k) (py k) k p1 hst (hv k hk) hm (by omega) (if_pos hk) h oa) (vx_cwSW 4 hts gL_law_L_takeBack rfl rfl rfl (by decide +kernel) ⟨Nat.le_of_ble_eq_true rfl, Nat.le_of_ble_eq_true rfl⟩) hZ9 hK (j_subP hP (jl_s8 hk)) rfl hl rfl (Nat.le_of_ble_eq_true rfl) dL_law_530 hf1 hS (fun H1 locs hk1 hS => ?_)
  have hP := j_keep hP hk1
  clear hZ9 hk1
  refine lv_istore (lv' := [(5, .int (nI 2)), (0, .ref b), (1, .ref (ax 0)), (2, .ref (ad 0)), (3, .ref oa), (4, .int (nI i))]) hx hb dL_law_533 hl (by decide) rfl (fun ls hl => ?_)
  refine lv_aload_n hx hb dL_law_535 rfl (lv_at hl 3 rfl) ?_
  refine j_arg (v := nI k) hx hb hX hbl hbA hS (lv_at hl 1 rfl) (lv_at hl 5 rfl) 1 rfl (by omega) hL e1 dL_law_536 dL_law_537 dL_law_539 dL_law_540 dL_law_541 ?_
  refine j_arg (v := p1) hx hb hX hbl hbA hS (lv_at hl 1 rfl) (lv_at hl 5 rfl) 2 rfl (by omega) hL e2 dL_law_542 dL_law_543 dL_law_545 dL_law_546 dL_law_547 ?_
  refine j_mI (As := [.int (nI k), .int p1]) (rest := []) ⟨hx, hb, hml, hown, hts⟩ (x2_X2_takeBack l dC dI cI cJ cZ cO ad n mo iv an T B py fu cy th k p1 hn hm hv hk h) (cwV 2 hts gL_law_X2_takeBack rfl rfl rfl (by decide +kernel) ⟨Nat.le_of_ble_eq_true rfl, Nat.le_of_ble_eq_true rfl⟩) hK hP hD rfl (jMW_adr _ _ _ _ _ _ _ _ _ _ _ _ _ _) (fun _ => jMW_adr _ _ _ _ _ _ _ _ _ _ _ _ _ _) rfl hl rfl (Nat.le_of_ble_eq_true rfl) dL_law_548 hf1 hS (fun r u H locs hr hP hD hS => ?_)
  refine lv_istore (lv' := [(6, .int r), (5, .int (nI 2)), (0, .ref b), (1, .ref (ax 0)), (2, .ref (ad 0)), (3, .ref oa), (4, .int (nI i))]) hx hb dL_law_551 hl (by decide) rfl (fun ls hl => ?_)
  have hI2 := hI
  exact jt_I hA9 hP hl (lv_at hl 4 rfl) (lv_at hl 5 rfl) (lv_at hl 1 rfl) (lv_at hl 0 rfl) (by decide) (fun h => absurd h (by decide)) hf1 dL_law_553 dL_law_554 dL_law_557 dL_law_559 dL_law_564 dL_law_566 dL_law_569 dL_law_570 dL_law_571 dL_law_572 dL_law_574 dL_law_575 dL_law_576 dL_law_581 (by decide) (W.widen (by omega) (by omega) (go _ _ _ _ _ _ _ _ _ _ _ _ _ _ _ _ hI2 hP hD hS (lv_sub hl [2, 3, 4, 5, 6] rfl)))
set_option maxHeartbeats 4000000 in
set_option maxRecDepth 100000 in
theorem lw_takeBack_x3_0 (h9 : jRd p l e s m below meth c dC dI cI cJ cZ cO b L xs oa ax ad Q i cells slots n mo iv aa an kp T B py ov fu cy th H locs ls) (k : Nat) (hk : k < n) (ht9 : an k 8 = 240) (e1 : xs (i + 1) = nI k) (e2 : xs (i + 2) = nI 0) : W p l e room_1 s m #[Value.ref b] below meth c H locs cells slots Q (F0 m 516 ls []) := by
  obtain ⟨⟨hx, hb, hml, hown, hts, hX, hbl, hst, hZ, hK⟩, hI, hP, hD, hS, hl, hrm, hi9, hL, go⟩ := id h9
  have hA9 := h9.1
  obtain ⟨hn, hm, hv, hkp, hfr⟩ := id hI
  have hbA : ¬ s.heap.size ≤ b := Nat.not_le.mpr hbl
  have hf0 : cells ≤ 601024 ∧ slots ≤ 7293034 := ⟨by omega, by omega⟩
  refine lv_aload_n hx hb dL_law_516 rfl (lv_at hl 1 rfl) ?_
  refine j_arg (v := nI k) hx hb hX hbl hbA hS (lv_at hl 0 rfl) (lv_at hl 4 rfl) 1 rfl (by omega) hL e1 dL_law_517 dL_law_518 dL_law_520 dL_law_521 dL_law_522 ?_
  refine j_arg (v := nI 0) hx hb hX hbl hbA hS (lv_at hl 0 rfl) (lv_at hl 4 rfl) 2 rfl (by omega) hL e2 dL_law_523 dL_law_524 dL_law_526 dL_law_527 dL_law_528 ?_
  refine lv_aload_n hx hb dL_law_529 rfl (lv_at hl 3 rfl) ?_
  have hZ9 : jX (fun _ => False) s H := jX.narrow (jX.kept hZ (fun a h1 h2 => hS.2.1 a h1 h2)) (fun _ h => h.elim)
  have hf1 : cells + 1 ≤ 601024 ∧ slots + 6 ≤ 7293034 := ⟨by omega, by omega⟩
  refine j_lX (As := [.ref (ax 0), .int (nI k), .int (nI 0), .ref oa]) (rest := []) ⟨hx, hb, hml, hown, hts⟩ (x3_0_L_takeBack l dC dI cI cJ cZ cO ax (jao aa n) n mo iv (aa k) (an k) (kp k) (py k) k hst (hv k hk) hm (by omega) (if_pos hk) ht9 oa) (vx_cwSW 4 hts gL_law_L_takeBack rfl rfl rfl (by decide +kernel) ⟨Nat.le_of_ble_eq_true rfl, Nat.le_of_ble_eq_true rfl⟩) hZ9 hK (j_subP hP (jl_s8 hk)) rfl hl rfl (Nat.le_of_ble_eq_true rfl) dL_law_530 hf1 hS (fun H1 locs hk1 hS => ?_)
  have hP := j_keep hP hk1
  clear hZ9 hk1
  refine lv_istore (lv' := [(5, .int (nI 3)), (0, .ref b), (1, .ref (ax 0)), (2, .ref (ad 0)), (3, .ref oa), (4, .int (nI i))]) hx hb dL_law_533 hl (by decide) rfl (fun ls hl => ?_)
  refine lv_aload_n hx hb dL_law_535 rfl (lv_at hl 3 rfl) ?_
  refine j_arg (v := nI k) hx hb hX hbl hbA hS (lv_at hl 1 rfl) (lv_at hl 5 rfl) 1 rfl (by omega) hL e1 dL_law_536 dL_law_537 dL_law_539 dL_law_540 dL_law_541 ?_
  refine j_arg (v := nI 0) hx hb hX hbl hbA hS (lv_at hl 1 rfl) (lv_at hl 5 rfl) 2 rfl (by omega) hL e2 dL_law_542 dL_law_543 dL_law_545 dL_law_546 dL_law_547 ?_
  refine j_mI (As := [.int (nI k), .int (nI 0)]) (rest := []) ⟨hx, hb, hml, hown, hts⟩ (x3_0_X2_takeBack l dC dI cI cJ cZ cO ad n mo iv an T B py fu cy th k hn hm hv hk ht9) (cwV 2 hts gL_law_X2_takeBack rfl rfl rfl (by decide +kernel) ⟨Nat.le_of_ble_eq_true rfl, Nat.le_of_ble_eq_true rfl⟩) hK hP hD rfl (jMW_adr _ _ _ _ _ _ _ _ _ _ _ _ _ _) (fun _ => jMW_adr _ _ _ _ _ _ _ _ _ _ _ _ _ _) rfl hl rfl (Nat.le_of_ble_eq_true rfl) dL_law_548 hf1 hS (fun r u H locs hr hP hD hS => ?_)
  refine lv_istore (lv' := [(6, .int r), (5, .int (nI 3)), (0, .ref b), (1, .ref (ax 0)), (2, .ref (ad 0)), (3, .ref oa), (4, .int (nI i))]) hx hb dL_law_551 hl (by decide) rfl (fun ls hl => ?_)
  have hI2 := hI
  exact jt_I hA9 hP hl (lv_at hl 4 rfl) (lv_at hl 5 rfl) (lv_at hl 1 rfl) (lv_at hl 0 rfl) (by decide) (fun h => absurd h (by decide)) hf1 dL_law_553 dL_law_554 dL_law_557 dL_law_559 dL_law_564 dL_law_566 dL_law_569 dL_law_570 dL_law_571 dL_law_572 dL_law_574 dL_law_575 dL_law_576 dL_law_581 (by decide) (W.widen (by omega) (by omega) (go _ _ _ _ _ _ _ _ _ _ _ _ _ _ _ _ hI2 hP hD hS (lv_sub hl [2, 3, 4, 5, 6] rfl)))
set_option maxHeartbeats 4000000 in
set_option maxRecDepth 100000 in
theorem lw_takeBack_x3_1 (h9 : jRd p l e s m below meth c dC dI cI cJ cZ cO b L xs oa ax ad Q i cells slots n mo iv aa an kp T B py ov fu cy th H locs ls) (k : Nat) (hk : k < n) (ht9 : an k 9 = 240) (e1 : xs (i + 1) = nI k) (e2 : xs (i + 2) = nI 1) : W p l e room_1 s m #[Value.ref b] below meth c H locs cells slots Q (F0 m 516 ls []) := by
  obtain ⟨⟨hx, hb, hml, hown, hts, hX, hbl, hst, hZ, hK⟩, hI, hP, hD, hS, hl, hrm, hi9, hL, go⟩ := id h9
  have hA9 := h9.1
  obtain ⟨hn, hm, hv, hkp, hfr⟩ := id hI
  have hbA : ¬ s.heap.size ≤ b := Nat.not_le.mpr hbl
  have hf0 : cells ≤ 601024 ∧ slots ≤ 7293034 := ⟨by omega, by omega⟩
  refine lv_aload_n hx hb dL_law_516 rfl (lv_at hl 1 rfl) ?_
  refine j_arg (v := nI k) hx hb hX hbl hbA hS (lv_at hl 0 rfl) (lv_at hl 4 rfl) 1 rfl (by omega) hL e1 dL_law_517 dL_law_518 dL_law_520 dL_law_521 dL_law_522 ?_
  refine j_arg (v := nI 1) hx hb hX hbl hbA hS (lv_at hl 0 rfl) (lv_at hl 4 rfl) 2 rfl (by omega) hL e2 dL_law_523 dL_law_524 dL_law_526 dL_law_527 dL_law_528 ?_
  refine lv_aload_n hx hb dL_law_529 rfl (lv_at hl 3 rfl) ?_
  have hZ9 : jX (fun _ => False) s H := jX.narrow (jX.kept hZ (fun a h1 h2 => hS.2.1 a h1 h2)) (fun _ h => h.elim)
  have hf1 : cells + 1 ≤ 601024 ∧ slots + 6 ≤ 7293034 := ⟨by omega, by omega⟩
  refine j_lX (As := [.ref (ax 0), .int (nI k), .int (nI 1), .ref oa]) (rest := []) ⟨hx, hb, hml, hown, hts⟩ (x3_1_L_takeBack l dC dI cI cJ cZ cO ax (jao aa n) n mo iv (aa k) (an k) (kp k) (py k) k hst (hv k hk) hm (by omega) (if_pos hk) ht9 oa) (vx_cwSW 4 hts gL_law_L_takeBack rfl rfl rfl (by decide +kernel) ⟨Nat.le_of_ble_eq_true rfl, Nat.le_of_ble_eq_true rfl⟩) hZ9 hK (j_subP hP (jl_s8 hk)) rfl hl rfl (Nat.le_of_ble_eq_true rfl) dL_law_530 hf1 hS (fun H1 locs hk1 hS => ?_)
  have hP := j_keep hP hk1
  clear hZ9 hk1
  refine lv_istore (lv' := [(5, .int (nI 3)), (0, .ref b), (1, .ref (ax 0)), (2, .ref (ad 0)), (3, .ref oa), (4, .int (nI i))]) hx hb dL_law_533 hl (by decide) rfl (fun ls hl => ?_)
  refine lv_aload_n hx hb dL_law_535 rfl (lv_at hl 3 rfl) ?_
  refine j_arg (v := nI k) hx hb hX hbl hbA hS (lv_at hl 1 rfl) (lv_at hl 5 rfl) 1 rfl (by omega) hL e1 dL_law_536 dL_law_537 dL_law_539 dL_law_540 dL_law_541 ?_
  refine j_arg (v := nI 1) hx hb hX hbl hbA hS (lv_at hl 1 rfl) (lv_at hl 5 rfl) 2 rfl (by omega) hL e2 dL_law_542 dL_law_543 dL_law_545 dL_law_546 dL_law_547 ?_
  refine j_mI (As := [.int (nI k), .int (nI 1)]) (rest := []) ⟨hx, hb, hml, hown, hts⟩ (x3_1_X2_takeBack l dC dI cI cJ cZ cO ad n mo iv an T B py fu cy th k hn hm hv hk ht9) (cwV 2 hts gL_law_X2_takeBack rfl rfl rfl (by decide +kernel) ⟨Nat.le_of_ble_eq_true rfl, Nat.le_of_ble_eq_true rfl⟩) hK hP hD rfl (jMW_adr _ _ _ _ _ _ _ _ _ _ _ _ _ _) (fun _ => jMW_adr _ _ _ _ _ _ _ _ _ _ _ _ _ _) rfl hl rfl (Nat.le_of_ble_eq_true rfl) dL_law_548 hf1 hS (fun r u H locs hr hP hD hS => ?_)
  refine lv_istore (lv' := [(6, .int r), (5, .int (nI 3)), (0, .ref b), (1, .ref (ax 0)), (2, .ref (ad 0)), (3, .ref oa), (4, .int (nI i))]) hx hb dL_law_551 hl (by decide) rfl (fun ls hl => ?_)
  have hI2 := hI
  exact jt_I hA9 hP hl (lv_at hl 4 rfl) (lv_at hl 5 rfl) (lv_at hl 1 rfl) (lv_at hl 0 rfl) (by decide) (fun h => absurd h (by decide)) hf1 dL_law_553 dL_law_554 dL_law_557 dL_law_559 dL_law_564 dL_law_566 dL_law_569 dL_law_570 dL_law_571 dL_law_572 dL_law_574 dL_law_575 dL_law_576 dL_law_581 (by decide) (W.widen (by omega) (by omega) (go _ _ _ _ _ _ _ _ _ _ _ _ _ _ _ _ hI2 hP hD hS (lv_sub hl [2, 3, 4, 5, 6] rfl)))
set_option maxHeartbeats 4000000 in
set_option maxRecDepth 100000 in
theorem lw_run_c (h9 : jRd p l e s m below meth c dC dI cI cJ cZ cO b L xs oa ax ad Q i cells slots n mo iv aa an kp T B py ov fu cy th H locs ls) (hm2 : mo < 240)  : W p l e room_1 s m #[Value.ref b] below meth c H locs cells slots Q (F0 m 584 ls []) := by
  obtain ⟨⟨hx, hb, hml, hown, hts, hX, hbl, hst, hZ, hK⟩, hI, hP, hD, hS, hl, hrm, hi9, hL, go⟩ := id h9
  have hA9 := h9.1
  obtain ⟨hn, hm, hv, hkp, hfr⟩ := id hI
  have hbA : ¬ s.heap.size ≤ b := Nat.not_le.mpr hbl
  have hf0 : cells ≤ 601024 ∧ slots ≤ 7293034 := ⟨by omega, by omega⟩
  refine lv_aload_n hx hb dL_law_584 rfl (lv_at hl 1 rfl) ?_
  refine lv_aload_n hx hb dL_law_585 rfl (lv_at hl 3 rfl) ?_
  have hPc : va_P (dC, dI) vwCl (jLX cI cJ cO oa ov ax n mo iv aa ++ jBl (jbk cI cJ aa an iv kp py) n) H := j_subP hP (List.sublist_append_left _ _)
  have hDc : va_D (fun q => s.heap.size ≤ q) (jLX cI cJ cO oa ov ax n mo iv aa ++ jBl (jbk cI cJ aa an iv kp py) n) := j_subD hD (List.sublist_append_left _ _)
  have hAc : ∀ q, jA (jLX cI cJ cO oa ov ax n mo iv aa ++ jBl (jbk cI cJ aa an iv kp py) n) q → s.heap.size ≤ q := j_subA hD (List.sublist_append_left _ _)
  refine j_lI (As := [.ref (ax 0), .ref oa]) (rest := []) ⟨hx, hb, hml, hown, hts⟩ (c_L_run l dC dI cI cJ cZ cO oa ov ax n mo iv aa an kp py hv hn hm2) (vx_cwSW 2 hts gL_law_L_run rfl rfl rfl (by decide +kernel) ⟨Nat.le_of_ble_eq_true rfl, Nat.le_of_ble_eq_true rfl⟩) hK hPc hDc rfl hl rfl (Nat.le_of_ble_eq_true rfl) dL_law_586 hf0 hS hAc (fun H1 locs hP1 hk1 hS => ?_)
  have hP1 : va_P (dC, dI) vwCl (jLX cI cJ cO oa (vp_updL ov 0 (jSum (jZ an iv mo kp) n)) ax n (mo + 1) iv aa ++ jBl (jbk cI cJ aa an iv (fun j => kp j + jZ an iv mo kp j) (fun j => vp_updL (py j) mo (jZ an iv mo kp j))) n) H1 := hP1
  have e9 : jBl (jbk cI cJ aa an iv (fun j => kp j + jZ an iv mo kp j) (fun j => vp_updL (py j) mo (jZ an iv mo kp j))) n = jBl (jbk cI cJ aa an iv (fun j => kp j + jZ an iv mo kp j) (jpi py (jZm an iv mo T B) mo n)) n := jBl_congr fun k hk => by
    show jAW cI cJ (aa k) (an k) iv (kp k + jZ an iv mo kp k) (vp_updL (py k) mo (jZ an iv mo kp k)) = jAW cI cJ (aa k) (an k) iv (kp k + jZ an iv mo kp k) (jpi py (jZm an iv mo T B) mo n k)
    rw [jpi_b _ _ _ hk, jq_Z hI hk]
  rw [e9] at hP1
  obtain ⟨hP, hD⟩ := j_left hP hD (jl_adL cI cJ cO oa ov (vp_updL ov 0 (jSum (jZ an iv mo kp) n)) ax n mo (mo + 1) iv iv aa an kp (fun j => kp j + jZ an iv mo kp j) py (jpi py (jZm an iv mo T B) mo n)) hk1 hP1
  clear hP1 hk1 hPc hDc hAc
  refine lv_istore (lv' := [(5, .int (nI 0)), (0, .ref b), (1, .ref (ax 0)), (2, .ref (ad 0)), (3, .ref oa), (4, .int (nI i))]) hx hb dL_law_589 hl (by decide) rfl (fun ls hl => ?_)
  refine lv_aload_n hx hb dL_law_591 rfl (lv_at hl 3 rfl) ?_
  refine j_mL (As := []) (rest := []) ⟨hx, hb, hml, hown, hts⟩ (c_X2_run l dC dI cI cJ cZ cO ad n mo iv an T B py fu cy th hn hm hv hm2) (cwV 0 hts gL_law_X2_run rfl rfl rfl (by decide +kernel) ⟨Nat.le_of_ble_eq_true rfl, Nat.le_of_ble_eq_true rfl⟩) hK hP hD rfl (jMW_adr _ _ _ _ _ _ _ _ _ _ _ _ _ _) (fun _ => jMW_adr _ _ _ _ _ _ _ _ _ _ _ _ _ _) rfl hl rfl (Nat.le_of_ble_eq_true rfl) dL_law_592 hf0 hS (fun r u H locs hr hP hD hS => ?_)
  subst hr
  refine lv_lstore (lv' := [(6, .long (jSum (jZm an iv mo T B) n)), (5, .int (nI 0)), (0, .ref b), (1, .ref (ax 0)), (2, .ref (ad 0)), (3, .ref oa), (4, .int (nI i))]) hx hb dL_law_595 hl (by decide) rfl (fun ls hl => ?_)
  have hI2 := jInv_R (iv := iv) hI hm2
  exact jt_L hA9 hP hl (lv_at hl 4 rfl) (lv_at hl 5 rfl) (lv_at hl 1 rfl) (lv_at hl 0 rfl) (by decide) (fun _ => pk_uLs.trans (jq_sum fun k hk => jq_Z hI hk)) hf0 dL_law_597 dL_law_598 dL_law_601 dL_law_603 dL_law_608 dL_law_610 dL_law_613 dL_law_614 dL_law_615 dL_law_616 dL_law_618 dL_law_619 dL_law_624 (by decide) (W.widen (by omega) (by omega) (go _ _ _ _ _ _ _ _ _ _ _ _ _ _ _ _ hI2 hP hD hS (lv_sub hl [2, 3, 4, 5, 6] rfl)))
set_option maxHeartbeats 4000000 in
set_option maxRecDepth 100000 in
theorem lw_run_x1 (h9 : jRd p l e s m below meth c dC dI cI cJ cZ cO b L xs oa ax ad Q i cells slots n mo iv aa an kp T B py ov fu cy th H locs ls) (hm2 : mo = 240)  : W p l e room_1 s m #[Value.ref b] below meth c H locs cells slots Q (F0 m 584 ls []) := by
  obtain ⟨⟨hx, hb, hml, hown, hts, hX, hbl, hst, hZ, hK⟩, hI, hP, hD, hS, hl, hrm, hi9, hL, go⟩ := id h9
  have hA9 := h9.1
  obtain ⟨hn, hm, hv, hkp, hfr⟩ := id hI
  have hbA : ¬ s.heap.size ≤ b := Nat.not_le.mpr hbl
  have hf0 : cells ≤ 601024 ∧ slots ≤ 7293034 := ⟨by omega, by omega⟩
  refine lv_aload_n hx hb dL_law_584 rfl (lv_at hl 1 rfl) ?_
  refine lv_aload_n hx hb dL_law_585 rfl (lv_at hl 3 rfl) ?_
  have hZ9 : jX (fun _ => False) s H := jX.narrow (jX.kept hZ (fun a h1 h2 => hS.2.1 a h1 h2)) (fun _ h => h.elim)
  have hf1 : cells + 1 ≤ 601024 ∧ slots + 6 ≤ 7293034 := ⟨by omega, by omega⟩
  refine j_lX (As := [.ref (ax 0), .ref oa]) (rest := []) ⟨hx, hb, hml, hown, hts⟩ (x1_L_run l dC dI cI cJ cZ cO ax n mo hst hm2 oa) (vx_cwSW 2 hts gL_law_L_run rfl rfl rfl (by decide +kernel) ⟨Nat.le_of_ble_eq_true rfl, Nat.le_of_ble_eq_true rfl⟩) hZ9 hK (j_subP hP jl_s1) rfl hl rfl (Nat.le_of_ble_eq_true rfl) dL_law_586 hf1 hS (fun H1 locs hk1 hS => ?_)
  have hP := j_keep hP hk1
  clear hZ9 hk1
  refine lv_istore (lv' := [(5, .int (nI 1)), (0, .ref b), (1, .ref (ax 0)), (2, .ref (ad 0)), (3, .ref oa), (4, .int (nI i))]) hx hb dL_law_589 hl (by decide) rfl (fun ls hl => ?_)
  refine lv_aload_n hx hb dL_law_591 rfl (lv_at hl 3 rfl) ?_
  refine j_mL (As := []) (rest := []) ⟨hx, hb, hml, hown, hts⟩ (x1_X2_run l dC dI cI cJ cZ cO ad n mo iv an T B py fu cy th hn hm hv hm2) (cwV 0 hts gL_law_X2_run rfl rfl rfl (by decide +kernel) ⟨Nat.le_of_ble_eq_true rfl, Nat.le_of_ble_eq_true rfl⟩) hK hP hD rfl (jMW_adr _ _ _ _ _ _ _ _ _ _ _ _ _ _) (fun _ => jMW_adr _ _ _ _ _ _ _ _ _ _ _ _ _ _) rfl hl rfl (Nat.le_of_ble_eq_true rfl) dL_law_592 hf1 hS (fun r u H locs hr hP hD hS => ?_)
  refine lv_lstore (lv' := [(6, .long r), (5, .int (nI 1)), (0, .ref b), (1, .ref (ax 0)), (2, .ref (ad 0)), (3, .ref oa), (4, .int (nI i))]) hx hb dL_law_595 hl (by decide) rfl (fun ls hl => ?_)
  have hI2 := hI
  exact jt_L hA9 hP hl (lv_at hl 4 rfl) (lv_at hl 5 rfl) (lv_at hl 1 rfl) (lv_at hl 0 rfl) (by decide) (fun h => absurd h (by decide)) hf1 dL_law_597 dL_law_598 dL_law_601 dL_law_603 dL_law_608 dL_law_610 dL_law_613 dL_law_614 dL_law_615 dL_law_616 dL_law_618 dL_law_619 dL_law_624 (by decide) (W.widen (by omega) (by omega) (go _ _ _ _ _ _ _ _ _ _ _ _ _ _ _ _ hI2 hP hD hS (lv_sub hl [2, 3, 4, 5, 6] rfl)))
end JLR
