/-! the law: months are run -/
theorem q_sum {Z Z2 : Nat → Int64} {n : Nat} (h : ∀ k, k < n → Z k = Z2 k) : jSum Z n = jSum Z2 n := by
  induction n with
  | zero => rfl
  | succ n ih =>
    show jSum Z n + Z n = jSum Z2 n + Z2 n
    rw [ih (fun k hk => h k (by omega)), h n (by omega)]
section QLa
variable {p : Program} {l : Launch} {e : Env} {s : State} {m : MethodId} {below : List Frame} {meth : Method} {c : Code} {dC : Nat → ClassId} {dI : Nat → Nat → Nat} {cI cJ cO : ClassId} {b L : Nat} {xs : Nat → Int32} {ai ax : Nat → Nat} {Q : State → Prop} {i cells slots n mo : Nat} {iv : Nat → Int32} {aa an : Nat → Nat → Nat} {kp : Nat → Int64} {py : Nat → Nat → Int64} {K : Nat → Nat} {f0 f1 f2 f3 : Nat → Int32} {a : Nat} {H : Heap} {locs : List Loc} {ls : Array Slot}
set_option maxHeartbeats 4000000 in
set_option maxRecDepth 100000 in
/-- months are run -/
theorem lo_run {v : Nat} (hA9 : qAt p l s m c dC dI cI cJ cO b L xs) (hP : va_P (dC, dI) vwCl (qW cI cJ cO ai iv f1 f2 f3 ax n mo iv aa an kp py) H) (hD : va_D (fun q => s.heap.size ≤ q) (qW cI cJ cO ai iv f1 f2 f3 ax n mo iv aa an kp py)) (hS : va_S (fun q => s.heap.size ≤ q) s.heap H locs) (hl : lv_has ls 21 [(0, .ref b), (1, .ref (ax 0)), (2, .ref (ai 0)), (3, .ref (ai 1)), (4, .ref (ai 2)), (5, .ref (ai 3)), (6, .int (nI n)), (7, .int (nI 1)), (8, .int (nI i)), (11, .int (nI a)), (12, .int (nI v))]) (hv9 : v < 2 ^ 31) (hI : qInv n mo an kp K f1 f2 f3) (ha : a < n) (hrc : cells + 120 ≤ 863873) (hrs : slots + 720 ≤ 6509848) (go : qGo p l e s m below meth c dC dI cI cJ cO b ai ax Q 737 i (cells + 120) (slots + 720)) : W p l e room_1 s m #[Value.ref b] below meth c H locs cells slots Q (F0 m 324 ls []) := by
  obtain ⟨hx, hb, hml, hown, hts, hX, hbl, hst, hZ, hK⟩ := id hA9
  have hbA : ¬ s.heap.size ≤ b := Nat.not_le.mpr hbl
  obtain ⟨hn6, hm, hn0, hall⟩ := id hI
  refine lv_iconst (v := nI 0) hx hb dL_law_324 (by decide) ?_
  refine lv_istore (lv' := [(14, .int (nI 0)), (0, .ref b), (1, .ref (ax 0)), (2, .ref (ai 0)), (3, .ref (ai 1)), (4, .ref (ai 2)), (5, .ref (ai 3)), (6, .int (nI n)), (7, .int (nI 1)), (8, .int (nI i)), (11, .int (nI a)), (12, .int (nI v))]) hx hb dL_law_325 hl (by decide) rfl (fun ls hl => ?_)
  refine W.widen (k := cells + 6 * 0) (n := slots + 36 * 0) (by omega) (by omega) ?_
  refine q_loop (I := fun z : Nat × Nat × (Nat → Int64) × (Nat → Nat → Int64) × (Nat → Nat) => z.1 ≤ 20 ∧ qInv n z.2.1 an z.2.2.1 z.2.2.2.2 f1 f2 f3) (μ := fun z => 21 - z.1) (lv := fun z => [(0, .ref b), (1, .ref (ax 0)), (2, .ref (ai 0)), (3, .ref (ai 1)), (4, .ref (ai 2)), (5, .ref (ai 3)), (6, .int (nI n)), (7, .int (nI 1)), (8, .int (nI i)), (11, .int (nI a)), (12, .int (nI v)), (14, .int (nI z.1))]) (w := fun z => qW cI cJ cO ai iv f1 f2 f3 ax n z.2.1 iv aa an z.2.2.1 z.2.2.2.1) (cs := fun z => cells + 6 * z.1) (ss := fun z => slots + 36 * z.1) (0, mo, kp, py, K) ⟨Nat.zero_le _, hI⟩ (lv_sub hl [1, 2, 3, 4, 5, 6, 7, 8, 9, 10, 11, 0] rfl) hP hD hS ?_
  clear hP hD hS hl hI hn6 hm hn0 hall
  intro ⟨k, mo, kp, py, K⟩ H locs ls hIz hP hD hS hl IH
  have hIz : k ≤ 20 ∧ qInv n mo an kp K f1 f2 f3 := hIz
  obtain ⟨hk20, hI⟩ := hIz
  obtain ⟨hn6, hm, hn0, hall⟩ := id hI
  have hl : lv_has ls 21 [(0, .ref b), (1, .ref (ax 0)), (2, .ref (ai 0)), (3, .ref (ai 1)), (4, .ref (ai 2)), (5, .ref (ai 3)), (6, .int (nI n)), (7, .int (nI 1)), (8, .int (nI i)), (11, .int (nI a)), (12, .int (nI v)), (14, .int (nI k))] := hl
  show W p l e room_1 s m #[Value.ref b] below meth c H locs (cells + 6 * k) (slots + 36 * k) Q (F0 m 327 ls [])
  have hP : va_P (dC, dI) vwCl (qW cI cJ cO ai iv f1 f2 f3 ax n mo iv aa an kp py) H := hP
  have hD : va_D (fun q => s.heap.size ≤ q) (qW cI cJ cO ai iv f1 f2 f3 ax n mo iv aa an kp py) := hD
  refine lv_iload hx hb dL_law_327 (lv_at hl 11 rfl) ?_
  refine lv_iconst (v := nI 1) hx hb dL_law_329 (by decide) ?_
  refine lv_iload hx hb dL_law_330 (lv_at hl 10 rfl) ?_
  refine lv_bipush (v := nI 20) hx hb dL_law_332 (by decide) ?_
  refine lv_irem hx hb dL_law_334 (by decide) ?_
  refine j_i (y := nI (v % 20)) (pk_rem (by omega) (by omega) (by omega)) ?_
  refine lv_iadd hx hb dL_law_335 ?_
  refine j_i (y := nI (1 + v % 20)) (nI_add _ _) ?_
  refine lv_icmp_ge (tgt := 514) hx hb dL_law_336 (by decide) (fun c_336 => ?_) (fun c_336 => ?_)
  · have c_336 : 1 + v % 20 ≤ k := (nI_leI (a := 1 + v % 20) (b := k) (by omega) (by omega)).mp c_336
    refine lv_goto (tgt := 737) hx hb dL_law_514 (by decide) ?_
    exact W.widen (by omega) (by omega) (go n mo iv aa an kp py K f1 f2 f3 a H locs _ hI ha hP hD hS (lv_sub hl [0, 1, 2, 3, 4, 5, 6, 7, 8, 9] rfl))
  · have c_336 : ¬ (1 + v % 20 ≤ k) := fun h => c_336 ((nI_leI (a := 1 + v % 20) (b := k) (by omega) (by omega)).mpr h)
    refine lv_aload_n hx hb dL_law_339 rfl (lv_at hl 1 rfl) ?_
    refine j_cI_ (As := []) (rest := []) ⟨hx, hb, hml, hown, hts⟩ (c_X1_month l dC dI cI cJ cI cO ax n mo) (cwV 0 hts gL_law_X1_month rfl rfl rfl (by decide +kernel) ⟨Nat.le_of_ble_eq_true rfl, Nat.le_of_ble_eq_true rfl⟩) (jR_V hK hP [4] rfl (ci := 1) (q0 := 4) rfl rfl rfl) rfl hl rfl (Nat.le_of_ble_eq_true rfl) dL_law_340 (show cells + 6 * k ≤ 863873 ∧ slots + 36 * k ≤ 6509848 from ⟨by omega, by omega⟩) (fun r_340 hr_340 => ?_)
    subst hr_340
    refine lv_sipush (v := nI 240) hx hb dL_law_343 (by decide) ?_
    refine lv_icmp_ge (tgt := 514) hx hb dL_law_346 (by decide) (fun c_346 => ?_) (fun c_346 => ?_)
    · have c_346 : 240 ≤ mo := (nI_leI (a := 240) (b := mo) (by omega) (by omega)).mp c_346
      refine lv_goto (tgt := 737) hx hb dL_law_514 (by decide) ?_
      exact W.widen (by omega) (by omega) (go n mo iv aa an kp py K f1 f2 f3 a H locs _ hI ha hP hD hS (lv_sub hl [0, 1, 2, 3, 4, 5, 6, 7, 8, 9] rfl))
    · have c_346 : ¬ (240 ≤ mo) := fun h => c_346 ((nI_leI (a := 240) (b := mo) (by omega) (by omega)).mpr h)
      refine lv_iload hx hb dL_law_349 (lv_at hl 7 rfl) ?_
      refine lv_if_eq (tgt := 514) hx hb dL_law_351 (by decide) (fun c_351 => ?_) (fun c_351 => ?_)
      · have c_351 : 1 = 0 := (nI_eq (a := 1) (b := 0) (by omega) (by omega)).mp c_351
        omega
      · have c_351 : ¬ (1 = 0) := fun h => c_351 ((nI_eq (a := 1) (b := 0) (by omega) (by omega)).mpr h)
        have hmo : mo < 240 := by omega
        refine lv_aload_n hx hb dL_law_354 rfl (lv_at hl 1 rfl) ?_
        refine j_cI_ (As := []) (rest := []) ⟨hx, hb, hml, hown, hts⟩ (c_X1_month l dC dI cI cJ cI cO ax n mo) (cwV 0 hts gL_law_X1_month rfl rfl rfl (by decide +kernel) ⟨Nat.le_of_ble_eq_true rfl, Nat.le_of_ble_eq_true rfl⟩) (jR_V hK hP [4] rfl (ci := 1) (q0 := 4) rfl rfl rfl) rfl hl rfl (Nat.le_of_ble_eq_true rfl) dL_law_355 (show cells + 6 * k ≤ 863873 ∧ slots + 36 * k ≤ 6509848 from ⟨by omega, by omega⟩) (fun r_355 hr_355 => ?_)
        subst hr_355
        refine lv_istore (lv' := [(15, .int (nI mo)), (0, .ref b), (1, .ref (ax 0)), (2, .ref (ai 0)), (3, .ref (ai 1)), (4, .ref (ai 2)), (5, .ref (ai 3)), (6, .int (nI n)), (7, .int (nI 1)), (8, .int (nI i)), (11, .int (nI a)), (12, .int (nI v)), (14, .int (nI k))]) hx hb dL_law_358 hl (by decide) rfl (fun ls hl => ?_)
        refine lv_aload_n hx hb dL_law_360 rfl (lv_at hl 2 rfl) ?_
        refine j_lL (As := [.ref (ax 0)]) (rest := []) ⟨hx, hb, hml, hown, hts⟩ (c_L_run l dC dI cI cJ cI cO ax n mo iv aa an kp py (fun k hk => qInv_v hI hk) (by omega) hmo) (vx_cwSW 1 hts gL_law_L_run rfl rfl rfl (by decide +kernel) ⟨Nat.le_of_ble_eq_true rfl, Nat.le_of_ble_eq_true rfl⟩) hK (j_subP hP q_sD) (j_subD hD q_sD) rfl hl rfl (Nat.le_of_ble_eq_true rfl) dL_law_361 (show cells + 6 * k ≤ 863873 ∧ slots + 36 * k ≤ 6509848 from ⟨by omega, by omega⟩) hS (j_subA hD q_sD) (fun H1 locs hP1 hk1 hS => ?_)
        obtain ⟨hP, hD⟩ := q_putD hP hD hk1 hP1
        clear hP1 hk1
        generalize H1 = H at hP hS ⊢
        have hI2 := qInv_R (iv := iv) hI hmo (by omega)
        obtain ⟨zz, hzz⟩ : ∃ zz : Nat → Nat, zz = qZ an iv mo K := ⟨_, rfl⟩
        have hz1 : ∀ j, j < n → jZ an iv mo kp j = lN (zz j) := fun j hj => by rw [hzz]; exact qZ_of hI hmo hj
        have hz2 : ∀ j, j < n → zz j ≤ 778000000 := fun j hj => by have h9 := jU_le (qInv_v hI hj) iv (e := mo + 1) (by omega); rw [hzz]; show jU (an j) iv (mo + 1) - K j ≤ _; omega
        rw [← hzz] at hI2
        generalize hkq : (fun j => kp j + jZ an iv mo kp j) = kp2 at hP hD hI2
        generalize hpq : (fun j => vp_updL (py j) mo (jZ an iv mo kp j)) = py2 at hP hD
        generalize hKq : (fun j => K j + zz j) = K2 at hI2
        have hp2 : ∀ j, j < n → py2 j mo = lN (zz j) := fun j hj => by rw [← hpq]; exact pk_uLs.trans (hz1 j hj)
        have hU2 : ∀ j, j < n → jU (an j) iv (mo + 1) ≤ K2 j := fun j hj => by rw [← hKq, hzz]; show _ ≤ K j + (jU (an j) iv (mo + 1) - K j); omega
        have hU3 : ∀ j, j < n → zz j ≠ 0 → K2 j = jU (an j) iv (mo + 1) := fun j hj h => by rw [hzz] at h; rw [← hKq, hzz]; have h : jU (an j) iv (mo + 1) - K j ≠ 0 := h; show K j + (jU (an j) iv (mo + 1) - K j) = _; omega
        have hm : mo + 1 ≤ 240 := hI2.2.1
        refine j_l (y := jSum (fun j => lN (zz j)) n - jSum (fun j => lN (zz j)) 0) ((q_sum hz1).trans (Int64.sub_zero _).symm) ?_
        have hP : va_P (dC, dI) vwCl (qW cI cJ cO ai iv f1 f2 f3 ax n (mo + 1) iv aa an kp2 py2) H := hP
        have hD : va_D (fun q => s.heap.size ≤ q) (qW cI cJ cO ai iv f1 f2 f3 ax n (mo + 1) iv aa an kp2 py2) := hD
        refine lv_lstore (lv' := [(16, .long (jSum (fun j => lN (zz j)) n - jSum (fun j => lN (zz j)) 0)), (15, .int (nI mo)), (0, .ref b), (1, .ref (ax 0)), (2, .ref (ai 0)), (3, .ref (ai 1)), (4, .ref (ai 2)), (5, .ref (ai 3)), (6, .int (nI n)), (7, .int (nI 1)), (8, .int (nI i)), (11, .int (nI a)), (12, .int (nI v)), (14, .int (nI k))]) hx hb dL_law_364 hl (by decide) rfl (fun ls hl => ?_)
        refine lv_iconst (v := nI 0) hx hb dL_law_366 (by decide) ?_
        refine lv_istore (lv' := [(18, .int (nI 0)), (16, .long (jSum (fun j => lN (zz j)) n - jSum (fun j => lN (zz j)) 0)), (15, .int (nI mo)), (0, .ref b), (1, .ref (ax 0)), (2, .ref (ai 0)), (3, .ref (ai 1)), (4, .ref (ai 2)), (5, .ref (ai 3)), (6, .int (nI n)), (7, .int (nI 1)), (8, .int (nI i)), (11, .int (nI a)), (12, .int (nI v)), (14, .int (nI k))]) hx hb dL_law_367 hl (by decide) rfl (fun ls hl => ?_)
        refine W.widen (k := cells + 6 * k + 0) (n := slots + 36 * k + 6 * 0) (by omega) (by omega) ?_
        refine q_loop (I := fun j : Nat => j ≤ n) (μ := fun j => n - j) (lv := fun j => [(0, .ref b), (1, .ref (ax 0)), (2, .ref (ai 0)), (3, .ref (ai 1)), (4, .ref (ai 2)), (5, .ref (ai 3)), (6, .int (nI n)), (7, .int (nI 1)), (8, .int (nI i)), (11, .int (nI a)), (12, .int (nI v)), (14, .int (nI k)), (15, .int (nI mo)), (16, .long (jSum (fun j => lN (zz j)) n - jSum (fun j => lN (zz j)) j)), (18, .int (nI j))]) (w := fun _ => (qW cI cJ cO ai iv f1 f2 f3 ax n (mo + 1) iv aa an kp2 py2)) (cs := fun j => cells + 6 * k + j) (ss := fun j => slots + 36 * k + 6 * j) 0 (Nat.zero_le _) (lv_sub hl [3, 4, 5, 6, 7, 8, 9, 10, 11, 12, 13, 14, 2, 1, 0] rfl) hP hD hS ?_
        clear hP hD hS hl
        intro j H locs ls hjn hP hD hS hl IH2
        have hjn : j ≤ n := hjn
        have hl : lv_has ls 21 [(0, .ref b), (1, .ref (ax 0)), (2, .ref (ai 0)), (3, .ref (ai 1)), (4, .ref (ai 2)), (5, .ref (ai 3)), (6, .int (nI n)), (7, .int (nI 1)), (8, .int (nI i)), (11, .int (nI a)), (12, .int (nI v)), (14, .int (nI k)), (15, .int (nI mo)), (16, .long (jSum (fun j => lN (zz j)) n - jSum (fun j => lN (zz j)) j)), (18, .int (nI j))] := hl
        show W p l e room_1 s m #[Value.ref b] below meth c H locs (cells + 6 * k + j) (slots + 36 * k + 6 * j) Q (F0 m 369 ls [])
        have hP : va_P (dC, dI) vwCl (qW cI cJ cO ai iv f1 f2 f3 ax n (mo + 1) iv aa an kp2 py2) H := hP
        have hD : va_D (fun q => s.heap.size ≤ q) (qW cI cJ cO ai iv f1 f2 f3 ax n (mo + 1) iv aa an kp2 py2) := hD
        refine lv_iload hx hb dL_law_369 (lv_at hl 14 rfl) ?_
        refine lv_iload hx hb dL_law_371 (lv_at hl 6 rfl) ?_
        refine lv_icmp_ge (tgt := 478) hx hb dL_law_373 (by decide) (fun c_373 => ?_) (fun c_373 => ?_)
        · have c_373 : n ≤ j := (nI_leI (a := n) (b := j) (by omega) (by omega)).mp c_373
          have hjn : j = n := by omega
          refine lv_iload hx hb dL_law_478 (lv_at hl 7 rfl) ?_
          refine lv_if_eq (tgt := 505) hx hb dL_law_480 (by decide) (fun c_480 => ?_) (fun c_480 => ?_)
          · have c_480 : 1 = 0 := (nI_eq (a := 1) (b := 0) (by omega) (by omega)).mp c_480
            omega
          · have c_480 : ¬ (1 = 0) := fun h => c_480 ((nI_eq (a := 1) (b := 0) (by omega) (by omega)).mpr h)
            refine lv_lload hx hb dL_law_483 (lv_at hl 13 rfl) ?_
            refine j_l (y := lN 0) (by rw [hjn]; exact Int64.sub_self _) ?_
            refine lv_lconst (v := lN 0) hx hb dL_law_485 (by decide) ?_
            refine W.lcmp hx hb dL_law_486 ?_
            refine lv_if_ne (tgt := 505) hx hb dL_law_487 (by decide) (fun c_487 => ?_) (fun c_487 => ?_)
            · exact absurd (jcmp0 _) c_487
            · refine lv_aload_n hx hb dL_law_490 rfl (lv_at hl 1 rfl) ?_
              refine j_cI_ (As := []) (rest := []) ⟨hx, hb, hml, hown, hts⟩ (c_X1_month l dC dI cI cJ cI cO ax n (mo + 1)) (cwV 0 hts gL_law_X1_month rfl rfl rfl (by decide +kernel) ⟨Nat.le_of_ble_eq_true rfl, Nat.le_of_ble_eq_true rfl⟩) (jR_V hK hP [4] rfl (ci := 1) (q0 := 4) rfl rfl rfl) rfl hl rfl (Nat.le_of_ble_eq_true rfl) dL_law_491 (show cells + 6 * k + j ≤ 863873 ∧ slots + 36 * k + 6 * j ≤ 6509848 from ⟨by omega, by omega⟩) (fun r_491 hr_491 => ?_)
              subst hr_491
              refine lv_iload hx hb dL_law_494 (lv_at hl 12 rfl) ?_
              refine lv_iconst (v := nI 1) hx hb dL_law_496 (by decide) ?_
              refine lv_iadd hx hb dL_law_497 ?_
              refine j_i (y := nI (mo + 1)) (nI_add _ _) ?_
              refine lv_icmp_ne (tgt := 505) hx hb dL_law_498 (by decide) (fun c_498 => ?_) (fun c_498 => ?_)
              · exact absurd rfl c_498
              · refine lv_iconst (v := nI 1) hx hb dL_law_501 (by decide) ?_
                refine lv_goto (tgt := 506) hx hb dL_law_502 (by decide) ?_
                refine lv_istore (lv' := [(7, .int (nI 1)), (0, .ref b), (1, .ref (ax 0)), (2, .ref (ai 0)), (3, .ref (ai 1)), (4, .ref (ai 2)), (5, .ref (ai 3)), (6, .int (nI n)), (8, .int (nI i)), (11, .int (nI a)), (12, .int (nI v)), (14, .int (nI k)), (15, .int (nI mo)), (16, .long (jSum (fun j => lN (zz j)) n - jSum (fun j => lN (zz j)) j)), (18, .int (nI j))]) hx hb dL_law_506 hl (by decide) rfl (fun ls hl => ?_)
                refine lv_iinc (v := nI (k + 1)) (lv' := [(14, .int (nI (k + 1))), (7, .int (nI 1)), (0, .ref b), (1, .ref (ax 0)), (2, .ref (ai 0)), (3, .ref (ai 1)), (4, .ref (ai 2)), (5, .ref (ai 3)), (6, .int (nI n)), (8, .int (nI i)), (11, .int (nI a)), (12, .int (nI v)), (15, .int (nI mo)), (16, .long (jSum (fun j => lN (zz j)) n - jSum (fun j => lN (zz j)) j)), (18, .int (nI j))]) hx hb dL_law_508 hl (k := 11) rfl (by exact nI_add _ 1) (by decide) rfl (fun ls hl => ?_)
                refine lv_goto (tgt := 327) hx hb dL_law_511 (by decide) ?_
                exact W.widen (by omega) (by omega) (IH (k + 1, mo + 1, kp2, py2, K2) H locs _ (show k + 1 ≤ 20 ∧ qInv n (mo + 1) an kp2 K2 f1 f2 f3 from ⟨by omega, hI2⟩) (show 21 - (k + 1) < 21 - k by omega) hP hD hS (lv_sub hl [2, 3, 4, 5, 6, 7, 8, 1, 9, 10, 11, 0] rfl))
        · have c_373 : ¬ (n ≤ j) := fun h => c_373 ((nI_leI (a := n) (b := j) (by omega) (by omega)).mpr h)
          refine lv_iload hx hb dL_law_376 (lv_at hl 7 rfl) ?_
          refine lv_if_eq (tgt := 478) hx hb dL_law_378 (by decide) (fun c_378 => ?_) (fun c_378 => ?_)
          · have c_378 : 1 = 0 := (nI_eq (a := 1) (b := 0) (by omega) (by omega)).mp c_378
            omega
          · have c_378 : ¬ (1 = 0) := fun h => c_378 ((nI_eq (a := 1) (b := 0) (by omega) (by omega)).mpr h)
            have hj : j < n := by omega
            have hzj := hz2 j hj
            have hKj := qInv_K hI2 hj
            have hUj := hU2 j hj
            refine lv_aload_n hx hb dL_law_381 rfl (lv_at hl 1 rfl) ?_
            refine lv_iload hx hb dL_law_382 (lv_at hl 14 rfl) ?_
            refine lv_iload hx hb dL_law_384 (lv_at hl 12 rfl) ?_
            refine q_rL (As := [.ref (ax 0), .int (nI j), .int (nI mo)]) (rest := []) ⟨hx, hb, hml, hown, hts⟩ (c_L_paid l dC dI cI cJ cI cO ax (jao aa n) n (mo + 1) iv (aa j) (an j) (kp2 j) (py2 j) j mo (qInv_v hI2 hj) hm (by omega) (if_pos hj) (by omega)) (vx_cwSW 3 hts gL_law_L_paid rfl rfl rfl (by decide +kernel) ⟨Nat.le_of_ble_eq_true rfl, Nat.le_of_ble_eq_true rfl⟩) hK (j_subP hP (q_sF hj)) rfl hl rfl (Nat.le_of_ble_eq_true rfl) dL_law_386 (show cells + 6 * k + j ≤ 863873 ∧ slots + 36 * k + 6 * j ≤ 6509848 from ⟨by omega, by omega⟩) ?_
            refine j_l (y := lN (zz j)) (hp2 j hj) ?_
            refine lv_lstore (lv' := [(19, .long (lN (zz j))), (0, .ref b), (1, .ref (ax 0)), (2, .ref (ai 0)), (3, .ref (ai 1)), (4, .ref (ai 2)), (5, .ref (ai 3)), (6, .int (nI n)), (7, .int (nI 1)), (8, .int (nI i)), (11, .int (nI a)), (12, .int (nI v)), (14, .int (nI k)), (15, .int (nI mo)), (16, .long (jSum (fun j => lN (zz j)) n - jSum (fun j => lN (zz j)) j)), (18, .int (nI j))]) hx hb dL_law_389 hl (by decide) rfl (fun ls hl => ?_)
            refine lv_lload hx hb dL_law_391 (lv_at hl 14 rfl) ?_
            refine lv_lload hx hb dL_law_393 (lv_at hl 0 rfl) ?_
            refine lv_lsub hx hb dL_law_395 ?_
            refine j_l (y := jSum (fun j => lN (zz j)) n - jSum (fun j => lN (zz j)) (j + 1)) ((jl_3 _ _ _).symm) ?_
            refine lv_lstore (lv' := [(16, .long (jSum (fun j => lN (zz j)) n - jSum (fun j => lN (zz j)) (j + 1))), (19, .long (lN (zz j))), (0, .ref b), (1, .ref (ax 0)), (2, .ref (ai 0)), (3, .ref (ai 1)), (4, .ref (ai 2)), (5, .ref (ai 3)), (6, .int (nI n)), (7, .int (nI 1)), (8, .int (nI i)), (11, .int (nI a)), (12, .int (nI v)), (14, .int (nI k)), (15, .int (nI mo)), (18, .int (nI j))]) hx hb dL_law_396 hl (by decide) rfl (fun ls hl => ?_)
            refine lv_lload hx hb dL_law_398 (lv_at hl 1 rfl) ?_
            refine lv_lconst (v := lN 0) hx hb dL_law_400 (by decide) ?_
            refine W.lcmp hx hb dL_law_401 ?_
            refine lv_if_lt (tgt := 469) hx hb dL_law_402 (by decide) (fun c_402 => ?_) (fun c_402 => ?_)
            · exact (q_nlt (Nat.zero_le _) (by omega) c_402).elim
            · refine lv_aload_n hx hb dL_law_405 rfl (lv_at hl 3 rfl) ?_
              refine lv_iload hx hb dL_law_406 (lv_at hl 15 rfl) ?_
              refine q_rL (As := [.ref (ax 0), .int (nI j)]) (rest := []) ⟨hx, hb, hml, hown, hts⟩ (c_L_paidAll l dC dI cI cJ cI cO ax (jao aa n) n (mo + 1) iv (aa j) (an j) (kp2 j) (py2 j) j (qInv_v hI2 hj) hm (by omega) (if_pos hj) ) (vx_cwSW 2 hts gL_law_L_paidAll rfl rfl rfl (by decide +kernel) ⟨Nat.le_of_ble_eq_true rfl, Nat.le_of_ble_eq_true rfl⟩) hK (j_subP hP (q_sF hj)) rfl hl rfl (Nat.le_of_ble_eq_true rfl) dL_law_408 (show cells + 6 * k + j ≤ 863873 ∧ slots + 36 * k + 6 * j ≤ 6509848 from ⟨by omega, by omega⟩) ?_
              refine j_l (y := lN (K2 j)) (qInv_k hI2 hj) ?_
              refine lv_aload_n hx hb dL_law_411 rfl (lv_at hl 3 rfl) ?_
              refine lv_iload hx hb dL_law_412 (lv_at hl 15 rfl) ?_
              refine lv_iload hx hb dL_law_414 (lv_at hl 14 rfl) ?_
              refine q_rL (As := [.ref (ax 0), .int (nI j), .int (nI mo)]) (rest := [.long (lN (K2 j))]) ⟨hx, hb, hml, hown, hts⟩ (c_L_upTo l dC dI cI cJ cI cO ax (jao aa n) n (mo + 1) iv (aa j) (an j) (kp2 j) (py2 j) j mo (qInv_v hI2 hj) hm (by omega) (if_pos hj) (by omega)) (vx_cwSW 3 hts gL_law_L_upTo rfl rfl rfl (by decide +kernel) ⟨Nat.le_of_ble_eq_true rfl, Nat.le_of_ble_eq_true rfl⟩) hK (j_subP hP (q_sF hj)) rfl hl rfl (Nat.le_of_ble_eq_true rfl) dL_law_416 (show cells + 6 * k + j ≤ 863873 ∧ slots + 36 * k + 6 * j ≤ 6509848 from ⟨by omega, by omega⟩) ?_
              refine W.lcmp hx hb dL_law_419 ?_
              refine lv_if_lt (tgt := 469) hx hb dL_law_420 (by decide) (fun c_420 => ?_) (fun c_420 => ?_)
              · exact (q_nlt hUj (by omega) c_420).elim
              · refine lv_lload hx hb dL_law_423 (lv_at hl 1 rfl) ?_
                refine lv_lconst (v := lN 0) hx hb dL_law_425 (by decide) ?_
                refine W.lcmp hx hb dL_law_426 ?_
                refine j_join (fun u9 : Unit => True) (fun u9 => F0 m 448 ls []) (fun u9 hu9 => ?_) (fun J448 => ?_)
                · refine lv_aload_n hx hb dL_law_448 rfl (lv_at hl 3 rfl) ?_
                  refine lv_iload hx hb dL_law_449 (lv_at hl 15 rfl) ?_
                  refine lv_iload hx hb dL_law_451 (lv_at hl 14 rfl) ?_
                  refine lv_iconst (v := nI 1) hx hb dL_law_453 (by decide) ?_
                  refine lv_iadd hx hb dL_law_454 ?_
                  refine j_i (y := nI (mo + 1)) (nI_add _ _) ?_
                  have hX9 : jX (fun _ => False) s H := jX.narrow (jX.kept hZ (fun a h1 h2 => hS.2.1 a h1 h2)) (fun _ h => h.elim)
                  refine q_xL (As := [.ref (ax 0), .int (nI j), .int (nI (mo + 1))]) (rest := []) ⟨hx, hb, hml, hown, hts⟩ (x2_L_paid l dC dI cI cJ cI cO ax (jao aa n) n (mo + 1) iv (aa j) (an j) (kp2 j) (py2 j) j (nI (mo + 1)) hst (qInv_v hI2 hj) hm (by omega) (if_pos hj) (Or.inr (by rw [pk_sub (by omega), nI_ltI (by omega) (by omega)]; omega))) (vx_cwSW 3 hts gL_law_L_paid rfl rfl rfl (by decide +kernel) ⟨Nat.le_of_ble_eq_true rfl, Nat.le_of_ble_eq_true rfl⟩) hX9 hK (j_subP hP (q_sF hj)) rfl hl rfl (Nat.le_of_ble_eq_true rfl) dL_law_455 (show cells + 6 * k + j + 1 ≤ 863873 ∧ slots + 36 * k + 6 * j + 6 ≤ 6509848 from ⟨by omega, by omega⟩) hS (fun H1 locs _ hk1 hS => ?_)
                  have hP := j_keep hP hk1
                  clear hk1 hX9
                  generalize H1 = H at hP hS ⊢
                  refine lv_ldc2 hx hb hown (hts (.constantLong RL 55 (-102)) (List.mem_of_getElem? (i := 7) rfl)) dL_law_458 ?_
                  refine W.lcmp hx hb dL_law_461 ?_
                  refine lv_if_ne (tgt := 469) hx hb dL_law_462 (by decide) (fun c_462 => ?_) (fun c_462 => ?_)
                  · exact absurd (jcmp0 _) c_462
                  · refine lv_iconst (v := nI 1) hx hb dL_law_465 (by decide) ?_
                    refine lv_goto (tgt := 470) hx hb dL_law_466 (by decide) ?_
                    refine lv_istore (lv' := [(7, .int (nI 1)), (16, .long (jSum (fun j => lN (zz j)) n - jSum (fun j => lN (zz j)) (j + 1))), (19, .long (lN (zz j))), (0, .ref b), (1, .ref (ax 0)), (2, .ref (ai 0)), (3, .ref (ai 1)), (4, .ref (ai 2)), (5, .ref (ai 3)), (6, .int (nI n)), (8, .int (nI i)), (11, .int (nI a)), (12, .int (nI v)), (14, .int (nI k)), (15, .int (nI mo)), (18, .int (nI j))]) hx hb dL_law_470 hl (by decide) rfl (fun ls hl => ?_)
                    refine lv_iinc (v := nI (j + 1)) (lv' := [(18, .int (nI (j + 1))), (7, .int (nI 1)), (16, .long (jSum (fun j => lN (zz j)) n - jSum (fun j => lN (zz j)) (j + 1))), (19, .long (lN (zz j))), (0, .ref b), (1, .ref (ax 0)), (2, .ref (ai 0)), (3, .ref (ai 1)), (4, .ref (ai 2)), (5, .ref (ai 3)), (6, .int (nI n)), (8, .int (nI i)), (11, .int (nI a)), (12, .int (nI v)), (14, .int (nI k)), (15, .int (nI mo))]) hx hb dL_law_472 hl (k := 15) rfl (by exact nI_add _ 1) (by decide) rfl (fun ls hl => ?_)
                    refine lv_goto (tgt := 369) hx hb dL_law_475 (by decide) ?_
                    exact W.widen (by omega) (by omega) (IH2 (j + 1) H locs _ (show j + 1 ≤ n by omega) (show n - (j + 1) < n - j by omega) hP hD hS (lv_sub hl [4, 5, 6, 7, 8, 9, 10, 1, 11, 12, 13, 14, 15, 2, 0] rfl))
                refine lv_if_eq (tgt := 448) hx hb dL_law_427 (by decide) (fun c_427 => ?_) (fun c_427 => ?_)
                · exact J448 () trivial
                · refine lv_aload_n hx hb dL_law_430 rfl (lv_at hl 3 rfl) ?_
                  refine lv_iload hx hb dL_law_431 (lv_at hl 15 rfl) ?_
                  refine q_rL (As := [.ref (ax 0), .int (nI j)]) (rest := []) ⟨hx, hb, hml, hown, hts⟩ (c_L_paidAll l dC dI cI cJ cI cO ax (jao aa n) n (mo + 1) iv (aa j) (an j) (kp2 j) (py2 j) j (qInv_v hI2 hj) hm (by omega) (if_pos hj) ) (vx_cwSW 2 hts gL_law_L_paidAll rfl rfl rfl (by decide +kernel) ⟨Nat.le_of_ble_eq_true rfl, Nat.le_of_ble_eq_true rfl⟩) hK (j_subP hP (q_sF hj)) rfl hl rfl (Nat.le_of_ble_eq_true rfl) dL_law_433 (show cells + 6 * k + j ≤ 863873 ∧ slots + 36 * k + 6 * j ≤ 6509848 from ⟨by omega, by omega⟩) ?_
                  refine j_l (y := lN (K2 j)) (qInv_k hI2 hj) ?_
                  refine lv_aload_n hx hb dL_law_436 rfl (lv_at hl 3 rfl) ?_
                  refine lv_iload hx hb dL_law_437 (lv_at hl 15 rfl) ?_
                  refine lv_iload hx hb dL_law_439 (lv_at hl 14 rfl) ?_
                  refine q_rL (As := [.ref (ax 0), .int (nI j), .int (nI mo)]) (rest := [.long (lN (K2 j))]) ⟨hx, hb, hml, hown, hts⟩ (c_L_upTo l dC dI cI cJ cI cO ax (jao aa n) n (mo + 1) iv (aa j) (an j) (kp2 j) (py2 j) j mo (qInv_v hI2 hj) hm (by omega) (if_pos hj) (by omega)) (vx_cwSW 3 hts gL_law_L_upTo rfl rfl rfl (by decide +kernel) ⟨Nat.le_of_ble_eq_true rfl, Nat.le_of_ble_eq_true rfl⟩) hK (j_subP hP (q_sF hj)) rfl hl rfl (Nat.le_of_ble_eq_true rfl) dL_law_441 (show cells + 6 * k + j ≤ 863873 ∧ slots + 36 * k + 6 * j ≤ 6509848 from ⟨by omega, by omega⟩) ?_
                  refine W.lcmp hx hb dL_law_444 ?_
                  refine lv_if_ne (tgt := 469) hx hb dL_law_445 (by decide) (fun c_445 => ?_) (fun c_445 => ?_)
                  · exact absurd ((q_neq (by omega) (by omega)).mpr (hU3 j hj (fun h => c_427 ((q_neq (by omega) (by decide)).mpr h)))) c_445
                  · exact J448 () trivial
end QLa
