/-! the rounds, case by case -/
section JLR
variable {p : Program} {l : Launch} {e : Env} {s : State} {m : MethodId} {below : List Frame} {meth : Method} {c : Code} {dC : Nat → ClassId} {dI : Nat → Nat → Nat} {cI cJ cZ cO : ClassId} {b L : Nat} {xs : Nat → Int32} {oa : Nat} {ax ad : Nat → Nat} {Q : State → Prop} {i cells slots n mo : Nat} {iv : Nat → Int32} {aa an : Nat → Nat → Nat} {kp T B : Nat → Int64} {py : Nat → Nat → Int64} {ov : Nat → Int64} {fu cy th : Int32} {H : Heap} {locs : List Loc} {ls : Array Slot}
set_option maxHeartbeats 4000000 in
set_option maxRecDepth 100000 in
theorem lw_giveBack_c (h9 : jRd p l e s m below meth c dC dI cI cJ cZ cO b L xs oa ax ad Q i cells slots n mo iv aa an kp T B py ov fu cy th H locs ls) (k : Nat) (v : Nat) (hk : k < n) (h1 : 1 ≤ v) (h2 : v ≤ 100000000) (ho : ¬ jmx (T k - B k - lN (jU (an k) iv mo)) < lN v) (e1 : xs (i + 1) = nI k) (e2 : xs (i + 2) = nI v) : W p l e room_1 s m #[Value.ref b] below meth c H locs cells slots Q (F0 m 640 ls []) := by
  obtain ⟨⟨hx, hb, hml, hown, hts, hX, hbl, hst, hZ, hK⟩, hI, hP, hD, hS, hl, hrm, hi9, hL, go⟩ := id h9
  have hA9 := h9.1
  obtain ⟨hn, hm, hv, hkp, hfr⟩ := id hI
  have hbA : ¬ s.heap.size ≤ b := Nat.not_le.mpr hbl
  have hf0 : cells ≤ 601024 ∧ slots ≤ 7293034 := ⟨by omega, by omega⟩
  refine lv_aload_n hx hb dL_law_640 rfl (lv_at hl 1 rfl) ?_
  refine j_arg (v := nI k) hx hb hX hbl hbA hS (lv_at hl 0 rfl) (lv_at hl 4 rfl) 1 rfl (by omega) hL e1 dL_law_641 dL_law_642 dL_law_644 dL_law_645 dL_law_646 ?_
  refine j_arg (v := nI v) hx hb hX hbl hbA hS (lv_at hl 0 rfl) (lv_at hl 4 rfl) 2 rfl (by omega) hL e2 dL_law_647 dL_law_648 dL_law_650 dL_law_651 dL_law_652 ?_
  refine lv_aload_n hx hb dL_law_653 rfl (lv_at hl 3 rfl) ?_
  refine j_lI (As := [.ref (ax 0), .int (nI k), .int (nI v), .ref oa]) (rest := []) ⟨hx, hb, hml, hown, hts⟩ (c_L_giveBack l dC dI cI cJ cZ cO oa ov ax (jao aa n) n mo iv (aa k) (an k) (kp k) (py k) k v (hv k hk) hm (by omega) (if_pos hk) h1 h2 (by rw [hkp k hk]; exact ho)) (vx_cwSW 4 hts gL_law_L_giveBack rfl rfl rfl (by decide +kernel) ⟨Nat.le_of_ble_eq_true rfl, Nat.le_of_ble_eq_true rfl⟩) hK (j_subP hP (jl_sB hk)) (j_subD hD (jl_sB hk)) rfl hl rfl (Nat.le_of_ble_eq_true rfl) dL_law_654 hf0 hS (j_subA hD (jl_sB hk)) (fun H1 locs hP1 hk1 hS => ?_)
  obtain ⟨hP, hD⟩ := jl_putK hk hP hD hk1 hP1
  clear hP1 hk1
  refine lv_istore (lv' := [(5, .int (nI 0)), (0, .ref b), (1, .ref (ax 0)), (2, .ref (ad 0)), (3, .ref oa), (4, .int (nI i))]) hx hb dL_law_657 hl (by decide) rfl (fun ls hl => ?_)
  refine lv_aload_n hx hb dL_law_659 rfl (lv_at hl 3 rfl) ?_
  refine j_arg (v := nI k) hx hb hX hbl hbA hS (lv_at hl 1 rfl) (lv_at hl 5 rfl) 1 rfl (by omega) hL e1 dL_law_660 dL_law_661 dL_law_663 dL_law_664 dL_law_665 ?_
  refine j_arg (v := nI v) hx hb hX hbl hbA hS (lv_at hl 1 rfl) (lv_at hl 5 rfl) 2 rfl (by omega) hL e2 dL_law_666 dL_law_667 dL_law_669 dL_law_670 dL_law_671 ?_
  refine j_mL (As := [.int (nI k), .int (nI v)]) (rest := []) ⟨hx, hb, hml, hown, hts⟩ (c_X2_giveBack l dC dI cI cJ cZ cO ad n mo iv an T B py fu cy th k v hn hm hv hk h1 h2 ho) (cwV 2 hts gL_law_X2_giveBack rfl rfl rfl (by decide +kernel) ⟨Nat.le_of_ble_eq_true rfl, Nat.le_of_ble_eq_true rfl⟩) hK hP hD rfl (jMW_adr _ _ _ _ _ _ _ _ _ _ _ _ _ _) (fun _ => jMW_adr _ _ _ _ _ _ _ _ _ _ _ _ _ _) rfl hl rfl (Nat.le_of_ble_eq_true rfl) dL_law_672 hf0 hS (fun r u H locs hr hP hD hS => ?_)
  subst hr
  refine lv_lstore (lv' := [(6, .long (jmx (T k - (vp_updL B k (B k + lN v)) k - lN (jU (an k) iv mo)))), (5, .int (nI 0)), (0, .ref b), (1, .ref (ax 0)), (2, .ref (ad 0)), (3, .ref oa), (4, .int (nI i))]) hx hb dL_law_675 hl (by decide) rfl (fun ls hl => ?_)
  have hI2 := jInv_K (x := lN v) hI hk
  exact jt_L hA9 hP hl (lv_at hl 4 rfl) (lv_at hl 5 rfl) (lv_at hl 1 rfl) (lv_at hl 0 rfl) (by decide) (fun _ => pk_uLs.trans (by rw [pk_uLs, hkp k hk, jl_3, jl_4 (T k - B k), jq_give h1 h2 ho])) hf0 dL_law_677 dL_law_678 dL_law_681 dL_law_683 dL_law_688 dL_law_690 dL_law_693 dL_law_694 dL_law_695 dL_law_696 dL_law_698 dL_law_699 dL_law_704 (by decide) (W.widen (by omega) (by omega) (go _ _ _ _ _ _ _ _ _ _ _ _ _ _ _ _ hI2 hP hD hS (lv_sub hl [2, 3, 4, 5, 6] rfl)))
set_option maxHeartbeats 4000000 in
set_option maxRecDepth 100000 in
theorem lw_giveBack_x1 (h9 : jRd p l e s m below meth c dC dI cI cJ cZ cO b L xs oa ax ad Q i cells slots n mo iv aa an kp T B py ov fu cy th H locs ls) (p0 : Int32) (p1 : Int32) (hb0 : ¬ vp_in p0 n) (e1 : xs (i + 1) = p0) (e2 : xs (i + 2) = p1) : W p l e room_1 s m #[Value.ref b] below meth c H locs cells slots Q (F0 m 640 ls []) := by
  obtain ⟨⟨hx, hb, hml, hown, hts, hX, hbl, hst, hZ, hK⟩, hI, hP, hD, hS, hl, hrm, hi9, hL, go⟩ := id h9
  have hA9 := h9.1
  obtain ⟨hn, hm, hv, hkp, hfr⟩ := id hI
  have hbA : ¬ s.heap.size ≤ b := Nat.not_le.mpr hbl
  have hf0 : cells ≤ 601024 ∧ slots ≤ 7293034 := ⟨by omega, by omega⟩
  refine lv_aload_n hx hb dL_law_640 rfl (lv_at hl 1 rfl) ?_
  refine j_arg (v := p0) hx hb hX hbl hbA hS (lv_at hl 0 rfl) (lv_at hl 4 rfl) 1 rfl (by omega) hL e1 dL_law_641 dL_law_642 dL_law_644 dL_law_645 dL_law_646 ?_
  refine j_arg (v := p1) hx hb hX hbl hbA hS (lv_at hl 0 rfl) (lv_at hl 4 rfl) 2 rfl (by omega) hL e2 dL_law_647 dL_law_648 dL_law_650 dL_law_651 dL_law_652 ?_
  refine lv_aload_n hx hb dL_law_653 rfl (lv_at hl 3 rfl) ?_
  have hZ9 : jX (fun _ => False) s H := jX.narrow (jX.kept hZ (fun a h1 h2 => hS.2.1 a h1 h2)) (fun _ h => h.elim)
  have hf1 : cells + 1 ≤ 601024 ∧ slots + 6 ≤ 7293034 := ⟨by omega, by omega⟩
  refine j_lX (As := [.ref (ax 0), .int p0, .int p1, .ref oa]) (rest := []) ⟨hx, hb, hml, hown, hts⟩ (x1_L_giveBack l dC dI cI cJ cZ cO ax (jao aa n) n mo p0 p1 hst hn (fun j hj => if_neg (by omega)) hb0 oa) (vx_cwSW 4 hts gL_law_L_giveBack rfl rfl rfl (by decide +kernel) ⟨Nat.le_of_ble_eq_true rfl, Nat.le_of_ble_eq_true rfl⟩) hZ9 hK (j_subP hP jl_s2) rfl hl rfl (Nat.le_of_ble_eq_true rfl) dL_law_654 hf1 hS (fun H1 locs hk1 hS => ?_)
  have hP := j_keep hP hk1
  clear hZ9 hk1
  refine lv_istore (lv' := [(5, .int (nI 1)), (0, .ref b), (1, .ref (ax 0)), (2, .ref (ad 0)), (3, .ref oa), (4, .int (nI i))]) hx hb dL_law_657 hl (by decide) rfl (fun ls hl => ?_)
  refine lv_aload_n hx hb dL_law_659 rfl (lv_at hl 3 rfl) ?_
  refine j_arg (v := p0) hx hb hX hbl hbA hS (lv_at hl 1 rfl) (lv_at hl 5 rfl) 1 rfl (by omega) hL e1 dL_law_660 dL_law_661 dL_law_663 dL_law_664 dL_law_665 ?_
  refine j_arg (v := p1) hx hb hX hbl hbA hS (lv_at hl 1 rfl) (lv_at hl 5 rfl) 2 rfl (by omega) hL e2 dL_law_666 dL_law_667 dL_law_669 dL_law_670 dL_law_671 ?_
  refine j_mL (As := [.int p0, .int p1]) (rest := []) ⟨hx, hb, hml, hown, hts⟩ (x1_X2_giveBack l dC dI cI cJ cZ cO ad n mo iv an T B py fu cy th p0 p1 hn hm hv hb0) (cwV 2 hts gL_law_X2_giveBack rfl rfl rfl (by decide +kernel) ⟨Nat.le_of_ble_eq_true rfl, Nat.le_of_ble_eq_true rfl⟩) hK hP hD rfl (jMW_adr _ _ _ _ _ _ _ _ _ _ _ _ _ _) (fun _ => jMW_adr _ _ _ _ _ _ _ _ _ _ _ _ _ _) rfl hl rfl (Nat.le_of_ble_eq_true rfl) dL_law_672 hf1 hS (fun r u H locs hr hP hD hS => ?_)
  refine lv_lstore (lv' := [(6, .long r), (5, .int (nI 1)), (0, .ref b), (1, .ref (ax 0)), (2, .ref (ad 0)), (3, .ref oa), (4, .int (nI i))]) hx hb dL_law_675 hl (by decide) rfl (fun ls hl => ?_)
  have hI2 := hI
  exact jt_L hA9 hP hl (lv_at hl 4 rfl) (lv_at hl 5 rfl) (lv_at hl 1 rfl) (lv_at hl 0 rfl) (by decide) (fun h => absurd h (by decide)) hf1 dL_law_677 dL_law_678 dL_law_681 dL_law_683 dL_law_688 dL_law_690 dL_law_693 dL_law_694 dL_law_695 dL_law_696 dL_law_698 dL_law_699 dL_law_704 (by decide) (W.widen (by omega) (by omega) (go _ _ _ _ _ _ _ _ _ _ _ _ _ _ _ _ hI2 hP hD hS (lv_sub hl [2, 3, 4, 5, 6] rfl)))
set_option maxHeartbeats 4000000 in
set_option maxRecDepth 100000 in
theorem lw_giveBack_x2 (h9 : jRd p l e s m below meth c dC dI cI cJ cZ cO b L xs oa ax ad Q i cells slots n mo iv aa an kp T B py ov fu cy th H locs ls) (k : Nat) (p1 : Int32) (hk : k < n) (h : p1 < nI 1 ∨ nI 100000000 < p1) (e1 : xs (i + 1) = nI k) (e2 : xs (i + 2) = p1) : W p l e room_1 s m #[Value.ref b] below meth c H locs cells slots Q (F0 m 640 ls []) := by
  obtain ⟨⟨hx, hb, hml, hown, hts, hX, hbl, hst, hZ, hK⟩, hI, hP, hD, hS, hl, hrm, hi9, hL, go⟩ := id h9
  have hA9 := h9.1
  obtain ⟨hn, hm, hv, hkp, hfr⟩ := id hI
  have hbA : ¬ s.heap.size ≤ b := Nat.not_le.mpr hbl
  have hf0 : cells ≤ 601024 ∧ slots ≤ 7293034 := ⟨by omega, by omega⟩
  refine lv_aload_n hx hb dL_law_640 rfl (lv_at hl 1 rfl) ?_
  refine j_arg (v := nI k) hx hb hX hbl hbA hS (lv_at hl 0 rfl) (lv_at hl 4 rfl) 1 rfl (by omega) hL e1 dL_law_641 dL_law_642 dL_law_644 dL_law_645 dL_law_646 ?_
  refine j_arg (v := p1) hx hb hX hbl hbA hS (lv_at hl 0 rfl) (lv_at hl 4 rfl) 2 rfl (by omega) hL e2 dL_law_647 dL_law_648 dL_law_650 dL_law_651 dL_law_652 ?_
  refine lv_aload_n hx hb dL_law_653 rfl (lv_at hl 3 rfl) ?_
  have hZ9 : jX (fun _ => False) s H := jX.narrow (jX.kept hZ (fun a h1 h2 => hS.2.1 a h1 h2)) (fun _ h => h.elim)
  have hf1 : cells + 1 ≤ 601024 ∧ slots + 6 ≤ 7293034 := ⟨by omega, by omega⟩
  refine j_lX (As := [.ref (ax 0), .int (nI k), .int p1, .ref oa]) (rest := []) ⟨hx, hb, hml, hown, hts⟩ (x2_L_giveBack l dC dI cI cJ cZ cO ax (jao aa n) n mo iv (aa k) (an k) (kp k) (py k) k p1 hst (hv k hk) hm (by omega) (if_pos hk) h oa) (vx_cwSW 4 hts gL_law_L_giveBack rfl rfl rfl (by decide +kernel) ⟨Nat.le_of_ble_eq_true rfl, Nat.le_of_ble_eq_true rfl⟩) hZ9 hK (j_subP hP (jl_s8 hk)) rfl hl rfl (Nat.le_of_ble_eq_true rfl) dL_law_654 hf1 hS (fun H1 locs hk1 hS => ?_)
  have hP := j_keep hP hk1
  clear hZ9 hk1
  refine lv_istore (lv' := [(5, .int (nI 2)), (0, .ref b), (1, .ref (ax 0)), (2, .ref (ad 0)), (3, .ref oa), (4, .int (nI i))]) hx hb dL_law_657 hl (by decide) rfl (fun ls hl => ?_)
  refine lv_aload_n hx hb dL_law_659 rfl (lv_at hl 3 rfl) ?_
  refine j_arg (v := nI k) hx hb hX hbl hbA hS (lv_at hl 1 rfl) (lv_at hl 5 rfl) 1 rfl (by omega) hL e1 dL_law_660 dL_law_661 dL_law_663 dL_law_664 dL_law_665 ?_
  refine j_arg (v := p1) hx hb hX hbl hbA hS (lv_at hl 1 rfl) (lv_at hl 5 rfl) 2 rfl (by omega) hL e2 dL_law_666 dL_law_667 dL_law_669 dL_law_670 dL_law_671 ?_
  refine j_mL (As := [.int (nI k), .int p1]) (rest := []) ⟨hx, hb, hml, hown, hts⟩ (x2_X2_giveBack l dC dI cI cJ cZ cO ad n mo iv an T B py fu cy th k p1 hn hm hv hk h) (cwV 2 hts gL_law_X2_giveBack rfl rfl rfl (by decide +kernel) ⟨Nat.le_of_ble_eq_true rfl, Nat.le_of_ble_eq_true rfl⟩) hK hP hD rfl (jMW_adr _ _ _ _ _ _ _ _ _ _ _ _ _ _) (fun _ => jMW_adr _ _ _ _ _ _ _ _ _ _ _ _ _ _) rfl hl rfl (Nat.le_of_ble_eq_true rfl) dL_law_672 hf1 hS (fun r u H locs hr hP hD hS => ?_)
  refine lv_lstore (lv' := [(6, .long r), (5, .int (nI 2)), (0, .ref b), (1, .ref (ax 0)), (2, .ref (ad 0)), (3, .ref oa), (4, .int (nI i))]) hx hb dL_law_675 hl (by decide) rfl (fun ls hl => ?_)
  have hI2 := hI
  exact jt_L hA9 hP hl (lv_at hl 4 rfl) (lv_at hl 5 rfl) (lv_at hl 1 rfl) (lv_at hl 0 rfl) (by decide) (fun h => absurd h (by decide)) hf1 dL_law_677 dL_law_678 dL_law_681 dL_law_683 dL_law_688 dL_law_690 dL_law_693 dL_law_694 dL_law_695 dL_law_696 dL_law_698 dL_law_699 dL_law_704 (by decide) (W.widen (by omega) (by omega) (go _ _ _ _ _ _ _ _ _ _ _ _ _ _ _ _ hI2 hP hD hS (lv_sub hl [2, 3, 4, 5, 6] rfl)))
set_option maxHeartbeats 4000000 in
set_option maxRecDepth 100000 in
theorem lw_giveBack_x3 (h9 : jRd p l e s m below meth c dC dI cI cJ cZ cO b L xs oa ax ad Q i cells slots n mo iv aa an kp T B py ov fu cy th H locs ls) (k : Nat) (v : Nat) (hk : k < n) (h1 : 1 ≤ v) (h2 : v ≤ 100000000) (ho : jmx (T k - B k - lN (jU (an k) iv mo)) < lN v) (e1 : xs (i + 1) = nI k) (e2 : xs (i + 2) = nI v) : W p l e room_1 s m #[Value.ref b] below meth c H locs cells slots Q (F0 m 640 ls []) := by
  obtain ⟨⟨hx, hb, hml, hown, hts, hX, hbl, hst, hZ, hK⟩, hI, hP, hD, hS, hl, hrm, hi9, hL, go⟩ := id h9
  have hA9 := h9.1
  obtain ⟨hn, hm, hv, hkp, hfr⟩ := id hI
  have hbA : ¬ s.heap.size ≤ b := Nat.not_le.mpr hbl
  have hf0 : cells ≤ 601024 ∧ slots ≤ 7293034 := ⟨by omega, by omega⟩
  refine lv_aload_n hx hb dL_law_640 rfl (lv_at hl 1 rfl) ?_
  refine j_arg (v := nI k) hx hb hX hbl hbA hS (lv_at hl 0 rfl) (lv_at hl 4 rfl) 1 rfl (by omega) hL e1 dL_law_641 dL_law_642 dL_law_644 dL_law_645 dL_law_646 ?_
  refine j_arg (v := nI v) hx hb hX hbl hbA hS (lv_at hl 0 rfl) (lv_at hl 4 rfl) 2 rfl (by omega) hL e2 dL_law_647 dL_law_648 dL_law_650 dL_law_651 dL_law_652 ?_
  refine lv_aload_n hx hb dL_law_653 rfl (lv_at hl 3 rfl) ?_
  have hZ9 : jX (fun _ => False) s H := jX.narrow (jX.kept hZ (fun a h1 h2 => hS.2.1 a h1 h2)) (fun _ h => h.elim)
  have hf1 : cells + 1 ≤ 601024 ∧ slots + 6 ≤ 7293034 := ⟨by omega, by omega⟩
  refine j_lX (As := [.ref (ax 0), .int (nI k), .int (nI v), .ref oa]) (rest := []) ⟨hx, hb, hml, hown, hts⟩ (x3_L_giveBack l dC dI cI cJ cZ cO ax (jao aa n) n mo iv (aa k) (an k) (kp k) (py k) k v hst (hv k hk) hm (by omega) (if_pos hk) h1 h2 (by rw [hkp k hk]; exact ho) oa) (vx_cwSW 4 hts gL_law_L_giveBack rfl rfl rfl (by decide +kernel) ⟨Nat.le_of_ble_eq_true rfl, Nat.le_of_ble_eq_true rfl⟩) hZ9 hK (j_subP hP (jl_s8 hk)) rfl hl rfl (Nat.le_of_ble_eq_true rfl) dL_law_654 hf1 hS (fun H1 locs hk1 hS => ?_)
  have hP := j_keep hP hk1
  clear hZ9 hk1
  refine lv_istore (lv' := [(5, .int (nI 3)), (0, .ref b), (1, .ref (ax 0)), (2, .ref (ad 0)), (3, .ref oa), (4, .int (nI i))]) hx hb dL_law_657 hl (by decide) rfl (fun ls hl => ?_)
  refine lv_aload_n hx hb dL_law_659 rfl (lv_at hl 3 rfl) ?_
  refine j_arg (v := nI k) hx hb hX hbl hbA hS (lv_at hl 1 rfl) (lv_at hl 5 rfl) 1 rfl (by omega) hL e1 dL_law_660 dL_law_661 dL_law_663 dL_law_664 dL_law_665 ?_
  refine j_arg (v := nI v) hx hb hX hbl hbA hS (lv_at hl 1 rfl) (lv_at hl 5 rfl) 2 rfl (by omega) hL e2 dL_law_666 dL_law_667 dL_law_669 dL_law_670 dL_law_671 ?_
  refine j_mL (As := [.int (nI k), .int (nI v)]) (rest := []) ⟨hx, hb, hml, hown, hts⟩ (x3_X2_giveBack l dC dI cI cJ cZ cO ad n mo iv an T B py fu cy th k v hn hm hv hk h1 h2 ho) (cwV 2 hts gL_law_X2_giveBack rfl rfl rfl (by decide +kernel) ⟨Nat.le_of_ble_eq_true rfl, Nat.le_of_ble_eq_true rfl⟩) hK hP hD rfl (jMW_adr _ _ _ _ _ _ _ _ _ _ _ _ _ _) (fun _ => jMW_adr _ _ _ _ _ _ _ _ _ _ _ _ _ _) rfl hl rfl (Nat.le_of_ble_eq_true rfl) dL_law_672 hf1 hS (fun r u H locs hr hP hD hS => ?_)
  refine lv_lstore (lv' := [(6, .long r), (5, .int (nI 3)), (0, .ref b), (1, .ref (ax 0)), (2, .ref (ad 0)), (3, .ref oa), (4, .int (nI i))]) hx hb dL_law_675 hl (by decide) rfl (fun ls hl => ?_)
  have hI2 := hI
  exact jt_L hA9 hP hl (lv_at hl 4 rfl) (lv_at hl 5 rfl) (lv_at hl 1 rfl) (lv_at hl 0 rfl) (by decide) (fun h => absurd h (by decide)) hf1 dL_law_677 dL_law_678 dL_law_681 dL_law_683 dL_law_688 dL_law_690 dL_law_693 dL_law_694 dL_law_695 dL_law_696 dL_law_698 dL_law_699 dL_law_704 (by decide) (W.widen (by omega) (by omega) (go _ _ _ _ _ _ _ _ _ _ _ _ _ _ _ _ hI2 hP hD hS (lv_sub hl [2, 3, 4, 5, 6] rfl)))
set_option maxHeartbeats 4000000 in
set_option maxRecDepth 100000 in
theorem lw_paid_c (h9 : jRd p l e s m below meth c dC dI cI cJ cZ cO b L xs oa ax ad Q i cells slots n mo iv aa an kp T B py ov fu cy th H locs ls) (k : Nat) (v : Nat) (hk : k < n) (hb9 : v < mo) (e1 : xs (i + 1) = nI k) (e2 : xs (i + 2) = nI v) : W p l e room_1 s m #[Value.ref b] below meth c H locs cells slots Q (F0 m 707 ls []) := by
  obtain ⟨⟨hx, hb, hml, hown, hts, hX, hbl, hst, hZ, hK⟩, hI, hP, hD, hS, hl, hrm, hi9, hL, go⟩ := id h9
  have hA9 := h9.1
  obtain ⟨hn, hm, hv, hkp, hfr⟩ := id hI
  have hbA : ¬ s.heap.size ≤ b := Nat.not_le.mpr hbl
  have hf0 : cells ≤ 601024 ∧ slots ≤ 7293034 := ⟨by omega, by omega⟩
  refine lv_aload_n hx hb dL_law_707 rfl (lv_at hl 1 rfl) ?_
  refine j_arg (v := nI k) hx hb hX hbl hbA hS (lv_at hl 0 rfl) (lv_at hl 4 rfl) 1 rfl (by omega) hL e1 dL_law_708 dL_law_709 dL_law_711 dL_law_712 dL_law_713 ?_
  refine j_arg (v := nI v) hx hb hX hbl hbA hS (lv_at hl 0 rfl) (lv_at hl 4 rfl) 2 rfl (by omega) hL e2 dL_law_714 dL_law_715 dL_law_717 dL_law_718 dL_law_719 ?_
  refine lv_aload_n hx hb dL_law_720 rfl (lv_at hl 3 rfl) ?_
  refine j_lI (As := [.ref (ax 0), .int (nI k), .int (nI v), .ref oa]) (rest := []) ⟨hx, hb, hml, hown, hts⟩ (c_L_paid l dC dI cI cJ cZ cO oa ov ax (jao aa n) n mo iv (aa k) (an k) (kp k) (py k) k v (hv k hk) hm (by omega) (if_pos hk) hb9) (vx_cwSW 4 hts gL_law_L_paid rfl rfl rfl (by decide +kernel) ⟨Nat.le_of_ble_eq_true rfl, Nat.le_of_ble_eq_true rfl⟩) hK (j_subP hP (jl_sB hk)) (j_subD hD (jl_sB hk)) rfl hl rfl (Nat.le_of_ble_eq_true rfl) dL_law_721 hf0 hS (j_subA hD (jl_sB hk)) (fun H1 locs hP1 hk1 hS => ?_)
  obtain ⟨hP, hD⟩ := jl_put0 hk hP hD hk1 hP1
  clear hP1 hk1
  refine lv_istore (lv' := [(5, .int (nI 0)), (0, .ref b), (1, .ref (ax 0)), (2, .ref (ad 0)), (3, .ref oa), (4, .int (nI i))]) hx hb dL_law_724 hl (by decide) rfl (fun ls hl => ?_)
  refine lv_aload_n hx hb dL_law_726 rfl (lv_at hl 3 rfl) ?_
  refine j_arg (v := nI k) hx hb hX hbl hbA hS (lv_at hl 1 rfl) (lv_at hl 5 rfl) 1 rfl (by omega) hL e1 dL_law_727 dL_law_728 dL_law_730 dL_law_731 dL_law_732 ?_
  refine j_arg (v := nI v) hx hb hX hbl hbA hS (lv_at hl 1 rfl) (lv_at hl 5 rfl) 2 rfl (by omega) hL e2 dL_law_733 dL_law_734 dL_law_736 dL_law_737 dL_law_738 ?_
  refine j_mL (As := [.int (nI k), .int (nI v)]) (rest := []) ⟨hx, hb, hml, hown, hts⟩ (c_X2_paid l dC dI cI cJ cZ cO ad n mo iv an T B py fu cy th k v hn hm hv hk hb9) (cwV 2 hts gL_law_X2_paid rfl rfl rfl (by decide +kernel) ⟨Nat.le_of_ble_eq_true rfl, Nat.le_of_ble_eq_true rfl⟩) hK hP hD rfl (jMW_adr _ _ _ _ _ _ _ _ _ _ _ _ _ _) (fun _ => jMW_adr _ _ _ _ _ _ _ _ _ _ _ _ _ _) rfl hl rfl (Nat.le_of_ble_eq_true rfl) dL_law_739 hf0 hS (fun r u H locs hr hP hD hS => ?_)
  subst hr
  refine lv_lstore (lv' := [(6, .long (py k v)), (5, .int (nI 0)), (0, .ref b), (1, .ref (ax 0)), (2, .ref (ad 0)), (3, .ref oa), (4, .int (nI i))]) hx hb dL_law_742 hl (by decide) rfl (fun ls hl => ?_)
  have hI2 := hI
  exact jt_L hA9 hP hl (lv_at hl 4 rfl) (lv_at hl 5 rfl) (lv_at hl 1 rfl) (lv_at hl 0 rfl) (by decide) (fun _ => pk_uLs) hf0 dL_law_744 dL_law_745 dL_law_748 dL_law_750 dL_law_755 dL_law_757 dL_law_760 dL_law_761 dL_law_762 dL_law_763 dL_law_765 dL_law_766 dL_law_771 (by decide) (W.widen (by omega) (by omega) (go _ _ _ _ _ _ _ _ _ _ _ _ _ _ _ _ hI2 hP hD hS (lv_sub hl [2, 3, 4, 5, 6] rfl)))
set_option maxHeartbeats 4000000 in
set_option maxRecDepth 100000 in
theorem lw_paid_x1 (h9 : jRd p l e s m below meth c dC dI cI cJ cZ cO b L xs oa ax ad Q i cells slots n mo iv aa an kp T B py ov fu cy th H locs ls) (p0 : Int32) (p1 : Int32) (hb0 : ¬ vp_in p0 n) (e1 : xs (i + 1) = p0) (e2 : xs (i + 2) = p1) : W p l e room_1 s m #[Value.ref b] below meth c H locs cells slots Q (F0 m 707 ls []) := by
  obtain ⟨⟨hx, hb, hml, hown, hts, hX, hbl, hst, hZ, hK⟩, hI, hP, hD, hS, hl, hrm, hi9, hL, go⟩ := id h9
  have hA9 := h9.1
  obtain ⟨hn, hm, hv, hkp, hfr⟩ := id hI
  have hbA : ¬ s.heap.size ≤ b := Nat.not_le.mpr hbl
  have hf0 : cells ≤ 601024 ∧ slots ≤ 7293034 := ⟨by omega, by omega⟩
  refine lv_aload_n hx hb dL_law_707 rfl (lv_at hl 1 rfl) ?_
  refine j_arg (v := p0) hx hb hX hbl hbA hS (lv_at hl 0 rfl) (lv_at hl 4 rfl) 1 rfl (by omega) hL e1 dL_law_708 dL_law_709 dL_law_711 dL_law_712 dL_law_713 ?_
  refine j_arg (v := p1) hx hb hX hbl hbA hS (lv_at hl 0 rfl) (lv_at hl 4 rfl) 2 rfl (by omega) hL e2 dL_law_714 dL_law_715 dL_law_717 dL_law_718 dL_law_719 ?_
  refine lv_aload_n hx hb dL_law_720 rfl (lv_at hl 3 rfl) ?_
  have hZ9 : jX (fun _ => False) s H := jX.narrow (jX.kept hZ (fun a h1 h2 => hS.2.1 a h1 h2)) (fun _ h => h.elim)
  have hf1 : cells + 1 ≤ 601024 ∧ slots + 6 ≤ 7293034 := ⟨by omega, by omega⟩
  refine j_lX (As := [.ref (ax 0), .int p0, .int p1, .ref oa]) (rest := []) ⟨hx, hb, hml, hown, hts⟩ (x1_L_paid l dC dI cI cJ cZ cO ax (jao aa n) n mo p0 p1 hst hn (fun j hj => if_neg (by omega)) hb0 oa) (vx_cwSW 4 hts gL_law_L_paid rfl rfl rfl (by decide +kernel) ⟨Nat.le_of_ble_eq_true rfl, Nat.le_of_ble_eq_true rfl⟩) hZ9 hK (j_subP hP jl_s2) rfl hl rfl (Nat.le_of_ble_eq_true rfl) dL_law_721 hf1 hS (fun H1 locs hk1 hS => ?_)
  have hP := j_keep hP hk1
  clear hZ9 hk1
  refine lv_istore (lv' := [(5, .int (nI 1)), (0, .ref b), (1, .ref (ax 0)), (2, .ref (ad 0)), (3, .ref oa), (4, .int (nI i))]) hx hb dL_law_724 hl (by decide) rfl (fun ls hl => ?_)
  refine lv_aload_n hx hb dL_law_726 rfl (lv_at hl 3 rfl) ?_
  refine j_arg (v := p0) hx hb hX hbl hbA hS (lv_at hl 1 rfl) (lv_at hl 5 rfl) 1 rfl (by omega) hL e1 dL_law_727 dL_law_728 dL_law_730 dL_law_731 dL_law_732 ?_
  refine j_arg (v := p1) hx hb hX hbl hbA hS (lv_at hl 1 rfl) (lv_at hl 5 rfl) 2 rfl (by omega) hL e2 dL_law_733 dL_law_734 dL_law_736 dL_law_737 dL_law_738 ?_
  refine j_mL (As := [.int p0, .int p1]) (rest := []) ⟨hx, hb, hml, hown, hts⟩ (x1_X2_paid l dC dI cI cJ cZ cO ad n mo iv an T B py fu cy th p0 p1 hn hm hv hb0) (cwV 2 hts gL_law_X2_paid rfl rfl rfl (by decide +kernel) ⟨Nat.le_of_ble_eq_true rfl, Nat.le_of_ble_eq_true rfl⟩) hK hP hD rfl (jMW_adr _ _ _ _ _ _ _ _ _ _ _ _ _ _) (fun _ => jMW_adr _ _ _ _ _ _ _ _ _ _ _ _ _ _) rfl hl rfl (Nat.le_of_ble_eq_true rfl) dL_law_739 hf1 hS (fun r u H locs hr hP hD hS => ?_)
  refine lv_lstore (lv' := [(6, .long r), (5, .int (nI 1)), (0, .ref b), (1, .ref (ax 0)), (2, .ref (ad 0)), (3, .ref oa), (4, .int (nI i))]) hx hb dL_law_742 hl (by decide) rfl (fun ls hl => ?_)
  have hI2 := hI
  exact jt_L hA9 hP hl (lv_at hl 4 rfl) (lv_at hl 5 rfl) (lv_at hl 1 rfl) (lv_at hl 0 rfl) (by decide) (fun h => absurd h (by decide)) hf1 dL_law_744 dL_law_745 dL_law_748 dL_law_750 dL_law_755 dL_law_757 dL_law_760 dL_law_761 dL_law_762 dL_law_763 dL_law_765 dL_law_766 dL_law_771 (by decide) (W.widen (by omega) (by omega) (go _ _ _ _ _ _ _ _ _ _ _ _ _ _ _ _ hI2 hP hD hS (lv_sub hl [2, 3, 4, 5, 6] rfl)))
set_option maxHeartbeats 4000000 in
set_option maxRecDepth 100000 in
theorem lw_paid_x2 (h9 : jRd p l e s m below meth c dC dI cI cJ cZ cO b L xs oa ax ad Q i cells slots n mo iv aa an kp T B py ov fu cy th H locs ls) (k : Nat) (p1 : Int32) (hk : k < n) (h : p1 < nI 0 ∨ nI mo - nI 1 < p1) (e1 : xs (i + 1) = nI k) (e2 : xs (i + 2) = p1) : W p l e room_1 s m #[Value.ref b] below meth c H locs cells slots Q (F0 m 707 ls []) := by
  obtain ⟨⟨hx, hb, hml, hown, hts, hX, hbl, hst, hZ, hK⟩, hI, hP, hD, hS, hl, hrm, hi9, hL, go⟩ := id h9
  have hA9 := h9.1
  obtain ⟨hn, hm, hv, hkp, hfr⟩ := id hI
  have hbA : ¬ s.heap.size ≤ b := Nat.not_le.mpr hbl
  have hf0 : cells ≤ 601024 ∧ slots ≤ 7293034 := ⟨by omega, by omega⟩
  refine lv_aload_n hx hb dL_law_707 rfl (lv_at hl 1 rfl) ?_
  refine j_arg (v := nI k) hx hb hX hbl hbA hS (lv_at hl 0 rfl) (lv_at hl 4 rfl) 1 rfl (by omega) hL e1 dL_law_708 dL_law_709 dL_law_711 dL_law_712 dL_law_713 ?_
  refine j_arg (v := p1) hx hb hX hbl hbA hS (lv_at hl 0 rfl) (lv_at hl 4 rfl) 2 rfl (by omega) hL e2 dL_law_714 dL_law_715 dL_law_717 dL_law_718 dL_law_719 ?_
  refine lv_aload_n hx hb dL_law_720 rfl (lv_at hl 3 rfl) ?_
  have hZ9 : jX (fun _ => False) s H := jX.narrow (jX.kept hZ (fun a h1 h2 => hS.2.1 a h1 h2)) (fun _ h => h.elim)
  have hf1 : cells + 1 ≤ 601024 ∧ slots + 6 ≤ 7293034 := ⟨by omega, by omega⟩
  refine j_lX (As := [.ref (ax 0), .int (nI k), .int p1, .ref oa]) (rest := []) ⟨hx, hb, hml, hown, hts⟩ (x2_L_paid l dC dI cI cJ cZ cO ax (jao aa n) n mo iv (aa k) (an k) (kp k) (py k) k p1 hst (hv k hk) hm (by omega) (if_pos hk) h oa) (vx_cwSW 4 hts gL_law_L_paid rfl rfl rfl (by decide +kernel) ⟨Nat.le_of_ble_eq_true rfl, Nat.le_of_ble_eq_true rfl⟩) hZ9 hK (j_subP hP (jl_s8 hk)) rfl hl rfl (Nat.le_of_ble_eq_true rfl) dL_law_721 hf1 hS (fun H1 locs hk1 hS => ?_)
  have hP := j_keep hP hk1
  clear hZ9 hk1
  refine lv_istore (lv' := [(5, .int (nI 2)), (0, .ref b), (1, .ref (ax 0)), (2, .ref (ad 0)), (3, .ref oa), (4, .int (nI i))]) hx hb dL_law_724 hl (by decide) rfl (fun ls hl => ?_)
  refine lv_aload_n hx hb dL_law_726 rfl (lv_at hl 3 rfl) ?_
  refine j_arg (v := nI k) hx hb hX hbl hbA hS (lv_at hl 1 rfl) (lv_at hl 5 rfl) 1 rfl (by omega) hL e1 dL_law_727 dL_law_728 dL_law_730 dL_law_731 dL_law_732 ?_
  refine j_arg (v := p1) hx hb hX hbl hbA hS (lv_at hl 1 rfl) (lv_at hl 5 rfl) 2 rfl (by omega) hL e2 dL_law_733 dL_law_734 dL_law_736 dL_law_737 dL_law_738 ?_
  refine j_mL (As := [.int (nI k), .int p1]) (rest := []) ⟨hx, hb, hml, hown, hts⟩ (x2_X2_paid l dC dI cI cJ cZ cO ad n mo iv an T B py fu cy th k p1 hn hm hv hk h) (cwV 2 hts gL_law_X2_paid rfl rfl rfl (by decide +kernel) ⟨Nat.le_of_ble_eq_true rfl, Nat.le_of_ble_eq_true rfl⟩) hK hP hD rfl (jMW_adr _ _ _ _ _ _ _ _ _ _ _ _ _ _) (fun _ => jMW_adr _ _ _ _ _ _ _ _ _ _ _ _ _ _) rfl hl rfl (Nat.le_of_ble_eq_true rfl) dL_law_739 hf1 hS (fun r u H locs hr hP hD hS => ?_)
  refine lv_lstore (lv' := [(6, .long r), (5, .int (nI 2)), (0, .ref b), (1, .ref (ax 0)), (2, .ref (ad 0)), (3, .ref oa), (4, .int (nI i))]) hx hb dL_law_742 hl (by decide) rfl (fun ls hl => ?_)
  have hI2 := hI
  exact jt_L hA9 hP hl (lv_at hl 4 rfl) (lv_at hl 5 rfl) (lv_at hl 1 rfl) (lv_at hl 0 rfl) (by decide) (fun h => absurd h (by decide)) hf1 dL_law_744 dL_law_745 dL_law_748 dL_law_750 dL_law_755 dL_law_757 dL_law_760 dL_law_761 dL_law_762 dL_law_763 dL_law_765 dL_law_766 dL_law_771 (by decide) (W.widen (by omega) (by omega) (go _ _ _ _ _ _ _ _ _ _ _ _ _ _ _ _ hI2 hP hD hS (lv_sub hl [2, 3, 4, 5, 6] rfl)))
set_option maxHeartbeats 4000000 in
set_option maxRecDepth 100000 in
theorem lw_paidInAll_c (h9 : jRd p l e s m below meth c dC dI cI cJ cZ cO b L xs oa ax ad Q i cells slots n mo iv aa an kp T B py ov fu cy th H locs ls) (k : Nat) (hk : k < n) (e1 : xs (i + 1) = nI k) : W p l e room_1 s m #[Value.ref b] below meth c H locs cells slots Q (F0 m 774 ls []) := by
  obtain ⟨⟨hx, hb, hml, hown, hts, hX, hbl, hst, hZ, hK⟩, hI, hP, hD, hS, hl, hrm, hi9, hL, go⟩ := id h9
  have hA9 := h9.1
  obtain ⟨hn, hm, hv, hkp, hfr⟩ := id hI
  have hbA : ¬ s.heap.size ≤ b := Nat.not_le.mpr hbl
  have hf0 : cells ≤ 601024 ∧ slots ≤ 7293034 := ⟨by omega, by omega⟩
  refine lv_aload_n hx hb dL_law_774 rfl (lv_at hl 1 rfl) ?_
  refine j_arg (v := nI k) hx hb hX hbl hbA hS (lv_at hl 0 rfl) (lv_at hl 4 rfl) 1 rfl (by omega) hL e1 dL_law_775 dL_law_776 dL_law_778 dL_law_779 dL_law_780 ?_
  refine lv_aload_n hx hb dL_law_781 rfl (lv_at hl 3 rfl) ?_
  refine j_lI (As := [.ref (ax 0), .int (nI k), .ref oa]) (rest := []) ⟨hx, hb, hml, hown, hts⟩ (c_L_paidInAll l dC dI cI cJ cZ cO oa ov ax (jao aa n) n mo iv (aa k) (an k) (kp k) (py k) k (hv k hk) hm (by omega) (if_pos hk)) (vx_cwSW 3 hts gL_law_L_paidInAll rfl rfl rfl (by decide +kernel) ⟨Nat.le_of_ble_eq_true rfl, Nat.le_of_ble_eq_true rfl⟩) hK (j_subP hP (jl_sB hk)) (j_subD hD (jl_sB hk)) rfl hl rfl (Nat.le_of_ble_eq_true rfl) dL_law_782 hf0 hS (j_subA hD (jl_sB hk)) (fun H1 locs hP1 hk1 hS => ?_)
  obtain ⟨hP, hD⟩ := jl_put0 hk hP hD hk1 hP1
  clear hP1 hk1
  refine lv_istore (lv' := [(5, .int (nI 0)), (0, .ref b), (1, .ref (ax 0)), (2, .ref (ad 0)), (3, .ref oa), (4, .int (nI i))]) hx hb dL_law_785 hl (by decide) rfl (fun ls hl => ?_)
  refine lv_aload_n hx hb dL_law_787 rfl (lv_at hl 3 rfl) ?_
  refine j_arg (v := nI k) hx hb hX hbl hbA hS (lv_at hl 1 rfl) (lv_at hl 5 rfl) 1 rfl (by omega) hL e1 dL_law_788 dL_law_789 dL_law_791 dL_law_792 dL_law_793 ?_
  refine j_mL (As := [.int (nI k)]) (rest := []) ⟨hx, hb, hml, hown, hts⟩ (c_X2_paidInAll l dC dI cI cJ cZ cO ad n mo iv an T B py fu cy th k hn hm hv hk) (cwV 1 hts gL_law_X2_paidInAll rfl rfl rfl (by decide +kernel) ⟨Nat.le_of_ble_eq_true rfl, Nat.le_of_ble_eq_true rfl⟩) hK hP hD rfl (jMW_adr _ _ _ _ _ _ _ _ _ _ _ _ _ _) (fun _ => jMW_adr _ _ _ _ _ _ _ _ _ _ _ _ _ _) rfl hl rfl (Nat.le_of_ble_eq_true rfl) dL_law_794 hf0 hS (fun r u H locs hr hP hD hS => ?_)
  subst hr
  refine lv_lstore (lv' := [(6, .long (T k - B k)), (5, .int (nI 0)), (0, .ref b), (1, .ref (ax 0)), (2, .ref (ad 0)), (3, .ref oa), (4, .int (nI i))]) hx hb dL_law_797 hl (by decide) rfl (fun ls hl => ?_)
  have hI2 := hI
  exact jt_L hA9 hP hl (lv_at hl 4 rfl) (lv_at hl 5 rfl) (lv_at hl 1 rfl) (lv_at hl 0 rfl) (by decide) (fun _ => pk_uLs.trans (by rw [hkp k hk])) hf0 dL_law_799 dL_law_800 dL_law_803 dL_law_805 dL_law_810 dL_law_812 dL_law_815 dL_law_816 dL_law_817 dL_law_818 dL_law_820 dL_law_821 dL_law_826 (by decide) (W.widen (by omega) (by omega) (go _ _ _ _ _ _ _ _ _ _ _ _ _ _ _ _ hI2 hP hD hS (lv_sub hl [2, 3, 4, 5, 6] rfl)))
set_option maxHeartbeats 4000000 in
set_option maxRecDepth 100000 in
theorem lw_paidInAll_x1 (h9 : jRd p l e s m below meth c dC dI cI cJ cZ cO b L xs oa ax ad Q i cells slots n mo iv aa an kp T B py ov fu cy th H locs ls) (p0 : Int32) (hb0 : ¬ vp_in p0 n) (e1 : xs (i + 1) = p0) : W p l e room_1 s m #[Value.ref b] below meth c H locs cells slots Q (F0 m 774 ls []) := by
  obtain ⟨⟨hx, hb, hml, hown, hts, hX, hbl, hst, hZ, hK⟩, hI, hP, hD, hS, hl, hrm, hi9, hL, go⟩ := id h9
  have hA9 := h9.1
  obtain ⟨hn, hm, hv, hkp, hfr⟩ := id hI
  have hbA : ¬ s.heap.size ≤ b := Nat.not_le.mpr hbl
  have hf0 : cells ≤ 601024 ∧ slots ≤ 7293034 := ⟨by omega, by omega⟩
  refine lv_aload_n hx hb dL_law_774 rfl (lv_at hl 1 rfl) ?_
  refine j_arg (v := p0) hx hb hX hbl hbA hS (lv_at hl 0 rfl) (lv_at hl 4 rfl) 1 rfl (by omega) hL e1 dL_law_775 dL_law_776 dL_law_778 dL_law_779 dL_law_780 ?_
  refine lv_aload_n hx hb dL_law_781 rfl (lv_at hl 3 rfl) ?_
  have hZ9 : jX (fun _ => False) s H := jX.narrow (jX.kept hZ (fun a h1 h2 => hS.2.1 a h1 h2)) (fun _ h => h.elim)
  have hf1 : cells + 1 ≤ 601024 ∧ slots + 6 ≤ 7293034 := ⟨by omega, by omega⟩
  refine j_lX (As := [.ref (ax 0), .int p0, .ref oa]) (rest := []) ⟨hx, hb, hml, hown, hts⟩ (x1_L_paidInAll l dC dI cI cJ cZ cO ax (jao aa n) n mo p0 hst hn (fun j hj => if_neg (by omega)) hb0 oa) (vx_cwSW 3 hts gL_law_L_paidInAll rfl rfl rfl (by decide +kernel) ⟨Nat.le_of_ble_eq_true rfl, Nat.le_of_ble_eq_true rfl⟩) hZ9 hK (j_subP hP jl_s2) rfl hl rfl (Nat.le_of_ble_eq_true rfl) dL_law_782 hf1 hS (fun H1 locs hk1 hS => ?_)
  have hP := j_keep hP hk1
  clear hZ9 hk1
  refine lv_istore (lv' := [(5, .int (nI 1)), (0, .ref b), (1, .ref (ax 0)), (2, .ref (ad 0)), (3, .ref oa), (4, .int (nI i))]) hx hb dL_law_785 hl (by decide) rfl (fun ls hl => ?_)
  refine lv_aload_n hx hb dL_law_787 rfl (lv_at hl 3 rfl) ?_
  refine j_arg (v := p0) hx hb hX hbl hbA hS (lv_at hl 1 rfl) (lv_at hl 5 rfl) 1 rfl (by omega) hL e1 dL_law_788 dL_law_789 dL_law_791 dL_law_792 dL_law_793 ?_
  refine j_mL (As := [.int p0]) (rest := []) ⟨hx, hb, hml, hown, hts⟩ (x1_X2_paidInAll l dC dI cI cJ cZ cO ad n mo iv an T B py fu cy th p0 hn hm hv hb0) (cwV 1 hts gL_law_X2_paidInAll rfl rfl rfl (by decide +kernel) ⟨Nat.le_of_ble_eq_true rfl, Nat.le_of_ble_eq_true rfl⟩) hK hP hD rfl (jMW_adr _ _ _ _ _ _ _ _ _ _ _ _ _ _) (fun _ => jMW_adr _ _ _ _ _ _ _ _ _ _ _ _ _ _) rfl hl rfl (Nat.le_of_ble_eq_true rfl) dL_law_794 hf1 hS (fun r u H locs hr hP hD hS => ?_)
  refine lv_lstore (lv' := [(6, .long r), (5, .int (nI 1)), (0, .ref b), (1, .ref (ax 0)), (2, .ref (ad 0)), (3, .ref oa), (4, .int (nI i))]) hx hb dL_law_797 hl (by decide) rfl (fun ls hl => ?_)
  have hI2 := hI
  exact jt_L hA9 hP hl (lv_at hl 4 rfl) (lv_at hl 5 rfl) (lv_at hl 1 rfl) (lv_at hl 0 rfl) (by decide) (fun h => absurd h (by decide)) hf1 dL_law_799 dL_law_800 dL_law_803 dL_law_805 dL_law_810 dL_law_812 dL_law_815 dL_law_816 dL_law_817 dL_law_818 dL_law_820 dL_law_821 dL_law_826 (by decide) (W.widen (by omega) (by omega) (go _ _ _ _ _ _ _ _ _ _ _ _ _ _ _ _ hI2 hP hD hS (lv_sub hl [2, 3, 4, 5, 6] rfl)))
set_option maxHeartbeats 4000000 in
set_option maxRecDepth 100000 in
theorem lw_owes_c (h9 : jRd p l e s m below meth c dC dI cI cJ cZ cO b L xs oa ax ad Q i cells slots n mo iv aa an kp T B py ov fu cy th H locs ls) (k : Nat) (hk : k < n) (e1 : xs (i + 1) = nI k) : W p l e room_1 s m #[Value.ref b] below meth c H locs cells slots Q (F0 m 829 ls []) := by
  obtain ⟨⟨hx, hb, hml, hown, hts, hX, hbl, hst, hZ, hK⟩, hI, hP, hD, hS, hl, hrm, hi9, hL, go⟩ := id h9
  have hA9 := h9.1
  obtain ⟨hn, hm, hv, hkp, hfr⟩ := id hI
  have hbA : ¬ s.heap.size ≤ b := Nat.not_le.mpr hbl
  have hf0 : cells ≤ 601024 ∧ slots ≤ 7293034 := ⟨by omega, by omega⟩
  refine lv_aload_n hx hb dL_law_829 rfl (lv_at hl 1 rfl) ?_
  refine j_arg (v := nI k) hx hb hX hbl hbA hS (lv_at hl 0 rfl) (lv_at hl 4 rfl) 1 rfl (by omega) hL e1 dL_law_830 dL_law_831 dL_law_833 dL_law_834 dL_law_835 ?_
  refine lv_aload_n hx hb dL_law_836 rfl (lv_at hl 3 rfl) ?_
  refine j_lI (As := [.ref (ax 0), .int (nI k), .ref oa]) (rest := []) ⟨hx, hb, hml, hown, hts⟩ (c_L_owes l dC dI cI cJ cZ cO oa ov ax (jao aa n) n mo iv (aa k) (an k) (kp k) (py k) k (hv k hk) hm (by omega) (if_pos hk)) (vx_cwSW 3 hts gL_law_L_owes rfl rfl rfl (by decide +kernel) ⟨Nat.le_of_ble_eq_true rfl, Nat.le_of_ble_eq_true rfl⟩) hK (j_subP hP (jl_sB hk)) (j_subD hD (jl_sB hk)) rfl hl rfl (Nat.le_of_ble_eq_true rfl) dL_law_837 hf0 hS (j_subA hD (jl_sB hk)) (fun H1 locs hP1 hk1 hS => ?_)
  obtain ⟨hP, hD⟩ := jl_put0 hk hP hD hk1 hP1
  clear hP1 hk1
  refine lv_istore (lv' := [(5, .int (nI 0)), (0, .ref b), (1, .ref (ax 0)), (2, .ref (ad 0)), (3, .ref oa), (4, .int (nI i))]) hx hb dL_law_840 hl (by decide) rfl (fun ls hl => ?_)
  refine lv_aload_n hx hb dL_law_842 rfl (lv_at hl 3 rfl) ?_
  refine j_arg (v := nI k) hx hb hX hbl hbA hS (lv_at hl 1 rfl) (lv_at hl 5 rfl) 1 rfl (by omega) hL e1 dL_law_843 dL_law_844 dL_law_846 dL_law_847 dL_law_848 ?_
  refine j_mL (As := [.int (nI k)]) (rest := []) ⟨hx, hb, hml, hown, hts⟩ (c_X2_owes l dC dI cI cJ cZ cO ad n mo iv an T B py fu cy th k hn hm hv hk) (cwV 1 hts gL_law_X2_owes rfl rfl rfl (by decide +kernel) ⟨Nat.le_of_ble_eq_true rfl, Nat.le_of_ble_eq_true rfl⟩) hK hP hD rfl (jMW_adr _ _ _ _ _ _ _ _ _ _ _ _ _ _) (fun _ => jMW_adr _ _ _ _ _ _ _ _ _ _ _ _ _ _) rfl hl rfl (Nat.le_of_ble_eq_true rfl) dL_law_849 hf0 hS (fun r u H locs hr hP hD hS => ?_)
  subst hr
  refine lv_lstore (lv' := [(6, .long (jmx (T k - B k - lN (jU (an k) iv mo)))), (5, .int (nI 0)), (0, .ref b), (1, .ref (ax 0)), (2, .ref (ad 0)), (3, .ref oa), (4, .int (nI i))]) hx hb dL_law_852 hl (by decide) rfl (fun ls hl => ?_)
  have hI2 := hI
  exact jt_L hA9 hP hl (lv_at hl 4 rfl) (lv_at hl 5 rfl) (lv_at hl 1 rfl) (lv_at hl 0 rfl) (by decide) (fun _ => pk_uLs.trans (by rw [hkp k hk])) hf0 dL_law_854 dL_law_855 dL_law_858 dL_law_860 dL_law_865 dL_law_867 dL_law_870 dL_law_871 dL_law_872 dL_law_873 dL_law_875 dL_law_876 dL_law_881 (by decide) (W.widen (by omega) (by omega) (go _ _ _ _ _ _ _ _ _ _ _ _ _ _ _ _ hI2 hP hD hS (lv_sub hl [2, 3, 4, 5, 6] rfl)))
set_option maxHeartbeats 4000000 in
set_option maxRecDepth 100000 in
theorem lw_owes_x1 (h9 : jRd p l e s m below meth c dC dI cI cJ cZ cO b L xs oa ax ad Q i cells slots n mo iv aa an kp T B py ov fu cy th H locs ls) (p0 : Int32) (hb0 : ¬ vp_in p0 n) (e1 : xs (i + 1) = p0) : W p l e room_1 s m #[Value.ref b] below meth c H locs cells slots Q (F0 m 829 ls []) := by
  obtain ⟨⟨hx, hb, hml, hown, hts, hX, hbl, hst, hZ, hK⟩, hI, hP, hD, hS, hl, hrm, hi9, hL, go⟩ := id h9
  have hA9 := h9.1
  obtain ⟨hn, hm, hv, hkp, hfr⟩ := id hI
  have hbA : ¬ s.heap.size ≤ b := Nat.not_le.mpr hbl
  have hf0 : cells ≤ 601024 ∧ slots ≤ 7293034 := ⟨by omega, by omega⟩
  refine lv_aload_n hx hb dL_law_829 rfl (lv_at hl 1 rfl) ?_
  refine j_arg (v := p0) hx hb hX hbl hbA hS (lv_at hl 0 rfl) (lv_at hl 4 rfl) 1 rfl (by omega) hL e1 dL_law_830 dL_law_831 dL_law_833 dL_law_834 dL_law_835 ?_
  refine lv_aload_n hx hb dL_law_836 rfl (lv_at hl 3 rfl) ?_
  have hZ9 : jX (fun _ => False) s H := jX.narrow (jX.kept hZ (fun a h1 h2 => hS.2.1 a h1 h2)) (fun _ h => h.elim)
  have hf1 : cells + 1 ≤ 601024 ∧ slots + 6 ≤ 7293034 := ⟨by omega, by omega⟩
  refine j_lX (As := [.ref (ax 0), .int p0, .ref oa]) (rest := []) ⟨hx, hb, hml, hown, hts⟩ (x1_L_owes l dC dI cI cJ cZ cO ax (jao aa n) n mo p0 hst hn (fun j hj => if_neg (by omega)) hb0 oa) (vx_cwSW 3 hts gL_law_L_owes rfl rfl rfl (by decide +kernel) ⟨Nat.le_of_ble_eq_true rfl, Nat.le_of_ble_eq_true rfl⟩) hZ9 hK (j_subP hP jl_s2) rfl hl rfl (Nat.le_of_ble_eq_true rfl) dL_law_837 hf1 hS (fun H1 locs hk1 hS => ?_)
  have hP := j_keep hP hk1
  clear hZ9 hk1
  refine lv_istore (lv' := [(5, .int (nI 1)), (0, .ref b), (1, .ref (ax 0)), (2, .ref (ad 0)), (3, .ref oa), (4, .int (nI i))]) hx hb dL_law_840 hl (by decide) rfl (fun ls hl => ?_)
  refine lv_aload_n hx hb dL_law_842 rfl (lv_at hl 3 rfl) ?_
  refine j_arg (v := p0) hx hb hX hbl hbA hS (lv_at hl 1 rfl) (lv_at hl 5 rfl) 1 rfl (by omega) hL e1 dL_law_843 dL_law_844 dL_law_846 dL_law_847 dL_law_848 ?_
  refine j_mL (As := [.int p0]) (rest := []) ⟨hx, hb, hml, hown, hts⟩ (x1_X2_owes l dC dI cI cJ cZ cO ad n mo iv an T B py fu cy th p0 hn hm hv hb0) (cwV 1 hts gL_law_X2_owes rfl rfl rfl (by decide +kernel) ⟨Nat.le_of_ble_eq_true rfl, Nat.le_of_ble_eq_true rfl⟩) hK hP hD rfl (jMW_adr _ _ _ _ _ _ _ _ _ _ _ _ _ _) (fun _ => jMW_adr _ _ _ _ _ _ _ _ _ _ _ _ _ _) rfl hl rfl (Nat.le_of_ble_eq_true rfl) dL_law_849 hf1 hS (fun r u H locs hr hP hD hS => ?_)
  refine lv_lstore (lv' := [(6, .long r), (5, .int (nI 1)), (0, .ref b), (1, .ref (ax 0)), (2, .ref (ad 0)), (3, .ref oa), (4, .int (nI i))]) hx hb dL_law_852 hl (by decide) rfl (fun ls hl => ?_)
  have hI2 := hI
  exact jt_L hA9 hP hl (lv_at hl 4 rfl) (lv_at hl 5 rfl) (lv_at hl 1 rfl) (lv_at hl 0 rfl) (by decide) (fun h => absurd h (by decide)) hf1 dL_law_854 dL_law_855 dL_law_858 dL_law_860 dL_law_865 dL_law_867 dL_law_870 dL_law_871 dL_law_872 dL_law_873 dL_law_875 dL_law_876 dL_law_881 (by decide) (W.widen (by omega) (by omega) (go _ _ _ _ _ _ _ _ _ _ _ _ _ _ _ _ hI2 hP hD hS (lv_sub hl [2, 3, 4, 5, 6] rfl)))
end JLR
