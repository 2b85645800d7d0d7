/-! the rounds, case by case -/
section JLR
variable {p : Program} {l : Launch} {e : Env} {s : State} {m : MethodId} {below : List Frame} {meth : Method} {c : Code} {dC : Nat → ClassId} {dI : Nat → Nat → Nat} {cI cJ cZ cO : ClassId} {b L : Nat} {xs : Nat → Int32} {oa : Nat} {ax ad : Nat → Nat} {Q : State → Prop} {i cells slots n mo : Nat} {iv : Nat → Int32} {aa an : Nat → Nat → Nat} {kp T B : Nat → Int64} {py : Nat → Nat → Int64} {ov : Nat → Int64} {fu cy th : Int32} {H : Heap} {locs : List Loc} {ls : Array Slot}
set_option maxHeartbeats 4000000 in
set_option maxRecDepth 100000 in
theorem lw_fullAmount_c (h9 : jRd p l e s m below meth c dC dI cI cJ cZ cO b L xs oa ax ad Q i cells slots n mo iv aa an kp T B py ov fu cy th H locs ls) (k : Nat) (v : Nat) (hk : k < n) (hb9 : v < 240) (e1 : xs (i + 1) = nI k) (e2 : xs (i + 2) = nI v) : W p l e room_1 s m #[Value.ref b] below meth c H locs cells slots Q (F0 m 884 ls []) := by
  obtain ⟨⟨hx, hb, hml, hown, hts, hX, hbl, hst, hZ, hK⟩, hI, hP, hD, hS, hl, hrm, hi9, hL, go⟩ := id h9
  have hA9 := h9.1
  obtain ⟨hn, hm, hv, hkp, hfr⟩ := id hI
  have hbA : ¬ s.heap.size ≤ b := Nat.not_le.mpr hbl
  have hf0 : cells ≤ 601024 ∧ slots ≤ 7293034 := ⟨by omega, by omega⟩
  refine lv_aload_n hx hb dL_law_884 rfl (lv_at hl 1 rfl) ?_
  refine j_arg (v := nI k) hx hb hX hbl hbA hS (lv_at hl 0 rfl) (lv_at hl 4 rfl) 1 rfl (by omega) hL e1 dL_law_885 dL_law_886 dL_law_888 dL_law_889 dL_law_890 ?_
  refine j_arg (v := nI v) hx hb hX hbl hbA hS (lv_at hl 0 rfl) (lv_at hl 4 rfl) 2 rfl (by omega) hL e2 dL_law_891 dL_law_892 dL_law_894 dL_law_895 dL_law_896 ?_
  refine lv_aload_n hx hb dL_law_897 rfl (lv_at hl 3 rfl) ?_
  refine j_lI (As := [.ref (ax 0), .int (nI k), .int (nI v), .ref oa]) (rest := []) ⟨hx, hb, hml, hown, hts⟩ (c_L_fullAmount l dC dI cI cJ cZ cO oa ov ax (jao aa n) n mo iv (aa k) (an k) (kp k) (py k) k v (hv k hk) hm (by omega) (if_pos hk) hb9) (vx_cwSW 4 hts gL_law_L_fullAmount rfl rfl rfl (by decide +kernel) ⟨Nat.le_of_ble_eq_true rfl, Nat.le_of_ble_eq_true rfl⟩) hK (j_subP hP (jl_sB hk)) (j_subD hD (jl_sB hk)) rfl hl rfl (Nat.le_of_ble_eq_true rfl) dL_law_898 hf0 hS (j_subA hD (jl_sB hk)) (fun H1 locs hP1 hk1 hS => ?_)
  obtain ⟨hP, hD⟩ := jl_put0 hk hP hD hk1 hP1
  clear hP1 hk1
  refine lv_istore (lv' := [(5, .int (nI 0)), (0, .ref b), (1, .ref (ax 0)), (2, .ref (ad 0)), (3, .ref oa), (4, .int (nI i))]) hx hb dL_law_901 hl (by decide) rfl (fun ls hl => ?_)
  refine lv_aload_n hx hb dL_law_903 rfl (lv_at hl 3 rfl) ?_
  refine j_arg (v := nI k) hx hb hX hbl hbA hS (lv_at hl 1 rfl) (lv_at hl 5 rfl) 1 rfl (by omega) hL e1 dL_law_904 dL_law_905 dL_law_907 dL_law_908 dL_law_909 ?_
  refine j_arg (v := nI v) hx hb hX hbl hbA hS (lv_at hl 1 rfl) (lv_at hl 5 rfl) 2 rfl (by omega) hL e2 dL_law_910 dL_law_911 dL_law_913 dL_law_914 dL_law_915 ?_
  refine j_mI (As := [.int (nI k), .int (nI v)]) (rest := []) ⟨hx, hb, hml, hown, hts⟩ (c_X2_fullAmount l dC dI cI cJ cZ cO ad n mo iv an T B py fu cy th k v hn hm hv hk hb9) (cwV 2 hts gL_law_X2_fullAmount rfl rfl rfl (by decide +kernel) ⟨Nat.le_of_ble_eq_true rfl, Nat.le_of_ble_eq_true rfl⟩) hK hP hD rfl (jMW_adr _ _ _ _ _ _ _ _ _ _ _ _ _ _) (fun _ => jMW_adr _ _ _ _ _ _ _ _ _ _ _ _ _ _) rfl hl rfl (Nat.le_of_ble_eq_true rfl) dL_law_916 hf0 hS (fun r u H locs hr hP hD hS => ?_)
  subst hr
  refine lv_istore (lv' := [(6, .int (nI (if v < an k 0 then 0 else jM (an k) iv v))), (5, .int (nI 0)), (0, .ref b), (1, .ref (ax 0)), (2, .ref (ad 0)), (3, .ref oa), (4, .int (nI i))]) hx hb dL_law_919 hl (by decide) rfl (fun ls hl => ?_)
  have hI2 := hI
  exact jt_I hA9 hP hl (lv_at hl 4 rfl) (lv_at hl 5 rfl) (lv_at hl 1 rfl) (lv_at hl 0 rfl) (by decide) (fun _ => pk_uLs) hf0 dL_law_921 dL_law_922 dL_law_925 dL_law_927 dL_law_932 dL_law_934 dL_law_937 dL_law_938 dL_law_939 dL_law_940 dL_law_942 dL_law_943 dL_law_944 dL_law_949 (by decide) (W.widen (by omega) (by omega) (go _ _ _ _ _ _ _ _ _ _ _ _ _ _ _ _ hI2 hP hD hS (lv_sub hl [2, 3, 4, 5, 6] rfl)))
set_option maxHeartbeats 4000000 in
set_option maxRecDepth 100000 in
theorem lw_fullAmount_x1 (h9 : jRd p l e s m below meth c dC dI cI cJ cZ cO b L xs oa ax ad Q i cells slots n mo iv aa an kp T B py ov fu cy th H locs ls) (p0 : Int32) (p1 : Int32) (hb0 : ¬ vp_in p0 n) (e1 : xs (i + 1) = p0) (e2 : xs (i + 2) = p1) : W p l e room_1 s m #[Value.ref b] below meth c H locs cells slots Q (F0 m 884 ls []) := by
  obtain ⟨⟨hx, hb, hml, hown, hts, hX, hbl, hst, hZ, hK⟩, hI, hP, hD, hS, hl, hrm, hi9, hL, go⟩ := id h9
  have hA9 := h9.1
  obtain ⟨hn, hm, hv, hkp, hfr⟩ := id hI
  have hbA : ¬ s.heap.size ≤ b := Nat.not_le.mpr hbl
  have hf0 : cells ≤ 601024 ∧ slots ≤ 7293034 := ⟨by omega, by omega⟩
  refine lv_aload_n hx hb dL_law_884 rfl (lv_at hl 1 rfl) ?_
  refine j_arg (v := p0) hx hb hX hbl hbA hS (lv_at hl 0 rfl) (lv_at hl 4 rfl) 1 rfl (by omega) hL e1 dL_law_885 dL_law_886 dL_law_888 dL_law_889 dL_law_890 ?_
  refine j_arg (v := p1) hx hb hX hbl hbA hS (lv_at hl 0 rfl) (lv_at hl 4 rfl) 2 rfl (by omega) hL e2 dL_law_891 dL_law_892 dL_law_894 dL_law_895 dL_law_896 ?_
  refine lv_aload_n hx hb dL_law_897 rfl (lv_at hl 3 rfl) ?_
  have hZ9 : jX (fun _ => False) s H := jX.narrow (jX.kept hZ (fun a h1 h2 => hS.2.1 a h1 h2)) (fun _ h => h.elim)
  have hf1 : cells + 1 ≤ 601024 ∧ slots + 6 ≤ 7293034 := ⟨by omega, by omega⟩
  refine j_lX (As := [.ref (ax 0), .int p0, .int p1, .ref oa]) (rest := []) ⟨hx, hb, hml, hown, hts⟩ (x1_L_fullAmount l dC dI cI cJ cZ cO ax (jao aa n) n mo p0 p1 hst hn (fun j hj => if_neg (by omega)) hb0 oa) (vx_cwSW 4 hts gL_law_L_fullAmount rfl rfl rfl (by decide +kernel) ⟨Nat.le_of_ble_eq_true rfl, Nat.le_of_ble_eq_true rfl⟩) hZ9 hK (j_subP hP jl_s2) rfl hl rfl (Nat.le_of_ble_eq_true rfl) dL_law_898 hf1 hS (fun H1 locs hk1 hS => ?_)
  have hP := j_keep hP hk1
  clear hZ9 hk1
  refine lv_istore (lv' := [(5, .int (nI 1)), (0, .ref b), (1, .ref (ax 0)), (2, .ref (ad 0)), (3, .ref oa), (4, .int (nI i))]) hx hb dL_law_901 hl (by decide) rfl (fun ls hl => ?_)
  refine lv_aload_n hx hb dL_law_903 rfl (lv_at hl 3 rfl) ?_
  refine j_arg (v := p0) hx hb hX hbl hbA hS (lv_at hl 1 rfl) (lv_at hl 5 rfl) 1 rfl (by omega) hL e1 dL_law_904 dL_law_905 dL_law_907 dL_law_908 dL_law_909 ?_
  refine j_arg (v := p1) hx hb hX hbl hbA hS (lv_at hl 1 rfl) (lv_at hl 5 rfl) 2 rfl (by omega) hL e2 dL_law_910 dL_law_911 dL_law_913 dL_law_914 dL_law_915 ?_
  refine j_mI (As := [.int p0, .int p1]) (rest := []) ⟨hx, hb, hml, hown, hts⟩ (x1_X2_fullAmount l dC dI cI cJ cZ cO ad n mo iv an T B py fu cy th p0 p1 hn hm hv hb0) (cwV 2 hts gL_law_X2_fullAmount rfl rfl rfl (by decide +kernel) ⟨Nat.le_of_ble_eq_true rfl, Nat.le_of_ble_eq_true rfl⟩) hK hP hD rfl (jMW_adr _ _ _ _ _ _ _ _ _ _ _ _ _ _) (fun _ => jMW_adr _ _ _ _ _ _ _ _ _ _ _ _ _ _) rfl hl rfl (Nat.le_of_ble_eq_true rfl) dL_law_916 hf1 hS (fun r u H locs hr hP hD hS => ?_)
  refine lv_istore (lv' := [(6, .int r), (5, .int (nI 1)), (0, .ref b), (1, .ref (ax 0)), (2, .ref (ad 0)), (3, .ref oa), (4, .int (nI i))]) hx hb dL_law_919 hl (by decide) rfl (fun ls hl => ?_)
  have hI2 := hI
  exact jt_I hA9 hP hl (lv_at hl 4 rfl) (lv_at hl 5 rfl) (lv_at hl 1 rfl) (lv_at hl 0 rfl) (by decide) (fun h => absurd h (by decide)) hf1 dL_law_921 dL_law_922 dL_law_925 dL_law_927 dL_law_932 dL_law_934 dL_law_937 dL_law_938 dL_law_939 dL_law_940 dL_law_942 dL_law_943 dL_law_944 dL_law_949 (by decide) (W.widen (by omega) (by omega) (go _ _ _ _ _ _ _ _ _ _ _ _ _ _ _ _ hI2 hP hD hS (lv_sub hl [2, 3, 4, 5, 6] rfl)))
set_option maxHeartbeats 4000000 in
set_option maxRecDepth 100000 in
theorem lw_fullAmount_x2 (h9 : jRd p l e s m below meth c dC dI cI cJ cZ cO b L xs oa ax ad Q i cells slots n mo iv aa an kp T B py ov fu cy th H locs ls) (k : Nat) (p1 : Int32) (hk : k < n) (h : p1 < nI 0 ∨ nI 239 < p1) (e1 : xs (i + 1) = nI k) (e2 : xs (i + 2) = p1) : W p l e room_1 s m #[Value.ref b] below meth c H locs cells slots Q (F0 m 884 ls []) := by
  obtain ⟨⟨hx, hb, hml, hown, hts, hX, hbl, hst, hZ, hK⟩, hI, hP, hD, hS, hl, hrm, hi9, hL, go⟩ := id h9
  have hA9 := h9.1
  obtain ⟨hn, hm, hv, hkp, hfr⟩ := id hI
  have hbA : ¬ s.heap.size ≤ b := Nat.not_le.mpr hbl
  have hf0 : cells ≤ 601024 ∧ slots ≤ 7293034 := ⟨by omega, by omega⟩
  refine lv_aload_n hx hb dL_law_884 rfl (lv_at hl 1 rfl) ?_
  refine j_arg (v := nI k) hx hb hX hbl hbA hS (lv_at hl 0 rfl) (lv_at hl 4 rfl) 1 rfl (by omega) hL e1 dL_law_885 dL_law_886 dL_law_888 dL_law_889 dL_law_890 ?_
  refine j_arg (v := p1) hx hb hX hbl hbA hS (lv_at hl 0 rfl) (lv_at hl 4 rfl) 2 rfl (by omega) hL e2 dL_law_891 dL_law_892 dL_law_894 dL_law_895 dL_law_896 ?_
  refine lv_aload_n hx hb dL_law_897 rfl (lv_at hl 3 rfl) ?_
  have hZ9 : jX (fun _ => False) s H := jX.narrow (jX.kept hZ (fun a h1 h2 => hS.2.1 a h1 h2)) (fun _ h => h.elim)
  have hf1 : cells + 1 ≤ 601024 ∧ slots + 6 ≤ 7293034 := ⟨by omega, by omega⟩
  refine j_lX (As := [.ref (ax 0), .int (nI k), .int p1, .ref oa]) (rest := []) ⟨hx, hb, hml, hown, hts⟩ (x2_L_fullAmount l dC dI cI cJ cZ cO ax (jao aa n) n mo iv (aa k) (an k) (kp k) (py k) k p1 hst (hv k hk) hm (by omega) (if_pos hk) h oa) (vx_cwSW 4 hts gL_law_L_fullAmount rfl rfl rfl (by decide +kernel) ⟨Nat.le_of_ble_eq_true rfl, Nat.le_of_ble_eq_true rfl⟩) hZ9 hK (j_subP hP (jl_s8 hk)) rfl hl rfl (Nat.le_of_ble_eq_true rfl) dL_law_898 hf1 hS (fun H1 locs hk1 hS => ?_)
  have hP := j_keep hP hk1
  clear hZ9 hk1
  refine lv_istore (lv' := [(5, .int (nI 2)), (0, .ref b), (1, .ref (ax 0)), (2, .ref (ad 0)), (3, .ref oa), (4, .int (nI i))]) hx hb dL_law_901 hl (by decide) rfl (fun ls hl => ?_)
  refine lv_aload_n hx hb dL_law_903 rfl (lv_at hl 3 rfl) ?_
  refine j_arg (v := nI k) hx hb hX hbl hbA hS (lv_at hl 1 rfl) (lv_at hl 5 rfl) 1 rfl (by omega) hL e1 dL_law_904 dL_law_905 dL_law_907 dL_law_908 dL_law_909 ?_
  refine j_arg (v := p1) hx hb hX hbl hbA hS (lv_at hl 1 rfl) (lv_at hl 5 rfl) 2 rfl (by omega) hL e2 dL_law_910 dL_law_911 dL_law_913 dL_law_914 dL_law_915 ?_
  refine j_mI (As := [.int (nI k), .int p1]) (rest := []) ⟨hx, hb, hml, hown, hts⟩ (x2_X2_fullAmount l dC dI cI cJ cZ cO ad n mo iv an T B py fu cy th k p1 hn hm hv hk h) (cwV 2 hts gL_law_X2_fullAmount rfl rfl rfl (by decide +kernel) ⟨Nat.le_of_ble_eq_true rfl, Nat.le_of_ble_eq_true rfl⟩) hK hP hD rfl (jMW_adr _ _ _ _ _ _ _ _ _ _ _ _ _ _) (fun _ => jMW_adr _ _ _ _ _ _ _ _ _ _ _ _ _ _) rfl hl rfl (Nat.le_of_ble_eq_true rfl) dL_law_916 hf1 hS (fun r u H locs hr hP hD hS => ?_)
  refine lv_istore (lv' := [(6, .int r), (5, .int (nI 2)), (0, .ref b), (1, .ref (ax 0)), (2, .ref (ad 0)), (3, .ref oa), (4, .int (nI i))]) hx hb dL_law_919 hl (by decide) rfl (fun ls hl => ?_)
  have hI2 := hI
  exact jt_I hA9 hP hl (lv_at hl 4 rfl) (lv_at hl 5 rfl) (lv_at hl 1 rfl) (lv_at hl 0 rfl) (by decide) (fun h => absurd h (by decide)) hf1 dL_law_921 dL_law_922 dL_law_925 dL_law_927 dL_law_932 dL_law_934 dL_law_937 dL_law_938 dL_law_939 dL_law_940 dL_law_942 dL_law_943 dL_law_944 dL_law_949 (by decide) (W.widen (by omega) (by omega) (go _ _ _ _ _ _ _ _ _ _ _ _ _ _ _ _ hI2 hP hD hS (lv_sub hl [2, 3, 4, 5, 6] rfl)))
set_option maxHeartbeats 4000000 in
set_option maxRecDepth 100000 in
theorem lw_carry_c (h9 : jRd p l e s m below meth c dC dI cI cJ cZ cO b L xs oa ax ad Q i cells slots n mo iv aa an kp T B py ov fu cy th H locs ls) (k : Nat) (v : Nat) (hk : k < n) (hb9 : v < 240) (e1 : xs (i + 1) = nI k) (e2 : xs (i + 2) = nI v) : W p l e room_1 s m #[Value.ref b] below meth c H locs cells slots Q (F0 m 952 ls []) := by
  obtain ⟨⟨hx, hb, hml, hown, hts, hX, hbl, hst, hZ, hK⟩, hI, hP, hD, hS, hl, hrm, hi9, hL, go⟩ := id h9
  have hA9 := h9.1
  obtain ⟨hn, hm, hv, hkp, hfr⟩ := id hI
  have hbA : ¬ s.heap.size ≤ b := Nat.not_le.mpr hbl
  have hf0 : cells ≤ 601024 ∧ slots ≤ 7293034 := ⟨by omega, by omega⟩
  refine lv_aload_n hx hb dL_law_952 rfl (lv_at hl 1 rfl) ?_
  refine j_arg (v := nI k) hx hb hX hbl hbA hS (lv_at hl 0 rfl) (lv_at hl 4 rfl) 1 rfl (by omega) hL e1 dL_law_953 dL_law_954 dL_law_956 dL_law_957 dL_law_958 ?_
  refine j_arg (v := nI v) hx hb hX hbl hbA hS (lv_at hl 0 rfl) (lv_at hl 4 rfl) 2 rfl (by omega) hL e2 dL_law_959 dL_law_960 dL_law_962 dL_law_963 dL_law_964 ?_
  refine lv_aload_n hx hb dL_law_965 rfl (lv_at hl 3 rfl) ?_
  refine j_lI (As := [.ref (ax 0), .int (nI k), .int (nI v), .ref oa]) (rest := []) ⟨hx, hb, hml, hown, hts⟩ (c_L_carry l dC dI cI cJ cZ cO oa ov ax (jao aa n) n mo iv (aa k) (an k) (kp k) (py k) k v (hv k hk) hm (by omega) (if_pos hk) hb9) (vx_cwSW 4 hts gL_law_L_carry rfl rfl rfl (by decide +kernel) ⟨Nat.le_of_ble_eq_true rfl, Nat.le_of_ble_eq_true rfl⟩) hK (j_subP hP (jl_sB hk)) (j_subD hD (jl_sB hk)) rfl hl rfl (Nat.le_of_ble_eq_true rfl) dL_law_966 hf0 hS (j_subA hD (jl_sB hk)) (fun H1 locs hP1 hk1 hS => ?_)
  obtain ⟨hP, hD⟩ := jl_put0 hk hP hD hk1 hP1
  clear hP1 hk1
  refine lv_istore (lv' := [(5, .int (nI 0)), (0, .ref b), (1, .ref (ax 0)), (2, .ref (ad 0)), (3, .ref oa), (4, .int (nI i))]) hx hb dL_law_969 hl (by decide) rfl (fun ls hl => ?_)
  refine lv_aload_n hx hb dL_law_971 rfl (lv_at hl 3 rfl) ?_
  refine j_arg (v := nI k) hx hb hX hbl hbA hS (lv_at hl 1 rfl) (lv_at hl 5 rfl) 1 rfl (by omega) hL e1 dL_law_972 dL_law_973 dL_law_975 dL_law_976 dL_law_977 ?_
  refine j_arg (v := nI v) hx hb hX hbl hbA hS (lv_at hl 1 rfl) (lv_at hl 5 rfl) 2 rfl (by omega) hL e2 dL_law_978 dL_law_979 dL_law_981 dL_law_982 dL_law_983 ?_
  refine j_mI (As := [.int (nI k), .int (nI v)]) (rest := []) ⟨hx, hb, hml, hown, hts⟩ (c_X2_carry l dC dI cI cJ cZ cO ad n mo iv an T B py fu cy th k v hn hm hv hk hb9) (cwV 2 hts gL_law_X2_carry rfl rfl rfl (by decide +kernel) ⟨Nat.le_of_ble_eq_true rfl, Nat.le_of_ble_eq_true rfl⟩) hK hP hD rfl (jMW_adr _ _ _ _ _ _ _ _ _ _ _ _ _ _) (fun _ => jMW_adr _ _ _ _ _ _ _ _ _ _ _ _ _ _) rfl hl rfl (Nat.le_of_ble_eq_true rfl) dL_law_984 hf0 hS (fun r u H locs hr hP hD hS => ?_)
  subst hr
  refine lv_istore (lv' := [(6, .int (if v < an k 0 then 0 else jC (an k) iv ((v - an k 0) / 12))), (5, .int (nI 0)), (0, .ref b), (1, .ref (ax 0)), (2, .ref (ad 0)), (3, .ref oa), (4, .int (nI i))]) hx hb dL_law_987 hl (by decide) rfl (fun ls hl => ?_)
  have hI2 := hI
  exact jt_I hA9 hP hl (lv_at hl 4 rfl) (lv_at hl 5 rfl) (lv_at hl 1 rfl) (lv_at hl 0 rfl) (by decide) (fun _ => pk_uLs) hf0 dL_law_989 dL_law_990 dL_law_993 dL_law_995 dL_law_1000 dL_law_1002 dL_law_1005 dL_law_1006 dL_law_1007 dL_law_1008 dL_law_1010 dL_law_1011 dL_law_1012 dL_law_1017 (by decide) (W.widen (by omega) (by omega) (go _ _ _ _ _ _ _ _ _ _ _ _ _ _ _ _ hI2 hP hD hS (lv_sub hl [2, 3, 4, 5, 6] rfl)))
set_option maxHeartbeats 4000000 in
set_option maxRecDepth 100000 in
theorem lw_carry_x1 (h9 : jRd p l e s m below meth c dC dI cI cJ cZ cO b L xs oa ax ad Q i cells slots n mo iv aa an kp T B py ov fu cy th H locs ls) (p0 : Int32) (p1 : Int32) (hb0 : ¬ vp_in p0 n) (e1 : xs (i + 1) = p0) (e2 : xs (i + 2) = p1) : W p l e room_1 s m #[Value.ref b] below meth c H locs cells slots Q (F0 m 952 ls []) := by
  obtain ⟨⟨hx, hb, hml, hown, hts, hX, hbl, hst, hZ, hK⟩, hI, hP, hD, hS, hl, hrm, hi9, hL, go⟩ := id h9
  have hA9 := h9.1
  obtain ⟨hn, hm, hv, hkp, hfr⟩ := id hI
  have hbA : ¬ s.heap.size ≤ b := Nat.not_le.mpr hbl
  have hf0 : cells ≤ 601024 ∧ slots ≤ 7293034 := ⟨by omega, by omega⟩
  refine lv_aload_n hx hb dL_law_952 rfl (lv_at hl 1 rfl) ?_
  refine j_arg (v := p0) hx hb hX hbl hbA hS (lv_at hl 0 rfl) (lv_at hl 4 rfl) 1 rfl (by omega) hL e1 dL_law_953 dL_law_954 dL_law_956 dL_law_957 dL_law_958 ?_
  refine j_arg (v := p1) hx hb hX hbl hbA hS (lv_at hl 0 rfl) (lv_at hl 4 rfl) 2 rfl (by omega) hL e2 dL_law_959 dL_law_960 dL_law_962 dL_law_963 dL_law_964 ?_
  refine lv_aload_n hx hb dL_law_965 rfl (lv_at hl 3 rfl) ?_
  have hZ9 : jX (fun _ => False) s H := jX.narrow (jX.kept hZ (fun a h1 h2 => hS.2.1 a h1 h2)) (fun _ h => h.elim)
  have hf1 : cells + 1 ≤ 601024 ∧ slots + 6 ≤ 7293034 := ⟨by omega, by omega⟩
  refine j_lX (As := [.ref (ax 0), .int p0, .int p1, .ref oa]) (rest := []) ⟨hx, hb, hml, hown, hts⟩ (x1_L_carry l dC dI cI cJ cZ cO ax (jao aa n) n mo p0 p1 hst hn (fun j hj => if_neg (by omega)) hb0 oa) (vx_cwSW 4 hts gL_law_L_carry rfl rfl rfl (by decide +kernel) ⟨Nat.le_of_ble_eq_true rfl, Nat.le_of_ble_eq_true rfl⟩) hZ9 hK (j_subP hP jl_s2) rfl hl rfl (Nat.le_of_ble_eq_true rfl) dL_law_966 hf1 hS (fun H1 locs hk1 hS => ?_)
  have hP := j_keep hP hk1
  clear hZ9 hk1
  refine lv_istore (lv' := [(5, .int (nI 1)), (0, .ref b), (1, .ref (ax 0)), (2, .ref (ad 0)), (3, .ref oa), (4, .int (nI i))]) hx hb dL_law_969 hl (by decide) rfl (fun ls hl => ?_)
  refine lv_aload_n hx hb dL_law_971 rfl (lv_at hl 3 rfl) ?_
  refine j_arg (v := p0) hx hb hX hbl hbA hS (lv_at hl 1 rfl) (lv_at hl 5 rfl) 1 rfl (by omega) hL e1 dL_law_972 dL_law_973 dL_law_975 dL_law_976 dL_law_977 ?_
  refine j_arg (v := p1) hx hb hX hbl hbA hS (lv_at hl 1 rfl) (lv_at hl 5 rfl) 2 rfl (by omega) hL e2 dL_law_978 dL_law_979 dL_law_981 dL_law_982 dL_law_983 ?_
  refine j_mI (As := [.int p0, .int p1]) (rest := []) ⟨hx, hb, hml, hown, hts⟩ (x1_X2_carry l dC dI cI cJ cZ cO ad n mo iv an T B py fu cy th p0 p1 hn hm hv hb0) (cwV 2 hts gL_law_X2_carry rfl rfl rfl (by decide +kernel) ⟨Nat.le_of_ble_eq_true rfl, Nat.le_of_ble_eq_true rfl⟩) hK hP hD rfl (jMW_adr _ _ _ _ _ _ _ _ _ _ _ _ _ _) (fun _ => jMW_adr _ _ _ _ _ _ _ _ _ _ _ _ _ _) rfl hl rfl (Nat.le_of_ble_eq_true rfl) dL_law_984 hf1 hS (fun r u H locs hr hP hD hS => ?_)
  refine lv_istore (lv' := [(6, .int r), (5, .int (nI 1)), (0, .ref b), (1, .ref (ax 0)), (2, .ref (ad 0)), (3, .ref oa), (4, .int (nI i))]) hx hb dL_law_987 hl (by decide) rfl (fun ls hl => ?_)
  have hI2 := hI
  exact jt_I hA9 hP hl (lv_at hl 4 rfl) (lv_at hl 5 rfl) (lv_at hl 1 rfl) (lv_at hl 0 rfl) (by decide) (fun h => absurd h (by decide)) hf1 dL_law_989 dL_law_990 dL_law_993 dL_law_995 dL_law_1000 dL_law_1002 dL_law_1005 dL_law_1006 dL_law_1007 dL_law_1008 dL_law_1010 dL_law_1011 dL_law_1012 dL_law_1017 (by decide) (W.widen (by omega) (by omega) (go _ _ _ _ _ _ _ _ _ _ _ _ _ _ _ _ hI2 hP hD hS (lv_sub hl [2, 3, 4, 5, 6] rfl)))
set_option maxHeartbeats 4000000 in
set_option maxRecDepth 100000 in
theorem lw_carry_x2 (h9 : jRd p l e s m below meth c dC dI cI cJ cZ cO b L xs oa ax ad Q i cells slots n mo iv aa an kp T B py ov fu cy th H locs ls) (k : Nat) (p1 : Int32) (hk : k < n) (h : p1 < nI 0 ∨ nI 239 < p1) (e1 : xs (i + 1) = nI k) (e2 : xs (i + 2) = p1) : W p l e room_1 s m #[Value.ref b] below meth c H locs cells slots Q (F0 m 952 ls []) := by
  obtain ⟨⟨hx, hb, hml, hown, hts, hX, hbl, hst, hZ, hK⟩, hI, hP, hD, hS, hl, hrm, hi9, hL, go⟩ := id h9
  have hA9 := h9.1
  obtain ⟨hn, hm, hv, hkp, hfr⟩ := id hI
  have hbA : ¬ s.heap.size ≤ b := Nat.not_le.mpr hbl
  have hf0 : cells ≤ 601024 ∧ slots ≤ 7293034 := ⟨by omega, by omega⟩
  refine lv_aload_n hx hb dL_law_952 rfl (lv_at hl 1 rfl) ?_
  refine j_arg (v := nI k) hx hb hX hbl hbA hS (lv_at hl 0 rfl) (lv_at hl 4 rfl) 1 rfl (by omega) hL e1 dL_law_953 dL_law_954 dL_law_956 dL_law_957 dL_law_958 ?_
  refine j_arg (v := p1) hx hb hX hbl hbA hS (lv_at hl 0 rfl) (lv_at hl 4 rfl) 2 rfl (by omega) hL e2 dL_law_959 dL_law_960 dL_law_962 dL_law_963 dL_law_964 ?_
  refine lv_aload_n hx hb dL_law_965 rfl (lv_at hl 3 rfl) ?_
  have hZ9 : jX (fun _ => False) s H := jX.narrow (jX.kept hZ (fun a h1 h2 => hS.2.1 a h1 h2)) (fun _ h => h.elim)
  have hf1 : cells + 1 ≤ 601024 ∧ slots + 6 ≤ 7293034 := ⟨by omega, by omega⟩
  refine j_lX (As := [.ref (ax 0), .int (nI k), .int p1, .ref oa]) (rest := []) ⟨hx, hb, hml, hown, hts⟩ (x2_L_carry l dC dI cI cJ cZ cO ax (jao aa n) n mo iv (aa k) (an k) (kp k) (py k) k p1 hst (hv k hk) hm (by omega) (if_pos hk) h oa) (vx_cwSW 4 hts gL_law_L_carry rfl rfl rfl (by decide +kernel) ⟨Nat.le_of_ble_eq_true rfl, Nat.le_of_ble_eq_true rfl⟩) hZ9 hK (j_subP hP (jl_s8 hk)) rfl hl rfl (Nat.le_of_ble_eq_true rfl) dL_law_966 hf1 hS (fun H1 locs hk1 hS => ?_)
  have hP := j_keep hP hk1
  clear hZ9 hk1
  refine lv_istore (lv' := [(5, .int (nI 2)), (0, .ref b), (1, .ref (ax 0)), (2, .ref (ad 0)), (3, .ref oa), (4, .int (nI i))]) hx hb dL_law_969 hl (by decide) rfl (fun ls hl => ?_)
  refine lv_aload_n hx hb dL_law_971 rfl (lv_at hl 3 rfl) ?_
  refine j_arg (v := nI k) hx hb hX hbl hbA hS (lv_at hl 1 rfl) (lv_at hl 5 rfl) 1 rfl (by omega) hL e1 dL_law_972 dL_law_973 dL_law_975 dL_law_976 dL_law_977 ?_
  refine j_arg (v := p1) hx hb hX hbl hbA hS (lv_at hl 1 rfl) (lv_at hl 5 rfl) 2 rfl (by omega) hL e2 dL_law_978 dL_law_979 dL_law_981 dL_law_982 dL_law_983 ?_
  refine j_mI (As := [.int (nI k), .int p1]) (rest := []) ⟨hx, hb, hml, hown, hts⟩ (x2_X2_carry l dC dI cI cJ cZ cO ad n mo iv an T B py fu cy th k p1 hn hm hv hk h) (cwV 2 hts gL_law_X2_carry rfl rfl rfl (by decide +kernel) ⟨Nat.le_of_ble_eq_true rfl, Nat.le_of_ble_eq_true rfl⟩) hK hP hD rfl (jMW_adr _ _ _ _ _ _ _ _ _ _ _ _ _ _) (fun _ => jMW_adr _ _ _ _ _ _ _ _ _ _ _ _ _ _) rfl hl rfl (Nat.le_of_ble_eq_true rfl) dL_law_984 hf1 hS (fun r u H locs hr hP hD hS => ?_)
  refine lv_istore (lv' := [(6, .int r), (5, .int (nI 2)), (0, .ref b), (1, .ref (ax 0)), (2, .ref (ad 0)), (3, .ref oa), (4, .int (nI i))]) hx hb dL_law_987 hl (by decide) rfl (fun ls hl => ?_)
  have hI2 := hI
  exact jt_I hA9 hP hl (lv_at hl 4 rfl) (lv_at hl 5 rfl) (lv_at hl 1 rfl) (lv_at hl 0 rfl) (by decide) (fun h => absurd h (by decide)) hf1 dL_law_989 dL_law_990 dL_law_993 dL_law_995 dL_law_1000 dL_law_1002 dL_law_1005 dL_law_1006 dL_law_1007 dL_law_1008 dL_law_1010 dL_law_1011 dL_law_1012 dL_law_1017 (by decide) (W.widen (by omega) (by omega) (go _ _ _ _ _ _ _ _ _ _ _ _ _ _ _ _ hI2 hP hD hS (lv_sub hl [2, 3, 4, 5, 6] rfl)))
set_option maxHeartbeats 4000000 in
set_option maxRecDepth 100000 in
theorem lw_entitled_c (h9 : jRd p l e s m below meth c dC dI cI cJ cZ cO b L xs oa ax ad Q i cells slots n mo iv aa an kp T B py ov fu cy th H locs ls) (k : Nat) (v : Nat) (hk : k < n) (hb9 : v < 240) (e1 : xs (i + 1) = nI k) (e2 : xs (i + 2) = nI v) : W p l e room_1 s m #[Value.ref b] below meth c H locs cells slots Q (F0 m 1020 ls []) := by
  obtain ⟨⟨hx, hb, hml, hown, hts, hX, hbl, hst, hZ, hK⟩, hI, hP, hD, hS, hl, hrm, hi9, hL, go⟩ := id h9
  have hA9 := h9.1
  obtain ⟨hn, hm, hv, hkp, hfr⟩ := id hI
  have hbA : ¬ s.heap.size ≤ b := Nat.not_le.mpr hbl
  have hf0 : cells ≤ 601024 ∧ slots ≤ 7293034 := ⟨by omega, by omega⟩
  refine lv_aload_n hx hb dL_law_1020 rfl (lv_at hl 1 rfl) ?_
  refine j_arg (v := nI k) hx hb hX hbl hbA hS (lv_at hl 0 rfl) (lv_at hl 4 rfl) 1 rfl (by omega) hL e1 dL_law_1021 dL_law_1022 dL_law_1024 dL_law_1025 dL_law_1026 ?_
  refine j_arg (v := nI v) hx hb hX hbl hbA hS (lv_at hl 0 rfl) (lv_at hl 4 rfl) 2 rfl (by omega) hL e2 dL_law_1027 dL_law_1028 dL_law_1030 dL_law_1031 dL_law_1032 ?_
  refine lv_aload_n hx hb dL_law_1033 rfl (lv_at hl 3 rfl) ?_
  refine j_lI (As := [.ref (ax 0), .int (nI k), .int (nI v), .ref oa]) (rest := []) ⟨hx, hb, hml, hown, hts⟩ (c_L_entitled l dC dI cI cJ cZ cO oa ov ax (jao aa n) n mo iv (aa k) (an k) (kp k) (py k) k v (hv k hk) hm (by omega) (if_pos hk) hb9) (vx_cwSW 4 hts gL_law_L_entitled rfl rfl rfl (by decide +kernel) ⟨Nat.le_of_ble_eq_true rfl, Nat.le_of_ble_eq_true rfl⟩) hK (j_subP hP (jl_sB hk)) (j_subD hD (jl_sB hk)) rfl hl rfl (Nat.le_of_ble_eq_true rfl) dL_law_1034 hf0 hS (j_subA hD (jl_sB hk)) (fun H1 locs hP1 hk1 hS => ?_)
  obtain ⟨hP, hD⟩ := jl_put0 hk hP hD hk1 hP1
  clear hP1 hk1
  refine lv_istore (lv' := [(5, .int (nI 0)), (0, .ref b), (1, .ref (ax 0)), (2, .ref (ad 0)), (3, .ref oa), (4, .int (nI i))]) hx hb dL_law_1037 hl (by decide) rfl (fun ls hl => ?_)
  refine lv_aload_n hx hb dL_law_1039 rfl (lv_at hl 3 rfl) ?_
  refine j_arg (v := nI k) hx hb hX hbl hbA hS (lv_at hl 1 rfl) (lv_at hl 5 rfl) 1 rfl (by omega) hL e1 dL_law_1040 dL_law_1041 dL_law_1043 dL_law_1044 dL_law_1045 ?_
  refine j_arg (v := nI v) hx hb hX hbl hbA hS (lv_at hl 1 rfl) (lv_at hl 5 rfl) 2 rfl (by omega) hL e2 dL_law_1046 dL_law_1047 dL_law_1049 dL_law_1050 dL_law_1051 ?_
  refine j_mL (As := [.int (nI k), .int (nI v)]) (rest := []) ⟨hx, hb, hml, hown, hts⟩ (c_X2_entitled l dC dI cI cJ cZ cO ad n mo iv an T B py fu cy th k v hn hm hv hk hb9) (cwV 2 hts gL_law_X2_entitled rfl rfl rfl (by decide +kernel) ⟨Nat.le_of_ble_eq_true rfl, Nat.le_of_ble_eq_true rfl⟩) hK hP hD rfl (jMW_adr _ _ _ _ _ _ _ _ _ _ _ _ _ _) (fun _ => jMW_adr _ _ _ _ _ _ _ _ _ _ _ _ _ _) rfl hl rfl (Nat.le_of_ble_eq_true rfl) dL_law_1052 hf0 hS (fun r u H locs hr hP hD hS => ?_)
  subst hr
  refine lv_lstore (lv' := [(6, .long (lN (jU (an k) iv (v + 1)) - lN (jU (an k) iv v))), (5, .int (nI 0)), (0, .ref b), (1, .ref (ax 0)), (2, .ref (ad 0)), (3, .ref oa), (4, .int (nI i))]) hx hb dL_law_1055 hl (by decide) rfl (fun ls hl => ?_)
  have hI2 := hI
  exact jt_L hA9 hP hl (lv_at hl 4 rfl) (lv_at hl 5 rfl) (lv_at hl 1 rfl) (lv_at hl 0 rfl) (by decide) (fun _ => pk_uLs.trans (jq_entitled (an k) iv v)) hf0 dL_law_1057 dL_law_1058 dL_law_1061 dL_law_1063 dL_law_1068 dL_law_1070 dL_law_1073 dL_law_1074 dL_law_1075 dL_law_1076 dL_law_1078 dL_law_1079 dL_law_1084 (by decide) (W.widen (by omega) (by omega) (go _ _ _ _ _ _ _ _ _ _ _ _ _ _ _ _ hI2 hP hD hS (lv_sub hl [2, 3, 4, 5, 6] rfl)))
set_option maxHeartbeats 4000000 in
set_option maxRecDepth 100000 in
theorem lw_entitled_x1 (h9 : jRd p l e s m below meth c dC dI cI cJ cZ cO b L xs oa ax ad Q i cells slots n mo iv aa an kp T B py ov fu cy th H locs ls) (p0 : Int32) (p1 : Int32) (hb0 : ¬ vp_in p0 n) (e1 : xs (i + 1) = p0) (e2 : xs (i + 2) = p1) : W p l e room_1 s m #[Value.ref b] below meth c H locs cells slots Q (F0 m 1020 ls []) := by
  obtain ⟨⟨hx, hb, hml, hown, hts, hX, hbl, hst, hZ, hK⟩, hI, hP, hD, hS, hl, hrm, hi9, hL, go⟩ := id h9
  have hA9 := h9.1
  obtain ⟨hn, hm, hv, hkp, hfr⟩ := id hI
  have hbA : ¬ s.heap.size ≤ b := Nat.not_le.mpr hbl
  have hf0 : cells ≤ 601024 ∧ slots ≤ 7293034 := ⟨by omega, by omega⟩
  refine lv_aload_n hx hb dL_law_1020 rfl (lv_at hl 1 rfl) ?_
  refine j_arg (v := p0) hx hb hX hbl hbA hS (lv_at hl 0 rfl) (lv_at hl 4 rfl) 1 rfl (by omega) hL e1 dL_law_1021 dL_law_1022 dL_law_1024 dL_law_1025 dL_law_1026 ?_
  refine j_arg (v := p1) hx hb hX hbl hbA hS (lv_at hl 0 rfl) (lv_at hl 4 rfl) 2 rfl (by omega) hL e2 dL_law_1027 dL_law_1028 dL_law_1030 dL_law_1031 dL_law_1032 ?_
  refine lv_aload_n hx hb dL_law_1033 rfl (lv_at hl 3 rfl) ?_
  have hZ9 : jX (fun _ => False) s H := jX.narrow (jX.kept hZ (fun a h1 h2 => hS.2.1 a h1 h2)) (fun _ h => h.elim)
  have hf1 : cells + 1 ≤ 601024 ∧ slots + 6 ≤ 7293034 := ⟨by omega, by omega⟩
  refine j_lX (As := [.ref (ax 0), .int p0, .int p1, .ref oa]) (rest := []) ⟨hx, hb, hml, hown, hts⟩ (x1_L_entitled l dC dI cI cJ cZ cO ax (jao aa n) n mo p0 p1 hst hn (fun j hj => if_neg (by omega)) hb0 oa) (vx_cwSW 4 hts gL_law_L_entitled rfl rfl rfl (by decide +kernel) ⟨Nat.le_of_ble_eq_true rfl, Nat.le_of_ble_eq_true rfl⟩) hZ9 hK (j_subP hP jl_s2) rfl hl rfl (Nat.le_of_ble_eq_true rfl) dL_law_1034 hf1 hS (fun H1 locs hk1 hS => ?_)
  have hP := j_keep hP hk1
  clear hZ9 hk1
  refine lv_istore (lv' := [(5, .int (nI 1)), (0, .ref b), (1, .ref (ax 0)), (2, .ref (ad 0)), (3, .ref oa), (4, .int (nI i))]) hx hb dL_law_1037 hl (by decide) rfl (fun ls hl => ?_)
  refine lv_aload_n hx hb dL_law_1039 rfl (lv_at hl 3 rfl) ?_
  refine j_arg (v := p0) hx hb hX hbl hbA hS (lv_at hl 1 rfl) (lv_at hl 5 rfl) 1 rfl (by omega) hL e1 dL_law_1040 dL_law_1041 dL_law_1043 dL_law_1044 dL_law_1045 ?_
  refine j_arg (v := p1) hx hb hX hbl hbA hS (lv_at hl 1 rfl) (lv_at hl 5 rfl) 2 rfl (by omega) hL e2 dL_law_1046 dL_law_1047 dL_law_1049 dL_law_1050 dL_law_1051 ?_
  refine j_mL (As := [.int p0, .int p1]) (rest := []) ⟨hx, hb, hml, hown, hts⟩ (x1_X2_entitled l dC dI cI cJ cZ cO ad n mo iv an T B py fu cy th p0 p1 hn hm hv hb0) (cwV 2 hts gL_law_X2_entitled rfl rfl rfl (by decide +kernel) ⟨Nat.le_of_ble_eq_true rfl, Nat.le_of_ble_eq_true rfl⟩) hK hP hD rfl (jMW_adr _ _ _ _ _ _ _ _ _ _ _ _ _ _) (fun _ => jMW_adr _ _ _ _ _ _ _ _ _ _ _ _ _ _) rfl hl rfl (Nat.le_of_ble_eq_true rfl) dL_law_1052 hf1 hS (fun r u H locs hr hP hD hS => ?_)
  refine lv_lstore (lv' := [(6, .long r), (5, .int (nI 1)), (0, .ref b), (1, .ref (ax 0)), (2, .ref (ad 0)), (3, .ref oa), (4, .int (nI i))]) hx hb dL_law_1055 hl (by decide) rfl (fun ls hl => ?_)
  have hI2 := hI
  exact jt_L hA9 hP hl (lv_at hl 4 rfl) (lv_at hl 5 rfl) (lv_at hl 1 rfl) (lv_at hl 0 rfl) (by decide) (fun h => absurd h (by decide)) hf1 dL_law_1057 dL_law_1058 dL_law_1061 dL_law_1063 dL_law_1068 dL_law_1070 dL_law_1073 dL_law_1074 dL_law_1075 dL_law_1076 dL_law_1078 dL_law_1079 dL_law_1084 (by decide) (W.widen (by omega) (by omega) (go _ _ _ _ _ _ _ _ _ _ _ _ _ _ _ _ hI2 hP hD hS (lv_sub hl [2, 3, 4, 5, 6] rfl)))
set_option maxHeartbeats 4000000 in
set_option maxRecDepth 100000 in
theorem lw_entitled_x2 (h9 : jRd p l e s m below meth c dC dI cI cJ cZ cO b L xs oa ax ad Q i cells slots n mo iv aa an kp T B py ov fu cy th H locs ls) (k : Nat) (p1 : Int32) (hk : k < n) (h : p1 < nI 0 ∨ nI 239 < p1) (e1 : xs (i + 1) = nI k) (e2 : xs (i + 2) = p1) : W p l e room_1 s m #[Value.ref b] below meth c H locs cells slots Q (F0 m 1020 ls []) := by
  obtain ⟨⟨hx, hb, hml, hown, hts, hX, hbl, hst, hZ, hK⟩, hI, hP, hD, hS, hl, hrm, hi9, hL, go⟩ := id h9
  have hA9 := h9.1
  obtain ⟨hn, hm, hv, hkp, hfr⟩ := id hI
  have hbA : ¬ s.heap.size ≤ b := Nat.not_le.mpr hbl
  have hf0 : cells ≤ 601024 ∧ slots ≤ 7293034 := ⟨by omega, by omega⟩
  refine lv_aload_n hx hb dL_law_1020 rfl (lv_at hl 1 rfl) ?_
  refine j_arg (v := nI k) hx hb hX hbl hbA hS (lv_at hl 0 rfl) (lv_at hl 4 rfl) 1 rfl (by omega) hL e1 dL_law_1021 dL_law_1022 dL_law_1024 dL_law_1025 dL_law_1026 ?_
  refine j_arg (v := p1) hx hb hX hbl hbA hS (lv_at hl 0 rfl) (lv_at hl 4 rfl) 2 rfl (by omega) hL e2 dL_law_1027 dL_law_1028 dL_law_1030 dL_law_1031 dL_law_1032 ?_
  refine lv_aload_n hx hb dL_law_1033 rfl (lv_at hl 3 rfl) ?_
  have hZ9 : jX (fun _ => False) s H := jX.narrow (jX.kept hZ (fun a h1 h2 => hS.2.1 a h1 h2)) (fun _ h => h.elim)
  have hf1 : cells + 1 ≤ 601024 ∧ slots + 6 ≤ 7293034 := ⟨by omega, by omega⟩
  refine j_lX (As := [.ref (ax 0), .int (nI k), .int p1, .ref oa]) (rest := []) ⟨hx, hb, hml, hown, hts⟩ (x2_L_entitled l dC dI cI cJ cZ cO ax (jao aa n) n mo iv (aa k) (an k) (kp k) (py k) k p1 hst (hv k hk) hm (by omega) (if_pos hk) h oa) (vx_cwSW 4 hts gL_law_L_entitled rfl rfl rfl (by decide +kernel) ⟨Nat.le_of_ble_eq_true rfl, Nat.le_of_ble_eq_true rfl⟩) hZ9 hK (j_subP hP (jl_s8 hk)) rfl hl rfl (Nat.le_of_ble_eq_true rfl) dL_law_1034 hf1 hS (fun H1 locs hk1 hS => ?_)
  have hP := j_keep hP hk1
  clear hZ9 hk1
  refine lv_istore (lv' := [(5, .int (nI 2)), (0, .ref b), (1, .ref (ax 0)), (2, .ref (ad 0)), (3, .ref oa), (4, .int (nI i))]) hx hb dL_law_1037 hl (by decide) rfl (fun ls hl => ?_)
  refine lv_aload_n hx hb dL_law_1039 rfl (lv_at hl 3 rfl) ?_
  refine j_arg (v := nI k) hx hb hX hbl hbA hS (lv_at hl 1 rfl) (lv_at hl 5 rfl) 1 rfl (by omega) hL e1 dL_law_1040 dL_law_1041 dL_law_1043 dL_law_1044 dL_law_1045 ?_
  refine j_arg (v := p1) hx hb hX hbl hbA hS (lv_at hl 1 rfl) (lv_at hl 5 rfl) 2 rfl (by omega) hL e2 dL_law_1046 dL_law_1047 dL_law_1049 dL_law_1050 dL_law_1051 ?_
  refine j_mL (As := [.int (nI k), .int p1]) (rest := []) ⟨hx, hb, hml, hown, hts⟩ (x2_X2_entitled l dC dI cI cJ cZ cO ad n mo iv an T B py fu cy th k p1 hn hm hv hk h) (cwV 2 hts gL_law_X2_entitled rfl rfl rfl (by decide +kernel) ⟨Nat.le_of_ble_eq_true rfl, Nat.le_of_ble_eq_true rfl⟩) hK hP hD rfl (jMW_adr _ _ _ _ _ _ _ _ _ _ _ _ _ _) (fun _ => jMW_adr _ _ _ _ _ _ _ _ _ _ _ _ _ _) rfl hl rfl (Nat.le_of_ble_eq_true rfl) dL_law_1052 hf1 hS (fun r u H locs hr hP hD hS => ?_)
  refine lv_lstore (lv' := [(6, .long r), (5, .int (nI 2)), (0, .ref b), (1, .ref (ax 0)), (2, .ref (ad 0)), (3, .ref oa), (4, .int (nI i))]) hx hb dL_law_1055 hl (by decide) rfl (fun ls hl => ?_)
  have hI2 := hI
  exact jt_L hA9 hP hl (lv_at hl 4 rfl) (lv_at hl 5 rfl) (lv_at hl 1 rfl) (lv_at hl 0 rfl) (by decide) (fun h => absurd h (by decide)) hf1 dL_law_1057 dL_law_1058 dL_law_1061 dL_law_1063 dL_law_1068 dL_law_1070 dL_law_1073 dL_law_1074 dL_law_1075 dL_law_1076 dL_law_1078 dL_law_1079 dL_law_1084 (by decide) (W.widen (by omega) (by omega) (go _ _ _ _ _ _ _ _ _ _ _ _ _ _ _ _ hI2 hP hD hS (lv_sub hl [2, 3, 4, 5, 6] rfl)))
set_option maxHeartbeats 4000000 in
set_option maxRecDepth 100000 in
theorem lw_entitledUpTo_c (h9 : jRd p l e s m below meth c dC dI cI cJ cZ cO b L xs oa ax ad Q i cells slots n mo iv aa an kp T B py ov fu cy th H locs ls) (k : Nat) (v : Nat) (hk : k < n) (hb9 : v < 240) (e1 : xs (i + 1) = nI k) (e2 : xs (i + 2) = nI v) : W p l e room_1 s m #[Value.ref b] below meth c H locs cells slots Q (F0 m 1087 ls []) := by
  obtain ⟨⟨hx, hb, hml, hown, hts, hX, hbl, hst, hZ, hK⟩, hI, hP, hD, hS, hl, hrm, hi9, hL, go⟩ := id h9
  have hA9 := h9.1
  obtain ⟨hn, hm, hv, hkp, hfr⟩ := id hI
  have hbA : ¬ s.heap.size ≤ b := Nat.not_le.mpr hbl
  have hf0 : cells ≤ 601024 ∧ slots ≤ 7293034 := ⟨by omega, by omega⟩
  refine lv_aload_n hx hb dL_law_1087 rfl (lv_at hl 1 rfl) ?_
  refine j_arg (v := nI k) hx hb hX hbl hbA hS (lv_at hl 0 rfl) (lv_at hl 4 rfl) 1 rfl (by omega) hL e1 dL_law_1088 dL_law_1089 dL_law_1091 dL_law_1092 dL_law_1093 ?_
  refine j_arg (v := nI v) hx hb hX hbl hbA hS (lv_at hl 0 rfl) (lv_at hl 4 rfl) 2 rfl (by omega) hL e2 dL_law_1094 dL_law_1095 dL_law_1097 dL_law_1098 dL_law_1099 ?_
  refine lv_aload_n hx hb dL_law_1100 rfl (lv_at hl 3 rfl) ?_
  refine j_lI (As := [.ref (ax 0), .int (nI k), .int (nI v), .ref oa]) (rest := []) ⟨hx, hb, hml, hown, hts⟩ (c_L_entitledUpTo l dC dI cI cJ cZ cO oa ov ax (jao aa n) n mo iv (aa k) (an k) (kp k) (py k) k v (hv k hk) hm (by omega) (if_pos hk) hb9) (vx_cwSW 4 hts gL_law_L_entitledUpTo rfl rfl rfl (by decide +kernel) ⟨Nat.le_of_ble_eq_true rfl, Nat.le_of_ble_eq_true rfl⟩) hK (j_subP hP (jl_sB hk)) (j_subD hD (jl_sB hk)) rfl hl rfl (Nat.le_of_ble_eq_true rfl) dL_law_1101 hf0 hS (j_subA hD (jl_sB hk)) (fun H1 locs hP1 hk1 hS => ?_)
  obtain ⟨hP, hD⟩ := jl_put0 hk hP hD hk1 hP1
  clear hP1 hk1
  refine lv_istore (lv' := [(5, .int (nI 0)), (0, .ref b), (1, .ref (ax 0)), (2, .ref (ad 0)), (3, .ref oa), (4, .int (nI i))]) hx hb dL_law_1104 hl (by decide) rfl (fun ls hl => ?_)
  refine lv_aload_n hx hb dL_law_1106 rfl (lv_at hl 3 rfl) ?_
  refine j_arg (v := nI k) hx hb hX hbl hbA hS (lv_at hl 1 rfl) (lv_at hl 5 rfl) 1 rfl (by omega) hL e1 dL_law_1107 dL_law_1108 dL_law_1110 dL_law_1111 dL_law_1112 ?_
  refine j_arg (v := nI v) hx hb hX hbl hbA hS (lv_at hl 1 rfl) (lv_at hl 5 rfl) 2 rfl (by omega) hL e2 dL_law_1113 dL_law_1114 dL_law_1116 dL_law_1117 dL_law_1118 ?_
  refine j_mL (As := [.int (nI k), .int (nI v)]) (rest := []) ⟨hx, hb, hml, hown, hts⟩ (c_X2_entitledUpTo l dC dI cI cJ cZ cO ad n mo iv an T B py fu cy th k v hn hm hv hk hb9) (cwV 2 hts gL_law_X2_entitledUpTo rfl rfl rfl (by decide +kernel) ⟨Nat.le_of_ble_eq_true rfl, Nat.le_of_ble_eq_true rfl⟩) hK hP hD rfl (jMW_adr _ _ _ _ _ _ _ _ _ _ _ _ _ _) (fun _ => jMW_adr _ _ _ _ _ _ _ _ _ _ _ _ _ _) rfl hl rfl (Nat.le_of_ble_eq_true rfl) dL_law_1119 hf0 hS (fun r u H locs hr hP hD hS => ?_)
  subst hr
  refine lv_lstore (lv' := [(6, .long (lN (jU (an k) iv (v + 1)))), (5, .int (nI 0)), (0, .ref b), (1, .ref (ax 0)), (2, .ref (ad 0)), (3, .ref oa), (4, .int (nI i))]) hx hb dL_law_1122 hl (by decide) rfl (fun ls hl => ?_)
  have hI2 := hI
  exact jt_L hA9 hP hl (lv_at hl 4 rfl) (lv_at hl 5 rfl) (lv_at hl 1 rfl) (lv_at hl 0 rfl) (by decide) (fun _ => pk_uLs) hf0 dL_law_1124 dL_law_1125 dL_law_1128 dL_law_1130 dL_law_1135 dL_law_1137 dL_law_1140 dL_law_1141 dL_law_1142 dL_law_1143 dL_law_1145 dL_law_1146 dL_law_1151 (by decide) (W.widen (by omega) (by omega) (go _ _ _ _ _ _ _ _ _ _ _ _ _ _ _ _ hI2 hP hD hS (lv_sub hl [2, 3, 4, 5, 6] rfl)))
set_option maxHeartbeats 4000000 in
set_option maxRecDepth 100000 in
theorem lw_entitledUpTo_x1 (h9 : jRd p l e s m below meth c dC dI cI cJ cZ cO b L xs oa ax ad Q i cells slots n mo iv aa an kp T B py ov fu cy th H locs ls) (p0 : Int32) (p1 : Int32) (hb0 : ¬ vp_in p0 n) (e1 : xs (i + 1) = p0) (e2 : xs (i + 2) = p1) : W p l e room_1 s m #[Value.ref b] below meth c H locs cells slots Q (F0 m 1087 ls []) := by
  obtain ⟨⟨hx, hb, hml, hown, hts, hX, hbl, hst, hZ, hK⟩, hI, hP, hD, hS, hl, hrm, hi9, hL, go⟩ := id h9
  have hA9 := h9.1
  obtain ⟨hn, hm, hv, hkp, hfr⟩ := id hI
  have hbA : ¬ s.heap.size ≤ b := Nat.not_le.mpr hbl
  have hf0 : cells ≤ 601024 ∧ slots ≤ 7293034 := ⟨by omega, by omega⟩
  refine lv_aload_n hx hb dL_law_1087 rfl (lv_at hl 1 rfl) ?_
  refine j_arg (v := p0) hx hb hX hbl hbA hS (lv_at hl 0 rfl) (lv_at hl 4 rfl) 1 rfl (by omega) hL e1 dL_law_1088 dL_law_1089 dL_law_1091 dL_law_1092 dL_law_1093 ?_
  refine j_arg (v := p1) hx hb hX hbl hbA hS (lv_at hl 0 rfl) (lv_at hl 4 rfl) 2 rfl (by omega) hL e2 dL_law_1094 dL_law_1095 dL_law_1097 dL_law_1098 dL_law_1099 ?_
  refine lv_aload_n hx hb dL_law_1100 rfl (lv_at hl 3 rfl) ?_
  have hZ9 : jX (fun _ => False) s H := jX.narrow (jX.kept hZ (fun a h1 h2 => hS.2.1 a h1 h2)) (fun _ h => h.elim)
  have hf1 : cells + 1 ≤ 601024 ∧ slots + 6 ≤ 7293034 := ⟨by omega, by omega⟩
  refine j_lX (As := [.ref (ax 0), .int p0, .int p1, .ref oa]) (rest := []) ⟨hx, hb, hml, hown, hts⟩ (x1_L_entitledUpTo l dC dI cI cJ cZ cO ax (jao aa n) n mo p0 p1 hst hn (fun j hj => if_neg (by omega)) hb0 oa) (vx_cwSW 4 hts gL_law_L_entitledUpTo rfl rfl rfl (by decide +kernel) ⟨Nat.le_of_ble_eq_true rfl, Nat.le_of_ble_eq_true rfl⟩) hZ9 hK (j_subP hP jl_s2) rfl hl rfl (Nat.le_of_ble_eq_true rfl) dL_law_1101 hf1 hS (fun H1 locs hk1 hS => ?_)
  have hP := j_keep hP hk1
  clear hZ9 hk1
  refine lv_istore (lv' := [(5, .int (nI 1)), (0, .ref b), (1, .ref (ax 0)), (2, .ref (ad 0)), (3, .ref oa), (4, .int (nI i))]) hx hb dL_law_1104 hl (by decide) rfl (fun ls hl => ?_)
  refine lv_aload_n hx hb dL_law_1106 rfl (lv_at hl 3 rfl) ?_
  refine j_arg (v := p0) hx hb hX hbl hbA hS (lv_at hl 1 rfl) (lv_at hl 5 rfl) 1 rfl (by omega) hL e1 dL_law_1107 dL_law_1108 dL_law_1110 dL_law_1111 dL_law_1112 ?_
  refine j_arg (v := p1) hx hb hX hbl hbA hS (lv_at hl 1 rfl) (lv_at hl 5 rfl) 2 rfl (by omega) hL e2 dL_law_1113 dL_law_1114 dL_law_1116 dL_law_1117 dL_law_1118 ?_
  refine j_mL (As := [.int p0, .int p1]) (rest := []) ⟨hx, hb, hml, hown, hts⟩ (x1_X2_entitledUpTo l dC dI cI cJ cZ cO ad n mo iv an T B py fu cy th p0 p1 hn hm hv hb0) (cwV 2 hts gL_law_X2_entitledUpTo rfl rfl rfl (by decide +kernel) ⟨Nat.le_of_ble_eq_true rfl, Nat.le_of_ble_eq_true rfl⟩) hK hP hD rfl (jMW_adr _ _ _ _ _ _ _ _ _ _ _ _ _ _) (fun _ => jMW_adr _ _ _ _ _ _ _ _ _ _ _ _ _ _) rfl hl rfl (Nat.le_of_ble_eq_true rfl) dL_law_1119 hf1 hS (fun r u H locs hr hP hD hS => ?_)
  refine lv_lstore (lv' := [(6, .long r), (5, .int (nI 1)), (0, .ref b), (1, .ref (ax 0)), (2, .ref (ad 0)), (3, .ref oa), (4, .int (nI i))]) hx hb dL_law_1122 hl (by decide) rfl (fun ls hl => ?_)
  have hI2 := hI
  exact jt_L hA9 hP hl (lv_at hl 4 rfl) (lv_at hl 5 rfl) (lv_at hl 1 rfl) (lv_at hl 0 rfl) (by decide) (fun h => absurd h (by decide)) hf1 dL_law_1124 dL_law_1125 dL_law_1128 dL_law_1130 dL_law_1135 dL_law_1137 dL_law_1140 dL_law_1141 dL_law_1142 dL_law_1143 dL_law_1145 dL_law_1146 dL_law_1151 (by decide) (W.widen (by omega) (by omega) (go _ _ _ _ _ _ _ _ _ _ _ _ _ _ _ _ hI2 hP hD hS (lv_sub hl [2, 3, 4, 5, 6] rfl)))
set_option maxHeartbeats 4000000 in
set_option maxRecDepth 100000 in
theorem lw_entitledUpTo_x2 (h9 : jRd p l e s m below meth c dC dI cI cJ cZ cO b L xs oa ax ad Q i cells slots n mo iv aa an kp T B py ov fu cy th H locs ls) (k : Nat) (p1 : Int32) (hk : k < n) (h : p1 < nI 0 ∨ nI 239 < p1) (e1 : xs (i + 1) = nI k) (e2 : xs (i + 2) = p1) : W p l e room_1 s m #[Value.ref b] below meth c H locs cells slots Q (F0 m 1087 ls []) := by
  obtain ⟨⟨hx, hb, hml, hown, hts, hX, hbl, hst, hZ, hK⟩, hI, hP, hD, hS, hl, hrm, hi9, hL, go⟩ := id h9
  have hA9 := h9.1
  obtain ⟨hn, hm, hv, hkp, hfr⟩ := id hI
  have hbA : ¬ s.heap.size ≤ b := Nat.not_le.mpr hbl
  have hf0 : cells ≤ 601024 ∧ slots ≤ 7293034 := ⟨by omega, by omega⟩
  refine lv_aload_n hx hb dL_law_1087 rfl (lv_at hl 1 rfl) ?_
  refine j_arg (v := nI k) hx hb hX hbl hbA hS (lv_at hl 0 rfl) (lv_at hl 4 rfl) 1 rfl (by omega) hL e1 dL_law_1088 dL_law_1089 dL_law_1091 dL_law_1092 dL_law_1093 ?_
  refine j_arg (v := p1) hx hb hX hbl hbA hS (lv_at hl 0 rfl) (lv_at hl 4 rfl) 2 rfl (by omega) hL e2 dL_law_1094 dL_law_1095 dL_law_1097 dL_law_1098 dL_law_1099 ?_
  refine lv_aload_n hx hb dL_law_1100 rfl (lv_at hl 3 rfl) ?_
  have hZ9 : jX (fun _ => False) s H := jX.narrow (jX.kept hZ (fun a h1 h2 => hS.2.1 a h1 h2)) (fun _ h => h.elim)
  have hf1 : cells + 1 ≤ 601024 ∧ slots + 6 ≤ 7293034 := ⟨by omega, by omega⟩
  refine j_lX (As := [.ref (ax 0), .int (nI k), .int p1, .ref oa]) (rest := []) ⟨hx, hb, hml, hown, hts⟩ (x2_L_entitledUpTo l dC dI cI cJ cZ cO ax (jao aa n) n mo iv (aa k) (an k) (kp k) (py k) k p1 hst (hv k hk) hm (by omega) (if_pos hk) h oa) (vx_cwSW 4 hts gL_law_L_entitledUpTo rfl rfl rfl (by decide +kernel) ⟨Nat.le_of_ble_eq_true rfl, Nat.le_of_ble_eq_true rfl⟩) hZ9 hK (j_subP hP (jl_s8 hk)) rfl hl rfl (Nat.le_of_ble_eq_true rfl) dL_law_1101 hf1 hS (fun H1 locs hk1 hS => ?_)
  have hP := j_keep hP hk1
  clear hZ9 hk1
  refine lv_istore (lv' := [(5, .int (nI 2)), (0, .ref b), (1, .ref (ax 0)), (2, .ref (ad 0)), (3, .ref oa), (4, .int (nI i))]) hx hb dL_law_1104 hl (by decide) rfl (fun ls hl => ?_)
  refine lv_aload_n hx hb dL_law_1106 rfl (lv_at hl 3 rfl) ?_
  refine j_arg (v := nI k) hx hb hX hbl hbA hS (lv_at hl 1 rfl) (lv_at hl 5 rfl) 1 rfl (by omega) hL e1 dL_law_1107 dL_law_1108 dL_law_1110 dL_law_1111 dL_law_1112 ?_
  refine j_arg (v := p1) hx hb hX hbl hbA hS (lv_at hl 1 rfl) (lv_at hl 5 rfl) 2 rfl (by omega) hL e2 dL_law_1113 dL_law_1114 dL_law_1116 dL_law_1117 dL_law_1118 ?_
  refine j_mL (As := [.int (nI k), .int p1]) (rest := []) ⟨hx, hb, hml, hown, hts⟩ (x2_X2_entitledUpTo l dC dI cI cJ cZ cO ad n mo iv an T B py fu cy th k p1 hn hm hv hk h) (cwV 2 hts gL_law_X2_entitledUpTo rfl rfl rfl (by decide +kernel) ⟨Nat.le_of_ble_eq_true rfl, Nat.le_of_ble_eq_true rfl⟩) hK hP hD rfl (jMW_adr _ _ _ _ _ _ _ _ _ _ _ _ _ _) (fun _ => jMW_adr _ _ _ _ _ _ _ _ _ _ _ _ _ _) rfl hl rfl (Nat.le_of_ble_eq_true rfl) dL_law_1119 hf1 hS (fun r u H locs hr hP hD hS => ?_)
  refine lv_lstore (lv' := [(6, .long r), (5, .int (nI 2)), (0, .ref b), (1, .ref (ax 0)), (2, .ref (ad 0)), (3, .ref oa), (4, .int (nI i))]) hx hb dL_law_1122 hl (by decide) rfl (fun ls hl => ?_)
  have hI2 := hI
  exact jt_L hA9 hP hl (lv_at hl 4 rfl) (lv_at hl 5 rfl) (lv_at hl 1 rfl) (lv_at hl 0 rfl) (by decide) (fun h => absurd h (by decide)) hf1 dL_law_1124 dL_law_1125 dL_law_1128 dL_law_1130 dL_law_1135 dL_law_1137 dL_law_1140 dL_law_1141 dL_law_1142 dL_law_1143 dL_law_1145 dL_law_1146 dL_law_1151 (by decide) (W.widen (by omega) (by omega) (go _ _ _ _ _ _ _ _ _ _ _ _ _ _ _ _ hI2 hP hD hS (lv_sub hl [2, 3, 4, 5, 6] rfl)))
set_option maxHeartbeats 4000000 in
set_option maxRecDepth 100000 in
theorem lw_protection_c (h9 : jRd p l e s m below meth c dC dI cI cJ cZ cO b L xs oa ax ad Q i cells slots n mo iv aa an kp T B py ov fu cy th H locs ls) (k : Nat) (hk : k < n) (e1 : xs (i + 1) = nI k) : W p l e room_1 s m #[Value.ref b] below meth c H locs cells slots Q (F0 m 1154 ls []) := by
  obtain ⟨⟨hx, hb, hml, hown, hts, hX, hbl, hst, hZ, hK⟩, hI, hP, hD, hS, hl, hrm, hi9, hL, go⟩ := id h9
  have hA9 := h9.1
  obtain ⟨hn, hm, hv, hkp, hfr⟩ := id hI
  have hbA : ¬ s.heap.size ≤ b := Nat.not_le.mpr hbl
  have hf0 : cells ≤ 601024 ∧ slots ≤ 7293034 := ⟨by omega, by omega⟩
  refine lv_aload_n hx hb dL_law_1154 rfl (lv_at hl 1 rfl) ?_
  refine j_arg (v := nI k) hx hb hX hbl hbA hS (lv_at hl 0 rfl) (lv_at hl 4 rfl) 1 rfl (by omega) hL e1 dL_law_1155 dL_law_1156 dL_law_1158 dL_law_1159 dL_law_1160 ?_
  refine lv_aload_n hx hb dL_law_1161 rfl (lv_at hl 3 rfl) ?_
  refine j_lI (As := [.ref (ax 0), .int (nI k), .ref oa]) (rest := []) ⟨hx, hb, hml, hown, hts⟩ (c_L_protection l dC dI cI cJ cZ cO oa ov ax (jao aa n) n mo iv (aa k) (an k) (kp k) (py k) k (hv k hk) hm (by omega) (if_pos hk)) (vx_cwSW 3 hts gL_law_L_protection rfl rfl rfl (by decide +kernel) ⟨Nat.le_of_ble_eq_true rfl, Nat.le_of_ble_eq_true rfl⟩) hK (j_subP hP (jl_sB hk)) (j_subD hD (jl_sB hk)) rfl hl rfl (Nat.le_of_ble_eq_true rfl) dL_law_1162 hf0 hS (j_subA hD (jl_sB hk)) (fun H1 locs hP1 hk1 hS => ?_)
  obtain ⟨hP, hD⟩ := jl_put0 hk hP hD hk1 hP1
  clear hP1 hk1
  refine lv_istore (lv' := [(5, .int (nI 0)), (0, .ref b), (1, .ref (ax 0)), (2, .ref (ad 0)), (3, .ref oa), (4, .int (nI i))]) hx hb dL_law_1165 hl (by decide) rfl (fun ls hl => ?_)
  refine lv_aload_n hx hb dL_law_1167 rfl (lv_at hl 3 rfl) ?_
  refine j_arg (v := nI k) hx hb hX hbl hbA hS (lv_at hl 1 rfl) (lv_at hl 5 rfl) 1 rfl (by omega) hL e1 dL_law_1168 dL_law_1169 dL_law_1171 dL_law_1172 dL_law_1173 ?_
  refine j_mL (As := [.int (nI k)]) (rest := []) ⟨hx, hb, hml, hown, hts⟩ (c_X2_protection l dC dI cI cJ cZ cO ad n mo iv an T B py fu cy th k hn hm hv hk) (cwV 1 hts gL_law_X2_protection rfl rfl rfl (by decide +kernel) ⟨Nat.le_of_ble_eq_true rfl, Nat.le_of_ble_eq_true rfl⟩) hK hP hD rfl (jMW_adr _ _ _ _ _ _ _ _ _ _ _ _ _ _) (fun _ => jMW_adr _ _ _ _ _ _ _ _ _ _ _ _ _ _) rfl hl rfl (Nat.le_of_ble_eq_true rfl) dL_law_1174 hf0 hS (fun r u H locs hr hP hD hS => ?_)
  subst hr
  refine lv_lstore (lv' := [(6, .long (lN (jQ (an k) iv))), (5, .int (nI 0)), (0, .ref b), (1, .ref (ax 0)), (2, .ref (ad 0)), (3, .ref oa), (4, .int (nI i))]) hx hb dL_law_1177 hl (by decide) rfl (fun ls hl => ?_)
  have hI2 := hI
  exact jt_L hA9 hP hl (lv_at hl 4 rfl) (lv_at hl 5 rfl) (lv_at hl 1 rfl) (lv_at hl 0 rfl) (by decide) (fun _ => pk_uLs) hf0 dL_law_1179 dL_law_1180 dL_law_1183 dL_law_1185 dL_law_1190 dL_law_1192 dL_law_1195 dL_law_1196 dL_law_1197 dL_law_1198 dL_law_1200 dL_law_1201 dL_law_1206 (by decide) (W.widen (by omega) (by omega) (go _ _ _ _ _ _ _ _ _ _ _ _ _ _ _ _ hI2 hP hD hS (lv_sub hl [2, 3, 4, 5, 6] rfl)))
set_option maxHeartbeats 4000000 in
set_option maxRecDepth 100000 in
theorem lw_protection_x1 (h9 : jRd p l e s m below meth c dC dI cI cJ cZ cO b L xs oa ax ad Q i cells slots n mo iv aa an kp T B py ov fu cy th H locs ls) (p0 : Int32) (hb0 : ¬ vp_in p0 n) (e1 : xs (i + 1) = p0) : W p l e room_1 s m #[Value.ref b] below meth c H locs cells slots Q (F0 m 1154 ls []) := by
  obtain ⟨⟨hx, hb, hml, hown, hts, hX, hbl, hst, hZ, hK⟩, hI, hP, hD, hS, hl, hrm, hi9, hL, go⟩ := id h9
  have hA9 := h9.1
  obtain ⟨hn, hm, hv, hkp, hfr⟩ := id hI
  have hbA : ¬ s.heap.size ≤ b := Nat.not_le.mpr hbl
  have hf0 : cells ≤ 601024 ∧ slots ≤ 7293034 := ⟨by omega, by omega⟩
  refine lv_aload_n hx hb dL_law_1154 rfl (lv_at hl 1 rfl) ?_
  refine j_arg (v := p0) hx hb hX hbl hbA hS (lv_at hl 0 rfl) (lv_at hl 4 rfl) 1 rfl (by omega) hL e1 dL_law_1155 dL_law_1156 dL_law_1158 dL_law_1159 dL_law_1160 ?_
  refine lv_aload_n hx hb dL_law_1161 rfl (lv_at hl 3 rfl) ?_
  have hZ9 : jX (fun _ => False) s H := jX.narrow (jX.kept hZ (fun a h1 h2 => hS.2.1 a h1 h2)) (fun _ h => h.elim)
  have hf1 : cells + 1 ≤ 601024 ∧ slots + 6 ≤ 7293034 := ⟨by omega, by omega⟩
  refine j_lX (As := [.ref (ax 0), .int p0, .ref oa]) (rest := []) ⟨hx, hb, hml, hown, hts⟩ (x1_L_protection l dC dI cI cJ cZ cO ax (jao aa n) n mo p0 hst hn (fun j hj => if_neg (by omega)) hb0 oa) (vx_cwSW 3 hts gL_law_L_protection rfl rfl rfl (by decide +kernel) ⟨Nat.le_of_ble_eq_true rfl, Nat.le_of_ble_eq_true rfl⟩) hZ9 hK (j_subP hP jl_s2) rfl hl rfl (Nat.le_of_ble_eq_true rfl) dL_law_1162 hf1 hS (fun H1 locs hk1 hS => ?_)
  have hP := j_keep hP hk1
  clear hZ9 hk1
  refine lv_istore (lv' := [(5, .int (nI 1)), (0, .ref b), (1, .ref (ax 0)), (2, .ref (ad 0)), (3, .ref oa), (4, .int (nI i))]) hx hb dL_law_1165 hl (by decide) rfl (fun ls hl => ?_)
  refine lv_aload_n hx hb dL_law_1167 rfl (lv_at hl 3 rfl) ?_
  refine j_arg (v := p0) hx hb hX hbl hbA hS (lv_at hl 1 rfl) (lv_at hl 5 rfl) 1 rfl (by omega) hL e1 dL_law_1168 dL_law_1169 dL_law_1171 dL_law_1172 dL_law_1173 ?_
  refine j_mL (As := [.int p0]) (rest := []) ⟨hx, hb, hml, hown, hts⟩ (x1_X2_protection l dC dI cI cJ cZ cO ad n mo iv an T B py fu cy th p0 hn hm hv hb0) (cwV 1 hts gL_law_X2_protection rfl rfl rfl (by decide +kernel) ⟨Nat.le_of_ble_eq_true rfl, Nat.le_of_ble_eq_true rfl⟩) hK hP hD rfl (jMW_adr _ _ _ _ _ _ _ _ _ _ _ _ _ _) (fun _ => jMW_adr _ _ _ _ _ _ _ _ _ _ _ _ _ _) rfl hl rfl (Nat.le_of_ble_eq_true rfl) dL_law_1174 hf1 hS (fun r u H locs hr hP hD hS => ?_)
  refine lv_lstore (lv' := [(6, .long r), (5, .int (nI 1)), (0, .ref b), (1, .ref (ax 0)), (2, .ref (ad 0)), (3, .ref oa), (4, .int (nI i))]) hx hb dL_law_1177 hl (by decide) rfl (fun ls hl => ?_)
  have hI2 := hI
  exact jt_L hA9 hP hl (lv_at hl 4 rfl) (lv_at hl 5 rfl) (lv_at hl 1 rfl) (lv_at hl 0 rfl) (by decide) (fun h => absurd h (by decide)) hf1 dL_law_1179 dL_law_1180 dL_law_1183 dL_law_1185 dL_law_1190 dL_law_1192 dL_law_1195 dL_law_1196 dL_law_1197 dL_law_1198 dL_law_1200 dL_law_1201 dL_law_1206 (by decide) (W.widen (by omega) (by omega) (go _ _ _ _ _ _ _ _ _ _ _ _ _ _ _ _ hI2 hP hD hS (lv_sub hl [2, 3, 4, 5, 6] rfl)))
end JLR
