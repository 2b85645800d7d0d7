/-! the law: what stands behind an operation -/
section QLa
variable {p : Program} {l : Launch} {e : Env} {s : State} {m : MethodId} {below : List Frame} {meth : Method} {c : Code} {dC : Nat → ClassId} {dI : Nat → Nat → Nat} {cI cJ cO : ClassId} {b L : Nat} {xs : Nat → Int32} {ai ax : Nat → Nat} {Q : State → Prop} {i cells slots n mo : Nat} {iv : Nat → Int32} {aa an : Nat → Nat → Nat} {kp : Nat → Int64} {py : Nat → Nat → Int64} {K : Nat → Nat} {f0 f1 f2 f3 : Nat → Int32} {a : Nat} {H : Heap} {locs : List Loc} {ls : Array Slot}
set_option maxHeartbeats 4000000 in
set_option maxRecDepth 100000 in
/-- each annuity owes what was paid above its entitlements -/
theorem lo_owes (hA9 : qAt p l s m c dC dI cI cJ cO b L xs) (hP : va_P (dC, dI) vwCl (qW cI cJ cO ai iv f1 f2 f3 ax n mo iv aa an kp py) H) (hD : va_D (fun q => s.heap.size ≤ q) (qW cI cJ cO ai iv f1 f2 f3 ax n mo iv aa an kp py)) (hS : va_S (fun q => s.heap.size ≤ q) s.heap H locs) (hl : lv_has ls 21 [(0, .ref b), (1, .ref (ax 0)), (2, .ref (ai 0)), (3, .ref (ai 1)), (4, .ref (ai 2)), (5, .ref (ai 3)), (6, .int (nI n)), (7, .int (nI 1)), (8, .int (nI i)), (11, .int (nI a))]) (hI : qInv n mo an kp K f1 f2 f3) (hrc : cells ≤ 863873) (hrs : slots ≤ 6509848) (go : ∀ ls : Array Slot, lv_has ls 21 [(0, .ref b), (1, .ref (ax 0)), (2, .ref (ai 0)), (3, .ref (ai 1)), (4, .ref (ai 2)), (5, .ref (ai 3)), (6, .int (nI n)), (7, .int (nI 1)), (8, .int (nI i)), (11, .int (nI a))] → W p l e room_1 s m #[Value.ref b] below meth c H locs cells slots Q (F0 m 820 ls [])) : W p l e room_1 s m #[Value.ref b] below meth c H locs cells slots Q (F0 m 737 ls []) := by
  obtain ⟨hx, hb, hml, hown, hts, hX, hbl, hst, hZ, hK⟩ := id hA9
  have hbA : ¬ s.heap.size ≤ b := Nat.not_le.mpr hbl
  obtain ⟨hn6, hm, hn0, hall⟩ := id hI
  refine lv_iconst (v := nI 0) hx hb dL_law_737 (by decide) ?_
  refine lv_istore (lv' := [(14, .int (nI 0)), (0, .ref b), (1, .ref (ax 0)), (2, .ref (ai 0)), (3, .ref (ai 1)), (4, .ref (ai 2)), (5, .ref (ai 3)), (6, .int (nI n)), (7, .int (nI 1)), (8, .int (nI i)), (11, .int (nI a))]) hx hb dL_law_738 hl (by decide) rfl (fun ls hl => ?_)
  refine j_loop (I := fun j : Nat => j ≤ n) (μ := fun j => n - j) (lv := fun j => [(0, .ref b), (1, .ref (ax 0)), (2, .ref (ai 0)), (3, .ref (ai 1)), (4, .ref (ai 2)), (5, .ref (ai 3)), (6, .int (nI n)), (7, .int (nI 1)), (8, .int (nI i)), (11, .int (nI a)), (14, .int (nI j))]) 0 (Nat.zero_le _) (lv_sub hl [1, 2, 3, 4, 5, 6, 7, 8, 9, 10, 0] rfl) ?_
  intro j ls hI9 hl IH
  have hI9 : j ≤ n := hI9
  have hl : lv_has ls 21 [(0, .ref b), (1, .ref (ax 0)), (2, .ref (ai 0)), (3, .ref (ai 1)), (4, .ref (ai 2)), (5, .ref (ai 3)), (6, .int (nI n)), (7, .int (nI 1)), (8, .int (nI i)), (11, .int (nI a)), (14, .int (nI j))] := hl
  refine lv_iload hx hb dL_law_740 (lv_at hl 10 rfl) ?_
  refine lv_iload hx hb dL_law_742 (lv_at hl 6 rfl) ?_
  refine lv_icmp_ge (tgt := 820) hx hb dL_law_744 (by decide) (fun c_744 => ?_) (fun c_744 => ?_)
  · have c_744 : n ≤ j := (nI_leI (a := n) (b := j) (by omega) (by omega)).mp c_744
    exact go _ (lv_sub hl [0, 1, 2, 3, 4, 5, 6, 7, 8, 9] rfl)
  · have c_744 : ¬ (n ≤ j) := fun h => c_744 ((nI_leI (a := n) (b := j) (by omega) (by omega)).mpr h)
    refine lv_iload hx hb dL_law_747 (lv_at hl 7 rfl) ?_
    refine lv_if_eq (tgt := 820) hx hb dL_law_749 (by decide) (fun c_749 => ?_) (fun c_749 => ?_)
    · have c_749 : 1 = 0 := (nI_eq (a := 1) (b := 0) (by omega) (by omega)).mp c_749
      omega
    · have c_749 : ¬ (1 = 0) := fun h => c_749 ((nI_eq (a := 1) (b := 0) (by omega) (by omega)).mpr h)
      have hj : j < n := by omega
      refine lv_aload_n hx hb dL_law_752 rfl (lv_at hl 1 rfl) ?_
      refine j_cI_ (As := []) (rest := []) ⟨hx, hb, hml, hown, hts⟩ (c_X1_month l dC dI cI cJ cI cO ax n mo) (cwV 0 hts gL_law_X1_month rfl rfl rfl (by decide +kernel) ⟨Nat.le_of_ble_eq_true rfl, Nat.le_of_ble_eq_true rfl⟩) (jR_V hK hP [4] rfl (ci := 1) (q0 := 4) rfl rfl rfl) rfl hl rfl (Nat.le_of_ble_eq_true rfl) dL_law_753 (show cells ≤ 863873 ∧ slots ≤ 6509848 from ⟨by omega, by omega⟩) (fun r_753 hr_753 => ?_)
      subst hr_753
      refine j_join (fun u9 : Unit => True) (fun u9 => F0 m 782 ls [.long (kp j - lN (jU (an j) iv mo))]) (fun u9 hu9 => ?_) (fun J782 => ?_)
      · refine lv_lstore (lv' := [(15, .long (kp j - lN (jU (an j) iv mo))), (0, .ref b), (1, .ref (ax 0)), (2, .ref (ai 0)), (3, .ref (ai 1)), (4, .ref (ai 2)), (5, .ref (ai 3)), (6, .int (nI n)), (7, .int (nI 1)), (8, .int (nI i)), (11, .int (nI a)), (14, .int (nI j))]) hx hb dL_law_782 hl (by decide) rfl (fun ls hl => ?_)
        refine lv_aload_n hx hb dL_law_784 rfl (lv_at hl 2 rfl) ?_
        refine lv_iload hx hb dL_law_785 (lv_at hl 11 rfl) ?_
        refine q_rL (As := [.ref (ax 0), .int (nI j)]) (rest := []) ⟨hx, hb, hml, hown, hts⟩ (c_L_owes l dC dI cI cJ cI cO ax (jao aa n) n mo iv (aa j) (an j) (kp j) (py j) j (qInv_v hI hj) hm (by omega) (if_pos hj) ) (vx_cwSW 2 hts gL_law_L_owes rfl rfl rfl (by decide +kernel) ⟨Nat.le_of_ble_eq_true rfl, Nat.le_of_ble_eq_true rfl⟩) hK (j_subP hP (q_sF hj)) rfl hl rfl (Nat.le_of_ble_eq_true rfl) dL_law_787 (show cells ≤ 863873 ∧ slots ≤ 6509848 from ⟨by omega, by omega⟩) ?_
        refine lv_lload hx hb dL_law_790 (lv_at hl 0 rfl) ?_
        refine lv_lconst (v := lN 0) hx hb dL_law_792 (by decide) ?_
        refine W.lcmp hx hb dL_law_793 ?_
        refine j_join (fun u9 : Unit => True) (fun u9 => F0 m 803 ls [.long (jmx (kp j - lN (jU (an j) iv mo))), .long (jmx (kp j - lN (jU (an j) iv mo)))]) (fun u9 hu9 => ?_) (fun J803 => ?_)
        · refine W.lcmp hx hb dL_law_803 ?_
          refine lv_if_ne (tgt := 811) hx hb dL_law_804 (by decide) (fun c_804 => ?_) (fun c_804 => ?_)
          · exact absurd (jcmp0 _) c_804
          · refine lv_iconst (v := nI 1) hx hb dL_law_807 (by decide) ?_
            refine lv_goto (tgt := 812) hx hb dL_law_808 (by decide) ?_
            refine lv_istore (lv' := [(7, .int (nI 1)), (15, .long (kp j - lN (jU (an j) iv mo))), (0, .ref b), (1, .ref (ax 0)), (2, .ref (ai 0)), (3, .ref (ai 1)), (4, .ref (ai 2)), (5, .ref (ai 3)), (6, .int (nI n)), (8, .int (nI i)), (11, .int (nI a)), (14, .int (nI j))]) hx hb dL_law_812 hl (by decide) rfl (fun ls hl => ?_)
            refine lv_iinc (v := nI (j + 1)) (lv' := [(14, .int (nI (j + 1))), (7, .int (nI 1)), (15, .long (kp j - lN (jU (an j) iv mo))), (0, .ref b), (1, .ref (ax 0)), (2, .ref (ai 0)), (3, .ref (ai 1)), (4, .ref (ai 2)), (5, .ref (ai 3)), (6, .int (nI n)), (8, .int (nI i)), (11, .int (nI a))]) hx hb dL_law_814 hl (k := 11) rfl (by exact nI_add _ 1) (by decide) rfl (fun ls hl => ?_)
            refine lv_goto (tgt := 740) hx hb dL_law_817 (by decide) ?_
            exact IH (j + 1) _ (show j + 1 ≤ n by omega) (show n - (j + 1) < n - j by omega) (lv_sub hl [3, 4, 5, 6, 7, 8, 9, 1, 10, 11, 0] rfl)
        refine lv_if_le (tgt := 802) hx hb dL_law_794 (by decide) (fun c_794 => ?_) (fun c_794 => ?_)
        · refine lv_lconst (v := lN 0) hx hb dL_law_802 (by decide) ?_
          refine j_l (y := jmx (kp j - lN (jU (an j) iv mo))) (q_jmx0 c_794) ?_
          exact J803 () trivial
        · refine lv_lload hx hb dL_law_797 (lv_at hl 0 rfl) ?_
          refine lv_goto (tgt := 803) hx hb dL_law_799 (by decide) ?_
          refine j_l (y := jmx (kp j - lN (jU (an j) iv mo))) (q_jmx1 c_794) ?_
          exact J803 () trivial
      refine lv_if_ne (tgt := 763) hx hb dL_law_756 (by decide) (fun c_756 => ?_) (fun c_756 => ?_)
      · have c_756 : ¬ (mo = 0) := fun h => c_756 ((nI_eq (a := mo) (b := 0) (by omega) (by omega)).mpr h)
        refine lv_aload_n hx hb dL_law_763 rfl (lv_at hl 1 rfl) ?_
        refine lv_iload hx hb dL_law_764 (lv_at hl 10 rfl) ?_
        refine q_rL (As := [.ref (ax 0), .int (nI j)]) (rest := []) ⟨hx, hb, hml, hown, hts⟩ (c_L_paidAll l dC dI cI cJ cI cO ax (jao aa n) n mo iv (aa j) (an j) (kp j) (py j) j (qInv_v hI hj) hm (by omega) (if_pos hj) ) (vx_cwSW 2 hts gL_law_L_paidAll rfl rfl rfl (by decide +kernel) ⟨Nat.le_of_ble_eq_true rfl, Nat.le_of_ble_eq_true rfl⟩) hK (j_subP hP (q_sF hj)) rfl hl rfl (Nat.le_of_ble_eq_true rfl) dL_law_766 (show cells ≤ 863873 ∧ slots ≤ 6509848 from ⟨by omega, by omega⟩) ?_
        refine lv_aload_n hx hb dL_law_769 rfl (lv_at hl 1 rfl) ?_
        refine lv_iload hx hb dL_law_770 (lv_at hl 10 rfl) ?_
        refine lv_aload_n hx hb dL_law_772 rfl (lv_at hl 1 rfl) ?_
        refine j_cI_ (As := []) (rest := [.int (nI j), .ref (ax 0), .long (kp j)]) ⟨hx, hb, hml, hown, hts⟩ (c_X1_month l dC dI cI cJ cI cO ax n mo) (cwV 0 hts gL_law_X1_month rfl rfl rfl (by decide +kernel) ⟨Nat.le_of_ble_eq_true rfl, Nat.le_of_ble_eq_true rfl⟩) (jR_V hK hP [4] rfl (ci := 1) (q0 := 4) rfl rfl rfl) rfl hl rfl (Nat.le_of_ble_eq_true rfl) dL_law_773 (show cells ≤ 863873 ∧ slots ≤ 6509848 from ⟨by omega, by omega⟩) (fun r_773 hr_773 => ?_)
        subst hr_773
        refine lv_iconst (v := nI 1) hx hb dL_law_776 (by decide) ?_
        refine lv_isub hx hb dL_law_777 ?_
        refine j_i (y := nI (mo - 1)) (pk_sub (by omega)) ?_
        refine q_rL (As := [.ref (ax 0), .int (nI j), .int (nI (mo - 1))]) (rest := [.long (kp j)]) ⟨hx, hb, hml, hown, hts⟩ (c_L_upTo l dC dI cI cJ cI cO ax (jao aa n) n mo iv (aa j) (an j) (kp j) (py j) j (mo - 1) (qInv_v hI hj) hm (by omega) (if_pos hj) (by omega)) (vx_cwSW 3 hts gL_law_L_upTo rfl rfl rfl (by decide +kernel) ⟨Nat.le_of_ble_eq_true rfl, Nat.le_of_ble_eq_true rfl⟩) hK (j_subP hP (q_sF hj)) rfl hl rfl (Nat.le_of_ble_eq_true rfl) dL_law_778 (show cells ≤ 863873 ∧ slots ≤ 6509848 from ⟨by omega, by omega⟩) ?_
        refine j_l (y := lN (jU (an j) iv mo)) (by rw [show mo - 1 + 1 = mo by omega]) ?_
        refine lv_lsub hx hb dL_law_781 ?_
        exact J782 () trivial
      · have c_756 : mo = 0 := (nI_eq (a := mo) (b := 0) (by omega) (by omega)).mp c_756
        refine lv_lconst (v := lN 0) hx hb dL_law_759 (by decide) ?_
        refine lv_goto (tgt := 782) hx hb dL_law_760 (by decide) ?_
        refine j_l (y := kp j - lN (jU (an j) iv mo)) (by rw [qInv_k hI hj, qInv_0 hI hj c_756, c_756, jU_0 iv (qInv_v hI hj).1 (Nat.zero_le _)]; rfl) ?_
        exact J782 () trivial
set_option maxHeartbeats 4000000 in
set_option maxRecDepth 100000 in
/-- each third time the amounts are looked at, and what is owed is given back -/
theorem lo_tail (hA9 : qAt p l s m c dC dI cI cJ cO b L xs) (hP : va_P (dC, dI) vwCl (qW cI cJ cO ai iv f1 f2 f3 ax n mo iv aa an kp py) H) (hD : va_D (fun q => s.heap.size ≤ q) (qW cI cJ cO ai iv f1 f2 f3 ax n mo iv aa an kp py)) (hS : va_S (fun q => s.heap.size ≤ q) s.heap H locs) (hl : lv_has ls 21 [(0, .ref b), (1, .ref (ax 0)), (2, .ref (ai 0)), (3, .ref (ai 1)), (4, .ref (ai 2)), (5, .ref (ai 3)), (6, .int (nI n)), (7, .int (nI 1)), (8, .int (nI i)), (11, .int (nI a))]) (hI : qInv n mo an kp K f1 f2 f3) (ha : a < n) (hi9 : i < 1000) (hrc : cells + 4 ≤ 863873) (hrs : slots + 24 ≤ 6509848) (go : qNx p l e s m below meth c dC dI cI cJ cO b ai ax Q 86 (i + 1) (cells + 4) (slots + 24)) : W p l e room_1 s m #[Value.ref b] below meth c H locs cells slots Q (F0 m 820 ls []) := by
  obtain ⟨hx, hb, hml, hown, hts, hX, hbl, hst, hZ, hK⟩ := id hA9
  have hbA : ¬ s.heap.size ≤ b := Nat.not_le.mpr hbl
  obtain ⟨hn6, hm, hn0, hall⟩ := id hI
  have hKb := qInv_K hI ha
  refine lv_iload hx hb dL_law_820 (lv_at hl 7 rfl) ?_
  refine lv_if_eq (tgt := 946) hx hb dL_law_822 (by decide) (fun c_822 => ?_) (fun c_822 => ?_)
  · have c_822 : 1 = 0 := (nI_eq (a := 1) (b := 0) (by omega) (by omega)).mp c_822
    omega
  · have c_822 : ¬ (1 = 0) := fun h => c_822 ((nI_eq (a := 1) (b := 0) (by omega) (by omega)).mpr h)
    refine lv_iload hx hb dL_law_825 (lv_at hl 6 rfl) ?_
    refine lv_if_le (tgt := 946) hx hb dL_law_827 (by decide) (fun c_827 => ?_) (fun c_827 => ?_)
    · have c_827 : n ≤ 0 := (nI_leI (a := n) (b := 0) (by omega) (by omega)).mp c_827
      omega
    · have c_827 : ¬ (n ≤ 0) := fun h => c_827 ((nI_leI (a := n) (b := 0) (by omega) (by omega)).mpr h)
      refine lv_iload hx hb dL_law_830 (lv_at hl 8 rfl) ?_
      refine lv_iconst (v := nI 3) hx hb dL_law_832 (by decide) ?_
      refine lv_irem hx hb dL_law_833 (by decide) ?_
      refine j_i (y := nI (i % 3)) (pk_rem (by omega) (by omega) (by omega)) ?_
      refine lv_if_ne (tgt := 946) hx hb dL_law_834 (by decide) (fun c_834 => ?_) (fun c_834 => ?_)
      · have c_834 : ¬ (i % 3 = 0) := fun h => c_834 ((nI_eq (a := i % 3) (b := 0) (by omega) (by omega)).mpr h)
        refine lv_iinc (v := nI (i + 1)) (lv' := [(8, .int (nI (i + 1))), (0, .ref b), (1, .ref (ax 0)), (2, .ref (ai 0)), (3, .ref (ai 1)), (4, .ref (ai 2)), (5, .ref (ai 3)), (6, .int (nI n)), (7, .int (nI 1)), (11, .int (nI a))]) hx hb dL_law_946 hl (k := 8) rfl (by exact nI_add _ 1) (by decide) rfl (fun ls hl => ?_)
        refine lv_goto (tgt := 86) hx hb dL_law_949 (by decide) ?_
        exact W.widen (by omega) (by omega) (go n mo iv aa an kp py K f1 f2 f3 H locs _ hI hP hD hS (lv_sub hl [1, 2, 3, 4, 5, 6, 7, 8, 0] rfl))
      · have c_834 : i % 3 = 0 := (nI_eq (a := i % 3) (b := 0) (by omega) (by omega)).mp c_834
        refine lv_aload_n hx hb dL_law_837 rfl (lv_at hl 1 rfl) ?_
        refine lv_iload hx hb dL_law_838 (lv_at hl 9 rfl) ?_
        refine lv_aload_n hx hb dL_law_840 rfl (lv_at hl 3 rfl) ?_
        refine lv_iload hx hb dL_law_841 (lv_at hl 9 rfl) ?_
        refine va_iald hx hb hK hP 1 0 (f := f1) rfl rfl (vp_in_nI (n := a) (N := 20) (by omega) (by omega)) dL_law_843 ?_
        refine j_i (y := nI (an a 0)) (by rw [nI_clamp (by omega)]; exact qInv_1 hI ha) ?_
        refine lv_aload hx hb dL_law_844 (lv_at hl 4 rfl) ?_
        refine lv_iload hx hb dL_law_846 (lv_at hl 9 rfl) ?_
        refine va_iald hx hb hK hP 2 0 (f := f2) rfl rfl (vp_in_nI (n := a) (N := 20) (by omega) (by omega)) dL_law_848 ?_
        refine j_i (y := nI (an a 5)) (by rw [nI_clamp (by omega)]; exact qInv_2 hI ha) ?_
        refine lv_aload hx hb dL_law_849 (lv_at hl 5 rfl) ?_
        refine lv_iload hx hb dL_law_851 (lv_at hl 9 rfl) ?_
        refine va_iald hx hb hK hP 3 0 (f := f3) rfl rfl (vp_in_nI (n := a) (N := 20) (by omega) (by omega)) dL_law_853 ?_
        refine j_i (y := nI (an a 3)) (by rw [nI_clamp (by omega)]; exact qInv_3 hI ha) ?_
        refine lv_aload_n hx hb dL_law_854 rfl (lv_at hl 2 rfl) ?_
        have hX9 : jX (fun _ => False) s H := jX.narrow (jX.kept hZ (fun a h1 h2 => hS.2.1 a h1 h2)) (fun _ h => h.elim)
        refine q_fI (As := [.ref (ax 0), .int (nI a), .int (nI (an a 0)), .int (nI (an a 5)), .int (nI (an a 3)), .ref (ai 0)]) (rest := []) ⟨hx, hb, hml, hown, hts⟩ (c_L_follows l dC dI cI cJ cI cO (ai 0) ax (jao aa n) n mo iv (aa a) (an a) (kp a) (py a) a hst (qInv_v hI ha) hm (by omega) (if_pos ha) (qInv_p hI ha)) (cwS 6 hts gL_law_L_follows rfl rfl rfl (by decide +kernel) ⟨Nat.le_of_ble_eq_true rfl, Nat.le_of_ble_eq_true rfl⟩) hX9 hK (j_subP hP (q_sG ha)) rfl hl rfl (Nat.le_of_ble_eq_true rfl) dL_law_855 (show cells + 3 ≤ 863873 ∧ slots + 18 ≤ 6509848 from ⟨by omega, by omega⟩) hS (fun H1 locs _ hk1 hS => ?_)
        have hP := j_keep hP hk1
        clear hk1 hX9
        generalize H1 = H at hP hS ⊢
        refine lv_istore (lv' := [(7, .int (nI 1)), (0, .ref b), (1, .ref (ax 0)), (2, .ref (ai 0)), (3, .ref (ai 1)), (4, .ref (ai 2)), (5, .ref (ai 3)), (6, .int (nI n)), (8, .int (nI i)), (11, .int (nI a))]) hx hb dL_law_858 hl (by decide) rfl (fun ls hl => ?_)
        refine lv_aload_n hx hb dL_law_860 rfl (lv_at hl 2 rfl) ?_
        refine lv_iload hx hb dL_law_861 (lv_at hl 9 rfl) ?_
        refine q_rL (As := [.ref (ax 0), .int (nI a)]) (rest := []) ⟨hx, hb, hml, hown, hts⟩ (c_L_owes l dC dI cI cJ cI cO ax (jao aa n) n mo iv (aa a) (an a) (kp a) (py a) a (qInv_v hI ha) hm (by omega) (if_pos ha) ) (vx_cwSW 2 hts gL_law_L_owes rfl rfl rfl (by decide +kernel) ⟨Nat.le_of_ble_eq_true rfl, Nat.le_of_ble_eq_true rfl⟩) hK (j_subP hP (q_sF ha)) rfl hl rfl (Nat.le_of_ble_eq_true rfl) dL_law_863 (show cells + 3 ≤ 863873 ∧ slots + 18 ≤ 6509848 from ⟨by omega, by omega⟩) ?_
        refine j_l (y := lN (K a - jU (an a) iv mo)) (q_owe (qInv_v hI ha) (qInv_k hI ha) (qInv_K hI ha) hm) ?_
        generalize ho9 : K a - jU (an a) iv mo = o9
        refine lv_lstore (lv' := [(14, .long (lN o9)), (7, .int (nI 1)), (0, .ref b), (1, .ref (ax 0)), (2, .ref (ai 0)), (3, .ref (ai 1)), (4, .ref (ai 2)), (5, .ref (ai 3)), (6, .int (nI n)), (8, .int (nI i)), (11, .int (nI a))]) hx hb dL_law_866 hl (by decide) rfl (fun ls hl => ?_)
        refine lv_iload hx hb dL_law_868 (lv_at hl 1 rfl) ?_
        refine lv_if_eq (tgt := 943) hx hb dL_law_870 (by decide) (fun c_870 => ?_) (fun c_870 => ?_)
        · have c_870 : 1 = 0 := (nI_eq (a := 1) (b := 0) (by omega) (by omega)).mp c_870
          omega
        · have c_870 : ¬ (1 = 0) := fun h => c_870 ((nI_eq (a := 1) (b := 0) (by omega) (by omega)).mpr h)
          refine lv_lload hx hb dL_law_873 (lv_at hl 0 rfl) ?_
          refine lv_lconst (v := lN 0) hx hb dL_law_875 (by decide) ?_
          refine W.lcmp hx hb dL_law_876 ?_
          refine lv_if_eq (tgt := 889) hx hb dL_law_877 (by decide) (fun c_877 => ?_) (fun c_877 => ?_)
          · have hz9 : o9 = 0 := (q_neq (by have := qInv_K hI ha; omega) (by decide)).mp c_877
            refine lv_aload_n hx hb dL_law_889 rfl (lv_at hl 3 rfl) ?_
            refine lv_iload hx hb dL_law_890 (lv_at hl 10 rfl) ?_
            refine lv_ldc hx hb hown (hts (.constant RL 145 (100000000)) (List.mem_of_getElem? (i := 9) rfl)) dL_law_892 ?_
            refine j_i (y := nI 100000000) (by decide +kernel) ?_
            have hje : jmx (kp a - lN (jU (an a) iv mo)) = lN o9 := (q_owe (qInv_v hI ha) (qInv_k hI ha) (qInv_K hI ha) hm).trans (congrArg lN ho9)
            have hX9 : jX (fun _ => False) s H := jX.narrow (jX.kept hZ (fun a h1 h2 => hS.2.1 a h1 h2)) (fun _ h => h.elim)
            refine q_xL (As := [.ref (ax 0), .int (nI a), .int (nI 100000000)]) (rest := []) ⟨hx, hb, hml, hown, hts⟩ (x3_L_back l dC dI cI cJ cI cO ax (jao aa n) n mo iv (aa a) (an a) (kp a) (py a) a 100000000 hst (qInv_v hI ha) hm (by omega) (if_pos ha) (by decide) (by decide) (by rw [hje, lN_lt (by omega) (by omega)]; omega)) (vx_cwSW 3 hts gL_law_L_back rfl rfl rfl (by decide +kernel) ⟨Nat.le_of_ble_eq_true rfl, Nat.le_of_ble_eq_true rfl⟩) hX9 hK (j_subP hP (q_sF ha)) rfl hl rfl (Nat.le_of_ble_eq_true rfl) dL_law_894 (show cells + 3 + 1 ≤ 863873 ∧ slots + 18 + 6 ≤ 6509848 from ⟨by omega, by omega⟩) hS (fun H1 locs _ hk1 hS => ?_)
            have hP := j_keep hP hk1
            clear hk1 hX9
            generalize H1 = H at hP hS ⊢
            refine lv_ldc2 hx hb hown (hts (.constantLong RL 47 (-103)) (List.mem_of_getElem? (i := 10) rfl)) dL_law_897 ?_
            refine W.lcmp hx hb dL_law_900 ?_
            refine lv_if_eq (tgt := 939) hx hb dL_law_901 (by decide) (fun c_901 => ?_) (fun c_901 => ?_)
            · refine lv_iconst (v := nI 1) hx hb dL_law_939 (by decide) ?_
              refine lv_goto (tgt := 944) hx hb dL_law_940 (by decide) ?_
              refine lv_istore (lv' := [(7, .int (nI 1)), (14, .long (lN o9)), (0, .ref b), (1, .ref (ax 0)), (2, .ref (ai 0)), (3, .ref (ai 1)), (4, .ref (ai 2)), (5, .ref (ai 3)), (6, .int (nI n)), (8, .int (nI i)), (11, .int (nI a))]) hx hb dL_law_944 hl (by decide) rfl (fun ls hl => ?_)
              refine lv_iinc (v := nI (i + 1)) (lv' := [(8, .int (nI (i + 1))), (7, .int (nI 1)), (14, .long (lN o9)), (0, .ref b), (1, .ref (ax 0)), (2, .ref (ai 0)), (3, .ref (ai 1)), (4, .ref (ai 2)), (5, .ref (ai 3)), (6, .int (nI n)), (11, .int (nI a))]) hx hb dL_law_946 hl (k := 9) rfl (by exact nI_add _ 1) (by decide) rfl (fun ls hl => ?_)
              refine lv_goto (tgt := 86) hx hb dL_law_949 (by decide) ?_
              exact W.widen (by omega) (by omega) (go n mo iv aa an kp py K f1 f2 f3 H locs _ hI hP hD hS (lv_sub hl [3, 4, 5, 6, 7, 8, 9, 1, 0] rfl))
            · exact absurd (jcmp0 _) c_901
          · have hz9 : o9 ≠ 0 := fun h => c_877 ((q_neq (by have := qInv_K hI ha; omega) (by decide)).mpr h)
            refine lv_lload hx hb dL_law_880 (lv_at hl 0 rfl) ?_
            refine lv_ldc2 hx hb hown (hts (.constantLong RL 143 (100000000)) (List.mem_of_getElem? (i := 8) rfl)) dL_law_882 ?_
            refine j_l (y := lN 100000000) (by decide +kernel) ?_
            refine W.lcmp hx hb dL_law_885 ?_
            refine lv_if_le (tgt := 914) hx hb dL_law_886 (by decide) (fun c_886 => ?_) (fun c_886 => ?_)
            · have hy9 : o9 ≤ 100000000 := (lN_le (by have := qInv_K hI ha; omega) (by decide)).mp ((lg_cmp_le _ _).mp c_886)
              refine lv_aload_n hx hb dL_law_914 rfl (lv_at hl 3 rfl) ?_
              refine lv_iload hx hb dL_law_915 (lv_at hl 10 rfl) ?_
              refine lv_lload hx hb dL_law_917 (lv_at hl 0 rfl) ?_
              refine lv_l2i (v := nI o9) hx hb dL_law_919 (lN_i o9) ?_
              have hje : jmx (kp a - lN (jU (an a) iv mo)) = lN o9 := (q_owe (qInv_v hI ha) (qInv_k hI ha) (qInv_K hI ha) hm).trans (congrArg lN ho9)
              refine j_lL (As := [.ref (ax 0), .int (nI a), .int (nI o9)]) (rest := []) ⟨hx, hb, hml, hown, hts⟩ (c_L_back l dC dI cI cJ cI cO ax (jao aa n) n mo iv (aa a) (an a) (kp a) (py a) a o9 (qInv_v hI ha) hm (by omega) (if_pos ha) (by omega) (by omega) (by rw [hje]; exact Int64.lt_irrefl)) (vx_cwSW 3 hts gL_law_L_back rfl rfl rfl (by decide +kernel) ⟨Nat.le_of_ble_eq_true rfl, Nat.le_of_ble_eq_true rfl⟩) hK (j_subP hP (q_sF ha)) (j_subD hD (q_sF ha)) rfl hl rfl (Nat.le_of_ble_eq_true rfl) dL_law_920 (show cells + 3 ≤ 863873 ∧ slots + 18 ≤ 6509848 from ⟨by omega, by omega⟩) hS (j_subA hD (q_sF ha)) (fun H1 locs hP1 hk1 hS => ?_)
              obtain ⟨hP, hD⟩ := q_putK ha hP hD hk1 hP1
              clear hP1 hk1
              generalize H1 = H at hP hS ⊢
              refine j_l (y := lN 0) (by rw [hje]; exact Int64.sub_self _) ?_
              have hP : va_P (dC, dI) vwCl (qW cI cJ cO ai iv f1 f2 f3 ax n mo iv aa an (jSet kp a (kp a - lN o9)) py) H := hP
              have hD : va_D (fun q => s.heap.size ≤ q) (qW cI cJ cO ai iv f1 f2 f3 ax n mo iv aa an (jSet kp a (kp a - lN o9)) py) := hD
              have hI2 := qInv_B (x := o9) hI ha (by omega)
              refine lv_lconst (v := lN 0) hx hb dL_law_923 (by decide) ?_
              refine W.lcmp hx hb dL_law_924 ?_
              refine lv_if_ne (tgt := 943) hx hb dL_law_925 (by decide) (fun c_925 => ?_) (fun c_925 => ?_)
              · exact absurd (jcmp0 _) c_925
              · refine lv_aload_n hx hb dL_law_928 rfl (lv_at hl 3 rfl) ?_
                refine lv_iload hx hb dL_law_929 (lv_at hl 10 rfl) ?_
                refine q_rL (As := [.ref (ax 0), .int (nI a)]) (rest := []) ⟨hx, hb, hml, hown, hts⟩ (c_L_owes l dC dI cI cJ cI cO ax (jao aa n) n mo iv (aa a) (an a) ((jSet kp a (kp a - lN o9)) a) (py a) a (qInv_v hI ha) hm (by omega) (if_pos ha) ) (vx_cwSW 2 hts gL_law_L_owes rfl rfl rfl (by decide +kernel) ⟨Nat.le_of_ble_eq_true rfl, Nat.le_of_ble_eq_true rfl⟩) hK (j_subP hP (q_sF ha)) rfl hl rfl (Nat.le_of_ble_eq_true rfl) dL_law_931 (show cells + 3 ≤ 863873 ∧ slots + 18 ≤ 6509848 from ⟨by omega, by omega⟩) ?_
                refine j_l (y := lN 0) (by rw [jSet_s, qInv_k hI ha, lN_sub (show o9 ≤ K a by omega), q_owe (qInv_v hI ha) rfl (show K a - o9 ≤ 1000000000 by have := qInv_K hI ha; omega) hm, show K a - o9 - jU (an a) iv mo = 0 by omega]) ?_
                refine lv_lconst (v := lN 0) hx hb dL_law_934 (by decide) ?_
                refine W.lcmp hx hb dL_law_935 ?_
                refine lv_if_ne (tgt := 943) hx hb dL_law_936 (by decide) (fun c_936 => ?_) (fun c_936 => ?_)
                · exact absurd (jcmp0 _) c_936
                · refine lv_iconst (v := nI 1) hx hb dL_law_939 (by decide) ?_
                  refine lv_goto (tgt := 944) hx hb dL_law_940 (by decide) ?_
                  refine lv_istore (lv' := [(7, .int (nI 1)), (14, .long (lN o9)), (0, .ref b), (1, .ref (ax 0)), (2, .ref (ai 0)), (3, .ref (ai 1)), (4, .ref (ai 2)), (5, .ref (ai 3)), (6, .int (nI n)), (8, .int (nI i)), (11, .int (nI a))]) hx hb dL_law_944 hl (by decide) rfl (fun ls hl => ?_)
                  refine lv_iinc (v := nI (i + 1)) (lv' := [(8, .int (nI (i + 1))), (7, .int (nI 1)), (14, .long (lN o9)), (0, .ref b), (1, .ref (ax 0)), (2, .ref (ai 0)), (3, .ref (ai 1)), (4, .ref (ai 2)), (5, .ref (ai 3)), (6, .int (nI n)), (11, .int (nI a))]) hx hb dL_law_946 hl (k := 9) rfl (by exact nI_add _ 1) (by decide) rfl (fun ls hl => ?_)
                  refine lv_goto (tgt := 86) hx hb dL_law_949 (by decide) ?_
                  exact W.widen (by omega) (by omega) (go n mo iv aa an (jSet kp a (kp a - lN o9)) py (jSet K a (K a - o9)) f1 f2 f3 H locs _ hI2 hP hD hS (lv_sub hl [3, 4, 5, 6, 7, 8, 9, 1, 0] rfl))
            · have hy9 : ¬ o9 ≤ 100000000 := fun h => c_886 ((lg_cmp_le _ _).mpr ((lN_le (by have := qInv_K hI ha; omega) (by decide)).mpr h))
              refine lv_aload_n hx hb dL_law_889 rfl (lv_at hl 3 rfl) ?_
              refine lv_iload hx hb dL_law_890 (lv_at hl 10 rfl) ?_
              refine lv_ldc hx hb hown (hts (.constant RL 145 (100000000)) (List.mem_of_getElem? (i := 9) rfl)) dL_law_892 ?_
              refine j_i (y := nI 100000000) (by decide +kernel) ?_
              have hje : jmx (kp a - lN (jU (an a) iv mo)) = lN o9 := (q_owe (qInv_v hI ha) (qInv_k hI ha) (qInv_K hI ha) hm).trans (congrArg lN ho9)
              refine j_lL (As := [.ref (ax 0), .int (nI a), .int (nI 100000000)]) (rest := []) ⟨hx, hb, hml, hown, hts⟩ (c_L_back l dC dI cI cJ cI cO ax (jao aa n) n mo iv (aa a) (an a) (kp a) (py a) a 100000000 (qInv_v hI ha) hm (by omega) (if_pos ha) (by decide) (by decide) (by rw [hje, lN_lt (by omega) (by omega)]; omega)) (vx_cwSW 3 hts gL_law_L_back rfl rfl rfl (by decide +kernel) ⟨Nat.le_of_ble_eq_true rfl, Nat.le_of_ble_eq_true rfl⟩) hK (j_subP hP (q_sF ha)) (j_subD hD (q_sF ha)) rfl hl rfl (Nat.le_of_ble_eq_true rfl) dL_law_894 (show cells + 3 ≤ 863873 ∧ slots + 18 ≤ 6509848 from ⟨by omega, by omega⟩) hS (j_subA hD (q_sF ha)) (fun H1 locs hP1 hk1 hS => ?_)
              obtain ⟨hP, hD⟩ := q_putK ha hP hD hk1 hP1
              clear hP1 hk1
              generalize H1 = H at hP hS ⊢
              have hP : va_P (dC, dI) vwCl (qW cI cJ cO ai iv f1 f2 f3 ax n mo iv aa an (jSet kp a (kp a - lN 100000000)) py) H := hP
              have hD : va_D (fun q => s.heap.size ≤ q) (qW cI cJ cO ai iv f1 f2 f3 ax n mo iv aa an (jSet kp a (kp a - lN 100000000)) py) := hD
              have hI2 := qInv_B (x := 100000000) hI ha (by omega)
              refine lv_ldc2 hx hb hown (hts (.constantLong RL 47 (-103)) (List.mem_of_getElem? (i := 10) rfl)) dL_law_897 ?_
              refine W.lcmp hx hb dL_law_900 ?_
              refine lv_if_eq (tgt := 939) hx hb dL_law_901 (by decide) (fun c_901 => ?_) (fun c_901 => ?_)
              · refine lv_iconst (v := nI 1) hx hb dL_law_939 (by decide) ?_
                refine lv_goto (tgt := 944) hx hb dL_law_940 (by decide) ?_
                refine lv_istore (lv' := [(7, .int (nI 1)), (14, .long (lN o9)), (0, .ref b), (1, .ref (ax 0)), (2, .ref (ai 0)), (3, .ref (ai 1)), (4, .ref (ai 2)), (5, .ref (ai 3)), (6, .int (nI n)), (8, .int (nI i)), (11, .int (nI a))]) hx hb dL_law_944 hl (by decide) rfl (fun ls hl => ?_)
                refine lv_iinc (v := nI (i + 1)) (lv' := [(8, .int (nI (i + 1))), (7, .int (nI 1)), (14, .long (lN o9)), (0, .ref b), (1, .ref (ax 0)), (2, .ref (ai 0)), (3, .ref (ai 1)), (4, .ref (ai 2)), (5, .ref (ai 3)), (6, .int (nI n)), (11, .int (nI a))]) hx hb dL_law_946 hl (k := 9) rfl (by exact nI_add _ 1) (by decide) rfl (fun ls hl => ?_)
                refine lv_goto (tgt := 86) hx hb dL_law_949 (by decide) ?_
                exact W.widen (by omega) (by omega) (go n mo iv aa an (jSet kp a (kp a - lN 100000000)) py (jSet K a (K a - 100000000)) f1 f2 f3 H locs _ hI2 hP hD hS (lv_sub hl [3, 4, 5, 6, 7, 8, 9, 1, 0] rfl))
              · refine lv_lload hx hb dL_law_904 (lv_at hl 0 rfl) ?_
                refine lv_lconst (v := lN 0) hx hb dL_law_906 (by decide) ?_
                refine W.lcmp hx hb dL_law_907 ?_
                refine lv_if_le (tgt := 943) hx hb dL_law_908 (by decide) (fun c_908 => ?_) (fun c_908 => ?_)
                · exact absurd (lg_cmp_le _ _ |>.mp c_908) (by rw [lN_le (by have := qInv_K hI ha; omega) (by decide)]; omega)
                · refine lv_goto (tgt := 939) hx hb dL_law_911 (by decide) ?_
                  refine lv_iconst (v := nI 1) hx hb dL_law_939 (by decide) ?_
                  refine lv_goto (tgt := 944) hx hb dL_law_940 (by decide) ?_
                  refine lv_istore (lv' := [(7, .int (nI 1)), (14, .long (lN o9)), (0, .ref b), (1, .ref (ax 0)), (2, .ref (ai 0)), (3, .ref (ai 1)), (4, .ref (ai 2)), (5, .ref (ai 3)), (6, .int (nI n)), (8, .int (nI i)), (11, .int (nI a))]) hx hb dL_law_944 hl (by decide) rfl (fun ls hl => ?_)
                  refine lv_iinc (v := nI (i + 1)) (lv' := [(8, .int (nI (i + 1))), (7, .int (nI 1)), (14, .long (lN o9)), (0, .ref b), (1, .ref (ax 0)), (2, .ref (ai 0)), (3, .ref (ai 1)), (4, .ref (ai 2)), (5, .ref (ai 3)), (6, .int (nI n)), (11, .int (nI a))]) hx hb dL_law_946 hl (k := 9) rfl (by exact nI_add _ 1) (by decide) rfl (fun ls hl => ?_)
                  refine lv_goto (tgt := 86) hx hb dL_law_949 (by decide) ?_
                  exact W.widen (by omega) (by omega) (go n mo iv aa an (jSet kp a (kp a - lN 100000000)) py (jSet K a (K a - 100000000)) f1 f2 f3 H locs _ hI2 hP hD hS (lv_sub hl [3, 4, 5, 6, 7, 8, 9, 1, 0] rfl))
end QLa
