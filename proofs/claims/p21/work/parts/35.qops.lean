/-! the law: an inflation is told, a death is told -/
theorem q_infl {x : Nat} (h : x ≤ 400) : ¬ nI x - nI 100 < (-100) ∧ ¬ nI 300 < nI x - nI 100 := by
  have h1 := pk_sub_toInt (a := x) (b := 100) (by omega) (by decide)
  refine ⟨?_, ?_⟩
  · rw [Int32.lt_iff_toInt_lt, h1, show (-100 : Int32).toInt = -100 by decide]
    omega
  · rw [Int32.lt_iff_toInt_lt, h1, nI_toInt (by decide)]
    omega
theorem nI_nlt0 {x : Nat} (h : x < 2 ^ 31) : ¬ nI x < 0 := Int32.not_lt.mpr (nI_pos' h)
theorem q_tb0 {an : Nat → Nat} {t : Nat} (h : an 8 = 240) : upN (upN an 8 t) 8 240 = an := by
  funext j
  show (if j = 8 then 240 else if j = 8 then t else an j) = an j
  by_cases e : j = 8
  · subst e; rw [if_pos rfl, h]
  · rw [if_neg e, if_neg e]
theorem q_tb1 {an : Nat → Nat} {t : Nat} (h : an 9 = 240) : upN (upN an 9 t) 9 240 = an := by
  funext j
  show (if j = 9 then 240 else if j = 9 then t else an j) = an j
  by_cases e : j = 9
  · subst e; rw [if_pos rfl, h]
  · rw [if_neg e, if_neg e]
theorem q_setset {α : Type} (f : Nat → α) (k : Nat) (x : α) : jSet (jSet f k x) k (f k) = f := by
  funext j
  by_cases e : j = k
  · subst e; rw [jSet_s]
  · rw [jSet_n _ _ e, jSet_n _ _ e]
section QLa
variable {p : Program} {l : Launch} {e : Env} {s : State} {m : MethodId} {below : List Frame} {meth : Method} {c : Code} {dC : Nat → ClassId} {dI : Nat → Nat → Nat} {cI cJ cO : ClassId} {b L : Nat} {xs : Nat → Int32} {ai ax : Nat → Nat} {Q : State → Prop} {i cells slots n mo : Nat} {iv : Nat → Int32} {aa an : Nat → Nat → Nat} {kp : Nat → Int64} {py : Nat → Nat → Int64} {K : Nat → Nat} {f0 f1 f2 f3 : Nat → Int32} {a : Nat} {H : Heap} {locs : List Loc} {ls : Array Slot}
set_option maxHeartbeats 4000000 in
set_option maxRecDepth 100000 in
/-- an inflation is told -/
theorem lo_infl {v : Nat} (hA9 : qAt p l s m c dC dI cI cJ cO b L xs) (hP : va_P (dC, dI) vwCl (qW cI cJ cO ai iv f1 f2 f3 ax n mo iv aa an kp py) H) (hD : va_D (fun q => s.heap.size ≤ q) (qW cI cJ cO ai iv f1 f2 f3 ax n mo iv aa an kp py)) (hS : va_S (fun q => s.heap.size ≤ q) s.heap H locs) (hl : lv_has ls 21 [(0, .ref b), (1, .ref (ax 0)), (2, .ref (ai 0)), (3, .ref (ai 1)), (4, .ref (ai 2)), (5, .ref (ai 3)), (6, .int (nI n)), (7, .int (nI 1)), (8, .int (nI i)), (11, .int (nI a)), (12, .int (nI v))]) (hI : qInv n mo an kp K f1 f2 f3) (ha : a < n) (hv9 : v < 2 ^ 31) (hrc : cells ≤ 863873) (hrs : slots ≤ 6509848) (go : qGo p l e s m below meth c dC dI cI cJ cO b ai ax Q 737 i cells slots) : W p l e room_1 s m #[Value.ref b] below meth c H locs cells slots Q (F0 m 526 ls []) := by
  obtain ⟨hx, hb, hml, hown, hts, hX, hbl, hst, hZ, hK⟩ := id hA9
  have hbA : ¬ s.heap.size ≤ b := Nat.not_le.mpr hbl
  obtain ⟨hn6, hm, hn0, hall⟩ := id hI
  refine lv_iload hx hb dL_law_526 (lv_at hl 10 rfl) ?_
  refine lv_bipush (v := nI 20) hx hb dL_law_528 (by decide) ?_
  refine lv_irem hx hb dL_law_530 (by decide) ?_
  refine j_i (y := nI (v % 20)) (pk_rem (by omega) (by omega) (by omega)) ?_
  refine lv_istore (lv' := [(14, .int (nI (v % 20))), (0, .ref b), (1, .ref (ax 0)), (2, .ref (ai 0)), (3, .ref (ai 1)), (4, .ref (ai 2)), (5, .ref (ai 3)), (6, .int (nI n)), (7, .int (nI 1)), (8, .int (nI i)), (11, .int (nI a)), (12, .int (nI v))]) hx hb dL_law_531 hl (by decide) rfl (fun ls hl => ?_)
  refine lv_iload hx hb dL_law_533 (lv_at hl 11 rfl) ?_
  refine lv_bipush (v := nI 20) hx hb dL_law_535 (by decide) ?_
  refine lv_idiv hx hb dL_law_537 (by decide) ?_
  refine j_i (y := nI (v / 20)) (pk_div (by omega) (by omega) (by omega)) ?_
  refine lv_sipush (v := nI 401) hx hb dL_law_538 (by decide) ?_
  refine lv_irem hx hb dL_law_541 (by decide) ?_
  refine j_i (y := nI ((v / 20) % 401)) (pk_rem (by omega) (by omega) (by omega)) ?_
  refine lv_bipush (v := nI 100) hx hb dL_law_542 (by decide) ?_
  refine lv_isub hx hb dL_law_544 ?_
  refine lv_istore (lv' := [(15, .int ((nI ((v / 20) % 401)) - (nI 100))), (14, .int (nI (v % 20))), (0, .ref b), (1, .ref (ax 0)), (2, .ref (ai 0)), (3, .ref (ai 1)), (4, .ref (ai 2)), (5, .ref (ai 3)), (6, .int (nI n)), (7, .int (nI 1)), (8, .int (nI i)), (11, .int (nI a)), (12, .int (nI v))]) hx hb dL_law_545 hl (by decide) rfl (fun ls hl => ?_)
  have hw1 : ¬ nI (v / 20 % 401) - nI 100 < (-100) := (q_infl (by omega)).1
  have hw2 : ¬ nI 300 < nI (v / 20 % 401) - nI 100 := (q_infl (by omega)).2
  refine lv_aload_n hx hb dL_law_547 rfl (lv_at hl 3 rfl) ?_
  refine lv_iload hx hb dL_law_548 (lv_at hl 1 rfl) ?_
  refine lv_iload hx hb dL_law_550 (lv_at hl 0 rfl) ?_
  refine j_lI (As := [.ref (ax 0), .int (nI (v % 20)), .int ((nI ((v / 20) % 401)) - (nI 100))]) (rest := []) ⟨hx, hb, hml, hown, hts⟩ (c_L_inflation l dC dI cI cJ cI cO ax n mo iv aa an kp py (v % 20) (nI (v / 20 % 401) - nI 100) (fun k hk => qInv_v hI hk) (by omega) (by omega) hw1 hw2) (vx_cwSW 3 hts gL_law_L_inflation rfl rfl rfl (by decide +kernel) ⟨Nat.le_of_ble_eq_true rfl, Nat.le_of_ble_eq_true rfl⟩) hK (j_subP hP q_sD) (j_subD hD q_sD) rfl hl rfl (Nat.le_of_ble_eq_true rfl) dL_law_552 (show cells ≤ 863873 ∧ slots ≤ 6509848 from ⟨by omega, by omega⟩) hS (j_subA hD q_sD) (fun H1 locs hP1 hk1 hS => ?_)
  obtain ⟨hP, hD⟩ := q_putD hP hD hk1 hP1
  clear hP1 hk1
  generalize H1 = H at hP hS ⊢
  have hP : va_P (dC, dI) vwCl (qW cI cJ cO ai iv f1 f2 f3 ax n mo (upd iv (v % 20) (nI (v / 20 % 401) - nI 100)) aa an kp py) H := hP
  have hD : va_D (fun q => s.heap.size ≤ q) (qW cI cJ cO ai iv f1 f2 f3 ax n mo (upd iv (v % 20) (nI (v / 20 % 401) - nI 100)) aa an kp py) := hD
  refine lv_aload_n hx hb dL_law_555 rfl (lv_at hl 4 rfl) ?_
  refine lv_iload hx hb dL_law_556 (lv_at hl 1 rfl) ?_
  refine va_iald hx hb hK hP 0 0 (f := iv) rfl rfl (vp_in_nI (n := v % 20) (N := 20) (by omega) (by omega)) dL_law_558 ?_
  refine j_i (y := iv (v % 20)) (by rw [nI_clamp (by omega)]) ?_
  refine lv_icmp_ne (tgt := 566) hx hb dL_law_559 (by decide) (fun c_559 => ?_) (fun c_559 => ?_)
  · exact (c_559 rfl).elim
  · refine lv_iconst (v := nI 1) hx hb dL_law_562 (by decide) ?_
    refine lv_goto (tgt := 567) hx hb dL_law_563 (by decide) ?_
    refine lv_istore (lv' := [(7, .int (nI 1)), (15, .int ((nI ((v / 20) % 401)) - (nI 100))), (14, .int (nI (v % 20))), (0, .ref b), (1, .ref (ax 0)), (2, .ref (ai 0)), (3, .ref (ai 1)), (4, .ref (ai 2)), (5, .ref (ai 3)), (6, .int (nI n)), (8, .int (nI i)), (11, .int (nI a)), (12, .int (nI v))]) hx hb dL_law_567 hl (by decide) rfl (fun ls hl => ?_)
    refine lv_aload_n hx hb dL_law_569 rfl (lv_at hl 5 rfl) ?_
    refine lv_iload hx hb dL_law_570 (lv_at hl 2 rfl) ?_
    refine lv_iload hx hb dL_law_572 (lv_at hl 1 rfl) ?_
    refine va_iast hx hb hK hP hD hS 0 0 (f := iv) (x := (nI ((v / 20) % 401)) - (nI 100)) rfl rfl (vp_in_nI (n := v % 20) (N := 20) (by omega) (by omega)) dL_law_574 (fun H locs hP hD hS => ?_)
    rw [nI_clamp (show v % 20 < 2 ^ 31 by omega)] at hP hD
    have hP : va_P (dC, dI) vwCl (qW cI cJ cO ai (upd iv (v % 20) (nI (v / 20 % 401) - nI 100)) f1 f2 f3 ax n mo (upd iv (v % 20) (nI (v / 20 % 401) - nI 100)) aa an kp py) H := hP
    have hD : va_D (fun q => s.heap.size ≤ q) (qW cI cJ cO ai (upd iv (v % 20) (nI (v / 20 % 401) - nI 100)) f1 f2 f3 ax n mo (upd iv (v % 20) (nI (v / 20 % 401) - nI 100)) aa an kp py) := hD
    refine lv_goto (tgt := 737) hx hb dL_law_575 (by decide) ?_
    exact W.widen (by omega) (by omega) (go n mo (upd iv (v % 20) (nI (v / 20 % 401) - nI 100)) aa an kp py K f1 f2 f3 a H locs _ hI ha hP hD hS (lv_sub hl [3, 4, 5, 6, 7, 8, 9, 0, 10, 11] rfl))
set_option maxHeartbeats 4000000 in
set_option maxRecDepth 100000 in
/-- a death is told -/
theorem lo_die0 {y v : Nat} (hA9 : qAt p l s m c dC dI cI cJ cO b L xs) (hP : va_P (dC, dI) vwCl (qW cI cJ cO ai iv f1 f2 f3 ax n mo iv aa an kp py) H) (hD : va_D (fun q => s.heap.size ≤ q) (qW cI cJ cO ai iv f1 f2 f3 ax n mo iv aa an kp py)) (hS : va_S (fun q => s.heap.size ≤ q) s.heap H locs) (hl : lv_has ls 21 [(0, .ref b), (1, .ref (ax 0)), (2, .ref (ai 0)), (3, .ref (ai 1)), (4, .ref (ai 2)), (5, .ref (ai 3)), (6, .int (nI n)), (7, .int (nI 1)), (8, .int (nI i)), (11, .int (nI a)), (9, .int (nI y)), (12, .int (nI v)), (13, .int (nI mo))]) (hlf : v % 2 = 0) (hy9 : y < 2 ^ 31) (hv9 : v < 2 ^ 31) (hI : qInv n mo an kp K f1 f2 f3) (ha : a < n) (hrc : cells + 2 ≤ 863873) (hrs : slots + 12 ≤ 6509848) (go : qGo p l e s m below meth c dC dI cI cJ cO b ai ax Q 737 i (cells + 2) (slots + 12)) : W p l e room_1 s m #[Value.ref b] below meth c H locs cells slots Q (F0 m 578 ls []) := by
  obtain ⟨hx, hb, hml, hown, hts, hX, hbl, hst, hZ, hK⟩ := id hA9
  have hbA : ¬ s.heap.size ≤ b := Nat.not_le.mpr hbl
  obtain ⟨hn6, hm, hn0, hall⟩ := id hI
  refine lv_iload hx hb dL_law_578 (lv_at hl 11 rfl) ?_
  refine lv_iconst (v := nI 2) hx hb dL_law_580 (by decide) ?_
  refine lv_irem hx hb dL_law_581 (by decide) ?_
  refine j_i (y := nI (v % 2)) (pk_rem (by omega) (by omega) (by omega)) ?_
  refine j_i (y := nI 0) (congrArg nI hlf) ?_
  refine lv_istore (lv' := [(14, .int (nI 0)), (0, .ref b), (1, .ref (ax 0)), (2, .ref (ai 0)), (3, .ref (ai 1)), (4, .ref (ai 2)), (5, .ref (ai 3)), (6, .int (nI n)), (7, .int (nI 1)), (8, .int (nI i)), (11, .int (nI a)), (9, .int (nI y)), (12, .int (nI v)), (13, .int (nI mo))]) hx hb dL_law_582 hl (by decide) rfl (fun ls hl => ?_)
  refine lv_aload_n hx hb dL_law_584 rfl (lv_at hl 2 rfl) ?_
  refine lv_iload hx hb dL_law_585 (lv_at hl 10 rfl) ?_
  refine lv_sipush (v := nI 239) hx hb dL_law_587 (by decide) ?_
  refine q_rL (As := [.ref (ax 0), .int (nI a), .int (nI 239)]) (rest := []) ⟨hx, hb, hml, hown, hts⟩ (c_L_upTo l dC dI cI cJ cI cO ax (jao aa n) n mo iv (aa a) (an a) (kp a) (py a) a 239 (qInv_v hI ha) hm (by omega) (if_pos ha) (by decide)) (vx_cwSW 3 hts gL_law_L_upTo rfl rfl rfl (by decide +kernel) ⟨Nat.le_of_ble_eq_true rfl, Nat.le_of_ble_eq_true rfl⟩) hK (j_subP hP (q_sF ha)) rfl hl rfl (Nat.le_of_ble_eq_true rfl) dL_law_590 (show cells ≤ 863873 ∧ slots ≤ 6509848 from ⟨by omega, by omega⟩) ?_
  refine lv_lstore (lv' := [(15, .long (lN (jU (an a) iv (239 + 1)))), (14, .int (nI 0)), (0, .ref b), (1, .ref (ax 0)), (2, .ref (ai 0)), (3, .ref (ai 1)), (4, .ref (ai 2)), (5, .ref (ai 3)), (6, .int (nI n)), (7, .int (nI 1)), (8, .int (nI i)), (11, .int (nI a)), (9, .int (nI y)), (12, .int (nI v)), (13, .int (nI mo))]) hx hb dL_law_593 hl (by decide) rfl (fun ls hl => ?_)
  refine lv_iload hx hb dL_law_595 (lv_at hl 13 rfl) ?_
  refine lv_iconst (v := nI 2) hx hb dL_law_597 (by decide) ?_
  refine lv_idiv hx hb dL_law_598 (by decide) ?_
  refine j_i (y := nI (v / 2)) (pk_div (by omega) (by omega) (by omega)) ?_
  refine lv_iload hx hb dL_law_599 (lv_at hl 14 rfl) ?_
  refine lv_sipush (v := nI 240) hx hb dL_law_601 (by decide) ?_
  refine j_join (fun d9 : Nat => 1 ≤ d9 ∧ d9 ≤ 240 ∧ d9 ≤ mo + 1) (fun d9 => F0 m 617 ls [.int (nI d9), .int (nI (v / 2))]) (fun d9 hd9 => ?_) (fun J617 => ?_)
  · refine lv_irem hx hb dL_law_617 (fun h0 => by have h1 := (nI_eq (a := d9) (b := 0) (by omega) (by decide)).mp h0; omega) ?_
    refine j_i (y := nI (v / 2 % d9)) (pk_rem (by omega) (by omega) (by omega)) ?_
    have ht1 : v / 2 % d9 < d9 := Nat.mod_lt _ (by omega)
    generalize v / 2 % d9 = t9 at ht1 ⊢
    refine lv_istore (lv' := [(17, .int (nI t9)), (15, .long (lN (jU (an a) iv (239 + 1)))), (14, .int (nI 0)), (0, .ref b), (1, .ref (ax 0)), (2, .ref (ai 0)), (3, .ref (ai 1)), (4, .ref (ai 2)), (5, .ref (ai 3)), (6, .int (nI n)), (7, .int (nI 1)), (8, .int (nI i)), (11, .int (nI a)), (9, .int (nI y)), (12, .int (nI v)), (13, .int (nI mo))]) hx hb dL_law_618 hl (by decide) rfl (fun ls hl => ?_)
    refine lv_aload_n hx hb dL_law_620 rfl (lv_at hl 4 rfl) ?_
    refine lv_iload hx hb dL_law_621 (lv_at hl 12 rfl) ?_
    refine lv_iload hx hb dL_law_623 (lv_at hl 2 rfl) ?_
    refine lv_iload hx hb dL_law_625 (lv_at hl 0 rfl) ?_
    by_cases ht9 : an a 8 = 240
    · refine j_lI (As := [.ref (ax 0), .int (nI a), .int (nI 0), .int (nI t9)]) (rest := []) ⟨hx, hb, hml, hown, hts⟩ (c_L_die0 l dC dI cI cJ cI cO ax (jao aa n) n mo iv (aa a) (an a) (kp a) (py a) a t9 (qInv_v hI ha) hm (by omega) (if_pos ha) (by omega) (by omega) ht9) (vx_cwSW 4 hts gL_law_L_die rfl rfl rfl (by decide +kernel) ⟨Nat.le_of_ble_eq_true rfl, Nat.le_of_ble_eq_true rfl⟩) hK (j_subP hP (q_sF ha)) (j_subD hD (q_sF ha)) rfl hl rfl (Nat.le_of_ble_eq_true rfl) dL_law_627 (show cells ≤ 863873 ∧ slots ≤ 6509848 from ⟨by omega, by omega⟩) hS (j_subA hD (q_sF ha)) (fun H1 locs hP1 hk1 hS => ?_)
      obtain ⟨hP, hD⟩ := q_putA ha hP hD hk1 hP1
      clear hP1 hk1
      generalize H1 = H at hP hS ⊢
      have hP : va_P (dC, dI) vwCl (qW cI cJ cO ai iv f1 f2 f3 ax n mo iv aa (jSet an a (upN (an a) 8 t9)) kp py) H := hP
      have hD : va_D (fun q => s.heap.size ≤ q) (qW cI cJ cO ai iv f1 f2 f3 ax n mo iv aa (jSet an a (upN (an a) 8 t9)) kp py) := hD
      have hI2 := qInv_D (an2 := upN (an a) 8 t9) hI ha (jVu (qInv_v hI ha) (i := 8) (show t9 ≤ 240 by omega)) rfl rfl rfl rfl
      refine lv_istore (lv' := [(18, .int (nI 0)), (17, .int (nI t9)), (15, .long (lN (jU (an a) iv (239 + 1)))), (14, .int (nI 0)), (0, .ref b), (1, .ref (ax 0)), (2, .ref (ai 0)), (3, .ref (ai 1)), (4, .ref (ai 2)), (5, .ref (ai 3)), (6, .int (nI n)), (7, .int (nI 1)), (8, .int (nI i)), (11, .int (nI a)), (9, .int (nI y)), (12, .int (nI v)), (13, .int (nI mo))]) hx hb dL_law_630 hl (by decide) rfl (fun ls hl => ?_)
      refine lv_iload hx hb dL_law_632 (lv_at hl 0 rfl) ?_
      refine lv_if_eq (tgt := 644) hx hb dL_law_634 (by decide) (fun c_634 => ?_) (fun c_634 => ?_)
      · refine lv_iconst (v := nI 1) hx hb dL_law_644 (by decide) ?_
        refine lv_goto (tgt := 649) hx hb dL_law_645 (by decide) ?_
        refine lv_istore (lv' := [(7, .int (nI 1)), (18, .int (nI 0)), (17, .int (nI t9)), (15, .long (lN (jU (an a) iv (239 + 1)))), (14, .int (nI 0)), (0, .ref b), (1, .ref (ax 0)), (2, .ref (ai 0)), (3, .ref (ai 1)), (4, .ref (ai 2)), (5, .ref (ai 3)), (6, .int (nI n)), (8, .int (nI i)), (11, .int (nI a)), (9, .int (nI y)), (12, .int (nI v)), (13, .int (nI mo))]) hx hb dL_law_649 hl (by decide) rfl (fun ls hl => ?_)
        refine lv_iload hx hb dL_law_651 (lv_at hl 1 rfl) ?_
        refine lv_bipush (v := (-103)) hx hb dL_law_653 (by decide) ?_
        refine lv_icmp_ne (tgt := 692) hx hb dL_law_655 (by decide) (fun c_655 => ?_) (fun c_655 => ?_)
        · refine lv_iload hx hb dL_law_692 (lv_at hl 14 rfl) ?_
          refine lv_bipush (v := nI 8) hx hb dL_law_694 (by decide) ?_
          refine lv_irem hx hb dL_law_696 (by decide) ?_
          refine j_i (y := nI (y % 8)) (pk_rem (by omega) (by omega) (by omega)) ?_
          refine lv_bipush (v := nI 6) hx hb dL_law_697 (by decide) ?_
          refine lv_icmp_ne (tgt := 737) hx hb dL_law_699 (by decide) (fun c_699 => ?_) (fun c_699 => ?_)
          · have c_699 : ¬ (y % 8 = 6) := fun h => c_699 ((nI_eq (a := y % 8) (b := 6) (by omega) (by omega)).mpr h)
            exact W.widen (by omega) (by omega) (go n mo iv aa (jSet an a (upN (an a) 8 t9)) kp py K f1 f2 f3 a H locs _ hI2 ha hP hD hS (lv_sub hl [5, 6, 7, 8, 9, 10, 11, 0, 12, 13] rfl))
          · have c_699 : y % 8 = 6 := (nI_eq (a := y % 8) (b := 6) (by omega) (by omega)).mp c_699
            refine lv_aload_n hx hb dL_law_702 rfl (lv_at hl 6 rfl) ?_
            refine lv_iload hx hb dL_law_703 (lv_at hl 13 rfl) ?_
            refine lv_iload hx hb dL_law_705 (lv_at hl 4 rfl) ?_
            have hs9 : jSet an a (upN (an a) 8 t9) a = upN (an a) 8 t9 := jSet_s _ _ _
            refine j_lI (As := [.ref (ax 0), .int (nI a), .int (nI 0)]) (rest := []) ⟨hx, hb, hml, hown, hts⟩ (c_L_takeBack0 l dC dI cI cJ cI cO ax (jao aa n) n mo iv (aa a) ((jSet an a (upN (an a) 8 t9)) a) (kp a) (py a) a  (qInv_v hI2 ha) hm (by omega) (if_pos ha) (by rw [hs9]; show t9 ≠ 240; omega)) (vx_cwSW 3 hts gL_law_L_takeBack rfl rfl rfl (by decide +kernel) ⟨Nat.le_of_ble_eq_true rfl, Nat.le_of_ble_eq_true rfl⟩) hK (j_subP hP (q_sF ha)) (j_subD hD (q_sF ha)) rfl hl rfl (Nat.le_of_ble_eq_true rfl) dL_law_707 (show cells ≤ 863873 ∧ slots ≤ 6509848 from ⟨by omega, by omega⟩) hS (j_subA hD (q_sF ha)) (fun H1 locs hP1 hk1 hS => ?_)
            obtain ⟨hP, hD⟩ := q_putA ha hP hD hk1 hP1
            clear hP1 hk1
            generalize H1 = H at hP hS ⊢
            refine j_i (y := nI t9) (by rw [hs9]; rfl) ?_
            have hP : va_P (dC, dI) vwCl (qW cI cJ cO ai iv f1 f2 f3 ax n mo iv aa (jSet (jSet an a (upN (an a) 8 t9)) a (upN (jSet an a (upN (an a) 8 t9) a) 8 240)) kp py) H := hP
            have hD : va_D (fun q => s.heap.size ≤ q) (qW cI cJ cO ai iv f1 f2 f3 ax n mo iv aa (jSet (jSet an a (upN (an a) 8 t9)) a (upN (jSet an a (upN (an a) 8 t9) a) 8 240)) kp py) := hD
            have e9 : jSet (jSet an a (upN (an a) 8 t9)) a (upN (jSet an a (upN (an a) 8 t9) a) 8 240) = an := by
              rw [hs9, q_tb0 ht9]
              exact q_setset an a _
            rw [e9] at hP hD
            have hP : va_P (dC, dI) vwCl (qW cI cJ cO ai iv f1 f2 f3 ax n mo iv aa an kp py) H := hP
            have hD : va_D (fun q => s.heap.size ≤ q) (qW cI cJ cO ai iv f1 f2 f3 ax n mo iv aa an kp py) := hD
            refine lv_iload hx hb dL_law_710 (lv_at hl 2 rfl) ?_
            refine lv_icmp_ne (tgt := 734) hx hb dL_law_712 (by decide) (fun c_712 => ?_) (fun c_712 => ?_)
            · exact (c_712 rfl).elim
            · refine lv_aload_n hx hb dL_law_715 rfl (lv_at hl 6 rfl) ?_
              refine lv_iload hx hb dL_law_716 (lv_at hl 13 rfl) ?_
              refine lv_sipush (v := nI 239) hx hb dL_law_718 (by decide) ?_
              refine q_rL (As := [.ref (ax 0), .int (nI a), .int (nI 239)]) (rest := []) ⟨hx, hb, hml, hown, hts⟩ (c_L_upTo l dC dI cI cJ cI cO ax (jao aa n) n mo iv (aa a) (an a) (kp a) (py a) a 239 (qInv_v hI ha) hm (by omega) (if_pos ha) (by decide)) (vx_cwSW 3 hts gL_law_L_upTo rfl rfl rfl (by decide +kernel) ⟨Nat.le_of_ble_eq_true rfl, Nat.le_of_ble_eq_true rfl⟩) hK (j_subP hP (q_sF ha)) rfl hl rfl (Nat.le_of_ble_eq_true rfl) dL_law_721 (show cells ≤ 863873 ∧ slots ≤ 6509848 from ⟨by omega, by omega⟩) ?_
              refine lv_lload hx hb dL_law_724 (lv_at hl 3 rfl) ?_
              refine W.lcmp hx hb dL_law_726 ?_
              refine lv_if_ne (tgt := 734) hx hb dL_law_727 (by decide) (fun c_727 => ?_) (fun c_727 => ?_)
              · exact absurd (jcmp0 _) c_727
              · refine lv_iconst (v := nI 1) hx hb dL_law_730 (by decide) ?_
                refine lv_goto (tgt := 735) hx hb dL_law_731 (by decide) ?_
                refine lv_istore (lv' := [(7, .int (nI 1)), (18, .int (nI 0)), (17, .int (nI t9)), (15, .long (lN (jU (an a) iv (239 + 1)))), (14, .int (nI 0)), (0, .ref b), (1, .ref (ax 0)), (2, .ref (ai 0)), (3, .ref (ai 1)), (4, .ref (ai 2)), (5, .ref (ai 3)), (6, .int (nI n)), (8, .int (nI i)), (11, .int (nI a)), (9, .int (nI y)), (12, .int (nI v)), (13, .int (nI mo))]) hx hb dL_law_735 hl (by decide) rfl (fun ls hl => ?_)
                exact W.widen (by omega) (by omega) (go n mo iv aa an kp py K f1 f2 f3 a H locs _ hI ha hP hD hS (lv_sub hl [5, 6, 7, 8, 9, 10, 11, 0, 12, 13] rfl))
        · exact absurd c_655 (by decide)
      · exact (c_634 rfl).elim
    · have hX9 : jX (fun _ => False) s H := jX.narrow (jX.kept hZ (fun a h1 h2 => hS.2.1 a h1 h2)) (fun _ h => h.elim)
      refine q_xI (As := [.ref (ax 0), .int (nI a), .int (nI 0), .int (nI t9)]) (rest := []) ⟨hx, hb, hml, hown, hts⟩ (x3_0_L_die l dC dI cI cJ cI cO ax (jao aa n) n mo iv (aa a) (an a) (kp a) (py a) a t9 hst (qInv_v hI ha) hm (by omega) (if_pos ha) (by omega) (by omega) ht9) (vx_cwSW 4 hts gL_law_L_die rfl rfl rfl (by decide +kernel) ⟨Nat.le_of_ble_eq_true rfl, Nat.le_of_ble_eq_true rfl⟩) hX9 hK (j_subP hP (q_sF ha)) rfl hl rfl (Nat.le_of_ble_eq_true rfl) dL_law_627 (show cells + 1 ≤ 863873 ∧ slots + 6 ≤ 6509848 from ⟨by omega, by omega⟩) hS (fun H1 locs _ hk1 hS => ?_)
      have hP := j_keep hP hk1
      clear hk1 hX9
      generalize H1 = H at hP hS ⊢
      refine lv_istore (lv' := [(18, .int (-103)), (17, .int (nI t9)), (15, .long (lN (jU (an a) iv (239 + 1)))), (14, .int (nI 0)), (0, .ref b), (1, .ref (ax 0)), (2, .ref (ai 0)), (3, .ref (ai 1)), (4, .ref (ai 2)), (5, .ref (ai 3)), (6, .int (nI n)), (7, .int (nI 1)), (8, .int (nI i)), (11, .int (nI a)), (9, .int (nI y)), (12, .int (nI v)), (13, .int (nI mo))]) hx hb dL_law_630 hl (by decide) rfl (fun ls hl => ?_)
      refine lv_iload hx hb dL_law_632 (lv_at hl 0 rfl) ?_
      refine lv_if_eq (tgt := 644) hx hb dL_law_634 (by decide) (fun c_634 => ?_) (fun c_634 => ?_)
      · exact absurd c_634 (by decide)
      · refine lv_iload hx hb dL_law_637 (lv_at hl 0 rfl) ?_
        refine lv_bipush (v := (-103)) hx hb dL_law_639 (by decide) ?_
        refine lv_icmp_ne (tgt := 648) hx hb dL_law_641 (by decide) (fun c_641 => ?_) (fun c_641 => ?_)
        · exact (c_641 rfl).elim
        · refine lv_iconst (v := nI 1) hx hb dL_law_644 (by decide) ?_
          refine lv_goto (tgt := 649) hx hb dL_law_645 (by decide) ?_
          refine lv_istore (lv' := [(7, .int (nI 1)), (18, .int (-103)), (17, .int (nI t9)), (15, .long (lN (jU (an a) iv (239 + 1)))), (14, .int (nI 0)), (0, .ref b), (1, .ref (ax 0)), (2, .ref (ai 0)), (3, .ref (ai 1)), (4, .ref (ai 2)), (5, .ref (ai 3)), (6, .int (nI n)), (8, .int (nI i)), (11, .int (nI a)), (9, .int (nI y)), (12, .int (nI v)), (13, .int (nI mo))]) hx hb dL_law_649 hl (by decide) rfl (fun ls hl => ?_)
          refine lv_iload hx hb dL_law_651 (lv_at hl 1 rfl) ?_
          refine lv_bipush (v := (-103)) hx hb dL_law_653 (by decide) ?_
          refine lv_icmp_ne (tgt := 692) hx hb dL_law_655 (by decide) (fun c_655 => ?_) (fun c_655 => ?_)
          · exact (c_655 rfl).elim
          · refine lv_aload_n hx hb dL_law_658 rfl (lv_at hl 6 rfl) ?_
            refine lv_iload hx hb dL_law_659 (lv_at hl 13 rfl) ?_
            refine lv_iload hx hb dL_law_661 (lv_at hl 4 rfl) ?_
            refine j_lI (As := [.ref (ax 0), .int (nI a), .int (nI 0)]) (rest := []) ⟨hx, hb, hml, hown, hts⟩ (c_L_takeBack0 l dC dI cI cJ cI cO ax (jao aa n) n mo iv (aa a) (an a) (kp a) (py a) a  (qInv_v hI ha) hm (by omega) (if_pos ha) ht9) (vx_cwSW 3 hts gL_law_L_takeBack rfl rfl rfl (by decide +kernel) ⟨Nat.le_of_ble_eq_true rfl, Nat.le_of_ble_eq_true rfl⟩) hK (j_subP hP (q_sF ha)) (j_subD hD (q_sF ha)) rfl hl rfl (Nat.le_of_ble_eq_true rfl) dL_law_663 (show cells + 1 ≤ 863873 ∧ slots + 6 ≤ 6509848 from ⟨by omega, by omega⟩) hS (j_subA hD (q_sF ha)) (fun H1 locs hP1 hk1 hS => ?_)
            obtain ⟨hP, hD⟩ := q_putA ha hP hD hk1 hP1
            clear hP1 hk1
            generalize H1 = H at hP hS ⊢
            have hP : va_P (dC, dI) vwCl (qW cI cJ cO ai iv f1 f2 f3 ax n mo iv aa (jSet an a (upN (an a) 8 240)) kp py) H := hP
            have hD : va_D (fun q => s.heap.size ≤ q) (qW cI cJ cO ai iv f1 f2 f3 ax n mo iv aa (jSet an a (upN (an a) 8 240)) kp py) := hD
            have hI2 := qInv_D (an2 := upN (an a) 8 240) hI ha (jVu (qInv_v hI ha) (i := 8) (Nat.le_refl 240)) rfl rfl rfl rfl
            have hs9 : jSet an a (upN (an a) 8 240) a = upN (an a) 8 240 := jSet_s _ _ _
            refine lv_if_lt (tgt := 686) hx hb dL_law_666 (by decide) (fun c_666 => ?_) (fun c_666 => ?_)
            · have h1 := (qInv_v hI ha)
              obtain ⟨-, -, -, -, -, -, -, -, u8, u9⟩ := h1
              exact absurd c_666 (nI_nlt0 (show an a 8 < 2 ^ 31 by omega))
            · refine lv_aload_n hx hb dL_law_669 rfl (lv_at hl 6 rfl) ?_
              refine lv_iload hx hb dL_law_670 (lv_at hl 13 rfl) ?_
              refine lv_iload hx hb dL_law_672 (lv_at hl 4 rfl) ?_
              have hX9 : jX (fun _ => False) s H := jX.narrow (jX.kept hZ (fun a h1 h2 => hS.2.1 a h1 h2)) (fun _ h => h.elim)
              refine q_xI (As := [.ref (ax 0), .int (nI a), .int (nI 0)]) (rest := []) ⟨hx, hb, hml, hown, hts⟩ (x3_0_L_takeBack l dC dI cI cJ cI cO ax (jao aa n) n mo iv (aa a) ((jSet an a (upN (an a) 8 240)) a) (kp a) (py a) a hst (qInv_v hI2 ha) hm (by omega) (if_pos ha) (by rw [hs9]; rfl)) (vx_cwSW 3 hts gL_law_L_takeBack rfl rfl rfl (by decide +kernel) ⟨Nat.le_of_ble_eq_true rfl, Nat.le_of_ble_eq_true rfl⟩) hX9 hK (j_subP hP (q_sF ha)) rfl hl rfl (Nat.le_of_ble_eq_true rfl) dL_law_674 (show cells + 1 + 1 ≤ 863873 ∧ slots + 6 + 6 ≤ 6509848 from ⟨by omega, by omega⟩) hS (fun H1 locs _ hk1 hS => ?_)
              have hP := j_keep hP hk1
              clear hk1 hX9
              generalize H1 = H at hP hS ⊢
              refine lv_bipush (v := (-103)) hx hb dL_law_677 (by decide) ?_
              refine lv_icmp_ne (tgt := 686) hx hb dL_law_679 (by decide) (fun c_679 => ?_) (fun c_679 => ?_)
              · exact (c_679 rfl).elim
              · refine lv_iconst (v := nI 1) hx hb dL_law_682 (by decide) ?_
                refine lv_goto (tgt := 687) hx hb dL_law_683 (by decide) ?_
                refine lv_istore (lv' := [(7, .int (nI 1)), (18, .int (-103)), (17, .int (nI t9)), (15, .long (lN (jU (an a) iv (239 + 1)))), (14, .int (nI 0)), (0, .ref b), (1, .ref (ax 0)), (2, .ref (ai 0)), (3, .ref (ai 1)), (4, .ref (ai 2)), (5, .ref (ai 3)), (6, .int (nI n)), (8, .int (nI i)), (11, .int (nI a)), (9, .int (nI y)), (12, .int (nI v)), (13, .int (nI mo))]) hx hb dL_law_687 hl (by decide) rfl (fun ls hl => ?_)
                refine lv_goto (tgt := 737) hx hb dL_law_689 (by decide) ?_
                exact W.widen (by omega) (by omega) (go n mo iv aa (jSet an a (upN (an a) 8 240)) kp py K f1 f2 f3 a H locs _ hI2 ha hP hD hS (lv_sub hl [5, 6, 7, 8, 9, 10, 11, 0, 12, 13] rfl))
  refine lv_icmp_ge (tgt := 614) hx hb dL_law_604 (by decide) (fun c_604 => ?_) (fun c_604 => ?_)
  · have c_604 : 240 ≤ mo := (nI_leI (a := 240) (b := mo) (by omega) (by omega)).mp c_604
    refine lv_sipush (v := nI 240) hx hb dL_law_614 (by decide) ?_
    exact J617 240 ⟨by omega, by omega, by omega⟩
  · have c_604 : ¬ (240 ≤ mo) := fun h => c_604 ((nI_leI (a := 240) (b := mo) (by omega) (by omega)).mpr h)
    refine lv_iload hx hb dL_law_607 (lv_at hl 14 rfl) ?_
    refine lv_iconst (v := nI 1) hx hb dL_law_609 (by decide) ?_
    refine lv_iadd hx hb dL_law_610 ?_
    refine j_i (y := nI (mo + 1)) (nI_add _ _) ?_
    refine lv_goto (tgt := 617) hx hb dL_law_611 (by decide) ?_
    exact J617 (mo + 1) ⟨by omega, by omega, by omega⟩
set_option maxHeartbeats 4000000 in
set_option maxRecDepth 100000 in
/-- a death is told -/
theorem lo_die1 {y v : Nat} (hA9 : qAt p l s m c dC dI cI cJ cO b L xs) (hP : va_P (dC, dI) vwCl (qW cI cJ cO ai iv f1 f2 f3 ax n mo iv aa an kp py) H) (hD : va_D (fun q => s.heap.size ≤ q) (qW cI cJ cO ai iv f1 f2 f3 ax n mo iv aa an kp py)) (hS : va_S (fun q => s.heap.size ≤ q) s.heap H locs) (hl : lv_has ls 21 [(0, .ref b), (1, .ref (ax 0)), (2, .ref (ai 0)), (3, .ref (ai 1)), (4, .ref (ai 2)), (5, .ref (ai 3)), (6, .int (nI n)), (7, .int (nI 1)), (8, .int (nI i)), (11, .int (nI a)), (9, .int (nI y)), (12, .int (nI v)), (13, .int (nI mo))]) (hlf : v % 2 = 1) (hy9 : y < 2 ^ 31) (hv9 : v < 2 ^ 31) (hI : qInv n mo an kp K f1 f2 f3) (ha : a < n) (hrc : cells + 2 ≤ 863873) (hrs : slots + 12 ≤ 6509848) (go : qGo p l e s m below meth c dC dI cI cJ cO b ai ax Q 737 i (cells + 2) (slots + 12)) : W p l e room_1 s m #[Value.ref b] below meth c H locs cells slots Q (F0 m 578 ls []) := by
  obtain ⟨hx, hb, hml, hown, hts, hX, hbl, hst, hZ, hK⟩ := id hA9
  have hbA : ¬ s.heap.size ≤ b := Nat.not_le.mpr hbl
  obtain ⟨hn6, hm, hn0, hall⟩ := id hI
  refine lv_iload hx hb dL_law_578 (lv_at hl 11 rfl) ?_
  refine lv_iconst (v := nI 2) hx hb dL_law_580 (by decide) ?_
  refine lv_irem hx hb dL_law_581 (by decide) ?_
  refine j_i (y := nI (v % 2)) (pk_rem (by omega) (by omega) (by omega)) ?_
  refine j_i (y := nI 1) (congrArg nI hlf) ?_
  refine lv_istore (lv' := [(14, .int (nI 1)), (0, .ref b), (1, .ref (ax 0)), (2, .ref (ai 0)), (3, .ref (ai 1)), (4, .ref (ai 2)), (5, .ref (ai 3)), (6, .int (nI n)), (7, .int (nI 1)), (8, .int (nI i)), (11, .int (nI a)), (9, .int (nI y)), (12, .int (nI v)), (13, .int (nI mo))]) hx hb dL_law_582 hl (by decide) rfl (fun ls hl => ?_)
  refine lv_aload_n hx hb dL_law_584 rfl (lv_at hl 2 rfl) ?_
  refine lv_iload hx hb dL_law_585 (lv_at hl 10 rfl) ?_
  refine lv_sipush (v := nI 239) hx hb dL_law_587 (by decide) ?_
  refine q_rL (As := [.ref (ax 0), .int (nI a), .int (nI 239)]) (rest := []) ⟨hx, hb, hml, hown, hts⟩ (c_L_upTo l dC dI cI cJ cI cO ax (jao aa n) n mo iv (aa a) (an a) (kp a) (py a) a 239 (qInv_v hI ha) hm (by omega) (if_pos ha) (by decide)) (vx_cwSW 3 hts gL_law_L_upTo rfl rfl rfl (by decide +kernel) ⟨Nat.le_of_ble_eq_true rfl, Nat.le_of_ble_eq_true rfl⟩) hK (j_subP hP (q_sF ha)) rfl hl rfl (Nat.le_of_ble_eq_true rfl) dL_law_590 (show cells ≤ 863873 ∧ slots ≤ 6509848 from ⟨by omega, by omega⟩) ?_
  refine lv_lstore (lv' := [(15, .long (lN (jU (an a) iv (239 + 1)))), (14, .int (nI 1)), (0, .ref b), (1, .ref (ax 0)), (2, .ref (ai 0)), (3, .ref (ai 1)), (4, .ref (ai 2)), (5, .ref (ai 3)), (6, .int (nI n)), (7, .int (nI 1)), (8, .int (nI i)), (11, .int (nI a)), (9, .int (nI y)), (12, .int (nI v)), (13, .int (nI mo))]) hx hb dL_law_593 hl (by decide) rfl (fun ls hl => ?_)
  refine lv_iload hx hb dL_law_595 (lv_at hl 13 rfl) ?_
  refine lv_iconst (v := nI 2) hx hb dL_law_597 (by decide) ?_
  refine lv_idiv hx hb dL_law_598 (by decide) ?_
  refine j_i (y := nI (v / 2)) (pk_div (by omega) (by omega) (by omega)) ?_
  refine lv_iload hx hb dL_law_599 (lv_at hl 14 rfl) ?_
  refine lv_sipush (v := nI 240) hx hb dL_law_601 (by decide) ?_
  refine j_join (fun d9 : Nat => 1 ≤ d9 ∧ d9 ≤ 240 ∧ d9 ≤ mo + 1) (fun d9 => F0 m 617 ls [.int (nI d9), .int (nI (v / 2))]) (fun d9 hd9 => ?_) (fun J617 => ?_)
  · refine lv_irem hx hb dL_law_617 (fun h0 => by have h1 := (nI_eq (a := d9) (b := 0) (by omega) (by decide)).mp h0; omega) ?_
    refine j_i (y := nI (v / 2 % d9)) (pk_rem (by omega) (by omega) (by omega)) ?_
    have ht1 : v / 2 % d9 < d9 := Nat.mod_lt _ (by omega)
    generalize v / 2 % d9 = t9 at ht1 ⊢
    refine lv_istore (lv' := [(17, .int (nI t9)), (15, .long (lN (jU (an a) iv (239 + 1)))), (14, .int (nI 1)), (0, .ref b), (1, .ref (ax 0)), (2, .ref (ai 0)), (3, .ref (ai 1)), (4, .ref (ai 2)), (5, .ref (ai 3)), (6, .int (nI n)), (7, .int (nI 1)), (8, .int (nI i)), (11, .int (nI a)), (9, .int (nI y)), (12, .int (nI v)), (13, .int (nI mo))]) hx hb dL_law_618 hl (by decide) rfl (fun ls hl => ?_)
    refine lv_aload_n hx hb dL_law_620 rfl (lv_at hl 4 rfl) ?_
    refine lv_iload hx hb dL_law_621 (lv_at hl 12 rfl) ?_
    refine lv_iload hx hb dL_law_623 (lv_at hl 2 rfl) ?_
    refine lv_iload hx hb dL_law_625 (lv_at hl 0 rfl) ?_
    by_cases ht9 : an a 9 = 240
    · refine j_lI (As := [.ref (ax 0), .int (nI a), .int (nI 1), .int (nI t9)]) (rest := []) ⟨hx, hb, hml, hown, hts⟩ (c_L_die1 l dC dI cI cJ cI cO ax (jao aa n) n mo iv (aa a) (an a) (kp a) (py a) a t9 (qInv_v hI ha) hm (by omega) (if_pos ha) (by omega) (by omega) ht9) (vx_cwSW 4 hts gL_law_L_die rfl rfl rfl (by decide +kernel) ⟨Nat.le_of_ble_eq_true rfl, Nat.le_of_ble_eq_true rfl⟩) hK (j_subP hP (q_sF ha)) (j_subD hD (q_sF ha)) rfl hl rfl (Nat.le_of_ble_eq_true rfl) dL_law_627 (show cells ≤ 863873 ∧ slots ≤ 6509848 from ⟨by omega, by omega⟩) hS (j_subA hD (q_sF ha)) (fun H1 locs hP1 hk1 hS => ?_)
      obtain ⟨hP, hD⟩ := q_putA ha hP hD hk1 hP1
      clear hP1 hk1
      generalize H1 = H at hP hS ⊢
      have hP : va_P (dC, dI) vwCl (qW cI cJ cO ai iv f1 f2 f3 ax n mo iv aa (jSet an a (upN (an a) 9 t9)) kp py) H := hP
      have hD : va_D (fun q => s.heap.size ≤ q) (qW cI cJ cO ai iv f1 f2 f3 ax n mo iv aa (jSet an a (upN (an a) 9 t9)) kp py) := hD
      have hI2 := qInv_D (an2 := upN (an a) 9 t9) hI ha (jVu (qInv_v hI ha) (i := 9) (show t9 ≤ 240 by omega)) rfl rfl rfl rfl
      refine lv_istore (lv' := [(18, .int (nI 0)), (17, .int (nI t9)), (15, .long (lN (jU (an a) iv (239 + 1)))), (14, .int (nI 1)), (0, .ref b), (1, .ref (ax 0)), (2, .ref (ai 0)), (3, .ref (ai 1)), (4, .ref (ai 2)), (5, .ref (ai 3)), (6, .int (nI n)), (7, .int (nI 1)), (8, .int (nI i)), (11, .int (nI a)), (9, .int (nI y)), (12, .int (nI v)), (13, .int (nI mo))]) hx hb dL_law_630 hl (by decide) rfl (fun ls hl => ?_)
      refine lv_iload hx hb dL_law_632 (lv_at hl 0 rfl) ?_
      refine lv_if_eq (tgt := 644) hx hb dL_law_634 (by decide) (fun c_634 => ?_) (fun c_634 => ?_)
      · refine lv_iconst (v := nI 1) hx hb dL_law_644 (by decide) ?_
        refine lv_goto (tgt := 649) hx hb dL_law_645 (by decide) ?_
        refine lv_istore (lv' := [(7, .int (nI 1)), (18, .int (nI 0)), (17, .int (nI t9)), (15, .long (lN (jU (an a) iv (239 + 1)))), (14, .int (nI 1)), (0, .ref b), (1, .ref (ax 0)), (2, .ref (ai 0)), (3, .ref (ai 1)), (4, .ref (ai 2)), (5, .ref (ai 3)), (6, .int (nI n)), (8, .int (nI i)), (11, .int (nI a)), (9, .int (nI y)), (12, .int (nI v)), (13, .int (nI mo))]) hx hb dL_law_649 hl (by decide) rfl (fun ls hl => ?_)
        refine lv_iload hx hb dL_law_651 (lv_at hl 1 rfl) ?_
        refine lv_bipush (v := (-103)) hx hb dL_law_653 (by decide) ?_
        refine lv_icmp_ne (tgt := 692) hx hb dL_law_655 (by decide) (fun c_655 => ?_) (fun c_655 => ?_)
        · refine lv_iload hx hb dL_law_692 (lv_at hl 14 rfl) ?_
          refine lv_bipush (v := nI 8) hx hb dL_law_694 (by decide) ?_
          refine lv_irem hx hb dL_law_696 (by decide) ?_
          refine j_i (y := nI (y % 8)) (pk_rem (by omega) (by omega) (by omega)) ?_
          refine lv_bipush (v := nI 6) hx hb dL_law_697 (by decide) ?_
          refine lv_icmp_ne (tgt := 737) hx hb dL_law_699 (by decide) (fun c_699 => ?_) (fun c_699 => ?_)
          · have c_699 : ¬ (y % 8 = 6) := fun h => c_699 ((nI_eq (a := y % 8) (b := 6) (by omega) (by omega)).mpr h)
            exact W.widen (by omega) (by omega) (go n mo iv aa (jSet an a (upN (an a) 9 t9)) kp py K f1 f2 f3 a H locs _ hI2 ha hP hD hS (lv_sub hl [5, 6, 7, 8, 9, 10, 11, 0, 12, 13] rfl))
          · have c_699 : y % 8 = 6 := (nI_eq (a := y % 8) (b := 6) (by omega) (by omega)).mp c_699
            refine lv_aload_n hx hb dL_law_702 rfl (lv_at hl 6 rfl) ?_
            refine lv_iload hx hb dL_law_703 (lv_at hl 13 rfl) ?_
            refine lv_iload hx hb dL_law_705 (lv_at hl 4 rfl) ?_
            have hs9 : jSet an a (upN (an a) 9 t9) a = upN (an a) 9 t9 := jSet_s _ _ _
            refine j_lI (As := [.ref (ax 0), .int (nI a), .int (nI 1)]) (rest := []) ⟨hx, hb, hml, hown, hts⟩ (c_L_takeBack1 l dC dI cI cJ cI cO ax (jao aa n) n mo iv (aa a) ((jSet an a (upN (an a) 9 t9)) a) (kp a) (py a) a  (qInv_v hI2 ha) hm (by omega) (if_pos ha) (by rw [hs9]; show t9 ≠ 240; omega)) (vx_cwSW 3 hts gL_law_L_takeBack rfl rfl rfl (by decide +kernel) ⟨Nat.le_of_ble_eq_true rfl, Nat.le_of_ble_eq_true rfl⟩) hK (j_subP hP (q_sF ha)) (j_subD hD (q_sF ha)) rfl hl rfl (Nat.le_of_ble_eq_true rfl) dL_law_707 (show cells ≤ 863873 ∧ slots ≤ 6509848 from ⟨by omega, by omega⟩) hS (j_subA hD (q_sF ha)) (fun H1 locs hP1 hk1 hS => ?_)
            obtain ⟨hP, hD⟩ := q_putA ha hP hD hk1 hP1
            clear hP1 hk1
            generalize H1 = H at hP hS ⊢
            refine j_i (y := nI t9) (by rw [hs9]; rfl) ?_
            have hP : va_P (dC, dI) vwCl (qW cI cJ cO ai iv f1 f2 f3 ax n mo iv aa (jSet (jSet an a (upN (an a) 9 t9)) a (upN (jSet an a (upN (an a) 9 t9) a) 9 240)) kp py) H := hP
            have hD : va_D (fun q => s.heap.size ≤ q) (qW cI cJ cO ai iv f1 f2 f3 ax n mo iv aa (jSet (jSet an a (upN (an a) 9 t9)) a (upN (jSet an a (upN (an a) 9 t9) a) 9 240)) kp py) := hD
            have e9 : jSet (jSet an a (upN (an a) 9 t9)) a (upN (jSet an a (upN (an a) 9 t9) a) 9 240) = an := by
              rw [hs9, q_tb1 ht9]
              exact q_setset an a _
            rw [e9] at hP hD
            have hP : va_P (dC, dI) vwCl (qW cI cJ cO ai iv f1 f2 f3 ax n mo iv aa an kp py) H := hP
            have hD : va_D (fun q => s.heap.size ≤ q) (qW cI cJ cO ai iv f1 f2 f3 ax n mo iv aa an kp py) := hD
            refine lv_iload hx hb dL_law_710 (lv_at hl 2 rfl) ?_
            refine lv_icmp_ne (tgt := 734) hx hb dL_law_712 (by decide) (fun c_712 => ?_) (fun c_712 => ?_)
            · exact (c_712 rfl).elim
            · refine lv_aload_n hx hb dL_law_715 rfl (lv_at hl 6 rfl) ?_
              refine lv_iload hx hb dL_law_716 (lv_at hl 13 rfl) ?_
              refine lv_sipush (v := nI 239) hx hb dL_law_718 (by decide) ?_
              refine q_rL (As := [.ref (ax 0), .int (nI a), .int (nI 239)]) (rest := []) ⟨hx, hb, hml, hown, hts⟩ (c_L_upTo l dC dI cI cJ cI cO ax (jao aa n) n mo iv (aa a) (an a) (kp a) (py a) a 239 (qInv_v hI ha) hm (by omega) (if_pos ha) (by decide)) (vx_cwSW 3 hts gL_law_L_upTo rfl rfl rfl (by decide +kernel) ⟨Nat.le_of_ble_eq_true rfl, Nat.le_of_ble_eq_true rfl⟩) hK (j_subP hP (q_sF ha)) rfl hl rfl (Nat.le_of_ble_eq_true rfl) dL_law_721 (show cells ≤ 863873 ∧ slots ≤ 6509848 from ⟨by omega, by omega⟩) ?_
              refine lv_lload hx hb dL_law_724 (lv_at hl 3 rfl) ?_
              refine W.lcmp hx hb dL_law_726 ?_
              refine lv_if_ne (tgt := 734) hx hb dL_law_727 (by decide) (fun c_727 => ?_) (fun c_727 => ?_)
              · exact absurd (jcmp0 _) c_727
              · refine lv_iconst (v := nI 1) hx hb dL_law_730 (by decide) ?_
                refine lv_goto (tgt := 735) hx hb dL_law_731 (by decide) ?_
                refine lv_istore (lv' := [(7, .int (nI 1)), (18, .int (nI 0)), (17, .int (nI t9)), (15, .long (lN (jU (an a) iv (239 + 1)))), (14, .int (nI 1)), (0, .ref b), (1, .ref (ax 0)), (2, .ref (ai 0)), (3, .ref (ai 1)), (4, .ref (ai 2)), (5, .ref (ai 3)), (6, .int (nI n)), (8, .int (nI i)), (11, .int (nI a)), (9, .int (nI y)), (12, .int (nI v)), (13, .int (nI mo))]) hx hb dL_law_735 hl (by decide) rfl (fun ls hl => ?_)
                exact W.widen (by omega) (by omega) (go n mo iv aa an kp py K f1 f2 f3 a H locs _ hI ha hP hD hS (lv_sub hl [5, 6, 7, 8, 9, 10, 11, 0, 12, 13] rfl))
        · exact absurd c_655 (by decide)
      · exact (c_634 rfl).elim
    · have hX9 : jX (fun _ => False) s H := jX.narrow (jX.kept hZ (fun a h1 h2 => hS.2.1 a h1 h2)) (fun _ h => h.elim)
      refine q_xI (As := [.ref (ax 0), .int (nI a), .int (nI 1), .int (nI t9)]) (rest := []) ⟨hx, hb, hml, hown, hts⟩ (x3_1_L_die l dC dI cI cJ cI cO ax (jao aa n) n mo iv (aa a) (an a) (kp a) (py a) a t9 hst (qInv_v hI ha) hm (by omega) (if_pos ha) (by omega) (by omega) ht9) (vx_cwSW 4 hts gL_law_L_die rfl rfl rfl (by decide +kernel) ⟨Nat.le_of_ble_eq_true rfl, Nat.le_of_ble_eq_true rfl⟩) hX9 hK (j_subP hP (q_sF ha)) rfl hl rfl (Nat.le_of_ble_eq_true rfl) dL_law_627 (show cells + 1 ≤ 863873 ∧ slots + 6 ≤ 6509848 from ⟨by omega, by omega⟩) hS (fun H1 locs _ hk1 hS => ?_)
      have hP := j_keep hP hk1
      clear hk1 hX9
      generalize H1 = H at hP hS ⊢
      refine lv_istore (lv' := [(18, .int (-103)), (17, .int (nI t9)), (15, .long (lN (jU (an a) iv (239 + 1)))), (14, .int (nI 1)), (0, .ref b), (1, .ref (ax 0)), (2, .ref (ai 0)), (3, .ref (ai 1)), (4, .ref (ai 2)), (5, .ref (ai 3)), (6, .int (nI n)), (7, .int (nI 1)), (8, .int (nI i)), (11, .int (nI a)), (9, .int (nI y)), (12, .int (nI v)), (13, .int (nI mo))]) hx hb dL_law_630 hl (by decide) rfl (fun ls hl => ?_)
      refine lv_iload hx hb dL_law_632 (lv_at hl 0 rfl) ?_
      refine lv_if_eq (tgt := 644) hx hb dL_law_634 (by decide) (fun c_634 => ?_) (fun c_634 => ?_)
      · exact absurd c_634 (by decide)
      · refine lv_iload hx hb dL_law_637 (lv_at hl 0 rfl) ?_
        refine lv_bipush (v := (-103)) hx hb dL_law_639 (by decide) ?_
        refine lv_icmp_ne (tgt := 648) hx hb dL_law_641 (by decide) (fun c_641 => ?_) (fun c_641 => ?_)
        · exact (c_641 rfl).elim
        · refine lv_iconst (v := nI 1) hx hb dL_law_644 (by decide) ?_
          refine lv_goto (tgt := 649) hx hb dL_law_645 (by decide) ?_
          refine lv_istore (lv' := [(7, .int (nI 1)), (18, .int (-103)), (17, .int (nI t9)), (15, .long (lN (jU (an a) iv (239 + 1)))), (14, .int (nI 1)), (0, .ref b), (1, .ref (ax 0)), (2, .ref (ai 0)), (3, .ref (ai 1)), (4, .ref (ai 2)), (5, .ref (ai 3)), (6, .int (nI n)), (8, .int (nI i)), (11, .int (nI a)), (9, .int (nI y)), (12, .int (nI v)), (13, .int (nI mo))]) hx hb dL_law_649 hl (by decide) rfl (fun ls hl => ?_)
          refine lv_iload hx hb dL_law_651 (lv_at hl 1 rfl) ?_
          refine lv_bipush (v := (-103)) hx hb dL_law_653 (by decide) ?_
          refine lv_icmp_ne (tgt := 692) hx hb dL_law_655 (by decide) (fun c_655 => ?_) (fun c_655 => ?_)
          · exact (c_655 rfl).elim
          · refine lv_aload_n hx hb dL_law_658 rfl (lv_at hl 6 rfl) ?_
            refine lv_iload hx hb dL_law_659 (lv_at hl 13 rfl) ?_
            refine lv_iload hx hb dL_law_661 (lv_at hl 4 rfl) ?_
            refine j_lI (As := [.ref (ax 0), .int (nI a), .int (nI 1)]) (rest := []) ⟨hx, hb, hml, hown, hts⟩ (c_L_takeBack1 l dC dI cI cJ cI cO ax (jao aa n) n mo iv (aa a) (an a) (kp a) (py a) a  (qInv_v hI ha) hm (by omega) (if_pos ha) ht9) (vx_cwSW 3 hts gL_law_L_takeBack rfl rfl rfl (by decide +kernel) ⟨Nat.le_of_ble_eq_true rfl, Nat.le_of_ble_eq_true rfl⟩) hK (j_subP hP (q_sF ha)) (j_subD hD (q_sF ha)) rfl hl rfl (Nat.le_of_ble_eq_true rfl) dL_law_663 (show cells + 1 ≤ 863873 ∧ slots + 6 ≤ 6509848 from ⟨by omega, by omega⟩) hS (j_subA hD (q_sF ha)) (fun H1 locs hP1 hk1 hS => ?_)
            obtain ⟨hP, hD⟩ := q_putA ha hP hD hk1 hP1
            clear hP1 hk1
            generalize H1 = H at hP hS ⊢
            have hP : va_P (dC, dI) vwCl (qW cI cJ cO ai iv f1 f2 f3 ax n mo iv aa (jSet an a (upN (an a) 9 240)) kp py) H := hP
            have hD : va_D (fun q => s.heap.size ≤ q) (qW cI cJ cO ai iv f1 f2 f3 ax n mo iv aa (jSet an a (upN (an a) 9 240)) kp py) := hD
            have hI2 := qInv_D (an2 := upN (an a) 9 240) hI ha (jVu (qInv_v hI ha) (i := 9) (Nat.le_refl 240)) rfl rfl rfl rfl
            have hs9 : jSet an a (upN (an a) 9 240) a = upN (an a) 9 240 := jSet_s _ _ _
            refine lv_if_lt (tgt := 686) hx hb dL_law_666 (by decide) (fun c_666 => ?_) (fun c_666 => ?_)
            · have h1 := (qInv_v hI ha)
              obtain ⟨-, -, -, -, -, -, -, -, u8, u9⟩ := h1
              exact absurd c_666 (nI_nlt0 (show an a 9 < 2 ^ 31 by omega))
            · refine lv_aload_n hx hb dL_law_669 rfl (lv_at hl 6 rfl) ?_
              refine lv_iload hx hb dL_law_670 (lv_at hl 13 rfl) ?_
              refine lv_iload hx hb dL_law_672 (lv_at hl 4 rfl) ?_
              have hX9 : jX (fun _ => False) s H := jX.narrow (jX.kept hZ (fun a h1 h2 => hS.2.1 a h1 h2)) (fun _ h => h.elim)
              refine q_xI (As := [.ref (ax 0), .int (nI a), .int (nI 1)]) (rest := []) ⟨hx, hb, hml, hown, hts⟩ (x3_1_L_takeBack l dC dI cI cJ cI cO ax (jao aa n) n mo iv (aa a) ((jSet an a (upN (an a) 9 240)) a) (kp a) (py a) a hst (qInv_v hI2 ha) hm (by omega) (if_pos ha) (by rw [hs9]; rfl)) (vx_cwSW 3 hts gL_law_L_takeBack rfl rfl rfl (by decide +kernel) ⟨Nat.le_of_ble_eq_true rfl, Nat.le_of_ble_eq_true rfl⟩) hX9 hK (j_subP hP (q_sF ha)) rfl hl rfl (Nat.le_of_ble_eq_true rfl) dL_law_674 (show cells + 1 + 1 ≤ 863873 ∧ slots + 6 + 6 ≤ 6509848 from ⟨by omega, by omega⟩) hS (fun H1 locs _ hk1 hS => ?_)
              have hP := j_keep hP hk1
              clear hk1 hX9
              generalize H1 = H at hP hS ⊢
              refine lv_bipush (v := (-103)) hx hb dL_law_677 (by decide) ?_
              refine lv_icmp_ne (tgt := 686) hx hb dL_law_679 (by decide) (fun c_679 => ?_) (fun c_679 => ?_)
              · exact (c_679 rfl).elim
              · refine lv_iconst (v := nI 1) hx hb dL_law_682 (by decide) ?_
                refine lv_goto (tgt := 687) hx hb dL_law_683 (by decide) ?_
                refine lv_istore (lv' := [(7, .int (nI 1)), (18, .int (-103)), (17, .int (nI t9)), (15, .long (lN (jU (an a) iv (239 + 1)))), (14, .int (nI 1)), (0, .ref b), (1, .ref (ax 0)), (2, .ref (ai 0)), (3, .ref (ai 1)), (4, .ref (ai 2)), (5, .ref (ai 3)), (6, .int (nI n)), (8, .int (nI i)), (11, .int (nI a)), (9, .int (nI y)), (12, .int (nI v)), (13, .int (nI mo))]) hx hb dL_law_687 hl (by decide) rfl (fun ls hl => ?_)
                refine lv_goto (tgt := 737) hx hb dL_law_689 (by decide) ?_
                exact W.widen (by omega) (by omega) (go n mo iv aa (jSet an a (upN (an a) 9 240)) kp py K f1 f2 f3 a H locs _ hI2 ha hP hD hS (lv_sub hl [5, 6, 7, 8, 9, 10, 11, 0, 12, 13] rfl))
  refine lv_icmp_ge (tgt := 614) hx hb dL_law_604 (by decide) (fun c_604 => ?_) (fun c_604 => ?_)
  · have c_604 : 240 ≤ mo := (nI_leI (a := 240) (b := mo) (by omega) (by omega)).mp c_604
    refine lv_sipush (v := nI 240) hx hb dL_law_614 (by decide) ?_
    exact J617 240 ⟨by omega, by omega, by omega⟩
  · have c_604 : ¬ (240 ≤ mo) := fun h => c_604 ((nI_leI (a := 240) (b := mo) (by omega) (by omega)).mpr h)
    refine lv_iload hx hb dL_law_607 (lv_at hl 14 rfl) ?_
    refine lv_iconst (v := nI 1) hx hb dL_law_609 (by decide) ?_
    refine lv_iadd hx hb dL_law_610 ?_
    refine j_i (y := nI (mo + 1)) (nI_add _ _) ?_
    refine lv_goto (tgt := 617) hx hb dL_law_611 (by decide) ?_
    exact J617 (mo + 1) ⟨by omega, by omega, by omega⟩
end QLa
