/-! the law: a round, and the loop -/
section JLL
variable {p : Program} {l : Launch} {e : Env} {s : State} {m : MethodId} {below : List Frame} {meth : Method} {c : Code} {dC : Nat → ClassId} {dI : Nat → Nat → Nat} {cI cJ cZ cO : ClassId} {b L : Nat} {xs : Nat → Int32} {oa : Nat} {ax ad : Nat → Nat} {Q : State → Prop} {i cells slots n mo : Nat} {iv : Nat → Int32} {aa an : Nat → Nat → Nat} {kp T B : Nat → Int64} {py : Nat → Nat → Int64} {ov : Nat → Int64} {fu cy th : Int32} {H : Heap} {locs : List Loc} {ls : Array Slot}
set_option maxHeartbeats 4000000 in
set_option maxRecDepth 100000 in
theorem lo_round (h9 : jRd p l e s m below meth c dC dI cI cJ cZ cO b L xs oa ax ad Q i cells slots n mo iv aa an kp T B py ov fu cy th H locs ls) : W p l e room_1 s m #[Value.ref b] below meth c H locs cells slots Q (F0 m 32 ls []) := by
  obtain ⟨⟨hx, hb, hml, hown, hts, hX, hbl, hst, hZ, hK⟩, hI, hP, hD, hS, hl, hrm, hi9, hL, go⟩ := id h9
  have hbA : ¬ s.heap.size ≤ b := Nat.not_le.mpr hbl
  refine lv_aload_n hx hb dL_law_32 rfl (lv_at hl 0 rfl) ?_
  refine lv_iload hx hb dL_law_33 (lv_at hl 4 rfl) ?_
  refine va_sld hx hb hX hbl hbA hS (vp_in_nI (by omega) (by omega)) dL_law_35 ?_
  refine lv_bipush (v := nI 31) hx hb dL_law_36 rfl ?_
  refine lv_iand hx hb dL_law_38 ?_
  generalize xs (nI i).toNatClampNeg &&& nI 31 = x
  by_cases g : x.toInt < 0 ∨ 17 < x.toInt
  · exact lv_tableOut (tgt := 1209) hx hb dL_law_39 g (by decide) (W.widen (by omega) (by omega) (go _ _ _ _ _ _ _ _ _ _ _ _ _ _ _ _ hI hP hD hS hl))
  · obtain ⟨j, hj, rfl⟩ : ∃ j : Nat, j ≤ 17 ∧ x = nI j := by
      obtain ⟨j, hj, rfl⟩ := nI_of (x := x) (fun h => g (Or.inl (by rw [Int32.lt_iff_toInt_lt] at h; exact h)))
      rw [nI_toInt hj] at g
      exact ⟨j, by omega, rfl⟩
    rcases (show j = 0 ∨ j = 1 ∨ j = 2 ∨ j = 3 ∨ j = 4 ∨ j = 5 ∨ j = 6 ∨ j = 7 ∨ j = 8 ∨ j = 9 ∨ j = 10 ∨ j = 11 ∨ j = 12 ∨ j = 13 ∨ j = 14 ∨ j = 15 ∨ j = 16 ∨ j = 17 by omega) with rfl | rfl | rfl | rfl | rfl | rfl | rfl | rfl | rfl | rfl | rfl | rfl | rfl | rfl | rfl | rfl | rfl | rfl
    · exact lv_tableIn (off := 85) (tgt := 124) hx hb dL_law_39 (by decide +kernel) (by decide +kernel) (by decide +kernel) (by decide) (lo_add h9)
    · exact lv_tableIn (off := 165) (tgt := 204) hx hb dL_law_39 (by decide +kernel) (by decide +kernel) (by decide +kernel) (by decide) (lo_setSurvivor h9)
    · exact lv_tableIn (off := 241) (tgt := 280) hx hb dL_law_39 (by decide +kernel) (by decide +kernel) (by decide +kernel) (by decide) (lo_setCap h9)
    · exact lv_tableIn (off := 289) (tgt := 328) hx hb dL_law_39 (by decide +kernel) (by decide +kernel) (by decide +kernel) (by decide) (lo_protect h9)
    · exact lv_tableIn (off := 349) (tgt := 388) hx hb dL_law_39 (by decide +kernel) (by decide +kernel) (by decide +kernel) (by decide) (lo_setInflation h9)
    · exact lv_tableIn (off := 417) (tgt := 456) hx hb dL_law_39 (by decide +kernel) (by decide +kernel) (by decide +kernel) (by decide) (lo_die h9)
    · exact lv_tableIn (off := 477) (tgt := 516) hx hb dL_law_39 (by decide +kernel) (by decide +kernel) (by decide +kernel) (by decide) (lo_takeBack h9)
    · exact lv_tableIn (off := 545) (tgt := 584) hx hb dL_law_39 (by decide +kernel) (by decide +kernel) (by decide +kernel) (by decide) (lo_run h9)
    · exact lv_tableIn (off := 588) (tgt := 627) hx hb dL_law_39 (by decide +kernel) (by decide +kernel) (by decide +kernel) (by decide) (lo_month h9)
    · exact lv_tableIn (off := 601) (tgt := 640) hx hb dL_law_39 (by decide +kernel) (by decide +kernel) (by decide +kernel) (by decide) (lo_giveBack h9)
    · exact lv_tableIn (off := 668) (tgt := 707) hx hb dL_law_39 (by decide +kernel) (by decide +kernel) (by decide +kernel) (by decide) (lo_paid h9)
    · exact lv_tableIn (off := 735) (tgt := 774) hx hb dL_law_39 (by decide +kernel) (by decide +kernel) (by decide +kernel) (by decide) (lo_paidInAll h9)
    · exact lv_tableIn (off := 790) (tgt := 829) hx hb dL_law_39 (by decide +kernel) (by decide +kernel) (by decide +kernel) (by decide) (lo_owes h9)
    · exact lv_tableIn (off := 845) (tgt := 884) hx hb dL_law_39 (by decide +kernel) (by decide +kernel) (by decide +kernel) (by decide) (lo_fullAmount h9)
    · exact lv_tableIn (off := 913) (tgt := 952) hx hb dL_law_39 (by decide +kernel) (by decide +kernel) (by decide +kernel) (by decide) (lo_carry h9)
    · exact lv_tableIn (off := 981) (tgt := 1020) hx hb dL_law_39 (by decide +kernel) (by decide +kernel) (by decide +kernel) (by decide) (lo_entitled h9)
    · exact lv_tableIn (off := 1048) (tgt := 1087) hx hb dL_law_39 (by decide +kernel) (by decide +kernel) (by decide +kernel) (by decide) (lo_entitledUpTo h9)
    · exact lv_tableIn (off := 1115) (tgt := 1154) hx hb dL_law_39 (by decide +kernel) (by decide +kernel) (by decide +kernel) (by decide) (lo_protection h9)
theorem jL4 {L i : Nat} (hL : L ≤ 2048) (hi : i ≤ 3000) (h : ¬ nI L - nI 4 < nI i) : i + 3 < L := by
  by_cases h4 : 4 ≤ L
  · rw [pk_sub h4, nI_ltI (by omega) (by omega)] at h
    omega
  · refine absurd ?_ h
    rw [Int32.lt_iff_toInt_lt, nI_toInt (show i < 2 ^ 31 by omega)]
    rcases (show L = 0 ∨ L = 1 ∨ L = 2 ∨ L = 3 by omega) with rfl | rfl | rfl | rfl
    · rw [show (nI 0 - nI 4).toInt = -4 by decide]; omega
    · rw [show (nI 1 - nI 4).toInt = -3 by decide]; omega
    · rw [show (nI 2 - nI 4).toInt = -2 by decide]; omega
    · rw [show (nI 3 - nI 4).toInt = -1 by decide]; omega
set_option maxHeartbeats 4000000 in
set_option maxRecDepth 100000 in
/-- the loop, at its head -/
theorem lo_loop (hA9 : jAt p l s m c dC dI cI cJ cZ cO b L xs) (hr : meth.sig.returnType = ret) (hlocks : meth.locks = false) (hL : L ≤ 2048) : ∀ (f i cells slots n mo : Nat) (iv : Nat → Int32) (aa an : Nat → Nat → Nat) (kp T B : Nat → Int64) (py : Nat → Nat → Int64) (ov : Nat → Int64) (fu cy th : Int32) (H : Heap) (locs : List Loc) (ls : Array Slot), L < i + f → i ≤ L + 4 → cells ≤ 100 + 5 * i → slots ≤ 6000 + 295 * i → jInv n mo an kp T B py → va_P (dC, dI) vwCl (jLW cI cJ cZ cO oa ax ad ov n mo iv aa an kp T B py fu cy th) H → va_D (fun q => s.heap.size ≤ q) (jLW cI cJ cZ cO oa ax ad ov n mo iv aa an kp T B py fu cy th) → va_S (fun q => s.heap.size ≤ q) s.heap H locs → lv_has ls 8 [(0, .ref b), (1, .ref (ax 0)), (2, .ref (ad 0)), (3, .ref oa), (4, .int (nI i))] → W p l e room_1 s m #[Value.ref b] below meth c H locs cells slots (lw_Z below #[Value.ref b] s) (F0 m 23 ls []) := by
  obtain ⟨hx, hb, hml, hown, hts, hX, hbl, hst, hZ, hK⟩ := id hA9
  have hbA : ¬ s.heap.size ≤ b := Nat.not_le.mpr hbl
  intro f
  induction f with
  | zero =>
    intro i cells slots n mo iv aa an kp T B py ov fu cy th H locs ls hf hi hc hs hI hP hD hS hl
    refine lv_iload hx hb dL_law_23 (lv_at hl 4 rfl) ?_
    refine lv_aload_n hx hb dL_law_25 rfl (lv_at hl 0 rfl) ?_
    refine va_slen hx hb hX hbl hbA hS dL_law_26 ?_
    refine lv_iconst (v := nI 4) hx hb dL_law_27 rfl ?_
    refine lv_isub hx hb dL_law_28 ?_
    refine lv_icmp_gt (tgt := 1215) hx hb dL_law_29 (by decide) (fun h => ?_) (fun h => ?_)
    · refine lv_iconst (v := 1) hx hb dL_law_1215 rfl ?_
      refine va_forget (fun q hq => hS.2.2 q hq) ?_
      refine W.widen (k := 601024) (n := 7293034) (by omega) (by omega) ?_
      exact lw_ret hx hb hr hlocks dL_law_1216
    · exact absurd (jL4 hL (by omega) h) (by omega)
  | succ f ih =>
    intro i cells slots n mo iv aa an kp T B py ov fu cy th H locs ls hf hi hc hs hI hP hD hS hl
    refine lv_iload hx hb dL_law_23 (lv_at hl 4 rfl) ?_
    refine lv_aload_n hx hb dL_law_25 rfl (lv_at hl 0 rfl) ?_
    refine va_slen hx hb hX hbl hbA hS dL_law_26 ?_
    refine lv_iconst (v := nI 4) hx hb dL_law_27 rfl ?_
    refine lv_isub hx hb dL_law_28 ?_
    refine lv_icmp_gt (tgt := 1215) hx hb dL_law_29 (by decide) (fun h => ?_) (fun h => ?_)
    · refine lv_iconst (v := 1) hx hb dL_law_1215 rfl ?_
      refine va_forget (fun q hq => hS.2.2 q hq) ?_
      refine W.widen (k := 601024) (n := 7293034) (by omega) (by omega) ?_
      exact lw_ret hx hb hr hlocks dL_law_1216
    · have hi3 := jL4 hL (by omega) h
      refine lo_round (n := n) (mo := mo) (iv := iv) (aa := aa) (an := an) (kp := kp) (T := T) (B := B) (py := py) (ov := ov) (fu := fu) (cy := cy) (th := th) (xs := xs) (L := L) (oa := oa) (ax := ax) (ad := ad) (dC := dC) (dI := dI) (cI := cI) (cJ := cJ) (cZ := cZ) (cO := cO) (i := i) ⟨hA9, hI, hP, hD, hS, hl, ⟨by omega, by omega⟩, hi3, hL, ?_⟩
      intro n mo iv aa an kp T B py ov fu cy th H locs ls hI hP hD hS hl
      refine lv_iinc (v := nI (i + 4)) (lv' := [(4, .int (nI (i + 4))), (0, .ref b), (1, .ref (ax 0)), (2, .ref (ad 0)), (3, .ref oa)]) hx hb dL_law_1209 hl (k := 4) rfl (by rw [show Int32.ofInt 4 = nI 4 from rfl, nI_add]) (by decide) rfl (fun ls hl => ?_)
      refine lv_goto (tgt := 23) hx hb dL_law_1212 (by decide) ?_
      exact ih (i + 4) (cells + 5) (slots + 295) n mo iv aa an kp T B py ov fu cy th H locs ls (by omega) (by omega) (by omega) (by omega) hI hP hD hS (lv_sub hl [1, 2, 3, 4, 0] rfl)
end JLL
