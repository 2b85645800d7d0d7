/-! the law's cell; loops that make cells -/
theorem q_X_bl {av : List Value} {b L : Nat} {xs : Nat → Int32} : FrameBlind (va_Pc av (fun U => va_X b L xs U U.heap ∧ b < U.heap.size)) := fun _ u g mk q => ⟨q.1, va_X.moved (u := u) (U := u.calling g mk _) (Vm.Alike.refl u.vm) q.2.1, q.2.2⟩
set_option maxHeartbeats 4000000 in
set_option maxRecDepth 100000 in
/-- an int of the script, or one that is made up: not negative -/
theorem c_L_cell (l : Launch) (b L : Nat) (xs : Nat → Int32) (i : Nat) (hL : L ≤ 260) (hi : i < 1000) : Met l yL_cell wsL_cell ({ frames := 0, cells := 0, slots := 0, locals := 0 }) (va_Pc [.ref b, .int (nI i)] (fun U => va_X b L xs U U.heap ∧ b < U.heap.size)) (vp_Si (fun r => ∃ j : Nat, j < 2 ^ 31 ∧ r = nI j)) 0 0 (fun _ => False) := by
  refine j_of (cc := cL_cell) (maxL := 2) (ret := (some .int)) (by decide) rfl (Nat.le_of_ble_eq_true rfl) ?_
  intro p e s m below meth c ls hx hb hr hml hts hown hlocks hnm hl hpre
  have hown : s.vm.findClass RL = some m.cls := hown
  have hl : lv_has ls 2 [(0, .ref b), (1, .int (nI i))] := hl
  obtain ⟨hX, hbl⟩ := hpre
  have hS : va_S (fun _ => False) s.heap s.heap [] := va_S.rf
  refine j_join (fun x : Int32 => True) (fun x => F0 m 24 ls [.int x]) (fun x _ => ?_) (fun J24 => ?_)
  · refine lv_ldc hx hb hown (hts (.constant RL 8 (2147483647)) (List.mem_of_getElem? (i := 2) rfl)) dL_cell_24 ?_
    refine lv_iand hx hb dL_cell_26 ?_
    obtain ⟨j, hj, hj2⟩ := pk_andE x (m := 2147483647) 31 (by decide)
    exact W.iret hx hb hr (fun t ht hW => ⟨_, rfl, ⟨j, hj, hj2⟩, ht⟩) (fun _ h => by cases h) dL_cell_27
  · refine lv_iload_n hx hb dL_cell_0 rfl (lv_at hl 1 rfl) ?_
    refine lv_aload_n hx hb dL_cell_1 rfl (lv_at hl 0 rfl) ?_
    refine va_slen hx hb hX hbl (fun h => h) hS dL_cell_2 ?_
    refine lv_icmp_ge (tgt := 12) hx hb dL_cell_3 (by decide) (fun h => ?_) (fun h => ?_)
    · refine lv_ldc hx hb hown (hts (.constant RL 7 (44041)) (List.mem_of_getElem? (i := 1) rfl)) dL_cell_12 ?_
      refine lv_iload_n hx hb dL_cell_14 rfl (lv_at hl 1 rfl) ?_
      refine lv_sipush (v := nI 6997) hx hb dL_cell_15 (by decide) ?_
      refine lv_irem hx hb dL_cell_18 (by decide) ?_
      refine lv_imul hx hb dL_cell_19 ?_
      refine lv_sipush (v := nI 5113) hx hb dL_cell_20 (by decide) ?_
      refine lv_iadd hx hb dL_cell_23 ?_
      exact J24 _ trivial
    · have h1 : i < L := by
        have h2 : ¬ nI L ≤ nI i := h
        rw [nI_leI (by omega) (by omega)] at h2
        omega
      refine lv_aload_n hx hb dL_cell_6 rfl (lv_at hl 0 rfl) ?_
      refine lv_iload_n hx hb dL_cell_7 rfl (lv_at hl 1 rfl) ?_
      refine va_sld hx hb hX hbl (fun h => h) hS (vp_in_nI h1 (by omega)) dL_cell_8 ?_
      refine lv_goto (tgt := 24) hx hb dL_cell_9 (by decide) ?_
      exact J24 _ trivial
section QLP
variable {p : Program} {l : Launch} {e : Env} {R : Room} {s : State} {m : MethodId} {args : Array Value} {below : List Frame} {meth : Method} {c : Code} {Q : State → Prop}
/-- a loop that writes and makes cells -/
theorem q_loop {α : Type} {D : va_G} {A0 : Nat → Prop} {H0 H : Heap} {locs : List Loc} {nL pc0 : Nat} {ls : Array Slot} (I : α → Prop) (μ : α → Nat) (lv : α → List (Nat × Value)) (w : α → va_W) (cs ss : α → Nat) (a0 : α) (h0 : I a0) (hl0 : lv_has ls nL (lv a0)) (hP0 : va_P D vwCl (w a0) H) (hD0 : va_D A0 (w a0)) (hS0 : va_S A0 H0 H locs)
    (hs : ∀ (a : α) (H : Heap) (locs : List Loc) (ls : Array Slot), I a → va_P D vwCl (w a) H → va_D A0 (w a) → va_S A0 H0 H locs → lv_has ls nL (lv a) → (∀ (a' : α) (H' : Heap) (locs' : List Loc) (ls' : Array Slot), I a' → μ a' < μ a → va_P D vwCl (w a') H' → va_D A0 (w a') → va_S A0 H0 H' locs' → lv_has ls' nL (lv a') → W p l e R s m args below meth c H' locs' (cs a') (ss a') Q (F0 m pc0 ls' [])) → W p l e R s m args below meth c H locs (cs a) (ss a) Q (F0 m pc0 ls [])) :
    W p l e R s m args below meth c H locs (cs a0) (ss a0) Q (F0 m pc0 ls []) := by
  have g : ∀ (n : Nat) (a : α) (H : Heap) (locs : List Loc) (ls : Array Slot), μ a < n → I a → va_P D vwCl (w a) H → va_D A0 (w a) → va_S A0 H0 H locs → lv_has ls nL (lv a) → W p l e R s m args below meth c H locs (cs a) (ss a) Q (F0 m pc0 ls []) := by
    intro n
    induction n with
    | zero => intro a H locs ls h; exact absurd h (Nat.not_lt_zero _)
    | succ n ih => intro a H locs ls h hI hP hD hS hl; exact hs a H locs ls hI hP hD hS hl (fun a' H' locs' ls' hI' hm hP' hD' hS' hl' => ih a' H' locs' ls' (by omega) hI' hP' hD' hS' hl')
  exact g _ a0 H locs ls (Nat.lt_succ_self _) h0 hP0 hD0 hS0 hl0
/-- the law asks for an int of its script -/
theorem q_cell {Ts : List Cond} {own : String} {cc bytes : ByteArray} {H0 : Heap} {A0 : Nat → Prop} {H : Heap} {locs : List Loc} {cells slots pc nL index i b L maxL : Nat} {xs : Nat → Int32} {ret : Option FieldType} {ws' : List Cond} {rm : Room} {ls : Array Slot} {lv : List (Nat × Value)} {rest : List Value} (hH0 : H0 = s.heap) (Sx : CallFix p m c cc nL s args Ts own)
    (hM : Met l yL_cell ws' rm (va_Pc [.ref b, .int (nI i)] (fun U => va_X b L xs U U.heap ∧ b < U.heap.size)) (vp_Si (fun r => ∃ j : Nat, j < 2 ^ 31 ∧ r = nI j)) 0 0 (fun _ => False)) (cw : CallB R s args own index yL_cell bytes maxL ret ws' rm 0 0 2 ∧ (Cond.static yL_cell).before args s = true) (hX : va_X b L xs s H0) (hbl : b < H0.size) (hbA : ¬ A0 b) (hS : va_S A0 H0 H locs) (hl : lv_has ls nL lv) (hro : (rest.map fun v => v.category).sum ≤ 8) (hdg : decode cc pc = .ok (.invokestatic index, 3)) (hf : cells ≤ R.cells ∧ slots ≤ R.slots)
    (kk : ∀ j : Nat, j < 2 ^ 31 → W p l e R s m args below meth c H locs cells slots Q (F0 m (pc + 3) ls (.int (nI j) :: rest))) : W p l e R s m args below meth c H locs cells slots Q (F0 m pc ls (.int (nI i) :: .ref b :: rest)) := by
  have hX1 : va_X b L xs s H := va_X.kept hX (hS.2.1 b hbl hbA)
  have hb1 : b < H.size := Nat.lt_of_lt_of_le hbl hS.1
  exact vp_callSi (va_Run.run (va_runS (As := [.ref b, .int (nI i)]) (rest := rest) Sx hM cw ⟨q_X_bl, fun U hU hW => ⟨rfl, by rw [hU]; exact va_X.moved hW.alike hX1, by rw [hU]; exact hb1⟩⟩ rfl rfl hl.1 rfl (lv_room hro) hdg hf)) (fun r hr => by
    obtain ⟨j, hj, hj2⟩ := hr
    subst hj2
    exact kk j hj)
end QLP
