/-! the law's start -/
theorem lo_str {s : State} {args : Array Value} {k : Nat} {tx : String} (h1 : (Cond.stringRef RX1 k tx).before args s = true) (h2 : (Cond.exactly (.string RX1 k) "java/lang/String").before args s = true) : ∃ a, vk_R RX1 k tx a s := by
  obtain ⟨a, c, cell, kk, q1, -⟩ := Cond.exactly_spec (args := args) (first := s) (o := none) (s := s) (idx := []) (t := .string RX1 k) (cls := "java/lang/String") h2
  exact ⟨a, vk_R.of h1 q1⟩
theorem lo_mt {s : State} {b : Nat} (hts0 : ∀ w ∈ lw_tbl, w.before #[Value.ref b] s = true) (k : Nat) (w : Cond) (h : tables_1[k]? = some w) : w.before #[Value.ref b] s = true := hts0 w (List.mem_append_right _ (List.mem_of_getElem? h))
set_option maxHeartbeats 4000000 in
set_option maxRecDepth 100000 in
theorem lo_S {s : State} {b : Nat} (hts0 : ∀ w ∈ lw_tbl, w.before #[Value.ref b] s = true) (hg : ∀ c ∈ flatC (Jvm.Cond.and given_1 narrow_1), c.before #[Value.ref b] s = true) : ∀ q ∈ jStr, ∃ a, vk_R RX1 q.1 q.2 a s := by
  unfold jStr
  refine List.forall_mem_cons.mpr ⟨lo_str (lo_mt hts0 133 (.stringRef RX1 33 "there is no room for another annuity") (by decide +kernel)) (hg (.exactly (.string RX1 33) "java/lang/String") (by decide +kernel)), List.forall_mem_cons.mpr ⟨lo_str (lo_mt hts0 268 (.stringRef RX1 78 "the death of this life has been told") (by decide +kernel)) (hg (.exactly (.string RX1 78) "java/lang/String") (by decide +kernel)), List.forall_mem_cons.mpr ⟨lo_str (lo_mt hts0 276 (.stringRef RX1 80 "the death of this life has not been told") (by decide +kernel)) (hg (.exactly (.string RX1 80) "java/lang/String") (by decide +kernel)), List.forall_mem_cons.mpr ⟨lo_str (lo_mt hts0 284 (.stringRef RX1 82 "all months have been run") (by decide +kernel)) (hg (.exactly (.string RX1 82) "java/lang/String") (by decide +kernel)), List.forall_mem_cons.mpr ⟨lo_str (lo_mt hts0 330 (.stringRef RX1 92 "the annuity owes less") (by decide +kernel)) (hg (.exactly (.string RX1 92) "java/lang/String") (by decide +kernel)), List.forall_mem_cons.mpr ⟨lo_str (lo_mt hts0 226 (.stringRef RX1 125 "there is no such annuity") (by decide +kernel)) (hg (.exactly (.string RX1 125) "java/lang/String") (by decide +kernel)), List.forall_mem_cons.mpr ⟨lo_str (lo_mt hts0 237 (.stringRef RX1 131 "the start of this annuity has been run") (by decide +kernel)) (hg (.exactly (.string RX1 131) "java/lang/String") (by decide +kernel)), List.forall_mem_cons.mpr ⟨lo_str (lo_mt hts0 96 (.stringRef RX1 135 "an argument is out of range") (by decide +kernel)) (hg (.exactly (.string RX1 135) "java/lang/String") (by decide +kernel)), fun _ h => absurd h List.not_mem_nil⟩⟩⟩⟩⟩⟩⟩⟩
set_option maxHeartbeats 4000000 in
set_option maxRecDepth 100000 in
theorem lo_X {s : State} {b : Nat} (hts0 : ∀ w ∈ lw_tbl, w.before #[Value.ref b] s = true) (hgv : (Jvm.Cond.and given_1 narrow_1).before #[Value.ref b] s = true) : jX (fun q => s.heap.size ≤ q) s s.heap := by
  have hg := flat_of_before _ hgv
  have hA : ∀ a : Nat, a < s.heap.size → ¬ s.heap.size ≤ a := fun a h => Nat.not_le.mpr h
  have hini := lo_mt hts0 2 (.initialized Bundle.tN) (by decide +kernel)
  refine ⟨vx_Zqof (lo_mt hts0 82 (.laysStatic Bundle.tN "UNASSIGNED_STACK" Bundle.steD) (by decide +kernel)) hini (hg (.isRef (.static Bundle.tN "UNASSIGNED_STACK" Bundle.steD)) (by decide +kernel)) hA, vx_Zqof (lo_mt hts0 84 (.laysStatic Bundle.tN "SUPPRESSED_SENTINEL" Bundle.listD) (by decide +kernel)) hini (hg (.isRef (.static Bundle.tN "SUPPRESSED_SENTINEL" Bundle.listD)) (by decide +kernel)) hA, lo_S hts0 hg, ?_, ?_, ?_⟩
  · exact List.forall_mem_cons.mpr ⟨va_Nw.of rfl (lo_mt hts0 57 (.castable eA eA) (by decide +kernel)), List.forall_mem_cons.mpr ⟨va_Nw.of rfl (lo_mt hts0 126 (.castable eS eS) (by decide +kernel)), List.forall_mem_cons.mpr ⟨va_Nw.of rfl (lo_mt hts0 219 (.castable eO eO) (by decide +kernel)), fun _ h => absurd h List.not_mem_nil⟩⟩⟩
  · exact List.forall_mem_cons.mpr ⟨va_Nw.of rfl (lo_mt hts0 59 (.declares (Bundle.initS "java/lang/RuntimeException")) (by decide +kernel)), List.forall_mem_cons.mpr ⟨va_Nw.of rfl (lo_mt hts0 61 (.declares (Bundle.initS "java/lang/Exception")) (by decide +kernel)), List.forall_mem_cons.mpr ⟨va_Nw.of rfl (lo_mt hts0 63 (.declares (Bundle.initS Bundle.tN)) (by decide +kernel)), fun _ h => absurd h List.not_mem_nil⟩⟩⟩
  · intro E hE F hF hn
    have nc : ∀ E F : String, Cond.not (.castable E F) ∈ flatC (Jvm.Cond.and given_1 narrow_1) → va_Nc E F s := fun E F h => va_Nc.of (hg _ h)
    simp only [jEs, List.mem_cons, List.not_mem_nil, or_false] at hE hF
    rcases hE with rfl | rfl | rfl <;> rcases hF with rfl | rfl | rfl
    · exact absurd rfl hn
    · exact nc eA eS (by decide +kernel)
    · exact nc eA eO (by decide +kernel)
    · exact nc eS eA (by decide +kernel)
    · exact absurd rfl hn
    · exact nc eS eO (by decide +kernel)
    · exact nc eO eA (by decide +kernel)
    · exact nc eO eS (by decide +kernel)
    · exact absurd rfl hn
theorem lo_arr {s : State} {args : Array Value} (h : (Cond.arrayClass .long).before args s = true) : ∃ cJ : ClassId, ArrOfT s cJ .long ∧ va_RA s cJ .long := by
  obtain ⟨cA, kA, comp, h1, h2, h3⟩ := Cond.arrayClass_spec h
  exact ⟨cA, fun n z => ⟨fun k h => (by cases h), kA, h2, comp, h3⟩, h1⟩
set_option maxHeartbeats 4000000 in
set_option maxRecDepth 100000 in
/-- the law, from its entry -/
theorem whole_start {p : Program} {e : Env} {s : State} {m : MethodId} {below : List Frame} {meth : Method} {c : Code} (l : Launch) (hflags : l.flags = flags0) {b L : Nat} {xs : Nat → Int32} (hL : L ≤ 260) (C0 : lw_At p s m meth c b L xs) : W p l e room_1 s m #[Value.ref b] below meth c s.heap [] 0 0 (lw_Z below #[Value.ref b] s) (entryFrame m ([Value.ref b] : List Value).toArray 21) := by
  obtain ⟨hx, hb, hr, hml, hown, hts0, hX, hbl, hlocks, hgv⟩ := id C0
  have hst : l.stackTraces = false := by
    unfold Launch.stackTraces
    rw [hflags]
    decide
  have hts : ∀ w ∈ wsL_law, w.before #[Value.ref b] s = true := fun w h => hts0 w (wsL_law_in w h)
  have hJ := lo_X hts0 hgv
  have hao : va_AO "JointAnnuity$Annuity" s := va_AO.of (lo_mt hts0 19 (.arrayOver (.object "JointAnnuity$Annuity")) (by decide +kernel))
  have r1 : ∀ (k : Nat) (w : Cond), wsL_law0_r1[k]? = some w → w.before #[Value.ref b] s = true := fun k w h => hts0 w (in_wsL_law0_r1 w (List.mem_of_getElem? h))
  have hown : s.vm.findClass RL = some m.cls := hown
  have hb : c.code = cL_law := hb
  have hA : ∀ q : Nat, s.heap.size ≤ q → (fun q : Nat => s.heap.size ≤ q) q := fun _ h => h
  obtain ⟨c0, iS0, hKn0⟩ := u_known (C := RX0) (T := TX0) (N := 13) (n := 13) hts inlX0 (hts0 (.instantiable RX0 13) (in_wsL_law0_r6 _ (List.mem_of_getElem? (i := 3) rfl)))
  obtain ⟨c1, iS1, hKn1⟩ := u_known (C := RX1) (T := TX1) (N := 4) (n := 4) hts inlX1 (r1 1 (.instantiable RX1 4) rfl)
  obtain ⟨dC, dI, hKc⟩ : ∃ (dC : Nat → ClassId) (dI : Nat → Nat → Nat), ∀ (k : Nat) (q : vw_C), vwCl[k]? = some q → u_Kn s q.1 q.2.1 q.2.2 (dC k) (dI k) := by
    refine ⟨fun k => if k = 0 then c0 else c1, fun k => if k = 0 then iS0 else iS1, ?_⟩
    intro k q hq
    match k, hq with
    | 0, hq => cases hq; exact hKn0
    | 1, hq => cases hq; exact hKn1
    | k + 2, hq => simp [vwCl] at hq
  have hS : va_S (fun q : Nat => s.heap.size ≤ q) s.heap s.heap [] := va_S.rf
  have hK : va_K (dC, dI) vwCl [] s := ⟨hKc, fun k q h => by simp at h⟩
  have hP : va_P (dC, dI) vwCl [] s.heap := fun k q h => by simp at h
  have hD : va_D (fun q : Nat => s.heap.size ≤ q) [] := ⟨fun i j p q h => by simp at h, fun k q h => by simp at h⟩
  have hl := lv_entry ([.ref b]) (n := 21) (Nat.le_of_ble_eq_true rfl)
  rw [lg_entry_eq]
  generalize (lg_sl ([.ref b]) ++ List.replicate (21 - (lg_sl ([.ref b])).length) Slot.unset).toArray = ls at hl ⊢
  have hl : lv_has ls 21 [(0, .ref b)] := hl
  refine va_new (ci := 1) (fs := [.null, .null, .int 0, .int 0]) (C := RX1) (T := TX1) (N := 4) hx hb hts inlX1 tyX1 tyX1_ok hown (r1 0 (.classLink RL 10 RX1) rfl) (r1 1 (.instantiable RX1 4) rfl) (r1 2 (.initialized RX1) rfl) hK hP hD hS hA rfl (fun j hj => match j, hj with
  | 0, _ => rfl
  | 1, _ => rfl
  | 2, _ => rfl
  | 3, _ => rfl
  | _ + 4, h => absurd h (Nat.not_lt.mpr (Nat.le_add_left _ _))) (Nat.le_of_ble_eq_true rfl) (Nat.le_of_ble_eq_true rfl) dL_law_0 (fun x0 H hP hD hS => ?_)
  have hP : va_P (dC, dI) vwCl [(x0, .inr (1, [.null, .null, .int 0, .int 0]))] H := hP
  have hD : va_D (fun q : Nat => s.heap.size ≤ q) [(x0, .inr (1, [.null, .null, .int 0, .int 0]))] := hD
  refine lv_dup hx hb dL_law_3 rfl ?_
  have hFc := va_free (wc := [(x0, .inr (1, [.null, .null, .int 0, .int 0]))]) hD hS hA [0] rfl
  refine va_callv (va_runI (As := []) (rest := [.ref x0]) ⟨hx, hb, hml, hown, hts⟩ (c_X1_init l dC dI x0 H.size) (cwI 0 hts gL_law_X1_init rfl rfl rfl (r1 2 (.initialized RX1) rfl) (r1 11 (.methodLink RL 99 yX1_init) rfl) (r1 12 (.instanceMethod yX1_init) rfl) rfl (by decide +kernel) ⟨Nat.le_of_ble_eq_true rfl, Nat.le_of_ble_eq_true rfl⟩) ⟨fun a U g mk q => ⟨q.1, ⟨q.2.1.1, q.2.1.2.1, j_calls q.2.1.2.2.1, q.2.1.2.2.2⟩, va_AO.moved (u := U) (U := U.calling g mk a) (Vm.Alike.refl U.vm) q.2.2⟩, fun U hU hW => ⟨rfl, ⟨by rw [hU], by rw [hU]; exact hP, va_K.moved hW.alike hK, hD.weaken (fun _ _ _ _ => trivial)⟩, va_AO.moved hW.alike hao⟩⟩ rfl rfl hl.1 rfl (lv_room (Nat.le_of_ble_eq_true rfl)) dL_law_4 ⟨(Nat.le_of_ble_eq_true rfl), (Nat.le_of_ble_eq_true rfl)⟩) hS (fun q _ h => hFc q h) hFc (fun u t H1 locs ht hvm hw hB hz1 hk1 hS => ?_)
  obtain ⟨cI, cO, ax⟩ := u
  obtain ⟨hP1, hK1, hD1⟩ := hB
  rw [ht] at hP1
  have hK1 := va_K.moved hvm.symm hK1
  try dsimp only at hw hP1 hK1 hD1
  subst hw
  obtain ⟨hP, hD⟩ := va_join (wr := []) (w1 := jX3 cI cO ax (fun _ => none) 0 0 (fun _ => 0)) hP hD [0] [] rfl rfl (by decide) (by decide) hk1 hFc hP1 hD1
  have hK := (hK.sub (tys' := []) [] rfl).app hK1
  generalize H1 = H at hP hS ⊢
  have hP : va_P (dC, dI) vwCl (jX3 cI cO ax (fun _ => none) 0 0 (fun _ => 0)) H := hP
  have hD : va_D (fun q : Nat => s.heap.size ≤ q) (jX3 cI cO ax (fun _ => none) 0 0 (fun _ => 0)) := hD
  have hK : va_K (dC, dI) vwCl [(cO, .object "JointAnnuity$Annuity"), (cI, .int)] s := hK
  refine lv_astore_n (lv' := [(1, .ref (ax 0)), (0, .ref b)]) hx hb dL_law_7 rfl hl (by decide) rfl (fun ls hl => ?_)
  refine lv_bipush (v := nI 20) hx hb dL_law_8 (by decide) ?_
  refine va_newa (atype := .int) (ty := .int) (N' := 20) (a0 := (20, .inl (fun _ => 0))) hx hb (r1 3 (.arrayClass .int) rfl) rfl hK hP hD hS hA (fun _ => rfl) (nI_pos (by omega)) (nI_clamp (by omega)) (by decide) (Nat.le_of_ble_eq_true rfl) (Nat.le_of_ble_eq_true rfl) dL_law_10 (fun m0 cA9 H hK hP hD hS => ?_)
  obtain rfl := j_cls hK 1 2 rfl rfl
  have hK := hK.sub (tys' := [(cO, .object "JointAnnuity$Annuity"), (cI, .int)]) [0, 1] rfl
  have hP : va_P (dC, dI) vwCl (jX3 cI cO ax (fun _ => none) 0 0 (fun _ => 0) ++ [qA cI m0 (fun _ => 0)]) H := hP
  have hD : va_D (fun q : Nat => s.heap.size ≤ q) (jX3 cI cO ax (fun _ => none) 0 0 (fun _ => 0) ++ [qA cI m0 (fun _ => 0)]) := hD
  refine lv_astore_n (lv' := [(2, .ref m0), (1, .ref (ax 0)), (0, .ref b)]) hx hb dL_law_12 rfl hl (by decide) rfl (fun ls hl => ?_)
  refine lv_bipush (v := nI 20) hx hb dL_law_13 (by decide) ?_
  refine va_newa (atype := .int) (ty := .int) (N' := 20) (a0 := (20, .inl (fun _ => 0))) hx hb (r1 3 (.arrayClass .int) rfl) rfl hK hP hD hS hA (fun _ => rfl) (nI_pos (by omega)) (nI_clamp (by omega)) (by decide) (Nat.le_of_ble_eq_true rfl) (Nat.le_of_ble_eq_true rfl) dL_law_15 (fun m1 cA9 H hK hP hD hS => ?_)
  obtain rfl := j_cls hK 1 2 rfl rfl
  have hK := hK.sub (tys' := [(cO, .object "JointAnnuity$Annuity"), (cI, .int)]) [0, 1] rfl
  have hP : va_P (dC, dI) vwCl (jX3 cI cO ax (fun _ => none) 0 0 (fun _ => 0) ++ [qA cI m0 (fun _ => 0), qA cI m1 (fun _ => 0)]) H := hP
  have hD : va_D (fun q : Nat => s.heap.size ≤ q) (jX3 cI cO ax (fun _ => none) 0 0 (fun _ => 0) ++ [qA cI m0 (fun _ => 0), qA cI m1 (fun _ => 0)]) := hD
  refine lv_astore_n (lv' := [(3, .ref m1), (2, .ref m0), (1, .ref (ax 0)), (0, .ref b)]) hx hb dL_law_17 rfl hl (by decide) rfl (fun ls hl => ?_)
  refine lv_bipush (v := nI 20) hx hb dL_law_18 (by decide) ?_
  refine va_newa (atype := .int) (ty := .int) (N' := 20) (a0 := (20, .inl (fun _ => 0))) hx hb (r1 3 (.arrayClass .int) rfl) rfl hK hP hD hS hA (fun _ => rfl) (nI_pos (by omega)) (nI_clamp (by omega)) (by decide) (Nat.le_of_ble_eq_true rfl) (Nat.le_of_ble_eq_true rfl) dL_law_20 (fun m2 cA9 H hK hP hD hS => ?_)
  obtain rfl := j_cls hK 1 2 rfl rfl
  have hK := hK.sub (tys' := [(cO, .object "JointAnnuity$Annuity"), (cI, .int)]) [0, 1] rfl
  have hP : va_P (dC, dI) vwCl (jX3 cI cO ax (fun _ => none) 0 0 (fun _ => 0) ++ [qA cI m0 (fun _ => 0), qA cI m1 (fun _ => 0), qA cI m2 (fun _ => 0)]) H := hP
  have hD : va_D (fun q : Nat => s.heap.size ≤ q) (jX3 cI cO ax (fun _ => none) 0 0 (fun _ => 0) ++ [qA cI m0 (fun _ => 0), qA cI m1 (fun _ => 0), qA cI m2 (fun _ => 0)]) := hD
  refine lv_astore (lv' := [(4, .ref m2), (3, .ref m1), (2, .ref m0), (1, .ref (ax 0)), (0, .ref b)]) hx hb dL_law_22 hl (by decide) rfl (fun ls hl => ?_)
  refine lv_bipush (v := nI 20) hx hb dL_law_24 (by decide) ?_
  refine va_newa (atype := .int) (ty := .int) (N' := 20) (a0 := (20, .inl (fun _ => 0))) hx hb (r1 3 (.arrayClass .int) rfl) rfl hK hP hD hS hA (fun _ => rfl) (nI_pos (by omega)) (nI_clamp (by omega)) (by decide) (Nat.le_of_ble_eq_true rfl) (Nat.le_of_ble_eq_true rfl) dL_law_26 (fun m3 cA9 H hK hP hD hS => ?_)
  obtain rfl := j_cls hK 1 2 rfl rfl
  have hK := hK.sub (tys' := [(cO, .object "JointAnnuity$Annuity"), (cI, .int)]) [0, 1] rfl
  have hP : va_P (dC, dI) vwCl (jX3 cI cO ax (fun _ => none) 0 0 (fun _ => 0) ++ [qA cI m0 (fun _ => 0), qA cI m1 (fun _ => 0), qA cI m2 (fun _ => 0), qA cI m3 (fun _ => 0)]) H := hP
  have hD : va_D (fun q : Nat => s.heap.size ≤ q) (jX3 cI cO ax (fun _ => none) 0 0 (fun _ => 0) ++ [qA cI m0 (fun _ => 0), qA cI m1 (fun _ => 0), qA cI m2 (fun _ => 0), qA cI m3 (fun _ => 0)]) := hD
  refine lv_astore (lv' := [(5, .ref m3), (4, .ref m2), (3, .ref m1), (2, .ref m0), (1, .ref (ax 0)), (0, .ref b)]) hx hb dL_law_28 hl (by decide) rfl (fun ls hl => ?_)
  obtain ⟨cJ, hJ1, hJ2⟩ := lo_arr (lo_mt hts0 194 (.arrayClass .long) (by decide +kernel))
  have hK : va_K (dC, dI) vwCl (jTY cI cJ cI cO) s := ⟨hK.1, fun k q hq => match k, hq with
    | 0, hq => hK.2 1 q hq
    | 1, hq => by cases hq; exact ⟨hJ1, hJ2⟩
    | 2, hq => hK.2 1 q hq
    | 3, hq => hK.2 0 q hq
    | k + 4, hq => by simp at hq⟩
  have e0 : (fun _ => none : Nat → Option Nat) = jao (fun _ _ => 0) 0 := by
    funext j
    exact (if_neg (Nat.not_lt_zero j)).symm
  rw [e0] at hP hD
  obtain ⟨ai, ha0, ha1, ha2, ha3⟩ : ∃ ai : Nat → Nat, ai 0 = m0 ∧ ai 1 = m1 ∧ ai 2 = m2 ∧ ai 3 = m3 := ⟨fun i => match i with | 0 => m0 | 1 => m1 | 2 => m2 | _ => m3, rfl, rfl, rfl, rfl⟩
  subst ha0 ha1 ha2 ha3
  have hP := hP.sub (ws' := qW cI cJ cO ai (fun _ => 0) (fun _ => 0) (fun _ => 0) (fun _ => 0) ax 0 0 (fun _ => 0) (fun _ _ => 0) (fun _ _ => 0) (fun _ => 0) (fun _ _ => 0)) [3, 4, 5, 6, 0, 1, 2] rfl
  have hD := hD.sub (ws' := qW cI cJ cO ai (fun _ => 0) (fun _ => 0) (fun _ => 0) (fun _ => 0) ax 0 0 (fun _ => 0) (fun _ _ => 0) (fun _ _ => 0) (fun _ => 0) (fun _ _ => 0)) [3, 4, 5, 6, 0, 1, 2] (by decide) rfl
  have hA9 : qAt p l s m c dC dI cI cJ cO b L xs := ⟨hx, hb, hml, hown, hts, hX, hbl, hst, hJ, hK⟩
  exact lo_begin hA9 hP hD hS (lv_sub hl [5, 4, 3, 2, 1, 0] rfl) (Nat.le_of_ble_eq_true rfl) (Nat.le_of_ble_eq_true rfl) (qNx_w (lo_loop hA9 hr hlocks hL 30 0 rfl) (Nat.le_of_ble_eq_true rfl) (Nat.le_of_ble_eq_true rfl))
