/-! what a throw needs; methods that throw for certain; a call that is caught -/
abbrev eA : String := "java/lang/IllegalArgumentException"
abbrev eS : String := "java/lang/IllegalStateException"
abbrev eO : String := "java/lang/IndexOutOfBoundsException"
abbrev jEs : List String := [eA, eS, eO]
abbrev jUp : List String := ["java/lang/RuntimeException", "java/lang/Exception"]
abbrev jYs : List String := ["java/lang/RuntimeException", "java/lang/Exception", Bundle.tN]
def jStr : List (Nat × String) := [(33, "there is no room for another annuity"), (78, "the death of this life has been told"), (80, "the death of this life has not been told"), (82, "all months have been run"), (92, "the annuity owes less"), (125, "there is no such annuity"), (131, "the start of this annuity has been run"), (135, "an argument is out of range")]
def jX (A : Nat → Prop) (U : State) (H : Heap) : Prop :=
  vx_Zq Bundle.tN "UNASSIGNED_STACK" Bundle.steD A U H ∧ vx_Zq Bundle.tN "SUPPRESSED_SENTINEL" Bundle.listD A U H ∧ (∀ q ∈ jStr, ∃ a, vk_R RX1 q.1 q.2 a U) ∧ (∀ E ∈ jEs, va_Nw (.castable E E) U) ∧ (∀ Y ∈ jYs, va_Nw (.declares (Bundle.initS Y)) U) ∧ ∀ E ∈ jEs, ∀ F ∈ jEs, E ≠ F → va_Nc E F U
theorem jX.warm {A : Nat → Prop} {s U : State} {H : Heap} (hW : s.WarmedH U.vm) (h : jX A s H) : jX A U H :=
  ⟨vx_Zq.moved hW.alike h.1, vx_Zq.moved hW.alike h.2.1, fun q hq => by obtain ⟨a, ha⟩ := h.2.2.1 q hq; exact ⟨a, vk_R.warm hW ha⟩, fun E hE => va_Nw.warmC hW (h.2.2.2.1 E hE), fun Y hY => va_Nw.warmD hW (h.2.2.2.2.1 Y hY), fun E hE F hF hn => va_Nc.moved hW.alike (h.2.2.2.2.2 E hE F hF hn)⟩
theorem jX.kept {A : Nat → Prop} {U : State} {H H1 : Heap} (h : jX A U H) (hq : ∀ a : Nat, a < H.size → ¬ A a → H1[a]? = H[a]?) : jX A U H1 := ⟨vx_Zq.kept h.1 hq, vx_Zq.kept h.2.1 hq, h.2.2⟩
theorem jX.narrow {A B : Nat → Prop} {U : State} {H : Heap} (h : jX A U H) (hAB : ∀ q, B q → A q) : jX B U H := ⟨vx_Zq.narrow h.1 hAB, vx_Zq.narrow h.2.1 hAB, h.2.2⟩
theorem jX.calls {A : Nat → Prop} {u : State} {g : JFrame} {mk : MethodId} {a : Array Value} (h : jX A u u.heap) : jX A (u.calling g mk a) (u.calling g mk a).heap := by
  have h1 : jX A (u.calling g mk a) u.heap := ⟨vx_Zq.moved (u := u) (U := u.calling g mk a) (Vm.Alike.refl u.vm) h.1, vx_Zq.moved (u := u) (U := u.calling g mk a) (Vm.Alike.refl u.vm) h.2.1, fun q hq => by obtain ⟨b, hb⟩ := h.2.2.1 q hq; exact ⟨b, vk_R.same (u := u) rfl hb⟩, fun E hE => va_Nw.same rfl (u := u) rfl (h.2.2.2.1 E hE), fun Y hY => va_Nw.same rfl (u := u) rfl (h.2.2.2.2.1 Y hY), fun E hE F hF hn => va_Nc.moved (u := u) (U := u.calling g mk a) (Vm.Alike.refl u.vm) (h.2.2.2.2.2 E hE F hF hn)⟩
  exact h1
def jRX (D : va_G) (tys : List (ClassId × FieldType)) (ws : va_W) (U : State) : Prop := jR D tys ws U ∧ jX (fun _ => False) U U.heap
theorem jRX_bl {av : List Value} {D : va_G} {tys : List (ClassId × FieldType)} {ws : va_W} : FrameBlind (va_Pc av (jRX D tys ws)) := fun _ _ _ _ q => ⟨q.1, ⟨q.2.1.1, j_calls q.2.1.2⟩, jX.calls q.2.2⟩
theorem jX_bl {av : List Value} : FrameBlind (va_Pc av (fun U => jX (fun _ => False) U U.heap)) := fun _ _ _ _ q => ⟨q.1, jX.calls q.2⟩
section JPX
variable {s : State} {H : Heap} {D : va_G} {tys : List (ClassId × FieldType)} {ws wc : va_W} {C : String} {b ci q0 : Nat} {r : vw_C} {fs As : List Value}
theorem jRX_V (hX : jX (fun _ => False) s H) (hK : va_K D vwCl tys s) (hP : va_P D vwCl ws H) (is : List Nat) (hs : is.filterMap (fun i => ws[i]?) = wc) (hc : vwCl[ci]? = some r) (he : ws[q0]? = some (b, .inr (ci, fs))) (hn : r.1 = C) : PreV s H C b (va_Pc (.ref b :: As) (jRX D tys wc)) As :=
  ⟨jRX_bl, by rw [← hn]; exact va_recv hK hP hc he, fun U hU hW => ⟨rfl, ⟨by rw [hU]; exact hP.sub is hs, va_K.moved hW.alike hK⟩, by rw [hU]; exact jX.warm hW hX⟩⟩
theorem jX_S (hX : jX (fun _ => False) s H) : PreS s H (va_Pc As (fun U => jX (fun _ => False) U U.heap)) As :=
  ⟨jX_bl, fun U hU hW => ⟨rfl, show jX (fun _ => False) U U.heap from by rw [hU]; exact jX.warm hW hX⟩⟩
end JPX
/-- it doesn't return -/
def jFQ : Array Value → State → Outcome → State → Prop := fun _ _ _ _ => False
/-- it throws E and leaves all cells as they were -/
def jXC (E : String) : String → State → State → Prop := vx_X (fun _ : Unit => True) (fun E' _ _ => E' = E) (fun _ => False)
/-- it answers the cell a -/
def jSr (a : Nat) : Array Value → State → Outcome → State → Prop := fun _ st oc t => oc = .returned (some (.ref a)) ∧ t.heap = st.heap
abbrev jBad (E : String) : List Cond := [Cond.castable E E, Cond.declares (Bundle.initS "java/lang/RuntimeException"), Cond.declares (Bundle.initS "java/lang/Exception"), Cond.declares (Bundle.initS Bundle.tN)]
theorem jgA : ∀ w ∈ Cond.classLink RX1 133 eA :: Cond.initialized eA :: vx_atS RX1 137 eA jUp, vx_ot w = true := by decide +kernel
theorem jgS : ∀ w ∈ Cond.classLink RX1 31 eS :: Cond.initialized eS :: vx_atS RX1 35 eS jUp, vx_ot w = true := by decide +kernel
theorem jgO : ∀ w ∈ Cond.classLink RX1 123 eO :: Cond.initialized eO :: vx_atS RX1 127 eO jUp, vx_ot w = true := by decide +kernel
theorem jbA : ∀ w ∈ (vx_atS RX1 137 eA jUp).filter (fun w => !goodWord w), w ∈ jBad eA := by decide +kernel
theorem jbS : ∀ w ∈ (vx_atS RX1 35 eS jUp).filter (fun w => !goodWord w), w ∈ jBad eS := by decide +kernel
theorem jbO : ∀ w ∈ (vx_atS RX1 127 eO jUp).filter (fun w => !goodWord w), w ∈ jBad eO := by decide +kernel
section JTH
variable {p : Program} {l : Launch} {e : Env} {R : Room} {s : State} {m : MethodId} {args : Array Value} {below : List Frame} {meth : Method} {c : Code} {H : Heap} {locs : List Loc} {cells slots : Nat} {Q : State → Prop}
variable {pc : Nat} {ls : Array Slot} {rest st0 As : List Value} {lv : List (Nat × Value)}
variable {y : MethodName} {bytes cc : ByteArray} {maxL nL n index : Nat} {ret : Option FieldType} {ws' : List Cond} {rm : Room} {Ts : List Cond} {own C E : String} {b : Addr} {Pc : Array Value → State → Prop}
/-- 'throw new E("text")' at the start's heap -/
theorem j_throw (hx : p.tables.exec = Jvm.exec) (hb : c.code = cc) (hst : l.stackTraces = false) {text : String} {ik is ic : Nat} (hown : s.vm.findClass RX1 = some m.cls) (hfit : Bundle.fit E = true) (hE : E ∈ jEs)
    (hk : (Cond.classLink RX1 ik E).before args s = true) (hini : (Cond.initialized E).before args s = true) (hat : ∀ w ∈ (vx_atS RX1 ic E jUp).filter goodWord, w.before args s = true) (hg : ∀ w ∈ Cond.classLink RX1 ik E :: Cond.initialized E :: vx_atS RX1 ic E jUp, vx_ot w = true) (hbd : ∀ w ∈ (vx_atS RX1 ic E jUp).filter (fun w => !goodWord w), w ∈ jBad E)
    (hX : jX (fun _ => False) s s.heap) (hstr : (is, text) ∈ jStr) (hl : lv_has ls nL lv) (hml : c.maxLocals = nL)
    (d0 : decode cc pc = .ok (.new ik, 3)) (d3 : decode cc (pc + 3) = .ok (.dup, 1)) (d4 : decode cc (pc + 4) = .ok (.ldc is, 2)) (d6 : decode cc (pc + 6) = .ok (.invokespecial ic, 3)) (d9 : decode cc (pc + 9) = .ok (.athrow, 1))
    (htab : ∀ x ∈ c.exceptionTable.toList, False) (hR1 : 6 ≤ R.frames) (hR2 : (rest.map fun v => v.category).sum + 82 ≤ R.locals) (hR3 : 1 ≤ R.cells) (hR4 : 6 ≤ R.slots) (hlocks : meth.locks = false) :
    W p l e R s m args below meth c s.heap [] 0 0 (vx_MQ below jFQ (jXC E) args s 1 6 (fun _ => False)) (F0 m pc ls rest) := by
  obtain ⟨sa, hsa⟩ := hX.2.2.1 _ hstr
  refine vx_throwS (own := RX1) (cls := E) (text := text) (names := jUp) (ik := ik) (is := is) (ic := ic) (sa := sa) (A := fun _ => False) hx hb hst hown hfit (by decide +kernel) hk hini hsa ?_ hg hX.1 hX.2.1 va_S.rf (by rw [hml]; exact hl.1) d0 d3 d4 d6 d9 (fun x hx => (htab x hx).elim) (show 2 + 3 < R.frames by omega) (by simpa using hR2) (by omega) (by omega) hlocks (fun t _ h1 h2 => ⟨(), trivial, rfl, h1, fun q hq _ => h2 q hq⟩) (fun _ h => by cases h) (Nat.le_refl _) (Nat.le_refl _)
  exact vx_hat hat hbd (vx_c (va_Nw.use rfl (hX.2.2.2.1 E hE)) (vx_c (va_Nw.use rfl (hX.2.2.2.2.1 _ (by simp))) (vx_c (va_Nw.use rfl (hX.2.2.2.2.1 _ (by simp))) (vx_c (va_Nw.use rfl (hX.2.2.2.2.1 _ (by simp))) vx_n))))
/-- a call that throws, not caught here -/
theorem j_bx (hr : vx_Run p l e R s m args below meth c s.heap [] 0 0 1 6 (F0 m pc ls st0) rest (jFQ As.toArray) (jXC E) (fun _ => False)) (htab : ∀ x ∈ c.exceptionTable.toList, False) (hlocks : meth.locks = false) :
    W p l e R s m args below meth c s.heap [] 0 0 (vx_MQ below jFQ (jXC E) args s 1 6 (fun _ => False)) (F0 m pc ls st0) := by
  intro T hT X
  rcases hr T hT X with ⟨v, st₀, t, T', L, h0, X', hL, e1, e2, hf, st⟩ | ⟨q, st₀, t, T', L, E', ce, h0, X', hL, e1, e2, ⟨u, -, rfl, hF⟩, hce, hcv, hcl, st⟩
  · exact hf.elim
  · obtain ⟨hz, hk⟩ := hF
    rw [h0] at hz hk
    have k := vx_out (p := p) (l := l) (e := e) (R := R) (s := s) (m := m) (args := args) (below := below) (meth := meth) (c := c) (H := T'.heap) (locs := [] ++ L) (cells := 0 + 1) (slots := 0 + 6) (free := fun _ => False) (ls := ls) (rest := rest) (Qc := jFQ) (XC := jXC E') (pc := pc) (E := E') (ce := ce) (q := q) (mc := 1) (ms := 6)
      (fun x hx => (htab x hx).elim) hlocks (by rw [e1]; exact hce) hcv hcl (fun t9 ht9 _ => ⟨(), trivial, rfl, by rw [ht9, e1]; exact hz, fun q9 hq9 h9 => by rw [ht9, e1]; exact hk q9 hq9 h9⟩) (fun z hz9 => hL z (by simpa using hz9)) (by omega) (by omega)
    obtain ⟨t2, a1, b1⟩ := k T' rfl X'
    exact ⟨t2, st.trans a1, b1⟩
theorem j_bxV (S : CallFix p m c cc nL s args Ts own) (hM : vx_Met l y ws' rm Pc jFQ (jXC E) 1 6 (fun _ => False)) (cw : CallW R s args own C index y bytes maxL ret ws' rm 1 6 n) (hp : PreV s s.heap C b Pc As) (hn : As.length = n) (hl : lv_has ls nL lv) (hst : st0 = As.reverse ++ .ref b :: rest) (hro : (rest.map fun v => v.category).sum ≤ 8) (hdg : decode cc pc = .ok (.invokevirtual index, 3)) (hf : 1 ≤ R.cells ∧ 6 ≤ R.slots) (htab : ∀ x ∈ c.exceptionTable.toList, False) (hlocks : meth.locks = false) :
    W p l e R s m args below meth c s.heap [] 0 0 (vx_MQ below jFQ (jXC E) args s 1 6 (fun _ => False)) (F0 m pc ls st0) :=
  j_bx (As := .ref b :: As) (vx_runV S hM cw hp rfl hn hl.1 hst (lv_room hro) hdg ⟨by omega, by omega⟩) htab hlocks
theorem j_bxS (S : CallFix p m c cc nL s args Ts own) (hM : vx_Met l y ws' rm Pc jFQ (jXC E) 1 6 (fun _ => False)) (cw : CallB R s args own index y bytes maxL ret ws' rm 1 6 n ∧ (Cond.static y).before args s = true) (hp : PreS s s.heap Pc As) (hn : As.length = n) (hl : lv_has ls nL lv) (hst : st0 = As.reverse ++ rest) (hro : (rest.map fun v => v.category).sum ≤ 8) (hdg : decode cc pc = .ok (.invokestatic index, 3)) (hf : 1 ≤ R.cells ∧ 6 ≤ R.slots) (htab : ∀ x ∈ c.exceptionTable.toList, False) (hlocks : meth.locks = false) :
    W p l e R s m args below meth c s.heap [] 0 0 (vx_MQ below jFQ (jXC E) args s 1 6 (fun _ => False)) (F0 m pc ls st0) :=
  j_bx (As := As) (vx_runS S hM cw hp rfl hn hl.1 hst (lv_room hro) hdg ⟨by omega, by omega⟩) htab hlocks
/-- a call that throws, caught here -/
theorem j_try (S : CallFix p m c cc nL s args Ts own) (hM : vx_Met l y ws' rm Pc jFQ (jXC E) 1 6 (fun _ => False)) (cw : CallW R s args own C index y bytes maxL ret ws' rm 1 6 n) (hp : PreV s H C b Pc As) (hn : As.length = n) (hl : lv_has ls nL lv) (hst : st0 = As.reverse ++ .ref b :: rest) (hro : (rest.map fun v => v.category).sum ≤ 8) (hdg : decode cc pc = .ok (.invokevirtual index, 3)) (hf : cells + 1 ≤ R.cells ∧ slots + 6 ≤ R.slots)
    {name : String} (pre : List ExceptionTableEntry) (x : ExceptionTableEntry) (suf : List ExceptionTableEntry) (hsplit : c.exceptionTable.toList = pre ++ x :: suf) (hpass : ∀ z ∈ pre, covers z pc = false ∨ (z.catchType ≠ 0 ∧ ∃ nm : String, (Cond.classLink own z.catchType nm).before args s = true ∧ va_Nc E nm s)) (hcv : covers x pc = true) (h0 : x.catchType ≠ 0)
    (hlink : (Cond.classLink own x.catchType name).before args s = true) (hcast : (Cond.castable E name).before args s = true)
    (kk : ∀ (q9 : Nat) (H1 : Heap), H.size ≤ H1.size → (∀ q : Nat, q < H.size → H1[q]? = H[q]?) → W p l e R s m args below meth c H1 locs (cells + 1) (slots + 6) Q (F0 m x.handlerPc ls [.ref q9])) : W p l e R s m args below meth c H locs cells slots Q (F0 m pc ls st0) := by
  intro T hT X
  rcases vx_runV S hM cw hp rfl hn hl.1 hst (lv_room hro) hdg hf T hT X with ⟨v, st₀, t, T', L, h0, X', hL, e1, e2, hff, st⟩ | ⟨q, st₀, t, T', L, E', ce, h9, X', hL, e1, e2, ⟨u, -, rfl, hF⟩, hce, hcv9, hcl, st⟩
  · exact hff.elim
  · obtain ⟨hz, hk⟩ := hF
    rw [h9] at hz hk
    have X2 := Stand.forget (locs := locs) X' (fun z hz9 => (hL z hz9).elim)
    have k := vx_catch (p := p) (l := l) (e := e) (R := R) (s := s) (m := m) (args := args) (below := below) (meth := meth) (c := c) (H := T'.heap) (locs := locs) (cells := cells + 1) (slots := slots + 6) (Q := Q) (pc := pc) (ls := ls) (rest := rest) (own := own) (name := name) (E := E') (ce := ce) (q := q) S.2.2.2.1 pre x suf hsplit hpass hcv h0 hlink hcast (by rw [e1]; exact hce) hcv9 hcl (kk q T'.heap (by rw [e1]; exact hz) (fun q1 h1 => by rw [e1]; exact hk q1 h1 id))
    obtain ⟨t2, a1, b1⟩ := k T' rfl X2
    exact ⟨t2, st.trans a1, b1⟩
/-- a call of a reader that answers a cell -/
theorem j_cR_ {a : Nat} (S : CallFix p m c cc nL s args Ts own) (hM : Met l y ws' rm Pc (jSr a) 0 0 (fun _ => False)) (cw : CallW R s args own C index y bytes maxL ret ws' rm 0 0 n) (hp : PreV s H C b Pc As) (hn : As.length = n) (hl : lv_has ls nL lv) (hst : st0 = As.reverse ++ .ref b :: rest) (hro : (rest.map fun v => v.category).sum ≤ 8) (hdg : decode cc pc = .ok (.invokevirtual index, 3)) (hf : cells ≤ R.cells ∧ slots ≤ R.slots)
    (kk : W p l e R s m args below meth c H locs cells slots Q (F0 m (pc + 3) ls (.ref a :: rest))) : W p l e R s m args below meth c H locs cells slots Q (F0 m pc ls st0) := by
  intro T hT X
  obtain ⟨v, st₀, t, T', L, h0, X', hL, e1, ⟨hv, hh⟩, st⟩ := va_Run.run (va_runV S hM cw hp rfl hn hl.1 hst (lv_room hro) hdg hf) T hT X
  cases hv
  obtain ⟨t2, a1, b1⟩ := kk T' (by rw [e1, hh, h0]) (Stand.forget X' (fun q h => (hL q h).elim))
  exact ⟨t2, st t2 a1, b1⟩
/-- a call of a void reader -/
theorem j_cV_ (S : CallFix p m c cc nL s args Ts own) (hM : Met l y ws' rm Pc (va_Sv (fun _ => True)) 0 0 (fun _ => False)) (cw : CallW R s args own C index y bytes maxL ret ws' rm 0 0 n) (hp : PreV s H C b Pc As) (hn : As.length = n) (hl : lv_has ls nL lv) (hst : st0 = As.reverse ++ .ref b :: rest) (hro : (rest.map fun v => v.category).sum ≤ 8) (hdg : decode cc pc = .ok (.invokevirtual index, 3)) (hf : cells ≤ R.cells ∧ slots ≤ R.slots)
    (kk : W p l e R s m args below meth c H locs cells slots Q (F0 m (pc + 3) ls rest)) : W p l e R s m args below meth c H locs cells slots Q (F0 m pc ls st0) :=
  va_csv (va_Run.run (va_runV S hM cw hp rfl hn hl.1 hst (lv_room hro) hdg hf)) (fun _ => kk)
theorem j_sV (S : CallFix p m c cc nL s args Ts own) (hM : Met l y ws' rm (va_Pc As (fun _ => True)) (va_Sv (fun _ => True)) 0 0 (fun _ => False)) (cw : CallB R s args own index y bytes maxL ret ws' rm 0 0 n ∧ (Cond.static y).before args s = true) (hn : As.length = n) (hl : lv_has ls nL lv) (hst : st0 = As.reverse ++ rest) (hro : (rest.map fun v => v.category).sum ≤ 8) (hdg : decode cc pc = .ok (.invokestatic index, 3)) (hf : cells ≤ R.cells ∧ slots ≤ R.slots)
    (kk : W p l e R s m args below meth c H locs cells slots Q (F0 m (pc + 3) ls rest)) : W p l e R s m args below meth c H locs cells slots Q (F0 m pc ls st0) :=
  va_csv (va_Run.run (va_runS S hM cw ⟨fun _ _ _ _ q => q, fun _ _ _ => ⟨rfl, trivial⟩⟩ rfl hn hl.1 hst (lv_room hro) hdg hf)) (fun _ => kk)
end JTH
/-- an int between two bounds -/
theorem j_rng {x : Int32} {M : Nat} (hM : M < 2 ^ 31) (h1 : ¬ x < nI 0) (h2 : ¬ nI M < x) : ∃ v, v ≤ M ∧ x = nI v := by
  obtain ⟨v, hv, rfl⟩ := nI_of (x := x) h1
  rw [nI_ltI hM hv] at h2
  exact ⟨v, by omega, rfl⟩
