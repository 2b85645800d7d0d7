/-! my own rows over the kit: heads of contracts, calls, worlds cut out and put back, what a throw needs -/
section JK
variable {p : Program} {l : Launch} {e : Env} {R : Room} {s : State} {m : MethodId} {args : Array Value} {below : List Frame} {meth : Method} {c : Code} {H : Heap} {locs : List Loc} {cells slots : Nat} {Q : State → Prop}
variable {pc : Nat} {ls : Array Slot} {rest st0 : List Value}
/-- a value on top of the stack, written otherwise -/
theorem j_i {x y : Int32} (h : x = y) (k : W p l e R s m args below meth c H locs cells slots Q (F0 m pc ls (.int y :: rest))) : W p l e R s m args below meth c H locs cells slots Q (F0 m pc ls (.int x :: rest)) := h ▸ k
theorem j_l {x y : Int64} (h : x = y) (k : W p l e R s m args below meth c H locs cells slots Q (F0 m pc ls (.long y :: rest))) : W p l e R s m args below meth c H locs cells slots Q (F0 m pc ls (.long x :: rest)) := h ▸ k
/-- several roads meet: the rest is walked once -/
theorem j_join {α : Type} (P : α → Prop) (f : α → JFrame) {g : JFrame} (J : ∀ a, P a → W p l e R s m args below meth c H locs cells slots Q (f a)) (k : (∀ a, P a → W p l e R s m args below meth c H locs cells slots Q (f a)) → W p l e R s m args below meth c H locs cells slots Q g) : W p l e R s m args below meth c H locs cells slots Q g := k J
theorem j_v {x y : Value} (h : x = y) (k : W p l e R s m args below meth c H locs cells slots Q (F0 m pc ls (y :: rest))) : W p l e R s m args below meth c H locs cells slots Q (F0 m pc ls (x :: rest)) := h ▸ k
end JK
section JH
variable {l : Launch} {y : MethodName} {ws ws' : List Cond} {rm : Room} {vs : List Value} {B : State → Prop} {Qc : Array Value → State → Outcome → State → Prop} {XC : String → State → State → Prop} {mc ms : Nat} {free : Addr → Prop} {cc : ByteArray} {maxL : Nat} {ret : Option FieldType} {hh : List (Nat × Nat × Nat × Nat)}
/-- the head of a contract of a method that returns -/
theorem j_of (hy : plainName y.cls = true) (hw : ws = Cond.code y cc maxL ret :: ws') (hlen : (lg_sl vs).length ≤ maxL)
    (body : ∀ (p : Program) (e : Env) (s : State) (m : MethodId) (below : List Frame) (meth : Method) (c : Code) (ls : Array Slot), p.tables.exec = Jvm.exec → c.code = cc → meth.sig.returnType = ret → c.maxLocals = maxL → (∀ w ∈ ws, w.before vs.toArray s = true) → s.vm.findClass y.cls = some m.cls → meth.locks = false → meth.name = y.name → lv_has ls maxL (lv_args 0 vs) → B s →
      W p l e rm s m vs.toArray below meth c s.heap [] 0 0 (MQ below Qc vs.toArray s mc ms free) (F0 m 0 ls [])) : Met l y ws rm (va_Pc vs B) Qc mc ms free := by
  refine Met.ofW (cc := cc) (maxL := maxL) (ret := ret) hy hw ?_
  intro p e s m args below meth c s₁ Bd hml hv
  obtain ⟨rfl, hB⟩ := hv
  rw [lg_entry_eq]
  exact body p e s m below meth c _ Bd.exec Bd.bytes Bd.returns hml (atoms_spec (ws := ws) Bd.pre) (findClass_of_methodNamed Bd.named) Bd.notSynchronized (name_of_methodNamed Bd.named Bd.method).1 (lv_entry vs hlen) hB
/-- .. that returns or throws -/
theorem j_ofx (hy : plainName y.cls = true) (hw : ws = Cond.code y cc maxL ret :: ws') (hlen : (lg_sl vs).length ≤ maxL)
    (body : ∀ (p : Program) (e : Env) (s : State) (m : MethodId) (below : List Frame) (meth : Method) (c : Code) (ls : Array Slot), p.tables.exec = Jvm.exec → c.code = cc → meth.sig.returnType = ret → c.maxLocals = maxL → (∀ w ∈ ws, w.before vs.toArray s = true) → s.vm.findClass y.cls = some m.cls → meth.locks = false → (∀ x ∈ c.exceptionTable.toList, False) → lv_has ls maxL (lv_args 0 vs) → B s →
      W p l e rm s m vs.toArray below meth c s.heap [] 0 0 (vx_MQ below Qc XC vs.toArray s mc ms free) (F0 m 0 ls [])) : vx_Met l y ws rm (va_Pc vs B) Qc XC mc ms free := by
  refine vx_ofW (cc := cc) (maxL := maxL) (ret := ret) hy hw ?_
  intro p e s m args below meth c s₁ Bd hml ht hv
  obtain ⟨rfl, hB⟩ := hv
  rw [lg_entry_eq]
  exact body p e s m below meth c _ Bd.exec Bd.bytes Bd.returns hml (atoms_spec (ws := ws) Bd.pre) (findClass_of_methodNamed Bd.named) Bd.notSynchronized ht (lv_entry vs hlen) hB
/-- .. with handlers -/
theorem j_ofh (hy : plainName y.cls = true) (hw : ws = Cond.codeWith y cc maxL ret hh :: ws') (hlen : (lg_sl vs).length ≤ maxL)
    (body : ∀ (p : Program) (e : Env) (s : State) (m : MethodId) (below : List Frame) (meth : Method) (c : Code) (ls : Array Slot), p.tables.exec = Jvm.exec → c.code = cc → meth.sig.returnType = ret → c.maxLocals = maxL → (∀ w ∈ ws, w.before vs.toArray s = true) → s.vm.findClass y.cls = some m.cls → meth.locks = false → c.exceptionTable.toList = tableOf hh → lv_has ls maxL (lv_args 0 vs) → B s →
      W p l e rm s m vs.toArray below meth c s.heap [] 0 0 (MQ below Qc vs.toArray s mc ms free) (F0 m 0 ls [])) : Met l y ws rm (va_Pc vs B) Qc mc ms free := by
  refine va_MetW (cc := cc) (maxL := maxL) (ret := ret) (hh := hh) hy hw ?_
  intro p e s m args below meth c s₁ Bd hml hv
  obtain ⟨rfl, hB⟩ := hv
  rw [lg_entry_eq]
  have hts := atoms_spec (ws := ws) Bd.pre
  exact body p e s m below meth c _ Bd.exec Bd.bytes Bd.returns hml hts (findClass_of_methodNamed Bd.named) Bd.notSynchronized (vx_table (x := y) Bd (hts _ (by rw [hw]; exact List.mem_cons_self))) (lv_entry vs hlen) hB
end JH
/-! worlds -/
/-- the addresses of a world -/
def jA (ws : va_W) : Nat → Prop := fun q => ∃ (k : Nat) (e : va_E), ws[k]? = some (q, e)
theorem va_D.addr {A : Nat → Prop} {ws wn : va_W} (h : va_D A ws) (ha : ws.map (·.1) = wn.map (·.1)) : va_D A wn := by
  have g : ∀ (k : Nat) (q : Nat × va_E), wn[k]? = some q → ∃ q0, ws[k]? = some q0 ∧ q0.1 = q.1 := by
    intro k q hk
    have h1 : (wn.map (·.1))[k]? = some q.1 := by rw [List.getElem?_map, hk]; rfl
    rw [← ha, List.getElem?_map] at h1
    cases h2 : ws[k]? with
    | none => rw [h2] at h1; cases h1
    | some q0 => rw [h2] at h1; exact ⟨q0, rfl, Option.some.inj h1⟩
  refine ⟨fun i j p q hi hj e => ?_, fun k q hk => ?_⟩
  · obtain ⟨p0, h1, e1⟩ := g i p hi
    obtain ⟨q0, h2, e2⟩ := g j q hj
    exact h.1 i j p0 q0 h1 h2 (by rw [e1, e2]; exact e)
  · obtain ⟨q0, h1, e1⟩ := g k q hk
    rw [← e1]
    exact h.2 k q0 h1
theorem va_D.jA {A : Nat → Prop} {ws : va_W} (h : va_D A ws) : va_D (jA ws) ws := ⟨h.1, fun k q hk => ⟨k, q.2, hk⟩⟩
theorem jA_sub {A : Nat → Prop} {ws wc : va_W} (hD : va_D A ws) (is : List Nat) (hC : is.map (fun i => ws[i]?) = wc.map some) : ∀ q, jA wc q → A q := by
  intro q ⟨k, e, h⟩
  have h1 : (is.map (fun i => ws[i]?))[k]? = some (some (q, e)) := by rw [hC, List.getElem?_map, h]; rfl
  rw [List.getElem?_map] at h1
  cases h2 : is[k]? with
  | none => rw [h2] at h1; cases h1
  | some i => rw [h2] at h1; exact hD.2 i _ (Option.some.inj h1)
/-- behind a call: the callee's world put back in its places -/
theorem j_merge {A0 : Nat → Prop} {D : va_G} {cl : List vw_C} {ws wn wc w1 : va_W} {H H1 : Heap} (hP : va_P D cl ws H) (hD : va_D A0 ws) (is ir : List Nat) (hC : is.map (fun i => ws[i]?) = wc.map some) (hN : is.map (fun i => wn[i]?) = w1.map some) (ha : ws.map (·.1) = wn.map (·.1))
    (hR : ir.map (fun i => wn[i]?) = ir.map (fun i => ws[i]?)) (hcov : ∀ i, i < wn.length → i ∈ is ∨ i ∈ ir) (hk : ∀ q : Nat, q < H.size → ¬ jA wc q → H1[q]? = H[q]?) (hP1 : va_P D cl w1 H1) : va_P D cl wn H1 ∧ va_D A0 wn := by
  refine ⟨fun k q hq => ?_, hD.addr ha⟩
  by_cases h1 : k ∈ is
  · obtain ⟨j, hj⟩ := List.getElem?_of_mem h1
    have h2 : (is.map (fun i => wn[i]?))[j]? = some (some q) := by rw [List.getElem?_map, hj]; exact congrArg some hq
    rw [hN, List.getElem?_map] at h2
    cases h3 : w1[j]? with
    | none => rw [h3] at h2; cases h2
    | some q1 =>
      rw [h3] at h2
      cases Option.some.inj (Option.some.inj h2)
      exact hP1 j q h3
  · have h2 := (hcov k (List.getElem?_eq_some_iff.mp hq).1).resolve_left h1
    obtain ⟨j, hj⟩ := List.getElem?_of_mem h2
    have h3 : (ir.map (fun i => wn[i]?))[j]? = some (some q) := by rw [List.getElem?_map, hj]; exact congrArg some hq
    rw [hR, List.getElem?_map, hj] at h3
    have h4 : ws[k]? = some q := Option.some.inj h3
    refine (hP k q h4).kept (hk q.1 (hP k q h4).lt ?_)
    intro ⟨j2, e2, h5⟩
    have h6 : (is.map (fun i => ws[i]?))[j2]? = some (some (q.1, e2)) := by rw [hC, List.getElem?_map, h5]; rfl
    rw [List.getElem?_map] at h6
    cases h7 : is[j2]? with
    | none => rw [h7] at h6; cases h6
    | some i =>
      rw [h7] at h6
      have h8 : i = k := hD.1 i k _ _ (Option.some.inj h6) h4 rfl
      exact h1 (by rw [← h8]; exact List.mem_of_getElem? h7)
/-- .. by what lies in the new world -/
theorem j_wu {A0 : Nat → Prop} {D : va_G} {cl : List vw_C} {ws wn wc w1 : va_W} {H H1 : Heap} (hP : va_P D cl ws H) (hD : va_D A0 ws) (ha : ws.map (·.1) = wn.map (·.1)) (hk : ∀ q : Nat, q < H.size → ¬ jA wc q → H1[q]? = H[q]?) (hP1 : va_P D cl w1 H1)
    (h : ∀ q ∈ wn, q ∈ w1 ∨ (q ∈ ws ∧ ∀ z ∈ wc, z.1 ≠ q.1)) : va_P D cl wn H1 ∧ va_D A0 wn := by
  refine ⟨fun k q hq => ?_, hD.addr ha⟩
  rcases h q (List.mem_of_getElem? hq) with h1 | ⟨h1, h2⟩
  · obtain ⟨j, hj⟩ := List.getElem?_of_mem h1
    exact hP1 j q hj
  · obtain ⟨j, hj⟩ := List.getElem?_of_mem h1
    refine (hP j q hj).kept (hk q.1 (hP j q hj).lt ?_)
    intro ⟨j2, e2, h5⟩
    exact h2 _ (List.mem_of_getElem? h5) rfl
/-- an array's contents, by what they are below its length -/
theorem j_cI {cA : ClassId} {n : Nat} {f g : Nat → Int32} (h : ∀ j, j < n → f j = g j) : vp_cell cA (n, .inl f) = vp_cell cA (n, .inl g) := by
  rw [vp_cell_i, vp_cell_i]
  unfold arrV
  congr 2
  funext j
  exact congrArg Value.int (h j.1 j.2)
theorem j_cL {cA : ClassId} {n : Nat} {f g : Nat → Int64} (h : ∀ j, j < n → f j = g j) : vp_cell cA (n, .inr (.inl f)) = vp_cell cA (n, .inr (.inl g)) := by
  rw [vp_cell_l, vp_cell_l]
  unfold arrV
  congr 2
  funext j
  exact congrArg Value.long (h j.1 j.2)
/-- one cell of a world, said otherwise -/
theorem j_same {D : va_G} {cl : List vw_C} {ws wn : va_W} {H : Heap} (hP : va_P D cl ws H) (hlen : ws.length = wn.length) (h : ∀ k, k < ws.length → wn[k]? = ws[k]? ∨ ∃ (a : Nat) (x y : ClassId × vp_A), ws[k]? = some (a, .inl x) ∧ wn[k]? = some (a, .inl y) ∧ vp_cell x.1 x.2 = vp_cell y.1 y.2) : va_P D cl wn H := by
  intro k q hq
  have hk := (List.getElem?_eq_some_iff.mp hq).1
  rcases h k (by omega) with h1 | ⟨a, x, y, h1, h2, h3⟩
  · exact hP k q (by rw [← h1]; exact hq)
  · rw [h2] at hq
    cases hq
    have h4 : H[a]? = some (vp_cell x.1 x.2) := hP k _ h1
    show H[a]? = some (vp_cell y.1 y.2)
    rw [← h3]
    exact h4
theorem j_h {D : va_G} {cl : List vw_C} {ws : va_W} {t : State} {H : Heap} (ht : t.heap = H) (h : va_P D cl ws H) : va_P D cl ws t.heap := by rw [ht]; exact h
/-- a class of arrays is found by its name -/
theorem j_cls {D : va_G} {cl : List vw_C} {tys : List (ClassId × FieldType)} {U : State} (h : va_K D cl tys U) (i j : Nat) {c1 c2 : ClassId} {ty : FieldType} (hi : tys[i]? = some (c1, ty)) (hj : tys[j]? = some (c2, ty)) : c1 = c2 := by
  have h1 := (h.2 i _ hi).2
  have h2 := (h.2 j _ hj).2
  cases ty <;> first
    | (obtain ⟨_, _, _, _, _, e1⟩ := h1; obtain ⟨_, _, _, _, _, e2⟩ := h2; exact Option.some.inj (e1.symm.trans e2))
    | exact Option.some.inj (h1.symm.trans h2)
theorem j_cov (is ir : List Nat) (n : Nat) (h : (List.range n).all (fun i => is.contains i || ir.contains i) = true) : ∀ i, i < n → i ∈ is ∨ i ∈ ir := by
  intro i hi
  have h1 := List.all_eq_true.mp h i (List.mem_range.mpr hi)
  simp only [Bool.or_eq_true, List.contains_iff_mem] at h1
  exact h1
/-! the starts of contracts -/
def jR (D : va_G) (tys : List (ClassId × FieldType)) (ws : va_W) (U : State) : Prop := va_P D vwCl ws U.heap ∧ va_K D vwCl tys U
def jW (D : va_G) (tys : List (ClassId × FieldType)) (ws : va_W) (U : State) : Prop := va_P D vwCl ws U.heap ∧ va_K D vwCl tys U ∧ va_D (fun _ => True) ws
theorem j_calls {u : State} {D : va_G} {tys : List (ClassId × FieldType)} {g : JFrame} {mk : MethodId} {a : Array Value} (h : va_K D vwCl tys u) : va_K D vwCl tys (u.calling g mk a) := va_K.moved (u := u) (U := u.calling g mk a) (Vm.Alike.refl u.vm) h
theorem jR_bl {av : List Value} {D : va_G} {tys : List (ClassId × FieldType)} {ws : va_W} : FrameBlind (va_Pc av (jR D tys ws)) := fun _ _ _ _ q => ⟨q.1, q.2.1, j_calls q.2.2⟩
theorem jW_bl {av : List Value} {D : va_G} {tys : List (ClassId × FieldType)} {ws : va_W} : FrameBlind (va_Pc av (jW D tys ws)) := fun _ _ _ _ q => ⟨q.1, q.2.1, j_calls q.2.2.1, q.2.2.2⟩
section JP
variable {s : State} {H : Heap} {D : va_G} {tys : List (ClassId × FieldType)} {ws wc : va_W} {A : Nat → Prop} {C : String} {b ci q0 : Nat} {r : vw_C} {fs As : List Value}
theorem jR_V (hK : va_K D vwCl tys s) (hP : va_P D vwCl ws H) (is : List Nat) (hs : is.filterMap (fun i => ws[i]?) = wc) (hc : vwCl[ci]? = some r) (he : ws[q0]? = some (b, .inr (ci, fs))) (hn : r.1 = C) : PreV s H C b (va_Pc (.ref b :: As) (jR D tys wc)) As :=
  ⟨jR_bl, by rw [← hn]; exact va_recv hK hP hc he, fun U hU hW => ⟨rfl, by rw [hU]; exact hP.sub is hs, va_K.moved hW.alike hK⟩⟩
theorem jW_V (hK : va_K D vwCl tys s) (hP : va_P D vwCl ws H) (hD : va_D A ws) (is : List Nat) (hn9 : va_nd is = true) (hs : is.map (fun i => ws[i]?) = wc.map some) (hc : vwCl[ci]? = some r) (he : ws[q0]? = some (b, .inr (ci, fs))) (hn : r.1 = C) : PreV s H C b (va_Pc (.ref b :: As) (jW D tys wc)) As :=
  ⟨jW_bl, by rw [← hn]; exact va_recv hK hP hc he, fun U hU hW => ⟨rfl, by
    rw [hU]
    refine hP.sub is ?_
    have h : ∀ (l : List Nat) (w : va_W), l.map (fun i => ws[i]?) = w.map some → l.filterMap (fun i => ws[i]?) = w := by
      intro l
      induction l with
      | nil => intro w h; cases w with
        | nil => rfl
        | cons _ _ => cases h
      | cons i l ih => intro w h; cases w with
        | nil => cases h
        | cons z w =>
          simp only [List.map_cons, List.cons.injEq] at h
          rw [List.filterMap_cons, h.1, ih w h.2]
    exact h is wc hs, va_K.moved hW.alike hK, (hD.sub is hn9 hs).weaken (fun _ _ _ _ => trivial)⟩⟩
end JP
/-! calls -/
section JC
variable {p : Program} {l : Launch} {e : Env} {R : Room} {s : State} {m : MethodId} {args : Array Value} {below : List Frame} {meth : Method} {c : Code} {H : Heap} {locs : List Loc} {cells slots : Nat} {Q : State → Prop}
variable {pc : Nat} {ls : Array Slot} {rest st0 As : List Value} {lv : List (Nat × Value)}
variable {y : MethodName} {bytes cc : ByteArray} {maxL nL n index : Nat} {ret : Option FieldType} {ws' : List Cond} {rm : Room} {Ts : List Cond} {own C : String} {b : Addr} {Pc : Array Value → State → Prop}
theorem j_cI_ {post : Int32 → Prop} (S : CallFix p m c cc nL s args Ts own) (hM : Met l y ws' rm Pc (vp_Si post) 0 0 (fun _ => False)) (cw : CallW R s args own C index y bytes maxL ret ws' rm 0 0 n) (hp : PreV s H C b Pc As) (hn : As.length = n) (hl : lv_has ls nL lv) (hst : st0 = As.reverse ++ .ref b :: rest) (hro : (rest.map fun v => v.category).sum ≤ 8) (hdg : decode cc pc = .ok (.invokevirtual index, 3)) (hf : cells ≤ R.cells ∧ slots ≤ R.slots)
    (kk : ∀ r : Int32, post r → W p l e R s m args below meth c H locs cells slots Q (F0 m (pc + 3) ls (.int r :: rest))) : W p l e R s m args below meth c H locs cells slots Q (F0 m pc ls st0) :=
  vp_callSi (va_Run.run (va_runV S hM cw hp rfl hn hl.1 hst (lv_room hro) hdg hf)) kk
theorem j_cL_ {post : Int64 → Prop} (S : CallFix p m c cc nL s args Ts own) (hM : Met l y ws' rm Pc (vp_Sl post) 0 0 (fun _ => False)) (cw : CallW R s args own C index y bytes maxL ret ws' rm 0 0 n) (hp : PreV s H C b Pc As) (hn : As.length = n) (hl : lv_has ls nL lv) (hst : st0 = As.reverse ++ .ref b :: rest) (hro : (rest.map fun v => v.category).sum ≤ 8) (hdg : decode cc pc = .ok (.invokevirtual index, 3)) (hf : cells ≤ R.cells ∧ slots ≤ R.slots)
    (kk : ∀ r : Int64, post r → W p l e R s m args below meth c H locs cells slots Q (F0 m (pc + 3) ls (.long r :: rest))) : W p l e R s m args below meth c H locs cells slots Q (F0 m pc ls st0) :=
  vp_callSl (va_Run.run (va_runV S hM cw hp rfl hn hl.1 hst (lv_room hro) hdg hf)) kk
/-- static, a reader without a world -/
theorem j_sI {post : Int32 → Prop} (S : CallFix p m c cc nL s args Ts own) (hM : Met l y ws' rm (va_Pc As (fun _ => True)) (vp_Si post) 0 0 (fun _ => False)) (cw : CallB R s args own index y bytes maxL ret ws' rm 0 0 n ∧ (Cond.static y).before args s = true) (hn : As.length = n) (hl : lv_has ls nL lv) (hst : st0 = As.reverse ++ rest) (hro : (rest.map fun v => v.category).sum ≤ 8) (hdg : decode cc pc = .ok (.invokestatic index, 3)) (hf : cells ≤ R.cells ∧ slots ≤ R.slots)
    (kk : ∀ r : Int32, post r → W p l e R s m args below meth c H locs cells slots Q (F0 m (pc + 3) ls (.int r :: rest))) : W p l e R s m args below meth c H locs cells slots Q (F0 m pc ls st0) :=
  vp_callSi (va_Run.run (va_runS S hM cw ⟨fun _ _ _ _ q => q, fun _ _ _ => ⟨rfl, trivial⟩⟩ rfl hn hl.1 hst (lv_room hro) hdg hf)) kk
variable {A0 : Nat → Prop} {H0 : Heap} {D : va_G} {ws wc : va_W}
/-- a writer: its world is put back -/
theorem j_wV {S : Type} {post : S → Prop} {w1 : S → va_W} (Sx : CallFix p m c cc nL s args Ts own) (hM : Met l y ws' rm Pc (va_Qv post (fun u t => va_P D vwCl (w1 u) t.heap) (jA wc)) 0 0 (jA wc)) (cw : CallW R s args own C index y bytes maxL ret ws' rm 0 0 n) (hp : PreV s H C b Pc As) (hn : As.length = n) (hl : lv_has ls nL lv) (hst : st0 = As.reverse ++ .ref b :: rest) (hro : (rest.map fun v => v.category).sum ≤ 8) (hdg : decode cc pc = .ok (.invokevirtual index, 3)) (hf : cells ≤ R.cells ∧ slots ≤ R.slots)
    (hP : va_P D vwCl ws H) (hD : va_D A0 ws) (hS : va_S A0 H0 H locs) (is ir : List Nat) (hC : is.map (fun i => ws[i]?) = wc.map some) (wn : S → va_W) (hN : ∀ u, is.map (fun i => (wn u)[i]?) = (w1 u).map some) (ads : List Nat) (ha1 : ws.map (·.1) = ads) (ha2 : ∀ u, (wn u).map (·.1) = ads) (wr : va_W) (hR1 : ir.map (fun i => ws[i]?) = wr.map some) (hR2 : ∀ u, ir.map (fun i => (wn u)[i]?) = wr.map some) (hcov : ∀ u i, i < (wn u).length → i ∈ is ∨ i ∈ ir)
    (kk : ∀ (u : S) (H1 : Heap) (locs1 : List Loc), post u → va_P D vwCl (wn u) H1 → va_D A0 (wn u) → va_S A0 H0 H1 locs1 → W p l e R s m args below meth c H1 locs1 cells slots Q (F0 m (pc + 3) ls rest)) : W p l e R s m args below meth c H locs cells slots Q (F0 m pc ls st0) :=
  va_callv (va_runV Sx hM cw hp rfl hn hl.1 hst (lv_room hro) hdg hf) hS (fun q _ h => jA_sub hD is hC q h) (fun q h => jA_sub hD is hC q h) (fun u t H1 locs1 ht _ hw hB _ hk hS1 => by
    obtain ⟨h1, h2⟩ := j_merge hP hD is ir hC (hN u) (ha1.trans (ha2 u).symm) ((hR2 u).trans hR1.symm) (hcov u) hk (by rw [← ht]; exact hB)
    exact kk u H1 locs1 hw h1 h2 hS1)
theorem j_wI {S : Type} {post : Int32 → S → Prop} {w1 : S → va_W} (Sx : CallFix p m c cc nL s args Ts own) (hM : Met l y ws' rm Pc (va_Qi post (fun u t => va_P D vwCl (w1 u) t.heap) (jA wc)) 0 0 (jA wc)) (cw : CallW R s args own C index y bytes maxL ret ws' rm 0 0 n) (hp : PreV s H C b Pc As) (hn : As.length = n) (hl : lv_has ls nL lv) (hst : st0 = As.reverse ++ .ref b :: rest) (hro : (rest.map fun v => v.category).sum ≤ 8) (hdg : decode cc pc = .ok (.invokevirtual index, 3)) (hf : cells ≤ R.cells ∧ slots ≤ R.slots)
    (hP : va_P D vwCl ws H) (hD : va_D A0 ws) (hS : va_S A0 H0 H locs) (is ir : List Nat) (hC : is.map (fun i => ws[i]?) = wc.map some) (wn : S → va_W) (hN : ∀ u, is.map (fun i => (wn u)[i]?) = (w1 u).map some) (ads : List Nat) (ha1 : ws.map (·.1) = ads) (ha2 : ∀ u, (wn u).map (·.1) = ads) (wr : va_W) (hR1 : ir.map (fun i => ws[i]?) = wr.map some) (hR2 : ∀ u, ir.map (fun i => (wn u)[i]?) = wr.map some) (hcov : ∀ u i, i < (wn u).length → i ∈ is ∨ i ∈ ir)
    (kk : ∀ (r : Int32) (u : S) (H1 : Heap) (locs1 : List Loc), post r u → va_P D vwCl (wn u) H1 → va_D A0 (wn u) → va_S A0 H0 H1 locs1 → W p l e R s m args below meth c H1 locs1 cells slots Q (F0 m (pc + 3) ls (.int r :: rest))) : W p l e R s m args below meth c H locs cells slots Q (F0 m pc ls st0) :=
  va_calli (va_runV Sx hM cw hp rfl hn hl.1 hst (lv_room hro) hdg hf) hS (fun q _ h => jA_sub hD is hC q h) (fun q h => jA_sub hD is hC q h) (fun r u t H1 locs1 ht _ hw hB _ hk hS1 => by
    obtain ⟨h1, h2⟩ := j_merge hP hD is ir hC (hN u) (ha1.trans (ha2 u).symm) ((hR2 u).trans hR1.symm) (hcov u) hk (by rw [← ht]; exact hB)
    exact kk r u H1 locs1 hw h1 h2 hS1)
theorem j_wL {S : Type} {post : Int64 → S → Prop} {w1 : S → va_W} (Sx : CallFix p m c cc nL s args Ts own) (hM : Met l y ws' rm Pc (va_Ql post (fun u t => va_P D vwCl (w1 u) t.heap) (jA wc)) 0 0 (jA wc)) (cw : CallW R s args own C index y bytes maxL ret ws' rm 0 0 n) (hp : PreV s H C b Pc As) (hn : As.length = n) (hl : lv_has ls nL lv) (hst : st0 = As.reverse ++ .ref b :: rest) (hro : (rest.map fun v => v.category).sum ≤ 8) (hdg : decode cc pc = .ok (.invokevirtual index, 3)) (hf : cells ≤ R.cells ∧ slots ≤ R.slots)
    (hP : va_P D vwCl ws H) (hD : va_D A0 ws) (hS : va_S A0 H0 H locs) (is ir : List Nat) (hC : is.map (fun i => ws[i]?) = wc.map some) (wn : S → va_W) (hN : ∀ u, is.map (fun i => (wn u)[i]?) = (w1 u).map some) (ads : List Nat) (ha1 : ws.map (·.1) = ads) (ha2 : ∀ u, (wn u).map (·.1) = ads) (wr : va_W) (hR1 : ir.map (fun i => ws[i]?) = wr.map some) (hR2 : ∀ u, ir.map (fun i => (wn u)[i]?) = wr.map some) (hcov : ∀ u i, i < (wn u).length → i ∈ is ∨ i ∈ ir)
    (kk : ∀ (r : Int64) (u : S) (H1 : Heap) (locs1 : List Loc), post r u → va_P D vwCl (wn u) H1 → va_D A0 (wn u) → va_S A0 H0 H1 locs1 → W p l e R s m args below meth c H1 locs1 cells slots Q (F0 m (pc + 3) ls (.long r :: rest))) : W p l e R s m args below meth c H locs cells slots Q (F0 m pc ls st0) :=
  va_calll (va_runV Sx hM cw hp rfl hn hl.1 hst (lv_room hro) hdg hf) hS (fun q _ h => jA_sub hD is hC q h) (fun q h => jA_sub hD is hC q h) (fun r u t H1 locs1 ht _ hw hB _ hk hS1 => by
    obtain ⟨h1, h2⟩ := j_merge hP hD is ir hC (hN u) (ha1.trans (ha2 u).symm) ((hR2 u).trans hR1.symm) (hcov u) hk (by rw [← ht]; exact hB)
    exact kk r u H1 locs1 hw h1 h2 hS1)
end JC
/-! loops -/
section JL
variable {p : Program} {l : Launch} {e : Env} {R : Room} {s : State} {m : MethodId} {args : Array Value} {below : List Frame} {meth : Method} {c : Code} {cells slots : Nat} {Q : State → Prop}
/-- a loop that writes nothing: at its head, with a's locals -/
theorem j_loop {α : Type} {H : Heap} {locs : List Loc} {nL pc0 : Nat} {ls : Array Slot} (I : α → Prop) (μ : α → Nat) (lv : α → List (Nat × Value)) (a0 : α) (h0 : I a0) (hl0 : lv_has ls nL (lv a0))
    (hs : ∀ (a : α) (ls : Array Slot), I a → lv_has ls nL (lv a) → (∀ (a' : α) (ls' : Array Slot), I a' → μ a' < μ a → lv_has ls' nL (lv a') → W p l e R s m args below meth c H locs cells slots Q (F0 m pc0 ls' [])) → W p l e R s m args below meth c H locs cells slots Q (F0 m pc0 ls [])) :
    W p l e R s m args below meth c H locs cells slots Q (F0 m pc0 ls []) := by
  have g : ∀ (n : Nat) (a : α) (ls : Array Slot), μ a < n → I a → lv_has ls nL (lv a) → W p l e R s m args below meth c H locs cells slots Q (F0 m pc0 ls []) := by
    intro n
    induction n with
    | zero => intro a ls h; exact absurd h (Nat.not_lt_zero _)
    | succ n ih => intro a ls h hI hl; exact hs a ls hI hl (fun a' ls' hI' hm hl' => ih a' ls' (by omega) hI' hl')
  exact g _ a0 ls (Nat.lt_succ_self _) h0 hl0
/-- a loop that writes -/
theorem j_loopW {α : Type} {D : va_G} {A0 : Nat → Prop} {H0 H : Heap} {locs : List Loc} {nL pc0 : Nat} {ls : Array Slot} (I : α → Prop) (μ : α → Nat) (lv : α → List (Nat × Value)) (w : α → va_W) (a0 : α) (h0 : I a0) (hl0 : lv_has ls nL (lv a0)) (hP0 : va_P D vwCl (w a0) H) (hD0 : va_D A0 (w a0)) (hS0 : va_S A0 H0 H locs)
    (hs : ∀ (a : α) (H : Heap) (locs : List Loc) (ls : Array Slot), I a → va_P D vwCl (w a) H → va_D A0 (w a) → va_S A0 H0 H locs → lv_has ls nL (lv a) → (∀ (a' : α) (H' : Heap) (locs' : List Loc) (ls' : Array Slot), I a' → μ a' < μ a → va_P D vwCl (w a') H' → va_D A0 (w a') → va_S A0 H0 H' locs' → lv_has ls' nL (lv a') → W p l e R s m args below meth c H' locs' cells slots Q (F0 m pc0 ls' [])) → W p l e R s m args below meth c H locs cells slots Q (F0 m pc0 ls [])) :
    W p l e R s m args below meth c H locs cells slots Q (F0 m pc0 ls []) := by
  have g : ∀ (n : Nat) (a : α) (H : Heap) (locs : List Loc) (ls : Array Slot), μ a < n → I a → va_P D vwCl (w a) H → va_D A0 (w a) → va_S A0 H0 H locs → lv_has ls nL (lv a) → W p l e R s m args below meth c H locs cells slots Q (F0 m pc0 ls []) := by
    intro n
    induction n with
    | zero => intro a H locs ls h; exact absurd h (Nat.not_lt_zero _)
    | succ n ih => intro a H locs ls h hI hP hD hS hl; exact hs a H locs ls hI hP hD hS hl (fun a' H' locs' ls' hI' hm hP' hD' hS' hl' => ih a' H' locs' ls' (by omega) hI' hP' hD' hS' hl')
  exact g _ a0 H locs ls (Nat.lt_succ_self _) h0 hP0 hD0 hS0 hl0
end JL
