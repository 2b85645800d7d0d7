section
-- ===== PART A: goes FIRST, ahead of the names: the tables' words, and 'selects' of the private methods out of them =====
/-- a private method of a class that the tables say can be made, by its rows of tables_1 -/
def lw_okq (q : MethodName × Nat) : Prop := (q.1.cls ≠ "java/lang/invoke/MethodHandle" ∧ q.1.cls ≠ "java/lang/invoke/VarHandle") ∧ Cond.instantiable q.1.cls q.2 ∈ tables_1 ∧ Cond.privateMethod q.1 ∈ tables_1 ∧ Cond.instanceMethod q.1 ∈ tables_1
theorem lw_p0 : lw_okq (⟨"java/lang/Throwable", "fillInStackTrace", "(I)Ljava/lang/Throwable;"⟩, 6) := ⟨⟨by decide +kernel, by decide +kernel⟩, List.mem_of_getElem? (i := 94) (by decide +kernel), List.mem_of_getElem? (i := 92) (by decide +kernel), List.mem_of_getElem? (i := 93) (by decide +kernel)⟩
theorem lw_p1 : lw_okq (⟨"JointAnnuity", "find", "(I)LJointAnnuity$Annuity;"⟩, 4) := ⟨⟨by decide +kernel, by decide +kernel⟩, List.mem_of_getElem? (i := 11) (by decide +kernel), List.mem_of_getElem? (i := 214) (by decide +kernel), List.mem_of_getElem? (i := 215) (by decide +kernel)⟩
theorem lw_p2 : lw_okq (⟨"JointAnnuity", "requireStartNotRun", "(LJointAnnuity$Annuity;)V"⟩, 4) := ⟨⟨by decide +kernel, by decide +kernel⟩, List.mem_of_getElem? (i := 11) (by decide +kernel), List.mem_of_getElem? (i := 234) (by decide +kernel), List.mem_of_getElem? (i := 235) (by decide +kernel)⟩
theorem lw_p3 : lw_okq (⟨"JointAnnuity$Annuity", "sharesAhead", "(I)J"⟩, 13) := ⟨⟨by decide +kernel, by decide +kernel⟩, List.mem_of_getElem? (i := 140) (by decide +kernel), List.mem_of_getElem? (i := 294) (by decide +kernel), List.mem_of_getElem? (i := 295) (by decide +kernel)⟩
theorem lw_p4 : lw_okq (⟨"JointAnnuity$Annuity", "shareIn", "(I)J"⟩, 13) := ⟨⟨by decide +kernel, by decide +kernel⟩, List.mem_of_getElem? (i := 140) (by decide +kernel), List.mem_of_getElem? (i := 298) (by decide +kernel), List.mem_of_getElem? (i := 299) (by decide +kernel)⟩
theorem lw_p5 : lw_okq (⟨"JointAnnuity$Annuity", "protectionMonth", "()I"⟩, 13) := ⟨⟨by decide +kernel, by decide +kernel⟩, List.mem_of_getElem? (i := 140) (by decide +kernel), List.mem_of_getElem? (i := 307) (by decide +kernel), List.mem_of_getElem? (i := 308) (by decide +kernel)⟩
def lw_privs_1 : List (MethodName × Nat) := [(⟨"java/lang/Throwable", "fillInStackTrace", "(I)Ljava/lang/Throwable;"⟩, 6), (⟨"JointAnnuity", "find", "(I)LJointAnnuity$Annuity;"⟩, 4), (⟨"JointAnnuity", "requireStartNotRun", "(LJointAnnuity$Annuity;)V"⟩, 4), (⟨"JointAnnuity$Annuity", "sharesAhead", "(I)J"⟩, 13), (⟨"JointAnnuity$Annuity", "shareIn", "(I)J"⟩, 13), (⟨"JointAnnuity$Annuity", "protectionMonth", "()I"⟩, 13)]
theorem lw_r1 : ∀ q ∈ lw_privs_1, lw_okq q := List.forall_mem_cons.mpr ⟨lw_p0, List.forall_mem_cons.mpr ⟨lw_p1, List.forall_mem_cons.mpr ⟨lw_p2, List.forall_mem_cons.mpr ⟨lw_p3, List.forall_mem_cons.mpr ⟨lw_p4, List.forall_mem_cons.mpr ⟨lw_p5, fun _ h => absurd h List.not_mem_nil⟩⟩⟩⟩⟩⟩
def lw_privs : List (MethodName × Nat) := lw_privs_1
def lw_tbl : List Cond := k2_sels lw_privs ++ tables_1
theorem lw_privs_ok : ∀ q ∈ lw_privs, lw_okq q := lw_r1
end
section
/-! ===== BEGIN words of one list among another's, by their places ===== -/
theorem goodIn_r {big : List Cond} (ws : List Cond) (ps : List Nat) (hp : ws = ps.filterMap (fun i => big[i]?)) (h : ws.all goodWord = true) : GoodIn big ws := by
  intro w hw
  have h1 := List.all_eq_true.mp h w hw
  rw [hp] at hw
  obtain ⟨i, -, hi⟩ := List.mem_filterMap.mp hw
  have hm : w ∈ big := by first | exact List.mem_of_getElem? hi | exact List.getElem?_mem hi
  exact ⟨hm, good_of_word h1⟩
theorem goodIn_app {big a b : List Cond} (ha : GoodIn big a) (hb : GoodIn big b) : GoodIn big (a ++ b) := fun w h => (List.mem_append.mp h).elim (ha w) (hb w)
theorem goodIn_ca {big a b : List Cond} {c : Cond} (ha : GoodIn big (c :: a)) (hb : GoodIn big b) : GoodIn big (c :: (a ++ b)) := fun w h => (List.mem_cons.mp h).elim (fun e => ha w (List.mem_cons.mpr (Or.inl e))) (fun h => (List.mem_append.mp h).elim (fun h => ha w (List.mem_cons.mpr (Or.inr h))) (hb w))
theorem goodIn_sub {big ws : List Cond} (hm : ∀ w ∈ ws, w ∈ big) (h : ws.all goodWord = true) : GoodIn big ws := fun w hw => ⟨hm w hw, good_of_word (List.all_eq_true.mp h w hw)⟩
/-! ===== END ===== -/

/-! ===== BEGIN exceptions that leave a method, and their catching by the caller (launches without stack traces) ===== -/
section VXA
/-! The laws vx_back, vx_callV, vx_callS, vx_callSW, vx_throw0, vx_throwS follow proofs of the library, with one case more: JvmDerived/Free/Laws.lean (Back.of_free), Shelf42/LK1.lean (callV, callS), Shelf/KitTraced.lean (throwNew0V, throwNewS). -/
/-- where a method has thrown q: the class by its name, the cell, what was written, the world -/
def vx_T (XC : String → State → State → Prop) (st : State) (q : Addr) (t : State) (mc ms : Nat) (free : Addr → Prop) : Prop :=
  ∃ (E : String) (ce : Cell) (L : List Loc), XC E st t ∧ t.heap[q]? = some ce ∧ ce.vm = .none ∧ st.vm.findClass E = some ce.cls ∧ st.WarmedH t.vm ∧ st.sameButNew ({ t with vm := st.vm } : State) L mc ms ∧ ∀ z ∈ L, free z.base
def vx_Q (Qc : Array Value → State → Outcome → State → Prop) (XC : String → State → State → Prop) (mc ms : Nat) (free : Addr → Prop) : Array Value → State → Outcome → State → Prop := fun a st o t =>
  (Qc a st o t ∧ ∃ L, FrameEnd st o t L mc ms ∧ ∀ q ∈ L, free q.base) ∨ ∃ q, o = .threw q ∧ vx_T XC st q t mc ms free
/-- a callee that returns or throws -/
def vx_Met (l : Launch) (y : MethodName) (ws : List Cond) (rm : Room) (Pc : Array Value → State → Prop) (Qc : Array Value → State → Outcome → State → Prop) (XC : String → State → State → Prop) (mc ms : Nat) (free : Addr → Prop) : Prop :=
  MetFree l y (headSpec ws rm) Pc (fun _ _ _ _ _ => True) (vx_Q Qc XC mc ms free)
def vx_Post (XC : String → State → State → Prop) (mc ms : Nat) (free : Addr → Prop) : Pt → Array Value → Addr → Pt → Prop := fun A a q B =>
  ∃ (g : JFrame) (mk : MethodId) (t : State) (L : List Loc) (E : String) (ce : Cell), B.U.heap = t.heap ∧ B.U.vm = t.vm ∧ XC E (A.U.calling g mk a) t ∧ t.heap[q]? = some ce ∧ ce.vm = .none ∧ A.U.vm.findClass E = some ce.cls ∧ B.locs = A.locs ++ L ∧ (∀ z ∈ L, free z.base) ∧ B.cells = A.cells + mc ∧ B.slots = A.slots + ms
def vx_Back (l : Launch) (R : Room) (p : Program) (e : Env) (below : List Frame) (s : State) (sargs : Array Value) (y : MethodName) (len W9 : Nat)
    (Pre : Pt → Array Value → Prop) (Post : Pt → Array Value → Option Value → Pt → Prop) (PostX : Pt → Array Value → Addr → Pt → Prop) : Prop :=
  ∀ (m : MethodId) (meth : Method) (c : Code) (A : Pt) (g : JFrame) (ig : Instr) (mk : MethodId) (a : Array Value),
    Stand p l e R s m sargs below meth c A.U A.locs A.cells A.slots → g.method = m → g.locals.size = c.maxLocals → decode c.code g.pc = .ok (ig, len) →
    2 * g.monitorRoom + (g.stack.map fun v => v.category).sum ≤ W9 → A.U.methodNamed? y = some mk → Pre A a →
    (∃ (v : Option Value) (B : Pt), Stand p l e R s m sargs below meth c B.U B.locs B.cells B.slots ∧ Post A a v B ∧
      Steps p.tables e below (doInvoke e (A.U.setTop g) [] mk a).1 (B.U.setTop { g with pc := g.pc + len, stack := v.toList ++ g.stack })) ∨
    (∃ (q : Addr) (B : Pt), Stand p l e R s m sargs below meth c B.U B.locs B.cells B.slots ∧ PostX A a q B ∧
      Steps p.tables e below (doInvoke e (A.U.setTop g) [] mk a).1 ((B.U.setTop g).pushFrame (.throwing q)))
section Payer
variable {l : Launch} {R : Room} {p : Program} {e : Env} {below : List Frame} {s : State} {sargs : Array Value} {y : MethodName} {len W9 : Nat}
theorem vx_back {ws : List Cond} {rm : Room} {Pc : Array Value → State → Prop} {Qc : Array Value → State → Outcome → State → Prop} {XC : String → State → State → Prop} {mc ms : Nat} {free : Addr → Prop} {bytes : ByteArray} {maxL : Nat} {ret : Option FieldType}
    (hM : vx_Met l y ws rm Pc Qc XC mc ms free) (hblind : FrameBlind Pc) (hrc : rm.cells = mc) (hrs : rm.slots = ms)
    (hframes : rm.frames + 1 ≤ R.frames) (hlocals : W9 + (maxL + 11) + rm.locals ≤ R.locals)
    (hws : ∀ w ∈ ws, ∀ a' U, s.WarmedH U.vm → w.before a' U = true) (hcode : Cond.code y bytes maxL ret ∈ ws) (hinit : ∀ a' U, s.WarmedH U.vm → (Cond.initialized y.cls).before a' U = true) :
    vx_Back l R p e below s sargs y len W9 (PreOf R mc ms Pc) (PostOf Qc mc ms free) (vx_Post XC mc ms free) := by
  intro m meth c A g ig mk a X hg hsize hdg hW hn hp
  have h1 : (headSpec ws rm).pre.before a A.U = true := atoms_intro fun w hw => hws w hw _ _ X.warmed
  have h2 : (Cond.code y bytes maxL ret).before a A.U = true := hws _ hcode _ _ X.warmed
  have h3 : (Cond.initialized y.cls).before a A.U = true := hinit _ _ X.warmed
  have h4 : A.cells + (headSpec ws rm).room.cells ≤ R.cells := by rw [show (headSpec ws rm).room.cells = mc from hrc]; exact hp.1
  have h5 : A.slots + (headSpec ws rm).room.slots ≤ R.slots := by rw [show (headSpec ws rm).room.slots = ms from hrs]; exact hp.2.1
  have hPc : Pc a (A.U.calling g mk a) := hblind _ _ _ _ hp.2.2
  obtain ⟨U, Ls, c0, s0⟩ := A
  dsimp only [Pt.U, Pt.locs, Pt.cells, Pt.slots] at h1 h2 h3 h4 h5 X hn hPc ⊢
  obtain ⟨methY, cY, hmY, hcY, -, hlY, -, -, -, -⟩ := Cond.code_spec hn h2
  obtain ⟨kY, hkY, -⟩ := className_of_methodNamed hn
  have hinitY : kY.init = .initialized := Cond.initialized_spec (findClass_of_methodNamed hn) hkY h3
  have h : At U g.method c below := by rw [hg]; exact X.here
  have hlocals9 : W9 + (maxL + 11) + (headSpec ws rm).room.locals ≤ R.locals := hlocals
  have happ : (headSpec ws rm).appliesLoose y e.platform (U.calling g mk a) = true :=
    Spec.appliesLoose_calling (g := g) h hdg hn hkY hinitY
      (X.room_calling (g := g) (R' := (headSpec ws rm).room) hsize hmY hcY hframes (by rw [hlY]; omega) h4 h5) h1
  obtain ⟨mid, hmid⟩ := h.above
  have hfr : (U.setTop g).frames = (.java g :: mid) ++ below := by rw [State.frames_setTop' g h.top, hmid]; rfl
  obtain ⟨o, s₂, hsteps, -, hend, hq⟩ := Steps.callFree hM p X.admits X.cas X.clock (acts := []) hfr happ hPc trivial
  have hq' : vx_Q Qc XC mc ms free a (U.calling g mk a) o s₂ := hq
  rw [State.frames_setTop' g h.top] at hend
  obtain ⟨g₀, hg0⟩ := Option.isSome_iff_exists.mp h.top
  obtain ⟨r, hr⟩ := State.topJava?_eq_some.mp hg0
  have hr' : (({ U with heap := s₂.heap, slotsUsed := s₂.slotsUsed } : State).setVm s₂.vm).frames = .java g₀ :: r := hr
  rcases hq' with ⟨hqc, L, hfe, hL⟩ | ⟨q, rfl, E, ce, L, hx, hce, hcv, hcl, hW₂, hsm, hL⟩
  · obtain ⟨⟨v, rfl⟩, hW₂, e2, q2, q3, q4, q5, q6⟩ := id hfe
    have e3 : s₂ = ({ (U.calling g mk a).setFrames s₂.frames with heap := s₂.heap, slotsUsed := s₂.slotsUsed } : State).setVm s₂.vm := by
      have : s₂ = ({ s₂ with vm := (U.calling g mk a).vm } : State).setVm s₂.vm := rfl
      rw [e2] at this
      exact this
    obtain ⟨c₂, i₂, len₂, hc₂, hd₂, hf₂⟩ := hend
    have hW' : U.WarmedH s₂.vm := hW₂
    have hcc : c₂ = c := by
      have h1 : s₂.code? g.method = U.code? g.method := by
        rw [State.code?_eq, State.code?_eq, hW'.alike.method?]
      exact Option.some.inj (hc₂.symm.trans (h1.trans h.code))
    subst hcc
    have hlen : len₂ = len := by rw [hdg] at hd₂; cases hd₂; rfl
    subst hlen
    have hs₂ : s₂ = (({ U with heap := s₂.heap, slotsUsed := s₂.slotsUsed } : State).setVm s₂.vm).setTop { g with pc := g.pc + len₂, stack := v.toList ++ g.stack } := by
      refine e3.trans ?_
      rw [hf₂, State.calling_eq h.top, State.setFrames_setFrames, State.setTop_of_frames _ hr', hr]
      rfl
    have hsame : U.sameButNew ({ U with heap := s₂.heap, slotsUsed := s₂.slotsUsed } : State) L mc ms := by
      refine ⟨?_, q2, q3, q4, q5, q6⟩
      obtain ⟨t, ht, -⟩ := State.frames_cons hr
      show ({ U with heap := s₂.heap, slotsUsed := s₂.slotsUsed } : State) = { U.setFrames U.frames with heap := s₂.heap, slotsUsed := s₂.slotsUsed }
      rw [State.setFrames_self ht]
    subst hg
    refine Or.inl ⟨v, ⟨(({ U with heap := s₂.heap, slotsUsed := s₂.slotsUsed } : State).setVm s₂.vm), Ls ++ L, c0 + mc, s0 + ms⟩,
      ⟨X.admits, X.cas, X.clock, X.frames, X.room, X.hears, X.method, X.code, (X.here.setHeapUsed s₂.heap s₂.slotsUsed).setVm hW'.alike, X.tail, State.WarmedH.trans X.warmed hW', X.limits, X.bytes, X.same.trans (hsame.setVm s.vm)⟩,
      ⟨g, mk, s₂, L, rfl, rfl, hqc, rfl, hL, rfl, rfl⟩, ?_⟩
    show Steps p.tables e below _ ((({ U with heap := s₂.heap, slotsUsed := s₂.slotsUsed } : State).setVm s₂.vm).setTop { g with pc := g.pc + len₂, stack := v.toList ++ g.stack })
    rw [← hs₂]
    exact hsteps
  · obtain ⟨e2, q2, q3, q4, q5, q6⟩ := id hsm
    have e3 : s₂ = ({ (U.calling g mk a).setFrames s₂.frames with heap := s₂.heap, slotsUsed := s₂.slotsUsed } : State).setVm s₂.vm := by
      have : s₂ = ({ s₂ with vm := (U.calling g mk a).vm } : State).setVm s₂.vm := rfl
      rw [e2] at this
      exact this
    have hf₂ : s₂.frames = .throwing q :: .java g :: U.frames.tail := hend
    have hW' : U.WarmedH s₂.vm := hW₂
    have hs₂ : s₂ = ((({ U with heap := s₂.heap, slotsUsed := s₂.slotsUsed } : State).setVm s₂.vm).setTop g).pushFrame (.throwing q) := by
      refine e3.trans ?_
      rw [hf₂, State.calling_eq h.top, State.setFrames_setFrames, State.pushFrame, State.frames_setTop _ hr', State.setTop_of_frames _ hr', State.setFrames_setFrames, hr]
      rfl
    have hsame : U.sameButNew ({ U with heap := s₂.heap, slotsUsed := s₂.slotsUsed } : State) L mc ms := by
      refine ⟨?_, q2, q3, q4, q5, q6⟩
      obtain ⟨t, ht, -⟩ := State.frames_cons hr
      show ({ U with heap := s₂.heap, slotsUsed := s₂.slotsUsed } : State) = { U.setFrames U.frames with heap := s₂.heap, slotsUsed := s₂.slotsUsed }
      rw [State.setFrames_self ht]
    subst hg
    refine Or.inr ⟨q, ⟨(({ U with heap := s₂.heap, slotsUsed := s₂.slotsUsed } : State).setVm s₂.vm), Ls ++ L, c0 + mc, s0 + ms⟩,
      ⟨X.admits, X.cas, X.clock, X.frames, X.room, X.hears, X.method, X.code, (X.here.setHeapUsed s₂.heap s₂.slotsUsed).setVm hW'.alike, X.tail, State.WarmedH.trans X.warmed hW', X.limits, X.bytes, X.same.trans (hsame.setVm s.vm)⟩,
      ⟨g, mk, s₂, L, E, ce, rfl, rfl, hx, hce, hcv, hcl, rfl, hL, rfl, rfl⟩, ?_⟩
    show Steps p.tables e below _ (((({ U with heap := s₂.heap, slotsUsed := s₂.slotsUsed } : State).setVm s₂.vm).setTop g).pushFrame (.throwing q))
    rw [← hs₂]
    exact hsteps
end Payer
section Calls
variable {p : Program} {l : Launch} {e : Env} {R : Room} {s : State} {m : MethodId} {args : Array Value} {below : List Frame} {meth : Method} {c : Code} {T : State} {locs : List Loc} {cells slots : Nat}
theorem vx_callV (X : Stand p l e R s m args below meth c T locs cells slots) (hexec : p.tables.exec = Jvm.exec) {own C : String} {index : Nat} {y : MethodName} {bytes : ByteArray} {maxL : Nat} {ret : Option FieldType}
    (hown : s.vm.findClass own = some m.cls) (hlink : (Cond.methodLink own index y).before args s = true) (hinst : (Cond.instanceMethod y).before args s = true) (hsel : (Cond.selects C y y).before args s = true)
    (hcode : (Cond.code y bytes maxL ret).before args s = true) (hy : y.cls ≠ "java/lang/invoke/MethodHandle" ∧ y.cls ≠ "java/lang/invoke/VarHandle")
    {W9 : Nat} {Pre : Pt → Array Value → Prop} {Post : Pt → Array Value → Option Value → Pt → Prop} {PostX : Pt → Array Value → Addr → Pt → Prop} (hK : vx_Back l R p e below s args y 3 W9 Pre Post PostX)
    {b : Addr} {cellB : Cell} (hcell : T.heap[b]? = some cellB) (hobj : cellB.vm.isStatics = false) (hcls : s.vm.findClass C = some cellB.cls)
    {g : JFrame} (hg : g.method = m) (hsize : g.locals.size = c.maxLocals) {argsL rest : List Value} (hlen : ∀ sig, parseMethodDescriptor y.desc = some sig → argsL.length = sig.parameters.length)
    (hstack : g.stack = argsL.reverse ++ .ref b :: rest) (hW : 2 * g.monitorRoom + (rest.map fun v => v.category).sum ≤ W9) (hdg : decode c.code g.pc = .ok (.invokevirtual index, 3))
    (hpre : ∀ vm₁, s.WarmedH vm₁ → Pre ⟨T.setVm vm₁, locs, cells, slots⟩ (Value.ref b :: argsL).toArray) :
    (∃ (v : Option Value) (vm₁ : Vm) (B : Pt), s.WarmedH vm₁ ∧ Stand p l e R s m args below meth c B.U B.locs B.cells B.slots ∧ Post ⟨T.setVm vm₁, locs, cells, slots⟩ (Value.ref b :: argsL).toArray v B ∧
      ∀ target, Steps p.tables e below (B.U.setTop { g with pc := g.pc + 3, stack := v.toList ++ rest }) target → Steps p.tables e below (T.setTop g) target) ∨
    (∃ (q : Addr) (vm₁ : Vm) (B : Pt), s.WarmedH vm₁ ∧ Stand p l e R s m args below meth c B.U B.locs B.cells B.slots ∧ PostX ⟨T.setVm vm₁, locs, cells, slots⟩ (Value.ref b :: argsL).toArray q B ∧
      Steps p.tables e below (T.setTop g) ((B.U.setTop { g with stack := rest }).pushFrame (.throwing q))) := by
  obtain ⟨mk, methM, hnamed, hmethM, hstM, habM⟩ := Cond.instanceMethod_spec hinst
  obtain ⟨methM', cM, hmethM', -, -, -, -, -, -, hsigM⟩ := Cond.code_spec hnamed hcode
  cases hmethM.symm.trans hmethM'
  obtain ⟨c2, r2, m2, q1, q2, q3, q4, kP, hkP, hkPi⟩ := Cond.selects_spec hsel
  cases hcls.symm.trans q1
  cases (State.methodFound?_of_named hnamed hy).symm.trans q2
  cases hnamed.symm.trans q3
  have hselP : selectMethod e.platform s.vm cellB.cls mk = .method mk := by rw [Launch.admits_selectMethod X.admits]; exact q4
  obtain ⟨vm₁, X₁, hstep₁⟩ := X.invokevirtual hexec hown hlink hnamed hmethM hstM hkP hkPi hy (a := b) (cell := cellB) hcell
    (fun z h => by rw [h] at hobj; cases hobj) hselP hmethM habM hkP hkPi (g := g) hg (argsL := argsL) (rest := rest) (hlen _ hsigM) hstack hdg
  rcases hK m meth c ⟨T.setVm vm₁, locs, cells, slots⟩ { g with stack := rest } (.invokevirtual index) mk (Value.ref b :: argsL).toArray X₁ hg hsize hdg hW (X₁.named hnamed) (hpre vm₁ X₁.warmed) with ⟨v, B, X', hpost, hsteps⟩ | ⟨q, B, X', hpost, hsteps⟩
  · exact Or.inl ⟨v, vm₁, B, X₁.warmed, X', hpost, fun target h => hstep₁ _ fun acts => by rw [doInvoke_state]; exact hsteps.trans h⟩
  · exact Or.inr ⟨q, vm₁, B, X₁.warmed, X', hpost, hstep₁ _ fun acts => by rw [doInvoke_state]; exact hsteps⟩
theorem vx_callS (X : Stand p l e R s m args below meth c T locs cells slots) (hexec : p.tables.exec = Jvm.exec) {own : String} {index : Nat} {y : MethodName} {bytes : ByteArray} {maxL : Nat} {ret : Option FieldType}
    (hown : s.vm.findClass own = some m.cls) (hlink : (Cond.methodLink own index y).before args s = true) (hstat : (Cond.static y).before args s = true) (hinit : (Cond.initialized y.cls).before args s = true)
    (hcode : (Cond.code y bytes maxL ret).before args s = true) (hy : y.cls ≠ "java/lang/invoke/MethodHandle" ∧ y.cls ≠ "java/lang/invoke/VarHandle")
    {W9 : Nat} {Pre : Pt → Array Value → Prop} {Post : Pt → Array Value → Option Value → Pt → Prop} {PostX : Pt → Array Value → Addr → Pt → Prop} (hK : vx_Back l R p e below s args y 3 W9 Pre Post PostX)
    {g : JFrame} (hg : g.method = m) (hsize : g.locals.size = c.maxLocals) {argsL rest : List Value} (hlen : ∀ sig, parseMethodDescriptor y.desc = some sig → argsL.length = sig.parameters.length)
    (hstack : g.stack = argsL.reverse ++ rest) (hW : 2 * g.monitorRoom + (rest.map fun v => v.category).sum ≤ W9) (hdg : decode c.code g.pc = .ok (.invokestatic index, 3))
    (hpre : ∀ vm₁, s.WarmedH vm₁ → Pre ⟨T.setVm vm₁, locs, cells, slots⟩ argsL.toArray) :
    (∃ (v : Option Value) (vm₁ : Vm) (B : Pt), s.WarmedH vm₁ ∧ Stand p l e R s m args below meth c B.U B.locs B.cells B.slots ∧ Post ⟨T.setVm vm₁, locs, cells, slots⟩ argsL.toArray v B ∧
      ∀ target, Steps p.tables e below (B.U.setTop { g with pc := g.pc + 3, stack := v.toList ++ rest }) target → Steps p.tables e below (T.setTop g) target) ∨
    (∃ (q : Addr) (vm₁ : Vm) (B : Pt), s.WarmedH vm₁ ∧ Stand p l e R s m args below meth c B.U B.locs B.cells B.slots ∧ PostX ⟨T.setVm vm₁, locs, cells, slots⟩ argsL.toArray q B ∧
      Steps p.tables e below (T.setTop g) ((B.U.setTop { g with stack := rest }).pushFrame (.throwing q))) := by
  obtain ⟨mk, hnamed⟩ := Cond.code_named hcode
  obtain ⟨methM, cM, hmethM, -, -, -, -, -, -, hsigM⟩ := Cond.code_spec hnamed hcode
  have hstatic : methM.isStatic = true := Cond.static_spec hnamed hmethM hstat
  obtain ⟨kP, hkP, -⟩ := className_of_methodNamed hnamed
  have hinitP : kP.init = .initialized := Cond.initialized_spec (findClass_of_methodNamed hnamed) hkP hinit
  obtain ⟨vm₁, X₁, hstep₁⟩ := X.invokestatic hexec hown hlink hnamed hmethM hstatic hkP hinitP hy (g := g) hg (argsL := argsL) (rest := rest) (hlen _ hsigM) hstack hdg
  rcases hK m meth c ⟨T.setVm vm₁, locs, cells, slots⟩ { g with stack := rest } (.invokestatic index) mk argsL.toArray X₁ hg hsize hdg hW (X₁.named hnamed) (hpre vm₁ X₁.warmed) with ⟨v, B, X', hpost, hsteps⟩ | ⟨q, B, X', hpost, hsteps⟩
  · exact Or.inl ⟨v, vm₁, B, X₁.warmed, X', hpost, fun target h => hstep₁ _ fun acts => by rw [doInvoke_state]; exact hsteps.trans h⟩
  · exact Or.inr ⟨q, vm₁, B, X₁.warmed, X', hpost, hstep₁ _ fun acts => by rw [doInvoke_state]; exact hsteps⟩
end Calls
theorem vx_cls {s : State} {T : State} {vm₁ : Vm} {E : String} {k : ClassId} (hW : s.WarmedH vm₁) (h : (T.setVm vm₁).vm.findClass E = some k) : s.vm.findClass E = some k := by
  have h1 : vm₁.findClass E = some k := h
  rw [hW.alike.findClass] at h1
  exact h1
/-- the method's frame g, with q thrown over it -/
def vx_W (p : Program) (l : Launch) (e : Env) (R : Room) (s : State) (m : MethodId) (args : Array Value) (below : List Frame) (meth : Method) (c : Code) (H : Heap) (locs : List Loc) (cells slots : Nat) (Q : State → Prop) (g : JFrame) (q : Addr) : Prop :=
  ∀ T : State, T.heap = H → Stand p l e R s m args below meth c T locs cells slots → ∃ t, Steps p.tables e below ((T.setTop g).pushFrame (.throwing q)) t ∧ Q t
def vx_Run (p : Program) (l : Launch) (e : Env) (R : Room) (s : State) (m : MethodId) (args : Array Value) (below : List Frame) (meth : Method) (c : Code) (H : Heap) (locs : List Loc) (cells slots mc ms : Nat) (g : JFrame) (rest : List Value) (Qa : State → Outcome → State → Prop) (XC : String → State → State → Prop) (free : Addr → Prop) : Prop :=
  ∀ T : State, T.heap = H → Stand p l e R s m args below meth c T locs cells slots →
    (∃ (v : Option Value) (st₀ t T' : State) (L : List Loc), st₀.heap = H ∧ Stand p l e R s m args below meth c T' (locs ++ L) (cells + mc) (slots + ms) ∧ (∀ q ∈ L, free q.base) ∧ T'.heap = t.heap ∧ T'.vm = t.vm ∧ Qa st₀ (.returned v) t ∧
      Goes p e below T g T' { g with pc := g.pc + 3, stack := v.toList ++ rest }) ∨
    (∃ (q : Addr) (st₀ t T' : State) (L : List Loc) (E : String) (ce : Cell), st₀.heap = H ∧ Stand p l e R s m args below meth c T' (locs ++ L) (cells + mc) (slots + ms) ∧ (∀ z ∈ L, free z.base) ∧ T'.heap = t.heap ∧ T'.vm = t.vm ∧ XC E st₀ t ∧ t.heap[q]? = some ce ∧ ce.vm = .none ∧ s.vm.findClass E = some ce.cls ∧
      Steps p.tables e below (T.setTop g) ((T'.setTop { g with stack := rest }).pushFrame (.throwing q)))
def vx_X {S : Type} (px : S → Prop) (B : String → S → State → Prop) (A : Nat → Prop) : String → State → State → Prop := fun E st t => ∃ u : S, px u ∧ B E u t ∧ va_F A st t
section Runs
variable {p : Program} {l : Launch} {e : Env} {R : Room} {s : State} {m : MethodId} {args : Array Value} {below : List Frame} {meth : Method} {c : Code} {H : Heap} {locs : List Loc} {cells slots : Nat}
variable {y : MethodName} {bytes cc : ByteArray} {maxL nL mc ms n index : Nat} {ret : Option FieldType} {ws : List Cond} {rm : Room} {Pc : Array Value → State → Prop} {Qc : Array Value → State → Outcome → State → Prop} {XC : String → State → State → Prop} {free : Addr → Prop} {Ts : List Cond} {own C : String} {b : Addr} {As rest : List Value} {g : JFrame}
theorem vx_callBack (cb : CallB R s args own index y bytes maxL ret ws rm mc ms n) (hM : vx_Met l y ws rm Pc Qc XC mc ms free) (hbl : FrameBlind Pc) : vx_Back l R p e below s args y 3 8 (PreOf R mc ms Pc) (PostOf Qc mc ms free) (vx_Post XC mc ms free) := by
  obtain ⟨hrc, hrs, hfr, hlo, hws, hcw, -, hini, -⟩ := cb
  exact vx_back (bytes := bytes) (maxL := maxL) (ret := ret) hM hbl hrc hrs hfr hlo hws hcw (fun a' U hW => word_at hW (Or.inl (by first | rfl | simp [Cond.onTables, Cond.keeps, Cond.steady])) hini)
theorem vx_runV (S : CallFix p m c cc nL s args Ts own) (hM : vx_Met l y ws rm Pc Qc XC mc ms free) (cw : CallW R s args own C index y bytes maxL ret ws rm mc ms n) (hp : PreV s H C b Pc As)
    (hg : g.method = m) (hn : As.length = n) (hsize : g.locals.size = nL) (hstack : g.stack = As.reverse ++ .ref b :: rest) (hW : 2 * g.monitorRoom + (rest.map fun v => v.category).sum ≤ 8) (hdg : decode cc g.pc = .ok (.invokevirtual index, 3)) (hf : cells + mc ≤ R.cells ∧ slots + ms ≤ R.slots) :
    vx_Run p l e R s m args below meth c H locs cells slots mc ms g rest (Qc (Value.ref b :: As).toArray) XC free := by
  have hK : vx_Back l R p e below s args y 3 8 (PreOf R mc ms Pc) (PostOf Qc mc ms free) (vx_Post XC mc ms free) := vx_callBack cw.1 hM hp.1
  obtain ⟨⟨-, -, -, -, -, -, hcode, -, hy, hlen, hl⟩, hin, hse⟩ := cw
  obtain ⟨hx, hb, hml, ho, -⟩ := S
  obtain ⟨-, ⟨cellB, hcB, hoB, hclB⟩, hPc⟩ := hp
  intro T hT X
  rcases vx_callV X hx (C := C) (bytes := bytes) (maxL := maxL) (ret := ret) ho hl hin hse hcode hy hK (by rw [hT]; exact hcB) hoB hclB hg (hsize.trans hml.symm) (argsL := As) (rest := rest) (fun sig h => hn.trans (hlen sig h)) hstack hW (by rw [hb]; exact hdg)
    (fun vm₁ hW₁ => ⟨hf.1, hf.2, hPc (T.setVm vm₁) hT hW₁⟩) with ⟨v, vm₁, ⟨U', l2, c2, s2⟩, hW₁, X', ⟨g', mk, t, L, e1, e2, hq, h1, hL, h2, h3⟩, st⟩ | ⟨q, vm₁, ⟨U', l2, c2, s2⟩, hW₁, X', ⟨g', mk, t, L, E, ce, e1, e2, hq, hce, hcv, hcl, h1, hL, h2, h3⟩, st⟩
  · dsimp only [Pt.U, Pt.locs, Pt.cells, Pt.slots] at X' e1 e2 h1 h2 h3 st
    subst h1; subst h2; subst h3
    exact Or.inl ⟨v, (T.setVm vm₁).calling g' mk (Value.ref b :: As).toArray, t, U', L, hT, X', hL, e1, e2, hq, st⟩
  · dsimp only [Pt.U, Pt.locs, Pt.cells, Pt.slots] at X' e1 e2 h1 h2 h3 st hcl
    subst h1; subst h2; subst h3
    exact Or.inr ⟨q, (T.setVm vm₁).calling g' mk (Value.ref b :: As).toArray, t, U', L, E, ce, hT, X', hL, e1, e2, hq, hce, hcv, vx_cls hW₁ hcl, st⟩
theorem vx_runS (S : CallFix p m c cc nL s args Ts own) (hM : vx_Met l y ws rm Pc Qc XC mc ms free) (cw : CallB R s args own index y bytes maxL ret ws rm mc ms n ∧ (Cond.static y).before args s = true) (hp : PreS s H Pc As)
    (hg : g.method = m) (hn : As.length = n) (hsize : g.locals.size = nL) (hstack : g.stack = As.reverse ++ rest) (hW : 2 * g.monitorRoom + (rest.map fun v => v.category).sum ≤ 8) (hdg : decode cc g.pc = .ok (.invokestatic index, 3)) (hf : cells + mc ≤ R.cells ∧ slots + ms ≤ R.slots) :
    vx_Run p l e R s m args below meth c H locs cells slots mc ms g rest (Qc As.toArray) XC free := by
  have hK : vx_Back l R p e below s args y 3 8 (PreOf R mc ms Pc) (PostOf Qc mc ms free) (vx_Post XC mc ms free) := vx_callBack cw.1 hM hp.1
  obtain ⟨⟨-, -, -, -, -, -, hcode, hini, hy, hlen, hl⟩, hstt⟩ := cw
  obtain ⟨hx, hb, hml, ho, -⟩ := S
  intro T hT X
  rcases vx_callS X hx (bytes := bytes) (maxL := maxL) (ret := ret) ho hl hstt hini hcode hy hK hg (hsize.trans hml.symm) (argsL := As) (rest := rest) (fun sig h => hn.trans (hlen sig h)) hstack hW (by rw [hb]; exact hdg)
    (fun vm₁ hW₁ => ⟨hf.1, hf.2, hp.2 (T.setVm vm₁) hT hW₁⟩) with ⟨v, vm₁, ⟨U', l2, c2, s2⟩, hW₁, X', ⟨g', mk, t, L, e1, e2, hq, h1, hL, h2, h3⟩, st⟩ | ⟨q, vm₁, ⟨U', l2, c2, s2⟩, hW₁, X', ⟨g', mk, t, L, E, ce, e1, e2, hq, hce, hcv, hcl, h1, hL, h2, h3⟩, st⟩
  · dsimp only [Pt.U, Pt.locs, Pt.cells, Pt.slots] at X' e1 e2 h1 h2 h3 st
    subst h1; subst h2; subst h3
    exact Or.inl ⟨v, (T.setVm vm₁).calling g' mk As.toArray, t, U', L, hT, X', hL, e1, e2, hq, st⟩
  · dsimp only [Pt.U, Pt.locs, Pt.cells, Pt.slots] at X' e1 e2 h1 h2 h3 st hcl
    subst h1; subst h2; subst h3
    exact Or.inr ⟨q, (T.setVm vm₁).calling g' mk As.toArray, t, U', L, E, ce, hT, X', hL, e1, e2, hq, hce, hcv, vx_cls hW₁ hcl, st⟩
end Runs
section Rows
variable {p : Program} {l : Launch} {e : Env} {R : Room} {s : State} {m : MethodId} {args : Array Value} {below : List Frame} {meth : Method} {c : Code} {H : Heap} {locs : List Loc} {cells slots : Nat} {Q : State → Prop}
variable {mc ms : Nat} {free : Addr → Prop} {A0 A1 : Nat → Prop} {H0 : Heap} {a : Array Value} {pc : Nat} {ls : Array Slot} {st0 rest : List Value}
theorem vx_keep {st₀ t T' : State} {L : List Loc} (h0 : st₀.heap = H) (e1 : T'.heap = t.heap) (hS : va_S A0 H0 H locs) (hA : ∀ q, q < H.size → A1 q → A0 q) (hf : ∀ q, free q → A0 q) (hL : ∀ q ∈ L, free q.base) (hF : va_F A1 st₀ t) :
    H.size ≤ T'.heap.size ∧ (∀ q : Nat, q < H.size → ¬ A1 q → T'.heap[q]? = H[q]?) ∧ va_S A0 H0 T'.heap (locs ++ L) := by
  obtain ⟨hz, hk⟩ := hF
  rw [h0] at hz hk
  exact ⟨by rw [e1]; exact hz, fun q h1 h2 => by rw [e1]; exact hk q h1 h2,
    ⟨Nat.le_trans hS.1 (by rw [e1]; exact hz), fun q h1 h2 => by rw [e1, hk q (Nat.lt_of_lt_of_le h1 hS.1) (fun z => h2 (hA q (Nat.lt_of_lt_of_le h1 hS.1) z))]; exact hS.2.1 q h1 h2, fun q hq => by
      rcases List.mem_append.mp hq with h | h
      · exact hS.2.2 q h
      · exact hf _ (hL q h)⟩⟩
theorem vx_calli {S SX : Type} {post : Int32 → S → Prop} {px : SX → Prop} {B : S → State → Prop} {BX : String → SX → State → Prop} {AX : Nat → Prop} (hr : vx_Run p l e R s m args below meth c H locs cells slots mc ms (F0 m pc ls st0) rest (va_Qi post B A1 a) (vx_X px BX AX) free) (hS : va_S A0 H0 H locs) (hA : ∀ q, q < H.size → A1 q → A0 q) (hf : ∀ q, free q → A0 q) (hAX : ∀ q, q < H.size → AX q → A0 q)
    (kx : ∀ (E : String) (ce : Cell) (q9 : Addr) (u : SX) (t : State) (H1 : Heap) (locs1 : List Loc), t.heap = H1 → s.vm.Alike t.vm → px u → BX E u t → H.size ≤ H1.size → (∀ q : Nat, q < H.size → ¬ AX q → H1[q]? = H[q]?) → va_S A0 H0 H1 locs1 → H1[q9]? = some ce → ce.vm = .none → s.vm.findClass E = some ce.cls → vx_W p l e R s m args below meth c H1 locs1 (cells + mc) (slots + ms) Q (F0 m pc ls rest) q9)
    (kk : ∀ (r : Int32) (u : S) (t : State) (H1 : Heap) (locs1 : List Loc), t.heap = H1 → s.vm.Alike t.vm → post r u → B u t → H.size ≤ H1.size → (∀ q : Nat, q < H.size → ¬ A1 q → H1[q]? = H[q]?) → va_S A0 H0 H1 locs1 → W p l e R s m args below meth c H1 locs1 (cells + mc) (slots + ms) Q (F0 m (pc + 3) ls (.int r :: rest))) : W p l e R s m args below meth c H locs cells slots Q (F0 m pc ls st0) := by
  intro T hT X
  rcases hr T hT X with ⟨v, st₀, t, T', L, h0, X', hL, e1, e2, ⟨⟨r, u, hv, hp, hb⟩, hF⟩, st⟩ | ⟨q, st₀, t, T', L, E, ce, h0, X', hL, e1, e2, ⟨u, hp, hb, hF⟩, hce, hcv, hcl, st⟩
  · cases hv
    obtain ⟨k1, k2, k3⟩ := vx_keep h0 e1 hS hA hf hL hF
    obtain ⟨t2, a1, b1⟩ := kk r u t T'.heap (locs ++ L) e1.symm (by rw [← e2]; exact X'.warmed.alike) hp hb k1 k2 k3 T' rfl X'
    exact ⟨t2, st t2 a1, b1⟩
  · obtain ⟨k1, k2, k3⟩ := vx_keep h0 e1 hS hAX hf hL hF
    obtain ⟨t2, a1, b1⟩ := kx E ce q u t T'.heap (locs ++ L) e1.symm (by rw [← e2]; exact X'.warmed.alike) hp hb k1 k2 k3 (by rw [e1]; exact hce) hcv hcl T' rfl X'
    exact ⟨t2, st.trans a1, b1⟩
theorem vx_calll {S SX : Type} {post : Int64 → S → Prop} {px : SX → Prop} {B : S → State → Prop} {BX : String → SX → State → Prop} {AX : Nat → Prop} (hr : vx_Run p l e R s m args below meth c H locs cells slots mc ms (F0 m pc ls st0) rest (va_Ql post B A1 a) (vx_X px BX AX) free) (hS : va_S A0 H0 H locs) (hA : ∀ q, q < H.size → A1 q → A0 q) (hf : ∀ q, free q → A0 q) (hAX : ∀ q, q < H.size → AX q → A0 q)
    (kx : ∀ (E : String) (ce : Cell) (q9 : Addr) (u : SX) (t : State) (H1 : Heap) (locs1 : List Loc), t.heap = H1 → s.vm.Alike t.vm → px u → BX E u t → H.size ≤ H1.size → (∀ q : Nat, q < H.size → ¬ AX q → H1[q]? = H[q]?) → va_S A0 H0 H1 locs1 → H1[q9]? = some ce → ce.vm = .none → s.vm.findClass E = some ce.cls → vx_W p l e R s m args below meth c H1 locs1 (cells + mc) (slots + ms) Q (F0 m pc ls rest) q9)
    (kk : ∀ (r : Int64) (u : S) (t : State) (H1 : Heap) (locs1 : List Loc), t.heap = H1 → s.vm.Alike t.vm → post r u → B u t → H.size ≤ H1.size → (∀ q : Nat, q < H.size → ¬ A1 q → H1[q]? = H[q]?) → va_S A0 H0 H1 locs1 → W p l e R s m args below meth c H1 locs1 (cells + mc) (slots + ms) Q (F0 m (pc + 3) ls (.long r :: rest))) : W p l e R s m args below meth c H locs cells slots Q (F0 m pc ls st0) := by
  intro T hT X
  rcases hr T hT X with ⟨v, st₀, t, T', L, h0, X', hL, e1, e2, ⟨⟨r, u, hv, hp, hb⟩, hF⟩, st⟩ | ⟨q, st₀, t, T', L, E, ce, h0, X', hL, e1, e2, ⟨u, hp, hb, hF⟩, hce, hcv, hcl, st⟩
  · cases hv
    obtain ⟨k1, k2, k3⟩ := vx_keep h0 e1 hS hA hf hL hF
    obtain ⟨t2, a1, b1⟩ := kk r u t T'.heap (locs ++ L) e1.symm (by rw [← e2]; exact X'.warmed.alike) hp hb k1 k2 k3 T' rfl X'
    exact ⟨t2, st t2 a1, b1⟩
  · obtain ⟨k1, k2, k3⟩ := vx_keep h0 e1 hS hAX hf hL hF
    obtain ⟨t2, a1, b1⟩ := kx E ce q u t T'.heap (locs ++ L) e1.symm (by rw [← e2]; exact X'.warmed.alike) hp hb k1 k2 k3 (by rw [e1]; exact hce) hcv hcl T' rfl X'
    exact ⟨t2, st.trans a1, b1⟩
theorem vx_callf {S SX : Type} {post : UInt32 → S → Prop} {px : SX → Prop} {B : S → State → Prop} {BX : String → SX → State → Prop} {AX : Nat → Prop} (hr : vx_Run p l e R s m args below meth c H locs cells slots mc ms (F0 m pc ls st0) rest (va_Qf post B A1 a) (vx_X px BX AX) free) (hS : va_S A0 H0 H locs) (hA : ∀ q, q < H.size → A1 q → A0 q) (hf : ∀ q, free q → A0 q) (hAX : ∀ q, q < H.size → AX q → A0 q)
    (kx : ∀ (E : String) (ce : Cell) (q9 : Addr) (u : SX) (t : State) (H1 : Heap) (locs1 : List Loc), t.heap = H1 → s.vm.Alike t.vm → px u → BX E u t → H.size ≤ H1.size → (∀ q : Nat, q < H.size → ¬ AX q → H1[q]? = H[q]?) → va_S A0 H0 H1 locs1 → H1[q9]? = some ce → ce.vm = .none → s.vm.findClass E = some ce.cls → vx_W p l e R s m args below meth c H1 locs1 (cells + mc) (slots + ms) Q (F0 m pc ls rest) q9)
    (kk : ∀ (r : UInt32) (u : S) (t : State) (H1 : Heap) (locs1 : List Loc), t.heap = H1 → s.vm.Alike t.vm → post r u → B u t → H.size ≤ H1.size → (∀ q : Nat, q < H.size → ¬ A1 q → H1[q]? = H[q]?) → va_S A0 H0 H1 locs1 → W p l e R s m args below meth c H1 locs1 (cells + mc) (slots + ms) Q (F0 m (pc + 3) ls (.float r :: rest))) : W p l e R s m args below meth c H locs cells slots Q (F0 m pc ls st0) := by
  intro T hT X
  rcases hr T hT X with ⟨v, st₀, t, T', L, h0, X', hL, e1, e2, ⟨⟨r, u, hv, hp, hb⟩, hF⟩, st⟩ | ⟨q, st₀, t, T', L, E, ce, h0, X', hL, e1, e2, ⟨u, hp, hb, hF⟩, hce, hcv, hcl, st⟩
  · cases hv
    obtain ⟨k1, k2, k3⟩ := vx_keep h0 e1 hS hA hf hL hF
    obtain ⟨t2, a1, b1⟩ := kk r u t T'.heap (locs ++ L) e1.symm (by rw [← e2]; exact X'.warmed.alike) hp hb k1 k2 k3 T' rfl X'
    exact ⟨t2, st t2 a1, b1⟩
  · obtain ⟨k1, k2, k3⟩ := vx_keep h0 e1 hS hAX hf hL hF
    obtain ⟨t2, a1, b1⟩ := kx E ce q u t T'.heap (locs ++ L) e1.symm (by rw [← e2]; exact X'.warmed.alike) hp hb k1 k2 k3 (by rw [e1]; exact hce) hcv hcl T' rfl X'
    exact ⟨t2, st.trans a1, b1⟩
theorem vx_calld {S SX : Type} {post : UInt64 → S → Prop} {px : SX → Prop} {B : S → State → Prop} {BX : String → SX → State → Prop} {AX : Nat → Prop} (hr : vx_Run p l e R s m args below meth c H locs cells slots mc ms (F0 m pc ls st0) rest (va_Qd post B A1 a) (vx_X px BX AX) free) (hS : va_S A0 H0 H locs) (hA : ∀ q, q < H.size → A1 q → A0 q) (hf : ∀ q, free q → A0 q) (hAX : ∀ q, q < H.size → AX q → A0 q)
    (kx : ∀ (E : String) (ce : Cell) (q9 : Addr) (u : SX) (t : State) (H1 : Heap) (locs1 : List Loc), t.heap = H1 → s.vm.Alike t.vm → px u → BX E u t → H.size ≤ H1.size → (∀ q : Nat, q < H.size → ¬ AX q → H1[q]? = H[q]?) → va_S A0 H0 H1 locs1 → H1[q9]? = some ce → ce.vm = .none → s.vm.findClass E = some ce.cls → vx_W p l e R s m args below meth c H1 locs1 (cells + mc) (slots + ms) Q (F0 m pc ls rest) q9)
    (kk : ∀ (r : UInt64) (u : S) (t : State) (H1 : Heap) (locs1 : List Loc), t.heap = H1 → s.vm.Alike t.vm → post r u → B u t → H.size ≤ H1.size → (∀ q : Nat, q < H.size → ¬ A1 q → H1[q]? = H[q]?) → va_S A0 H0 H1 locs1 → W p l e R s m args below meth c H1 locs1 (cells + mc) (slots + ms) Q (F0 m (pc + 3) ls (.double r :: rest))) : W p l e R s m args below meth c H locs cells slots Q (F0 m pc ls st0) := by
  intro T hT X
  rcases hr T hT X with ⟨v, st₀, t, T', L, h0, X', hL, e1, e2, ⟨⟨r, u, hv, hp, hb⟩, hF⟩, st⟩ | ⟨q, st₀, t, T', L, E, ce, h0, X', hL, e1, e2, ⟨u, hp, hb, hF⟩, hce, hcv, hcl, st⟩
  · cases hv
    obtain ⟨k1, k2, k3⟩ := vx_keep h0 e1 hS hA hf hL hF
    obtain ⟨t2, a1, b1⟩ := kk r u t T'.heap (locs ++ L) e1.symm (by rw [← e2]; exact X'.warmed.alike) hp hb k1 k2 k3 T' rfl X'
    exact ⟨t2, st t2 a1, b1⟩
  · obtain ⟨k1, k2, k3⟩ := vx_keep h0 e1 hS hAX hf hL hF
    obtain ⟨t2, a1, b1⟩ := kx E ce q u t T'.heap (locs ++ L) e1.symm (by rw [← e2]; exact X'.warmed.alike) hp hb k1 k2 k3 (by rw [e1]; exact hce) hcv hcl T' rfl X'
    exact ⟨t2, st.trans a1, b1⟩
theorem vx_callv {S SX : Type} {post : S → Prop} {px : SX → Prop} {B : S → State → Prop} {BX : String → SX → State → Prop} {AX : Nat → Prop} (hr : vx_Run p l e R s m args below meth c H locs cells slots mc ms (F0 m pc ls st0) rest (va_Qv post B A1 a) (vx_X px BX AX) free) (hS : va_S A0 H0 H locs) (hA : ∀ q, q < H.size → A1 q → A0 q) (hf : ∀ q, free q → A0 q) (hAX : ∀ q, q < H.size → AX q → A0 q)
    (kx : ∀ (E : String) (ce : Cell) (q9 : Addr) (u : SX) (t : State) (H1 : Heap) (locs1 : List Loc), t.heap = H1 → s.vm.Alike t.vm → px u → BX E u t → H.size ≤ H1.size → (∀ q : Nat, q < H.size → ¬ AX q → H1[q]? = H[q]?) → va_S A0 H0 H1 locs1 → H1[q9]? = some ce → ce.vm = .none → s.vm.findClass E = some ce.cls → vx_W p l e R s m args below meth c H1 locs1 (cells + mc) (slots + ms) Q (F0 m pc ls rest) q9)
    (kk : ∀ (u : S) (t : State) (H1 : Heap) (locs1 : List Loc), t.heap = H1 → s.vm.Alike t.vm → post u → B u t → H.size ≤ H1.size → (∀ q : Nat, q < H.size → ¬ A1 q → H1[q]? = H[q]?) → va_S A0 H0 H1 locs1 → W p l e R s m args below meth c H1 locs1 (cells + mc) (slots + ms) Q (F0 m (pc + 3) ls (rest))) : W p l e R s m args below meth c H locs cells slots Q (F0 m pc ls st0) := by
  intro T hT X
  rcases hr T hT X with ⟨v, st₀, t, T', L, h0, X', hL, e1, e2, ⟨⟨u, hv, hp, hb⟩, hF⟩, st⟩ | ⟨q, st₀, t, T', L, E, ce, h0, X', hL, e1, e2, ⟨u, hp, hb, hF⟩, hce, hcv, hcl, st⟩
  · cases hv
    obtain ⟨k1, k2, k3⟩ := vx_keep h0 e1 hS hA hf hL hF
    obtain ⟨t2, a1, b1⟩ := kk u t T'.heap (locs ++ L) e1.symm (by rw [← e2]; exact X'.warmed.alike) hp hb k1 k2 k3 T' rfl X'
    exact ⟨t2, st t2 a1, b1⟩
  · obtain ⟨k1, k2, k3⟩ := vx_keep h0 e1 hS hAX hf hL hF
    obtain ⟨t2, a1, b1⟩ := kx E ce q u t T'.heap (locs ++ L) e1.symm (by rw [← e2]; exact X'.warmed.alike) hp hb k1 k2 k3 (by rw [e1]; exact hce) hcv hcl T' rfl X'
    exact ⟨t2, st.trans a1, b1⟩
/-- caught by the row x of this method's table; the rows ahead don't take it -/
theorem vx_catch {own name : String} {E : String} {ce : Cell} {q : Addr} (hown : s.vm.findClass own = some m.cls) (pre : List ExceptionTableEntry) (x : ExceptionTableEntry) (suf : List ExceptionTableEntry) (hsplit : c.exceptionTable.toList = pre ++ x :: suf)
    (hpass : ∀ z ∈ pre, covers z pc = false ∨ (z.catchType ≠ 0 ∧ ∃ nm : String, (Cond.classLink own z.catchType nm).before args s = true ∧ va_Nc E nm s)) (hx : covers x pc = true) (h0 : x.catchType ≠ 0)
    (hlink : (Cond.classLink own x.catchType name).before args s = true) (hcast : (Cond.castable E name).before args s = true) (hcell : H[q]? = some ce) (hv : ce.vm = .none) (hcl : s.vm.findClass E = some ce.cls)
    (kk : W p l e R s m args below meth c H locs cells slots Q (F0 m x.handlerPc ls [.ref q])) : vx_W p l e R s m args below meth c H locs cells slots Q (F0 m pc ls rest) q := by
  intro T hT X
  have hpl : e.platform.magicAccessors = ({} : Platform).magicAccessors := by rw [X.admits.platform]
  obtain ⟨c3, c4, hc3, hc4, hasg⟩ := Cond.castable_spec hcast
  cases Option.some.inj (hc3.symm.trans hcl)
  obtain ⟨c5, hc5, hcl5⟩ := Cond.classLink_spec hown hlink e.platform hpl
  cases Option.some.inj (hc4.symm.trans hc5)
  obtain ⟨vm', X', st⟩ := X.thenCaughtThrough q (g := F0 m pc ls rest) rfl (Steps.refl _) (by rw [hT]; exact hcell) (by rw [hv]; rfl) (by obtain ⟨k9, h9, -⟩ := Vm.findClass_spec hcl; exact ⟨k9, h9⟩) pre x suf hsplit
    (fun z hz => by
      rcases hpass z hz with h | ⟨hz0, nm, hl1, hn1⟩
      · exact Or.inl h
      · obtain ⟨c6, hc6, hcl6⟩ := Cond.classLink_spec hown hl1 e.platform hpl
        obtain ⟨a8, b8, h1, h2, h3⟩ := hn1
        cases Option.some.inj (h1.symm.trans hcl)
        cases Option.some.inj (h2.symm.trans hc6)
        exact Or.inr ⟨hz0, _, hcl6, h3⟩) hx (Or.inr ⟨h0, c4, hcl5, hasg⟩)
  obtain ⟨t, a1, b1⟩ := kk (T.setVm vm') hT X'
  exact ⟨t, st.trans a1, b1⟩
end Rows
section Ends
variable {p : Program} {l : Launch} {e : Env} {R : Room} {s : State} {m : MethodId} {args : Array Value} {below : List Frame} {meth : Method} {c : Code} {H : Heap} {locs : List Loc} {cells slots : Nat} {Q : State → Prop}
variable {mc ms : Nat} {free : Addr → Prop} {A0 A1 : Nat → Prop} {H0 : Heap} {a : Array Value} {ls : Array Slot} {st0 rest : List Value}
variable {Qc : Array Value → State → Outcome → State → Prop} {XC : String → State → State → Prop}
/-- what a body that may throw owes at its end -/
def vx_MQ (below : List Frame) (Qc : Array Value → State → Outcome → State → Prop) (XC : String → State → State → Prop) (a : Array Value) (s : State) (mc ms : Nat) (free : Addr → Prop) : State → Prop := fun t =>
  ∃ o, t.status = .running ∧ Ended t below o ∧ vx_Q Qc XC mc ms free a s o t
theorem vx_ret {g : JFrame} {mc ms : Nat} (k : W p l e R s m args below meth c H locs cells slots (MQ below Qc args s mc ms free) g) : W p l e R s m args below meth c H locs cells slots (vx_MQ below Qc XC args s mc ms free) g := by
  intro T hT X
  obtain ⟨t, a1, o, b1, b2, b3, b4⟩ := k T hT X
  exact ⟨t, a1, o, b1, b2, Or.inl ⟨b3, b4⟩⟩
/-- not caught here: it goes on to the caller -/
theorem vx_widen {g : JFrame} {q : Addr} {k n : Nat} (h1 : cells ≤ k) (h2 : slots ≤ n) (kk : vx_W p l e R s m args below meth c H locs k n Q g q) : vx_W p l e R s m args below meth c H locs cells slots Q g q := fun T hT X => kk T hT (stand_widen X h1 h2)
theorem vx_out {pc : Nat} {E : String} {ce : Cell} {q : Addr} {mc ms : Nat} (hout : ∀ x ∈ c.exceptionTable.toList, covers x pc = false) (hlocks : meth.locks = false) (hcell : H[q]? = some ce) (hv : ce.vm = .none) (hcl : s.vm.findClass E = some ce.cls)
    (hx : ∀ t : State, t.heap = H → s.vm.Alike t.vm → XC E s t) (hf : ∀ z ∈ locs, free z.base) (hc : cells ≤ mc) (hs : slots ≤ ms) :
    vx_W p l e R s m args below meth c H locs cells slots (vx_MQ below Qc XC args s mc ms free) (F0 m pc ls rest) q := by
  intro T hT X
  obtain ⟨st1, hrun, hend, hW, hsm⟩ := X.leaveThrown q (g := F0 m pc ls rest) rfl rfl rfl hout hlocks
  have hcell9 : (T.setFrames (.throwing q :: below)).heap[q]? = some ce := by
    show T.heap[q]? = some ce
    rw [hT]; exact hcell
  exact ⟨_, st1, .threw q, hrun, hend, Or.inr ⟨q, rfl, E, ce, locs, hx _ hT hW.alike, hcell9, hv, hcl, hW, hsm.mono hc hs, hf⟩⟩
theorem vx_frame {U : State} {k n : Nat} (h : s.sameButNew ({ U with vm := s.vm } : State) locs k n) : s.heap.size ≤ U.heap.size ∧ ∀ q : Nat, q < s.heap.size → (∀ z ∈ locs, z.base ≠ q) → U.heap[q]? = s.heap[q]? := by
  obtain ⟨-, h2, -, -, -, h6⟩ := h
  refine ⟨h2, fun q hq hz => ?_⟩
  obtain ⟨c9, e1, e2, e3, e4⟩ := h6 q _ (Array.getElem?_eq_getElem hq)
  have hs : c9.slots = (s.heap[q]).slots := Array.ext_getElem? fun i => e4 i fun hm => hz _ hm rfl
  have h9 : c9 = s.heap[q] := by
    rw [hs] at e2
    exact e2
  have e5 : U.heap[q]? = some c9 := e1
  rw [e5, h9, Array.getElem?_eq_getElem hq]
/-- the words of a throw but the four that speak of the heap -/
def vx_no (w : Cond) : Bool := decide (w ≠ .isRef (.static Bundle.tN "UNASSIGNED_STACK" Bundle.steD)) && decide (w ≠ .isRef (.static Bundle.tN "SUPPRESSED_SENTINEL" Bundle.listD)) && decide (w ≠ .laysStatic Bundle.tN "UNASSIGNED_STACK" Bundle.steD) && decide (w ≠ .laysStatic Bundle.tN "SUPPRESSED_SENTINEL" Bundle.listD)
def vx_at0 (own : String) (ic : Nat) (X : String) (names : List String) : List Cond := (Bundle.ownAtoms0 own ic X names).filter vx_no
def vx_atS (own : String) (ic : Nat) (X : String) (names : List String) : List Cond := (Bundle.ownAtoms own ic X names).filter vx_no
/-- a word that the tables alone decide, or a good one -/
def vx_ot (w : Cond) : Bool := w.onTables || goodWord w
theorem vx_ot_at {args a' : Array Value} {s U : State} {w : Cond} (hW : s.WarmedH U.vm) (hvm : s.vm = U.vm) (hg : vx_ot w = true) (h : w.before args s = true) : w.before a' U = true := by
  simp only [vx_ot, Bool.or_eq_true] at hg
  rcases hg with hg | hg
  · exact va_tabs hg hvm h
  · exact word_at hW (good_of_word hg) h
/-- a list's words: the good ones out of the method's own list, the others by premises of their own -/
theorem vx_hat {args : Array Value} {s : State} {L B : List Cond} (h1 : ∀ w ∈ L.filter goodWord, w.before args s = true) (h2 : ∀ w ∈ L.filter (fun w => !goodWord w), w ∈ B) (h3 : ∀ w ∈ B, w.before args s = true) : ∀ w ∈ L, w.before args s = true := by
  intro w hw
  by_cases g : goodWord w = true
  · exact h1 w (List.mem_filter.mpr ⟨hw, g⟩)
  · refine h3 w (h2 w (List.mem_filter.mpr ⟨hw, ?_⟩))
    show (!goodWord w) = true
    cases hgw : goodWord w
    · rfl
    · exact absurd hgw g
theorem vx_c {args : Array Value} {s : State} {w : Cond} {B : List Cond} (h : w.before args s = true) (t : ∀ w ∈ B, w.before args s = true) : ∀ w' ∈ w :: B, w'.before args s = true := fun w' h' => (List.mem_cons.mp h').elim (fun e => by rw [e]; exact h) (t w')
theorem vx_n {args : Array Value} {s : State} : ∀ w ∈ ([] : List Cond), w.before args s = true := fun _ h => nomatch h
theorem vx_own {args : Array Value} {s : State} {L : List Cond} (h1 : ∀ w ∈ L.filter vx_no, w.before args s = true)
    (hU : (Cond.isRef (.static Bundle.tN "UNASSIGNED_STACK" Bundle.steD)).before args s = true) (hN : (Cond.isRef (.static Bundle.tN "SUPPRESSED_SENTINEL" Bundle.listD)).before args s = true)
    (lU : (Cond.laysStatic Bundle.tN "UNASSIGNED_STACK" Bundle.steD).before args s = true) (lN : (Cond.laysStatic Bundle.tN "SUPPRESSED_SENTINEL" Bundle.listD).before args s = true) : ∀ w ∈ L, w.before args s = true := by
  intro w hw
  by_cases e1 : w = .isRef (.static Bundle.tN "UNASSIGNED_STACK" Bundle.steD)
  · rw [e1]; exact hU
  · by_cases e2 : w = .isRef (.static Bundle.tN "SUPPRESSED_SENTINEL" Bundle.listD)
    · rw [e2]; exact hN
    · by_cases e3 : w = .laysStatic Bundle.tN "UNASSIGNED_STACK" Bundle.steD
      · rw [e3]; exact lU
      · by_cases e4 : w = .laysStatic Bundle.tN "SUPPRESSED_SENTINEL" Bundle.listD
        · rw [e4]; exact lN
        · exact h1 w (List.mem_filter.mpr ⟨hw, by unfold vx_no; rw [decide_eq_true e1, decide_eq_true e2, decide_eq_true e3, decide_eq_true e4]; rfl⟩)
/-- where a static field lies, its class's statics cell in H -/
def vx_L (C n d : String) (A : Nat → Prop) (U : State) (H : Heap) : Prop := ∃ (c : ClassId) (k : Class) (i : Nat) (f : Field) (a : Nat) (cell : Cell), U.vm.findClass C = some c ∧ U.fieldFound? C n d = some (c, k, i, f) ∧ f.isStatic = true ∧ k.statics = some a ∧ H[a]? = some cell ∧ cell.vm.isStatics = true ∧ cell.cls = c ∧ f.slot < cell.slots.size ∧ k.staticTypes[f.slot]? = some f.type ∧ ¬ A a
theorem vx_L.moved {C n d : String} {A : Nat → Prop} {u U : State} {H : Heap} (hvm : u.vm.Alike U.vm) (h : vx_L C n d A u H) : vx_L C n d A U H := by
  obtain ⟨c, k, i, f, a, cell, h1, h2, h3, h4, h5, h6, h7, h8, h9, h10⟩ := h
  obtain ⟨k', hi', he⟩ := State.fieldFound?_setVm hvm h2
  exact ⟨c, k', i, f, a, cell, by rw [hvm.findClass]; exact h1, hi', h3, by rw [he]; exact h4, h5, h6, h7, h8, by rw [he]; exact h9, h10⟩
theorem vx_L.kept {C n d : String} {A : Nat → Prop} {U : State} {H H1 : Heap} (h : vx_L C n d A U H) (hq : ∀ a : Nat, a < H.size → ¬ A a → H1[a]? = H[a]?) : vx_L C n d A U H1 := by
  obtain ⟨c, k, i, f, a, cell, h1, h2, h3, h4, h5, h6, h7, h8, h9, h10⟩ := h
  exact ⟨c, k, i, f, a, cell, h1, h2, h3, h4, by rw [hq a (Array.getElem?_eq_some_iff.mp h5).1 h10]; exact h5, h6, h7, h8, h9, h10⟩
theorem vx_L.narrow {C n d : String} {A B : Nat → Prop} {U : State} {H : Heap} (h : vx_L C n d A U H) (hAB : ∀ q, B q → A q) : vx_L C n d B U H := by
  obtain ⟨c, k, i, f, a, cell, h1, h2, h3, h4, h5, h6, h7, h8, h9, h10⟩ := h
  exact ⟨c, k, i, f, a, cell, h1, h2, h3, h4, h5, h6, h7, h8, h9, fun z => h10 (hAB _ z)⟩
theorem vx_L.word {C n d : String} {A : Nat → Prop} {s : State} {args : Array Value} (h : vx_L C n d A s s.heap) : (Cond.laysStatic C n d).before args s = true := by
  obtain ⟨c, k, i, f, a, cell, h1, h2, h3, h4, h5, h6, h7, h8, h9, -⟩ := h
  show (Cond.laysStatic C n d).holds args s none s [] = true
  exact Cond.laysStatic_of h1 h2 h3 h4 h5 h6 h7 h8 h9
/-- .. and what it holds: null or some reference -/
def vx_Zq (C n d : String) (A : Nat → Prop) (U : State) (H : Heap) : Prop := va_Zq C n d A U H ∧ vx_L C n d A U H
theorem vx_Zq.moved {C n d : String} {A : Nat → Prop} {u U : State} {H : Heap} (hvm : u.vm.Alike U.vm) (h : vx_Zq C n d A u H) : vx_Zq C n d A U H := ⟨va_Zq.moved hvm h.1, vx_L.moved hvm h.2⟩
theorem vx_Zq.kept {C n d : String} {A : Nat → Prop} {U : State} {H H1 : Heap} (h : vx_Zq C n d A U H) (hq : ∀ a : Nat, a < H.size → ¬ A a → H1[a]? = H[a]?) : vx_Zq C n d A U H1 := ⟨va_Zq.kept h.1 hq, vx_L.kept h.2 hq⟩
theorem vx_Zq.narrow {C n d : String} {A B : Nat → Prop} {U : State} {H : Heap} (h : vx_Zq C n d A U H) (hAB : ∀ q, B q → A q) : vx_Zq C n d B U H := ⟨va_Zq.narrow h.1 hAB, vx_L.narrow h.2 hAB⟩
theorem vx_Zqof {args : Array Value} {s : State} {C n d : String} {A : Nat → Prop} (hl : (Cond.laysStatic C n d).before args s = true) (hini : (Cond.initialized C).before args s = true) (h : (Cond.isRef (.static C n d)).before args s = true) (hA : ∀ a : Nat, a < s.heap.size → ¬ A a) : vx_Zq C n d A s s.heap := by
  refine ⟨va_Zqof hl hini h hA, ?_⟩
  obtain ⟨c, k, i, f, a, cell, h1, h2, h3, h4, h5, h6, h7, h8, h9⟩ := Cond.laysStatic_spec hl
  exact ⟨c, k, i, f, a, cell, h1, h2, h3, h4, h5, h6, h7, h8, h9, hA a (Array.getElem?_eq_some_iff.mp h5).1⟩
theorem vx_isRef {C n d : String} {v : Value} {A : Nat → Prop} {s : State} {args : Array Value} (h : va_Z C n d v A s s.heap) (hv : v.isRef = true) : (Cond.isRef (.static C n d)).before args s = true := by
  obtain ⟨cf, kf, fi, f, a, cell, h1, h2, h3, h4, h5, h6, h7, -⟩ := h
  have he : (Term.static C n d).eval args s none [] s = some v := by
    simp [Term.eval, State.fieldNamed?, h1, h2, h4, h5, h6, h7]
  simp only [Cond.before, Cond.holds, Cond.value, he]
  cases v <;> simp_all [Value.isRef]
theorem vx_isRefq {C n d : String} {A : Nat → Prop} {s : State} {args : Array Value} (h : va_Zq C n d A s s.heap) : (Cond.isRef (.static C n d)).before args s = true := by
  rcases h with h | ⟨t, h⟩
  · exact vx_isRef h rfl
  · exact vx_isRef h rfl
/-- the same frame, seen from here: as if the method were called anew in this heap -/
theorem vx_rebase {T : State} (X : Stand p l e R s m args below meth c T locs cells slots) {R' : Room} (hf : R'.frames ≤ R.frames) (hl : R'.locals ≤ R.locals) (hc : cells + R'.cells ≤ R.cells) (hs : slots + R'.slots ≤ R.slots) :
    Stand p l e R' ((T.setVm s.vm).setFrames (.invoking m args :: below)) m args below meth c T [] 0 0 := by
  have htop : (T.setVm s.vm).topJava?.isSome := X.here.top
  have hF : ((T.setVm s.vm).setFrames (.invoking m args :: below)).frames = .invoking m args :: below := State.frames_setFrames _ (State.cur_lt_of_top htop)
  obtain ⟨g₀, hg0⟩ := Option.isSome_iff_exists.mp htop
  obtain ⟨r, hr⟩ := State.topJava?_eq_some.mp hg0
  have hl9 : e.platform.stackLimits (T.setVm s.vm).me = e.platform.stackLimits s.me := X.limits
  have hb9 : (T.setVm s.vm).me.stackBytes = s.me.stackBytes := X.bytes
  refine ⟨X.admits, X.cas, X.clock, hF, ?_, X.hears, X.method, X.code, X.here, X.tail, X.warmed, ?_, ?_, ?_⟩
  · have h := X.room
    have hU : ((T.setVm s.vm).setFrames (.invoking m args :: below)).localsInUse = s.localsInUse := by
      rw [State.localsInUse_invoking hF (meth := meth) (c := c) X.method X.code, State.localsInUse_invoking X.frames X.method X.code]
    simp only [State.hasRoom, Bool.and_eq_true, decide_eq_true_eq] at h ⊢
    obtain ⟨⟨⟨⟨h1, h2, h3, h4, h5, h6⟩, h7⟩, h8⟩, h9⟩ := h
    rw [X.frames, List.length_cons] at h2 h3
    have q1 := X.heapSize
    have q2 := X.used
    simp only [hF, hU, List.length_cons, State.stackLimits_setFrames, State.stackBytes_setFrames, hl9, hb9]
    refine ⟨⟨⟨⟨by omega, by omega, by omega, by omega, by omega, h6⟩, ?_⟩, ?_⟩, X.book⟩
    · show T.heap.size + R'.cells ≤ e.platform.maxCells
      omega
    · show T.slotsUsed + R'.slots ≤ e.platform.maxSlots
      omega
  · rw [State.stackLimits_setFrames]; rfl
  · rw [State.stackBytes_setFrames]; rfl
  · refine ⟨?_, Nat.le_refl _, Nat.le_refl _, ?_, ?_, fun a c9 h9 => ⟨c9, h9, rfl, rfl, fun _ _ => rfl⟩⟩
    · obtain ⟨t, ht, -⟩ := State.frames_cons hr
      show T.setVm s.vm = { ((T.setVm s.vm).setFrames (.invoking m args :: below)).setFrames (T.setVm s.vm).frames with heap := T.heap, slotsUsed := T.slotsUsed }
      rw [State.setFrames_setFrames, State.setFrames_self ht]
      rfl
    · show T.slotsUsed = T.slotsUsed + ((T.heap.toList.drop T.heap.size).map (·.slots.size)).sum
      rw [List.drop_eq_nil_of_le (Nat.le_of_eq Array.length_toList)]
      rfl
    · show ((T.heap.toList.drop T.heap.size).map (·.slots.size)).sum ≤ 0
      rw [List.drop_eq_nil_of_le (Nat.le_of_eq Array.length_toList)]
      exact Nat.le_refl _
/-- 'throw new E()': new; dup; invokespecial; athrow -/
theorem vx_throw0 {cc : ByteArray} {pc : Nat} (hexec : p.tables.exec = Jvm.exec) (hb : c.code = cc) (hl : l.stackTraces = false) {own cls : String} {names : List String} {ik ic mc ms : Nat} {A : Nat → Prop}
    (hown : s.vm.findClass own = some m.cls) (hcls : Bundle.fit cls = true) (hnames : ∀ n ∈ names, Bundle.fit n = true)
    (hk : (Cond.classLink own ik cls).before args s = true) (hini : (Cond.initialized cls).before args s = true) (hat : ∀ w ∈ vx_at0 own ic cls names, w.before args s = true)
    (hgood : ∀ w ∈ Cond.classLink own ik cls :: Cond.initialized cls :: vx_at0 own ic cls names, vx_ot w = true)
    (hU : vx_Zq Bundle.tN "UNASSIGNED_STACK" Bundle.steD A s s.heap) (hN : vx_Zq Bundle.tN "SUPPRESSED_SENTINEL" Bundle.listD A s s.heap) (hS : va_S A s.heap H locs) (hsize : ls.size = c.maxLocals)
    (d0 : decode cc pc = .ok (.new ik, 3)) (d3 : decode cc (pc + 3) = .ok (.dup, 1)) (d4 : decode cc (pc + 4) = .ok (.invokespecial ic, 3)) (d7 : decode cc (pc + 7) = .ok (.athrow, 1))
    (hout : ∀ x ∈ c.exceptionTable.toList, covers x (pc + 7) = false)
    (hRframes : names.length + 3 < R.frames) (hRlocals : (rest.map fun v => v.category).sum + (13 * (names.length + 1) + 42) ≤ R.locals) (hRcells : cells + 1 ≤ R.cells) (hRslots : slots + 6 ≤ R.slots) (hlocks : meth.locks = false)
    (hx : ∀ t : State, s.vm.Alike t.vm → H.size ≤ t.heap.size → (∀ q : Nat, q < H.size → t.heap[q]? = H[q]?) → XC cls s t)
    (hf : ∀ z ∈ locs, free z.base) (hc : cells + 1 ≤ mc) (hs : slots + 6 ≤ ms) :
    W p l e R s m args below meth c H locs cells slots (vx_MQ below Qc XC args s mc ms free) (F0 m pc ls rest) := by
  intro T hT X
  have htr : e.platform.stackTraces = false := (show e.platform.stackTraces = l.stackTraces by rw [X.admits.platform]).trans hl
  have Y := vx_rebase X (R' := { frames := R.frames, locals := R.locals, cells := 1, slots := 6 }) (Nat.le_refl _) (Nat.le_refl _) hRcells hRslots
  obtain ⟨s', hA⟩ : ∃ z, z = (T.setVm s.vm).setFrames (.invoking m args :: below) := ⟨_, rfl⟩
  rw [← hA] at Y
  have hvm : s'.vm = s.vm := by rw [hA]; rfl
  have hhp : s'.heap = H := by rw [hA]; exact hT
  have hW0 : s.WarmedH s'.vm := by rw [hvm]; exact State.WarmedH.refl s
  have hat' : ∀ w ∈ vx_at0 own ic cls names, w.before args s' = true := fun w hw => vx_ot_at hW0 hvm.symm (hgood w (List.mem_cons_of_mem _ (List.mem_cons_of_mem _ hw))) (hat w hw)
  have hk' : (Cond.classLink own ik cls).before args s' = true := vx_ot_at hW0 hvm.symm (hgood _ List.mem_cons_self) hk
  have hini' : (Cond.initialized cls).before args s' = true := vx_ot_at hW0 hvm.symm (hgood _ (List.mem_cons_of_mem _ List.mem_cons_self)) hini
  have hU' : vx_Zq Bundle.tN "UNASSIGNED_STACK" Bundle.steD A s' s'.heap := by rw [hhp]; exact vx_Zq.moved hW0.alike (hU.kept hS.2.1)
  have hN' : vx_Zq Bundle.tN "SUPPRESSED_SENTINEL" Bundle.listD A s' s'.heap := by rw [hhp]; exact vx_Zq.moved hW0.alike (hN.kept hS.2.1)
  have h : ∀ w ∈ Bundle.ownAtoms0 own ic cls names, w.before args s' = true := vx_own hat' (vx_isRefq hU'.1) (vx_isRefq hN'.1) hU'.2.word hN'.2.word
  have hown' : s'.vm.findClass own = some m.cls := by rw [hvm]; exact hown
  have hins : (Cond.instantiable cls 6).before args s' = true := h _ (by simp [Bundle.ownAtoms0])
  obtain ⟨vm₁, cX, kX, hfX, hkX, -, -, X₁, st1⟩ := Y.newCold hexec (own := own) (C := cls) (index := ik) (n := 6) hown' hk' hins hini'
    (g := F0 m pc ls rest) rfl (by rw [hb]; exact d0) (Nat.le_refl _) (Nat.le_refl _)
  generalize hT1 : (T.setVm vm₁).pushCell { cls := cX, slots := kX.instanceTypes.map defaultValue, vm := .none } = T1 at X₁ st1
  have hcat : (Value.ref T.heap.size).category = 1 := rfl
  have hcellA : T1.heap[T.heap.size]? = some (freshCell cX kX) := by rw [← hT1]; exact State.heap_pushCell_size _ _
  have d3' : decode c.code (pc + 3) = .ok (.dup, 1) := by rw [hb]; exact d3
  obtain ⟨U, hsteps, hrun, hend, hW, hsame, ce, hce, hO⟩ := X₁.ctorThrow0 hexec htr (own := own) (cls := cls) (names := names) (ic := ic) hown' hcls hnames h (fun x hx => nomatch hx) hfX hkX hcellA (by rw [hhp, hT]; exact Nat.le_refl _)
    (g := { method := m, pc := pc + 4, locals := ls, stack := .ref T.heap.size :: .ref T.heap.size :: rest, locked := none }) rfl hsize rfl rfl (rest := rest) rfl
    (by rw [hb]; exact d4) (by rw [hb]; exact d7) hout hRframes (by simp only [List.map_cons, List.sum_cons, hcat]; omega) hlocks
  obtain ⟨f1, f2⟩ := vx_frame hsame
  rw [hhp] at f1 f2
  have hWs : s.WarmedH U.vm := State.WarmedH.trans hW0 hW
  have hcl : s.vm.findClass cls = some ce.cls := by
    have h9 := hO.cls
    rw [hvm] at h9
    exact h9
  have hall : s.sameButNew ({ U with vm := s.vm } : State) locs mc ms := by
    subst hA
    obtain ⟨e1, e2⟩ := hsame
    rw [State.setFrames_setFrames] at e1
    have h2 : (T.setVm s.vm).sameButNew ({ U with vm := s.vm } : State) [] (0 + 1) (0 + 6) := ⟨e1, e2⟩
    have h3 := X.same.trans h2
    rw [List.append_nil] at h3
    exact h3.mono hc hs
  refine ⟨U, ?_, .threw T.heap.size, hrun, hend, Or.inr ⟨T.heap.size, rfl, cls, ce, locs, hx U hWs.alike f1 (fun q hq => f2 q hq (fun z hz => nomatch hz)), hce, hO.vm, hcl, hWs, hall, hf⟩⟩
  refine st1 _ ?_
  show Steps p.tables e below (T1.setTop { method := m, pc := pc + 3, locals := ls, stack := .ref T.heap.size :: rest, locked := none }) _
  jvm_step X₁.here [X₁.here.top, hexec, d3', Value.category]
  exact hsteps
/-- 'throw new E("text")': new; dup; ldc; invokespecial; athrow -/
theorem vx_throwS {cc : ByteArray} {pc : Nat} (hexec : p.tables.exec = Jvm.exec) (hb : c.code = cc) (hl : l.stackTraces = false) {own cls text : String} {names : List String} {ik is ic mc ms sa : Nat} {A : Nat → Prop}
    (hown : s.vm.findClass own = some m.cls) (hcls : Bundle.fit cls = true) (hnames : ∀ n ∈ names, Bundle.fit n = true)
    (hk : (Cond.classLink own ik cls).before args s = true) (hini : (Cond.initialized cls).before args s = true) (hstr : vk_R own is text sa s) (hat : ∀ w ∈ vx_atS own ic cls names, w.before args s = true)
    (hgood : ∀ w ∈ Cond.classLink own ik cls :: Cond.initialized cls :: vx_atS own ic cls names, vx_ot w = true)
    (hU : vx_Zq Bundle.tN "UNASSIGNED_STACK" Bundle.steD A s s.heap) (hN : vx_Zq Bundle.tN "SUPPRESSED_SENTINEL" Bundle.listD A s s.heap) (hS : va_S A s.heap H locs) (hsize : ls.size = c.maxLocals)
    (d0 : decode cc pc = .ok (.new ik, 3)) (d3 : decode cc (pc + 3) = .ok (.dup, 1)) (d4 : decode cc (pc + 4) = .ok (.ldc is, 2)) (d6 : decode cc (pc + 6) = .ok (.invokespecial ic, 3)) (d9 : decode cc (pc + 9) = .ok (.athrow, 1))
    (hout : ∀ x ∈ c.exceptionTable.toList, covers x (pc + 9) = false)
    (hRframes : names.length + 3 < R.frames) (hRlocals : (rest.map fun v => v.category).sum + (13 * (names.length + 1) + 43) ≤ R.locals) (hRcells : cells + 1 ≤ R.cells) (hRslots : slots + 6 ≤ R.slots) (hlocks : meth.locks = false)
    (hx : ∀ t : State, s.vm.Alike t.vm → H.size ≤ t.heap.size → (∀ q : Nat, q < H.size → t.heap[q]? = H[q]?) → XC cls s t)
    (hf : ∀ z ∈ locs, free z.base) (hc : cells + 1 ≤ mc) (hs : slots + 6 ≤ ms) :
    W p l e R s m args below meth c H locs cells slots (vx_MQ below Qc XC args s mc ms free) (F0 m pc ls rest) := by
  intro T hT X
  have htr : e.platform.stackTraces = false := (show e.platform.stackTraces = l.stackTraces by rw [X.admits.platform]).trans hl
  have Y := vx_rebase X (R' := { frames := R.frames, locals := R.locals, cells := 1, slots := 6 }) (Nat.le_refl _) (Nat.le_refl _) hRcells hRslots
  obtain ⟨s', hA⟩ : ∃ z, z = (T.setVm s.vm).setFrames (.invoking m args :: below) := ⟨_, rfl⟩
  rw [← hA] at Y
  have hvm : s'.vm = s.vm := by rw [hA]; rfl
  have hhp : s'.heap = H := by rw [hA]; exact hT
  have hW0 : s.WarmedH s'.vm := by rw [hvm]; exact State.WarmedH.refl s
  have hat' : ∀ w ∈ vx_atS own ic cls names, w.before args s' = true := fun w hw => vx_ot_at hW0 hvm.symm (hgood w (List.mem_cons_of_mem _ (List.mem_cons_of_mem _ hw))) (hat w hw)
  have hk' : (Cond.classLink own ik cls).before args s' = true := vx_ot_at hW0 hvm.symm (hgood _ List.mem_cons_self) hk
  have hini' : (Cond.initialized cls).before args s' = true := vx_ot_at hW0 hvm.symm (hgood _ (List.mem_cons_of_mem _ List.mem_cons_self)) hini
  have hU' : vx_Zq Bundle.tN "UNASSIGNED_STACK" Bundle.steD A s' s'.heap := by rw [hhp]; exact vx_Zq.moved hW0.alike (hU.kept hS.2.1)
  have hN' : vx_Zq Bundle.tN "SUPPRESSED_SENTINEL" Bundle.listD A s' s'.heap := by rw [hhp]; exact vx_Zq.moved hW0.alike (hN.kept hS.2.1)
  have h : ∀ w ∈ Bundle.ownAtoms own ic cls names, w.before args s' = true := vx_own hat' (vx_isRefq hU'.1) (vx_isRefq hN'.1) hU'.2.word hN'.2.word
  have hown' : s'.vm.findClass own = some m.cls := by rw [hvm]; exact hown
  have hins : (Cond.instantiable cls 6).before args s' = true := h _ (by simp [Bundle.ownAtoms])
  obtain ⟨vm₁, cX, kX, hfX, hkX, -, -, X₁, st1⟩ := Y.newCold hexec (own := own) (C := cls) (index := ik) (n := 6) hown' hk' hins hini'
    (g := F0 m pc ls rest) rfl (by rw [hb]; exact d0) (Nat.le_refl _) (Nat.le_refl _)
  generalize hT1 : (T.setVm vm₁).pushCell { cls := cX, slots := kX.instanceTypes.map defaultValue, vm := .none } = T1 at X₁ st1
  have hcat : (Value.ref T.heap.size).category = 1 := rfl
  have hcellA : T1.heap[T.heap.size]? = some (freshCell cX kX) := by rw [← hT1]; exact State.heap_pushCell_size _ _
  have d3' : decode c.code (pc + 3) = .ok (.dup, 1) := by rw [hb]; exact d3
  have d4' : decode c.code (pc + 4) = .ok (.ldc is, 2) := by rw [hb]; exact d4
  have hstr' : vk_R own is text sa s' := vk_R.warm hW0 hstr
  obtain ⟨U, hsteps, hrun, hend, hW, hsame, ce, hce, hO⟩ := X₁.ctorThrowS hexec htr (own := own) (cls := cls) (names := names) (ic := ic) hown' hcls hnames h (fun x hx => nomatch hx) hfX hkX hcellA (by rw [hhp, hT]; exact Nat.le_refl _) (msg := .ref sa) rfl
    (g := { method := m, pc := pc + 6, locals := ls, stack := .ref sa :: .ref T.heap.size :: .ref T.heap.size :: rest, locked := none }) rfl hsize rfl rfl (rest := rest) rfl
    (by rw [hb]; exact d6) (by rw [hb]; exact d9) hout hRframes (by simp only [List.map_cons, List.sum_cons, hcat]; omega) hlocks
  obtain ⟨f1, f2⟩ := vx_frame hsame
  rw [hhp] at f1 f2
  have hWs : s.WarmedH U.vm := State.WarmedH.trans hW0 hW
  have hcl : s.vm.findClass cls = some ce.cls := by
    have h9 := hO.cls
    rw [hvm] at h9
    exact h9
  have hall : s.sameButNew ({ U with vm := s.vm } : State) locs mc ms := by
    subst hA
    obtain ⟨e1, e2⟩ := hsame
    rw [State.setFrames_setFrames] at e1
    have h2 : (T.setVm s.vm).sameButNew ({ U with vm := s.vm } : State) [] (0 + 1) (0 + 6) := ⟨e1, e2⟩
    have h3 := X.same.trans h2
    rw [List.append_nil] at h3
    exact h3.mono hc hs
  refine ⟨U, ?_, .threw T.heap.size, hrun, hend, Or.inr ⟨T.heap.size, rfl, cls, ce, locs, hx U hWs.alike f1 (fun q hq => f2 q hq (fun z hz => nomatch hz)), hce, hO.vm, hcl, hWs, hall, hf⟩⟩
  refine st1 _ ?_
  show Steps p.tables e below (T1.setTop { method := m, pc := pc + 3, locals := ls, stack := .ref T.heap.size :: rest, locked := none }) _
  jvm_step X₁.here [X₁.here.top, hexec, d3', Value.category]
  exact X₁.ldcString hexec (own := own) (text := text) (index := is) (a := sa) hown' hstr'.1 hstr'.2
    (g := { method := m, pc := pc + 4, locals := ls, stack := .ref T.heap.size :: .ref T.heap.size :: rest, locked := none }) rfl d4' _ hsteps
/-- 'throw new E("text")', the text by a wide index -/
theorem vx_throwSW {cc : ByteArray} {pc : Nat} (hexec : p.tables.exec = Jvm.exec) (hb : c.code = cc) (hl : l.stackTraces = false) {own cls text : String} {names : List String} {ik is ic mc ms sa : Nat} {A : Nat → Prop}
    (hown : s.vm.findClass own = some m.cls) (hcls : Bundle.fit cls = true) (hnames : ∀ n ∈ names, Bundle.fit n = true)
    (hk : (Cond.classLink own ik cls).before args s = true) (hini : (Cond.initialized cls).before args s = true) (hstr : vk_R own is text sa s) (hat : ∀ w ∈ vx_atS own ic cls names, w.before args s = true)
    (hgood : ∀ w ∈ Cond.classLink own ik cls :: Cond.initialized cls :: vx_atS own ic cls names, vx_ot w = true)
    (hU : vx_Zq Bundle.tN "UNASSIGNED_STACK" Bundle.steD A s s.heap) (hN : vx_Zq Bundle.tN "SUPPRESSED_SENTINEL" Bundle.listD A s s.heap) (hS : va_S A s.heap H locs) (hsize : ls.size = c.maxLocals)
    (d0 : decode cc pc = .ok (.new ik, 3)) (d3 : decode cc (pc + 3) = .ok (.dup, 1)) (d4 : decode cc (pc + 4) = .ok (.ldc_w is, 3)) (d7 : decode cc (pc + 7) = .ok (.invokespecial ic, 3)) (d10 : decode cc (pc + 10) = .ok (.athrow, 1))
    (hout : ∀ x ∈ c.exceptionTable.toList, covers x (pc + 10) = false)
    (hRframes : names.length + 3 < R.frames) (hRlocals : (rest.map fun v => v.category).sum + (13 * (names.length + 1) + 43) ≤ R.locals) (hRcells : cells + 1 ≤ R.cells) (hRslots : slots + 6 ≤ R.slots) (hlocks : meth.locks = false)
    (hx : ∀ t : State, s.vm.Alike t.vm → H.size ≤ t.heap.size → (∀ q : Nat, q < H.size → t.heap[q]? = H[q]?) → XC cls s t)
    (hf : ∀ z ∈ locs, free z.base) (hc : cells + 1 ≤ mc) (hs : slots + 6 ≤ ms) :
    W p l e R s m args below meth c H locs cells slots (vx_MQ below Qc XC args s mc ms free) (F0 m pc ls rest) := by
  intro T hT X
  have htr : e.platform.stackTraces = false := (show e.platform.stackTraces = l.stackTraces by rw [X.admits.platform]).trans hl
  have Y := vx_rebase X (R' := { frames := R.frames, locals := R.locals, cells := 1, slots := 6 }) (Nat.le_refl _) (Nat.le_refl _) hRcells hRslots
  obtain ⟨s', hA⟩ : ∃ z, z = (T.setVm s.vm).setFrames (.invoking m args :: below) := ⟨_, rfl⟩
  rw [← hA] at Y
  have hvm : s'.vm = s.vm := by rw [hA]; rfl
  have hhp : s'.heap = H := by rw [hA]; exact hT
  have hW0 : s.WarmedH s'.vm := by rw [hvm]; exact State.WarmedH.refl s
  have hat' : ∀ w ∈ vx_atS own ic cls names, w.before args s' = true := fun w hw => vx_ot_at hW0 hvm.symm (hgood w (List.mem_cons_of_mem _ (List.mem_cons_of_mem _ hw))) (hat w hw)
  have hk' : (Cond.classLink own ik cls).before args s' = true := vx_ot_at hW0 hvm.symm (hgood _ List.mem_cons_self) hk
  have hini' : (Cond.initialized cls).before args s' = true := vx_ot_at hW0 hvm.symm (hgood _ (List.mem_cons_of_mem _ List.mem_cons_self)) hini
  have hU' : vx_Zq Bundle.tN "UNASSIGNED_STACK" Bundle.steD A s' s'.heap := by rw [hhp]; exact vx_Zq.moved hW0.alike (hU.kept hS.2.1)
  have hN' : vx_Zq Bundle.tN "SUPPRESSED_SENTINEL" Bundle.listD A s' s'.heap := by rw [hhp]; exact vx_Zq.moved hW0.alike (hN.kept hS.2.1)
  have h : ∀ w ∈ Bundle.ownAtoms own ic cls names, w.before args s' = true := vx_own hat' (vx_isRefq hU'.1) (vx_isRefq hN'.1) hU'.2.word hN'.2.word
  have hown' : s'.vm.findClass own = some m.cls := by rw [hvm]; exact hown
  have hins : (Cond.instantiable cls 6).before args s' = true := h _ (by simp [Bundle.ownAtoms])
  obtain ⟨vm₁, cX, kX, hfX, hkX, -, -, X₁, st1⟩ := Y.newCold hexec (own := own) (C := cls) (index := ik) (n := 6) hown' hk' hins hini'
    (g := F0 m pc ls rest) rfl (by rw [hb]; exact d0) (Nat.le_refl _) (Nat.le_refl _)
  generalize hT1 : (T.setVm vm₁).pushCell { cls := cX, slots := kX.instanceTypes.map defaultValue, vm := .none } = T1 at X₁ st1
  have hcat : (Value.ref T.heap.size).category = 1 := rfl
  have hcellA : T1.heap[T.heap.size]? = some (freshCell cX kX) := by rw [← hT1]; exact State.heap_pushCell_size _ _
  have d3' : decode c.code (pc + 3) = .ok (.dup, 1) := by rw [hb]; exact d3
  have d4' : decode c.code (pc + 4) = .ok (.ldc_w is, 3) := by rw [hb]; exact d4
  have hstr' : vk_R own is text sa s' := vk_R.warm hW0 hstr
  obtain ⟨U, hsteps, hrun, hend, hW, hsame, ce, hce, hO⟩ := X₁.ctorThrowS hexec htr (own := own) (cls := cls) (names := names) (ic := ic) hown' hcls hnames h (fun x hx => nomatch hx) hfX hkX hcellA (by rw [hhp, hT]; exact Nat.le_refl _) (msg := .ref sa) rfl
    (g := { method := m, pc := pc + 7, locals := ls, stack := .ref sa :: .ref T.heap.size :: .ref T.heap.size :: rest, locked := none }) rfl hsize rfl rfl (rest := rest) rfl
    (by rw [hb]; exact d7) (by rw [hb]; exact d10) hout hRframes (by simp only [List.map_cons, List.sum_cons, hcat]; omega) hlocks
  obtain ⟨f1, f2⟩ := vx_frame hsame
  rw [hhp] at f1 f2
  have hWs : s.WarmedH U.vm := State.WarmedH.trans hW0 hW
  have hcl : s.vm.findClass cls = some ce.cls := by
    have h9 := hO.cls
    rw [hvm] at h9
    exact h9
  have hall : s.sameButNew ({ U with vm := s.vm } : State) locs mc ms := by
    subst hA
    obtain ⟨e1, e2⟩ := hsame
    rw [State.setFrames_setFrames] at e1
    have h2 : (T.setVm s.vm).sameButNew ({ U with vm := s.vm } : State) [] (0 + 1) (0 + 6) := ⟨e1, e2⟩
    have h3 := X.same.trans h2
    rw [List.append_nil] at h3
    exact h3.mono hc hs
  refine ⟨U, ?_, .threw T.heap.size, hrun, hend, Or.inr ⟨T.heap.size, rfl, cls, ce, locs, hx U hWs.alike f1 (fun q hq => f2 q hq (fun z hz => nomatch hz)), hce, hO.vm, hcl, hWs, hall, hf⟩⟩
  refine st1 _ ?_
  show Steps p.tables e below (T1.setTop { method := m, pc := pc + 3, locals := ls, stack := .ref T.heap.size :: rest, locked := none }) _
  jvm_step X₁.here [X₁.here.top, hexec, d3', Value.category]
  exact X₁.ldcStringW hexec (own := own) (text := text) (index := is) (a := sa) hown' hstr'.1 hstr'.2
    (g := { method := m, pc := pc + 4, locals := ls, stack := .ref T.heap.size :: .ref T.heap.size :: rest, locked := none }) rfl d4' _ hsteps
end Ends
section Bodies
variable {l : Launch}
theorem vx_ofW {y : MethodName} {ws ws' : List Cond} {rm : Room} {Pc : Array Value → State → Prop} {Qc : Array Value → State → Outcome → State → Prop} {XC : String → State → State → Prop} {mc ms : Nat} {free : Addr → Prop} {cc : ByteArray} {maxL : Nat} {ret : Option FieldType}
    (hy : plainName y.cls = true) (hw : ws = Cond.code y cc maxL ret :: ws')
    (body : ∀ p e s m args below meth c s₁, BodyLoose p l y (headSpec ws rm) cc maxL ret e s m args below meth c s₁ → c.maxLocals = maxL → (∀ x ∈ c.exceptionTable.toList, False) → Pc args s →
      W p l e (headSpec ws rm).room s m args below meth c s.heap [] 0 0 (vx_MQ below Qc XC args s mc ms free) (entryFrame m args maxL)) : vx_Met l y ws rm Pc Qc XC mc ms free := by
  refine MetFree.of_bodyS (code := cc) (maxLocals := maxL) (ret := ret) hy ?_ ?_
  · intro args s m h hn
    obtain ⟨meth, c, h1, h2, h3, h4, h5, h6, -, -⟩ := Cond.code_spec hn (atoms_spec (ws := ws) h _ (by rw [hw]; exact List.mem_cons_self))
    exact ⟨meth, c, h1, h2, h3, h4, h5, h6⟩
  · intro p e s m args below meth c s₁ B hml hP _
    have hh0 : s₁.heap = s.heap := by rw [B.state]; rfl
    have ht : ∀ x ∈ c.exceptionTable.toList, False := by
      obtain ⟨meth9, c9, h1, h2, -, -, -, -, h7, -⟩ := Cond.code_spec B.named (atoms_spec (ws := ws) B.pre _ (by rw [hw]; exact List.mem_cons_self))
      cases Option.some.inj (h1.symm.trans B.method)
      cases Option.some.inj (h2.symm.trans (Stand.of_body B).code)
      intro x hx
      rw [Array.isEmpty_iff.mp h7] at hx
      cases hx
    obtain ⟨t, a1, o, b1, b2, b3⟩ := body p e s m args below meth c s₁ B hml ht hP s₁ hh0 (Stand.of_body B)
    exact ⟨t, o, a1, b1, b2, b3⟩
/-- the table of a body with handlers -/
theorem vx_table {p : Program} {x y : MethodName} {S : Spec} {cc bytes : ByteArray} {maxL maxL' : Nat} {ret ret' : Option FieldType} {e : Env} {s s₁ : State} {m : MethodId} {args : Array Value} {below : List Frame} {meth : Method} {c : Code} {hh : List (Nat × Nat × Nat × Nat)}
    (B : BodyLoose p l y S cc maxL ret e s m args below meth c s₁) (h : (Cond.codeWith y bytes maxL' ret' hh).before args s = true) : c.exceptionTable.toList = tableOf hh := by
  obtain ⟨m9, meth9, c9, hn9, h1, h2, -, -, h6, -⟩ := Cond.codeWith_spec h
  cases Option.some.inj (hn9.symm.trans B.named)
  cases Option.some.inj (h1.symm.trans B.method)
  cases Option.some.inj (h2.symm.trans (Stand.of_body B).code)
  rw [← h6, table_eq]
end Bodies
end VXA
/-! ===== END ===== -/
/-! ===== BEGIN a static call of a method with an exception table ===== -/
section VXS
variable {p : Program} {l : Launch} {e : Env} {R : Room} {s : State} {m : MethodId} {args : Array Value} {below : List Frame} {meth : Method} {c : Code} {T : State} {H : Heap} {locs : List Loc} {cells slots : Nat}
abbrev vx_CSW (R : Room) (s : State) (args : Array Value) (own : String) (index : Nat) (y : MethodName) (bytes : ByteArray) (maxL : Nat) (ret : Option FieldType) (hh : List (Nat × Nat × Nat × Nat)) (ws : List Cond) (rm : Room) (mc ms n : Nat) : Prop :=
  (rm.cells = mc ∧ rm.slots = ms ∧ rm.frames + 1 ≤ R.frames ∧ 8 + (maxL + 11) + rm.locals ≤ R.locals ∧ (∀ w ∈ ws, ∀ (a' : Array Value) (U : State), s.WarmedH U.vm → w.before a' U = true) ∧ Cond.codeWith y bytes maxL ret hh ∈ ws) ∧
  (Cond.codeWith y bytes maxL ret hh).before args s = true ∧ (Cond.initialized y.cls).before args s = true ∧ (y.cls ≠ "java/lang/invoke/MethodHandle" ∧ y.cls ≠ "java/lang/invoke/VarHandle") ∧
  (∀ sig, parseMethodDescriptor y.desc = some sig → n = sig.parameters.length) ∧ (Cond.methodLink own index y).before args s = true ∧ (Cond.static y).before args s = true
theorem vx_cwSW {own : String} {index maxL mc ms : Nat} {y : MethodName} {bytes : ByteArray} {ret : Option FieldType} {hh : List (Nat × Nat × Nat × Nat)} {Ts ws ws' : List Cond} {rm : Room} (n : Nat) (ht : ∀ w ∈ Ts, w.before args s = true) (hT : GoodIn Ts (va_wsS own index y ws)) (hw : ws = Cond.codeWith y bytes maxL ret hh :: ws') (hrc : rm.cells = mc) (hrs : rm.slots = ms)
    (hd : y.cls ≠ "java/lang/invoke/MethodHandle" ∧ y.cls ≠ "java/lang/invoke/VarHandle" ∧ (parseMethodDescriptor y.desc).map (fun d => d.parameters.length) = some n) (hR : rm.frames + 1 ≤ R.frames ∧ 8 + (maxL + 11) + rm.locals ≤ R.locals) :
    vx_CSW R s args own index y bytes maxL ret hh ws rm mc ms n := by
  have ok : ∀ w ∈ va_wsS own index y ws, w.before args s = true := fun w h => ht w (hT w h).1
  have hG : GoodIn Ts ws := fun w h => hT w (by unfold va_wsS; exact List.mem_append_right _ h)
  have hc : Cond.codeWith y bytes maxL ret hh ∈ ws := by rw [hw]; exact List.mem_cons_self
  refine ⟨⟨hrc, hrs, hR.1, hR.2, pay_in ht hG, hc⟩, ht _ (hG _ hc).1, ok _ (by simp [va_wsS]), ⟨hd.1, hd.2.1⟩, fun sig h => ?_, ok _ (by simp [va_wsS]), ok _ (by simp [va_wsS])⟩
  have h2 := hd.2.2
  rw [h] at h2
  exact (Option.some.inj h2).symm
theorem vx_callSW (X : Stand p l e R s m args below meth c T locs cells slots) (hexec : p.tables.exec = Jvm.exec) {own : String} {index : Nat} {y : MethodName} {bytes : ByteArray} {maxL : Nat} {ret : Option FieldType} {hh : List (Nat × Nat × Nat × Nat)}
    (hown : s.vm.findClass own = some m.cls) (hlink : (Cond.methodLink own index y).before args s = true) (hstat : (Cond.static y).before args s = true) (hinit : (Cond.initialized y.cls).before args s = true)
    (hcode : (Cond.codeWith y bytes maxL ret hh).before args s = true) (hy : y.cls ≠ "java/lang/invoke/MethodHandle" ∧ y.cls ≠ "java/lang/invoke/VarHandle")
    {W9 : Nat} {Pre : Pt → Array Value → Prop} {Post : Pt → Array Value → Option Value → Pt → Prop} (hK : Back l R p e below s args y 3 W9 Pre Post)
    {g : JFrame} (hg : g.method = m) (hsize : g.locals.size = c.maxLocals) {argsL rest : List Value} (hlen : ∀ sig, parseMethodDescriptor y.desc = some sig → argsL.length = sig.parameters.length)
    (hstack : g.stack = argsL.reverse ++ rest) (hW : 2 * g.monitorRoom + (rest.map fun v => v.category).sum ≤ W9) (hdg : decode c.code g.pc = .ok (.invokestatic index, 3))
    (hpre : ∀ vm₁, s.WarmedH vm₁ → Pre ⟨T.setVm vm₁, locs, cells, slots⟩ argsL.toArray) :
    ∃ (v : Option Value) (vm₁ : Vm) (B : Pt), s.WarmedH vm₁ ∧ Stand p l e R s m args below meth c B.U B.locs B.cells B.slots ∧ Post ⟨T.setVm vm₁, locs, cells, slots⟩ argsL.toArray v B ∧
      ∀ target, Steps p.tables e below (B.U.setTop { g with pc := g.pc + 3, stack := v.toList ++ rest }) target → Steps p.tables e below (T.setTop g) target := by
  obtain ⟨mk, methM, cM, hnamed, hmethM, -, -, -, -, -, -, hsigM⟩ := Cond.codeWith_spec hcode
  have hstatic : methM.isStatic = true := Cond.static_spec hnamed hmethM hstat
  obtain ⟨kP, hkP, -⟩ := className_of_methodNamed hnamed
  have hinitP : kP.init = .initialized := Cond.initialized_spec (findClass_of_methodNamed hnamed) hkP hinit
  obtain ⟨vm₁, X₁, hstep₁⟩ := X.invokestatic hexec hown hlink hnamed hmethM hstatic hkP hinitP hy (g := g) hg (argsL := argsL) (rest := rest) (hlen _ hsigM) hstack hdg
  obtain ⟨v, B, X', hpost, hsteps⟩ := hK m meth c ⟨T.setVm vm₁, locs, cells, slots⟩ { g with stack := rest } (.invokestatic index) mk argsL.toArray X₁ hg hsize hdg hW (X₁.named hnamed) (hpre vm₁ X₁.warmed)
  exact ⟨v, vm₁, B, X₁.warmed, X', hpost, fun target h => hstep₁ _ fun acts => by rw [doInvoke_state]; exact hsteps.trans h⟩
theorem vx_runSW {y : MethodName} {bytes cc : ByteArray} {maxL nL mc ms n index : Nat} {ret : Option FieldType} {hh : List (Nat × Nat × Nat × Nat)} {ws : List Cond} {rm : Room} {Pc : Array Value → State → Prop} {Qc : Array Value → State → Outcome → State → Prop} {free : Addr → Prop} {Ts : List Cond} {own : String} {As rest : List Value} {g : JFrame}
    (S : CallFix p m c cc nL s args Ts own) (hM : Met l y ws rm Pc Qc mc ms free) (cw : vx_CSW R s args own index y bytes maxL ret hh ws rm mc ms n) (hp : PreS s H Pc As)
    (hg : g.method = m) (hn : As.length = n) (hsize : g.locals.size = nL) (hstack : g.stack = As.reverse ++ rest) (hW : 2 * g.monitorRoom + (rest.map fun v => v.category).sum ≤ 8) (hdg : decode cc g.pc = .ok (.invokestatic index, 3)) (hf : cells + mc ≤ R.cells ∧ slots + ms ≤ R.slots) :
    va_Run p l e R s m args below meth c H locs cells slots mc ms g rest (Qc As.toArray) (free) := by
  obtain ⟨⟨hrc, hrs, hfr, hlo, hws, hcw⟩, hcode, hini, hy, hlen, hl, hstt⟩ := cw
  have hK : Back l R p e below s args y 3 8 (PreOf R mc ms Pc) (PostOf Qc mc ms free) := va_backW (hh := hh) (bytes := bytes) (maxL := maxL) (ret := ret) hM hp.1 hrc hrs hfr hlo hws hcw (fun a' U hW => word_at hW (Or.inl (by first | rfl | simp [Cond.onTables, Cond.keeps, Cond.steady])) hini)
  obtain ⟨hx, hb, hml, ho, -⟩ := S
  intro T hT X
  obtain ⟨v, vm₁, ⟨U', l2, c2, s2⟩, hW₁, X', ⟨g', mk, t, L, e1, e2, hq, h1, hL, h2, h3⟩, st⟩ := vx_callSW X hx (hh := hh) (bytes := bytes) (maxL := maxL) (ret := ret) ho hl hstt hini hcode hy hK hg (hsize.trans hml.symm) (argsL := As) (rest := rest) (fun sig h => hn.trans (hlen sig h)) hstack hW (by rw [hb]; exact hdg)
    (fun vm₁ hW₁ => ⟨hf.1, hf.2, hp.2 (T.setVm vm₁) hT hW₁⟩)
  dsimp only [Pt.U, Pt.locs, Pt.cells, Pt.slots] at X' e1 e2 h1 h2 h3 st
  subst h1; subst h2; subst h3
  exact ⟨v, (T.setVm vm₁).calling g' mk As.toArray, t, U', L, hT, X', hL, e1, e2, hq, st⟩
/-- not caught here, past rows that name other classes: it goes on to the caller -/
theorem vx_outP {p : Program} {l : Launch} {e : Env} {R : Room} {s : State} {m : MethodId} {args : Array Value} {below : List Frame} {meth : Method} {c : Code} {H : Heap} {locs : List Loc} {cells slots : Nat} {free : Addr → Prop} {ls : Array Slot} {rest : List Value} {Qc : Array Value → State → Outcome → State → Prop} {XC : String → State → State → Prop}
    {pc : Nat} {own E : String} {ce : Cell} {q : Addr} {mc ms : Nat} (hown : s.vm.findClass own = some m.cls) (hlocks : meth.locks = false)
    (hpass : ∀ z ∈ c.exceptionTable.toList, covers z pc = false ∨ (z.catchType ≠ 0 ∧ ∃ nm : String, (Cond.classLink own z.catchType nm).before args s = true ∧ va_Nc E nm s)) (hcell : H[q]? = some ce) (hv : ce.vm = .none) (hcl : s.vm.findClass E = some ce.cls)
    (hx : ∀ t : State, t.heap = H → s.vm.Alike t.vm → XC E s t) (hf : ∀ z ∈ locs, free z.base) (hc : cells ≤ mc) (hs : slots ≤ ms) :
    vx_W p l e R s m args below meth c H locs cells slots (vx_MQ below Qc XC args s mc ms free) (F0 m pc ls rest) q := by
  intro T hT X
  have hpl : e.platform.magicAccessors = ({} : Platform).magicAccessors := by rw [X.admits.platform]
  obtain ⟨vm', hW', X', st⟩ := X.outThrough hlocks q (g := F0 m pc ls rest) rfl rfl rfl (cell := ce) (by rw [hT]; exact hcell) (by rw [hv]; rfl)
    (by obtain ⟨k9, h9, -⟩ := Vm.findClass_spec hcl; exact ⟨k9, h9⟩) (fun z hz => by
      rcases hpass z hz with h | ⟨hz0, nm, hl1, hn1⟩
      · exact Or.inl h
      · obtain ⟨c6, hc6, hcl6⟩ := Cond.classLink_spec hown hl1 e.platform hpl
        obtain ⟨a8, b8, h1, h2, h3⟩ := hn1
        cases Option.some.inj (h1.symm.trans hcl)
        cases Option.some.inj (h2.symm.trans hc6)
        exact Or.inr ⟨hz0, _, hcl6, h3⟩)
  obtain ⟨g₀, hfr⟩ := X'.frames_eq
  have hcell9 : ((T.setVm vm').setFrames (.throwing q :: below)).heap[q]? = some ce := by
    show T.heap[q]? = some ce
    rw [hT]; exact hcell
  have hend : Ended ((T.setVm vm').setFrames (.throwing q :: below)) below (.threw q) := State.frames_setFrames _ (State.cur_lt_of_frames hfr)
  refine ⟨(T.setVm vm').setFrames (.throwing q :: below), ?_, .threw q, X'.here.running, hend, Or.inr ⟨q, rfl, E, ce, locs, hx _ hT (X'.ends _).1.alike, hcell9, hv, hcl, (X'.ends _).1, (X'.ends _).2.mono hc hs, hf⟩⟩
  rw [X.pushThrowing_eq]
  exact st
/-- a thing of a world lies in the heap -/
theorem vx_lt {D : va_G} {cl : List vw_C} {ws : va_W} {H1 : Heap} (h : va_P D cl ws H1) {k : Nat} {q : Nat × va_E} (hk : ws[k]? = some q) : q.1 < H1.size := (h k q hk).lt
end VXS
/-! ===== END ===== -/
/-! ===== BEGIN methods with a table of their own: called by a name, returning or throwing ===== -/
section VXH
/-! vx_backW, vx_callVX, vx_callSX, vx_callVW, vx_runVW, vx_runVX, vx_runSX, vx_ofWH follow the same proofs as their sisters above (Free/Laws.lean, Shelf42/LK1.lean); vx_outP calls Shelf42/NT130.lean (outThrough). -/
section
variable {l : Launch} {R : Room} {p : Program} {e : Env} {below : List Frame} {s : State} {sargs : Array Value} {y : MethodName} {len W9 : Nat}
theorem vx_backW {ws : List Cond} {rm : Room} {Pc : Array Value → State → Prop} {Qc : Array Value → State → Outcome → State → Prop} {XC : String → State → State → Prop} {mc ms : Nat} {free : Addr → Prop} {bytes : ByteArray} {maxL : Nat} {ret : Option FieldType} {hh : List (Nat × Nat × Nat × Nat)}
    (hM : vx_Met l y ws rm Pc Qc XC mc ms free) (hblind : FrameBlind Pc) (hrc : rm.cells = mc) (hrs : rm.slots = ms)
    (hframes : rm.frames + 1 ≤ R.frames) (hlocals : W9 + (maxL + 11) + rm.locals ≤ R.locals)
    (hws : ∀ w ∈ ws, ∀ a' U, s.WarmedH U.vm → w.before a' U = true) (hcode : Cond.codeWith y bytes maxL ret hh ∈ ws) (hinit : ∀ a' U, s.WarmedH U.vm → (Cond.initialized y.cls).before a' U = true) :
    vx_Back l R p e below s sargs y len W9 (PreOf R mc ms Pc) (PostOf Qc mc ms free) (vx_Post XC mc ms free) := by
  intro m meth c A g ig mk a X hg hsize hdg hW hn hp
  have h1 : (headSpec ws rm).pre.before a A.U = true := atoms_intro fun w hw => hws w hw _ _ X.warmed
  have h2 : (Cond.codeWith y bytes maxL ret hh).before a A.U = true := hws _ hcode _ _ X.warmed
  have h3 : (Cond.initialized y.cls).before a A.U = true := hinit _ _ X.warmed
  have h4 : A.cells + (headSpec ws rm).room.cells ≤ R.cells := by rw [show (headSpec ws rm).room.cells = mc from hrc]; exact hp.1
  have h5 : A.slots + (headSpec ws rm).room.slots ≤ R.slots := by rw [show (headSpec ws rm).room.slots = ms from hrs]; exact hp.2.1
  have hPc : Pc a (A.U.calling g mk a) := hblind _ _ _ _ hp.2.2
  obtain ⟨U, Ls, c0, s0⟩ := A
  dsimp only [Pt.U, Pt.locs, Pt.cells, Pt.slots] at h1 h2 h3 h4 h5 X hn hPc ⊢
  obtain ⟨m9, methY, cY, hn9, hmY, hcY, -, hlY, -⟩ := Cond.codeWith_spec h2
  cases Option.some.inj (hn9.symm.trans hn)
  obtain ⟨kY, hkY, -⟩ := className_of_methodNamed hn
  have hinitY : kY.init = .initialized := Cond.initialized_spec (findClass_of_methodNamed hn) hkY h3
  have h : At U g.method c below := by rw [hg]; exact X.here
  have hlocals9 : W9 + (maxL + 11) + (headSpec ws rm).room.locals ≤ R.locals := hlocals
  have happ : (headSpec ws rm).appliesLoose y e.platform (U.calling g mk a) = true :=
    Spec.appliesLoose_calling (g := g) h hdg hn hkY hinitY
      (X.room_calling (g := g) (R' := (headSpec ws rm).room) hsize hmY hcY hframes (by rw [hlY]; omega) h4 h5) h1
  obtain ⟨mid, hmid⟩ := h.above
  have hfr : (U.setTop g).frames = (.java g :: mid) ++ below := by rw [State.frames_setTop' g h.top, hmid]; rfl
  obtain ⟨o, s₂, hsteps, -, hend, hq⟩ := Steps.callFree hM p X.admits X.cas X.clock (acts := []) hfr happ hPc trivial
  have hq' : vx_Q Qc XC mc ms free a (U.calling g mk a) o s₂ := hq
  rw [State.frames_setTop' g h.top] at hend
  obtain ⟨g₀, hg0⟩ := Option.isSome_iff_exists.mp h.top
  obtain ⟨r, hr⟩ := State.topJava?_eq_some.mp hg0
  have hr' : (({ U with heap := s₂.heap, slotsUsed := s₂.slotsUsed } : State).setVm s₂.vm).frames = .java g₀ :: r := hr
  rcases hq' with ⟨hqc, L, hfe, hL⟩ | ⟨q, rfl, E, ce, L, hx, hce, hcv, hcl, hW₂, hsm, hL⟩
  · obtain ⟨⟨v, rfl⟩, hW₂, e2, q2, q3, q4, q5, q6⟩ := id hfe
    have e3 : s₂ = ({ (U.calling g mk a).setFrames s₂.frames with heap := s₂.heap, slotsUsed := s₂.slotsUsed } : State).setVm s₂.vm := by
      have : s₂ = ({ s₂ with vm := (U.calling g mk a).vm } : State).setVm s₂.vm := rfl
      rw [e2] at this
      exact this
    obtain ⟨c₂, i₂, len₂, hc₂, hd₂, hf₂⟩ := hend
    have hW' : U.WarmedH s₂.vm := hW₂
    have hcc : c₂ = c := by
      have h1 : s₂.code? g.method = U.code? g.method := by
        rw [State.code?_eq, State.code?_eq, hW'.alike.method?]
      exact Option.some.inj (hc₂.symm.trans (h1.trans h.code))
    subst hcc
    have hlen : len₂ = len := by rw [hdg] at hd₂; cases hd₂; rfl
    subst hlen
    have hs₂ : s₂ = (({ U with heap := s₂.heap, slotsUsed := s₂.slotsUsed } : State).setVm s₂.vm).setTop { g with pc := g.pc + len₂, stack := v.toList ++ g.stack } := by
      refine e3.trans ?_
      rw [hf₂, State.calling_eq h.top, State.setFrames_setFrames, State.setTop_of_frames _ hr', hr]
      rfl
    have hsame : U.sameButNew ({ U with heap := s₂.heap, slotsUsed := s₂.slotsUsed } : State) L mc ms := by
      refine ⟨?_, q2, q3, q4, q5, q6⟩
      obtain ⟨t, ht, -⟩ := State.frames_cons hr
      show ({ U with heap := s₂.heap, slotsUsed := s₂.slotsUsed } : State) = { U.setFrames U.frames with heap := s₂.heap, slotsUsed := s₂.slotsUsed }
      rw [State.setFrames_self ht]
    subst hg
    refine Or.inl ⟨v, ⟨(({ U with heap := s₂.heap, slotsUsed := s₂.slotsUsed } : State).setVm s₂.vm), Ls ++ L, c0 + mc, s0 + ms⟩,
      ⟨X.admits, X.cas, X.clock, X.frames, X.room, X.hears, X.method, X.code, (X.here.setHeapUsed s₂.heap s₂.slotsUsed).setVm hW'.alike, X.tail, State.WarmedH.trans X.warmed hW', X.limits, X.bytes, X.same.trans (hsame.setVm s.vm)⟩,
      ⟨g, mk, s₂, L, rfl, rfl, hqc, rfl, hL, rfl, rfl⟩, ?_⟩
    show Steps p.tables e below _ ((({ U with heap := s₂.heap, slotsUsed := s₂.slotsUsed } : State).setVm s₂.vm).setTop { g with pc := g.pc + len₂, stack := v.toList ++ g.stack })
    rw [← hs₂]
    exact hsteps
  · obtain ⟨e2, q2, q3, q4, q5, q6⟩ := id hsm
    have e3 : s₂ = ({ (U.calling g mk a).setFrames s₂.frames with heap := s₂.heap, slotsUsed := s₂.slotsUsed } : State).setVm s₂.vm := by
      have : s₂ = ({ s₂ with vm := (U.calling g mk a).vm } : State).setVm s₂.vm := rfl
      rw [e2] at this
      exact this
    have hf₂ : s₂.frames = .throwing q :: .java g :: U.frames.tail := hend
    have hW' : U.WarmedH s₂.vm := hW₂
    have hs₂ : s₂ = ((({ U with heap := s₂.heap, slotsUsed := s₂.slotsUsed } : State).setVm s₂.vm).setTop g).pushFrame (.throwing q) := by
      refine e3.trans ?_
      rw [hf₂, State.calling_eq h.top, State.setFrames_setFrames, State.pushFrame, State.frames_setTop _ hr', State.setTop_of_frames _ hr', State.setFrames_setFrames, hr]
      rfl
    have hsame : U.sameButNew ({ U with heap := s₂.heap, slotsUsed := s₂.slotsUsed } : State) L mc ms := by
      refine ⟨?_, q2, q3, q4, q5, q6⟩
      obtain ⟨t, ht, -⟩ := State.frames_cons hr
      show ({ U with heap := s₂.heap, slotsUsed := s₂.slotsUsed } : State) = { U.setFrames U.frames with heap := s₂.heap, slotsUsed := s₂.slotsUsed }
      rw [State.setFrames_self ht]
    subst hg
    refine Or.inr ⟨q, ⟨(({ U with heap := s₂.heap, slotsUsed := s₂.slotsUsed } : State).setVm s₂.vm), Ls ++ L, c0 + mc, s0 + ms⟩,
      ⟨X.admits, X.cas, X.clock, X.frames, X.room, X.hears, X.method, X.code, (X.here.setHeapUsed s₂.heap s₂.slotsUsed).setVm hW'.alike, X.tail, State.WarmedH.trans X.warmed hW', X.limits, X.bytes, X.same.trans (hsame.setVm s.vm)⟩,
      ⟨g, mk, s₂, L, E, ce, rfl, rfl, hx, hce, hcv, hcl, rfl, hL, rfl, rfl⟩, ?_⟩
    show Steps p.tables e below _ (((({ U with heap := s₂.heap, slotsUsed := s₂.slotsUsed } : State).setVm s₂.vm).setTop g).pushFrame (.throwing q))
    rw [← hs₂]
    exact hsteps
end
variable {p : Program} {l : Launch} {e : Env} {R : Room} {s : State} {m : MethodId} {args : Array Value} {below : List Frame} {meth : Method} {c : Code} {T : State} {H : Heap} {locs : List Loc} {cells slots : Nat}
theorem vx_callVX (X : Stand p l e R s m args below meth c T locs cells slots) (hexec : p.tables.exec = Jvm.exec) {own C : String} {index : Nat} {y : MethodName} {bytes : ByteArray} {maxL : Nat} {ret : Option FieldType} {hh : List (Nat × Nat × Nat × Nat)}
    (hown : s.vm.findClass own = some m.cls) (hlink : (Cond.methodLink own index y).before args s = true) (hinst : (Cond.instanceMethod y).before args s = true) (hsel : (Cond.selects C y y).before args s = true)
    (hcode : (Cond.codeWith y bytes maxL ret hh).before args s = true) (hy : y.cls ≠ "java/lang/invoke/MethodHandle" ∧ y.cls ≠ "java/lang/invoke/VarHandle")
    {W9 : Nat} {Pre : Pt → Array Value → Prop} {Post : Pt → Array Value → Option Value → Pt → Prop} {PostX : Pt → Array Value → Addr → Pt → Prop} (hK : vx_Back l R p e below s args y 3 W9 Pre Post PostX)
    {b : Addr} {cellB : Cell} (hcell : T.heap[b]? = some cellB) (hobj : cellB.vm.isStatics = false) (hcls : s.vm.findClass C = some cellB.cls)
    {g : JFrame} (hg : g.method = m) (hsize : g.locals.size = c.maxLocals) {argsL rest : List Value} (hlen : ∀ sig, parseMethodDescriptor y.desc = some sig → argsL.length = sig.parameters.length)
    (hstack : g.stack = argsL.reverse ++ .ref b :: rest) (hW : 2 * g.monitorRoom + (rest.map fun v => v.category).sum ≤ W9) (hdg : decode c.code g.pc = .ok (.invokevirtual index, 3))
    (hpre : ∀ vm₁, s.WarmedH vm₁ → Pre ⟨T.setVm vm₁, locs, cells, slots⟩ (Value.ref b :: argsL).toArray) :
    (∃ (v : Option Value) (vm₁ : Vm) (B : Pt), s.WarmedH vm₁ ∧ Stand p l e R s m args below meth c B.U B.locs B.cells B.slots ∧ Post ⟨T.setVm vm₁, locs, cells, slots⟩ (Value.ref b :: argsL).toArray v B ∧
      ∀ target, Steps p.tables e below (B.U.setTop { g with pc := g.pc + 3, stack := v.toList ++ rest }) target → Steps p.tables e below (T.setTop g) target) ∨
    (∃ (q : Addr) (vm₁ : Vm) (B : Pt), s.WarmedH vm₁ ∧ Stand p l e R s m args below meth c B.U B.locs B.cells B.slots ∧ PostX ⟨T.setVm vm₁, locs, cells, slots⟩ (Value.ref b :: argsL).toArray q B ∧
      Steps p.tables e below (T.setTop g) ((B.U.setTop { g with stack := rest }).pushFrame (.throwing q))) := by
  obtain ⟨mk, methM, hnamed, hmethM, hstM, habM⟩ := Cond.instanceMethod_spec hinst
  obtain ⟨m8, methM', cM, hn8, hmethM', -, -, -, -, -, -, hsigM⟩ := Cond.codeWith_spec hcode
  cases Option.some.inj (hn8.symm.trans hnamed)
  cases hmethM.symm.trans hmethM'
  obtain ⟨c2, r2, m2, q1, q2, q3, q4, kP, hkP, hkPi⟩ := Cond.selects_spec hsel
  cases hcls.symm.trans q1
  cases (State.methodFound?_of_named hnamed hy).symm.trans q2
  cases hnamed.symm.trans q3
  have hselP : selectMethod e.platform s.vm cellB.cls mk = .method mk := by rw [Launch.admits_selectMethod X.admits]; exact q4
  obtain ⟨vm₁, X₁, hstep₁⟩ := X.invokevirtual hexec hown hlink hnamed hmethM hstM hkP hkPi hy (a := b) (cell := cellB) hcell
    (fun z h => by rw [h] at hobj; cases hobj) hselP hmethM habM hkP hkPi (g := g) hg (argsL := argsL) (rest := rest) (hlen _ hsigM) hstack hdg
  rcases hK m meth c ⟨T.setVm vm₁, locs, cells, slots⟩ { g with stack := rest } (.invokevirtual index) mk (Value.ref b :: argsL).toArray X₁ hg hsize hdg hW (X₁.named hnamed) (hpre vm₁ X₁.warmed) with ⟨v, B, X', hpost, hsteps⟩ | ⟨q, B, X', hpost, hsteps⟩
  · exact Or.inl ⟨v, vm₁, B, X₁.warmed, X', hpost, fun target h => hstep₁ _ fun acts => by rw [doInvoke_state]; exact hsteps.trans h⟩
  · exact Or.inr ⟨q, vm₁, B, X₁.warmed, X', hpost, hstep₁ _ fun acts => by rw [doInvoke_state]; exact hsteps⟩
theorem vx_callSX (X : Stand p l e R s m args below meth c T locs cells slots) (hexec : p.tables.exec = Jvm.exec) {own : String} {index : Nat} {y : MethodName} {bytes : ByteArray} {maxL : Nat} {ret : Option FieldType} {hh : List (Nat × Nat × Nat × Nat)}
    (hown : s.vm.findClass own = some m.cls) (hlink : (Cond.methodLink own index y).before args s = true) (hstat : (Cond.static y).before args s = true) (hinit : (Cond.initialized y.cls).before args s = true)
    (hcode : (Cond.codeWith y bytes maxL ret hh).before args s = true) (hy : y.cls ≠ "java/lang/invoke/MethodHandle" ∧ y.cls ≠ "java/lang/invoke/VarHandle")
    {W9 : Nat} {Pre : Pt → Array Value → Prop} {Post : Pt → Array Value → Option Value → Pt → Prop} {PostX : Pt → Array Value → Addr → Pt → Prop} (hK : vx_Back l R p e below s args y 3 W9 Pre Post PostX)
    {g : JFrame} (hg : g.method = m) (hsize : g.locals.size = c.maxLocals) {argsL rest : List Value} (hlen : ∀ sig, parseMethodDescriptor y.desc = some sig → argsL.length = sig.parameters.length)
    (hstack : g.stack = argsL.reverse ++ rest) (hW : 2 * g.monitorRoom + (rest.map fun v => v.category).sum ≤ W9) (hdg : decode c.code g.pc = .ok (.invokestatic index, 3))
    (hpre : ∀ vm₁, s.WarmedH vm₁ → Pre ⟨T.setVm vm₁, locs, cells, slots⟩ argsL.toArray) :
    (∃ (v : Option Value) (vm₁ : Vm) (B : Pt), s.WarmedH vm₁ ∧ Stand p l e R s m args below meth c B.U B.locs B.cells B.slots ∧ Post ⟨T.setVm vm₁, locs, cells, slots⟩ argsL.toArray v B ∧
      ∀ target, Steps p.tables e below (B.U.setTop { g with pc := g.pc + 3, stack := v.toList ++ rest }) target → Steps p.tables e below (T.setTop g) target) ∨
    (∃ (q : Addr) (vm₁ : Vm) (B : Pt), s.WarmedH vm₁ ∧ Stand p l e R s m args below meth c B.U B.locs B.cells B.slots ∧ PostX ⟨T.setVm vm₁, locs, cells, slots⟩ argsL.toArray q B ∧
      Steps p.tables e below (T.setTop g) ((B.U.setTop { g with stack := rest }).pushFrame (.throwing q))) := by
  obtain ⟨mk, methM, cM, hnamed, hmethM, -, -, -, -, -, -, hsigM⟩ := Cond.codeWith_spec hcode
  have hstatic : methM.isStatic = true := Cond.static_spec hnamed hmethM hstat
  obtain ⟨kP, hkP, -⟩ := className_of_methodNamed hnamed
  have hinitP : kP.init = .initialized := Cond.initialized_spec (findClass_of_methodNamed hnamed) hkP hinit
  obtain ⟨vm₁, X₁, hstep₁⟩ := X.invokestatic hexec hown hlink hnamed hmethM hstatic hkP hinitP hy (g := g) hg (argsL := argsL) (rest := rest) (hlen _ hsigM) hstack hdg
  rcases hK m meth c ⟨T.setVm vm₁, locs, cells, slots⟩ { g with stack := rest } (.invokestatic index) mk argsL.toArray X₁ hg hsize hdg hW (X₁.named hnamed) (hpre vm₁ X₁.warmed) with ⟨v, B, X', hpost, hsteps⟩ | ⟨q, B, X', hpost, hsteps⟩
  · exact Or.inl ⟨v, vm₁, B, X₁.warmed, X', hpost, fun target h => hstep₁ _ fun acts => by rw [doInvoke_state]; exact hsteps.trans h⟩
  · exact Or.inr ⟨q, vm₁, B, X₁.warmed, X', hpost, hstep₁ _ fun acts => by rw [doInvoke_state]; exact hsteps⟩
theorem vx_callVW (X : Stand p l e R s m args below meth c T locs cells slots) (hexec : p.tables.exec = Jvm.exec) {own C : String} {index : Nat} {y : MethodName} {bytes : ByteArray} {maxL : Nat} {ret : Option FieldType} {hh : List (Nat × Nat × Nat × Nat)}
    (hown : s.vm.findClass own = some m.cls) (hlink : (Cond.methodLink own index y).before args s = true) (hinst : (Cond.instanceMethod y).before args s = true) (hsel : (Cond.selects C y y).before args s = true)
    (hcode : (Cond.codeWith y bytes maxL ret hh).before args s = true) (hy : y.cls ≠ "java/lang/invoke/MethodHandle" ∧ y.cls ≠ "java/lang/invoke/VarHandle")
    {W9 : Nat} {Pre : Pt → Array Value → Prop} {Post : Pt → Array Value → Option Value → Pt → Prop} (hK : Back l R p e below s args y 3 W9 Pre Post)
    {b : Addr} {cellB : Cell} (hcell : T.heap[b]? = some cellB) (hobj : cellB.vm.isStatics = false) (hcls : s.vm.findClass C = some cellB.cls)
    {g : JFrame} (hg : g.method = m) (hsize : g.locals.size = c.maxLocals) {argsL rest : List Value} (hlen : ∀ sig, parseMethodDescriptor y.desc = some sig → argsL.length = sig.parameters.length)
    (hstack : g.stack = argsL.reverse ++ .ref b :: rest) (hW : 2 * g.monitorRoom + (rest.map fun v => v.category).sum ≤ W9) (hdg : decode c.code g.pc = .ok (.invokevirtual index, 3))
    (hpre : ∀ vm₁, s.WarmedH vm₁ → Pre ⟨T.setVm vm₁, locs, cells, slots⟩ (Value.ref b :: argsL).toArray) :
    ∃ (v : Option Value) (vm₁ : Vm) (B : Pt), s.WarmedH vm₁ ∧ Stand p l e R s m args below meth c B.U B.locs B.cells B.slots ∧ Post ⟨T.setVm vm₁, locs, cells, slots⟩ (Value.ref b :: argsL).toArray v B ∧
      ∀ target, Steps p.tables e below (B.U.setTop { g with pc := g.pc + 3, stack := v.toList ++ rest }) target → Steps p.tables e below (T.setTop g) target := by
  obtain ⟨mk, methM, hnamed, hmethM, hstM, habM⟩ := Cond.instanceMethod_spec hinst
  obtain ⟨m8, methM', cM, hn8, hmethM', -, -, -, -, -, -, hsigM⟩ := Cond.codeWith_spec hcode
  cases Option.some.inj (hn8.symm.trans hnamed)
  cases hmethM.symm.trans hmethM'
  obtain ⟨c2, r2, m2, q1, q2, q3, q4, kP, hkP, hkPi⟩ := Cond.selects_spec hsel
  cases hcls.symm.trans q1
  cases (State.methodFound?_of_named hnamed hy).symm.trans q2
  cases hnamed.symm.trans q3
  have hselP : selectMethod e.platform s.vm cellB.cls mk = .method mk := by rw [Launch.admits_selectMethod X.admits]; exact q4
  obtain ⟨vm₁, X₁, hstep₁⟩ := X.invokevirtual hexec hown hlink hnamed hmethM hstM hkP hkPi hy (a := b) (cell := cellB) hcell
    (fun z h => by rw [h] at hobj; cases hobj) hselP hmethM habM hkP hkPi (g := g) hg (argsL := argsL) (rest := rest) (hlen _ hsigM) hstack hdg
  obtain ⟨v, B, X', hpost, hsteps⟩ := hK m meth c ⟨T.setVm vm₁, locs, cells, slots⟩ { g with stack := rest } (.invokevirtual index) mk (Value.ref b :: argsL).toArray X₁ hg hsize hdg hW (X₁.named hnamed) (hpre vm₁ X₁.warmed)
  exact ⟨v, vm₁, B, X₁.warmed, X', hpost, fun target h => hstep₁ _ fun acts => by rw [doInvoke_state]; exact hsteps.trans h⟩
abbrev vx_CVW (R : Room) (s : State) (args : Array Value) (own C : String) (index : Nat) (y : MethodName) (bytes : ByteArray) (maxL : Nat) (ret : Option FieldType) (hh : List (Nat × Nat × Nat × Nat)) (ws : List Cond) (rm : Room) (mc ms n : Nat) : Prop :=
  (rm.cells = mc ∧ rm.slots = ms ∧ rm.frames + 1 ≤ R.frames ∧ 8 + (maxL + 11) + rm.locals ≤ R.locals ∧ (∀ w ∈ ws, ∀ (a' : Array Value) (U : State), s.WarmedH U.vm → w.before a' U = true) ∧ Cond.codeWith y bytes maxL ret hh ∈ ws) ∧
  (Cond.codeWith y bytes maxL ret hh).before args s = true ∧ (Cond.initialized y.cls).before args s = true ∧ (y.cls ≠ "java/lang/invoke/MethodHandle" ∧ y.cls ≠ "java/lang/invoke/VarHandle") ∧
  (∀ sig, parseMethodDescriptor y.desc = some sig → n = sig.parameters.length) ∧ (Cond.methodLink own index y).before args s = true ∧ (Cond.instanceMethod y).before args s = true ∧ (Cond.selects C y y).before args s = true
theorem vx_cwVW {own C : String} {index maxL mc ms : Nat} {y : MethodName} {bytes : ByteArray} {ret : Option FieldType} {hh : List (Nat × Nat × Nat × Nat)} {Ts ws ws' : List Cond} {rm : Room} (n : Nat) (ht : ∀ w ∈ Ts, w.before args s = true) (hT : GoodIn Ts (wsV own index C y ws)) (hw : ws = Cond.codeWith y bytes maxL ret hh :: ws') (hrc : rm.cells = mc) (hrs : rm.slots = ms)
    (hd : y.cls = C ∧ y.cls ≠ "java/lang/invoke/MethodHandle" ∧ y.cls ≠ "java/lang/invoke/VarHandle" ∧ (parseMethodDescriptor y.desc).map (fun d => d.parameters.length) = some n) (hR : rm.frames + 1 ≤ R.frames ∧ 8 + (maxL + 11) + rm.locals ≤ R.locals) :
    vx_CVW R s args own C index y bytes maxL ret hh ws rm mc ms n := by
  obtain ⟨hC, hd⟩ := hd
  subst hC
  have ok : ∀ w ∈ wsV own index y.cls y ws, w.before args s = true := fun w h => ht w (hT w h).1
  have hG : GoodIn Ts ws := fun w h => hT w (by unfold wsV; exact List.mem_append_right _ h)
  have hc : Cond.codeWith y bytes maxL ret hh ∈ ws := by rw [hw]; exact List.mem_cons_self
  refine ⟨⟨hrc, hrs, hR.1, hR.2, pay_in ht hG, hc⟩, ht _ (hG _ hc).1, ok _ (by simp [wsV]), ⟨hd.1, hd.2.1⟩, fun sig h => ?_, ok _ (by simp [wsV]), ok _ (by simp [wsV]), ok _ (by simp [wsV])⟩
  have h2 := hd.2.2
  rw [h] at h2
  exact (Option.some.inj h2).symm
theorem vx_runVW {y : MethodName} {bytes cc : ByteArray} {maxL nL mc ms n index : Nat} {ret : Option FieldType} {hh : List (Nat × Nat × Nat × Nat)} {ws : List Cond} {rm : Room} {Pc : Array Value → State → Prop} {Qc : Array Value → State → Outcome → State → Prop} {free : Addr → Prop} {Ts : List Cond} {own C : String} {b : Addr} {As rest : List Value} {g : JFrame}
    (S : CallFix p m c cc nL s args Ts own) (hM : Met l y ws rm Pc Qc mc ms free) (cw : vx_CVW R s args own C index y bytes maxL ret hh ws rm mc ms n) (hp : PreV s H C b Pc As)
    (hg : g.method = m) (hn : As.length = n) (hsize : g.locals.size = nL) (hstack : g.stack = As.reverse ++ .ref b :: rest) (hW : 2 * g.monitorRoom + (rest.map fun v => v.category).sum ≤ 8) (hdg : decode cc g.pc = .ok (.invokevirtual index, 3)) (hf : cells + mc ≤ R.cells ∧ slots + ms ≤ R.slots) :
    va_Run p l e R s m args below meth c H locs cells slots mc ms g rest (Qc (Value.ref b :: As).toArray) free := by
  obtain ⟨⟨hrc, hrs, hfr, hlo, hws, hcw⟩, hcode, hini, hy, hlen, hl, hin, hse⟩ := cw
  have hK : Back l R p e below s args y 3 8 (PreOf R mc ms Pc) (PostOf Qc mc ms free) := va_backW (hh := hh) (bytes := bytes) (maxL := maxL) (ret := ret) hM hp.1 hrc hrs hfr hlo hws hcw (fun a' U hW => word_at hW (Or.inl (by first | rfl | simp [Cond.onTables, Cond.keeps, Cond.steady])) hini)
  obtain ⟨hx, hb, hml, ho, -⟩ := S
  obtain ⟨-, ⟨cellB, hcB, hoB, hclB⟩, hPc⟩ := hp
  intro T hT X
  obtain ⟨v, vm₁, ⟨U', l2, c2, s2⟩, hW₁, X', ⟨g', mk, t, L, e1, e2, hq, h1, hL, h2, h3⟩, st⟩ := vx_callVW X hx (C := C) (hh := hh) (bytes := bytes) (maxL := maxL) (ret := ret) ho hl hin hse hcode hy hK (by rw [hT]; exact hcB) hoB hclB hg (hsize.trans hml.symm) (argsL := As) (rest := rest) (fun sig h => hn.trans (hlen sig h)) hstack hW (by rw [hb]; exact hdg)
    (fun vm₁ hW₁ => ⟨hf.1, hf.2, hPc (T.setVm vm₁) hT hW₁⟩)
  dsimp only [Pt.U, Pt.locs, Pt.cells, Pt.slots] at X' e1 e2 h1 h2 h3 st
  subst h1; subst h2; subst h3
  exact ⟨v, (T.setVm vm₁).calling g' mk (Value.ref b :: As).toArray, t, U', L, hT, X', hL, e1, e2, hq, st⟩
section
variable {y : MethodName} {bytes cc : ByteArray} {maxL nL mc ms n index : Nat} {ret : Option FieldType} {ws : List Cond} {rm : Room} {Pc : Array Value → State → Prop} {Qc : Array Value → State → Outcome → State → Prop} {XC : String → State → State → Prop} {free : Addr → Prop} {Ts : List Cond} {own C : String} {b : Addr} {As rest : List Value} {g : JFrame}
theorem vx_runVX {hh : List (Nat × Nat × Nat × Nat)} (S : CallFix p m c cc nL s args Ts own) (hM : vx_Met l y ws rm Pc Qc XC mc ms free) (cw : vx_CVW R s args own C index y bytes maxL ret hh ws rm mc ms n) (hp : PreV s H C b Pc As)
    (hg : g.method = m) (hn : As.length = n) (hsize : g.locals.size = nL) (hstack : g.stack = As.reverse ++ .ref b :: rest) (hW : 2 * g.monitorRoom + (rest.map fun v => v.category).sum ≤ 8) (hdg : decode cc g.pc = .ok (.invokevirtual index, 3)) (hf : cells + mc ≤ R.cells ∧ slots + ms ≤ R.slots) :
    vx_Run p l e R s m args below meth c H locs cells slots mc ms g rest (Qc (Value.ref b :: As).toArray) XC free := by
  obtain ⟨⟨hrc, hrs, hfr, hlo, hws, hcw⟩, hcode, hini, hy, hlen, hl, hin, hse⟩ := cw
  have hK : vx_Back l R p e below s args y 3 8 (PreOf R mc ms Pc) (PostOf Qc mc ms free) (vx_Post XC mc ms free) := vx_backW (hh := hh) (bytes := bytes) (maxL := maxL) (ret := ret) hM hp.1 hrc hrs hfr hlo hws hcw (fun a' U hW => word_at hW (Or.inl (by first | rfl | simp [Cond.onTables, Cond.keeps, Cond.steady])) hini)
  obtain ⟨hx, hb, hml, ho, -⟩ := S
  obtain ⟨-, ⟨cellB, hcB, hoB, hclB⟩, hPc⟩ := hp
  intro T hT X
  rcases vx_callVX X hx (C := C) (hh := hh) (bytes := bytes) (maxL := maxL) (ret := ret) ho hl hin hse hcode hy hK (by rw [hT]; exact hcB) hoB hclB hg (hsize.trans hml.symm) (argsL := As) (rest := rest) (fun sig h => hn.trans (hlen sig h)) hstack hW (by rw [hb]; exact hdg)
    (fun vm₁ hW₁ => ⟨hf.1, hf.2, hPc (T.setVm vm₁) hT hW₁⟩) with ⟨v, vm₁, ⟨U', l2, c2, s2⟩, hW₁, X', ⟨g', mk, t, L, e1, e2, hq, h1, hL, h2, h3⟩, st⟩ | ⟨q, vm₁, ⟨U', l2, c2, s2⟩, hW₁, X', ⟨g', mk, t, L, E, ce, e1, e2, hq, hce, hcv, hcl, h1, hL, h2, h3⟩, st⟩
  · dsimp only [Pt.U, Pt.locs, Pt.cells, Pt.slots] at X' e1 e2 h1 h2 h3 st
    subst h1; subst h2; subst h3
    exact Or.inl ⟨v, (T.setVm vm₁).calling g' mk (Value.ref b :: As).toArray, t, U', L, hT, X', hL, e1, e2, hq, st⟩
  · dsimp only [Pt.U, Pt.locs, Pt.cells, Pt.slots] at X' e1 e2 h1 h2 h3 st hcl
    subst h1; subst h2; subst h3
    exact Or.inr ⟨q, (T.setVm vm₁).calling g' mk (Value.ref b :: As).toArray, t, U', L, E, ce, hT, X', hL, e1, e2, hq, hce, hcv, vx_cls hW₁ hcl, st⟩
theorem vx_runSX {hh : List (Nat × Nat × Nat × Nat)} (S : CallFix p m c cc nL s args Ts own) (hM : vx_Met l y ws rm Pc Qc XC mc ms free) (cw : vx_CSW R s args own index y bytes maxL ret hh ws rm mc ms n) (hp : PreS s H Pc As)
    (hg : g.method = m) (hn : As.length = n) (hsize : g.locals.size = nL) (hstack : g.stack = As.reverse ++ rest) (hW : 2 * g.monitorRoom + (rest.map fun v => v.category).sum ≤ 8) (hdg : decode cc g.pc = .ok (.invokestatic index, 3)) (hf : cells + mc ≤ R.cells ∧ slots + ms ≤ R.slots) :
    vx_Run p l e R s m args below meth c H locs cells slots mc ms g rest (Qc As.toArray) XC free := by
  obtain ⟨⟨hrc, hrs, hfr, hlo, hws, hcw⟩, hcode, hini, hy, hlen, hl, hstt⟩ := cw
  have hK : vx_Back l R p e below s args y 3 8 (PreOf R mc ms Pc) (PostOf Qc mc ms free) (vx_Post XC mc ms free) := vx_backW (hh := hh) (bytes := bytes) (maxL := maxL) (ret := ret) hM hp.1 hrc hrs hfr hlo hws hcw (fun a' U hW => word_at hW (Or.inl (by first | rfl | simp [Cond.onTables, Cond.keeps, Cond.steady])) hini)
  obtain ⟨hx, hb, hml, ho, -⟩ := S
  intro T hT X
  rcases vx_callSX X hx (hh := hh) (bytes := bytes) (maxL := maxL) (ret := ret) ho hl hstt hini hcode hy hK hg (hsize.trans hml.symm) (argsL := As) (rest := rest) (fun sig h => hn.trans (hlen sig h)) hstack hW (by rw [hb]; exact hdg)
    (fun vm₁ hW₁ => ⟨hf.1, hf.2, hp.2 (T.setVm vm₁) hT hW₁⟩) with ⟨v, vm₁, ⟨U', l2, c2, s2⟩, hW₁, X', ⟨g', mk, t, L, e1, e2, hq, h1, hL, h2, h3⟩, st⟩ | ⟨q, vm₁, ⟨U', l2, c2, s2⟩, hW₁, X', ⟨g', mk, t, L, E, ce, e1, e2, hq, hce, hcv, hcl, h1, hL, h2, h3⟩, st⟩
  · dsimp only [Pt.U, Pt.locs, Pt.cells, Pt.slots] at X' e1 e2 h1 h2 h3 st
    subst h1; subst h2; subst h3
    exact Or.inl ⟨v, (T.setVm vm₁).calling g' mk As.toArray, t, U', L, hT, X', hL, e1, e2, hq, st⟩
  · dsimp only [Pt.U, Pt.locs, Pt.cells, Pt.slots] at X' e1 e2 h1 h2 h3 st hcl
    subst h1; subst h2; subst h3
    exact Or.inr ⟨q, (T.setVm vm₁).calling g' mk As.toArray, t, U', L, E, ce, hT, X', hL, e1, e2, hq, hce, hcv, vx_cls hW₁ hcl, st⟩
end
end VXH
theorem vx_ofWH {l : Launch} {y : MethodName} {ws ws' : List Cond} {rm : Room} {Pc : Array Value → State → Prop} {Qc : Array Value → State → Outcome → State → Prop} {XC : String → State → State → Prop} {mc ms : Nat} {free : Addr → Prop} {cc : ByteArray} {maxL : Nat} {ret : Option FieldType} {hh : List (Nat × Nat × Nat × Nat)}
    (hy : plainName y.cls = true) (hw : ws = Cond.codeWith y cc maxL ret hh :: ws')
    (body : ∀ p e s m args below meth c s₁, BodyLoose p l y (headSpec ws rm) cc maxL ret e s m args below meth c s₁ → c.maxLocals = maxL → Pc args s →
      W p l e (headSpec ws rm).room s m args below meth c s.heap [] 0 0 (vx_MQ below Qc XC args s mc ms free) (entryFrame m args maxL)) : vx_Met l y ws rm Pc Qc XC mc ms free := by
  refine MetFree.of_bodyS (code := cc) (maxLocals := maxL) (ret := ret) hy ?_ ?_
  · intro args s m h hn
    obtain ⟨m9, meth, c, hn9, h1, h2, h3, h4, -, h5, h6, -⟩ := Cond.codeWith_spec (atoms_spec (ws := ws) h _ (by rw [hw]; exact List.mem_cons_self))
    cases hn.symm.trans hn9
    exact ⟨meth, c, h1, h2, h3, h4, h5, h6⟩
  · intro p e s m args below meth c s₁ B hml hP _
    have hh0 : s₁.heap = s.heap := by rw [B.state]; rfl
    obtain ⟨t, a1, o, b1, b2, b3⟩ := body p e s m args below meth c s₁ B hml hP s₁ hh0 (Stand.of_body B)
    exact ⟨t, o, a1, b1, b2, b3⟩
/-! ===== END ===== -/
end
section
/-! ===== BEGIN printed: names, fields, word lists, decode rows ===== -/
def RX0 : String := "JointAnnuity$Annuity"
def TX0 : u_T := fun k => match k with
  | 0 => ("JointAnnuity$Annuity", "start", "I", true)
  | 1 => ("JointAnnuity$Annuity", "amount", "I", true)
  | 2 => ("JointAnnuity$Annuity", "guaranteeEnd", "I", true)
  | 3 => ("JointAnnuity$Annuity", "survivorPercent", "I", false)
  | 4 => ("JointAnnuity$Annuity", "stepsOnFirst", "Z", false)
  | 5 => ("JointAnnuity$Annuity", "cap", "I", false)
  | 6 => ("JointAnnuity$Annuity", "price", "I", false)
  | 7 => ("JointAnnuity$Annuity", "protectedPercent", "I", false)
  | 8 => ("JointAnnuity$Annuity", "deaths", "[I", true)
  | 9 => ("JointAnnuity$Annuity", "fullAmounts", "[I", true)
  | 10 => ("JointAnnuity$Annuity", "carries", "[I", true)
  | 11 => ("JointAnnuity$Annuity", "payments", "[J", true)
  | _ => ("JointAnnuity$Annuity", "keptInAll", "J", false)
def tyX0 : Nat → FieldType := fun k => match k with
  | 0 => .int
  | 1 => .int
  | 2 => .int
  | 3 => .int
  | 4 => .boolean
  | 5 => .int
  | 6 => .int
  | 7 => .int
  | 8 => .array .int
  | 9 => .array .int
  | 10 => .array .int
  | 11 => .array .long
  | _ => .long
abbrev wsX00 : List Cond := u_ws RX0 TX0 13
theorem nmX0 : ∀ a, a < 13 → ∀ b, b < 13 → a ≠ b → (TX0 a).2.1 ≠ (TX0 b).2.1 := by decide +kernel
theorem tyX0_ok : ∀ k, k < 13 → parseFieldDescriptor (TX0 k).2.2.1 = some (tyX0 k) := by decide +kernel
abbrev cX0_init : ByteArray := prog_2_method_1_code
def yX0_init : MethodName := ⟨RX0, "<init>", "(III)V"⟩
abbrev cX0_growBy : ByteArray := prog_2_method_2_code
def yX0_growBy : MethodName := ⟨RX0, "growBy", "([I)V"⟩
abbrev cX0_fullIn : ByteArray := prog_2_method_3_code
def yX0_fullIn : MethodName := ⟨RX0, "fullIn", "(I)I"⟩
abbrev cX0_carryIn : ByteArray := prog_2_method_4_code
def yX0_carryIn : MethodName := ⟨RX0, "carryIn", "(I)I"⟩
abbrev cX0_shareIn : ByteArray := prog_2_method_5_code
def yX0_shareIn : MethodName := ⟨RX0, "shareIn", "(I)J"⟩
abbrev cX0_sharesAhead : ByteArray := prog_2_method_6_code
def yX0_sharesAhead : MethodName := ⟨RX0, "sharesAhead", "(I)J"⟩
abbrev cX0_protectionMonth : ByteArray := prog_2_method_7_code
def yX0_protectionMonth : MethodName := ⟨RX0, "protectionMonth", "()I"⟩
abbrev cX0_protectionSum : ByteArray := prog_2_method_8_code
def yX0_protectionSum : MethodName := ⟨RX0, "protectionSum", "()J"⟩
abbrev cX0_dueIn : ByteArray := prog_2_method_9_code
def yX0_dueIn : MethodName := ⟨RX0, "dueIn", "(I)J"⟩
abbrev cX0_dueAhead : ByteArray := prog_2_method_10_code
def yX0_dueAhead : MethodName := ⟨RX0, "dueAhead", "(I)J"⟩
abbrev cX0_payIn : ByteArray := prog_2_method_11_code
def yX0_payIn : MethodName := ⟨RX0, "payIn", "(I)J"⟩
abbrev cX0_debtAhead : ByteArray := prog_2_method_12_code
def yX0_debtAhead : MethodName := ⟨RX0, "debtAhead", "(I)J"⟩
def RX1 : String := "JointAnnuity"
def TX1 : u_T := fun k => match k with
  | 0 => ("JointAnnuity", "annuities", "[LJointAnnuity$Annuity;", true)
  | 1 => ("JointAnnuity", "inflation", "[I", true)
  | 2 => ("JointAnnuity", "count", "I", false)
  | _ => ("JointAnnuity", "monthThatGoesOn", "I", false)
def tyX1 : Nat → FieldType := fun k => match k with
  | 0 => .array (.object "JointAnnuity$Annuity")
  | 1 => .array .int
  | 2 => .int
  | _ => .int
abbrev wsX10 : List Cond := u_ws RX1 TX1 4
theorem nmX1 : ∀ a, a < 4 → ∀ b, b < 4 → a ≠ b → (TX1 a).2.1 ≠ (TX1 b).2.1 := by decide +kernel
theorem tyX1_ok : ∀ k, k < 4 → parseFieldDescriptor (TX1 k).2.2.1 = some (tyX1 k) := by decide +kernel
abbrev cX1_init : ByteArray := prog_1_method_1_code
def yX1_init : MethodName := ⟨RX1, "<init>", "()V"⟩
abbrev cX1_add : ByteArray := prog_1_method_2_code
def yX1_add : MethodName := ⟨RX1, "add", "(III)I"⟩
abbrev cX1_setSurvivor : ByteArray := prog_1_method_3_code
def yX1_setSurvivor : MethodName := ⟨RX1, "setSurvivor", "(IIZ)V"⟩
abbrev cX1_setCap : ByteArray := prog_1_method_4_code
def yX1_setCap : MethodName := ⟨RX1, "setCap", "(II)V"⟩
abbrev cX1_protect : ByteArray := prog_1_method_5_code
def yX1_protect : MethodName := ⟨RX1, "protect", "(III)V"⟩
abbrev cX1_setInflation : ByteArray := prog_1_method_6_code
def yX1_setInflation : MethodName := ⟨RX1, "setInflation", "(II)I"⟩
abbrev cX1_die : ByteArray := prog_1_method_7_code
def yX1_die : MethodName := ⟨RX1, "die", "(III)V"⟩
abbrev cX1_takeBack : ByteArray := prog_1_method_8_code
def yX1_takeBack : MethodName := ⟨RX1, "takeBack", "(II)I"⟩
abbrev cX1_run : ByteArray := prog_1_method_9_code
def yX1_run : MethodName := ⟨RX1, "run", "()J"⟩
abbrev cX1_month : ByteArray := prog_1_method_10_code
def yX1_month : MethodName := ⟨RX1, "month", "()I"⟩
abbrev cX1_giveBack : ByteArray := prog_1_method_11_code
def yX1_giveBack : MethodName := ⟨RX1, "giveBack", "(II)J"⟩
abbrev cX1_paid : ByteArray := prog_1_method_12_code
def yX1_paid : MethodName := ⟨RX1, "paid", "(II)J"⟩
abbrev cX1_paidInAll : ByteArray := prog_1_method_13_code
def yX1_paidInAll : MethodName := ⟨RX1, "paidInAll", "(I)J"⟩
abbrev cX1_owes : ByteArray := prog_1_method_14_code
def yX1_owes : MethodName := ⟨RX1, "owes", "(I)J"⟩
abbrev cX1_fullAmount : ByteArray := prog_1_method_15_code
def yX1_fullAmount : MethodName := ⟨RX1, "fullAmount", "(II)I"⟩
abbrev cX1_carry : ByteArray := prog_1_method_16_code
def yX1_carry : MethodName := ⟨RX1, "carry", "(II)I"⟩
abbrev cX1_entitled : ByteArray := prog_1_method_17_code
def yX1_entitled : MethodName := ⟨RX1, "entitled", "(II)J"⟩
abbrev cX1_entitledUpTo : ByteArray := prog_1_method_18_code
def yX1_entitledUpTo : MethodName := ⟨RX1, "entitledUpTo", "(II)J"⟩
abbrev cX1_protection : ByteArray := prog_1_method_19_code
def yX1_protection : MethodName := ⟨RX1, "protection", "(I)J"⟩
abbrev cX1_find : ByteArray := prog_1_method_20_code
def yX1_find : MethodName := ⟨RX1, "find", "(I)LJointAnnuity$Annuity;"⟩
abbrev cX1_requireStartNotRun : ByteArray := prog_1_method_21_code
def yX1_requireStartNotRun : MethodName := ⟨RX1, "requireStartNotRun", "(LJointAnnuity$Annuity;)V"⟩
abbrev cX1_requireMonth : ByteArray := prog_1_method_22_code
def yX1_requireMonth : MethodName := ⟨RX1, "requireMonth", "(I)V"⟩
abbrev cX1_requireRange : ByteArray := prog_1_method_23_code
def yX1_requireRange : MethodName := ⟨RX1, "requireRange", "(III)V"⟩
def RX2 : String := "JointAnnuityModel"
def TX2 : u_T := fun k => match k with
  | _ => ("", "", "", false)
def tyX2 : Nat → FieldType := fun k => match k with
  | _ => .int
abbrev wsX20 : List Cond := u_ws RX2 TX2 0
theorem nmX2 : ∀ a, a < 0 → ∀ b, b < 0 → a ≠ b → (TX2 a).2.1 ≠ (TX2 b).2.1 := by decide +kernel
theorem tyX2_ok : ∀ k, k < 0 → parseFieldDescriptor (TX2 k).2.2.1 = some (tyX2 k) := by decide +kernel
def RJ9 : String := "java/lang/Math"
def TJ9 : u_T := fun k => match k with
  | _ => ("", "", "", false)
def tyJ9 : Nat → FieldType := fun k => match k with
  | _ => .int
abbrev wsJ90 : List Cond := u_ws RJ9 TJ9 0
theorem nmJ9 : ∀ a, a < 0 → ∀ b, b < 0 → a ≠ b → (TJ9 a).2.1 ≠ (TJ9 b).2.1 := by decide +kernel
theorem tyJ9_ok : ∀ k, k < 0 → parseFieldDescriptor (TJ9 k).2.2.1 = some (tyJ9 k) := by decide +kernel
abbrev cJ9_max_7cf53 : ByteArray := prog_9_method_65_code
def yJ9_max_7cf53 : MethodName := ⟨RJ9, "max", "(II)I"⟩
abbrev cJ9_max_f86c9 : ByteArray := prog_9_method_66_code
def yJ9_max_f86c9 : MethodName := ⟨RJ9, "max", "(JJ)J"⟩
abbrev cJ9_min_7cf53 : ByteArray := prog_9_method_69_code
def yJ9_min_7cf53 : MethodName := ⟨RJ9, "min", "(II)I"⟩
def RJ0 : String := "java/lang/String"
def TJ0 : u_T := fun k => match k with
  | _ => ("", "", "", false)
def tyJ0 : Nat → FieldType := fun k => match k with
  | _ => .int
abbrev wsJ00 : List Cond := u_ws RJ0 TJ0 0
theorem nmJ0 : ∀ a, a < 0 → ∀ b, b < 0 → a ≠ b → (TJ0 a).2.1 ≠ (TJ0 b).2.1 := by decide +kernel
theorem tyJ0_ok : ∀ k, k < 0 → parseFieldDescriptor (TJ0 k).2.2.1 = some (tyJ0 k) := by decide +kernel
def RL : String := "JointAnnuityLaw"
abbrev cL_cell : ByteArray := method_2_code
def yL_cell : MethodName := ⟨RL, "cell", "([II)I"⟩
abbrev cL_add : ByteArray := method_3_code
def yL_add : MethodName := ⟨RL, "add", "(LJointAnnuity;III)I"⟩
abbrev cL_survivor : ByteArray := method_4_code
def yL_survivor : MethodName := ⟨RL, "survivor", "(LJointAnnuity;IIZ)I"⟩
abbrev cL_cap : ByteArray := method_5_code
def yL_cap : MethodName := ⟨RL, "cap", "(LJointAnnuity;II)I"⟩
abbrev cL_protect : ByteArray := method_6_code
def yL_protect : MethodName := ⟨RL, "protect", "(LJointAnnuity;III)I"⟩
abbrev cL_inflation : ByteArray := method_7_code
def yL_inflation : MethodName := ⟨RL, "inflation", "(LJointAnnuity;II)I"⟩
abbrev cL_die : ByteArray := method_8_code
def yL_die : MethodName := ⟨RL, "die", "(LJointAnnuity;III)I"⟩
abbrev cL_takeBack : ByteArray := method_9_code
def yL_takeBack : MethodName := ⟨RL, "takeBack", "(LJointAnnuity;II)I"⟩
abbrev cL_run : ByteArray := method_10_code
def yL_run : MethodName := ⟨RL, "run", "(LJointAnnuity;)J"⟩
abbrev cL_back : ByteArray := method_11_code
def yL_back : MethodName := ⟨RL, "back", "(LJointAnnuity;II)J"⟩
abbrev cL_paid : ByteArray := method_12_code
def yL_paid : MethodName := ⟨RL, "paid", "(LJointAnnuity;II)J"⟩
abbrev cL_paidAll : ByteArray := method_13_code
def yL_paidAll : MethodName := ⟨RL, "paidAll", "(LJointAnnuity;I)J"⟩
abbrev cL_owes : ByteArray := method_14_code
def yL_owes : MethodName := ⟨RL, "owes", "(LJointAnnuity;I)J"⟩
abbrev cL_full : ByteArray := method_15_code
def yL_full : MethodName := ⟨RL, "full", "(LJointAnnuity;II)I"⟩
abbrev cL_carry : ByteArray := method_16_code
def yL_carry : MethodName := ⟨RL, "carry", "(LJointAnnuity;II)I"⟩
abbrev cL_entitled : ByteArray := method_17_code
def yL_entitled : MethodName := ⟨RL, "entitled", "(LJointAnnuity;II)J"⟩
abbrev cL_upTo : ByteArray := method_18_code
def yL_upTo : MethodName := ⟨RL, "upTo", "(LJointAnnuity;II)J"⟩
abbrev cL_protection : ByteArray := method_19_code
def yL_protection : MethodName := ⟨RL, "protection", "(LJointAnnuity;I)J"⟩
abbrev cL_follows : ByteArray := method_20_code
def yL_follows : MethodName := ⟨RL, "follows", "(LJointAnnuity;IIII[I)Z"⟩
abbrev cL_law : ByteArray := code
def yL_law : MethodName := ⟨RL, "law", "([I)Z"⟩
def wsX0_init : List Cond := .code yX0_init cX0_init 4 none :: ([.methodLink RX0 3 objectInit, .instanceMethod objectInit, .code objectInit ⟨#[0xb1]⟩ 1 none, .fieldLink RX0 9 "JointAnnuity$Annuity" "start" "I", .fieldLink RX0 15 "JointAnnuity$Annuity" "amount" "I", .fieldLink RX0 18 "JointAnnuity$Annuity" "guaranteeEnd" "I", .fieldLink RX0 21 "JointAnnuity$Annuity" "survivorPercent" "I", .fieldLink RX0 24 "JointAnnuity$Annuity" "stepsOnFirst" "Z", .fieldLink RX0 28 "JointAnnuity$Annuity" "cap" "I", .fieldLink RX0 31 "JointAnnuity$Annuity" "price" "I", .fieldLink RX0 34 "JointAnnuity$Annuity" "protectedPercent" "I", .arrayClass .int, .fieldLink RX0 37 "JointAnnuity$Annuity" "deaths" "[I", .fieldLink RX0 41 "JointAnnuity$Annuity" "fullAmounts" "[I", .fieldLink RX0 44 "JointAnnuity$Annuity" "carries" "[I", .arrayClass .long, .fieldLink RX0 47 "JointAnnuity$Annuity" "payments" "[J", .fieldLink RX0 51 "JointAnnuity$Annuity" "keptInAll" "J"] ++ wsX00)
def wsX0_growBy : List Cond := .code yX0_growBy cX0_growBy 8 none :: ([.fieldLink RX0 15 "JointAnnuity$Annuity" "amount" "I", .fieldLink RX0 41 "JointAnnuity$Annuity" "fullAmounts" "[I", .fieldLink RX0 44 "JointAnnuity$Annuity" "carries" "[I", .fieldLink RX0 9 "JointAnnuity$Annuity" "start" "I", .fieldLink RX0 28 "JointAnnuity$Annuity" "cap" "I", .methodLink RX0 55 Lib.Math.min.name, .static Lib.Math.min.name, .initialized "java/lang/Math", .code Lib.Math.min.name Lib.Math.min.code 2 (some .int), .methodLink RX0 61 Lib.Math.max.name, .static Lib.Math.max.name, .code Lib.Math.max.name Lib.Math.max.code 2 (some .int)] ++ wsX00)
def wsX0_fullIn : List Cond := .code yX0_fullIn cX0_fullIn 2 (some .int) :: ([.fieldLink RX0 9 "JointAnnuity$Annuity" "start" "I", .fieldLink RX0 41 "JointAnnuity$Annuity" "fullAmounts" "[I"] ++ wsX00)
def wsX0_carryIn : List Cond := .code yX0_carryIn cX0_carryIn 2 (some .int) :: ([.fieldLink RX0 9 "JointAnnuity$Annuity" "start" "I", .fieldLink RX0 44 "JointAnnuity$Annuity" "carries" "[I"] ++ wsX00)
def wsX0_shareIn : List Cond := .code yX0_shareIn cX0_shareIn 6 (some .long) :: ([.fieldLink RX0 9 "JointAnnuity$Annuity" "start" "I", .fieldLink RX0 37 "JointAnnuity$Annuity" "deaths" "[I", .fieldLink RX0 18 "JointAnnuity$Annuity" "guaranteeEnd" "I", .fieldLink RX0 24 "JointAnnuity$Annuity" "stepsOnFirst" "Z", .fieldLink RX0 21 "JointAnnuity$Annuity" "survivorPercent" "I", .constantLong RX0 68 (100), .methodLink RX0 64 yX0_fullIn, .instanceMethod yX0_fullIn, .selects RX0 yX0_fullIn yX0_fullIn, .initialized RX0, .code yX0_fullIn cX0_fullIn 2 (some .int), .fieldLink RX0 41 "JointAnnuity$Annuity" "fullAmounts" "[I"] ++ wsX00)
def wsX0_sharesAhead : List Cond := .code yX0_sharesAhead cX0_sharesAhead 5 (some .long) :: ([.fieldLink RX0 9 "JointAnnuity$Annuity" "start" "I", .methodLink RX0 70 yX0_shareIn, .instanceMethod yX0_shareIn, .selects RX0 yX0_shareIn yX0_shareIn, .initialized RX0, .code yX0_shareIn cX0_shareIn 6 (some .long), .fieldLink RX0 37 "JointAnnuity$Annuity" "deaths" "[I", .fieldLink RX0 18 "JointAnnuity$Annuity" "guaranteeEnd" "I", .fieldLink RX0 24 "JointAnnuity$Annuity" "stepsOnFirst" "Z", .fieldLink RX0 21 "JointAnnuity$Annuity" "survivorPercent" "I", .constantLong RX0 68 (100), .methodLink RX0 64 yX0_fullIn, .instanceMethod yX0_fullIn, .selects RX0 yX0_fullIn yX0_fullIn, .code yX0_fullIn cX0_fullIn 2 (some .int), .fieldLink RX0 41 "JointAnnuity$Annuity" "fullAmounts" "[I"] ++ wsX00)
def wsX0_protectionMonth : List Cond := .code yX0_protectionMonth cX0_protectionMonth 2 (some .int) :: ([.fieldLink RX0 37 "JointAnnuity$Annuity" "deaths" "[I", .methodLink RX0 61 Lib.Math.max.name, .static Lib.Math.max.name, .initialized "java/lang/Math", .code Lib.Math.max.name Lib.Math.max.code 2 (some .int), .fieldLink RX0 18 "JointAnnuity$Annuity" "guaranteeEnd" "I", .methodLink RX0 55 Lib.Math.min.name, .static Lib.Math.min.name, .code Lib.Math.min.name Lib.Math.min.code 2 (some .int)] ++ wsX00)
def wsX0_protectionSum_r1 : List Cond := [Cond.fieldLink RX0 31 "JointAnnuity$Annuity" "price" "I", Cond.fieldLink RX0 34 "JointAnnuity$Annuity" "protectedPercent" "I", Cond.constantLong RX0 68 (100), Cond.methodLink RX0 81 Lib.MathLoose.max_long.x, Cond.static Lib.MathLoose.max_long.x, Cond.initialized "java/lang/Math", Cond.code Lib.MathLoose.max_long.x Lib.MathLoose.max_long.code 4 (some .long), Cond.methodLink RX0 74 yX0_protectionMonth, Cond.instanceMethod yX0_protectionMonth, Cond.selects RX0 yX0_protectionMonth yX0_protectionMonth, Cond.initialized RX0, Cond.code yX0_protectionMonth cX0_protectionMonth 2 (some .int), Cond.fieldLink RX0 37 "JointAnnuity$Annuity" "deaths" "[I", Cond.methodLink RX0 61 Lib.Math.max.name, Cond.static Lib.Math.max.name, Cond.code Lib.Math.max.name Lib.Math.max.code 2 (some .int), Cond.fieldLink RX0 18 "JointAnnuity$Annuity" "guaranteeEnd" "I", Cond.methodLink RX0 55 Lib.Math.min.name, Cond.static Lib.Math.min.name, Cond.code Lib.Math.min.name Lib.Math.min.code 2 (some .int), Cond.methodLink RX0 78 yX0_sharesAhead, Cond.instanceMethod yX0_sharesAhead, Cond.selects RX0 yX0_sharesAhead yX0_sharesAhead, Cond.code yX0_sharesAhead cX0_sharesAhead 5 (some .long)]
def wsX0_protectionSum_r2 : List Cond := [Cond.fieldLink RX0 9 "JointAnnuity$Annuity" "start" "I", Cond.methodLink RX0 70 yX0_shareIn, Cond.instanceMethod yX0_shareIn, Cond.selects RX0 yX0_shareIn yX0_shareIn, Cond.code yX0_shareIn cX0_shareIn 6 (some .long), Cond.fieldLink RX0 24 "JointAnnuity$Annuity" "stepsOnFirst" "Z", Cond.fieldLink RX0 21 "JointAnnuity$Annuity" "survivorPercent" "I", Cond.methodLink RX0 64 yX0_fullIn, Cond.instanceMethod yX0_fullIn, Cond.selects RX0 yX0_fullIn yX0_fullIn, Cond.code yX0_fullIn cX0_fullIn 2 (some .int), Cond.fieldLink RX0 41 "JointAnnuity$Annuity" "fullAmounts" "[I"]
def wsX0_protectionSum : List Cond := .code yX0_protectionSum cX0_protectionSum 4 (some .long) :: ((wsX0_protectionSum_r1 ++ wsX0_protectionSum_r2) ++ wsX00)
def wsX0_dueIn_r1 : List Cond := [Cond.methodLink RX0 70 yX0_shareIn, Cond.instanceMethod yX0_shareIn, Cond.selects RX0 yX0_shareIn yX0_shareIn, Cond.initialized RX0, Cond.code yX0_shareIn cX0_shareIn 6 (some .long), Cond.fieldLink RX0 9 "JointAnnuity$Annuity" "start" "I", Cond.fieldLink RX0 37 "JointAnnuity$Annuity" "deaths" "[I", Cond.fieldLink RX0 18 "JointAnnuity$Annuity" "guaranteeEnd" "I", Cond.fieldLink RX0 24 "JointAnnuity$Annuity" "stepsOnFirst" "Z", Cond.fieldLink RX0 21 "JointAnnuity$Annuity" "survivorPercent" "I", Cond.constantLong RX0 68 (100), Cond.methodLink RX0 64 yX0_fullIn, Cond.instanceMethod yX0_fullIn, Cond.selects RX0 yX0_fullIn yX0_fullIn, Cond.code yX0_fullIn cX0_fullIn 2 (some .int), Cond.fieldLink RX0 41 "JointAnnuity$Annuity" "fullAmounts" "[I", Cond.methodLink RX0 74 yX0_protectionMonth, Cond.instanceMethod yX0_protectionMonth, Cond.selects RX0 yX0_protectionMonth yX0_protectionMonth, Cond.code yX0_protectionMonth cX0_protectionMonth 2 (some .int), Cond.methodLink RX0 61 Lib.Math.max.name, Cond.static Lib.Math.max.name, Cond.initialized "java/lang/Math", Cond.code Lib.Math.max.name Lib.Math.max.code 2 (some .int)]
def wsX0_dueIn_r2 : List Cond := [Cond.methodLink RX0 55 Lib.Math.min.name, Cond.static Lib.Math.min.name, Cond.code Lib.Math.min.name Lib.Math.min.code 2 (some .int), Cond.methodLink RX0 84 yX0_protectionSum, Cond.instanceMethod yX0_protectionSum, Cond.selects RX0 yX0_protectionSum yX0_protectionSum, Cond.code yX0_protectionSum cX0_protectionSum 4 (some .long), Cond.fieldLink RX0 31 "JointAnnuity$Annuity" "price" "I", Cond.fieldLink RX0 34 "JointAnnuity$Annuity" "protectedPercent" "I", Cond.methodLink RX0 81 Lib.MathLoose.max_long.x, Cond.static Lib.MathLoose.max_long.x, Cond.code Lib.MathLoose.max_long.x Lib.MathLoose.max_long.code 4 (some .long), Cond.methodLink RX0 78 yX0_sharesAhead, Cond.instanceMethod yX0_sharesAhead, Cond.selects RX0 yX0_sharesAhead yX0_sharesAhead, Cond.code yX0_sharesAhead cX0_sharesAhead 5 (some .long)]
def wsX0_dueIn : List Cond := .code yX0_dueIn cX0_dueIn 4 (some .long) :: ((wsX0_dueIn_r1 ++ wsX0_dueIn_r2) ++ wsX00)
def wsX0_dueAhead_r1 : List Cond := [Cond.methodLink RX0 78 yX0_sharesAhead, Cond.instanceMethod yX0_sharesAhead, Cond.selects RX0 yX0_sharesAhead yX0_sharesAhead, Cond.initialized RX0, Cond.code yX0_sharesAhead cX0_sharesAhead 5 (some .long), Cond.fieldLink RX0 9 "JointAnnuity$Annuity" "start" "I", Cond.methodLink RX0 70 yX0_shareIn, Cond.instanceMethod yX0_shareIn, Cond.selects RX0 yX0_shareIn yX0_shareIn, Cond.code yX0_shareIn cX0_shareIn 6 (some .long), Cond.fieldLink RX0 37 "JointAnnuity$Annuity" "deaths" "[I", Cond.fieldLink RX0 18 "JointAnnuity$Annuity" "guaranteeEnd" "I", Cond.fieldLink RX0 24 "JointAnnuity$Annuity" "stepsOnFirst" "Z", Cond.fieldLink RX0 21 "JointAnnuity$Annuity" "survivorPercent" "I", Cond.constantLong RX0 68 (100), Cond.methodLink RX0 64 yX0_fullIn, Cond.instanceMethod yX0_fullIn, Cond.selects RX0 yX0_fullIn yX0_fullIn, Cond.code yX0_fullIn cX0_fullIn 2 (some .int), Cond.fieldLink RX0 41 "JointAnnuity$Annuity" "fullAmounts" "[I", Cond.methodLink RX0 74 yX0_protectionMonth, Cond.instanceMethod yX0_protectionMonth, Cond.selects RX0 yX0_protectionMonth yX0_protectionMonth, Cond.code yX0_protectionMonth cX0_protectionMonth 2 (some .int)]
def wsX0_dueAhead_r2 : List Cond := [Cond.methodLink RX0 61 Lib.Math.max.name, Cond.static Lib.Math.max.name, Cond.initialized "java/lang/Math", Cond.code Lib.Math.max.name Lib.Math.max.code 2 (some .int), Cond.methodLink RX0 55 Lib.Math.min.name, Cond.static Lib.Math.min.name, Cond.code Lib.Math.min.name Lib.Math.min.code 2 (some .int), Cond.methodLink RX0 84 yX0_protectionSum, Cond.instanceMethod yX0_protectionSum, Cond.selects RX0 yX0_protectionSum yX0_protectionSum, Cond.code yX0_protectionSum cX0_protectionSum 4 (some .long), Cond.fieldLink RX0 31 "JointAnnuity$Annuity" "price" "I", Cond.fieldLink RX0 34 "JointAnnuity$Annuity" "protectedPercent" "I", Cond.methodLink RX0 81 Lib.MathLoose.max_long.x, Cond.static Lib.MathLoose.max_long.x, Cond.code Lib.MathLoose.max_long.x Lib.MathLoose.max_long.code 4 (some .long)]
def wsX0_dueAhead : List Cond := .code yX0_dueAhead cX0_dueAhead 4 (some .long) :: ((wsX0_dueAhead_r1 ++ wsX0_dueAhead_r2) ++ wsX00)
def wsX0_payIn_r1 : List Cond := [Cond.fieldLink RX0 51 "JointAnnuity$Annuity" "keptInAll" "J", Cond.methodLink RX0 81 Lib.MathLoose.max_long.x, Cond.static Lib.MathLoose.max_long.x, Cond.initialized "java/lang/Math", Cond.code Lib.MathLoose.max_long.x Lib.MathLoose.max_long.code 4 (some .long), Cond.fieldLink RX0 47 "JointAnnuity$Annuity" "payments" "[J", Cond.methodLink RX0 88 yX0_dueAhead, Cond.instanceMethod yX0_dueAhead, Cond.selects RX0 yX0_dueAhead yX0_dueAhead, Cond.initialized RX0, Cond.code yX0_dueAhead cX0_dueAhead 4 (some .long), Cond.methodLink RX0 78 yX0_sharesAhead, Cond.instanceMethod yX0_sharesAhead, Cond.selects RX0 yX0_sharesAhead yX0_sharesAhead, Cond.code yX0_sharesAhead cX0_sharesAhead 5 (some .long), Cond.fieldLink RX0 9 "JointAnnuity$Annuity" "start" "I", Cond.methodLink RX0 70 yX0_shareIn, Cond.instanceMethod yX0_shareIn, Cond.selects RX0 yX0_shareIn yX0_shareIn, Cond.code yX0_shareIn cX0_shareIn 6 (some .long), Cond.fieldLink RX0 37 "JointAnnuity$Annuity" "deaths" "[I", Cond.fieldLink RX0 18 "JointAnnuity$Annuity" "guaranteeEnd" "I", Cond.fieldLink RX0 24 "JointAnnuity$Annuity" "stepsOnFirst" "Z", Cond.fieldLink RX0 21 "JointAnnuity$Annuity" "survivorPercent" "I"]
def wsX0_payIn_r2 : List Cond := [Cond.constantLong RX0 68 (100), Cond.methodLink RX0 64 yX0_fullIn, Cond.instanceMethod yX0_fullIn, Cond.selects RX0 yX0_fullIn yX0_fullIn, Cond.code yX0_fullIn cX0_fullIn 2 (some .int), Cond.fieldLink RX0 41 "JointAnnuity$Annuity" "fullAmounts" "[I", Cond.methodLink RX0 74 yX0_protectionMonth, Cond.instanceMethod yX0_protectionMonth, Cond.selects RX0 yX0_protectionMonth yX0_protectionMonth, Cond.code yX0_protectionMonth cX0_protectionMonth 2 (some .int), Cond.methodLink RX0 61 Lib.Math.max.name, Cond.static Lib.Math.max.name, Cond.code Lib.Math.max.name Lib.Math.max.code 2 (some .int), Cond.methodLink RX0 55 Lib.Math.min.name, Cond.static Lib.Math.min.name, Cond.code Lib.Math.min.name Lib.Math.min.code 2 (some .int), Cond.methodLink RX0 84 yX0_protectionSum, Cond.instanceMethod yX0_protectionSum, Cond.selects RX0 yX0_protectionSum yX0_protectionSum, Cond.code yX0_protectionSum cX0_protectionSum 4 (some .long), Cond.fieldLink RX0 31 "JointAnnuity$Annuity" "price" "I", Cond.fieldLink RX0 34 "JointAnnuity$Annuity" "protectedPercent" "I"]
def wsX0_payIn : List Cond := .code yX0_payIn cX0_payIn 4 (some .long) :: ((wsX0_payIn_r1 ++ wsX0_payIn_r2) ++ wsX00)
def wsX0_debtAhead_r1 : List Cond := [Cond.fieldLink RX0 51 "JointAnnuity$Annuity" "keptInAll" "J", Cond.methodLink RX0 81 Lib.MathLoose.max_long.x, Cond.static Lib.MathLoose.max_long.x, Cond.initialized "java/lang/Math", Cond.code Lib.MathLoose.max_long.x Lib.MathLoose.max_long.code 4 (some .long), Cond.methodLink RX0 88 yX0_dueAhead, Cond.instanceMethod yX0_dueAhead, Cond.selects RX0 yX0_dueAhead yX0_dueAhead, Cond.initialized RX0, Cond.code yX0_dueAhead cX0_dueAhead 4 (some .long), Cond.methodLink RX0 78 yX0_sharesAhead, Cond.instanceMethod yX0_sharesAhead, Cond.selects RX0 yX0_sharesAhead yX0_sharesAhead, Cond.code yX0_sharesAhead cX0_sharesAhead 5 (some .long), Cond.fieldLink RX0 9 "JointAnnuity$Annuity" "start" "I", Cond.methodLink RX0 70 yX0_shareIn, Cond.instanceMethod yX0_shareIn, Cond.selects RX0 yX0_shareIn yX0_shareIn, Cond.code yX0_shareIn cX0_shareIn 6 (some .long), Cond.fieldLink RX0 37 "JointAnnuity$Annuity" "deaths" "[I", Cond.fieldLink RX0 18 "JointAnnuity$Annuity" "guaranteeEnd" "I", Cond.fieldLink RX0 24 "JointAnnuity$Annuity" "stepsOnFirst" "Z", Cond.fieldLink RX0 21 "JointAnnuity$Annuity" "survivorPercent" "I", Cond.constantLong RX0 68 (100)]
def wsX0_debtAhead_r2 : List Cond := [Cond.methodLink RX0 64 yX0_fullIn, Cond.instanceMethod yX0_fullIn, Cond.selects RX0 yX0_fullIn yX0_fullIn, Cond.code yX0_fullIn cX0_fullIn 2 (some .int), Cond.fieldLink RX0 41 "JointAnnuity$Annuity" "fullAmounts" "[I", Cond.methodLink RX0 74 yX0_protectionMonth, Cond.instanceMethod yX0_protectionMonth, Cond.selects RX0 yX0_protectionMonth yX0_protectionMonth, Cond.code yX0_protectionMonth cX0_protectionMonth 2 (some .int), Cond.methodLink RX0 61 Lib.Math.max.name, Cond.static Lib.Math.max.name, Cond.code Lib.Math.max.name Lib.Math.max.code 2 (some .int), Cond.methodLink RX0 55 Lib.Math.min.name, Cond.static Lib.Math.min.name, Cond.code Lib.Math.min.name Lib.Math.min.code 2 (some .int), Cond.methodLink RX0 84 yX0_protectionSum, Cond.instanceMethod yX0_protectionSum, Cond.selects RX0 yX0_protectionSum yX0_protectionSum, Cond.code yX0_protectionSum cX0_protectionSum 4 (some .long), Cond.fieldLink RX0 31 "JointAnnuity$Annuity" "price" "I", Cond.fieldLink RX0 34 "JointAnnuity$Annuity" "protectedPercent" "I"]
def wsX0_debtAhead : List Cond := .code yX0_debtAhead cX0_debtAhead 2 (some .long) :: ((wsX0_debtAhead_r1 ++ wsX0_debtAhead_r2) ++ wsX00)
def wsX1_init : List Cond := .code yX1_init cX1_init 1 none :: ([.methodLink RX1 3 objectInit, .instanceMethod objectInit, .code objectInit ⟨#[0xb1]⟩ 1 none, .classLink RX1 9 RX0, .fieldLink RX1 11 "JointAnnuity" "annuities" "[LJointAnnuity$Annuity;", .arrayClass .int, .fieldLink RX1 15 "JointAnnuity" "inflation" "[I", .fieldLink RX1 19 "JointAnnuity" "count" "I", .fieldLink RX1 23 "JointAnnuity" "monthThatGoesOn" "I"] ++ wsX10)
def wsX1_requireRange : List Cond := .code yX1_requireRange cX1_requireRange 3 none :: ([.classLink RX1 133 "java/lang/IllegalArgumentException", .initialized "java/lang/IllegalArgumentException"] ++ (vx_atS RX1 137 "java/lang/IllegalArgumentException" ["java/lang/RuntimeException", "java/lang/Exception"]).filter goodWord)
def wsX1_add_r1 : List Cond := [Cond.classLink RX1 31 "java/lang/IllegalStateException", Cond.initialized "java/lang/IllegalStateException", Cond.fieldLink RX1 23 "JointAnnuity" "monthThatGoesOn" "I", Cond.constant RX1 30 (100000), Cond.fieldLink RX1 19 "JointAnnuity" "count" "I", Cond.fieldLink RX1 11 "JointAnnuity" "annuities" "[LJointAnnuity$Annuity;", Cond.classLink RX1 9 RX0, Cond.instantiable RX0 13, Cond.initialized RX0, Cond.fieldLink RX1 15 "JointAnnuity" "inflation" "[I", Cond.methodLink RX1 26 yX1_requireRange, Cond.static yX1_requireRange, Cond.initialized RX1, Cond.code yX1_requireRange cX1_requireRange 3 none, Cond.classLink RX1 133 "java/lang/IllegalArgumentException", Cond.initialized "java/lang/IllegalArgumentException", Cond.methodLink RX1 38 yX0_init, Cond.instanceMethod yX0_init, Cond.code yX0_init cX0_init 4 none, Cond.methodLink RX0 3 objectInit, Cond.instanceMethod objectInit, Cond.code objectInit ⟨#[0xb1]⟩ 1 none, Cond.fieldLink RX0 9 "JointAnnuity$Annuity" "start" "I", Cond.fieldLink RX0 15 "JointAnnuity$Annuity" "amount" "I"]
def wsX1_add_r2 : List Cond := [Cond.fieldLink RX0 18 "JointAnnuity$Annuity" "guaranteeEnd" "I", Cond.fieldLink RX0 21 "JointAnnuity$Annuity" "survivorPercent" "I", Cond.fieldLink RX0 24 "JointAnnuity$Annuity" "stepsOnFirst" "Z", Cond.fieldLink RX0 28 "JointAnnuity$Annuity" "cap" "I", Cond.fieldLink RX0 31 "JointAnnuity$Annuity" "price" "I", Cond.fieldLink RX0 34 "JointAnnuity$Annuity" "protectedPercent" "I", Cond.arrayClass .int, Cond.fieldLink RX0 37 "JointAnnuity$Annuity" "deaths" "[I", Cond.fieldLink RX0 41 "JointAnnuity$Annuity" "fullAmounts" "[I", Cond.fieldLink RX0 44 "JointAnnuity$Annuity" "carries" "[I", Cond.arrayClass .long, Cond.fieldLink RX0 47 "JointAnnuity$Annuity" "payments" "[J", Cond.fieldLink RX0 51 "JointAnnuity$Annuity" "keptInAll" "J", Cond.methodLink RX1 40 yX0_growBy, Cond.instanceMethod yX0_growBy, Cond.selects RX0 yX0_growBy yX0_growBy, Cond.code yX0_growBy cX0_growBy 8 none, Cond.methodLink RX0 55 Lib.Math.min.name, Cond.static Lib.Math.min.name, Cond.initialized "java/lang/Math", Cond.code Lib.Math.min.name Lib.Math.min.code 2 (some .int), Cond.methodLink RX0 61 Lib.Math.max.name, Cond.static Lib.Math.max.name, Cond.code Lib.Math.max.name Lib.Math.max.code 2 (some .int)]
def wsX1_add : List Cond := .code yX1_add cX1_add 5 (some .int) :: ((wsX1_add_r1 ++ wsX1_add_r2) ++ wsX10 ++ wsX00 ++ (vx_atS RX1 35 "java/lang/IllegalStateException" ["java/lang/RuntimeException", "java/lang/Exception"]).filter goodWord ++ (vx_atS RX1 137 "java/lang/IllegalArgumentException" ["java/lang/RuntimeException", "java/lang/Exception"]).filter goodWord)
def wsX1_find : List Cond := .code yX1_find cX1_find 3 (some (.object "JointAnnuity$Annuity")) :: ([.classLink RX1 123 "java/lang/IndexOutOfBoundsException", .initialized "java/lang/IndexOutOfBoundsException", .fieldLink RX1 11 "JointAnnuity" "annuities" "[LJointAnnuity$Annuity;"] ++ wsX10 ++ (vx_atS RX1 127 "java/lang/IndexOutOfBoundsException" ["java/lang/RuntimeException", "java/lang/Exception"]).filter goodWord)
def wsX1_requireStartNotRun : List Cond := .code yX1_requireStartNotRun cX1_requireStartNotRun 2 none :: ([.classLink RX1 31 "java/lang/IllegalStateException", .initialized "java/lang/IllegalStateException", .fieldLink RX1 128 "JointAnnuity$Annuity" "start" "I", .fieldLink RX1 23 "JointAnnuity" "monthThatGoesOn" "I"] ++ wsX00 ++ wsX10 ++ (vx_atS RX1 35 "java/lang/IllegalStateException" ["java/lang/RuntimeException", "java/lang/Exception"]).filter goodWord)
def wsX1_setSurvivor : List Cond := .code yX1_setSurvivor cX1_setSurvivor 5 none :: ([.fieldLink RX1 52 "JointAnnuity$Annuity" "survivorPercent" "I", .fieldLink RX1 55 "JointAnnuity$Annuity" "stepsOnFirst" "Z", .methodLink RX1 44 yX1_find, .instanceMethod yX1_find, .selects RX1 yX1_find yX1_find, .initialized RX1, .code yX1_find cX1_find 3 (some (.object "JointAnnuity$Annuity")), .classLink RX1 123 "java/lang/IndexOutOfBoundsException", .initialized "java/lang/IndexOutOfBoundsException", .fieldLink RX1 11 "JointAnnuity" "annuities" "[LJointAnnuity$Annuity;", .methodLink RX1 26 yX1_requireRange, .static yX1_requireRange, .code yX1_requireRange cX1_requireRange 3 none, .classLink RX1 133 "java/lang/IllegalArgumentException", .initialized "java/lang/IllegalArgumentException", .methodLink RX1 48 yX1_requireStartNotRun, .instanceMethod yX1_requireStartNotRun, .selects RX1 yX1_requireStartNotRun yX1_requireStartNotRun, .code yX1_requireStartNotRun cX1_requireStartNotRun 2 none, .classLink RX1 31 "java/lang/IllegalStateException", .initialized "java/lang/IllegalStateException", .fieldLink RX1 128 "JointAnnuity$Annuity" "start" "I", .fieldLink RX1 23 "JointAnnuity" "monthThatGoesOn" "I"] ++ wsX00 ++ wsX10 ++ (vx_atS RX1 127 "java/lang/IndexOutOfBoundsException" ["java/lang/RuntimeException", "java/lang/Exception"]).filter goodWord ++ (vx_atS RX1 137 "java/lang/IllegalArgumentException" ["java/lang/RuntimeException", "java/lang/Exception"]).filter goodWord ++ (vx_atS RX1 35 "java/lang/IllegalStateException" ["java/lang/RuntimeException", "java/lang/Exception"]).filter goodWord)
def wsX1_setCap_r1 : List Cond := [Cond.fieldLink RX1 59 "JointAnnuity$Annuity" "cap" "I", Cond.fieldLink RX1 15 "JointAnnuity" "inflation" "[I", Cond.methodLink RX1 44 yX1_find, Cond.instanceMethod yX1_find, Cond.selects RX1 yX1_find yX1_find, Cond.initialized RX1, Cond.code yX1_find cX1_find 3 (some (.object "JointAnnuity$Annuity")), Cond.classLink RX1 123 "java/lang/IndexOutOfBoundsException", Cond.initialized "java/lang/IndexOutOfBoundsException", Cond.fieldLink RX1 11 "JointAnnuity" "annuities" "[LJointAnnuity$Annuity;", Cond.methodLink RX1 26 yX1_requireRange, Cond.static yX1_requireRange, Cond.code yX1_requireRange cX1_requireRange 3 none, Cond.classLink RX1 133 "java/lang/IllegalArgumentException", Cond.initialized "java/lang/IllegalArgumentException", Cond.methodLink RX1 48 yX1_requireStartNotRun, Cond.instanceMethod yX1_requireStartNotRun, Cond.selects RX1 yX1_requireStartNotRun yX1_requireStartNotRun, Cond.code yX1_requireStartNotRun cX1_requireStartNotRun 2 none, Cond.classLink RX1 31 "java/lang/IllegalStateException", Cond.initialized "java/lang/IllegalStateException", Cond.fieldLink RX1 128 "JointAnnuity$Annuity" "start" "I", Cond.fieldLink RX1 23 "JointAnnuity" "monthThatGoesOn" "I", Cond.methodLink RX1 40 yX0_growBy]
def wsX1_setCap_r2 : List Cond := [Cond.instanceMethod yX0_growBy, Cond.selects RX0 yX0_growBy yX0_growBy, Cond.initialized RX0, Cond.code yX0_growBy cX0_growBy 8 none, Cond.fieldLink RX0 15 "JointAnnuity$Annuity" "amount" "I", Cond.fieldLink RX0 41 "JointAnnuity$Annuity" "fullAmounts" "[I", Cond.fieldLink RX0 44 "JointAnnuity$Annuity" "carries" "[I", Cond.fieldLink RX0 9 "JointAnnuity$Annuity" "start" "I", Cond.fieldLink RX0 28 "JointAnnuity$Annuity" "cap" "I", Cond.methodLink RX0 55 Lib.Math.min.name, Cond.static Lib.Math.min.name, Cond.initialized "java/lang/Math", Cond.code Lib.Math.min.name Lib.Math.min.code 2 (some .int), Cond.methodLink RX0 61 Lib.Math.max.name, Cond.static Lib.Math.max.name, Cond.code Lib.Math.max.name Lib.Math.max.code 2 (some .int)]
def wsX1_setCap : List Cond := .code yX1_setCap cX1_setCap 4 none :: ((wsX1_setCap_r1 ++ wsX1_setCap_r2) ++ wsX00 ++ wsX10 ++ (vx_atS RX1 127 "java/lang/IndexOutOfBoundsException" ["java/lang/RuntimeException", "java/lang/Exception"]).filter goodWord ++ (vx_atS RX1 137 "java/lang/IllegalArgumentException" ["java/lang/RuntimeException", "java/lang/Exception"]).filter goodWord ++ (vx_atS RX1 35 "java/lang/IllegalStateException" ["java/lang/RuntimeException", "java/lang/Exception"]).filter goodWord)
def wsX1_protect : List Cond := .code yX1_protect cX1_protect 5 none :: ([.constant RX1 62 (10000000), .fieldLink RX1 63 "JointAnnuity$Annuity" "price" "I", .fieldLink RX1 66 "JointAnnuity$Annuity" "protectedPercent" "I", .methodLink RX1 44 yX1_find, .instanceMethod yX1_find, .selects RX1 yX1_find yX1_find, .initialized RX1, .code yX1_find cX1_find 3 (some (.object "JointAnnuity$Annuity")), .classLink RX1 123 "java/lang/IndexOutOfBoundsException", .initialized "java/lang/IndexOutOfBoundsException", .fieldLink RX1 11 "JointAnnuity" "annuities" "[LJointAnnuity$Annuity;", .methodLink RX1 26 yX1_requireRange, .static yX1_requireRange, .code yX1_requireRange cX1_requireRange 3 none, .classLink RX1 133 "java/lang/IllegalArgumentException", .initialized "java/lang/IllegalArgumentException", .methodLink RX1 48 yX1_requireStartNotRun, .instanceMethod yX1_requireStartNotRun, .selects RX1 yX1_requireStartNotRun yX1_requireStartNotRun, .code yX1_requireStartNotRun cX1_requireStartNotRun 2 none, .classLink RX1 31 "java/lang/IllegalStateException", .initialized "java/lang/IllegalStateException", .fieldLink RX1 128 "JointAnnuity$Annuity" "start" "I", .fieldLink RX1 23 "JointAnnuity" "monthThatGoesOn" "I"] ++ wsX00 ++ wsX10 ++ (vx_atS RX1 127 "java/lang/IndexOutOfBoundsException" ["java/lang/RuntimeException", "java/lang/Exception"]).filter goodWord ++ (vx_atS RX1 137 "java/lang/IllegalArgumentException" ["java/lang/RuntimeException", "java/lang/Exception"]).filter goodWord ++ (vx_atS RX1 35 "java/lang/IllegalStateException" ["java/lang/RuntimeException", "java/lang/Exception"]).filter goodWord)
def wsX1_setInflation_r1 : List Cond := [Cond.fieldLink RX1 15 "JointAnnuity" "inflation" "[I", Cond.fieldLink RX1 11 "JointAnnuity" "annuities" "[LJointAnnuity$Annuity;", Cond.methodLink RX1 26 yX1_requireRange, Cond.static yX1_requireRange, Cond.initialized RX1, Cond.code yX1_requireRange cX1_requireRange 3 none, Cond.classLink RX1 133 "java/lang/IllegalArgumentException", Cond.initialized "java/lang/IllegalArgumentException", Cond.methodLink RX1 40 yX0_growBy, Cond.instanceMethod yX0_growBy, Cond.selects RX0 yX0_growBy yX0_growBy, Cond.initialized RX0, Cond.code yX0_growBy cX0_growBy 8 none, Cond.fieldLink RX0 15 "JointAnnuity$Annuity" "amount" "I", Cond.fieldLink RX0 41 "JointAnnuity$Annuity" "fullAmounts" "[I", Cond.fieldLink RX0 44 "JointAnnuity$Annuity" "carries" "[I", Cond.fieldLink RX0 9 "JointAnnuity$Annuity" "start" "I", Cond.fieldLink RX0 28 "JointAnnuity$Annuity" "cap" "I", Cond.methodLink RX0 55 Lib.Math.min.name, Cond.static Lib.Math.min.name, Cond.initialized "java/lang/Math", Cond.code Lib.Math.min.name Lib.Math.min.code 2 (some .int), Cond.methodLink RX0 61 Lib.Math.max.name, Cond.static Lib.Math.max.name]
def wsX1_setInflation_r2 : List Cond := [Cond.code Lib.Math.max.name Lib.Math.max.code 2 (some .int)]
def wsX1_setInflation : List Cond := .code yX1_setInflation cX1_setInflation 8 (some .int) :: ((wsX1_setInflation_r1 ++ wsX1_setInflation_r2) ++ wsX10 ++ wsX00 ++ (vx_atS RX1 137 "java/lang/IllegalArgumentException" ["java/lang/RuntimeException", "java/lang/Exception"]).filter goodWord)
def wsX1_die : List Cond := .code yX1_die cX1_die 5 none :: ([.classLink RX1 31 "java/lang/IllegalStateException", .initialized "java/lang/IllegalStateException", .fieldLink RX1 23 "JointAnnuity" "monthThatGoesOn" "I", .methodLink RX1 69 Lib.Math.min.name, .static Lib.Math.min.name, .initialized "java/lang/Math", .code Lib.Math.min.name Lib.Math.min.code 2 (some .int), .fieldLink RX1 75 "JointAnnuity$Annuity" "deaths" "[I", .methodLink RX1 44 yX1_find, .instanceMethod yX1_find, .selects RX1 yX1_find yX1_find, .initialized RX1, .code yX1_find cX1_find 3 (some (.object "JointAnnuity$Annuity")), .classLink RX1 123 "java/lang/IndexOutOfBoundsException", .initialized "java/lang/IndexOutOfBoundsException", .fieldLink RX1 11 "JointAnnuity" "annuities" "[LJointAnnuity$Annuity;", .methodLink RX1 26 yX1_requireRange, .static yX1_requireRange, .code yX1_requireRange cX1_requireRange 3 none, .classLink RX1 133 "java/lang/IllegalArgumentException", .initialized "java/lang/IllegalArgumentException"] ++ wsX10 ++ wsX00 ++ (vx_atS RX1 35 "java/lang/IllegalStateException" ["java/lang/RuntimeException", "java/lang/Exception"]).filter goodWord ++ (vx_atS RX1 127 "java/lang/IndexOutOfBoundsException" ["java/lang/RuntimeException", "java/lang/Exception"]).filter goodWord ++ (vx_atS RX1 137 "java/lang/IllegalArgumentException" ["java/lang/RuntimeException", "java/lang/Exception"]).filter goodWord)
def wsX1_takeBack : List Cond := .code yX1_takeBack cX1_takeBack 5 (some .int) :: ([.classLink RX1 31 "java/lang/IllegalStateException", .initialized "java/lang/IllegalStateException", .fieldLink RX1 75 "JointAnnuity$Annuity" "deaths" "[I", .methodLink RX1 44 yX1_find, .instanceMethod yX1_find, .selects RX1 yX1_find yX1_find, .initialized RX1, .code yX1_find cX1_find 3 (some (.object "JointAnnuity$Annuity")), .classLink RX1 123 "java/lang/IndexOutOfBoundsException", .initialized "java/lang/IndexOutOfBoundsException", .fieldLink RX1 11 "JointAnnuity" "annuities" "[LJointAnnuity$Annuity;", .methodLink RX1 26 yX1_requireRange, .static yX1_requireRange, .code yX1_requireRange cX1_requireRange 3 none, .classLink RX1 133 "java/lang/IllegalArgumentException", .initialized "java/lang/IllegalArgumentException"] ++ wsX00 ++ wsX10 ++ (vx_atS RX1 35 "java/lang/IllegalStateException" ["java/lang/RuntimeException", "java/lang/Exception"]).filter goodWord ++ (vx_atS RX1 127 "java/lang/IndexOutOfBoundsException" ["java/lang/RuntimeException", "java/lang/Exception"]).filter goodWord ++ (vx_atS RX1 137 "java/lang/IllegalArgumentException" ["java/lang/RuntimeException", "java/lang/Exception"]).filter goodWord)
def wsX1_run_r1 : List Cond := [Cond.classLink RX1 31 "java/lang/IllegalStateException", Cond.initialized "java/lang/IllegalStateException", Cond.fieldLink RX1 23 "JointAnnuity" "monthThatGoesOn" "I", Cond.fieldLink RX1 11 "JointAnnuity" "annuities" "[LJointAnnuity$Annuity;", Cond.methodLink RX1 84 yX0_payIn, Cond.instanceMethod yX0_payIn, Cond.selects RX0 yX0_payIn yX0_payIn, Cond.initialized RX0, Cond.code yX0_payIn cX0_payIn 4 (some .long), Cond.fieldLink RX0 51 "JointAnnuity$Annuity" "keptInAll" "J", Cond.methodLink RX0 81 Lib.MathLoose.max_long.x, Cond.static Lib.MathLoose.max_long.x, Cond.initialized "java/lang/Math", Cond.code Lib.MathLoose.max_long.x Lib.MathLoose.max_long.code 4 (some .long), Cond.fieldLink RX0 47 "JointAnnuity$Annuity" "payments" "[J", Cond.methodLink RX0 88 yX0_dueAhead, Cond.instanceMethod yX0_dueAhead, Cond.selects RX0 yX0_dueAhead yX0_dueAhead, Cond.code yX0_dueAhead cX0_dueAhead 4 (some .long), Cond.methodLink RX0 78 yX0_sharesAhead, Cond.instanceMethod yX0_sharesAhead, Cond.selects RX0 yX0_sharesAhead yX0_sharesAhead, Cond.code yX0_sharesAhead cX0_sharesAhead 5 (some .long), Cond.fieldLink RX0 9 "JointAnnuity$Annuity" "start" "I"]
def wsX1_run_r2 : List Cond := [Cond.methodLink RX0 70 yX0_shareIn, Cond.instanceMethod yX0_shareIn, Cond.selects RX0 yX0_shareIn yX0_shareIn, Cond.code yX0_shareIn cX0_shareIn 6 (some .long), Cond.fieldLink RX0 37 "JointAnnuity$Annuity" "deaths" "[I", Cond.fieldLink RX0 18 "JointAnnuity$Annuity" "guaranteeEnd" "I", Cond.fieldLink RX0 24 "JointAnnuity$Annuity" "stepsOnFirst" "Z", Cond.fieldLink RX0 21 "JointAnnuity$Annuity" "survivorPercent" "I", Cond.constantLong RX0 68 (100), Cond.methodLink RX0 64 yX0_fullIn, Cond.instanceMethod yX0_fullIn, Cond.selects RX0 yX0_fullIn yX0_fullIn, Cond.code yX0_fullIn cX0_fullIn 2 (some .int), Cond.fieldLink RX0 41 "JointAnnuity$Annuity" "fullAmounts" "[I", Cond.methodLink RX0 74 yX0_protectionMonth, Cond.instanceMethod yX0_protectionMonth, Cond.selects RX0 yX0_protectionMonth yX0_protectionMonth, Cond.code yX0_protectionMonth cX0_protectionMonth 2 (some .int), Cond.methodLink RX0 61 Lib.Math.max.name, Cond.static Lib.Math.max.name, Cond.code Lib.Math.max.name Lib.Math.max.code 2 (some .int), Cond.methodLink RX0 55 Lib.Math.min.name, Cond.static Lib.Math.min.name, Cond.code Lib.Math.min.name Lib.Math.min.code 2 (some .int)]
def wsX1_run_r3 : List Cond := [Cond.methodLink RX0 84 yX0_protectionSum, Cond.instanceMethod yX0_protectionSum, Cond.selects RX0 yX0_protectionSum yX0_protectionSum, Cond.code yX0_protectionSum cX0_protectionSum 4 (some .long), Cond.fieldLink RX0 31 "JointAnnuity$Annuity" "price" "I", Cond.fieldLink RX0 34 "JointAnnuity$Annuity" "protectedPercent" "I"]
def wsX1_run : List Cond := .code yX1_run cX1_run 7 (some .long) :: ((wsX1_run_r1 ++ (wsX1_run_r2 ++ wsX1_run_r3)) ++ wsX10 ++ wsX00 ++ (vx_atS RX1 35 "java/lang/IllegalStateException" ["java/lang/RuntimeException", "java/lang/Exception"]).filter goodWord)
def wsX1_month : List Cond := .code yX1_month cX1_month 1 (some .int) :: ([.fieldLink RX1 23 "JointAnnuity" "monthThatGoesOn" "I"] ++ wsX10)
def wsX1_giveBack_r1 : List Cond := [Cond.classLink RX1 31 "java/lang/IllegalStateException", Cond.initialized "java/lang/IllegalStateException", Cond.constant RX1 88 (100000000), Cond.fieldLink RX1 23 "JointAnnuity" "monthThatGoesOn" "I", Cond.fieldLink RX1 94 "JointAnnuity$Annuity" "keptInAll" "J", Cond.methodLink RX1 44 yX1_find, Cond.instanceMethod yX1_find, Cond.selects RX1 yX1_find yX1_find, Cond.initialized RX1, Cond.code yX1_find cX1_find 3 (some (.object "JointAnnuity$Annuity")), Cond.classLink RX1 123 "java/lang/IndexOutOfBoundsException", Cond.initialized "java/lang/IndexOutOfBoundsException", Cond.fieldLink RX1 11 "JointAnnuity" "annuities" "[LJointAnnuity$Annuity;", Cond.methodLink RX1 26 yX1_requireRange, Cond.static yX1_requireRange, Cond.code yX1_requireRange cX1_requireRange 3 none, Cond.classLink RX1 133 "java/lang/IllegalArgumentException", Cond.initialized "java/lang/IllegalArgumentException", Cond.methodLink RX1 89 yX0_debtAhead, Cond.instanceMethod yX0_debtAhead, Cond.selects RX0 yX0_debtAhead yX0_debtAhead, Cond.initialized RX0, Cond.code yX0_debtAhead cX0_debtAhead 2 (some .long), Cond.fieldLink RX0 51 "JointAnnuity$Annuity" "keptInAll" "J"]
def wsX1_giveBack_r2 : List Cond := [Cond.methodLink RX0 81 Lib.MathLoose.max_long.x, Cond.static Lib.MathLoose.max_long.x, Cond.initialized "java/lang/Math", Cond.code Lib.MathLoose.max_long.x Lib.MathLoose.max_long.code 4 (some .long), Cond.methodLink RX0 88 yX0_dueAhead, Cond.instanceMethod yX0_dueAhead, Cond.selects RX0 yX0_dueAhead yX0_dueAhead, Cond.code yX0_dueAhead cX0_dueAhead 4 (some .long), Cond.methodLink RX0 78 yX0_sharesAhead, Cond.instanceMethod yX0_sharesAhead, Cond.selects RX0 yX0_sharesAhead yX0_sharesAhead, Cond.code yX0_sharesAhead cX0_sharesAhead 5 (some .long), Cond.fieldLink RX0 9 "JointAnnuity$Annuity" "start" "I", Cond.methodLink RX0 70 yX0_shareIn, Cond.instanceMethod yX0_shareIn, Cond.selects RX0 yX0_shareIn yX0_shareIn, Cond.code yX0_shareIn cX0_shareIn 6 (some .long), Cond.fieldLink RX0 37 "JointAnnuity$Annuity" "deaths" "[I", Cond.fieldLink RX0 18 "JointAnnuity$Annuity" "guaranteeEnd" "I", Cond.fieldLink RX0 24 "JointAnnuity$Annuity" "stepsOnFirst" "Z", Cond.fieldLink RX0 21 "JointAnnuity$Annuity" "survivorPercent" "I", Cond.constantLong RX0 68 (100), Cond.methodLink RX0 64 yX0_fullIn, Cond.instanceMethod yX0_fullIn]
def wsX1_giveBack_r3 : List Cond := [Cond.selects RX0 yX0_fullIn yX0_fullIn, Cond.code yX0_fullIn cX0_fullIn 2 (some .int), Cond.fieldLink RX0 41 "JointAnnuity$Annuity" "fullAmounts" "[I", Cond.methodLink RX0 74 yX0_protectionMonth, Cond.instanceMethod yX0_protectionMonth, Cond.selects RX0 yX0_protectionMonth yX0_protectionMonth, Cond.code yX0_protectionMonth cX0_protectionMonth 2 (some .int), Cond.methodLink RX0 61 Lib.Math.max.name, Cond.static Lib.Math.max.name, Cond.code Lib.Math.max.name Lib.Math.max.code 2 (some .int), Cond.methodLink RX0 55 Lib.Math.min.name, Cond.static Lib.Math.min.name, Cond.code Lib.Math.min.name Lib.Math.min.code 2 (some .int), Cond.methodLink RX0 84 yX0_protectionSum, Cond.instanceMethod yX0_protectionSum, Cond.selects RX0 yX0_protectionSum yX0_protectionSum, Cond.code yX0_protectionSum cX0_protectionSum 4 (some .long), Cond.fieldLink RX0 31 "JointAnnuity$Annuity" "price" "I", Cond.fieldLink RX0 34 "JointAnnuity$Annuity" "protectedPercent" "I"]
def wsX1_giveBack : List Cond := .code yX1_giveBack cX1_giveBack 6 (some .long) :: ((wsX1_giveBack_r1 ++ (wsX1_giveBack_r2 ++ wsX1_giveBack_r3)) ++ wsX10 ++ wsX00 ++ (vx_atS RX1 35 "java/lang/IllegalStateException" ["java/lang/RuntimeException", "java/lang/Exception"]).filter goodWord ++ (vx_atS RX1 127 "java/lang/IndexOutOfBoundsException" ["java/lang/RuntimeException", "java/lang/Exception"]).filter goodWord ++ (vx_atS RX1 137 "java/lang/IllegalArgumentException" ["java/lang/RuntimeException", "java/lang/Exception"]).filter goodWord)
def wsX1_paid : List Cond := .code yX1_paid cX1_paid 4 (some .long) :: ([.fieldLink RX1 23 "JointAnnuity" "monthThatGoesOn" "I", .fieldLink RX1 98 "JointAnnuity$Annuity" "payments" "[J", .methodLink RX1 44 yX1_find, .instanceMethod yX1_find, .selects RX1 yX1_find yX1_find, .initialized RX1, .code yX1_find cX1_find 3 (some (.object "JointAnnuity$Annuity")), .classLink RX1 123 "java/lang/IndexOutOfBoundsException", .initialized "java/lang/IndexOutOfBoundsException", .fieldLink RX1 11 "JointAnnuity" "annuities" "[LJointAnnuity$Annuity;", .methodLink RX1 26 yX1_requireRange, .static yX1_requireRange, .code yX1_requireRange cX1_requireRange 3 none, .classLink RX1 133 "java/lang/IllegalArgumentException", .initialized "java/lang/IllegalArgumentException"] ++ wsX10 ++ wsX00 ++ (vx_atS RX1 127 "java/lang/IndexOutOfBoundsException" ["java/lang/RuntimeException", "java/lang/Exception"]).filter goodWord ++ (vx_atS RX1 137 "java/lang/IllegalArgumentException" ["java/lang/RuntimeException", "java/lang/Exception"]).filter goodWord)
def wsX1_paidInAll : List Cond := .code yX1_paidInAll cX1_paidInAll 2 (some .long) :: ([.fieldLink RX1 94 "JointAnnuity$Annuity" "keptInAll" "J", .methodLink RX1 44 yX1_find, .instanceMethod yX1_find, .selects RX1 yX1_find yX1_find, .initialized RX1, .code yX1_find cX1_find 3 (some (.object "JointAnnuity$Annuity")), .classLink RX1 123 "java/lang/IndexOutOfBoundsException", .initialized "java/lang/IndexOutOfBoundsException", .fieldLink RX1 11 "JointAnnuity" "annuities" "[LJointAnnuity$Annuity;"] ++ wsX00 ++ wsX10 ++ (vx_atS RX1 127 "java/lang/IndexOutOfBoundsException" ["java/lang/RuntimeException", "java/lang/Exception"]).filter goodWord)
def wsX1_owes_r1 : List Cond := [Cond.fieldLink RX1 23 "JointAnnuity" "monthThatGoesOn" "I", Cond.methodLink RX1 44 yX1_find, Cond.instanceMethod yX1_find, Cond.selects RX1 yX1_find yX1_find, Cond.initialized RX1, Cond.code yX1_find cX1_find 3 (some (.object "JointAnnuity$Annuity")), Cond.classLink RX1 123 "java/lang/IndexOutOfBoundsException", Cond.initialized "java/lang/IndexOutOfBoundsException", Cond.fieldLink RX1 11 "JointAnnuity" "annuities" "[LJointAnnuity$Annuity;", Cond.methodLink RX1 89 yX0_debtAhead, Cond.instanceMethod yX0_debtAhead, Cond.selects RX0 yX0_debtAhead yX0_debtAhead, Cond.initialized RX0, Cond.code yX0_debtAhead cX0_debtAhead 2 (some .long), Cond.fieldLink RX0 51 "JointAnnuity$Annuity" "keptInAll" "J", Cond.methodLink RX0 81 Lib.MathLoose.max_long.x, Cond.static Lib.MathLoose.max_long.x, Cond.initialized "java/lang/Math", Cond.code Lib.MathLoose.max_long.x Lib.MathLoose.max_long.code 4 (some .long), Cond.methodLink RX0 88 yX0_dueAhead, Cond.instanceMethod yX0_dueAhead, Cond.selects RX0 yX0_dueAhead yX0_dueAhead, Cond.code yX0_dueAhead cX0_dueAhead 4 (some .long), Cond.methodLink RX0 78 yX0_sharesAhead]
def wsX1_owes_r2 : List Cond := [Cond.instanceMethod yX0_sharesAhead, Cond.selects RX0 yX0_sharesAhead yX0_sharesAhead, Cond.code yX0_sharesAhead cX0_sharesAhead 5 (some .long), Cond.fieldLink RX0 9 "JointAnnuity$Annuity" "start" "I", Cond.methodLink RX0 70 yX0_shareIn, Cond.instanceMethod yX0_shareIn, Cond.selects RX0 yX0_shareIn yX0_shareIn, Cond.code yX0_shareIn cX0_shareIn 6 (some .long), Cond.fieldLink RX0 37 "JointAnnuity$Annuity" "deaths" "[I", Cond.fieldLink RX0 18 "JointAnnuity$Annuity" "guaranteeEnd" "I", Cond.fieldLink RX0 24 "JointAnnuity$Annuity" "stepsOnFirst" "Z", Cond.fieldLink RX0 21 "JointAnnuity$Annuity" "survivorPercent" "I", Cond.constantLong RX0 68 (100), Cond.methodLink RX0 64 yX0_fullIn, Cond.instanceMethod yX0_fullIn, Cond.selects RX0 yX0_fullIn yX0_fullIn, Cond.code yX0_fullIn cX0_fullIn 2 (some .int), Cond.fieldLink RX0 41 "JointAnnuity$Annuity" "fullAmounts" "[I", Cond.methodLink RX0 74 yX0_protectionMonth, Cond.instanceMethod yX0_protectionMonth, Cond.selects RX0 yX0_protectionMonth yX0_protectionMonth, Cond.code yX0_protectionMonth cX0_protectionMonth 2 (some .int), Cond.methodLink RX0 61 Lib.Math.max.name, Cond.static Lib.Math.max.name]
def wsX1_owes_r3 : List Cond := [Cond.code Lib.Math.max.name Lib.Math.max.code 2 (some .int), Cond.methodLink RX0 55 Lib.Math.min.name, Cond.static Lib.Math.min.name, Cond.code Lib.Math.min.name Lib.Math.min.code 2 (some .int), Cond.methodLink RX0 84 yX0_protectionSum, Cond.instanceMethod yX0_protectionSum, Cond.selects RX0 yX0_protectionSum yX0_protectionSum, Cond.code yX0_protectionSum cX0_protectionSum 4 (some .long), Cond.fieldLink RX0 31 "JointAnnuity$Annuity" "price" "I", Cond.fieldLink RX0 34 "JointAnnuity$Annuity" "protectedPercent" "I"]
def wsX1_owes : List Cond := .code yX1_owes cX1_owes 2 (some .long) :: ((wsX1_owes_r1 ++ (wsX1_owes_r2 ++ wsX1_owes_r3)) ++ wsX10 ++ wsX00 ++ (vx_atS RX1 127 "java/lang/IndexOutOfBoundsException" ["java/lang/RuntimeException", "java/lang/Exception"]).filter goodWord)
def wsX1_requireMonth : List Cond := .code yX1_requireMonth cX1_requireMonth 1 none :: ([.methodLink RX1 26 yX1_requireRange, .static yX1_requireRange, .initialized RX1, .code yX1_requireRange cX1_requireRange 3 none, .classLink RX1 133 "java/lang/IllegalArgumentException", .initialized "java/lang/IllegalArgumentException"] ++ (vx_atS RX1 137 "java/lang/IllegalArgumentException" ["java/lang/RuntimeException", "java/lang/Exception"]).filter goodWord)
def wsX1_fullAmount : List Cond := .code yX1_fullAmount cX1_fullAmount 4 (some .int) :: ([.methodLink RX1 44 yX1_find, .instanceMethod yX1_find, .selects RX1 yX1_find yX1_find, .initialized RX1, .code yX1_find cX1_find 3 (some (.object "JointAnnuity$Annuity")), .classLink RX1 123 "java/lang/IndexOutOfBoundsException", .initialized "java/lang/IndexOutOfBoundsException", .fieldLink RX1 11 "JointAnnuity" "annuities" "[LJointAnnuity$Annuity;", .methodLink RX1 102 yX1_requireMonth, .static yX1_requireMonth, .code yX1_requireMonth cX1_requireMonth 1 none, .methodLink RX1 26 yX1_requireRange, .static yX1_requireRange, .code yX1_requireRange cX1_requireRange 3 none, .classLink RX1 133 "java/lang/IllegalArgumentException", .initialized "java/lang/IllegalArgumentException", .methodLink RX1 106 yX0_fullIn, .instanceMethod yX0_fullIn, .selects RX0 yX0_fullIn yX0_fullIn, .initialized RX0, .code yX0_fullIn cX0_fullIn 2 (some .int), .fieldLink RX0 9 "JointAnnuity$Annuity" "start" "I", .fieldLink RX0 41 "JointAnnuity$Annuity" "fullAmounts" "[I"] ++ wsX10 ++ wsX00 ++ (vx_atS RX1 127 "java/lang/IndexOutOfBoundsException" ["java/lang/RuntimeException", "java/lang/Exception"]).filter goodWord ++ (vx_atS RX1 137 "java/lang/IllegalArgumentException" ["java/lang/RuntimeException", "java/lang/Exception"]).filter goodWord)
def wsX1_carry : List Cond := .code yX1_carry cX1_carry 4 (some .int) :: ([.methodLink RX1 44 yX1_find, .instanceMethod yX1_find, .selects RX1 yX1_find yX1_find, .initialized RX1, .code yX1_find cX1_find 3 (some (.object "JointAnnuity$Annuity")), .classLink RX1 123 "java/lang/IndexOutOfBoundsException", .initialized "java/lang/IndexOutOfBoundsException", .fieldLink RX1 11 "JointAnnuity" "annuities" "[LJointAnnuity$Annuity;", .methodLink RX1 102 yX1_requireMonth, .static yX1_requireMonth, .code yX1_requireMonth cX1_requireMonth 1 none, .methodLink RX1 26 yX1_requireRange, .static yX1_requireRange, .code yX1_requireRange cX1_requireRange 3 none, .classLink RX1 133 "java/lang/IllegalArgumentException", .initialized "java/lang/IllegalArgumentException", .methodLink RX1 110 yX0_carryIn, .instanceMethod yX0_carryIn, .selects RX0 yX0_carryIn yX0_carryIn, .initialized RX0, .code yX0_carryIn cX0_carryIn 2 (some .int), .fieldLink RX0 9 "JointAnnuity$Annuity" "start" "I", .fieldLink RX0 44 "JointAnnuity$Annuity" "carries" "[I"] ++ wsX10 ++ wsX00 ++ (vx_atS RX1 127 "java/lang/IndexOutOfBoundsException" ["java/lang/RuntimeException", "java/lang/Exception"]).filter goodWord ++ (vx_atS RX1 137 "java/lang/IllegalArgumentException" ["java/lang/RuntimeException", "java/lang/Exception"]).filter goodWord)
def wsX1_entitled_r1 : List Cond := [Cond.methodLink RX1 44 yX1_find, Cond.instanceMethod yX1_find, Cond.selects RX1 yX1_find yX1_find, Cond.initialized RX1, Cond.code yX1_find cX1_find 3 (some (.object "JointAnnuity$Annuity")), Cond.classLink RX1 123 "java/lang/IndexOutOfBoundsException", Cond.initialized "java/lang/IndexOutOfBoundsException", Cond.fieldLink RX1 11 "JointAnnuity" "annuities" "[LJointAnnuity$Annuity;", Cond.methodLink RX1 102 yX1_requireMonth, Cond.static yX1_requireMonth, Cond.code yX1_requireMonth cX1_requireMonth 1 none, Cond.methodLink RX1 26 yX1_requireRange, Cond.static yX1_requireRange, Cond.code yX1_requireRange cX1_requireRange 3 none, Cond.classLink RX1 133 "java/lang/IllegalArgumentException", Cond.initialized "java/lang/IllegalArgumentException", Cond.methodLink RX1 113 yX0_dueIn, Cond.instanceMethod yX0_dueIn, Cond.selects RX0 yX0_dueIn yX0_dueIn, Cond.initialized RX0, Cond.code yX0_dueIn cX0_dueIn 4 (some .long), Cond.methodLink RX0 70 yX0_shareIn, Cond.instanceMethod yX0_shareIn, Cond.selects RX0 yX0_shareIn yX0_shareIn]
def wsX1_entitled_r2 : List Cond := [Cond.code yX0_shareIn cX0_shareIn 6 (some .long), Cond.fieldLink RX0 9 "JointAnnuity$Annuity" "start" "I", Cond.fieldLink RX0 37 "JointAnnuity$Annuity" "deaths" "[I", Cond.fieldLink RX0 18 "JointAnnuity$Annuity" "guaranteeEnd" "I", Cond.fieldLink RX0 24 "JointAnnuity$Annuity" "stepsOnFirst" "Z", Cond.fieldLink RX0 21 "JointAnnuity$Annuity" "survivorPercent" "I", Cond.constantLong RX0 68 (100), Cond.methodLink RX0 64 yX0_fullIn, Cond.instanceMethod yX0_fullIn, Cond.selects RX0 yX0_fullIn yX0_fullIn, Cond.code yX0_fullIn cX0_fullIn 2 (some .int), Cond.fieldLink RX0 41 "JointAnnuity$Annuity" "fullAmounts" "[I", Cond.methodLink RX0 74 yX0_protectionMonth, Cond.instanceMethod yX0_protectionMonth, Cond.selects RX0 yX0_protectionMonth yX0_protectionMonth, Cond.code yX0_protectionMonth cX0_protectionMonth 2 (some .int), Cond.methodLink RX0 61 Lib.Math.max.name, Cond.static Lib.Math.max.name, Cond.initialized "java/lang/Math", Cond.code Lib.Math.max.name Lib.Math.max.code 2 (some .int), Cond.methodLink RX0 55 Lib.Math.min.name, Cond.static Lib.Math.min.name, Cond.code Lib.Math.min.name Lib.Math.min.code 2 (some .int), Cond.methodLink RX0 84 yX0_protectionSum]
def wsX1_entitled_r3 : List Cond := [Cond.instanceMethod yX0_protectionSum, Cond.selects RX0 yX0_protectionSum yX0_protectionSum, Cond.code yX0_protectionSum cX0_protectionSum 4 (some .long), Cond.fieldLink RX0 31 "JointAnnuity$Annuity" "price" "I", Cond.fieldLink RX0 34 "JointAnnuity$Annuity" "protectedPercent" "I", Cond.methodLink RX0 81 Lib.MathLoose.max_long.x, Cond.static Lib.MathLoose.max_long.x, Cond.code Lib.MathLoose.max_long.x Lib.MathLoose.max_long.code 4 (some .long), Cond.methodLink RX0 78 yX0_sharesAhead, Cond.instanceMethod yX0_sharesAhead, Cond.selects RX0 yX0_sharesAhead yX0_sharesAhead, Cond.code yX0_sharesAhead cX0_sharesAhead 5 (some .long)]
def wsX1_entitled : List Cond := .code yX1_entitled cX1_entitled 4 (some .long) :: ((wsX1_entitled_r1 ++ (wsX1_entitled_r2 ++ wsX1_entitled_r3)) ++ wsX10 ++ wsX00 ++ (vx_atS RX1 127 "java/lang/IndexOutOfBoundsException" ["java/lang/RuntimeException", "java/lang/Exception"]).filter goodWord ++ (vx_atS RX1 137 "java/lang/IllegalArgumentException" ["java/lang/RuntimeException", "java/lang/Exception"]).filter goodWord)
def wsX1_entitledUpTo_r1 : List Cond := [Cond.methodLink RX1 44 yX1_find, Cond.instanceMethod yX1_find, Cond.selects RX1 yX1_find yX1_find, Cond.initialized RX1, Cond.code yX1_find cX1_find 3 (some (.object "JointAnnuity$Annuity")), Cond.classLink RX1 123 "java/lang/IndexOutOfBoundsException", Cond.initialized "java/lang/IndexOutOfBoundsException", Cond.fieldLink RX1 11 "JointAnnuity" "annuities" "[LJointAnnuity$Annuity;", Cond.methodLink RX1 102 yX1_requireMonth, Cond.static yX1_requireMonth, Cond.code yX1_requireMonth cX1_requireMonth 1 none, Cond.methodLink RX1 26 yX1_requireRange, Cond.static yX1_requireRange, Cond.code yX1_requireRange cX1_requireRange 3 none, Cond.classLink RX1 133 "java/lang/IllegalArgumentException", Cond.initialized "java/lang/IllegalArgumentException", Cond.methodLink RX1 116 yX0_dueAhead, Cond.instanceMethod yX0_dueAhead, Cond.selects RX0 yX0_dueAhead yX0_dueAhead, Cond.initialized RX0, Cond.code yX0_dueAhead cX0_dueAhead 4 (some .long), Cond.methodLink RX0 78 yX0_sharesAhead, Cond.instanceMethod yX0_sharesAhead, Cond.selects RX0 yX0_sharesAhead yX0_sharesAhead]
def wsX1_entitledUpTo_r2 : List Cond := [Cond.code yX0_sharesAhead cX0_sharesAhead 5 (some .long), Cond.fieldLink RX0 9 "JointAnnuity$Annuity" "start" "I", Cond.methodLink RX0 70 yX0_shareIn, Cond.instanceMethod yX0_shareIn, Cond.selects RX0 yX0_shareIn yX0_shareIn, Cond.code yX0_shareIn cX0_shareIn 6 (some .long), Cond.fieldLink RX0 37 "JointAnnuity$Annuity" "deaths" "[I", Cond.fieldLink RX0 18 "JointAnnuity$Annuity" "guaranteeEnd" "I", Cond.fieldLink RX0 24 "JointAnnuity$Annuity" "stepsOnFirst" "Z", Cond.fieldLink RX0 21 "JointAnnuity$Annuity" "survivorPercent" "I", Cond.constantLong RX0 68 (100), Cond.methodLink RX0 64 yX0_fullIn, Cond.instanceMethod yX0_fullIn, Cond.selects RX0 yX0_fullIn yX0_fullIn, Cond.code yX0_fullIn cX0_fullIn 2 (some .int), Cond.fieldLink RX0 41 "JointAnnuity$Annuity" "fullAmounts" "[I", Cond.methodLink RX0 74 yX0_protectionMonth, Cond.instanceMethod yX0_protectionMonth, Cond.selects RX0 yX0_protectionMonth yX0_protectionMonth, Cond.code yX0_protectionMonth cX0_protectionMonth 2 (some .int), Cond.methodLink RX0 61 Lib.Math.max.name, Cond.static Lib.Math.max.name, Cond.initialized "java/lang/Math", Cond.code Lib.Math.max.name Lib.Math.max.code 2 (some .int)]
def wsX1_entitledUpTo_r3 : List Cond := [Cond.methodLink RX0 55 Lib.Math.min.name, Cond.static Lib.Math.min.name, Cond.code Lib.Math.min.name Lib.Math.min.code 2 (some .int), Cond.methodLink RX0 84 yX0_protectionSum, Cond.instanceMethod yX0_protectionSum, Cond.selects RX0 yX0_protectionSum yX0_protectionSum, Cond.code yX0_protectionSum cX0_protectionSum 4 (some .long), Cond.fieldLink RX0 31 "JointAnnuity$Annuity" "price" "I", Cond.fieldLink RX0 34 "JointAnnuity$Annuity" "protectedPercent" "I", Cond.methodLink RX0 81 Lib.MathLoose.max_long.x, Cond.static Lib.MathLoose.max_long.x, Cond.code Lib.MathLoose.max_long.x Lib.MathLoose.max_long.code 4 (some .long)]
def wsX1_entitledUpTo : List Cond := .code yX1_entitledUpTo cX1_entitledUpTo 4 (some .long) :: ((wsX1_entitledUpTo_r1 ++ (wsX1_entitledUpTo_r2 ++ wsX1_entitledUpTo_r3)) ++ wsX10 ++ wsX00 ++ (vx_atS RX1 127 "java/lang/IndexOutOfBoundsException" ["java/lang/RuntimeException", "java/lang/Exception"]).filter goodWord ++ (vx_atS RX1 137 "java/lang/IllegalArgumentException" ["java/lang/RuntimeException", "java/lang/Exception"]).filter goodWord)
def wsX1_protection_r1 : List Cond := [Cond.methodLink RX1 44 yX1_find, Cond.instanceMethod yX1_find, Cond.selects RX1 yX1_find yX1_find, Cond.initialized RX1, Cond.code yX1_find cX1_find 3 (some (.object "JointAnnuity$Annuity")), Cond.classLink RX1 123 "java/lang/IndexOutOfBoundsException", Cond.initialized "java/lang/IndexOutOfBoundsException", Cond.fieldLink RX1 11 "JointAnnuity" "annuities" "[LJointAnnuity$Annuity;", Cond.methodLink RX1 119 yX0_protectionSum, Cond.instanceMethod yX0_protectionSum, Cond.selects RX0 yX0_protectionSum yX0_protectionSum, Cond.initialized RX0, Cond.code yX0_protectionSum cX0_protectionSum 4 (some .long), Cond.fieldLink RX0 31 "JointAnnuity$Annuity" "price" "I", Cond.fieldLink RX0 34 "JointAnnuity$Annuity" "protectedPercent" "I", Cond.constantLong RX0 68 (100), Cond.methodLink RX0 81 Lib.MathLoose.max_long.x, Cond.static Lib.MathLoose.max_long.x, Cond.initialized "java/lang/Math", Cond.code Lib.MathLoose.max_long.x Lib.MathLoose.max_long.code 4 (some .long), Cond.methodLink RX0 74 yX0_protectionMonth, Cond.instanceMethod yX0_protectionMonth, Cond.selects RX0 yX0_protectionMonth yX0_protectionMonth, Cond.code yX0_protectionMonth cX0_protectionMonth 2 (some .int)]
def wsX1_protection_r2 : List Cond := [Cond.fieldLink RX0 37 "JointAnnuity$Annuity" "deaths" "[I", Cond.methodLink RX0 61 Lib.Math.max.name, Cond.static Lib.Math.max.name, Cond.code Lib.Math.max.name Lib.Math.max.code 2 (some .int), Cond.fieldLink RX0 18 "JointAnnuity$Annuity" "guaranteeEnd" "I", Cond.methodLink RX0 55 Lib.Math.min.name, Cond.static Lib.Math.min.name, Cond.code Lib.Math.min.name Lib.Math.min.code 2 (some .int), Cond.methodLink RX0 78 yX0_sharesAhead, Cond.instanceMethod yX0_sharesAhead, Cond.selects RX0 yX0_sharesAhead yX0_sharesAhead, Cond.code yX0_sharesAhead cX0_sharesAhead 5 (some .long), Cond.fieldLink RX0 9 "JointAnnuity$Annuity" "start" "I", Cond.methodLink RX0 70 yX0_shareIn, Cond.instanceMethod yX0_shareIn, Cond.selects RX0 yX0_shareIn yX0_shareIn, Cond.code yX0_shareIn cX0_shareIn 6 (some .long), Cond.fieldLink RX0 24 "JointAnnuity$Annuity" "stepsOnFirst" "Z", Cond.fieldLink RX0 21 "JointAnnuity$Annuity" "survivorPercent" "I", Cond.methodLink RX0 64 yX0_fullIn, Cond.instanceMethod yX0_fullIn, Cond.selects RX0 yX0_fullIn yX0_fullIn, Cond.code yX0_fullIn cX0_fullIn 2 (some .int), Cond.fieldLink RX0 41 "JointAnnuity$Annuity" "fullAmounts" "[I"]
def wsX1_protection : List Cond := .code yX1_protection cX1_protection 2 (some .long) :: ((wsX1_protection_r1 ++ wsX1_protection_r2) ++ wsX10 ++ wsX00 ++ (vx_atS RX1 127 "java/lang/IndexOutOfBoundsException" ["java/lang/RuntimeException", "java/lang/Exception"]).filter goodWord)
def wsJ9_max_7cf53 : List Cond := .code yJ9_max_7cf53 cJ9_max_7cf53 2 (some .int) :: ([])
def wsJ9_max_f86c9 : List Cond := .code yJ9_max_f86c9 cJ9_max_f86c9 4 (some .long) :: ([])
def wsJ9_min_7cf53 : List Cond := .code yJ9_min_7cf53 cJ9_min_7cf53 2 (some .int) :: ([])
def wsL_cell : List Cond := .code yL_cell cL_cell 2 (some .int) :: ([.constant RL 7 (44041), .constant RL 8 (2147483647)])
def wsL_add_r1 : List Cond := [Cond.classLink RL 15 "java/lang/IllegalArgumentException", Cond.classLink RL 17 "java/lang/IllegalStateException", Cond.methodLink RL 9 yX1_add, Cond.instanceMethod yX1_add, Cond.selects RX1 yX1_add yX1_add, Cond.initialized RX1, Cond.code yX1_add cX1_add 5 (some .int), Cond.classLink RX1 31 "java/lang/IllegalStateException", Cond.initialized "java/lang/IllegalStateException", Cond.fieldLink RX1 23 "JointAnnuity" "monthThatGoesOn" "I", Cond.constant RX1 30 (100000), Cond.fieldLink RX1 19 "JointAnnuity" "count" "I", Cond.fieldLink RX1 11 "JointAnnuity" "annuities" "[LJointAnnuity$Annuity;", Cond.classLink RX1 9 RX0, Cond.instantiable RX0 13, Cond.initialized RX0, Cond.fieldLink RX1 15 "JointAnnuity" "inflation" "[I", Cond.methodLink RX1 26 yX1_requireRange, Cond.static yX1_requireRange, Cond.code yX1_requireRange cX1_requireRange 3 none, Cond.classLink RX1 133 "java/lang/IllegalArgumentException", Cond.initialized "java/lang/IllegalArgumentException", Cond.methodLink RX1 38 yX0_init, Cond.instanceMethod yX0_init]
def wsL_add_r2 : List Cond := [Cond.code yX0_init cX0_init 4 none, Cond.methodLink RX0 3 objectInit, Cond.instanceMethod objectInit, Cond.code objectInit ⟨#[0xb1]⟩ 1 none, Cond.fieldLink RX0 9 "JointAnnuity$Annuity" "start" "I", Cond.fieldLink RX0 15 "JointAnnuity$Annuity" "amount" "I", Cond.fieldLink RX0 18 "JointAnnuity$Annuity" "guaranteeEnd" "I", Cond.fieldLink RX0 21 "JointAnnuity$Annuity" "survivorPercent" "I", Cond.fieldLink RX0 24 "JointAnnuity$Annuity" "stepsOnFirst" "Z", Cond.fieldLink RX0 28 "JointAnnuity$Annuity" "cap" "I", Cond.fieldLink RX0 31 "JointAnnuity$Annuity" "price" "I", Cond.fieldLink RX0 34 "JointAnnuity$Annuity" "protectedPercent" "I", Cond.arrayClass .int, Cond.fieldLink RX0 37 "JointAnnuity$Annuity" "deaths" "[I", Cond.fieldLink RX0 41 "JointAnnuity$Annuity" "fullAmounts" "[I", Cond.fieldLink RX0 44 "JointAnnuity$Annuity" "carries" "[I", Cond.arrayClass .long, Cond.fieldLink RX0 47 "JointAnnuity$Annuity" "payments" "[J", Cond.fieldLink RX0 51 "JointAnnuity$Annuity" "keptInAll" "J", Cond.methodLink RX1 40 yX0_growBy, Cond.instanceMethod yX0_growBy, Cond.selects RX0 yX0_growBy yX0_growBy, Cond.code yX0_growBy cX0_growBy 8 none, Cond.methodLink RX0 55 Lib.Math.min.name]
def wsL_add_r3 : List Cond := [Cond.static Lib.Math.min.name, Cond.initialized "java/lang/Math", Cond.code Lib.Math.min.name Lib.Math.min.code 2 (some .int), Cond.methodLink RX0 61 Lib.Math.max.name, Cond.static Lib.Math.max.name, Cond.code Lib.Math.max.name Lib.Math.max.code 2 (some .int)]
def wsL_add : List Cond := .codeWith yL_add cL_add 5 (some .int) [(0, 7, 8, 15), (0, 7, 13, 17)] :: ((wsL_add_r1 ++ (wsL_add_r2 ++ wsL_add_r3)) ++ wsX10 ++ wsX00 ++ (vx_atS RX1 35 "java/lang/IllegalStateException" ["java/lang/RuntimeException", "java/lang/Exception"]).filter goodWord ++ (vx_atS RX1 137 "java/lang/IllegalArgumentException" ["java/lang/RuntimeException", "java/lang/Exception"]).filter goodWord)
def wsL_survivor_r1 : List Cond := [Cond.classLink RL 23 "java/lang/IndexOutOfBoundsException", Cond.classLink RL 15 "java/lang/IllegalArgumentException", Cond.classLink RL 17 "java/lang/IllegalStateException", Cond.methodLink RL 19 yX1_setSurvivor, Cond.instanceMethod yX1_setSurvivor, Cond.selects RX1 yX1_setSurvivor yX1_setSurvivor, Cond.initialized RX1, Cond.code yX1_setSurvivor cX1_setSurvivor 5 none, Cond.fieldLink RX1 52 "JointAnnuity$Annuity" "survivorPercent" "I", Cond.fieldLink RX1 55 "JointAnnuity$Annuity" "stepsOnFirst" "Z", Cond.methodLink RX1 44 yX1_find, Cond.instanceMethod yX1_find, Cond.selects RX1 yX1_find yX1_find, Cond.code yX1_find cX1_find 3 (some (.object "JointAnnuity$Annuity")), Cond.classLink RX1 123 "java/lang/IndexOutOfBoundsException", Cond.initialized "java/lang/IndexOutOfBoundsException", Cond.fieldLink RX1 11 "JointAnnuity" "annuities" "[LJointAnnuity$Annuity;", Cond.methodLink RX1 26 yX1_requireRange, Cond.static yX1_requireRange, Cond.code yX1_requireRange cX1_requireRange 3 none, Cond.classLink RX1 133 "java/lang/IllegalArgumentException", Cond.initialized "java/lang/IllegalArgumentException", Cond.methodLink RX1 48 yX1_requireStartNotRun, Cond.instanceMethod yX1_requireStartNotRun]
def wsL_survivor_r2 : List Cond := [Cond.selects RX1 yX1_requireStartNotRun yX1_requireStartNotRun, Cond.code yX1_requireStartNotRun cX1_requireStartNotRun 2 none, Cond.classLink RX1 31 "java/lang/IllegalStateException", Cond.initialized "java/lang/IllegalStateException", Cond.fieldLink RX1 128 "JointAnnuity$Annuity" "start" "I", Cond.fieldLink RX1 23 "JointAnnuity" "monthThatGoesOn" "I"]
def wsL_survivor : List Cond := .codeWith yL_survivor cL_survivor 5 (some .int) [(0, 7, 10, 23), (0, 7, 15, 15), (0, 7, 20, 17)] :: ((wsL_survivor_r1 ++ wsL_survivor_r2) ++ wsX00 ++ wsX10 ++ (vx_atS RX1 127 "java/lang/IndexOutOfBoundsException" ["java/lang/RuntimeException", "java/lang/Exception"]).filter goodWord ++ (vx_atS RX1 137 "java/lang/IllegalArgumentException" ["java/lang/RuntimeException", "java/lang/Exception"]).filter goodWord ++ (vx_atS RX1 35 "java/lang/IllegalStateException" ["java/lang/RuntimeException", "java/lang/Exception"]).filter goodWord)
def wsL_cap_r1 : List Cond := [Cond.classLink RL 23 "java/lang/IndexOutOfBoundsException", Cond.classLink RL 15 "java/lang/IllegalArgumentException", Cond.classLink RL 17 "java/lang/IllegalStateException", Cond.methodLink RL 25 yX1_setCap, Cond.instanceMethod yX1_setCap, Cond.selects RX1 yX1_setCap yX1_setCap, Cond.initialized RX1, Cond.code yX1_setCap cX1_setCap 4 none, Cond.fieldLink RX1 59 "JointAnnuity$Annuity" "cap" "I", Cond.fieldLink RX1 15 "JointAnnuity" "inflation" "[I", Cond.methodLink RX1 44 yX1_find, Cond.instanceMethod yX1_find, Cond.selects RX1 yX1_find yX1_find, Cond.code yX1_find cX1_find 3 (some (.object "JointAnnuity$Annuity")), Cond.classLink RX1 123 "java/lang/IndexOutOfBoundsException", Cond.initialized "java/lang/IndexOutOfBoundsException", Cond.fieldLink RX1 11 "JointAnnuity" "annuities" "[LJointAnnuity$Annuity;", Cond.methodLink RX1 26 yX1_requireRange, Cond.static yX1_requireRange, Cond.code yX1_requireRange cX1_requireRange 3 none, Cond.classLink RX1 133 "java/lang/IllegalArgumentException", Cond.initialized "java/lang/IllegalArgumentException", Cond.methodLink RX1 48 yX1_requireStartNotRun, Cond.instanceMethod yX1_requireStartNotRun]
def wsL_cap_r2 : List Cond := [Cond.selects RX1 yX1_requireStartNotRun yX1_requireStartNotRun, Cond.code yX1_requireStartNotRun cX1_requireStartNotRun 2 none, Cond.classLink RX1 31 "java/lang/IllegalStateException", Cond.initialized "java/lang/IllegalStateException", Cond.fieldLink RX1 128 "JointAnnuity$Annuity" "start" "I", Cond.fieldLink RX1 23 "JointAnnuity" "monthThatGoesOn" "I", Cond.methodLink RX1 40 yX0_growBy, Cond.instanceMethod yX0_growBy, Cond.selects RX0 yX0_growBy yX0_growBy, Cond.initialized RX0, Cond.code yX0_growBy cX0_growBy 8 none, Cond.fieldLink RX0 15 "JointAnnuity$Annuity" "amount" "I", Cond.fieldLink RX0 41 "JointAnnuity$Annuity" "fullAmounts" "[I", Cond.fieldLink RX0 44 "JointAnnuity$Annuity" "carries" "[I", Cond.fieldLink RX0 9 "JointAnnuity$Annuity" "start" "I", Cond.fieldLink RX0 28 "JointAnnuity$Annuity" "cap" "I", Cond.methodLink RX0 55 Lib.Math.min.name, Cond.static Lib.Math.min.name, Cond.initialized "java/lang/Math", Cond.code Lib.Math.min.name Lib.Math.min.code 2 (some .int), Cond.methodLink RX0 61 Lib.Math.max.name, Cond.static Lib.Math.max.name, Cond.code Lib.Math.max.name Lib.Math.max.code 2 (some .int)]
def wsL_cap : List Cond := .codeWith yL_cap cL_cap 4 (some .int) [(0, 6, 9, 23), (0, 6, 13, 15), (0, 6, 17, 17)] :: ((wsL_cap_r1 ++ wsL_cap_r2) ++ wsX00 ++ wsX10 ++ (vx_atS RX1 127 "java/lang/IndexOutOfBoundsException" ["java/lang/RuntimeException", "java/lang/Exception"]).filter goodWord ++ (vx_atS RX1 137 "java/lang/IllegalArgumentException" ["java/lang/RuntimeException", "java/lang/Exception"]).filter goodWord ++ (vx_atS RX1 35 "java/lang/IllegalStateException" ["java/lang/RuntimeException", "java/lang/Exception"]).filter goodWord)
def wsL_protect_r1 : List Cond := [Cond.classLink RL 23 "java/lang/IndexOutOfBoundsException", Cond.classLink RL 15 "java/lang/IllegalArgumentException", Cond.classLink RL 17 "java/lang/IllegalStateException", Cond.methodLink RL 29 yX1_protect, Cond.instanceMethod yX1_protect, Cond.selects RX1 yX1_protect yX1_protect, Cond.initialized RX1, Cond.code yX1_protect cX1_protect 5 none, Cond.constant RX1 62 (10000000), Cond.fieldLink RX1 63 "JointAnnuity$Annuity" "price" "I", Cond.fieldLink RX1 66 "JointAnnuity$Annuity" "protectedPercent" "I", Cond.methodLink RX1 44 yX1_find, Cond.instanceMethod yX1_find, Cond.selects RX1 yX1_find yX1_find, Cond.code yX1_find cX1_find 3 (some (.object "JointAnnuity$Annuity")), Cond.classLink RX1 123 "java/lang/IndexOutOfBoundsException", Cond.initialized "java/lang/IndexOutOfBoundsException", Cond.fieldLink RX1 11 "JointAnnuity" "annuities" "[LJointAnnuity$Annuity;", Cond.methodLink RX1 26 yX1_requireRange, Cond.static yX1_requireRange, Cond.code yX1_requireRange cX1_requireRange 3 none, Cond.classLink RX1 133 "java/lang/IllegalArgumentException", Cond.initialized "java/lang/IllegalArgumentException", Cond.methodLink RX1 48 yX1_requireStartNotRun]
def wsL_protect_r2 : List Cond := [Cond.instanceMethod yX1_requireStartNotRun, Cond.selects RX1 yX1_requireStartNotRun yX1_requireStartNotRun, Cond.code yX1_requireStartNotRun cX1_requireStartNotRun 2 none, Cond.classLink RX1 31 "java/lang/IllegalStateException", Cond.initialized "java/lang/IllegalStateException", Cond.fieldLink RX1 128 "JointAnnuity$Annuity" "start" "I", Cond.fieldLink RX1 23 "JointAnnuity" "monthThatGoesOn" "I"]
def wsL_protect : List Cond := .codeWith yL_protect cL_protect 5 (some .int) [(0, 7, 10, 23), (0, 7, 15, 15), (0, 7, 20, 17)] :: ((wsL_protect_r1 ++ wsL_protect_r2) ++ wsX00 ++ wsX10 ++ (vx_atS RX1 127 "java/lang/IndexOutOfBoundsException" ["java/lang/RuntimeException", "java/lang/Exception"]).filter goodWord ++ (vx_atS RX1 137 "java/lang/IllegalArgumentException" ["java/lang/RuntimeException", "java/lang/Exception"]).filter goodWord ++ (vx_atS RX1 35 "java/lang/IllegalStateException" ["java/lang/RuntimeException", "java/lang/Exception"]).filter goodWord)
def wsL_inflation_r1 : List Cond := [Cond.classLink RL 15 "java/lang/IllegalArgumentException", Cond.methodLink RL 33 yX1_setInflation, Cond.instanceMethod yX1_setInflation, Cond.selects RX1 yX1_setInflation yX1_setInflation, Cond.initialized RX1, Cond.code yX1_setInflation cX1_setInflation 8 (some .int), Cond.fieldLink RX1 15 "JointAnnuity" "inflation" "[I", Cond.fieldLink RX1 11 "JointAnnuity" "annuities" "[LJointAnnuity$Annuity;", Cond.methodLink RX1 26 yX1_requireRange, Cond.static yX1_requireRange, Cond.code yX1_requireRange cX1_requireRange 3 none, Cond.classLink RX1 133 "java/lang/IllegalArgumentException", Cond.initialized "java/lang/IllegalArgumentException", Cond.methodLink RX1 40 yX0_growBy, Cond.instanceMethod yX0_growBy, Cond.selects RX0 yX0_growBy yX0_growBy, Cond.initialized RX0, Cond.code yX0_growBy cX0_growBy 8 none, Cond.fieldLink RX0 15 "JointAnnuity$Annuity" "amount" "I", Cond.fieldLink RX0 41 "JointAnnuity$Annuity" "fullAmounts" "[I", Cond.fieldLink RX0 44 "JointAnnuity$Annuity" "carries" "[I", Cond.fieldLink RX0 9 "JointAnnuity$Annuity" "start" "I", Cond.fieldLink RX0 28 "JointAnnuity$Annuity" "cap" "I", Cond.methodLink RX0 55 Lib.Math.min.name]
def wsL_inflation_r2 : List Cond := [Cond.static Lib.Math.min.name, Cond.initialized "java/lang/Math", Cond.code Lib.Math.min.name Lib.Math.min.code 2 (some .int), Cond.methodLink RX0 61 Lib.Math.max.name, Cond.static Lib.Math.max.name, Cond.code Lib.Math.max.name Lib.Math.max.code 2 (some .int)]
def wsL_inflation : List Cond := .codeWith yL_inflation cL_inflation 4 (some .int) [(0, 6, 7, 15)] :: ((wsL_inflation_r1 ++ wsL_inflation_r2) ++ wsX10 ++ wsX00 ++ (vx_atS RX1 137 "java/lang/IllegalArgumentException" ["java/lang/RuntimeException", "java/lang/Exception"]).filter goodWord)
def wsL_die_r1 : List Cond := [Cond.classLink RL 23 "java/lang/IndexOutOfBoundsException", Cond.classLink RL 15 "java/lang/IllegalArgumentException", Cond.classLink RL 17 "java/lang/IllegalStateException", Cond.methodLink RL 37 yX1_die, Cond.instanceMethod yX1_die, Cond.selects RX1 yX1_die yX1_die, Cond.initialized RX1, Cond.code yX1_die cX1_die 5 none, Cond.classLink RX1 31 "java/lang/IllegalStateException", Cond.initialized "java/lang/IllegalStateException", Cond.fieldLink RX1 23 "JointAnnuity" "monthThatGoesOn" "I", Cond.methodLink RX1 69 Lib.Math.min.name, Cond.static Lib.Math.min.name, Cond.initialized "java/lang/Math", Cond.code Lib.Math.min.name Lib.Math.min.code 2 (some .int), Cond.fieldLink RX1 75 "JointAnnuity$Annuity" "deaths" "[I", Cond.methodLink RX1 44 yX1_find, Cond.instanceMethod yX1_find, Cond.selects RX1 yX1_find yX1_find, Cond.code yX1_find cX1_find 3 (some (.object "JointAnnuity$Annuity")), Cond.classLink RX1 123 "java/lang/IndexOutOfBoundsException", Cond.initialized "java/lang/IndexOutOfBoundsException", Cond.fieldLink RX1 11 "JointAnnuity" "annuities" "[LJointAnnuity$Annuity;", Cond.methodLink RX1 26 yX1_requireRange]
def wsL_die_r2 : List Cond := [Cond.static yX1_requireRange, Cond.code yX1_requireRange cX1_requireRange 3 none, Cond.classLink RX1 133 "java/lang/IllegalArgumentException", Cond.initialized "java/lang/IllegalArgumentException"]
def wsL_die : List Cond := .codeWith yL_die cL_die 5 (some .int) [(0, 7, 10, 23), (0, 7, 15, 15), (0, 7, 20, 17)] :: ((wsL_die_r1 ++ wsL_die_r2) ++ wsX10 ++ wsX00 ++ (vx_atS RX1 35 "java/lang/IllegalStateException" ["java/lang/RuntimeException", "java/lang/Exception"]).filter goodWord ++ (vx_atS RX1 127 "java/lang/IndexOutOfBoundsException" ["java/lang/RuntimeException", "java/lang/Exception"]).filter goodWord ++ (vx_atS RX1 137 "java/lang/IllegalArgumentException" ["java/lang/RuntimeException", "java/lang/Exception"]).filter goodWord)
def wsL_takeBack : List Cond := .codeWith yL_takeBack cL_takeBack 4 (some .int) [(0, 6, 7, 23), (0, 6, 11, 15), (0, 6, 15, 17)] :: ([.classLink RL 23 "java/lang/IndexOutOfBoundsException", .classLink RL 15 "java/lang/IllegalArgumentException", .classLink RL 17 "java/lang/IllegalStateException", .methodLink RL 40 yX1_takeBack, .instanceMethod yX1_takeBack, .selects RX1 yX1_takeBack yX1_takeBack, .initialized RX1, .code yX1_takeBack cX1_takeBack 5 (some .int), .classLink RX1 31 "java/lang/IllegalStateException", .initialized "java/lang/IllegalStateException", .fieldLink RX1 75 "JointAnnuity$Annuity" "deaths" "[I", .methodLink RX1 44 yX1_find, .instanceMethod yX1_find, .selects RX1 yX1_find yX1_find, .code yX1_find cX1_find 3 (some (.object "JointAnnuity$Annuity")), .classLink RX1 123 "java/lang/IndexOutOfBoundsException", .initialized "java/lang/IndexOutOfBoundsException", .fieldLink RX1 11 "JointAnnuity" "annuities" "[LJointAnnuity$Annuity;", .methodLink RX1 26 yX1_requireRange, .static yX1_requireRange, .code yX1_requireRange cX1_requireRange 3 none, .classLink RX1 133 "java/lang/IllegalArgumentException", .initialized "java/lang/IllegalArgumentException"] ++ wsX00 ++ wsX10 ++ (vx_atS RX1 35 "java/lang/IllegalStateException" ["java/lang/RuntimeException", "java/lang/Exception"]).filter goodWord ++ (vx_atS RX1 127 "java/lang/IndexOutOfBoundsException" ["java/lang/RuntimeException", "java/lang/Exception"]).filter goodWord ++ (vx_atS RX1 137 "java/lang/IllegalArgumentException" ["java/lang/RuntimeException", "java/lang/Exception"]).filter goodWord)
def wsL_run_r1 : List Cond := [Cond.classLink RL 17 "java/lang/IllegalStateException", Cond.constantLong RL 47 (-103), Cond.methodLink RL 43 yX1_run, Cond.instanceMethod yX1_run, Cond.selects RX1 yX1_run yX1_run, Cond.initialized RX1, Cond.code yX1_run cX1_run 7 (some .long), Cond.classLink RX1 31 "java/lang/IllegalStateException", Cond.initialized "java/lang/IllegalStateException", Cond.fieldLink RX1 23 "JointAnnuity" "monthThatGoesOn" "I", Cond.fieldLink RX1 11 "JointAnnuity" "annuities" "[LJointAnnuity$Annuity;", Cond.methodLink RX1 84 yX0_payIn, Cond.instanceMethod yX0_payIn, Cond.selects RX0 yX0_payIn yX0_payIn, Cond.initialized RX0, Cond.code yX0_payIn cX0_payIn 4 (some .long), Cond.fieldLink RX0 51 "JointAnnuity$Annuity" "keptInAll" "J", Cond.methodLink RX0 81 Lib.MathLoose.max_long.x, Cond.static Lib.MathLoose.max_long.x, Cond.initialized "java/lang/Math", Cond.code Lib.MathLoose.max_long.x Lib.MathLoose.max_long.code 4 (some .long), Cond.fieldLink RX0 47 "JointAnnuity$Annuity" "payments" "[J", Cond.methodLink RX0 88 yX0_dueAhead, Cond.instanceMethod yX0_dueAhead]
def wsL_run_r2 : List Cond := [Cond.selects RX0 yX0_dueAhead yX0_dueAhead, Cond.code yX0_dueAhead cX0_dueAhead 4 (some .long), Cond.methodLink RX0 78 yX0_sharesAhead, Cond.instanceMethod yX0_sharesAhead, Cond.selects RX0 yX0_sharesAhead yX0_sharesAhead, Cond.code yX0_sharesAhead cX0_sharesAhead 5 (some .long), Cond.fieldLink RX0 9 "JointAnnuity$Annuity" "start" "I", Cond.methodLink RX0 70 yX0_shareIn, Cond.instanceMethod yX0_shareIn, Cond.selects RX0 yX0_shareIn yX0_shareIn, Cond.code yX0_shareIn cX0_shareIn 6 (some .long), Cond.fieldLink RX0 37 "JointAnnuity$Annuity" "deaths" "[I", Cond.fieldLink RX0 18 "JointAnnuity$Annuity" "guaranteeEnd" "I", Cond.fieldLink RX0 24 "JointAnnuity$Annuity" "stepsOnFirst" "Z", Cond.fieldLink RX0 21 "JointAnnuity$Annuity" "survivorPercent" "I", Cond.constantLong RX0 68 (100), Cond.methodLink RX0 64 yX0_fullIn, Cond.instanceMethod yX0_fullIn, Cond.selects RX0 yX0_fullIn yX0_fullIn, Cond.code yX0_fullIn cX0_fullIn 2 (some .int), Cond.fieldLink RX0 41 "JointAnnuity$Annuity" "fullAmounts" "[I", Cond.methodLink RX0 74 yX0_protectionMonth, Cond.instanceMethod yX0_protectionMonth, Cond.selects RX0 yX0_protectionMonth yX0_protectionMonth]
def wsL_run_r3 : List Cond := [Cond.code yX0_protectionMonth cX0_protectionMonth 2 (some .int), Cond.methodLink RX0 61 Lib.Math.max.name, Cond.static Lib.Math.max.name, Cond.code Lib.Math.max.name Lib.Math.max.code 2 (some .int), Cond.methodLink RX0 55 Lib.Math.min.name, Cond.static Lib.Math.min.name, Cond.code Lib.Math.min.name Lib.Math.min.code 2 (some .int), Cond.methodLink RX0 84 yX0_protectionSum, Cond.instanceMethod yX0_protectionSum, Cond.selects RX0 yX0_protectionSum yX0_protectionSum, Cond.code yX0_protectionSum cX0_protectionSum 4 (some .long), Cond.fieldLink RX0 31 "JointAnnuity$Annuity" "price" "I", Cond.fieldLink RX0 34 "JointAnnuity$Annuity" "protectedPercent" "I"]
def wsL_run : List Cond := .codeWith yL_run cL_run 2 (some .long) [(0, 4, 5, 17)] :: ((wsL_run_r1 ++ (wsL_run_r2 ++ wsL_run_r3)) ++ wsX10 ++ wsX00 ++ (vx_atS RX1 35 "java/lang/IllegalStateException" ["java/lang/RuntimeException", "java/lang/Exception"]).filter goodWord)
def wsL_back_r1 : List Cond := [Cond.classLink RL 23 "java/lang/IndexOutOfBoundsException", Cond.classLink RL 15 "java/lang/IllegalArgumentException", Cond.classLink RL 17 "java/lang/IllegalStateException", Cond.constantLong RL 53 (-101), Cond.constantLong RL 55 (-102), Cond.constantLong RL 47 (-103), Cond.methodLink RL 49 yX1_giveBack, Cond.instanceMethod yX1_giveBack, Cond.selects RX1 yX1_giveBack yX1_giveBack, Cond.initialized RX1, Cond.code yX1_giveBack cX1_giveBack 6 (some .long), Cond.classLink RX1 31 "java/lang/IllegalStateException", Cond.initialized "java/lang/IllegalStateException", Cond.constant RX1 88 (100000000), Cond.fieldLink RX1 23 "JointAnnuity" "monthThatGoesOn" "I", Cond.fieldLink RX1 94 "JointAnnuity$Annuity" "keptInAll" "J", Cond.methodLink RX1 44 yX1_find, Cond.instanceMethod yX1_find, Cond.selects RX1 yX1_find yX1_find, Cond.code yX1_find cX1_find 3 (some (.object "JointAnnuity$Annuity")), Cond.classLink RX1 123 "java/lang/IndexOutOfBoundsException", Cond.initialized "java/lang/IndexOutOfBoundsException", Cond.fieldLink RX1 11 "JointAnnuity" "annuities" "[LJointAnnuity$Annuity;", Cond.methodLink RX1 26 yX1_requireRange]
def wsL_back_r2 : List Cond := [Cond.static yX1_requireRange, Cond.code yX1_requireRange cX1_requireRange 3 none, Cond.classLink RX1 133 "java/lang/IllegalArgumentException", Cond.initialized "java/lang/IllegalArgumentException", Cond.methodLink RX1 89 yX0_debtAhead, Cond.instanceMethod yX0_debtAhead, Cond.selects RX0 yX0_debtAhead yX0_debtAhead, Cond.initialized RX0, Cond.code yX0_debtAhead cX0_debtAhead 2 (some .long), Cond.fieldLink RX0 51 "JointAnnuity$Annuity" "keptInAll" "J", Cond.methodLink RX0 81 Lib.MathLoose.max_long.x, Cond.static Lib.MathLoose.max_long.x, Cond.initialized "java/lang/Math", Cond.code Lib.MathLoose.max_long.x Lib.MathLoose.max_long.code 4 (some .long), Cond.methodLink RX0 88 yX0_dueAhead, Cond.instanceMethod yX0_dueAhead, Cond.selects RX0 yX0_dueAhead yX0_dueAhead, Cond.code yX0_dueAhead cX0_dueAhead 4 (some .long), Cond.methodLink RX0 78 yX0_sharesAhead, Cond.instanceMethod yX0_sharesAhead, Cond.selects RX0 yX0_sharesAhead yX0_sharesAhead, Cond.code yX0_sharesAhead cX0_sharesAhead 5 (some .long), Cond.fieldLink RX0 9 "JointAnnuity$Annuity" "start" "I", Cond.methodLink RX0 70 yX0_shareIn]
def wsL_back_r3 : List Cond := [Cond.instanceMethod yX0_shareIn, Cond.selects RX0 yX0_shareIn yX0_shareIn, Cond.code yX0_shareIn cX0_shareIn 6 (some .long), Cond.fieldLink RX0 37 "JointAnnuity$Annuity" "deaths" "[I", Cond.fieldLink RX0 18 "JointAnnuity$Annuity" "guaranteeEnd" "I", Cond.fieldLink RX0 24 "JointAnnuity$Annuity" "stepsOnFirst" "Z", Cond.fieldLink RX0 21 "JointAnnuity$Annuity" "survivorPercent" "I", Cond.constantLong RX0 68 (100), Cond.methodLink RX0 64 yX0_fullIn, Cond.instanceMethod yX0_fullIn, Cond.selects RX0 yX0_fullIn yX0_fullIn, Cond.code yX0_fullIn cX0_fullIn 2 (some .int), Cond.fieldLink RX0 41 "JointAnnuity$Annuity" "fullAmounts" "[I", Cond.methodLink RX0 74 yX0_protectionMonth, Cond.instanceMethod yX0_protectionMonth, Cond.selects RX0 yX0_protectionMonth yX0_protectionMonth, Cond.code yX0_protectionMonth cX0_protectionMonth 2 (some .int), Cond.methodLink RX0 61 Lib.Math.max.name, Cond.static Lib.Math.max.name, Cond.code Lib.Math.max.name Lib.Math.max.code 2 (some .int), Cond.methodLink RX0 55 Lib.Math.min.name, Cond.static Lib.Math.min.name, Cond.code Lib.Math.min.name Lib.Math.min.code 2 (some .int), Cond.methodLink RX0 84 yX0_protectionSum]
def wsL_back_r4 : List Cond := [Cond.instanceMethod yX0_protectionSum, Cond.selects RX0 yX0_protectionSum yX0_protectionSum, Cond.code yX0_protectionSum cX0_protectionSum 4 (some .long), Cond.fieldLink RX0 31 "JointAnnuity$Annuity" "price" "I", Cond.fieldLink RX0 34 "JointAnnuity$Annuity" "protectedPercent" "I"]
def wsL_back : List Cond := .codeWith yL_back cL_back 4 (some .long) [(0, 6, 7, 23), (0, 6, 12, 15), (0, 6, 17, 17)] :: ((wsL_back_r1 ++ (wsL_back_r2 ++ (wsL_back_r3 ++ wsL_back_r4))) ++ wsX10 ++ wsX00 ++ (vx_atS RX1 35 "java/lang/IllegalStateException" ["java/lang/RuntimeException", "java/lang/Exception"]).filter goodWord ++ (vx_atS RX1 127 "java/lang/IndexOutOfBoundsException" ["java/lang/RuntimeException", "java/lang/Exception"]).filter goodWord ++ (vx_atS RX1 137 "java/lang/IllegalArgumentException" ["java/lang/RuntimeException", "java/lang/Exception"]).filter goodWord)
def wsL_paid : List Cond := .codeWith yL_paid cL_paid 4 (some .long) [(0, 6, 7, 23), (0, 6, 12, 15)] :: ([.classLink RL 23 "java/lang/IndexOutOfBoundsException", .classLink RL 15 "java/lang/IllegalArgumentException", .constantLong RL 53 (-101), .constantLong RL 55 (-102), .methodLink RL 57 yX1_paid, .instanceMethod yX1_paid, .selects RX1 yX1_paid yX1_paid, .initialized RX1, .code yX1_paid cX1_paid 4 (some .long), .fieldLink RX1 23 "JointAnnuity" "monthThatGoesOn" "I", .fieldLink RX1 98 "JointAnnuity$Annuity" "payments" "[J", .methodLink RX1 44 yX1_find, .instanceMethod yX1_find, .selects RX1 yX1_find yX1_find, .code yX1_find cX1_find 3 (some (.object "JointAnnuity$Annuity")), .classLink RX1 123 "java/lang/IndexOutOfBoundsException", .initialized "java/lang/IndexOutOfBoundsException", .fieldLink RX1 11 "JointAnnuity" "annuities" "[LJointAnnuity$Annuity;", .methodLink RX1 26 yX1_requireRange, .static yX1_requireRange, .code yX1_requireRange cX1_requireRange 3 none, .classLink RX1 133 "java/lang/IllegalArgumentException", .initialized "java/lang/IllegalArgumentException"] ++ wsX10 ++ wsX00 ++ (vx_atS RX1 127 "java/lang/IndexOutOfBoundsException" ["java/lang/RuntimeException", "java/lang/Exception"]).filter goodWord ++ (vx_atS RX1 137 "java/lang/IllegalArgumentException" ["java/lang/RuntimeException", "java/lang/Exception"]).filter goodWord)
def wsL_paidAll : List Cond := .codeWith yL_paidAll cL_paidAll 3 (some .long) [(0, 5, 6, 23)] :: ([.classLink RL 23 "java/lang/IndexOutOfBoundsException", .constantLong RL 53 (-101), .methodLink RL 60 yX1_paidInAll, .instanceMethod yX1_paidInAll, .selects RX1 yX1_paidInAll yX1_paidInAll, .initialized RX1, .code yX1_paidInAll cX1_paidInAll 2 (some .long), .fieldLink RX1 94 "JointAnnuity$Annuity" "keptInAll" "J", .methodLink RX1 44 yX1_find, .instanceMethod yX1_find, .selects RX1 yX1_find yX1_find, .code yX1_find cX1_find 3 (some (.object "JointAnnuity$Annuity")), .classLink RX1 123 "java/lang/IndexOutOfBoundsException", .initialized "java/lang/IndexOutOfBoundsException", .fieldLink RX1 11 "JointAnnuity" "annuities" "[LJointAnnuity$Annuity;"] ++ wsX00 ++ wsX10 ++ (vx_atS RX1 127 "java/lang/IndexOutOfBoundsException" ["java/lang/RuntimeException", "java/lang/Exception"]).filter goodWord)
def wsL_owes_r1 : List Cond := [Cond.classLink RL 23 "java/lang/IndexOutOfBoundsException", Cond.constantLong RL 53 (-101), Cond.methodLink RL 64 yX1_owes, Cond.instanceMethod yX1_owes, Cond.selects RX1 yX1_owes yX1_owes, Cond.initialized RX1, Cond.code yX1_owes cX1_owes 2 (some .long), Cond.fieldLink RX1 23 "JointAnnuity" "monthThatGoesOn" "I", Cond.methodLink RX1 44 yX1_find, Cond.instanceMethod yX1_find, Cond.selects RX1 yX1_find yX1_find, Cond.code yX1_find cX1_find 3 (some (.object "JointAnnuity$Annuity")), Cond.classLink RX1 123 "java/lang/IndexOutOfBoundsException", Cond.initialized "java/lang/IndexOutOfBoundsException", Cond.fieldLink RX1 11 "JointAnnuity" "annuities" "[LJointAnnuity$Annuity;", Cond.methodLink RX1 89 yX0_debtAhead, Cond.instanceMethod yX0_debtAhead, Cond.selects RX0 yX0_debtAhead yX0_debtAhead, Cond.initialized RX0, Cond.code yX0_debtAhead cX0_debtAhead 2 (some .long), Cond.fieldLink RX0 51 "JointAnnuity$Annuity" "keptInAll" "J", Cond.methodLink RX0 81 Lib.MathLoose.max_long.x, Cond.static Lib.MathLoose.max_long.x, Cond.initialized "java/lang/Math"]
def wsL_owes_r2 : List Cond := [Cond.code Lib.MathLoose.max_long.x Lib.MathLoose.max_long.code 4 (some .long), Cond.methodLink RX0 88 yX0_dueAhead, Cond.instanceMethod yX0_dueAhead, Cond.selects RX0 yX0_dueAhead yX0_dueAhead, Cond.code yX0_dueAhead cX0_dueAhead 4 (some .long), Cond.methodLink RX0 78 yX0_sharesAhead, Cond.instanceMethod yX0_sharesAhead, Cond.selects RX0 yX0_sharesAhead yX0_sharesAhead, Cond.code yX0_sharesAhead cX0_sharesAhead 5 (some .long), Cond.fieldLink RX0 9 "JointAnnuity$Annuity" "start" "I", Cond.methodLink RX0 70 yX0_shareIn, Cond.instanceMethod yX0_shareIn, Cond.selects RX0 yX0_shareIn yX0_shareIn, Cond.code yX0_shareIn cX0_shareIn 6 (some .long), Cond.fieldLink RX0 37 "JointAnnuity$Annuity" "deaths" "[I", Cond.fieldLink RX0 18 "JointAnnuity$Annuity" "guaranteeEnd" "I", Cond.fieldLink RX0 24 "JointAnnuity$Annuity" "stepsOnFirst" "Z", Cond.fieldLink RX0 21 "JointAnnuity$Annuity" "survivorPercent" "I", Cond.constantLong RX0 68 (100), Cond.methodLink RX0 64 yX0_fullIn, Cond.instanceMethod yX0_fullIn, Cond.selects RX0 yX0_fullIn yX0_fullIn, Cond.code yX0_fullIn cX0_fullIn 2 (some .int), Cond.fieldLink RX0 41 "JointAnnuity$Annuity" "fullAmounts" "[I"]
def wsL_owes_r3 : List Cond := [Cond.methodLink RX0 74 yX0_protectionMonth, Cond.instanceMethod yX0_protectionMonth, Cond.selects RX0 yX0_protectionMonth yX0_protectionMonth, Cond.code yX0_protectionMonth cX0_protectionMonth 2 (some .int), Cond.methodLink RX0 61 Lib.Math.max.name, Cond.static Lib.Math.max.name, Cond.code Lib.Math.max.name Lib.Math.max.code 2 (some .int), Cond.methodLink RX0 55 Lib.Math.min.name, Cond.static Lib.Math.min.name, Cond.code Lib.Math.min.name Lib.Math.min.code 2 (some .int), Cond.methodLink RX0 84 yX0_protectionSum, Cond.instanceMethod yX0_protectionSum, Cond.selects RX0 yX0_protectionSum yX0_protectionSum, Cond.code yX0_protectionSum cX0_protectionSum 4 (some .long), Cond.fieldLink RX0 31 "JointAnnuity$Annuity" "price" "I", Cond.fieldLink RX0 34 "JointAnnuity$Annuity" "protectedPercent" "I"]
def wsL_owes : List Cond := .codeWith yL_owes cL_owes 3 (some .long) [(0, 5, 6, 23)] :: ((wsL_owes_r1 ++ (wsL_owes_r2 ++ wsL_owes_r3)) ++ wsX10 ++ wsX00 ++ (vx_atS RX1 127 "java/lang/IndexOutOfBoundsException" ["java/lang/RuntimeException", "java/lang/Exception"]).filter goodWord)
def wsL_full_r1 : List Cond := [Cond.classLink RL 23 "java/lang/IndexOutOfBoundsException", Cond.classLink RL 15 "java/lang/IllegalArgumentException", Cond.methodLink RL 67 yX1_fullAmount, Cond.instanceMethod yX1_fullAmount, Cond.selects RX1 yX1_fullAmount yX1_fullAmount, Cond.initialized RX1, Cond.code yX1_fullAmount cX1_fullAmount 4 (some .int), Cond.methodLink RX1 44 yX1_find, Cond.instanceMethod yX1_find, Cond.selects RX1 yX1_find yX1_find, Cond.code yX1_find cX1_find 3 (some (.object "JointAnnuity$Annuity")), Cond.classLink RX1 123 "java/lang/IndexOutOfBoundsException", Cond.initialized "java/lang/IndexOutOfBoundsException", Cond.fieldLink RX1 11 "JointAnnuity" "annuities" "[LJointAnnuity$Annuity;", Cond.methodLink RX1 102 yX1_requireMonth, Cond.static yX1_requireMonth, Cond.code yX1_requireMonth cX1_requireMonth 1 none, Cond.methodLink RX1 26 yX1_requireRange, Cond.static yX1_requireRange, Cond.code yX1_requireRange cX1_requireRange 3 none, Cond.classLink RX1 133 "java/lang/IllegalArgumentException", Cond.initialized "java/lang/IllegalArgumentException", Cond.methodLink RX1 106 yX0_fullIn, Cond.instanceMethod yX0_fullIn]
def wsL_full_r2 : List Cond := [Cond.selects RX0 yX0_fullIn yX0_fullIn, Cond.initialized RX0, Cond.code yX0_fullIn cX0_fullIn 2 (some .int), Cond.fieldLink RX0 9 "JointAnnuity$Annuity" "start" "I", Cond.fieldLink RX0 41 "JointAnnuity$Annuity" "fullAmounts" "[I"]
def wsL_full : List Cond := .codeWith yL_full cL_full 4 (some .int) [(0, 6, 7, 23), (0, 6, 11, 15)] :: ((wsL_full_r1 ++ wsL_full_r2) ++ wsX10 ++ wsX00 ++ (vx_atS RX1 127 "java/lang/IndexOutOfBoundsException" ["java/lang/RuntimeException", "java/lang/Exception"]).filter goodWord ++ (vx_atS RX1 137 "java/lang/IllegalArgumentException" ["java/lang/RuntimeException", "java/lang/Exception"]).filter goodWord)
def wsL_carry_r1 : List Cond := [Cond.classLink RL 23 "java/lang/IndexOutOfBoundsException", Cond.classLink RL 15 "java/lang/IllegalArgumentException", Cond.methodLink RL 70 yX1_carry, Cond.instanceMethod yX1_carry, Cond.selects RX1 yX1_carry yX1_carry, Cond.initialized RX1, Cond.code yX1_carry cX1_carry 4 (some .int), Cond.methodLink RX1 44 yX1_find, Cond.instanceMethod yX1_find, Cond.selects RX1 yX1_find yX1_find, Cond.code yX1_find cX1_find 3 (some (.object "JointAnnuity$Annuity")), Cond.classLink RX1 123 "java/lang/IndexOutOfBoundsException", Cond.initialized "java/lang/IndexOutOfBoundsException", Cond.fieldLink RX1 11 "JointAnnuity" "annuities" "[LJointAnnuity$Annuity;", Cond.methodLink RX1 102 yX1_requireMonth, Cond.static yX1_requireMonth, Cond.code yX1_requireMonth cX1_requireMonth 1 none, Cond.methodLink RX1 26 yX1_requireRange, Cond.static yX1_requireRange, Cond.code yX1_requireRange cX1_requireRange 3 none, Cond.classLink RX1 133 "java/lang/IllegalArgumentException", Cond.initialized "java/lang/IllegalArgumentException", Cond.methodLink RX1 110 yX0_carryIn, Cond.instanceMethod yX0_carryIn]
def wsL_carry_r2 : List Cond := [Cond.selects RX0 yX0_carryIn yX0_carryIn, Cond.initialized RX0, Cond.code yX0_carryIn cX0_carryIn 2 (some .int), Cond.fieldLink RX0 9 "JointAnnuity$Annuity" "start" "I", Cond.fieldLink RX0 44 "JointAnnuity$Annuity" "carries" "[I"]
def wsL_carry : List Cond := .codeWith yL_carry cL_carry 4 (some .int) [(0, 6, 7, 23), (0, 6, 12, 15)] :: ((wsL_carry_r1 ++ wsL_carry_r2) ++ wsX10 ++ wsX00 ++ (vx_atS RX1 127 "java/lang/IndexOutOfBoundsException" ["java/lang/RuntimeException", "java/lang/Exception"]).filter goodWord ++ (vx_atS RX1 137 "java/lang/IllegalArgumentException" ["java/lang/RuntimeException", "java/lang/Exception"]).filter goodWord)
def wsL_entitled_r1 : List Cond := [Cond.classLink RL 23 "java/lang/IndexOutOfBoundsException", Cond.classLink RL 15 "java/lang/IllegalArgumentException", Cond.constantLong RL 53 (-101), Cond.constantLong RL 55 (-102), Cond.methodLink RL 73 yX1_entitled, Cond.instanceMethod yX1_entitled, Cond.selects RX1 yX1_entitled yX1_entitled, Cond.initialized RX1, Cond.code yX1_entitled cX1_entitled 4 (some .long), Cond.methodLink RX1 44 yX1_find, Cond.instanceMethod yX1_find, Cond.selects RX1 yX1_find yX1_find, Cond.code yX1_find cX1_find 3 (some (.object "JointAnnuity$Annuity")), Cond.classLink RX1 123 "java/lang/IndexOutOfBoundsException", Cond.initialized "java/lang/IndexOutOfBoundsException", Cond.fieldLink RX1 11 "JointAnnuity" "annuities" "[LJointAnnuity$Annuity;", Cond.methodLink RX1 102 yX1_requireMonth, Cond.static yX1_requireMonth, Cond.code yX1_requireMonth cX1_requireMonth 1 none, Cond.methodLink RX1 26 yX1_requireRange, Cond.static yX1_requireRange, Cond.code yX1_requireRange cX1_requireRange 3 none, Cond.classLink RX1 133 "java/lang/IllegalArgumentException", Cond.initialized "java/lang/IllegalArgumentException"]
def wsL_entitled_r2 : List Cond := [Cond.methodLink RX1 113 yX0_dueIn, Cond.instanceMethod yX0_dueIn, Cond.selects RX0 yX0_dueIn yX0_dueIn, Cond.initialized RX0, Cond.code yX0_dueIn cX0_dueIn 4 (some .long), Cond.methodLink RX0 70 yX0_shareIn, Cond.instanceMethod yX0_shareIn, Cond.selects RX0 yX0_shareIn yX0_shareIn, Cond.code yX0_shareIn cX0_shareIn 6 (some .long), Cond.fieldLink RX0 9 "JointAnnuity$Annuity" "start" "I", Cond.fieldLink RX0 37 "JointAnnuity$Annuity" "deaths" "[I", Cond.fieldLink RX0 18 "JointAnnuity$Annuity" "guaranteeEnd" "I", Cond.fieldLink RX0 24 "JointAnnuity$Annuity" "stepsOnFirst" "Z", Cond.fieldLink RX0 21 "JointAnnuity$Annuity" "survivorPercent" "I", Cond.constantLong RX0 68 (100), Cond.methodLink RX0 64 yX0_fullIn, Cond.instanceMethod yX0_fullIn, Cond.selects RX0 yX0_fullIn yX0_fullIn, Cond.code yX0_fullIn cX0_fullIn 2 (some .int), Cond.fieldLink RX0 41 "JointAnnuity$Annuity" "fullAmounts" "[I", Cond.methodLink RX0 74 yX0_protectionMonth, Cond.instanceMethod yX0_protectionMonth, Cond.selects RX0 yX0_protectionMonth yX0_protectionMonth, Cond.code yX0_protectionMonth cX0_protectionMonth 2 (some .int)]
def wsL_entitled_r3 : List Cond := [Cond.methodLink RX0 61 Lib.Math.max.name, Cond.static Lib.Math.max.name, Cond.initialized "java/lang/Math", Cond.code Lib.Math.max.name Lib.Math.max.code 2 (some .int), Cond.methodLink RX0 55 Lib.Math.min.name, Cond.static Lib.Math.min.name, Cond.code Lib.Math.min.name Lib.Math.min.code 2 (some .int), Cond.methodLink RX0 84 yX0_protectionSum, Cond.instanceMethod yX0_protectionSum, Cond.selects RX0 yX0_protectionSum yX0_protectionSum, Cond.code yX0_protectionSum cX0_protectionSum 4 (some .long), Cond.fieldLink RX0 31 "JointAnnuity$Annuity" "price" "I", Cond.fieldLink RX0 34 "JointAnnuity$Annuity" "protectedPercent" "I", Cond.methodLink RX0 81 Lib.MathLoose.max_long.x, Cond.static Lib.MathLoose.max_long.x, Cond.code Lib.MathLoose.max_long.x Lib.MathLoose.max_long.code 4 (some .long), Cond.methodLink RX0 78 yX0_sharesAhead, Cond.instanceMethod yX0_sharesAhead, Cond.selects RX0 yX0_sharesAhead yX0_sharesAhead, Cond.code yX0_sharesAhead cX0_sharesAhead 5 (some .long)]
def wsL_entitled : List Cond := .codeWith yL_entitled cL_entitled 4 (some .long) [(0, 6, 7, 23), (0, 6, 12, 15)] :: ((wsL_entitled_r1 ++ (wsL_entitled_r2 ++ wsL_entitled_r3)) ++ wsX10 ++ wsX00 ++ (vx_atS RX1 127 "java/lang/IndexOutOfBoundsException" ["java/lang/RuntimeException", "java/lang/Exception"]).filter goodWord ++ (vx_atS RX1 137 "java/lang/IllegalArgumentException" ["java/lang/RuntimeException", "java/lang/Exception"]).filter goodWord)
def wsL_upTo_r1 : List Cond := [Cond.classLink RL 23 "java/lang/IndexOutOfBoundsException", Cond.classLink RL 15 "java/lang/IllegalArgumentException", Cond.constantLong RL 53 (-101), Cond.constantLong RL 55 (-102), Cond.methodLink RL 76 yX1_entitledUpTo, Cond.instanceMethod yX1_entitledUpTo, Cond.selects RX1 yX1_entitledUpTo yX1_entitledUpTo, Cond.initialized RX1, Cond.code yX1_entitledUpTo cX1_entitledUpTo 4 (some .long), Cond.methodLink RX1 44 yX1_find, Cond.instanceMethod yX1_find, Cond.selects RX1 yX1_find yX1_find, Cond.code yX1_find cX1_find 3 (some (.object "JointAnnuity$Annuity")), Cond.classLink RX1 123 "java/lang/IndexOutOfBoundsException", Cond.initialized "java/lang/IndexOutOfBoundsException", Cond.fieldLink RX1 11 "JointAnnuity" "annuities" "[LJointAnnuity$Annuity;", Cond.methodLink RX1 102 yX1_requireMonth, Cond.static yX1_requireMonth, Cond.code yX1_requireMonth cX1_requireMonth 1 none, Cond.methodLink RX1 26 yX1_requireRange, Cond.static yX1_requireRange, Cond.code yX1_requireRange cX1_requireRange 3 none, Cond.classLink RX1 133 "java/lang/IllegalArgumentException", Cond.initialized "java/lang/IllegalArgumentException"]
def wsL_upTo_r2 : List Cond := [Cond.methodLink RX1 116 yX0_dueAhead, Cond.instanceMethod yX0_dueAhead, Cond.selects RX0 yX0_dueAhead yX0_dueAhead, Cond.initialized RX0, Cond.code yX0_dueAhead cX0_dueAhead 4 (some .long), Cond.methodLink RX0 78 yX0_sharesAhead, Cond.instanceMethod yX0_sharesAhead, Cond.selects RX0 yX0_sharesAhead yX0_sharesAhead, Cond.code yX0_sharesAhead cX0_sharesAhead 5 (some .long), Cond.fieldLink RX0 9 "JointAnnuity$Annuity" "start" "I", Cond.methodLink RX0 70 yX0_shareIn, Cond.instanceMethod yX0_shareIn, Cond.selects RX0 yX0_shareIn yX0_shareIn, Cond.code yX0_shareIn cX0_shareIn 6 (some .long), Cond.fieldLink RX0 37 "JointAnnuity$Annuity" "deaths" "[I", Cond.fieldLink RX0 18 "JointAnnuity$Annuity" "guaranteeEnd" "I", Cond.fieldLink RX0 24 "JointAnnuity$Annuity" "stepsOnFirst" "Z", Cond.fieldLink RX0 21 "JointAnnuity$Annuity" "survivorPercent" "I", Cond.constantLong RX0 68 (100), Cond.methodLink RX0 64 yX0_fullIn, Cond.instanceMethod yX0_fullIn, Cond.selects RX0 yX0_fullIn yX0_fullIn, Cond.code yX0_fullIn cX0_fullIn 2 (some .int), Cond.fieldLink RX0 41 "JointAnnuity$Annuity" "fullAmounts" "[I"]
def wsL_upTo_r3 : List Cond := [Cond.methodLink RX0 74 yX0_protectionMonth, Cond.instanceMethod yX0_protectionMonth, Cond.selects RX0 yX0_protectionMonth yX0_protectionMonth, Cond.code yX0_protectionMonth cX0_protectionMonth 2 (some .int), Cond.methodLink RX0 61 Lib.Math.max.name, Cond.static Lib.Math.max.name, Cond.initialized "java/lang/Math", Cond.code Lib.Math.max.name Lib.Math.max.code 2 (some .int), Cond.methodLink RX0 55 Lib.Math.min.name, Cond.static Lib.Math.min.name, Cond.code Lib.Math.min.name Lib.Math.min.code 2 (some .int), Cond.methodLink RX0 84 yX0_protectionSum, Cond.instanceMethod yX0_protectionSum, Cond.selects RX0 yX0_protectionSum yX0_protectionSum, Cond.code yX0_protectionSum cX0_protectionSum 4 (some .long), Cond.fieldLink RX0 31 "JointAnnuity$Annuity" "price" "I", Cond.fieldLink RX0 34 "JointAnnuity$Annuity" "protectedPercent" "I", Cond.methodLink RX0 81 Lib.MathLoose.max_long.x, Cond.static Lib.MathLoose.max_long.x, Cond.code Lib.MathLoose.max_long.x Lib.MathLoose.max_long.code 4 (some .long)]
def wsL_upTo : List Cond := .codeWith yL_upTo cL_upTo 4 (some .long) [(0, 6, 7, 23), (0, 6, 12, 15)] :: ((wsL_upTo_r1 ++ (wsL_upTo_r2 ++ wsL_upTo_r3)) ++ wsX10 ++ wsX00 ++ (vx_atS RX1 127 "java/lang/IndexOutOfBoundsException" ["java/lang/RuntimeException", "java/lang/Exception"]).filter goodWord ++ (vx_atS RX1 137 "java/lang/IllegalArgumentException" ["java/lang/RuntimeException", "java/lang/Exception"]).filter goodWord)
def wsL_protection_r1 : List Cond := [Cond.classLink RL 23 "java/lang/IndexOutOfBoundsException", Cond.constantLong RL 53 (-101), Cond.methodLink RL 79 yX1_protection, Cond.instanceMethod yX1_protection, Cond.selects RX1 yX1_protection yX1_protection, Cond.initialized RX1, Cond.code yX1_protection cX1_protection 2 (some .long), Cond.methodLink RX1 44 yX1_find, Cond.instanceMethod yX1_find, Cond.selects RX1 yX1_find yX1_find, Cond.code yX1_find cX1_find 3 (some (.object "JointAnnuity$Annuity")), Cond.classLink RX1 123 "java/lang/IndexOutOfBoundsException", Cond.initialized "java/lang/IndexOutOfBoundsException", Cond.fieldLink RX1 11 "JointAnnuity" "annuities" "[LJointAnnuity$Annuity;", Cond.methodLink RX1 119 yX0_protectionSum, Cond.instanceMethod yX0_protectionSum, Cond.selects RX0 yX0_protectionSum yX0_protectionSum, Cond.initialized RX0, Cond.code yX0_protectionSum cX0_protectionSum 4 (some .long), Cond.fieldLink RX0 31 "JointAnnuity$Annuity" "price" "I", Cond.fieldLink RX0 34 "JointAnnuity$Annuity" "protectedPercent" "I", Cond.constantLong RX0 68 (100), Cond.methodLink RX0 81 Lib.MathLoose.max_long.x, Cond.static Lib.MathLoose.max_long.x]
def wsL_protection_r2 : List Cond := [Cond.initialized "java/lang/Math", Cond.code Lib.MathLoose.max_long.x Lib.MathLoose.max_long.code 4 (some .long), Cond.methodLink RX0 74 yX0_protectionMonth, Cond.instanceMethod yX0_protectionMonth, Cond.selects RX0 yX0_protectionMonth yX0_protectionMonth, Cond.code yX0_protectionMonth cX0_protectionMonth 2 (some .int), Cond.fieldLink RX0 37 "JointAnnuity$Annuity" "deaths" "[I", Cond.methodLink RX0 61 Lib.Math.max.name, Cond.static Lib.Math.max.name, Cond.code Lib.Math.max.name Lib.Math.max.code 2 (some .int), Cond.fieldLink RX0 18 "JointAnnuity$Annuity" "guaranteeEnd" "I", Cond.methodLink RX0 55 Lib.Math.min.name, Cond.static Lib.Math.min.name, Cond.code Lib.Math.min.name Lib.Math.min.code 2 (some .int), Cond.methodLink RX0 78 yX0_sharesAhead, Cond.instanceMethod yX0_sharesAhead, Cond.selects RX0 yX0_sharesAhead yX0_sharesAhead, Cond.code yX0_sharesAhead cX0_sharesAhead 5 (some .long), Cond.fieldLink RX0 9 "JointAnnuity$Annuity" "start" "I", Cond.methodLink RX0 70 yX0_shareIn, Cond.instanceMethod yX0_shareIn, Cond.selects RX0 yX0_shareIn yX0_shareIn, Cond.code yX0_shareIn cX0_shareIn 6 (some .long), Cond.fieldLink RX0 24 "JointAnnuity$Annuity" "stepsOnFirst" "Z"]
def wsL_protection_r3 : List Cond := [Cond.fieldLink RX0 21 "JointAnnuity$Annuity" "survivorPercent" "I", Cond.methodLink RX0 64 yX0_fullIn, Cond.instanceMethod yX0_fullIn, Cond.selects RX0 yX0_fullIn yX0_fullIn, Cond.code yX0_fullIn cX0_fullIn 2 (some .int), Cond.fieldLink RX0 41 "JointAnnuity$Annuity" "fullAmounts" "[I"]
def wsL_protection : List Cond := .codeWith yL_protection cL_protection 3 (some .long) [(0, 5, 6, 23)] :: ((wsL_protection_r1 ++ (wsL_protection_r2 ++ wsL_protection_r3)) ++ wsX10 ++ wsX00 ++ (vx_atS RX1 127 "java/lang/IndexOutOfBoundsException" ["java/lang/RuntimeException", "java/lang/Exception"]).filter goodWord)
def wsL_follows_r1 : List Cond := [Cond.constantLong RL 55 (-102), Cond.methodLink RL 82 yL_full, Cond.static yL_full, Cond.initialized RL, Cond.codeWith yL_full cL_full 4 (some .int) [(0, 6, 7, 23), (0, 6, 11, 15)], Cond.classLink RL 23 "java/lang/IndexOutOfBoundsException", Cond.classLink RL 15 "java/lang/IllegalArgumentException", Cond.methodLink RL 67 yX1_fullAmount, Cond.instanceMethod yX1_fullAmount, Cond.selects RX1 yX1_fullAmount yX1_fullAmount, Cond.initialized RX1, Cond.code yX1_fullAmount cX1_fullAmount 4 (some .int), Cond.methodLink RX1 44 yX1_find, Cond.instanceMethod yX1_find, Cond.selects RX1 yX1_find yX1_find, Cond.code yX1_find cX1_find 3 (some (.object "JointAnnuity$Annuity")), Cond.classLink RX1 123 "java/lang/IndexOutOfBoundsException", Cond.initialized "java/lang/IndexOutOfBoundsException", Cond.fieldLink RX1 11 "JointAnnuity" "annuities" "[LJointAnnuity$Annuity;", Cond.methodLink RX1 102 yX1_requireMonth, Cond.static yX1_requireMonth, Cond.code yX1_requireMonth cX1_requireMonth 1 none, Cond.methodLink RX1 26 yX1_requireRange, Cond.static yX1_requireRange]
def wsL_follows_r2 : List Cond := [Cond.code yX1_requireRange cX1_requireRange 3 none, Cond.classLink RX1 133 "java/lang/IllegalArgumentException", Cond.initialized "java/lang/IllegalArgumentException", Cond.methodLink RX1 106 yX0_fullIn, Cond.instanceMethod yX0_fullIn, Cond.selects RX0 yX0_fullIn yX0_fullIn, Cond.initialized RX0, Cond.code yX0_fullIn cX0_fullIn 2 (some .int), Cond.fieldLink RX0 9 "JointAnnuity$Annuity" "start" "I", Cond.fieldLink RX0 41 "JointAnnuity$Annuity" "fullAmounts" "[I", Cond.methodLink RL 88 yL_carry, Cond.static yL_carry, Cond.codeWith yL_carry cL_carry 4 (some .int) [(0, 6, 7, 23), (0, 6, 12, 15)], Cond.methodLink RL 70 yX1_carry, Cond.instanceMethod yX1_carry, Cond.selects RX1 yX1_carry yX1_carry, Cond.code yX1_carry cX1_carry 4 (some .int), Cond.methodLink RX1 110 yX0_carryIn, Cond.instanceMethod yX0_carryIn, Cond.selects RX0 yX0_carryIn yX0_carryIn, Cond.code yX0_carryIn cX0_carryIn 2 (some .int), Cond.fieldLink RX0 44 "JointAnnuity$Annuity" "carries" "[I", Cond.methodLink RL 90 yL_entitled, Cond.static yL_entitled]
def wsL_follows_r3 : List Cond := [Cond.codeWith yL_entitled cL_entitled 4 (some .long) [(0, 6, 7, 23), (0, 6, 12, 15)], Cond.constantLong RL 53 (-101), Cond.methodLink RL 73 yX1_entitled, Cond.instanceMethod yX1_entitled, Cond.selects RX1 yX1_entitled yX1_entitled, Cond.code yX1_entitled cX1_entitled 4 (some .long), Cond.methodLink RX1 113 yX0_dueIn, Cond.instanceMethod yX0_dueIn, Cond.selects RX0 yX0_dueIn yX0_dueIn, Cond.code yX0_dueIn cX0_dueIn 4 (some .long), Cond.methodLink RX0 70 yX0_shareIn, Cond.instanceMethod yX0_shareIn, Cond.selects RX0 yX0_shareIn yX0_shareIn, Cond.code yX0_shareIn cX0_shareIn 6 (some .long), Cond.fieldLink RX0 37 "JointAnnuity$Annuity" "deaths" "[I", Cond.fieldLink RX0 18 "JointAnnuity$Annuity" "guaranteeEnd" "I", Cond.fieldLink RX0 24 "JointAnnuity$Annuity" "stepsOnFirst" "Z", Cond.fieldLink RX0 21 "JointAnnuity$Annuity" "survivorPercent" "I", Cond.constantLong RX0 68 (100), Cond.methodLink RX0 64 yX0_fullIn, Cond.methodLink RX0 74 yX0_protectionMonth, Cond.instanceMethod yX0_protectionMonth, Cond.selects RX0 yX0_protectionMonth yX0_protectionMonth, Cond.code yX0_protectionMonth cX0_protectionMonth 2 (some .int)]
def wsL_follows_r4 : List Cond := [Cond.methodLink RX0 61 Lib.Math.max.name, Cond.static Lib.Math.max.name, Cond.initialized "java/lang/Math", Cond.code Lib.Math.max.name Lib.Math.max.code 2 (some .int), Cond.methodLink RX0 55 Lib.Math.min.name, Cond.static Lib.Math.min.name, Cond.code Lib.Math.min.name Lib.Math.min.code 2 (some .int), Cond.methodLink RX0 84 yX0_protectionSum, Cond.instanceMethod yX0_protectionSum, Cond.selects RX0 yX0_protectionSum yX0_protectionSum, Cond.code yX0_protectionSum cX0_protectionSum 4 (some .long), Cond.fieldLink RX0 31 "JointAnnuity$Annuity" "price" "I", Cond.fieldLink RX0 34 "JointAnnuity$Annuity" "protectedPercent" "I", Cond.methodLink RX0 81 Lib.MathLoose.max_long.x, Cond.static Lib.MathLoose.max_long.x, Cond.code Lib.MathLoose.max_long.x Lib.MathLoose.max_long.code 4 (some .long), Cond.methodLink RX0 78 yX0_sharesAhead, Cond.instanceMethod yX0_sharesAhead, Cond.selects RX0 yX0_sharesAhead yX0_sharesAhead, Cond.code yX0_sharesAhead cX0_sharesAhead 5 (some .long), Cond.methodLink RL 93 yL_upTo, Cond.static yL_upTo, Cond.codeWith yL_upTo cL_upTo 4 (some .long) [(0, 6, 7, 23), (0, 6, 12, 15)], Cond.methodLink RL 76 yX1_entitledUpTo]
def wsL_follows_r5 : List Cond := [Cond.instanceMethod yX1_entitledUpTo, Cond.selects RX1 yX1_entitledUpTo yX1_entitledUpTo, Cond.code yX1_entitledUpTo cX1_entitledUpTo 4 (some .long), Cond.methodLink RX1 116 yX0_dueAhead, Cond.instanceMethod yX0_dueAhead, Cond.selects RX0 yX0_dueAhead yX0_dueAhead, Cond.code yX0_dueAhead cX0_dueAhead 4 (some .long), Cond.methodLink RL 96 yL_protection, Cond.static yL_protection, Cond.codeWith yL_protection cL_protection 3 (some .long) [(0, 5, 6, 23)], Cond.methodLink RL 79 yX1_protection, Cond.instanceMethod yX1_protection, Cond.selects RX1 yX1_protection yX1_protection, Cond.code yX1_protection cX1_protection 2 (some .long), Cond.methodLink RX1 119 yX0_protectionSum]
def wsL_follows : List Cond := .code yL_follows cL_follows 19 (some .boolean) :: ((wsL_follows_r1 ++ (wsL_follows_r2 ++ (wsL_follows_r3 ++ (wsL_follows_r4 ++ wsL_follows_r5)))) ++ wsX10 ++ wsX00 ++ (vx_atS RX1 127 "java/lang/IndexOutOfBoundsException" ["java/lang/RuntimeException", "java/lang/Exception"]).filter goodWord ++ (vx_atS RX1 137 "java/lang/IllegalArgumentException" ["java/lang/RuntimeException", "java/lang/Exception"]).filter goodWord)
def wsL_law0_r1 : List Cond := [Cond.classLink RL 10 RX1, Cond.instantiable RX1 4, Cond.initialized RX1, Cond.arrayClass .int, Cond.constantLong RL 53 (-101), Cond.constant RL 113 (100000), Cond.constant RL 124 (9000000), Cond.constantLong RL 55 (-102), Cond.constantLong RL 143 (100000000), Cond.constant RL 145 (100000000), Cond.constantLong RL 47 (-103), Cond.methodLink RL 99 yX1_init, Cond.instanceMethod yX1_init, Cond.code yX1_init cX1_init 1 none, Cond.methodLink RX1 3 objectInit, Cond.instanceMethod objectInit, Cond.code objectInit ⟨#[0xb1]⟩ 1 none, Cond.classLink RX1 9 RX0, Cond.fieldLink RX1 11 "JointAnnuity" "annuities" "[LJointAnnuity$Annuity;", Cond.fieldLink RX1 15 "JointAnnuity" "inflation" "[I", Cond.fieldLink RX1 19 "JointAnnuity" "count" "I", Cond.fieldLink RX1 23 "JointAnnuity" "monthThatGoesOn" "I", Cond.methodLink RL 100 yX1_month, Cond.instanceMethod yX1_month]
def wsL_law0_r2 : List Cond := [Cond.selects RX1 yX1_month yX1_month, Cond.code yX1_month cX1_month 1 (some .int), Cond.methodLink RL 104 yL_paidAll, Cond.static yL_paidAll, Cond.initialized RL, Cond.codeWith yL_paidAll cL_paidAll 3 (some .long) [(0, 5, 6, 23)], Cond.classLink RL 23 "java/lang/IndexOutOfBoundsException", Cond.methodLink RL 60 yX1_paidInAll, Cond.instanceMethod yX1_paidInAll, Cond.selects RX1 yX1_paidInAll yX1_paidInAll, Cond.code yX1_paidInAll cX1_paidInAll 2 (some .long), Cond.fieldLink RX1 94 "JointAnnuity$Annuity" "keptInAll" "J", Cond.methodLink RX1 44 yX1_find, Cond.instanceMethod yX1_find, Cond.selects RX1 yX1_find yX1_find, Cond.code yX1_find cX1_find 3 (some (.object "JointAnnuity$Annuity")), Cond.classLink RX1 123 "java/lang/IndexOutOfBoundsException", Cond.initialized "java/lang/IndexOutOfBoundsException", Cond.methodLink RL 107 yL_owes, Cond.static yL_owes, Cond.codeWith yL_owes cL_owes 3 (some .long) [(0, 5, 6, 23)], Cond.methodLink RL 64 yX1_owes, Cond.instanceMethod yX1_owes, Cond.selects RX1 yX1_owes yX1_owes]
def wsL_law0_r3 : List Cond := [Cond.code yX1_owes cX1_owes 2 (some .long), Cond.methodLink RX1 89 yX0_debtAhead, Cond.instanceMethod yX0_debtAhead, Cond.selects RX0 yX0_debtAhead yX0_debtAhead, Cond.initialized RX0, Cond.code yX0_debtAhead cX0_debtAhead 2 (some .long), Cond.fieldLink RX0 51 "JointAnnuity$Annuity" "keptInAll" "J", Cond.methodLink RX0 81 Lib.MathLoose.max_long.x, Cond.static Lib.MathLoose.max_long.x, Cond.initialized "java/lang/Math", Cond.code Lib.MathLoose.max_long.x Lib.MathLoose.max_long.code 4 (some .long), Cond.methodLink RX0 88 yX0_dueAhead, Cond.instanceMethod yX0_dueAhead, Cond.selects RX0 yX0_dueAhead yX0_dueAhead, Cond.code yX0_dueAhead cX0_dueAhead 4 (some .long), Cond.methodLink RX0 78 yX0_sharesAhead, Cond.instanceMethod yX0_sharesAhead, Cond.selects RX0 yX0_sharesAhead yX0_sharesAhead, Cond.code yX0_sharesAhead cX0_sharesAhead 5 (some .long), Cond.fieldLink RX0 9 "JointAnnuity$Annuity" "start" "I", Cond.methodLink RX0 70 yX0_shareIn, Cond.instanceMethod yX0_shareIn, Cond.selects RX0 yX0_shareIn yX0_shareIn, Cond.code yX0_shareIn cX0_shareIn 6 (some .long)]
def wsL_law0_r4 : List Cond := [Cond.fieldLink RX0 37 "JointAnnuity$Annuity" "deaths" "[I", Cond.fieldLink RX0 18 "JointAnnuity$Annuity" "guaranteeEnd" "I", Cond.fieldLink RX0 24 "JointAnnuity$Annuity" "stepsOnFirst" "Z", Cond.fieldLink RX0 21 "JointAnnuity$Annuity" "survivorPercent" "I", Cond.constantLong RX0 68 (100), Cond.methodLink RX0 64 yX0_fullIn, Cond.instanceMethod yX0_fullIn, Cond.selects RX0 yX0_fullIn yX0_fullIn, Cond.code yX0_fullIn cX0_fullIn 2 (some .int), Cond.fieldLink RX0 41 "JointAnnuity$Annuity" "fullAmounts" "[I", Cond.methodLink RX0 74 yX0_protectionMonth, Cond.instanceMethod yX0_protectionMonth, Cond.selects RX0 yX0_protectionMonth yX0_protectionMonth, Cond.code yX0_protectionMonth cX0_protectionMonth 2 (some .int), Cond.methodLink RX0 61 Lib.Math.max.name, Cond.static Lib.Math.max.name, Cond.code Lib.Math.max.name Lib.Math.max.code 2 (some .int), Cond.methodLink RX0 55 Lib.Math.min.name, Cond.static Lib.Math.min.name, Cond.code Lib.Math.min.name Lib.Math.min.code 2 (some .int), Cond.methodLink RX0 84 yX0_protectionSum, Cond.instanceMethod yX0_protectionSum, Cond.selects RX0 yX0_protectionSum yX0_protectionSum, Cond.code yX0_protectionSum cX0_protectionSum 4 (some .long)]
def wsL_law0_r5 : List Cond := [Cond.fieldLink RX0 31 "JointAnnuity$Annuity" "price" "I", Cond.fieldLink RX0 34 "JointAnnuity$Annuity" "protectedPercent" "I", Cond.methodLink RL 96 yL_protection, Cond.static yL_protection, Cond.codeWith yL_protection cL_protection 3 (some .long) [(0, 5, 6, 23)], Cond.methodLink RL 79 yX1_protection, Cond.instanceMethod yX1_protection, Cond.selects RX1 yX1_protection yX1_protection, Cond.code yX1_protection cX1_protection 2 (some .long), Cond.methodLink RX1 119 yX0_protectionSum, Cond.methodLink RL 109 yL_cell, Cond.static yL_cell, Cond.code yL_cell cL_cell 2 (some .int), Cond.constant RL 7 (44041), Cond.constant RL 8 (2147483647), Cond.methodLink RL 114 yL_add, Cond.static yL_add, Cond.codeWith yL_add cL_add 5 (some .int) [(0, 7, 8, 15), (0, 7, 13, 17)], Cond.classLink RL 15 "java/lang/IllegalArgumentException", Cond.classLink RL 17 "java/lang/IllegalStateException", Cond.methodLink RL 9 yX1_add, Cond.instanceMethod yX1_add, Cond.selects RX1 yX1_add yX1_add, Cond.code yX1_add cX1_add 5 (some .int)]
def wsL_law0_r6 : List Cond := [Cond.classLink RX1 31 "java/lang/IllegalStateException", Cond.initialized "java/lang/IllegalStateException", Cond.constant RX1 30 (100000), Cond.instantiable RX0 13, Cond.methodLink RX1 26 yX1_requireRange, Cond.static yX1_requireRange, Cond.code yX1_requireRange cX1_requireRange 3 none, Cond.classLink RX1 133 "java/lang/IllegalArgumentException", Cond.initialized "java/lang/IllegalArgumentException", Cond.methodLink RX1 38 yX0_init, Cond.instanceMethod yX0_init, Cond.code yX0_init cX0_init 4 none, Cond.methodLink RX0 3 objectInit, Cond.fieldLink RX0 15 "JointAnnuity$Annuity" "amount" "I", Cond.fieldLink RX0 28 "JointAnnuity$Annuity" "cap" "I", Cond.fieldLink RX0 44 "JointAnnuity$Annuity" "carries" "[I", Cond.arrayClass .long, Cond.fieldLink RX0 47 "JointAnnuity$Annuity" "payments" "[J", Cond.methodLink RX1 40 yX0_growBy, Cond.instanceMethod yX0_growBy, Cond.selects RX0 yX0_growBy yX0_growBy, Cond.code yX0_growBy cX0_growBy 8 none, Cond.methodLink RL 117 yL_cap, Cond.static yL_cap]
def wsL_law0_r7 : List Cond := [Cond.codeWith yL_cap cL_cap 4 (some .int) [(0, 6, 9, 23), (0, 6, 13, 15), (0, 6, 17, 17)], Cond.methodLink RL 25 yX1_setCap, Cond.instanceMethod yX1_setCap, Cond.selects RX1 yX1_setCap yX1_setCap, Cond.code yX1_setCap cX1_setCap 4 none, Cond.fieldLink RX1 59 "JointAnnuity$Annuity" "cap" "I", Cond.methodLink RX1 48 yX1_requireStartNotRun, Cond.instanceMethod yX1_requireStartNotRun, Cond.selects RX1 yX1_requireStartNotRun yX1_requireStartNotRun, Cond.code yX1_requireStartNotRun cX1_requireStartNotRun 2 none, Cond.fieldLink RX1 128 "JointAnnuity$Annuity" "start" "I", Cond.methodLink RL 120 yL_survivor, Cond.static yL_survivor, Cond.codeWith yL_survivor cL_survivor 5 (some .int) [(0, 7, 10, 23), (0, 7, 15, 15), (0, 7, 20, 17)], Cond.methodLink RL 19 yX1_setSurvivor, Cond.instanceMethod yX1_setSurvivor, Cond.selects RX1 yX1_setSurvivor yX1_setSurvivor, Cond.code yX1_setSurvivor cX1_setSurvivor 5 none, Cond.fieldLink RX1 52 "JointAnnuity$Annuity" "survivorPercent" "I", Cond.fieldLink RX1 55 "JointAnnuity$Annuity" "stepsOnFirst" "Z", Cond.methodLink RL 125 yL_protect, Cond.static yL_protect, Cond.codeWith yL_protect cL_protect 5 (some .int) [(0, 7, 10, 23), (0, 7, 15, 15), (0, 7, 20, 17)], Cond.methodLink RL 29 yX1_protect]
def wsL_law0_r8 : List Cond := [Cond.instanceMethod yX1_protect, Cond.selects RX1 yX1_protect yX1_protect, Cond.code yX1_protect cX1_protect 5 none, Cond.constant RX1 62 (10000000), Cond.fieldLink RX1 63 "JointAnnuity$Annuity" "price" "I", Cond.fieldLink RX1 66 "JointAnnuity$Annuity" "protectedPercent" "I", Cond.methodLink RL 127 yL_run, Cond.static yL_run, Cond.codeWith yL_run cL_run 2 (some .long) [(0, 4, 5, 17)], Cond.methodLink RL 43 yX1_run, Cond.instanceMethod yX1_run, Cond.selects RX1 yX1_run yX1_run, Cond.code yX1_run cX1_run 7 (some .long), Cond.methodLink RX1 84 yX0_payIn, Cond.instanceMethod yX0_payIn, Cond.selects RX0 yX0_payIn yX0_payIn, Cond.code yX0_payIn cX0_payIn 4 (some .long), Cond.methodLink RL 130 yL_paid, Cond.static yL_paid, Cond.codeWith yL_paid cL_paid 4 (some .long) [(0, 6, 7, 23), (0, 6, 12, 15)], Cond.methodLink RL 57 yX1_paid, Cond.instanceMethod yX1_paid, Cond.selects RX1 yX1_paid yX1_paid, Cond.code yX1_paid cX1_paid 4 (some .long)]
def wsL_law0_r9 : List Cond := [Cond.fieldLink RX1 98 "JointAnnuity$Annuity" "payments" "[J", Cond.methodLink RL 93 yL_upTo, Cond.static yL_upTo, Cond.codeWith yL_upTo cL_upTo 4 (some .long) [(0, 6, 7, 23), (0, 6, 12, 15)], Cond.methodLink RL 76 yX1_entitledUpTo, Cond.instanceMethod yX1_entitledUpTo, Cond.selects RX1 yX1_entitledUpTo yX1_entitledUpTo, Cond.code yX1_entitledUpTo cX1_entitledUpTo 4 (some .long), Cond.methodLink RX1 102 yX1_requireMonth, Cond.static yX1_requireMonth, Cond.code yX1_requireMonth cX1_requireMonth 1 none, Cond.methodLink RX1 116 yX0_dueAhead, Cond.methodLink RL 132 yL_inflation, Cond.static yL_inflation, Cond.codeWith yL_inflation cL_inflation 4 (some .int) [(0, 6, 7, 15)], Cond.methodLink RL 33 yX1_setInflation, Cond.instanceMethod yX1_setInflation, Cond.selects RX1 yX1_setInflation yX1_setInflation, Cond.code yX1_setInflation cX1_setInflation 8 (some .int), Cond.methodLink RL 135 yL_die, Cond.static yL_die, Cond.codeWith yL_die cL_die 5 (some .int) [(0, 7, 10, 23), (0, 7, 15, 15), (0, 7, 20, 17)], Cond.methodLink RL 37 yX1_die, Cond.instanceMethod yX1_die]
def wsL_law0_r10 : List Cond := [Cond.selects RX1 yX1_die yX1_die, Cond.code yX1_die cX1_die 5 none, Cond.methodLink RX1 69 Lib.Math.min.name, Cond.fieldLink RX1 75 "JointAnnuity$Annuity" "deaths" "[I", Cond.methodLink RL 137 yL_takeBack, Cond.static yL_takeBack, Cond.codeWith yL_takeBack cL_takeBack 4 (some .int) [(0, 6, 7, 23), (0, 6, 11, 15), (0, 6, 15, 17)], Cond.methodLink RL 40 yX1_takeBack, Cond.instanceMethod yX1_takeBack, Cond.selects RX1 yX1_takeBack yX1_takeBack, Cond.code yX1_takeBack cX1_takeBack 5 (some .int), Cond.methodLink RL 139 yL_follows, Cond.static yL_follows, Cond.code yL_follows cL_follows 19 (some .boolean), Cond.methodLink RL 82 yL_full, Cond.static yL_full, Cond.codeWith yL_full cL_full 4 (some .int) [(0, 6, 7, 23), (0, 6, 11, 15)], Cond.methodLink RL 67 yX1_fullAmount, Cond.instanceMethod yX1_fullAmount, Cond.selects RX1 yX1_fullAmount yX1_fullAmount, Cond.code yX1_fullAmount cX1_fullAmount 4 (some .int), Cond.methodLink RX1 106 yX0_fullIn, Cond.methodLink RL 88 yL_carry, Cond.static yL_carry]
def wsL_law0_r11 : List Cond := [Cond.codeWith yL_carry cL_carry 4 (some .int) [(0, 6, 7, 23), (0, 6, 12, 15)], Cond.methodLink RL 70 yX1_carry, Cond.instanceMethod yX1_carry, Cond.selects RX1 yX1_carry yX1_carry, Cond.code yX1_carry cX1_carry 4 (some .int), Cond.methodLink RX1 110 yX0_carryIn, Cond.instanceMethod yX0_carryIn, Cond.selects RX0 yX0_carryIn yX0_carryIn, Cond.code yX0_carryIn cX0_carryIn 2 (some .int), Cond.methodLink RL 90 yL_entitled, Cond.static yL_entitled, Cond.codeWith yL_entitled cL_entitled 4 (some .long) [(0, 6, 7, 23), (0, 6, 12, 15)], Cond.methodLink RL 73 yX1_entitled, Cond.instanceMethod yX1_entitled, Cond.selects RX1 yX1_entitled yX1_entitled, Cond.code yX1_entitled cX1_entitled 4 (some .long), Cond.methodLink RX1 113 yX0_dueIn, Cond.instanceMethod yX0_dueIn, Cond.selects RX0 yX0_dueIn yX0_dueIn, Cond.code yX0_dueIn cX0_dueIn 4 (some .long), Cond.methodLink RL 146 yL_back, Cond.static yL_back, Cond.codeWith yL_back cL_back 4 (some .long) [(0, 6, 7, 23), (0, 6, 12, 15), (0, 6, 17, 17)], Cond.methodLink RL 49 yX1_giveBack]
def wsL_law0_r12 : List Cond := [Cond.instanceMethod yX1_giveBack, Cond.selects RX1 yX1_giveBack yX1_giveBack, Cond.code yX1_giveBack cX1_giveBack 6 (some .long), Cond.constant RX1 88 (100000000)]
def wsL_law0 : List Cond := (wsL_law0_r1 ++ (wsL_law0_r2 ++ (wsL_law0_r3 ++ (wsL_law0_r4 ++ (wsL_law0_r5 ++ (wsL_law0_r6 ++ (wsL_law0_r7 ++ (wsL_law0_r8 ++ (wsL_law0_r9 ++ (wsL_law0_r10 ++ (wsL_law0_r11 ++ wsL_law0_r12))))))))))) ++ wsX10 ++ wsX00 ++ ([] : List Cond)
def wsL_law : List Cond := wsL_law0 ++ (vx_atS RX1 127 "java/lang/IndexOutOfBoundsException" ["java/lang/RuntimeException", "java/lang/Exception"]).filter goodWord ++ (vx_atS RX1 35 "java/lang/IllegalStateException" ["java/lang/RuntimeException", "java/lang/Exception"]).filter goodWord ++ (vx_atS RX1 137 "java/lang/IllegalArgumentException" ["java/lang/RuntimeException", "java/lang/Exception"]).filter goodWord
end
section
set_option maxRecDepth 20000 in
theorem in_wsL_law0_r1 : ∀ w ∈ wsL_law0_r1, w ∈ lw_tbl := fun w h => (goodIn_p wsL_law0_r1 [20, 23] (by decide +kernel) (by decide +kernel) w h).1
set_option maxRecDepth 20000 in
theorem in_wsL_law0_r2 : ∀ w ∈ wsL_law0_r2, w ∈ lw_tbl := fun w h => (goodIn_p wsL_law0_r2 [43, 352, 222] (by decide +kernel) (by decide +kernel) w h).1
set_option maxRecDepth 20000 in
theorem in_wsL_law0_r3 : ∀ w ∈ wsL_law0_r3, w ∈ lw_tbl := fun w h => (goodIn_p wsL_law0_r3 [359, 335, 322, 298, 302, 306] (by decide +kernel) (by decide +kernel) w h).1
set_option maxRecDepth 20000 in
theorem in_wsL_law0_r4 : ∀ w ∈ wsL_law0_r4, w ∈ lw_tbl := fun w h => (goodIn_p wsL_law0_r4 [310, 315, 210, 207, 319] (by decide +kernel) (by decide +kernel) w h).1
set_option maxRecDepth 20000 in
theorem in_wsL_law0_r5 : ∀ w ∈ wsL_law0_r5, w ∈ lw_tbl := fun w h => (goodIn_p wsL_law0_r5 [377, 46, 57] (by decide +kernel) (by decide +kernel) w h).1
set_option maxRecDepth 20000 in
theorem in_wsL_law0_r6 : ∀ w ∈ wsL_law0_r6, w ∈ lw_tbl := fun w h => (goodIn_p wsL_law0_r6 [60, 149, 204] (by decide +kernel) (by decide +kernel) w h).1
set_option maxRecDepth 20000 in
theorem in_wsL_law0_r7 : ∀ w ∈ wsL_law0_r7, w ∈ lw_tbl := fun w h => (goodIn_p wsL_law0_r7 [250, 242, 218] (by decide +kernel) (by decide +kernel) w h).1
set_option maxRecDepth 20000 in
theorem in_wsL_law0_r8 : ∀ w ∈ wsL_law0_r8, w ∈ lw_tbl := fun w h => (goodIn_p wsL_law0_r8 [257, 289, 294, 345] (by decide +kernel) (by decide +kernel) w h).1
set_option maxRecDepth 20000 in
theorem in_wsL_law0_r9 : ∀ w ∈ wsL_law0_r9, w ∈ lw_tbl := fun w h => (goodIn_p wsL_law0_r9 [366, 369, 265] (by decide +kernel) (by decide +kernel) w h).1
set_option maxRecDepth 20000 in
theorem in_wsL_law0_r10 : ∀ w ∈ wsL_law0_r10, w ∈ lw_tbl := fun w h => (goodIn_p wsL_law0_r10 [272, 281, 381, 388] (by decide +kernel) (by decide +kernel) w h).1
set_option maxRecDepth 20000 in
theorem in_wsL_law0_r11 : ∀ w ∈ wsL_law0_r11, w ∈ lw_tbl := fun w h => (goodIn_p wsL_law0_r11 [396, 400, 407, 411] (by decide +kernel) (by decide +kernel) w h).1
set_option maxRecDepth 20000 in
theorem in_wsL_law0_r12 : ∀ w ∈ wsL_law0_r12, w ∈ lw_tbl := fun w h => (goodIn_p wsL_law0_r12 [330] (by decide +kernel) (by decide +kernel) w h).1
set_option maxRecDepth 20000 in
theorem in_wsX10 : ∀ w ∈ wsX10, w ∈ lw_tbl := by decide +kernel
set_option maxRecDepth 20000 in
theorem in_wsX00 : ∀ w ∈ wsX00, w ∈ lw_tbl := by decide +kernel
theorem in_app {a b c : List Cond} (h1 : ∀ w ∈ a, w ∈ c) (h2 : ∀ w ∈ b, w ∈ c) : ∀ w ∈ a ++ b, w ∈ c := fun w h => (List.mem_append.mp h).elim (h1 w) (h2 w)
theorem wsL_law_in0 : ∀ w ∈ wsL_law0, w ∈ lw_tbl := in_app (in_app (in_app (in_app in_wsL_law0_r1 (in_app in_wsL_law0_r2 (in_app in_wsL_law0_r3 (in_app in_wsL_law0_r4 (in_app in_wsL_law0_r5 (in_app in_wsL_law0_r6 (in_app in_wsL_law0_r7 (in_app in_wsL_law0_r8 (in_app in_wsL_law0_r9 (in_app in_wsL_law0_r10 (in_app in_wsL_law0_r11 in_wsL_law0_r12))))))))))) in_wsX10) in_wsX00) (fun _ h => absurd h List.not_mem_nil)
theorem wsL_law_x0 : ∀ w ∈ (vx_atS RX1 127 "java/lang/IndexOutOfBoundsException" ["java/lang/RuntimeException", "java/lang/Exception"]).filter goodWord, w ∈ lw_tbl := by decide +kernel
theorem wsL_law_x1 : ∀ w ∈ (vx_atS RX1 35 "java/lang/IllegalStateException" ["java/lang/RuntimeException", "java/lang/Exception"]).filter goodWord, w ∈ lw_tbl := by decide +kernel
theorem wsL_law_x2 : ∀ w ∈ (vx_atS RX1 137 "java/lang/IllegalArgumentException" ["java/lang/RuntimeException", "java/lang/Exception"]).filter goodWord, w ∈ lw_tbl := by decide +kernel
theorem wsL_law_in : ∀ w ∈ wsL_law, w ∈ lw_tbl := fun w h => (List.mem_append.mp h).elim (fun h => (List.mem_append.mp h).elim (fun h => (List.mem_append.mp h).elim (fun h => wsL_law_in0 w h) (fun h => wsL_law_x0 w h)) (fun h => wsL_law_x1 w h)) (fun h => wsL_law_x2 w h)
theorem inlX0 : ∀ w ∈ wsX00, w ∈ wsL_law := fun _ h => List.mem_append_left _ (List.mem_append_left _ (List.mem_append_left _ (List.mem_append_left _ (List.mem_append_right _ h))))
theorem inX0 : ∀ w ∈ wsX00, w ∈ lw_tbl := fun w h => wsL_law_in w (inlX0 w h)
theorem inlX1 : ∀ w ∈ wsX10, w ∈ wsL_law := fun _ h => List.mem_append_left _ (List.mem_append_left _ (List.mem_append_left _ (List.mem_append_left _ (List.mem_append_left _ (List.mem_append_right _ h)))))
theorem inX1 : ∀ w ∈ wsX10, w ∈ lw_tbl := fun w h => wsL_law_in w (inlX1 w h)
theorem inX2 : ∀ w ∈ wsX20, w ∈ lw_tbl := by decide +kernel
theorem inJ9 : ∀ w ∈ wsJ90, w ∈ lw_tbl := by decide +kernel
end
section
theorem inJ0 : ∀ w ∈ wsJ00, w ∈ lw_tbl := by decide +kernel
theorem dX0_init_0 : decode cX0_init 0 = .ok (.aload_n 0, 1) := by decide +kernel
theorem dX0_init_1 : decode cX0_init 1 = .ok (.invokespecial 3, 3) := by decide +kernel
theorem dX0_init_4 : decode cX0_init 4 = .ok (.aload_n 0, 1) := by decide +kernel
theorem dX0_init_5 : decode cX0_init 5 = .ok (.iload_n 1, 1) := by decide +kernel
theorem dX0_init_6 : decode cX0_init 6 = .ok (.putfield 9, 3) := by decide +kernel
theorem dX0_init_9 : decode cX0_init 9 = .ok (.aload_n 0, 1) := by decide +kernel
theorem dX0_init_10 : decode cX0_init 10 = .ok (.iload_n 2, 1) := by decide +kernel
theorem dX0_init_11 : decode cX0_init 11 = .ok (.putfield 15, 3) := by decide +kernel
theorem dX0_init_14 : decode cX0_init 14 = .ok (.aload_n 0, 1) := by decide +kernel
theorem dX0_init_15 : decode cX0_init 15 = .ok (.iload_n 1, 1) := by decide +kernel
theorem dX0_init_16 : decode cX0_init 16 = .ok (.iload_n 3, 1) := by decide +kernel
theorem dX0_init_17 : decode cX0_init 17 = .ok (.iadd, 1) := by decide +kernel
theorem dX0_init_18 : decode cX0_init 18 = .ok (.putfield 18, 3) := by decide +kernel
theorem dX0_init_21 : decode cX0_init 21 = .ok (.aload_n 0, 1) := by decide +kernel
theorem dX0_init_22 : decode cX0_init 22 = .ok (.bipush 100, 2) := by decide +kernel
theorem dX0_init_24 : decode cX0_init 24 = .ok (.putfield 21, 3) := by decide +kernel
theorem dX0_init_27 : decode cX0_init 27 = .ok (.aload_n 0, 1) := by decide +kernel
theorem dX0_init_28 : decode cX0_init 28 = .ok (.iconst 0, 1) := by decide +kernel
theorem dX0_init_29 : decode cX0_init 29 = .ok (.putfield 24, 3) := by decide +kernel
theorem dX0_init_32 : decode cX0_init 32 = .ok (.aload_n 0, 1) := by decide +kernel
theorem dX0_init_33 : decode cX0_init 33 = .ok (.iconst 0, 1) := by decide +kernel
theorem dX0_init_34 : decode cX0_init 34 = .ok (.putfield 28, 3) := by decide +kernel
theorem dX0_init_37 : decode cX0_init 37 = .ok (.aload_n 0, 1) := by decide +kernel
theorem dX0_init_38 : decode cX0_init 38 = .ok (.iconst 0, 1) := by decide +kernel
theorem dX0_init_39 : decode cX0_init 39 = .ok (.putfield 31, 3) := by decide +kernel
theorem dX0_init_42 : decode cX0_init 42 = .ok (.aload_n 0, 1) := by decide +kernel
theorem dX0_init_43 : decode cX0_init 43 = .ok (.iconst 0, 1) := by decide +kernel
theorem dX0_init_44 : decode cX0_init 44 = .ok (.putfield 34, 3) := by decide +kernel
theorem dX0_init_47 : decode cX0_init 47 = .ok (.aload_n 0, 1) := by decide +kernel
theorem dX0_init_48 : decode cX0_init 48 = .ok (.iconst 2, 1) := by decide +kernel
theorem dX0_init_49 : decode cX0_init 49 = .ok (.newarray .int, 2) := by decide +kernel
theorem dX0_init_51 : decode cX0_init 51 = .ok (.dup, 1) := by decide +kernel
theorem dX0_init_52 : decode cX0_init 52 = .ok (.iconst 0, 1) := by decide +kernel
theorem dX0_init_53 : decode cX0_init 53 = .ok (.sipush 240, 3) := by decide +kernel
theorem dX0_init_56 : decode cX0_init 56 = .ok (.iastore, 1) := by decide +kernel
theorem dX0_init_57 : decode cX0_init 57 = .ok (.dup, 1) := by decide +kernel
theorem dX0_init_58 : decode cX0_init 58 = .ok (.iconst 1, 1) := by decide +kernel
theorem dX0_init_59 : decode cX0_init 59 = .ok (.sipush 240, 3) := by decide +kernel
theorem dX0_init_62 : decode cX0_init 62 = .ok (.iastore, 1) := by decide +kernel
theorem dX0_init_63 : decode cX0_init 63 = .ok (.putfield 37, 3) := by decide +kernel
theorem dX0_init_66 : decode cX0_init 66 = .ok (.aload_n 0, 1) := by decide +kernel
theorem dX0_init_67 : decode cX0_init 67 = .ok (.bipush 20, 2) := by decide +kernel
theorem dX0_init_69 : decode cX0_init 69 = .ok (.newarray .int, 2) := by decide +kernel
theorem dX0_init_71 : decode cX0_init 71 = .ok (.putfield 41, 3) := by decide +kernel
theorem dX0_init_74 : decode cX0_init 74 = .ok (.aload_n 0, 1) := by decide +kernel
theorem dX0_init_75 : decode cX0_init 75 = .ok (.bipush 20, 2) := by decide +kernel
theorem dX0_init_77 : decode cX0_init 77 = .ok (.newarray .int, 2) := by decide +kernel
theorem dX0_init_79 : decode cX0_init 79 = .ok (.putfield 44, 3) := by decide +kernel
theorem dX0_init_82 : decode cX0_init 82 = .ok (.aload_n 0, 1) := by decide +kernel
theorem dX0_init_83 : decode cX0_init 83 = .ok (.sipush 240, 3) := by decide +kernel
theorem dX0_init_86 : decode cX0_init 86 = .ok (.newarray .long, 2) := by decide +kernel
theorem dX0_init_88 : decode cX0_init 88 = .ok (.putfield 47, 3) := by decide +kernel
theorem dX0_init_91 : decode cX0_init 91 = .ok (.aload_n 0, 1) := by decide +kernel
theorem dX0_init_92 : decode cX0_init 92 = .ok (.lconst 0, 1) := by decide +kernel
theorem dX0_init_93 : decode cX0_init 93 = .ok (.putfield 51, 3) := by decide +kernel
theorem dX0_init_96 : decode cX0_init 96 = .ok (.return_, 1) := by decide +kernel
theorem dX0_growBy_0 : decode cX0_growBy 0 = .ok (.aload_n 0, 1) := by decide +kernel
theorem dX0_growBy_1 : decode cX0_growBy 1 = .ok (.getfield 15, 3) := by decide +kernel
theorem dX0_growBy_4 : decode cX0_growBy 4 = .ok (.istore_n 2, 1) := by decide +kernel
theorem dX0_growBy_5 : decode cX0_growBy 5 = .ok (.iconst 0, 1) := by decide +kernel
theorem dX0_growBy_6 : decode cX0_growBy 6 = .ok (.istore_n 3, 1) := by decide +kernel
theorem dX0_growBy_7 : decode cX0_growBy 7 = .ok (.aload_n 0, 1) := by decide +kernel
theorem dX0_growBy_8 : decode cX0_growBy 8 = .ok (.getfield 41, 3) := by decide +kernel
theorem dX0_growBy_11 : decode cX0_growBy 11 = .ok (.iconst 0, 1) := by decide +kernel
theorem dX0_growBy_12 : decode cX0_growBy 12 = .ok (.iload_n 2, 1) := by decide +kernel
theorem dX0_growBy_13 : decode cX0_growBy 13 = .ok (.iastore, 1) := by decide +kernel
theorem dX0_growBy_14 : decode cX0_growBy 14 = .ok (.aload_n 0, 1) := by decide +kernel
theorem dX0_growBy_15 : decode cX0_growBy 15 = .ok (.getfield 44, 3) := by decide +kernel
theorem dX0_growBy_18 : decode cX0_growBy 18 = .ok (.iconst 0, 1) := by decide +kernel
theorem dX0_growBy_19 : decode cX0_growBy 19 = .ok (.iload_n 3, 1) := by decide +kernel
theorem dX0_growBy_20 : decode cX0_growBy 20 = .ok (.iastore, 1) := by decide +kernel
theorem dX0_growBy_21 : decode cX0_growBy 21 = .ok (.iconst 1, 1) := by decide +kernel
theorem dX0_growBy_22 : decode cX0_growBy 22 = .ok (.istore 4, 2) := by decide +kernel
theorem dX0_growBy_24 : decode cX0_growBy 24 = .ok (.iload 4, 2) := by decide +kernel
theorem dX0_growBy_26 : decode cX0_growBy 26 = .ok (.bipush 20, 2) := by decide +kernel
theorem dX0_growBy_28 : decode cX0_growBy 28 = .ok (.if_icmp .ge 86, 3) := by decide +kernel
theorem dX0_growBy_31 : decode cX0_growBy 31 = .ok (.aload_n 0, 1) := by decide +kernel
theorem dX0_growBy_32 : decode cX0_growBy 32 = .ok (.getfield 9, 3) := by decide +kernel
theorem dX0_growBy_35 : decode cX0_growBy 35 = .ok (.bipush 12, 2) := by decide +kernel
theorem dX0_growBy_37 : decode cX0_growBy 37 = .ok (.idiv, 1) := by decide +kernel
theorem dX0_growBy_38 : decode cX0_growBy 38 = .ok (.iload 4, 2) := by decide +kernel
theorem dX0_growBy_40 : decode cX0_growBy 40 = .ok (.iadd, 1) := by decide +kernel
theorem dX0_growBy_41 : decode cX0_growBy 41 = .ok (.iconst 1, 1) := by decide +kernel
theorem dX0_growBy_42 : decode cX0_growBy 42 = .ok (.isub, 1) := by decide +kernel
theorem dX0_growBy_43 : decode cX0_growBy 43 = .ok (.istore 5, 2) := by decide +kernel
theorem dX0_growBy_45 : decode cX0_growBy 45 = .ok (.iload 5, 2) := by decide +kernel
theorem dX0_growBy_47 : decode cX0_growBy 47 = .ok (.aload_n 1, 1) := by decide +kernel
theorem dX0_growBy_48 : decode cX0_growBy 48 = .ok (.arraylength, 1) := by decide +kernel
theorem dX0_growBy_49 : decode cX0_growBy 49 = .ok (.if_icmp .ge 43, 3) := by decide +kernel
theorem dX0_growBy_52 : decode cX0_growBy 52 = .ok (.aload_n 1, 1) := by decide +kernel
theorem dX0_growBy_53 : decode cX0_growBy 53 = .ok (.iload 5, 2) := by decide +kernel
theorem dX0_growBy_55 : decode cX0_growBy 55 = .ok (.iaload, 1) := by decide +kernel
theorem dX0_growBy_56 : decode cX0_growBy 56 = .ok (.iload_n 3, 1) := by decide +kernel
theorem dX0_growBy_57 : decode cX0_growBy 57 = .ok (.iadd, 1) := by decide +kernel
theorem dX0_growBy_58 : decode cX0_growBy 58 = .ok (.istore 6, 2) := by decide +kernel
theorem dX0_growBy_60 : decode cX0_growBy 60 = .ok (.iconst 0, 1) := by decide +kernel
theorem dX0_growBy_61 : decode cX0_growBy 61 = .ok (.iload 6, 2) := by decide +kernel
theorem dX0_growBy_63 : decode cX0_growBy 63 = .ok (.aload_n 0, 1) := by decide +kernel
theorem dX0_growBy_64 : decode cX0_growBy 64 = .ok (.getfield 28, 3) := by decide +kernel
theorem dX0_growBy_67 : decode cX0_growBy 67 = .ok (.invokestatic 55, 3) := by decide +kernel
theorem dX0_growBy_70 : decode cX0_growBy 70 = .ok (.invokestatic 61, 3) := by decide +kernel
theorem dX0_growBy_73 : decode cX0_growBy 73 = .ok (.istore 7, 2) := by decide +kernel
theorem dX0_growBy_75 : decode cX0_growBy 75 = .ok (.iload 6, 2) := by decide +kernel
theorem dX0_growBy_77 : decode cX0_growBy 77 = .ok (.iload 7, 2) := by decide +kernel
theorem dX0_growBy_79 : decode cX0_growBy 79 = .ok (.isub, 1) := by decide +kernel
theorem dX0_growBy_80 : decode cX0_growBy 80 = .ok (.istore_n 3, 1) := by decide +kernel
theorem dX0_growBy_81 : decode cX0_growBy 81 = .ok (.iload_n 2, 1) := by decide +kernel
theorem dX0_growBy_82 : decode cX0_growBy 82 = .ok (.iload_n 2, 1) := by decide +kernel
theorem dX0_growBy_83 : decode cX0_growBy 83 = .ok (.iload 7, 2) := by decide +kernel
theorem dX0_growBy_85 : decode cX0_growBy 85 = .ok (.imul, 1) := by decide +kernel
theorem dX0_growBy_86 : decode cX0_growBy 86 = .ok (.sipush 1000, 3) := by decide +kernel
theorem dX0_growBy_89 : decode cX0_growBy 89 = .ok (.idiv, 1) := by decide +kernel
theorem dX0_growBy_90 : decode cX0_growBy 90 = .ok (.iadd, 1) := by decide +kernel
theorem dX0_growBy_91 : decode cX0_growBy 91 = .ok (.istore_n 2, 1) := by decide +kernel
theorem dX0_growBy_92 : decode cX0_growBy 92 = .ok (.aload_n 0, 1) := by decide +kernel
theorem dX0_growBy_93 : decode cX0_growBy 93 = .ok (.getfield 41, 3) := by decide +kernel
theorem dX0_growBy_96 : decode cX0_growBy 96 = .ok (.iload 4, 2) := by decide +kernel
theorem dX0_growBy_98 : decode cX0_growBy 98 = .ok (.iload_n 2, 1) := by decide +kernel
theorem dX0_growBy_99 : decode cX0_growBy 99 = .ok (.iastore, 1) := by decide +kernel
theorem dX0_growBy_100 : decode cX0_growBy 100 = .ok (.aload_n 0, 1) := by decide +kernel
theorem dX0_growBy_101 : decode cX0_growBy 101 = .ok (.getfield 44, 3) := by decide +kernel
theorem dX0_growBy_104 : decode cX0_growBy 104 = .ok (.iload 4, 2) := by decide +kernel
theorem dX0_growBy_106 : decode cX0_growBy 106 = .ok (.iload_n 3, 1) := by decide +kernel
theorem dX0_growBy_107 : decode cX0_growBy 107 = .ok (.iastore, 1) := by decide +kernel
theorem dX0_growBy_108 : decode cX0_growBy 108 = .ok (.iinc 4 1, 3) := by decide +kernel
theorem dX0_growBy_111 : decode cX0_growBy 111 = .ok (.goto (-87), 3) := by decide +kernel
theorem dX0_growBy_114 : decode cX0_growBy 114 = .ok (.return_, 1) := by decide +kernel
theorem dX0_fullIn_0 : decode cX0_fullIn 0 = .ok (.iload_n 1, 1) := by decide +kernel
theorem dX0_fullIn_1 : decode cX0_fullIn 1 = .ok (.aload_n 0, 1) := by decide +kernel
theorem dX0_fullIn_2 : decode cX0_fullIn 2 = .ok (.getfield 9, 3) := by decide +kernel
theorem dX0_fullIn_5 : decode cX0_fullIn 5 = .ok (.if_icmp .ge 7, 3) := by decide +kernel
theorem dX0_fullIn_8 : decode cX0_fullIn 8 = .ok (.iconst 0, 1) := by decide +kernel
theorem dX0_fullIn_9 : decode cX0_fullIn 9 = .ok (.goto 17, 3) := by decide +kernel
theorem dX0_fullIn_12 : decode cX0_fullIn 12 = .ok (.aload_n 0, 1) := by decide +kernel
theorem dX0_fullIn_13 : decode cX0_fullIn 13 = .ok (.getfield 41, 3) := by decide +kernel
theorem dX0_fullIn_16 : decode cX0_fullIn 16 = .ok (.iload_n 1, 1) := by decide +kernel
theorem dX0_fullIn_17 : decode cX0_fullIn 17 = .ok (.aload_n 0, 1) := by decide +kernel
theorem dX0_fullIn_18 : decode cX0_fullIn 18 = .ok (.getfield 9, 3) := by decide +kernel
theorem dX0_fullIn_21 : decode cX0_fullIn 21 = .ok (.isub, 1) := by decide +kernel
theorem dX0_fullIn_22 : decode cX0_fullIn 22 = .ok (.bipush 12, 2) := by decide +kernel
theorem dX0_fullIn_24 : decode cX0_fullIn 24 = .ok (.idiv, 1) := by decide +kernel
theorem dX0_fullIn_25 : decode cX0_fullIn 25 = .ok (.iaload, 1) := by decide +kernel
theorem dX0_fullIn_26 : decode cX0_fullIn 26 = .ok (.ireturn, 1) := by decide +kernel
theorem dX0_carryIn_0 : decode cX0_carryIn 0 = .ok (.iload_n 1, 1) := by decide +kernel
theorem dX0_carryIn_1 : decode cX0_carryIn 1 = .ok (.aload_n 0, 1) := by decide +kernel
theorem dX0_carryIn_2 : decode cX0_carryIn 2 = .ok (.getfield 9, 3) := by decide +kernel
theorem dX0_carryIn_5 : decode cX0_carryIn 5 = .ok (.if_icmp .ge 7, 3) := by decide +kernel
theorem dX0_carryIn_8 : decode cX0_carryIn 8 = .ok (.iconst 0, 1) := by decide +kernel
theorem dX0_carryIn_9 : decode cX0_carryIn 9 = .ok (.goto 17, 3) := by decide +kernel
theorem dX0_carryIn_12 : decode cX0_carryIn 12 = .ok (.aload_n 0, 1) := by decide +kernel
theorem dX0_carryIn_13 : decode cX0_carryIn 13 = .ok (.getfield 44, 3) := by decide +kernel
theorem dX0_carryIn_16 : decode cX0_carryIn 16 = .ok (.iload_n 1, 1) := by decide +kernel
theorem dX0_carryIn_17 : decode cX0_carryIn 17 = .ok (.aload_n 0, 1) := by decide +kernel
theorem dX0_carryIn_18 : decode cX0_carryIn 18 = .ok (.getfield 9, 3) := by decide +kernel
theorem dX0_carryIn_21 : decode cX0_carryIn 21 = .ok (.isub, 1) := by decide +kernel
theorem dX0_carryIn_22 : decode cX0_carryIn 22 = .ok (.bipush 12, 2) := by decide +kernel
theorem dX0_carryIn_24 : decode cX0_carryIn 24 = .ok (.idiv, 1) := by decide +kernel
theorem dX0_carryIn_25 : decode cX0_carryIn 25 = .ok (.iaload, 1) := by decide +kernel
theorem dX0_carryIn_26 : decode cX0_carryIn 26 = .ok (.ireturn, 1) := by decide +kernel
set_option maxRecDepth 20000 in
theorem ggX0_shareIn_X0_fullIn : GoodIn wsX0_shareIn wsX0_fullIn := goodIn_r _ [11, 1, 12, 13, 14, 15, 16, 17, 18, 19, 20, 21, 22, 23, 24, 25] (by decide +kernel) (by decide +kernel)
set_option maxRecDepth 20000 in
theorem gX0_shareIn_X0_fullIn : GoodIn wsX0_shareIn (wsV RX0 64 RX0 yX0_fullIn wsX0_fullIn) := goodIn_app (goodIn_of _ (by decide +kernel)) ggX0_shareIn_X0_fullIn
theorem dX0_shareIn_0 : decode cX0_shareIn 0 = .ok (.iload_n 1, 1) := by decide +kernel
theorem dX0_shareIn_1 : decode cX0_shareIn 1 = .ok (.aload_n 0, 1) := by decide +kernel
theorem dX0_shareIn_2 : decode cX0_shareIn 2 = .ok (.getfield 9, 3) := by decide +kernel
theorem dX0_shareIn_5 : decode cX0_shareIn 5 = .ok (.if_icmp .ge 5, 3) := by decide +kernel
theorem dX0_shareIn_8 : decode cX0_shareIn 8 = .ok (.lconst 0, 1) := by decide +kernel
theorem dX0_shareIn_9 : decode cX0_shareIn 9 = .ok (.lreturn, 1) := by decide +kernel
theorem dX0_shareIn_10 : decode cX0_shareIn 10 = .ok (.aload_n 0, 1) := by decide +kernel
theorem dX0_shareIn_11 : decode cX0_shareIn 11 = .ok (.iload_n 1, 1) := by decide +kernel
theorem dX0_shareIn_12 : decode cX0_shareIn 12 = .ok (.invokevirtual 64, 3) := by decide +kernel
theorem dX0_shareIn_15 : decode cX0_shareIn 15 = .ok (.i2l, 1) := by decide +kernel
theorem dX0_shareIn_16 : decode cX0_shareIn 16 = .ok (.lstore_n 2, 1) := by decide +kernel
theorem dX0_shareIn_17 : decode cX0_shareIn 17 = .ok (.iload_n 1, 1) := by decide +kernel
theorem dX0_shareIn_18 : decode cX0_shareIn 18 = .ok (.aload_n 0, 1) := by decide +kernel
theorem dX0_shareIn_19 : decode cX0_shareIn 19 = .ok (.getfield 37, 3) := by decide +kernel
theorem dX0_shareIn_22 : decode cX0_shareIn 22 = .ok (.iconst 0, 1) := by decide +kernel
theorem dX0_shareIn_23 : decode cX0_shareIn 23 = .ok (.iaload, 1) := by decide +kernel
theorem dX0_shareIn_24 : decode cX0_shareIn 24 = .ok (.if_icmp .gt 7, 3) := by decide +kernel
theorem dX0_shareIn_27 : decode cX0_shareIn 27 = .ok (.iconst 1, 1) := by decide +kernel
theorem dX0_shareIn_28 : decode cX0_shareIn 28 = .ok (.goto 4, 3) := by decide +kernel
theorem dX0_shareIn_31 : decode cX0_shareIn 31 = .ok (.iconst 0, 1) := by decide +kernel
theorem dX0_shareIn_32 : decode cX0_shareIn 32 = .ok (.istore 4, 2) := by decide +kernel
theorem dX0_shareIn_34 : decode cX0_shareIn 34 = .ok (.iload_n 1, 1) := by decide +kernel
theorem dX0_shareIn_35 : decode cX0_shareIn 35 = .ok (.aload_n 0, 1) := by decide +kernel
theorem dX0_shareIn_36 : decode cX0_shareIn 36 = .ok (.getfield 37, 3) := by decide +kernel
theorem dX0_shareIn_39 : decode cX0_shareIn 39 = .ok (.iconst 1, 1) := by decide +kernel
theorem dX0_shareIn_40 : decode cX0_shareIn 40 = .ok (.iaload, 1) := by decide +kernel
theorem dX0_shareIn_41 : decode cX0_shareIn 41 = .ok (.if_icmp .gt 7, 3) := by decide +kernel
theorem dX0_shareIn_44 : decode cX0_shareIn 44 = .ok (.iconst 1, 1) := by decide +kernel
theorem dX0_shareIn_45 : decode cX0_shareIn 45 = .ok (.goto 4, 3) := by decide +kernel
theorem dX0_shareIn_48 : decode cX0_shareIn 48 = .ok (.iconst 0, 1) := by decide +kernel
theorem dX0_shareIn_49 : decode cX0_shareIn 49 = .ok (.istore 5, 2) := by decide +kernel
theorem dX0_shareIn_51 : decode cX0_shareIn 51 = .ok (.iload_n 1, 1) := by decide +kernel
theorem dX0_shareIn_52 : decode cX0_shareIn 52 = .ok (.aload_n 0, 1) := by decide +kernel
theorem dX0_shareIn_53 : decode cX0_shareIn 53 = .ok (.getfield 18, 3) := by decide +kernel
theorem dX0_shareIn_56 : decode cX0_shareIn 56 = .ok (.if_icmp .lt 13, 3) := by decide +kernel
theorem dX0_shareIn_59 : decode cX0_shareIn 59 = .ok (.iload 4, 2) := by decide +kernel
theorem dX0_shareIn_61 : decode cX0_shareIn 61 = .ok (.ifCond .eq 10, 3) := by decide +kernel
theorem dX0_shareIn_64 : decode cX0_shareIn 64 = .ok (.iload 5, 2) := by decide +kernel
theorem dX0_shareIn_66 : decode cX0_shareIn 66 = .ok (.ifCond .eq 5, 3) := by decide +kernel
theorem dX0_shareIn_69 : decode cX0_shareIn 69 = .ok (.lload_n 2, 1) := by decide +kernel
theorem dX0_shareIn_70 : decode cX0_shareIn 70 = .ok (.lreturn, 1) := by decide +kernel
theorem dX0_shareIn_71 : decode cX0_shareIn 71 = .ok (.iload 4, 2) := by decide +kernel
theorem dX0_shareIn_73 : decode cX0_shareIn 73 = .ok (.ifCond .eq 12, 3) := by decide +kernel
theorem dX0_shareIn_76 : decode cX0_shareIn 76 = .ok (.aload_n 0, 1) := by decide +kernel
theorem dX0_shareIn_77 : decode cX0_shareIn 77 = .ok (.getfield 24, 3) := by decide +kernel
theorem dX0_shareIn_80 : decode cX0_shareIn 80 = .ok (.ifCond .ne 5, 3) := by decide +kernel
theorem dX0_shareIn_83 : decode cX0_shareIn 83 = .ok (.lload_n 2, 1) := by decide +kernel
theorem dX0_shareIn_84 : decode cX0_shareIn 84 = .ok (.lreturn, 1) := by decide +kernel
theorem dX0_shareIn_85 : decode cX0_shareIn 85 = .ok (.iload 4, 2) := by decide +kernel
theorem dX0_shareIn_87 : decode cX0_shareIn 87 = .ok (.ifCond .ne 8, 3) := by decide +kernel
theorem dX0_shareIn_90 : decode cX0_shareIn 90 = .ok (.iload 5, 2) := by decide +kernel
theorem dX0_shareIn_92 : decode cX0_shareIn 92 = .ok (.ifCond .eq 17, 3) := by decide +kernel
theorem dX0_shareIn_95 : decode cX0_shareIn 95 = .ok (.lload_n 2, 1) := by decide +kernel
theorem dX0_shareIn_96 : decode cX0_shareIn 96 = .ok (.aload_n 0, 1) := by decide +kernel
theorem dX0_shareIn_97 : decode cX0_shareIn 97 = .ok (.getfield 21, 3) := by decide +kernel
theorem dX0_shareIn_100 : decode cX0_shareIn 100 = .ok (.i2l, 1) := by decide +kernel
theorem dX0_shareIn_101 : decode cX0_shareIn 101 = .ok (.lmul, 1) := by decide +kernel
theorem dX0_shareIn_102 : decode cX0_shareIn 102 = .ok (.ldc2_w 68, 3) := by decide +kernel
theorem dX0_shareIn_105 : decode cX0_shareIn 105 = .ok (.ldiv, 1) := by decide +kernel
theorem dX0_shareIn_106 : decode cX0_shareIn 106 = .ok (.goto 4, 3) := by decide +kernel
theorem dX0_shareIn_109 : decode cX0_shareIn 109 = .ok (.lconst 0, 1) := by decide +kernel
theorem dX0_shareIn_110 : decode cX0_shareIn 110 = .ok (.lreturn, 1) := by decide +kernel
set_option maxRecDepth 20000 in
theorem ggX0_sharesAhead_X0_shareIn : GoodIn wsX0_sharesAhead wsX0_shareIn := goodIn_r _ [6, 1, 7, 8, 9, 10, 11, 12, 13, 14, 5, 15, 16, 17, 18, 19, 20, 21, 22, 23, 24, 25, 26, 27, 28, 29] (by decide +kernel) (by decide +kernel)
set_option maxRecDepth 20000 in
theorem gX0_sharesAhead_X0_shareIn : GoodIn wsX0_sharesAhead (wsV RX0 70 RX0 yX0_shareIn wsX0_shareIn) := goodIn_app (goodIn_of _ (by decide +kernel)) ggX0_sharesAhead_X0_shareIn
theorem dX0_sharesAhead_0 : decode cX0_sharesAhead 0 = .ok (.lconst 0, 1) := by decide +kernel
theorem dX0_sharesAhead_1 : decode cX0_sharesAhead 1 = .ok (.lstore_n 2, 1) := by decide +kernel
theorem dX0_sharesAhead_2 : decode cX0_sharesAhead 2 = .ok (.aload_n 0, 1) := by decide +kernel
theorem dX0_sharesAhead_3 : decode cX0_sharesAhead 3 = .ok (.getfield 9, 3) := by decide +kernel
theorem dX0_sharesAhead_6 : decode cX0_sharesAhead 6 = .ok (.istore 4, 2) := by decide +kernel
theorem dX0_sharesAhead_8 : decode cX0_sharesAhead 8 = .ok (.iload 4, 2) := by decide +kernel
theorem dX0_sharesAhead_10 : decode cX0_sharesAhead 10 = .ok (.iload_n 1, 1) := by decide +kernel
theorem dX0_sharesAhead_11 : decode cX0_sharesAhead 11 = .ok (.if_icmp .ge 18, 3) := by decide +kernel
theorem dX0_sharesAhead_14 : decode cX0_sharesAhead 14 = .ok (.lload_n 2, 1) := by decide +kernel
theorem dX0_sharesAhead_15 : decode cX0_sharesAhead 15 = .ok (.aload_n 0, 1) := by decide +kernel
theorem dX0_sharesAhead_16 : decode cX0_sharesAhead 16 = .ok (.iload 4, 2) := by decide +kernel
theorem dX0_sharesAhead_18 : decode cX0_sharesAhead 18 = .ok (.invokevirtual 70, 3) := by decide +kernel
theorem dX0_sharesAhead_21 : decode cX0_sharesAhead 21 = .ok (.ladd, 1) := by decide +kernel
theorem dX0_sharesAhead_22 : decode cX0_sharesAhead 22 = .ok (.lstore_n 2, 1) := by decide +kernel
theorem dX0_sharesAhead_23 : decode cX0_sharesAhead 23 = .ok (.iinc 4 1, 3) := by decide +kernel
theorem dX0_sharesAhead_26 : decode cX0_sharesAhead 26 = .ok (.goto (-18), 3) := by decide +kernel
theorem dX0_sharesAhead_29 : decode cX0_sharesAhead 29 = .ok (.lload_n 2, 1) := by decide +kernel
theorem dX0_sharesAhead_30 : decode cX0_sharesAhead 30 = .ok (.lreturn, 1) := by decide +kernel
theorem dX0_protectionMonth_0 : decode cX0_protectionMonth 0 = .ok (.aload_n 0, 1) := by decide +kernel
theorem dX0_protectionMonth_1 : decode cX0_protectionMonth 1 = .ok (.getfield 37, 3) := by decide +kernel
theorem dX0_protectionMonth_4 : decode cX0_protectionMonth 4 = .ok (.iconst 0, 1) := by decide +kernel
theorem dX0_protectionMonth_5 : decode cX0_protectionMonth 5 = .ok (.iaload, 1) := by decide +kernel
theorem dX0_protectionMonth_6 : decode cX0_protectionMonth 6 = .ok (.sipush 240, 3) := by decide +kernel
theorem dX0_protectionMonth_9 : decode cX0_protectionMonth 9 = .ok (.if_icmp .eq 15, 3) := by decide +kernel
theorem dX0_protectionMonth_12 : decode cX0_protectionMonth 12 = .ok (.aload_n 0, 1) := by decide +kernel
theorem dX0_protectionMonth_13 : decode cX0_protectionMonth 13 = .ok (.getfield 37, 3) := by decide +kernel
theorem dX0_protectionMonth_16 : decode cX0_protectionMonth 16 = .ok (.iconst 1, 1) := by decide +kernel
theorem dX0_protectionMonth_17 : decode cX0_protectionMonth 17 = .ok (.iaload, 1) := by decide +kernel
theorem dX0_protectionMonth_18 : decode cX0_protectionMonth 18 = .ok (.sipush 240, 3) := by decide +kernel
theorem dX0_protectionMonth_21 : decode cX0_protectionMonth 21 = .ok (.if_icmp .ne 7, 3) := by decide +kernel
theorem dX0_protectionMonth_24 : decode cX0_protectionMonth 24 = .ok (.sipush 240, 3) := by decide +kernel
theorem dX0_protectionMonth_27 : decode cX0_protectionMonth 27 = .ok (.ireturn, 1) := by decide +kernel
theorem dX0_protectionMonth_28 : decode cX0_protectionMonth 28 = .ok (.aload_n 0, 1) := by decide +kernel
theorem dX0_protectionMonth_29 : decode cX0_protectionMonth 29 = .ok (.getfield 37, 3) := by decide +kernel
theorem dX0_protectionMonth_32 : decode cX0_protectionMonth 32 = .ok (.iconst 0, 1) := by decide +kernel
theorem dX0_protectionMonth_33 : decode cX0_protectionMonth 33 = .ok (.iaload, 1) := by decide +kernel
theorem dX0_protectionMonth_34 : decode cX0_protectionMonth 34 = .ok (.aload_n 0, 1) := by decide +kernel
theorem dX0_protectionMonth_35 : decode cX0_protectionMonth 35 = .ok (.getfield 37, 3) := by decide +kernel
theorem dX0_protectionMonth_38 : decode cX0_protectionMonth 38 = .ok (.iconst 1, 1) := by decide +kernel
theorem dX0_protectionMonth_39 : decode cX0_protectionMonth 39 = .ok (.iaload, 1) := by decide +kernel
theorem dX0_protectionMonth_40 : decode cX0_protectionMonth 40 = .ok (.invokestatic 61, 3) := by decide +kernel
theorem dX0_protectionMonth_43 : decode cX0_protectionMonth 43 = .ok (.iconst 1, 1) := by decide +kernel
theorem dX0_protectionMonth_44 : decode cX0_protectionMonth 44 = .ok (.iadd, 1) := by decide +kernel
theorem dX0_protectionMonth_45 : decode cX0_protectionMonth 45 = .ok (.istore_n 1, 1) := by decide +kernel
theorem dX0_protectionMonth_46 : decode cX0_protectionMonth 46 = .ok (.iload_n 1, 1) := by decide +kernel
theorem dX0_protectionMonth_47 : decode cX0_protectionMonth 47 = .ok (.aload_n 0, 1) := by decide +kernel
theorem dX0_protectionMonth_48 : decode cX0_protectionMonth 48 = .ok (.getfield 18, 3) := by decide +kernel
theorem dX0_protectionMonth_51 : decode cX0_protectionMonth 51 = .ok (.invokestatic 61, 3) := by decide +kernel
theorem dX0_protectionMonth_54 : decode cX0_protectionMonth 54 = .ok (.sipush 240, 3) := by decide +kernel
theorem dX0_protectionMonth_57 : decode cX0_protectionMonth 57 = .ok (.invokestatic 55, 3) := by decide +kernel
theorem dX0_protectionMonth_60 : decode cX0_protectionMonth 60 = .ok (.ireturn, 1) := by decide +kernel
set_option maxRecDepth 20000 in
theorem ggX0_protectionSum_X0_protectionMonth : GoodIn wsX0_protectionSum wsX0_protectionMonth := goodIn_r _ [12, 13, 14, 15, 6, 16, 17, 18, 19, 20, 37, 38, 39, 40, 41, 42, 43, 44, 45, 46, 47, 48, 49] (by decide +kernel) (by decide +kernel)
set_option maxRecDepth 20000 in
theorem gX0_protectionSum_X0_protectionMonth : GoodIn wsX0_protectionSum (wsV RX0 74 RX0 yX0_protectionMonth wsX0_protectionMonth) := goodIn_app (goodIn_of _ (by decide +kernel)) ggX0_protectionSum_X0_protectionMonth
set_option maxRecDepth 20000 in
theorem ggX0_protectionSum_X0_sharesAhead : GoodIn wsX0_protectionSum wsX0_sharesAhead := goodIn_r _ [24, 25, 26, 27, 28, 11, 29, 13, 17, 30, 31, 3, 32, 33, 34, 35, 36, 37, 38, 39, 40, 41, 42, 43, 44, 45, 46, 47, 48, 49] (by decide +kernel) (by decide +kernel)
set_option maxRecDepth 20000 in
theorem gX0_protectionSum_X0_sharesAhead : GoodIn wsX0_protectionSum (wsV RX0 78 RX0 yX0_sharesAhead wsX0_sharesAhead) := goodIn_app (goodIn_of _ (by decide +kernel)) ggX0_protectionSum_X0_sharesAhead
theorem dX0_protectionSum_0 : decode cX0_protectionSum 0 = .ok (.aload_n 0, 1) := by decide +kernel
theorem dX0_protectionSum_1 : decode cX0_protectionSum 1 = .ok (.invokevirtual 74, 3) := by decide +kernel
theorem dX0_protectionSum_4 : decode cX0_protectionSum 4 = .ok (.istore_n 1, 1) := by decide +kernel
theorem dX0_protectionSum_5 : decode cX0_protectionSum 5 = .ok (.iload_n 1, 1) := by decide +kernel
theorem dX0_protectionSum_6 : decode cX0_protectionSum 6 = .ok (.sipush 240, 3) := by decide +kernel
theorem dX0_protectionSum_9 : decode cX0_protectionSum 9 = .ok (.if_icmp .ne 5, 3) := by decide +kernel
theorem dX0_protectionSum_12 : decode cX0_protectionSum 12 = .ok (.lconst 0, 1) := by decide +kernel
theorem dX0_protectionSum_13 : decode cX0_protectionSum 13 = .ok (.lreturn, 1) := by decide +kernel
theorem dX0_protectionSum_14 : decode cX0_protectionSum 14 = .ok (.aload_n 0, 1) := by decide +kernel
theorem dX0_protectionSum_15 : decode cX0_protectionSum 15 = .ok (.getfield 31, 3) := by decide +kernel
theorem dX0_protectionSum_18 : decode cX0_protectionSum 18 = .ok (.i2l, 1) := by decide +kernel
theorem dX0_protectionSum_19 : decode cX0_protectionSum 19 = .ok (.aload_n 0, 1) := by decide +kernel
theorem dX0_protectionSum_20 : decode cX0_protectionSum 20 = .ok (.getfield 34, 3) := by decide +kernel
theorem dX0_protectionSum_23 : decode cX0_protectionSum 23 = .ok (.i2l, 1) := by decide +kernel
theorem dX0_protectionSum_24 : decode cX0_protectionSum 24 = .ok (.lmul, 1) := by decide +kernel
theorem dX0_protectionSum_25 : decode cX0_protectionSum 25 = .ok (.ldc2_w 68, 3) := by decide +kernel
theorem dX0_protectionSum_28 : decode cX0_protectionSum 28 = .ok (.ldiv, 1) := by decide +kernel
theorem dX0_protectionSum_29 : decode cX0_protectionSum 29 = .ok (.lstore_n 2, 1) := by decide +kernel
theorem dX0_protectionSum_30 : decode cX0_protectionSum 30 = .ok (.lconst 0, 1) := by decide +kernel
theorem dX0_protectionSum_31 : decode cX0_protectionSum 31 = .ok (.lload_n 2, 1) := by decide +kernel
theorem dX0_protectionSum_32 : decode cX0_protectionSum 32 = .ok (.aload_n 0, 1) := by decide +kernel
theorem dX0_protectionSum_33 : decode cX0_protectionSum 33 = .ok (.iload_n 1, 1) := by decide +kernel
theorem dX0_protectionSum_34 : decode cX0_protectionSum 34 = .ok (.invokevirtual 78, 3) := by decide +kernel
theorem dX0_protectionSum_37 : decode cX0_protectionSum 37 = .ok (.lsub, 1) := by decide +kernel
theorem dX0_protectionSum_38 : decode cX0_protectionSum 38 = .ok (.invokestatic 81, 3) := by decide +kernel
theorem dX0_protectionSum_41 : decode cX0_protectionSum 41 = .ok (.lreturn, 1) := by decide +kernel
set_option maxRecDepth 20000 in
theorem ggX0_dueIn_X0_shareIn : GoodIn wsX0_dueIn wsX0_shareIn := goodIn_r _ [5, 6, 7, 8, 9, 10, 11, 12, 13, 14, 4, 15, 16, 41, 42, 43, 44, 45, 46, 47, 48, 49, 50, 51, 52, 53] (by decide +kernel) (by decide +kernel)
set_option maxRecDepth 20000 in
theorem gX0_dueIn_X0_shareIn : GoodIn wsX0_dueIn (wsV RX0 70 RX0 yX0_shareIn wsX0_shareIn) := goodIn_app (goodIn_of _ (by decide +kernel)) ggX0_dueIn_X0_shareIn
set_option maxRecDepth 20000 in
theorem ggX0_dueIn_X0_protectionMonth : GoodIn wsX0_dueIn wsX0_protectionMonth := goodIn_r _ [20, 7, 21, 22, 23, 24, 8, 25, 26, 27, 41, 42, 43, 44, 45, 46, 47, 48, 49, 50, 51, 52, 53] (by decide +kernel) (by decide +kernel)
set_option maxRecDepth 20000 in
theorem gX0_dueIn_X0_protectionMonth : GoodIn wsX0_dueIn (wsV RX0 74 RX0 yX0_protectionMonth wsX0_protectionMonth) := goodIn_app (goodIn_of _ (by decide +kernel)) ggX0_dueIn_X0_protectionMonth
set_option maxRecDepth 20000 in
theorem ggX0_dueIn_X0_protectionSum : GoodIn wsX0_dueIn wsX0_protectionSum := goodIn_r _ [31, 32, 33, 11, 34, 35, 23, 36, 17, 18, 19, 4, 20, 7, 21, 22, 24, 8, 25, 26, 27, 37, 38, 39, 40, 6, 1, 2, 3, 5, 9, 10, 12, 13, 14, 15, 16, 41, 42, 43, 44, 45, 46, 47, 48, 49, 50, 51, 52, 53] (by decide +kernel) (by decide +kernel)
set_option maxRecDepth 20000 in
theorem gX0_dueIn_X0_protectionSum : GoodIn wsX0_dueIn (wsV RX0 84 RX0 yX0_protectionSum wsX0_protectionSum) := goodIn_app (goodIn_of _ (by decide +kernel)) ggX0_dueIn_X0_protectionSum
theorem dX0_dueIn_0 : decode cX0_dueIn 0 = .ok (.aload_n 0, 1) := by decide +kernel
theorem dX0_dueIn_1 : decode cX0_dueIn 1 = .ok (.iload_n 1, 1) := by decide +kernel
theorem dX0_dueIn_2 : decode cX0_dueIn 2 = .ok (.invokevirtual 70, 3) := by decide +kernel
theorem dX0_dueIn_5 : decode cX0_dueIn 5 = .ok (.lstore_n 2, 1) := by decide +kernel
theorem dX0_dueIn_6 : decode cX0_dueIn 6 = .ok (.iload_n 1, 1) := by decide +kernel
theorem dX0_dueIn_7 : decode cX0_dueIn 7 = .ok (.aload_n 0, 1) := by decide +kernel
theorem dX0_dueIn_8 : decode cX0_dueIn 8 = .ok (.invokevirtual 74, 3) := by decide +kernel
theorem dX0_dueIn_11 : decode cX0_dueIn 11 = .ok (.if_icmp .ne 12, 3) := by decide +kernel
theorem dX0_dueIn_14 : decode cX0_dueIn 14 = .ok (.lload_n 2, 1) := by decide +kernel
theorem dX0_dueIn_15 : decode cX0_dueIn 15 = .ok (.aload_n 0, 1) := by decide +kernel
theorem dX0_dueIn_16 : decode cX0_dueIn 16 = .ok (.invokevirtual 84, 3) := by decide +kernel
theorem dX0_dueIn_19 : decode cX0_dueIn 19 = .ok (.ladd, 1) := by decide +kernel
theorem dX0_dueIn_20 : decode cX0_dueIn 20 = .ok (.goto 4, 3) := by decide +kernel
theorem dX0_dueIn_23 : decode cX0_dueIn 23 = .ok (.lload_n 2, 1) := by decide +kernel
theorem dX0_dueIn_24 : decode cX0_dueIn 24 = .ok (.lreturn, 1) := by decide +kernel
set_option maxRecDepth 20000 in
theorem ggX0_dueAhead_X0_sharesAhead : GoodIn wsX0_dueAhead wsX0_sharesAhead := goodIn_r _ [5, 6, 7, 8, 9, 4, 10, 11, 12, 13, 14, 15, 16, 17, 18, 19, 20, 41, 42, 43, 44, 45, 46, 47, 48, 49, 50, 51, 52, 53] (by decide +kernel) (by decide +kernel)
set_option maxRecDepth 20000 in
theorem gX0_dueAhead_X0_sharesAhead : GoodIn wsX0_dueAhead (wsV RX0 78 RX0 yX0_sharesAhead wsX0_sharesAhead) := goodIn_app (goodIn_of _ (by decide +kernel)) ggX0_dueAhead_X0_sharesAhead
set_option maxRecDepth 20000 in
theorem ggX0_dueAhead_X0_protectionMonth : GoodIn wsX0_dueAhead wsX0_protectionMonth := goodIn_r _ [24, 11, 25, 26, 27, 28, 12, 29, 30, 31, 41, 42, 43, 44, 45, 46, 47, 48, 49, 50, 51, 52, 53] (by decide +kernel) (by decide +kernel)
set_option maxRecDepth 20000 in
theorem gX0_dueAhead_X0_protectionMonth : GoodIn wsX0_dueAhead (wsV RX0 74 RX0 yX0_protectionMonth wsX0_protectionMonth) := goodIn_app (goodIn_of _ (by decide +kernel)) ggX0_dueAhead_X0_protectionMonth
set_option maxRecDepth 20000 in
theorem ggX0_dueAhead_X0_protectionSum : GoodIn wsX0_dueAhead wsX0_protectionSum := goodIn_r _ [35, 36, 37, 15, 38, 39, 27, 40, 21, 22, 23, 4, 24, 11, 25, 26, 28, 12, 29, 30, 31, 1, 2, 3, 5, 6, 7, 8, 9, 10, 13, 14, 16, 17, 18, 19, 20, 41, 42, 43, 44, 45, 46, 47, 48, 49, 50, 51, 52, 53] (by decide +kernel) (by decide +kernel)
set_option maxRecDepth 20000 in
theorem gX0_dueAhead_X0_protectionSum : GoodIn wsX0_dueAhead (wsV RX0 84 RX0 yX0_protectionSum wsX0_protectionSum) := goodIn_app (goodIn_of _ (by decide +kernel)) ggX0_dueAhead_X0_protectionSum
theorem dX0_dueAhead_0 : decode cX0_dueAhead 0 = .ok (.aload_n 0, 1) := by decide +kernel
theorem dX0_dueAhead_1 : decode cX0_dueAhead 1 = .ok (.iload_n 1, 1) := by decide +kernel
theorem dX0_dueAhead_2 : decode cX0_dueAhead 2 = .ok (.invokevirtual 78, 3) := by decide +kernel
theorem dX0_dueAhead_5 : decode cX0_dueAhead 5 = .ok (.lstore_n 2, 1) := by decide +kernel
theorem dX0_dueAhead_6 : decode cX0_dueAhead 6 = .ok (.aload_n 0, 1) := by decide +kernel
theorem dX0_dueAhead_7 : decode cX0_dueAhead 7 = .ok (.invokevirtual 74, 3) := by decide +kernel
theorem dX0_dueAhead_10 : decode cX0_dueAhead 10 = .ok (.iload_n 1, 1) := by decide +kernel
theorem dX0_dueAhead_11 : decode cX0_dueAhead 11 = .ok (.if_icmp .ge 12, 3) := by decide +kernel
theorem dX0_dueAhead_14 : decode cX0_dueAhead 14 = .ok (.lload_n 2, 1) := by decide +kernel
theorem dX0_dueAhead_15 : decode cX0_dueAhead 15 = .ok (.aload_n 0, 1) := by decide +kernel
theorem dX0_dueAhead_16 : decode cX0_dueAhead 16 = .ok (.invokevirtual 84, 3) := by decide +kernel
theorem dX0_dueAhead_19 : decode cX0_dueAhead 19 = .ok (.ladd, 1) := by decide +kernel
theorem dX0_dueAhead_20 : decode cX0_dueAhead 20 = .ok (.goto 4, 3) := by decide +kernel
theorem dX0_dueAhead_23 : decode cX0_dueAhead 23 = .ok (.lload_n 2, 1) := by decide +kernel
theorem dX0_dueAhead_24 : decode cX0_dueAhead 24 = .ok (.lreturn, 1) := by decide +kernel
set_option maxRecDepth 20000 in
theorem ggX0_payIn_X0_dueAhead : GoodIn wsX0_payIn wsX0_dueAhead := goodIn_r _ [11, 12, 13, 14, 10, 15, 16, 17, 18, 19, 20, 21, 22, 23, 24, 25, 26, 27, 28, 29, 30, 31, 32, 33, 34, 35, 36, 4, 37, 38, 39, 40, 41, 42, 43, 44, 45, 46, 2, 3, 5, 47, 48, 49, 50, 51, 52, 53, 54, 55, 56, 57, 58, 59] (by decide +kernel) (by decide +kernel)
set_option maxRecDepth 20000 in
theorem gX0_payIn_X0_dueAhead : GoodIn wsX0_payIn (wsV RX0 88 RX0 yX0_dueAhead wsX0_dueAhead) := goodIn_app (goodIn_of _ (by decide +kernel)) ggX0_payIn_X0_dueAhead
theorem dX0_payIn_0 : decode cX0_payIn 0 = .ok (.lconst 0, 1) := by decide +kernel
theorem dX0_payIn_1 : decode cX0_payIn 1 = .ok (.aload_n 0, 1) := by decide +kernel
theorem dX0_payIn_2 : decode cX0_payIn 2 = .ok (.iload_n 1, 1) := by decide +kernel
theorem dX0_payIn_3 : decode cX0_payIn 3 = .ok (.iconst 1, 1) := by decide +kernel
theorem dX0_payIn_4 : decode cX0_payIn 4 = .ok (.iadd, 1) := by decide +kernel
theorem dX0_payIn_5 : decode cX0_payIn 5 = .ok (.invokevirtual 88, 3) := by decide +kernel
theorem dX0_payIn_8 : decode cX0_payIn 8 = .ok (.aload_n 0, 1) := by decide +kernel
theorem dX0_payIn_9 : decode cX0_payIn 9 = .ok (.getfield 51, 3) := by decide +kernel
theorem dX0_payIn_12 : decode cX0_payIn 12 = .ok (.lsub, 1) := by decide +kernel
theorem dX0_payIn_13 : decode cX0_payIn 13 = .ok (.invokestatic 81, 3) := by decide +kernel
theorem dX0_payIn_16 : decode cX0_payIn 16 = .ok (.lstore_n 2, 1) := by decide +kernel
theorem dX0_payIn_17 : decode cX0_payIn 17 = .ok (.aload_n 0, 1) := by decide +kernel
theorem dX0_payIn_18 : decode cX0_payIn 18 = .ok (.getfield 47, 3) := by decide +kernel
theorem dX0_payIn_21 : decode cX0_payIn 21 = .ok (.iload_n 1, 1) := by decide +kernel
theorem dX0_payIn_22 : decode cX0_payIn 22 = .ok (.lload_n 2, 1) := by decide +kernel
theorem dX0_payIn_23 : decode cX0_payIn 23 = .ok (.lastore, 1) := by decide +kernel
theorem dX0_payIn_24 : decode cX0_payIn 24 = .ok (.aload_n 0, 1) := by decide +kernel
theorem dX0_payIn_25 : decode cX0_payIn 25 = .ok (.dup, 1) := by decide +kernel
theorem dX0_payIn_26 : decode cX0_payIn 26 = .ok (.getfield 51, 3) := by decide +kernel
theorem dX0_payIn_29 : decode cX0_payIn 29 = .ok (.lload_n 2, 1) := by decide +kernel
theorem dX0_payIn_30 : decode cX0_payIn 30 = .ok (.ladd, 1) := by decide +kernel
theorem dX0_payIn_31 : decode cX0_payIn 31 = .ok (.putfield 51, 3) := by decide +kernel
theorem dX0_payIn_34 : decode cX0_payIn 34 = .ok (.lload_n 2, 1) := by decide +kernel
theorem dX0_payIn_35 : decode cX0_payIn 35 = .ok (.lreturn, 1) := by decide +kernel
set_option maxRecDepth 20000 in
theorem ggX0_debtAhead_X0_dueAhead : GoodIn wsX0_debtAhead wsX0_dueAhead := goodIn_r _ [10, 11, 12, 13, 9, 14, 15, 16, 17, 18, 19, 20, 21, 22, 23, 24, 25, 26, 27, 28, 29, 30, 31, 32, 33, 34, 35, 4, 36, 37, 38, 39, 40, 41, 42, 43, 44, 45, 2, 3, 5, 46, 47, 48, 49, 50, 51, 52, 53, 54, 55, 56, 57, 58] (by decide +kernel) (by decide +kernel)
set_option maxRecDepth 20000 in
theorem gX0_debtAhead_X0_dueAhead : GoodIn wsX0_debtAhead (wsV RX0 88 RX0 yX0_dueAhead wsX0_dueAhead) := goodIn_app (goodIn_of _ (by decide +kernel)) ggX0_debtAhead_X0_dueAhead
theorem dX0_debtAhead_0 : decode cX0_debtAhead 0 = .ok (.lconst 0, 1) := by decide +kernel
theorem dX0_debtAhead_1 : decode cX0_debtAhead 1 = .ok (.aload_n 0, 1) := by decide +kernel
theorem dX0_debtAhead_2 : decode cX0_debtAhead 2 = .ok (.getfield 51, 3) := by decide +kernel
theorem dX0_debtAhead_5 : decode cX0_debtAhead 5 = .ok (.aload_n 0, 1) := by decide +kernel
theorem dX0_debtAhead_6 : decode cX0_debtAhead 6 = .ok (.iload_n 1, 1) := by decide +kernel
theorem dX0_debtAhead_7 : decode cX0_debtAhead 7 = .ok (.invokevirtual 88, 3) := by decide +kernel
theorem dX0_debtAhead_10 : decode cX0_debtAhead 10 = .ok (.lsub, 1) := by decide +kernel
theorem dX0_debtAhead_11 : decode cX0_debtAhead 11 = .ok (.invokestatic 81, 3) := by decide +kernel
theorem dX0_debtAhead_14 : decode cX0_debtAhead 14 = .ok (.lreturn, 1) := by decide +kernel
end
section
theorem dX1_init_0 : decode cX1_init 0 = .ok (.aload_n 0, 1) := by decide +kernel
theorem dX1_init_1 : decode cX1_init 1 = .ok (.invokespecial 3, 3) := by decide +kernel
theorem dX1_init_4 : decode cX1_init 4 = .ok (.aload_n 0, 1) := by decide +kernel
theorem dX1_init_5 : decode cX1_init 5 = .ok (.bipush 20, 2) := by decide +kernel
theorem dX1_init_7 : decode cX1_init 7 = .ok (.anewarray 9, 3) := by decide +kernel
theorem dX1_init_10 : decode cX1_init 10 = .ok (.putfield 11, 3) := by decide +kernel
theorem dX1_init_13 : decode cX1_init 13 = .ok (.aload_n 0, 1) := by decide +kernel
theorem dX1_init_14 : decode cX1_init 14 = .ok (.bipush 20, 2) := by decide +kernel
theorem dX1_init_16 : decode cX1_init 16 = .ok (.newarray .int, 2) := by decide +kernel
theorem dX1_init_18 : decode cX1_init 18 = .ok (.putfield 15, 3) := by decide +kernel
theorem dX1_init_21 : decode cX1_init 21 = .ok (.aload_n 0, 1) := by decide +kernel
theorem dX1_init_22 : decode cX1_init 22 = .ok (.iconst 0, 1) := by decide +kernel
theorem dX1_init_23 : decode cX1_init 23 = .ok (.putfield 19, 3) := by decide +kernel
theorem dX1_init_26 : decode cX1_init 26 = .ok (.aload_n 0, 1) := by decide +kernel
theorem dX1_init_27 : decode cX1_init 27 = .ok (.iconst 0, 1) := by decide +kernel
theorem dX1_init_28 : decode cX1_init 28 = .ok (.putfield 23, 3) := by decide +kernel
theorem dX1_init_31 : decode cX1_init 31 = .ok (.return_, 1) := by decide +kernel
set_option maxRecDepth 20000 in
theorem ggX1_add_X1_requireRange : GoodIn wsX1_add wsX1_requireRange := goodIn_ca (goodIn_r _ [14, 15, 16] (by decide +kernel) (by decide +kernel)) (goodIn_sub (fun _ h => List.mem_cons_of_mem _ (List.mem_append_right _ h)) (by decide +kernel))
set_option maxRecDepth 20000 in
theorem gX1_add_X1_requireRange : GoodIn wsX1_add (va_wsS RX1 26 yX1_requireRange wsX1_requireRange) := goodIn_app (goodIn_of _ (by decide +kernel)) ggX1_add_X1_requireRange
set_option maxRecDepth 20000 in
theorem ggX1_add_X0_init : GoodIn wsX1_add wsX0_init := goodIn_r _ [19, 20, 21, 22, 23, 24, 25, 26, 27, 28, 29, 30, 31, 32, 33, 34, 35, 36, 37, 53, 54, 55, 56, 57, 58, 59, 60, 61, 62, 63, 64, 65] (by decide +kernel) (by decide +kernel)
set_option maxRecDepth 20000 in
theorem gX1_add_X0_init : GoodIn wsX1_add (wsX0_init) := ggX1_add_X0_init
set_option maxRecDepth 20000 in
theorem ggX1_add_X0_growBy : GoodIn wsX1_add wsX0_growBy := goodIn_r _ [41, 24, 33, 34, 23, 28, 42, 43, 44, 45, 46, 47, 48, 53, 54, 55, 56, 57, 58, 59, 60, 61, 62, 63, 64, 65] (by decide +kernel) (by decide +kernel)
set_option maxRecDepth 20000 in
theorem gX1_add_X0_growBy : GoodIn wsX1_add (wsV RX1 40 RX0 yX0_growBy wsX0_growBy) := goodIn_app (goodIn_of _ (by decide +kernel)) ggX1_add_X0_growBy
theorem dX1_add_0 : decode cX1_add 0 = .ok (.iload_n 1, 1) := by decide +kernel
theorem dX1_add_1 : decode cX1_add 1 = .ok (.aload_n 0, 1) := by decide +kernel
theorem dX1_add_2 : decode cX1_add 2 = .ok (.getfield 23, 3) := by decide +kernel
theorem dX1_add_5 : decode cX1_add 5 = .ok (.sipush 239, 3) := by decide +kernel
theorem dX1_add_8 : decode cX1_add 8 = .ok (.invokestatic 26, 3) := by decide +kernel
theorem dX1_add_11 : decode cX1_add 11 = .ok (.iload_n 2, 1) := by decide +kernel
theorem dX1_add_12 : decode cX1_add 12 = .ok (.iconst 1, 1) := by decide +kernel
theorem dX1_add_13 : decode cX1_add 13 = .ok (.ldc 30, 2) := by decide +kernel
theorem dX1_add_15 : decode cX1_add 15 = .ok (.invokestatic 26, 3) := by decide +kernel
theorem dX1_add_18 : decode cX1_add 18 = .ok (.iload_n 3, 1) := by decide +kernel
theorem dX1_add_19 : decode cX1_add 19 = .ok (.iconst 0, 1) := by decide +kernel
theorem dX1_add_20 : decode cX1_add 20 = .ok (.sipush 240, 3) := by decide +kernel
theorem dX1_add_23 : decode cX1_add 23 = .ok (.invokestatic 26, 3) := by decide +kernel
theorem dX1_add_26 : decode cX1_add 26 = .ok (.aload_n 0, 1) := by decide +kernel
theorem dX1_add_27 : decode cX1_add 27 = .ok (.getfield 19, 3) := by decide +kernel
theorem dX1_add_30 : decode cX1_add 30 = .ok (.aload_n 0, 1) := by decide +kernel
theorem dX1_add_31 : decode cX1_add 31 = .ok (.getfield 11, 3) := by decide +kernel
theorem dX1_add_34 : decode cX1_add 34 = .ok (.arraylength, 1) := by decide +kernel
theorem dX1_add_35 : decode cX1_add 35 = .ok (.if_icmp .lt 13, 3) := by decide +kernel
theorem dX1_add_38 : decode cX1_add 38 = .ok (.new 31, 3) := by decide +kernel
theorem dX1_add_41 : decode cX1_add 41 = .ok (.dup, 1) := by decide +kernel
theorem dX1_add_42 : decode cX1_add 42 = .ok (.ldc 33, 2) := by decide +kernel
theorem dX1_add_44 : decode cX1_add 44 = .ok (.invokespecial 35, 3) := by decide +kernel
theorem dX1_add_47 : decode cX1_add 47 = .ok (.athrow, 1) := by decide +kernel
theorem dX1_add_48 : decode cX1_add 48 = .ok (.new 9, 3) := by decide +kernel
theorem dX1_add_51 : decode cX1_add 51 = .ok (.dup, 1) := by decide +kernel
theorem dX1_add_52 : decode cX1_add 52 = .ok (.iload_n 1, 1) := by decide +kernel
theorem dX1_add_53 : decode cX1_add 53 = .ok (.iload_n 2, 1) := by decide +kernel
theorem dX1_add_54 : decode cX1_add 54 = .ok (.iload_n 3, 1) := by decide +kernel
theorem dX1_add_55 : decode cX1_add 55 = .ok (.invokespecial 38, 3) := by decide +kernel
theorem dX1_add_58 : decode cX1_add 58 = .ok (.astore 4, 2) := by decide +kernel
theorem dX1_add_60 : decode cX1_add 60 = .ok (.aload 4, 2) := by decide +kernel
theorem dX1_add_62 : decode cX1_add 62 = .ok (.aload_n 0, 1) := by decide +kernel
theorem dX1_add_63 : decode cX1_add 63 = .ok (.getfield 15, 3) := by decide +kernel
theorem dX1_add_66 : decode cX1_add 66 = .ok (.invokevirtual 40, 3) := by decide +kernel
theorem dX1_add_69 : decode cX1_add 69 = .ok (.aload_n 0, 1) := by decide +kernel
theorem dX1_add_70 : decode cX1_add 70 = .ok (.getfield 11, 3) := by decide +kernel
theorem dX1_add_73 : decode cX1_add 73 = .ok (.aload_n 0, 1) := by decide +kernel
theorem dX1_add_74 : decode cX1_add 74 = .ok (.getfield 19, 3) := by decide +kernel
theorem dX1_add_77 : decode cX1_add 77 = .ok (.aload 4, 2) := by decide +kernel
theorem dX1_add_79 : decode cX1_add 79 = .ok (.aastore, 1) := by decide +kernel
theorem dX1_add_80 : decode cX1_add 80 = .ok (.aload_n 0, 1) := by decide +kernel
theorem dX1_add_81 : decode cX1_add 81 = .ok (.dup, 1) := by decide +kernel
theorem dX1_add_82 : decode cX1_add 82 = .ok (.getfield 19, 3) := by decide +kernel
theorem dX1_add_85 : decode cX1_add 85 = .ok (.iconst 1, 1) := by decide +kernel
theorem dX1_add_86 : decode cX1_add 86 = .ok (.iadd, 1) := by decide +kernel
theorem dX1_add_87 : decode cX1_add 87 = .ok (.putfield 19, 3) := by decide +kernel
theorem dX1_add_90 : decode cX1_add 90 = .ok (.aload_n 0, 1) := by decide +kernel
theorem dX1_add_91 : decode cX1_add 91 = .ok (.getfield 19, 3) := by decide +kernel
theorem dX1_add_94 : decode cX1_add 94 = .ok (.iconst 1, 1) := by decide +kernel
theorem dX1_add_95 : decode cX1_add 95 = .ok (.isub, 1) := by decide +kernel
theorem dX1_add_96 : decode cX1_add 96 = .ok (.ireturn, 1) := by decide +kernel
set_option maxRecDepth 20000 in
theorem ggX1_setSurvivor_X1_find : GoodIn wsX1_setSurvivor wsX1_find := goodIn_ca (goodIn_r _ [7, 8, 9, 10, 37, 38, 39, 40] (by decide +kernel) (by decide +kernel)) (goodIn_sub (fun _ h => List.mem_cons_of_mem _ (List.mem_append_left _ (List.mem_append_left _ (List.mem_append_right _ h)))) (by decide +kernel))
set_option maxRecDepth 20000 in
theorem gX1_setSurvivor_X1_find : GoodIn wsX1_setSurvivor (wsV RX1 44 RX1 yX1_find wsX1_find) := goodIn_app (goodIn_of _ (by decide +kernel)) ggX1_setSurvivor_X1_find
set_option maxRecDepth 20000 in
theorem ggX1_setSurvivor_X1_requireRange : GoodIn wsX1_setSurvivor wsX1_requireRange := goodIn_ca (goodIn_r _ [13, 14, 15] (by decide +kernel) (by decide +kernel)) (goodIn_sub (fun _ h => List.mem_cons_of_mem _ (List.mem_append_left _ (List.mem_append_right _ h))) (by decide +kernel))
set_option maxRecDepth 20000 in
theorem gX1_setSurvivor_X1_requireRange : GoodIn wsX1_setSurvivor (va_wsS RX1 26 yX1_requireRange wsX1_requireRange) := goodIn_app (goodIn_of _ (by decide +kernel)) ggX1_setSurvivor_X1_requireRange
set_option maxRecDepth 20000 in
theorem ggX1_setSurvivor_X1_requireStartNotRun : GoodIn wsX1_setSurvivor wsX1_requireStartNotRun := goodIn_ca (goodIn_r _ [19, 20, 21, 22, 23, 24, 25, 26, 27, 28, 29, 30, 31, 32, 33, 34, 35, 36, 37, 38, 39, 40] (by decide +kernel) (by decide +kernel)) (goodIn_sub (fun _ h => List.mem_cons_of_mem _ (List.mem_append_right _ h)) (by decide +kernel))
set_option maxRecDepth 20000 in
theorem gX1_setSurvivor_X1_requireStartNotRun : GoodIn wsX1_setSurvivor (wsV RX1 48 RX1 yX1_requireStartNotRun wsX1_requireStartNotRun) := goodIn_app (goodIn_of _ (by decide +kernel)) ggX1_setSurvivor_X1_requireStartNotRun
theorem dX1_setSurvivor_0 : decode cX1_setSurvivor 0 = .ok (.aload_n 0, 1) := by decide +kernel
theorem dX1_setSurvivor_1 : decode cX1_setSurvivor 1 = .ok (.iload_n 1, 1) := by decide +kernel
theorem dX1_setSurvivor_2 : decode cX1_setSurvivor 2 = .ok (.invokevirtual 44, 3) := by decide +kernel
theorem dX1_setSurvivor_5 : decode cX1_setSurvivor 5 = .ok (.astore 4, 2) := by decide +kernel
theorem dX1_setSurvivor_7 : decode cX1_setSurvivor 7 = .ok (.iload_n 2, 1) := by decide +kernel
theorem dX1_setSurvivor_8 : decode cX1_setSurvivor 8 = .ok (.iconst 0, 1) := by decide +kernel
theorem dX1_setSurvivor_9 : decode cX1_setSurvivor 9 = .ok (.bipush 100, 2) := by decide +kernel
theorem dX1_setSurvivor_11 : decode cX1_setSurvivor 11 = .ok (.invokestatic 26, 3) := by decide +kernel
theorem dX1_setSurvivor_14 : decode cX1_setSurvivor 14 = .ok (.aload_n 0, 1) := by decide +kernel
theorem dX1_setSurvivor_15 : decode cX1_setSurvivor 15 = .ok (.aload 4, 2) := by decide +kernel
theorem dX1_setSurvivor_17 : decode cX1_setSurvivor 17 = .ok (.invokevirtual 48, 3) := by decide +kernel
theorem dX1_setSurvivor_20 : decode cX1_setSurvivor 20 = .ok (.aload 4, 2) := by decide +kernel
theorem dX1_setSurvivor_22 : decode cX1_setSurvivor 22 = .ok (.iload_n 2, 1) := by decide +kernel
theorem dX1_setSurvivor_23 : decode cX1_setSurvivor 23 = .ok (.putfield 52, 3) := by decide +kernel
theorem dX1_setSurvivor_26 : decode cX1_setSurvivor 26 = .ok (.aload 4, 2) := by decide +kernel
theorem dX1_setSurvivor_28 : decode cX1_setSurvivor 28 = .ok (.iload_n 3, 1) := by decide +kernel
theorem dX1_setSurvivor_29 : decode cX1_setSurvivor 29 = .ok (.putfield 55, 3) := by decide +kernel
theorem dX1_setSurvivor_32 : decode cX1_setSurvivor 32 = .ok (.return_, 1) := by decide +kernel
set_option maxRecDepth 20000 in
theorem ggX1_setCap_X1_find : GoodIn wsX1_setCap wsX1_find := goodIn_ca (goodIn_r _ [7, 8, 9, 10, 54, 55, 56, 57] (by decide +kernel) (by decide +kernel)) (goodIn_sub (fun _ h => List.mem_cons_of_mem _ (List.mem_append_left _ (List.mem_append_left _ (List.mem_append_right _ h)))) (by decide +kernel))
set_option maxRecDepth 20000 in
theorem gX1_setCap_X1_find : GoodIn wsX1_setCap (wsV RX1 44 RX1 yX1_find wsX1_find) := goodIn_app (goodIn_of _ (by decide +kernel)) ggX1_setCap_X1_find
set_option maxRecDepth 20000 in
theorem ggX1_setCap_X1_requireRange : GoodIn wsX1_setCap wsX1_requireRange := goodIn_ca (goodIn_r _ [13, 14, 15] (by decide +kernel) (by decide +kernel)) (goodIn_sub (fun _ h => List.mem_cons_of_mem _ (List.mem_append_left _ (List.mem_append_right _ h))) (by decide +kernel))
set_option maxRecDepth 20000 in
theorem gX1_setCap_X1_requireRange : GoodIn wsX1_setCap (va_wsS RX1 26 yX1_requireRange wsX1_requireRange) := goodIn_app (goodIn_of _ (by decide +kernel)) ggX1_setCap_X1_requireRange
set_option maxRecDepth 20000 in
theorem ggX1_setCap_X1_requireStartNotRun : GoodIn wsX1_setCap wsX1_requireStartNotRun := goodIn_ca (goodIn_r _ [19, 20, 21, 22, 23, 41, 42, 43, 44, 45, 46, 47, 48, 49, 50, 51, 52, 53, 54, 55, 56, 57] (by decide +kernel) (by decide +kernel)) (goodIn_sub (fun _ h => List.mem_cons_of_mem _ (List.mem_append_right _ h)) (by decide +kernel))
set_option maxRecDepth 20000 in
theorem gX1_setCap_X1_requireStartNotRun : GoodIn wsX1_setCap (wsV RX1 48 RX1 yX1_requireStartNotRun wsX1_requireStartNotRun) := goodIn_app (goodIn_of _ (by decide +kernel)) ggX1_setCap_X1_requireStartNotRun
set_option maxRecDepth 20000 in
theorem ggX1_setCap_X0_growBy : GoodIn wsX1_setCap wsX0_growBy := goodIn_r _ [28, 29, 30, 31, 32, 33, 34, 35, 36, 37, 38, 39, 40, 41, 42, 43, 44, 45, 46, 47, 48, 49, 50, 51, 52, 53] (by decide +kernel) (by decide +kernel)
set_option maxRecDepth 20000 in
theorem gX1_setCap_X0_growBy : GoodIn wsX1_setCap (wsV RX1 40 RX0 yX0_growBy wsX0_growBy) := goodIn_app (goodIn_of _ (by decide +kernel)) ggX1_setCap_X0_growBy
theorem dX1_setCap_0 : decode cX1_setCap 0 = .ok (.aload_n 0, 1) := by decide +kernel
theorem dX1_setCap_1 : decode cX1_setCap 1 = .ok (.iload_n 1, 1) := by decide +kernel
theorem dX1_setCap_2 : decode cX1_setCap 2 = .ok (.invokevirtual 44, 3) := by decide +kernel
theorem dX1_setCap_5 : decode cX1_setCap 5 = .ok (.astore_n 3, 1) := by decide +kernel
theorem dX1_setCap_6 : decode cX1_setCap 6 = .ok (.iload_n 2, 1) := by decide +kernel
theorem dX1_setCap_7 : decode cX1_setCap 7 = .ok (.iconst 0, 1) := by decide +kernel
theorem dX1_setCap_8 : decode cX1_setCap 8 = .ok (.sipush 200, 3) := by decide +kernel
theorem dX1_setCap_11 : decode cX1_setCap 11 = .ok (.invokestatic 26, 3) := by decide +kernel
theorem dX1_setCap_14 : decode cX1_setCap 14 = .ok (.aload_n 0, 1) := by decide +kernel
theorem dX1_setCap_15 : decode cX1_setCap 15 = .ok (.aload_n 3, 1) := by decide +kernel
theorem dX1_setCap_16 : decode cX1_setCap 16 = .ok (.invokevirtual 48, 3) := by decide +kernel
theorem dX1_setCap_19 : decode cX1_setCap 19 = .ok (.aload_n 3, 1) := by decide +kernel
theorem dX1_setCap_20 : decode cX1_setCap 20 = .ok (.iload_n 2, 1) := by decide +kernel
theorem dX1_setCap_21 : decode cX1_setCap 21 = .ok (.putfield 59, 3) := by decide +kernel
theorem dX1_setCap_24 : decode cX1_setCap 24 = .ok (.aload_n 3, 1) := by decide +kernel
theorem dX1_setCap_25 : decode cX1_setCap 25 = .ok (.aload_n 0, 1) := by decide +kernel
theorem dX1_setCap_26 : decode cX1_setCap 26 = .ok (.getfield 15, 3) := by decide +kernel
theorem dX1_setCap_29 : decode cX1_setCap 29 = .ok (.invokevirtual 40, 3) := by decide +kernel
theorem dX1_setCap_32 : decode cX1_setCap 32 = .ok (.return_, 1) := by decide +kernel
set_option maxRecDepth 20000 in
theorem ggX1_protect_X1_find : GoodIn wsX1_protect wsX1_find := goodIn_ca (goodIn_r _ [8, 9, 10, 11, 38, 39, 40, 41] (by decide +kernel) (by decide +kernel)) (goodIn_sub (fun _ h => List.mem_cons_of_mem _ (List.mem_append_left _ (List.mem_append_left _ (List.mem_append_right _ h)))) (by decide +kernel))
set_option maxRecDepth 20000 in
theorem gX1_protect_X1_find : GoodIn wsX1_protect (wsV RX1 44 RX1 yX1_find wsX1_find) := goodIn_app (goodIn_of _ (by decide +kernel)) ggX1_protect_X1_find
set_option maxRecDepth 20000 in
theorem ggX1_protect_X1_requireRange : GoodIn wsX1_protect wsX1_requireRange := goodIn_ca (goodIn_r _ [14, 15, 16] (by decide +kernel) (by decide +kernel)) (goodIn_sub (fun _ h => List.mem_cons_of_mem _ (List.mem_append_left _ (List.mem_append_right _ h))) (by decide +kernel))
set_option maxRecDepth 20000 in
theorem gX1_protect_X1_requireRange : GoodIn wsX1_protect (va_wsS RX1 26 yX1_requireRange wsX1_requireRange) := goodIn_app (goodIn_of _ (by decide +kernel)) ggX1_protect_X1_requireRange
set_option maxRecDepth 20000 in
theorem ggX1_protect_X1_requireStartNotRun : GoodIn wsX1_protect wsX1_requireStartNotRun := goodIn_ca (goodIn_r _ [20, 21, 22, 23, 24, 25, 26, 27, 28, 29, 30, 31, 32, 33, 34, 35, 36, 37, 38, 39, 40, 41] (by decide +kernel) (by decide +kernel)) (goodIn_sub (fun _ h => List.mem_cons_of_mem _ (List.mem_append_right _ h)) (by decide +kernel))
set_option maxRecDepth 20000 in
theorem gX1_protect_X1_requireStartNotRun : GoodIn wsX1_protect (wsV RX1 48 RX1 yX1_requireStartNotRun wsX1_requireStartNotRun) := goodIn_app (goodIn_of _ (by decide +kernel)) ggX1_protect_X1_requireStartNotRun
theorem dX1_protect_0 : decode cX1_protect 0 = .ok (.aload_n 0, 1) := by decide +kernel
theorem dX1_protect_1 : decode cX1_protect 1 = .ok (.iload_n 1, 1) := by decide +kernel
theorem dX1_protect_2 : decode cX1_protect 2 = .ok (.invokevirtual 44, 3) := by decide +kernel
theorem dX1_protect_5 : decode cX1_protect 5 = .ok (.astore 4, 2) := by decide +kernel
theorem dX1_protect_7 : decode cX1_protect 7 = .ok (.iload_n 2, 1) := by decide +kernel
theorem dX1_protect_8 : decode cX1_protect 8 = .ok (.iconst 0, 1) := by decide +kernel
theorem dX1_protect_9 : decode cX1_protect 9 = .ok (.ldc 62, 2) := by decide +kernel
theorem dX1_protect_11 : decode cX1_protect 11 = .ok (.invokestatic 26, 3) := by decide +kernel
theorem dX1_protect_14 : decode cX1_protect 14 = .ok (.iload_n 3, 1) := by decide +kernel
theorem dX1_protect_15 : decode cX1_protect 15 = .ok (.iconst 0, 1) := by decide +kernel
theorem dX1_protect_16 : decode cX1_protect 16 = .ok (.bipush 100, 2) := by decide +kernel
theorem dX1_protect_18 : decode cX1_protect 18 = .ok (.invokestatic 26, 3) := by decide +kernel
theorem dX1_protect_21 : decode cX1_protect 21 = .ok (.aload_n 0, 1) := by decide +kernel
theorem dX1_protect_22 : decode cX1_protect 22 = .ok (.aload 4, 2) := by decide +kernel
theorem dX1_protect_24 : decode cX1_protect 24 = .ok (.invokevirtual 48, 3) := by decide +kernel
theorem dX1_protect_27 : decode cX1_protect 27 = .ok (.aload 4, 2) := by decide +kernel
theorem dX1_protect_29 : decode cX1_protect 29 = .ok (.iload_n 2, 1) := by decide +kernel
theorem dX1_protect_30 : decode cX1_protect 30 = .ok (.putfield 63, 3) := by decide +kernel
theorem dX1_protect_33 : decode cX1_protect 33 = .ok (.aload 4, 2) := by decide +kernel
theorem dX1_protect_35 : decode cX1_protect 35 = .ok (.iload_n 3, 1) := by decide +kernel
theorem dX1_protect_36 : decode cX1_protect 36 = .ok (.putfield 66, 3) := by decide +kernel
theorem dX1_protect_39 : decode cX1_protect 39 = .ok (.return_, 1) := by decide +kernel
set_option maxRecDepth 20000 in
theorem ggX1_setInflation_X1_requireRange : GoodIn wsX1_setInflation wsX1_requireRange := goodIn_ca (goodIn_r _ [6, 7, 8] (by decide +kernel) (by decide +kernel)) (goodIn_sub (fun _ h => List.mem_cons_of_mem _ (List.mem_append_right _ h)) (by decide +kernel))
set_option maxRecDepth 20000 in
theorem gX1_setInflation_X1_requireRange : GoodIn wsX1_setInflation (va_wsS RX1 26 yX1_requireRange wsX1_requireRange) := goodIn_app (goodIn_of _ (by decide +kernel)) ggX1_setInflation_X1_requireRange
set_option maxRecDepth 20000 in
theorem ggX1_setInflation_X0_growBy : GoodIn wsX1_setInflation wsX0_growBy := goodIn_r _ [13, 14, 15, 16, 17, 18, 19, 20, 21, 22, 23, 24, 25, 30, 31, 32, 33, 34, 35, 36, 37, 38, 39, 40, 41, 42] (by decide +kernel) (by decide +kernel)
set_option maxRecDepth 20000 in
theorem gX1_setInflation_X0_growBy : GoodIn wsX1_setInflation (wsV RX1 40 RX0 yX0_growBy wsX0_growBy) := goodIn_app (goodIn_of _ (by decide +kernel)) ggX1_setInflation_X0_growBy
theorem dX1_setInflation_0 : decode cX1_setInflation 0 = .ok (.iload_n 1, 1) := by decide +kernel
theorem dX1_setInflation_1 : decode cX1_setInflation 1 = .ok (.iconst 0, 1) := by decide +kernel
theorem dX1_setInflation_2 : decode cX1_setInflation 2 = .ok (.bipush 19, 2) := by decide +kernel
theorem dX1_setInflation_4 : decode cX1_setInflation 4 = .ok (.invokestatic 26, 3) := by decide +kernel
theorem dX1_setInflation_7 : decode cX1_setInflation 7 = .ok (.iload_n 2, 1) := by decide +kernel
theorem dX1_setInflation_8 : decode cX1_setInflation 8 = .ok (.bipush (-100), 2) := by decide +kernel
theorem dX1_setInflation_10 : decode cX1_setInflation 10 = .ok (.sipush 300, 3) := by decide +kernel
theorem dX1_setInflation_13 : decode cX1_setInflation 13 = .ok (.invokestatic 26, 3) := by decide +kernel
theorem dX1_setInflation_16 : decode cX1_setInflation 16 = .ok (.aload_n 0, 1) := by decide +kernel
theorem dX1_setInflation_17 : decode cX1_setInflation 17 = .ok (.getfield 15, 3) := by decide +kernel
theorem dX1_setInflation_20 : decode cX1_setInflation 20 = .ok (.iload_n 1, 1) := by decide +kernel
theorem dX1_setInflation_21 : decode cX1_setInflation 21 = .ok (.iaload, 1) := by decide +kernel
theorem dX1_setInflation_22 : decode cX1_setInflation 22 = .ok (.istore_n 3, 1) := by decide +kernel
theorem dX1_setInflation_23 : decode cX1_setInflation 23 = .ok (.aload_n 0, 1) := by decide +kernel
theorem dX1_setInflation_24 : decode cX1_setInflation 24 = .ok (.getfield 15, 3) := by decide +kernel
theorem dX1_setInflation_27 : decode cX1_setInflation 27 = .ok (.iload_n 1, 1) := by decide +kernel
theorem dX1_setInflation_28 : decode cX1_setInflation 28 = .ok (.iload_n 2, 1) := by decide +kernel
theorem dX1_setInflation_29 : decode cX1_setInflation 29 = .ok (.iastore, 1) := by decide +kernel
theorem dX1_setInflation_30 : decode cX1_setInflation 30 = .ok (.aload_n 0, 1) := by decide +kernel
theorem dX1_setInflation_31 : decode cX1_setInflation 31 = .ok (.getfield 11, 3) := by decide +kernel
theorem dX1_setInflation_34 : decode cX1_setInflation 34 = .ok (.astore 4, 2) := by decide +kernel
theorem dX1_setInflation_36 : decode cX1_setInflation 36 = .ok (.aload 4, 2) := by decide +kernel
theorem dX1_setInflation_38 : decode cX1_setInflation 38 = .ok (.arraylength, 1) := by decide +kernel
theorem dX1_setInflation_39 : decode cX1_setInflation 39 = .ok (.istore 5, 2) := by decide +kernel
theorem dX1_setInflation_41 : decode cX1_setInflation 41 = .ok (.iconst 0, 1) := by decide +kernel
theorem dX1_setInflation_42 : decode cX1_setInflation 42 = .ok (.istore 6, 2) := by decide +kernel
theorem dX1_setInflation_44 : decode cX1_setInflation 44 = .ok (.iload 6, 2) := by decide +kernel
theorem dX1_setInflation_46 : decode cX1_setInflation 46 = .ok (.iload 5, 2) := by decide +kernel
theorem dX1_setInflation_48 : decode cX1_setInflation 48 = .ok (.if_icmp .ge 30, 3) := by decide +kernel
theorem dX1_setInflation_51 : decode cX1_setInflation 51 = .ok (.aload 4, 2) := by decide +kernel
theorem dX1_setInflation_53 : decode cX1_setInflation 53 = .ok (.iload 6, 2) := by decide +kernel
theorem dX1_setInflation_55 : decode cX1_setInflation 55 = .ok (.aaload, 1) := by decide +kernel
theorem dX1_setInflation_56 : decode cX1_setInflation 56 = .ok (.astore 7, 2) := by decide +kernel
theorem dX1_setInflation_58 : decode cX1_setInflation 58 = .ok (.aload 7, 2) := by decide +kernel
theorem dX1_setInflation_60 : decode cX1_setInflation 60 = .ok (.ifnull 12, 3) := by decide +kernel
theorem dX1_setInflation_63 : decode cX1_setInflation 63 = .ok (.aload 7, 2) := by decide +kernel
theorem dX1_setInflation_65 : decode cX1_setInflation 65 = .ok (.aload_n 0, 1) := by decide +kernel
theorem dX1_setInflation_66 : decode cX1_setInflation 66 = .ok (.getfield 15, 3) := by decide +kernel
theorem dX1_setInflation_69 : decode cX1_setInflation 69 = .ok (.invokevirtual 40, 3) := by decide +kernel
theorem dX1_setInflation_72 : decode cX1_setInflation 72 = .ok (.iinc 6 1, 3) := by decide +kernel
theorem dX1_setInflation_75 : decode cX1_setInflation 75 = .ok (.goto (-31), 3) := by decide +kernel
theorem dX1_setInflation_78 : decode cX1_setInflation 78 = .ok (.iload_n 3, 1) := by decide +kernel
theorem dX1_setInflation_79 : decode cX1_setInflation 79 = .ok (.ireturn, 1) := by decide +kernel
set_option maxRecDepth 20000 in
theorem ggX1_die_X1_find : GoodIn wsX1_die wsX1_find := goodIn_ca (goodIn_r _ [13, 14, 15, 16, 22, 23, 24, 25] (by decide +kernel) (by decide +kernel)) (goodIn_sub (fun _ h => List.mem_cons_of_mem _ (List.mem_append_left _ (List.mem_append_right _ h))) (by decide +kernel))
set_option maxRecDepth 20000 in
theorem gX1_die_X1_find : GoodIn wsX1_die (wsV RX1 44 RX1 yX1_find wsX1_find) := goodIn_app (goodIn_of _ (by decide +kernel)) ggX1_die_X1_find
set_option maxRecDepth 20000 in
theorem ggX1_die_X1_requireRange : GoodIn wsX1_die wsX1_requireRange := goodIn_ca (goodIn_r _ [19, 20, 21] (by decide +kernel) (by decide +kernel)) (goodIn_sub (fun _ h => List.mem_cons_of_mem _ (List.mem_append_right _ h)) (by decide +kernel))
set_option maxRecDepth 20000 in
theorem gX1_die_X1_requireRange : GoodIn wsX1_die (va_wsS RX1 26 yX1_requireRange wsX1_requireRange) := goodIn_app (goodIn_of _ (by decide +kernel)) ggX1_die_X1_requireRange
theorem dX1_die_0 : decode cX1_die 0 = .ok (.aload_n 0, 1) := by decide +kernel
theorem dX1_die_1 : decode cX1_die 1 = .ok (.iload_n 1, 1) := by decide +kernel
theorem dX1_die_2 : decode cX1_die 2 = .ok (.invokevirtual 44, 3) := by decide +kernel
theorem dX1_die_5 : decode cX1_die 5 = .ok (.astore 4, 2) := by decide +kernel
theorem dX1_die_7 : decode cX1_die 7 = .ok (.iload_n 2, 1) := by decide +kernel
theorem dX1_die_8 : decode cX1_die 8 = .ok (.iconst 0, 1) := by decide +kernel
theorem dX1_die_9 : decode cX1_die 9 = .ok (.iconst 1, 1) := by decide +kernel
theorem dX1_die_10 : decode cX1_die 10 = .ok (.invokestatic 26, 3) := by decide +kernel
theorem dX1_die_13 : decode cX1_die 13 = .ok (.iload_n 3, 1) := by decide +kernel
theorem dX1_die_14 : decode cX1_die 14 = .ok (.iconst 0, 1) := by decide +kernel
theorem dX1_die_15 : decode cX1_die 15 = .ok (.aload_n 0, 1) := by decide +kernel
theorem dX1_die_16 : decode cX1_die 16 = .ok (.getfield 23, 3) := by decide +kernel
theorem dX1_die_19 : decode cX1_die 19 = .ok (.sipush 239, 3) := by decide +kernel
theorem dX1_die_22 : decode cX1_die 22 = .ok (.invokestatic 69, 3) := by decide +kernel
theorem dX1_die_25 : decode cX1_die 25 = .ok (.invokestatic 26, 3) := by decide +kernel
theorem dX1_die_28 : decode cX1_die 28 = .ok (.aload 4, 2) := by decide +kernel
theorem dX1_die_30 : decode cX1_die 30 = .ok (.getfield 75, 3) := by decide +kernel
theorem dX1_die_33 : decode cX1_die 33 = .ok (.iload_n 2, 1) := by decide +kernel
theorem dX1_die_34 : decode cX1_die 34 = .ok (.iaload, 1) := by decide +kernel
theorem dX1_die_35 : decode cX1_die 35 = .ok (.sipush 240, 3) := by decide +kernel
theorem dX1_die_38 : decode cX1_die 38 = .ok (.if_icmp .eq 13, 3) := by decide +kernel
theorem dX1_die_41 : decode cX1_die 41 = .ok (.new 31, 3) := by decide +kernel
theorem dX1_die_44 : decode cX1_die 44 = .ok (.dup, 1) := by decide +kernel
theorem dX1_die_45 : decode cX1_die 45 = .ok (.ldc 78, 2) := by decide +kernel
theorem dX1_die_47 : decode cX1_die 47 = .ok (.invokespecial 35, 3) := by decide +kernel
theorem dX1_die_50 : decode cX1_die 50 = .ok (.athrow, 1) := by decide +kernel
theorem dX1_die_51 : decode cX1_die 51 = .ok (.aload 4, 2) := by decide +kernel
theorem dX1_die_53 : decode cX1_die 53 = .ok (.getfield 75, 3) := by decide +kernel
theorem dX1_die_56 : decode cX1_die 56 = .ok (.iload_n 2, 1) := by decide +kernel
theorem dX1_die_57 : decode cX1_die 57 = .ok (.iload_n 3, 1) := by decide +kernel
theorem dX1_die_58 : decode cX1_die 58 = .ok (.iastore, 1) := by decide +kernel
theorem dX1_die_59 : decode cX1_die 59 = .ok (.return_, 1) := by decide +kernel
set_option maxRecDepth 20000 in
theorem ggX1_takeBack_X1_find : GoodIn wsX1_takeBack wsX1_find := goodIn_ca (goodIn_r _ [8, 9, 10, 11, 30, 31, 32, 33] (by decide +kernel) (by decide +kernel)) (goodIn_sub (fun _ h => List.mem_cons_of_mem _ (List.mem_append_left _ (List.mem_append_right _ h))) (by decide +kernel))
set_option maxRecDepth 20000 in
theorem gX1_takeBack_X1_find : GoodIn wsX1_takeBack (wsV RX1 44 RX1 yX1_find wsX1_find) := goodIn_app (goodIn_of _ (by decide +kernel)) ggX1_takeBack_X1_find
set_option maxRecDepth 20000 in
theorem ggX1_takeBack_X1_requireRange : GoodIn wsX1_takeBack wsX1_requireRange := goodIn_ca (goodIn_r _ [14, 15, 16] (by decide +kernel) (by decide +kernel)) (goodIn_sub (fun _ h => List.mem_cons_of_mem _ (List.mem_append_right _ h)) (by decide +kernel))
set_option maxRecDepth 20000 in
theorem gX1_takeBack_X1_requireRange : GoodIn wsX1_takeBack (va_wsS RX1 26 yX1_requireRange wsX1_requireRange) := goodIn_app (goodIn_of _ (by decide +kernel)) ggX1_takeBack_X1_requireRange
theorem dX1_takeBack_0 : decode cX1_takeBack 0 = .ok (.aload_n 0, 1) := by decide +kernel
theorem dX1_takeBack_1 : decode cX1_takeBack 1 = .ok (.iload_n 1, 1) := by decide +kernel
theorem dX1_takeBack_2 : decode cX1_takeBack 2 = .ok (.invokevirtual 44, 3) := by decide +kernel
theorem dX1_takeBack_5 : decode cX1_takeBack 5 = .ok (.astore_n 3, 1) := by decide +kernel
theorem dX1_takeBack_6 : decode cX1_takeBack 6 = .ok (.iload_n 2, 1) := by decide +kernel
theorem dX1_takeBack_7 : decode cX1_takeBack 7 = .ok (.iconst 0, 1) := by decide +kernel
theorem dX1_takeBack_8 : decode cX1_takeBack 8 = .ok (.iconst 1, 1) := by decide +kernel
theorem dX1_takeBack_9 : decode cX1_takeBack 9 = .ok (.invokestatic 26, 3) := by decide +kernel
theorem dX1_takeBack_12 : decode cX1_takeBack 12 = .ok (.aload_n 3, 1) := by decide +kernel
theorem dX1_takeBack_13 : decode cX1_takeBack 13 = .ok (.getfield 75, 3) := by decide +kernel
theorem dX1_takeBack_16 : decode cX1_takeBack 16 = .ok (.iload_n 2, 1) := by decide +kernel
theorem dX1_takeBack_17 : decode cX1_takeBack 17 = .ok (.iaload, 1) := by decide +kernel
theorem dX1_takeBack_18 : decode cX1_takeBack 18 = .ok (.istore 4, 2) := by decide +kernel
theorem dX1_takeBack_20 : decode cX1_takeBack 20 = .ok (.iload 4, 2) := by decide +kernel
theorem dX1_takeBack_22 : decode cX1_takeBack 22 = .ok (.sipush 240, 3) := by decide +kernel
theorem dX1_takeBack_25 : decode cX1_takeBack 25 = .ok (.if_icmp .ne 13, 3) := by decide +kernel
theorem dX1_takeBack_28 : decode cX1_takeBack 28 = .ok (.new 31, 3) := by decide +kernel
theorem dX1_takeBack_31 : decode cX1_takeBack 31 = .ok (.dup, 1) := by decide +kernel
theorem dX1_takeBack_32 : decode cX1_takeBack 32 = .ok (.ldc 80, 2) := by decide +kernel
theorem dX1_takeBack_34 : decode cX1_takeBack 34 = .ok (.invokespecial 35, 3) := by decide +kernel
theorem dX1_takeBack_37 : decode cX1_takeBack 37 = .ok (.athrow, 1) := by decide +kernel
theorem dX1_takeBack_38 : decode cX1_takeBack 38 = .ok (.aload_n 3, 1) := by decide +kernel
theorem dX1_takeBack_39 : decode cX1_takeBack 39 = .ok (.getfield 75, 3) := by decide +kernel
theorem dX1_takeBack_42 : decode cX1_takeBack 42 = .ok (.iload_n 2, 1) := by decide +kernel
theorem dX1_takeBack_43 : decode cX1_takeBack 43 = .ok (.sipush 240, 3) := by decide +kernel
theorem dX1_takeBack_46 : decode cX1_takeBack 46 = .ok (.iastore, 1) := by decide +kernel
theorem dX1_takeBack_47 : decode cX1_takeBack 47 = .ok (.iload 4, 2) := by decide +kernel
theorem dX1_takeBack_49 : decode cX1_takeBack 49 = .ok (.ireturn, 1) := by decide +kernel
set_option maxRecDepth 20000 in
theorem ggX1_run_X0_payIn : GoodIn wsX1_run wsX0_payIn := goodIn_r _ [9, 10, 11, 12, 13, 14, 15, 16, 17, 18, 8, 19, 20, 21, 22, 23, 24, 25, 26, 27, 28, 29, 30, 31, 32, 33, 34, 35, 36, 37, 38, 39, 40, 41, 42, 43, 44, 45, 46, 47, 48, 49, 50, 51, 52, 53, 54, 59, 60, 61, 62, 63, 64, 65, 66, 67, 68, 69, 70, 71] (by decide +kernel) (by decide +kernel)
set_option maxRecDepth 20000 in
theorem gX1_run_X0_payIn : GoodIn wsX1_run (wsV RX1 84 RX0 yX0_payIn wsX0_payIn) := goodIn_app (goodIn_of _ (by decide +kernel)) ggX1_run_X0_payIn
theorem dX1_run_0 : decode cX1_run 0 = .ok (.aload_n 0, 1) := by decide +kernel
theorem dX1_run_1 : decode cX1_run 1 = .ok (.getfield 23, 3) := by decide +kernel
theorem dX1_run_4 : decode cX1_run 4 = .ok (.sipush 240, 3) := by decide +kernel
theorem dX1_run_7 : decode cX1_run 7 = .ok (.if_icmp .lt 13, 3) := by decide +kernel
theorem dX1_run_10 : decode cX1_run 10 = .ok (.new 31, 3) := by decide +kernel
theorem dX1_run_13 : decode cX1_run 13 = .ok (.dup, 1) := by decide +kernel
theorem dX1_run_14 : decode cX1_run 14 = .ok (.ldc 82, 2) := by decide +kernel
theorem dX1_run_16 : decode cX1_run 16 = .ok (.invokespecial 35, 3) := by decide +kernel
theorem dX1_run_19 : decode cX1_run 19 = .ok (.athrow, 1) := by decide +kernel
theorem dX1_run_20 : decode cX1_run 20 = .ok (.lconst 0, 1) := by decide +kernel
theorem dX1_run_21 : decode cX1_run 21 = .ok (.lstore_n 1, 1) := by decide +kernel
theorem dX1_run_22 : decode cX1_run 22 = .ok (.aload_n 0, 1) := by decide +kernel
theorem dX1_run_23 : decode cX1_run 23 = .ok (.getfield 11, 3) := by decide +kernel
theorem dX1_run_26 : decode cX1_run 26 = .ok (.astore_n 3, 1) := by decide +kernel
theorem dX1_run_27 : decode cX1_run 27 = .ok (.aload_n 3, 1) := by decide +kernel
theorem dX1_run_28 : decode cX1_run 28 = .ok (.arraylength, 1) := by decide +kernel
theorem dX1_run_29 : decode cX1_run 29 = .ok (.istore 4, 2) := by decide +kernel
theorem dX1_run_31 : decode cX1_run 31 = .ok (.iconst 0, 1) := by decide +kernel
theorem dX1_run_32 : decode cX1_run 32 = .ok (.istore 5, 2) := by decide +kernel
theorem dX1_run_34 : decode cX1_run 34 = .ok (.iload 5, 2) := by decide +kernel
theorem dX1_run_36 : decode cX1_run 36 = .ok (.iload 4, 2) := by decide +kernel
theorem dX1_run_38 : decode cX1_run 38 = .ok (.if_icmp .ge 32, 3) := by decide +kernel
theorem dX1_run_41 : decode cX1_run 41 = .ok (.aload_n 3, 1) := by decide +kernel
theorem dX1_run_42 : decode cX1_run 42 = .ok (.iload 5, 2) := by decide +kernel
theorem dX1_run_44 : decode cX1_run 44 = .ok (.aaload, 1) := by decide +kernel
theorem dX1_run_45 : decode cX1_run 45 = .ok (.astore 6, 2) := by decide +kernel
theorem dX1_run_47 : decode cX1_run 47 = .ok (.aload 6, 2) := by decide +kernel
theorem dX1_run_49 : decode cX1_run 49 = .ok (.ifnull 15, 3) := by decide +kernel
theorem dX1_run_52 : decode cX1_run 52 = .ok (.lload_n 1, 1) := by decide +kernel
theorem dX1_run_53 : decode cX1_run 53 = .ok (.aload 6, 2) := by decide +kernel
theorem dX1_run_55 : decode cX1_run 55 = .ok (.aload_n 0, 1) := by decide +kernel
theorem dX1_run_56 : decode cX1_run 56 = .ok (.getfield 23, 3) := by decide +kernel
theorem dX1_run_59 : decode cX1_run 59 = .ok (.invokevirtual 84, 3) := by decide +kernel
theorem dX1_run_62 : decode cX1_run 62 = .ok (.ladd, 1) := by decide +kernel
theorem dX1_run_63 : decode cX1_run 63 = .ok (.lstore_n 1, 1) := by decide +kernel
theorem dX1_run_64 : decode cX1_run 64 = .ok (.iinc 5 1, 3) := by decide +kernel
theorem dX1_run_67 : decode cX1_run 67 = .ok (.goto (-33), 3) := by decide +kernel
theorem dX1_run_70 : decode cX1_run 70 = .ok (.aload_n 0, 1) := by decide +kernel
theorem dX1_run_71 : decode cX1_run 71 = .ok (.dup, 1) := by decide +kernel
theorem dX1_run_72 : decode cX1_run 72 = .ok (.getfield 23, 3) := by decide +kernel
theorem dX1_run_75 : decode cX1_run 75 = .ok (.iconst 1, 1) := by decide +kernel
theorem dX1_run_76 : decode cX1_run 76 = .ok (.iadd, 1) := by decide +kernel
theorem dX1_run_77 : decode cX1_run 77 = .ok (.putfield 23, 3) := by decide +kernel
theorem dX1_run_80 : decode cX1_run 80 = .ok (.lload_n 1, 1) := by decide +kernel
theorem dX1_run_81 : decode cX1_run 81 = .ok (.lreturn, 1) := by decide +kernel
theorem dX1_month_0 : decode cX1_month 0 = .ok (.aload_n 0, 1) := by decide +kernel
theorem dX1_month_1 : decode cX1_month 1 = .ok (.getfield 23, 3) := by decide +kernel
theorem dX1_month_4 : decode cX1_month 4 = .ok (.ireturn, 1) := by decide +kernel
set_option maxRecDepth 20000 in
theorem ggX1_giveBack_X1_find : GoodIn wsX1_giveBack wsX1_find := goodIn_ca (goodIn_r _ [10, 11, 12, 13, 68, 69, 70, 71] (by decide +kernel) (by decide +kernel)) (goodIn_sub (fun _ h => List.mem_cons_of_mem _ (List.mem_append_left _ (List.mem_append_right _ h))) (by decide +kernel))
set_option maxRecDepth 20000 in
theorem gX1_giveBack_X1_find : GoodIn wsX1_giveBack (wsV RX1 44 RX1 yX1_find wsX1_find) := goodIn_app (goodIn_of _ (by decide +kernel)) ggX1_giveBack_X1_find
set_option maxRecDepth 20000 in
theorem ggX1_giveBack_X1_requireRange : GoodIn wsX1_giveBack wsX1_requireRange := goodIn_ca (goodIn_r _ [16, 17, 18] (by decide +kernel) (by decide +kernel)) (goodIn_sub (fun _ h => List.mem_cons_of_mem _ (List.mem_append_right _ h)) (by decide +kernel))
set_option maxRecDepth 20000 in
theorem gX1_giveBack_X1_requireRange : GoodIn wsX1_giveBack (va_wsS RX1 26 yX1_requireRange wsX1_requireRange) := goodIn_app (goodIn_of _ (by decide +kernel)) ggX1_giveBack_X1_requireRange
set_option maxRecDepth 20000 in
theorem ggX1_giveBack_X0_debtAhead : GoodIn wsX1_giveBack wsX0_debtAhead := goodIn_r _ [23, 24, 25, 26, 27, 28, 29, 30, 31, 22, 32, 33, 34, 35, 36, 37, 38, 39, 40, 41, 42, 43, 44, 45, 46, 47, 48, 49, 50, 51, 52, 53, 54, 55, 56, 57, 58, 59, 60, 61, 62, 63, 64, 65, 66, 67, 72, 73, 74, 75, 76, 77, 78, 79, 80, 81, 82, 83, 84] (by decide +kernel) (by decide +kernel)
set_option maxRecDepth 20000 in
theorem gX1_giveBack_X0_debtAhead : GoodIn wsX1_giveBack (wsV RX1 89 RX0 yX0_debtAhead wsX0_debtAhead) := goodIn_app (goodIn_of _ (by decide +kernel)) ggX1_giveBack_X0_debtAhead
theorem dX1_giveBack_0 : decode cX1_giveBack 0 = .ok (.aload_n 0, 1) := by decide +kernel
theorem dX1_giveBack_1 : decode cX1_giveBack 1 = .ok (.iload_n 1, 1) := by decide +kernel
theorem dX1_giveBack_2 : decode cX1_giveBack 2 = .ok (.invokevirtual 44, 3) := by decide +kernel
theorem dX1_giveBack_5 : decode cX1_giveBack 5 = .ok (.astore_n 3, 1) := by decide +kernel
theorem dX1_giveBack_6 : decode cX1_giveBack 6 = .ok (.iload_n 2, 1) := by decide +kernel
theorem dX1_giveBack_7 : decode cX1_giveBack 7 = .ok (.iconst 1, 1) := by decide +kernel
theorem dX1_giveBack_8 : decode cX1_giveBack 8 = .ok (.ldc 88, 2) := by decide +kernel
theorem dX1_giveBack_10 : decode cX1_giveBack 10 = .ok (.invokestatic 26, 3) := by decide +kernel
theorem dX1_giveBack_13 : decode cX1_giveBack 13 = .ok (.aload_n 3, 1) := by decide +kernel
theorem dX1_giveBack_14 : decode cX1_giveBack 14 = .ok (.aload_n 0, 1) := by decide +kernel
theorem dX1_giveBack_15 : decode cX1_giveBack 15 = .ok (.getfield 23, 3) := by decide +kernel
theorem dX1_giveBack_18 : decode cX1_giveBack 18 = .ok (.invokevirtual 89, 3) := by decide +kernel
theorem dX1_giveBack_21 : decode cX1_giveBack 21 = .ok (.lstore 4, 2) := by decide +kernel
theorem dX1_giveBack_23 : decode cX1_giveBack 23 = .ok (.lload 4, 2) := by decide +kernel
theorem dX1_giveBack_25 : decode cX1_giveBack 25 = .ok (.iload_n 2, 1) := by decide +kernel
theorem dX1_giveBack_26 : decode cX1_giveBack 26 = .ok (.i2l, 1) := by decide +kernel
theorem dX1_giveBack_27 : decode cX1_giveBack 27 = .ok (.lcmp, 1) := by decide +kernel
theorem dX1_giveBack_28 : decode cX1_giveBack 28 = .ok (.ifCond .ge 13, 3) := by decide +kernel
theorem dX1_giveBack_31 : decode cX1_giveBack 31 = .ok (.new 31, 3) := by decide +kernel
theorem dX1_giveBack_34 : decode cX1_giveBack 34 = .ok (.dup, 1) := by decide +kernel
theorem dX1_giveBack_35 : decode cX1_giveBack 35 = .ok (.ldc 92, 2) := by decide +kernel
theorem dX1_giveBack_37 : decode cX1_giveBack 37 = .ok (.invokespecial 35, 3) := by decide +kernel
theorem dX1_giveBack_40 : decode cX1_giveBack 40 = .ok (.athrow, 1) := by decide +kernel
theorem dX1_giveBack_41 : decode cX1_giveBack 41 = .ok (.aload_n 3, 1) := by decide +kernel
theorem dX1_giveBack_42 : decode cX1_giveBack 42 = .ok (.dup, 1) := by decide +kernel
theorem dX1_giveBack_43 : decode cX1_giveBack 43 = .ok (.getfield 94, 3) := by decide +kernel
theorem dX1_giveBack_46 : decode cX1_giveBack 46 = .ok (.iload_n 2, 1) := by decide +kernel
theorem dX1_giveBack_47 : decode cX1_giveBack 47 = .ok (.i2l, 1) := by decide +kernel
theorem dX1_giveBack_48 : decode cX1_giveBack 48 = .ok (.lsub, 1) := by decide +kernel
theorem dX1_giveBack_49 : decode cX1_giveBack 49 = .ok (.putfield 94, 3) := by decide +kernel
theorem dX1_giveBack_52 : decode cX1_giveBack 52 = .ok (.lload 4, 2) := by decide +kernel
theorem dX1_giveBack_54 : decode cX1_giveBack 54 = .ok (.iload_n 2, 1) := by decide +kernel
theorem dX1_giveBack_55 : decode cX1_giveBack 55 = .ok (.i2l, 1) := by decide +kernel
theorem dX1_giveBack_56 : decode cX1_giveBack 56 = .ok (.lsub, 1) := by decide +kernel
theorem dX1_giveBack_57 : decode cX1_giveBack 57 = .ok (.lreturn, 1) := by decide +kernel
set_option maxRecDepth 20000 in
theorem ggX1_paid_X1_find : GoodIn wsX1_paid wsX1_find := goodIn_ca (goodIn_r _ [7, 8, 9, 10, 16, 17, 18, 19] (by decide +kernel) (by decide +kernel)) (goodIn_sub (fun _ h => List.mem_cons_of_mem _ (List.mem_append_left _ (List.mem_append_right _ h))) (by decide +kernel))
set_option maxRecDepth 20000 in
theorem gX1_paid_X1_find : GoodIn wsX1_paid (wsV RX1 44 RX1 yX1_find wsX1_find) := goodIn_app (goodIn_of _ (by decide +kernel)) ggX1_paid_X1_find
set_option maxRecDepth 20000 in
theorem ggX1_paid_X1_requireRange : GoodIn wsX1_paid wsX1_requireRange := goodIn_ca (goodIn_r _ [13, 14, 15] (by decide +kernel) (by decide +kernel)) (goodIn_sub (fun _ h => List.mem_cons_of_mem _ (List.mem_append_right _ h)) (by decide +kernel))
set_option maxRecDepth 20000 in
theorem gX1_paid_X1_requireRange : GoodIn wsX1_paid (va_wsS RX1 26 yX1_requireRange wsX1_requireRange) := goodIn_app (goodIn_of _ (by decide +kernel)) ggX1_paid_X1_requireRange
theorem dX1_paid_0 : decode cX1_paid 0 = .ok (.aload_n 0, 1) := by decide +kernel
theorem dX1_paid_1 : decode cX1_paid 1 = .ok (.iload_n 1, 1) := by decide +kernel
theorem dX1_paid_2 : decode cX1_paid 2 = .ok (.invokevirtual 44, 3) := by decide +kernel
theorem dX1_paid_5 : decode cX1_paid 5 = .ok (.astore_n 3, 1) := by decide +kernel
theorem dX1_paid_6 : decode cX1_paid 6 = .ok (.iload_n 2, 1) := by decide +kernel
theorem dX1_paid_7 : decode cX1_paid 7 = .ok (.iconst 0, 1) := by decide +kernel
theorem dX1_paid_8 : decode cX1_paid 8 = .ok (.aload_n 0, 1) := by decide +kernel
theorem dX1_paid_9 : decode cX1_paid 9 = .ok (.getfield 23, 3) := by decide +kernel
theorem dX1_paid_12 : decode cX1_paid 12 = .ok (.iconst 1, 1) := by decide +kernel
theorem dX1_paid_13 : decode cX1_paid 13 = .ok (.isub, 1) := by decide +kernel
theorem dX1_paid_14 : decode cX1_paid 14 = .ok (.invokestatic 26, 3) := by decide +kernel
theorem dX1_paid_17 : decode cX1_paid 17 = .ok (.aload_n 3, 1) := by decide +kernel
theorem dX1_paid_18 : decode cX1_paid 18 = .ok (.getfield 98, 3) := by decide +kernel
theorem dX1_paid_21 : decode cX1_paid 21 = .ok (.iload_n 2, 1) := by decide +kernel
theorem dX1_paid_22 : decode cX1_paid 22 = .ok (.laload, 1) := by decide +kernel
theorem dX1_paid_23 : decode cX1_paid 23 = .ok (.lreturn, 1) := by decide +kernel
set_option maxRecDepth 20000 in
theorem ggX1_paidInAll_X1_find : GoodIn wsX1_paidInAll wsX1_find := goodIn_ca (goodIn_r _ [6, 7, 8, 9, 23, 24, 25, 26] (by decide +kernel) (by decide +kernel)) (goodIn_sub (fun _ h => List.mem_cons_of_mem _ (List.mem_append_right _ h)) (by decide +kernel))
set_option maxRecDepth 20000 in
theorem gX1_paidInAll_X1_find : GoodIn wsX1_paidInAll (wsV RX1 44 RX1 yX1_find wsX1_find) := goodIn_app (goodIn_of _ (by decide +kernel)) ggX1_paidInAll_X1_find
theorem dX1_paidInAll_0 : decode cX1_paidInAll 0 = .ok (.aload_n 0, 1) := by decide +kernel
theorem dX1_paidInAll_1 : decode cX1_paidInAll 1 = .ok (.iload_n 1, 1) := by decide +kernel
theorem dX1_paidInAll_2 : decode cX1_paidInAll 2 = .ok (.invokevirtual 44, 3) := by decide +kernel
theorem dX1_paidInAll_5 : decode cX1_paidInAll 5 = .ok (.getfield 94, 3) := by decide +kernel
theorem dX1_paidInAll_8 : decode cX1_paidInAll 8 = .ok (.lreturn, 1) := by decide +kernel
set_option maxRecDepth 20000 in
theorem ggX1_owes_X1_find : GoodIn wsX1_owes wsX1_find := goodIn_ca (goodIn_r _ [6, 7, 8, 9, 59, 60, 61, 62] (by decide +kernel) (by decide +kernel)) (goodIn_sub (fun _ h => List.mem_cons_of_mem _ (List.mem_append_right _ h)) (by decide +kernel))
set_option maxRecDepth 20000 in
theorem gX1_owes_X1_find : GoodIn wsX1_owes (wsV RX1 44 RX1 yX1_find wsX1_find) := goodIn_app (goodIn_of _ (by decide +kernel)) ggX1_owes_X1_find
set_option maxRecDepth 20000 in
theorem ggX1_owes_X0_debtAhead : GoodIn wsX1_owes wsX0_debtAhead := goodIn_r _ [14, 15, 16, 17, 18, 19, 20, 21, 22, 13, 23, 24, 25, 26, 27, 28, 29, 30, 31, 32, 33, 34, 35, 36, 37, 38, 39, 40, 41, 42, 43, 44, 45, 46, 47, 48, 49, 50, 51, 52, 53, 54, 55, 56, 57, 58, 63, 64, 65, 66, 67, 68, 69, 70, 71, 72, 73, 74, 75] (by decide +kernel) (by decide +kernel)
set_option maxRecDepth 20000 in
theorem gX1_owes_X0_debtAhead : GoodIn wsX1_owes (wsV RX1 89 RX0 yX0_debtAhead wsX0_debtAhead) := goodIn_app (goodIn_of _ (by decide +kernel)) ggX1_owes_X0_debtAhead
theorem dX1_owes_0 : decode cX1_owes 0 = .ok (.aload_n 0, 1) := by decide +kernel
theorem dX1_owes_1 : decode cX1_owes 1 = .ok (.iload_n 1, 1) := by decide +kernel
theorem dX1_owes_2 : decode cX1_owes 2 = .ok (.invokevirtual 44, 3) := by decide +kernel
theorem dX1_owes_5 : decode cX1_owes 5 = .ok (.aload_n 0, 1) := by decide +kernel
theorem dX1_owes_6 : decode cX1_owes 6 = .ok (.getfield 23, 3) := by decide +kernel
theorem dX1_owes_9 : decode cX1_owes 9 = .ok (.invokevirtual 89, 3) := by decide +kernel
theorem dX1_owes_12 : decode cX1_owes 12 = .ok (.lreturn, 1) := by decide +kernel
set_option maxRecDepth 20000 in
theorem ggX1_fullAmount_X1_find : GoodIn wsX1_fullAmount wsX1_find := goodIn_ca (goodIn_r _ [5, 6, 7, 8, 24, 25, 26, 27] (by decide +kernel) (by decide +kernel)) (goodIn_sub (fun _ h => List.mem_cons_of_mem _ (List.mem_append_left _ (List.mem_append_right _ h))) (by decide +kernel))
set_option maxRecDepth 20000 in
theorem gX1_fullAmount_X1_find : GoodIn wsX1_fullAmount (wsV RX1 44 RX1 yX1_find wsX1_find) := goodIn_app (goodIn_of _ (by decide +kernel)) ggX1_fullAmount_X1_find
set_option maxRecDepth 20000 in
theorem ggX1_fullAmount_X1_requireMonth : GoodIn wsX1_fullAmount wsX1_requireMonth := goodIn_ca (goodIn_r _ [11, 12, 13, 4, 14, 15, 16] (by decide +kernel) (by decide +kernel)) (goodIn_sub (fun _ h => List.mem_cons_of_mem _ (List.mem_append_right _ h)) (by decide +kernel))
set_option maxRecDepth 20000 in
theorem gX1_fullAmount_X1_requireMonth : GoodIn wsX1_fullAmount (va_wsS RX1 102 yX1_requireMonth wsX1_requireMonth) := goodIn_app (goodIn_of _ (by decide +kernel)) ggX1_fullAmount_X1_requireMonth
set_option maxRecDepth 20000 in
theorem ggX1_fullAmount_X0_fullIn : GoodIn wsX1_fullAmount wsX0_fullIn := goodIn_r _ [21, 22, 23, 28, 29, 30, 31, 32, 33, 34, 35, 36, 37, 38, 39, 40] (by decide +kernel) (by decide +kernel)
set_option maxRecDepth 20000 in
theorem gX1_fullAmount_X0_fullIn : GoodIn wsX1_fullAmount (wsV RX1 106 RX0 yX0_fullIn wsX0_fullIn) := goodIn_app (goodIn_of _ (by decide +kernel)) ggX1_fullAmount_X0_fullIn
theorem dX1_fullAmount_0 : decode cX1_fullAmount 0 = .ok (.aload_n 0, 1) := by decide +kernel
theorem dX1_fullAmount_1 : decode cX1_fullAmount 1 = .ok (.iload_n 1, 1) := by decide +kernel
theorem dX1_fullAmount_2 : decode cX1_fullAmount 2 = .ok (.invokevirtual 44, 3) := by decide +kernel
theorem dX1_fullAmount_5 : decode cX1_fullAmount 5 = .ok (.astore_n 3, 1) := by decide +kernel
theorem dX1_fullAmount_6 : decode cX1_fullAmount 6 = .ok (.iload_n 2, 1) := by decide +kernel
theorem dX1_fullAmount_7 : decode cX1_fullAmount 7 = .ok (.invokestatic 102, 3) := by decide +kernel
theorem dX1_fullAmount_10 : decode cX1_fullAmount 10 = .ok (.aload_n 3, 1) := by decide +kernel
theorem dX1_fullAmount_11 : decode cX1_fullAmount 11 = .ok (.iload_n 2, 1) := by decide +kernel
theorem dX1_fullAmount_12 : decode cX1_fullAmount 12 = .ok (.invokevirtual 106, 3) := by decide +kernel
theorem dX1_fullAmount_15 : decode cX1_fullAmount 15 = .ok (.ireturn, 1) := by decide +kernel
set_option maxRecDepth 20000 in
theorem ggX1_carry_X1_find : GoodIn wsX1_carry wsX1_find := goodIn_ca (goodIn_r _ [5, 6, 7, 8, 24, 25, 26, 27] (by decide +kernel) (by decide +kernel)) (goodIn_sub (fun _ h => List.mem_cons_of_mem _ (List.mem_append_left _ (List.mem_append_right _ h))) (by decide +kernel))
set_option maxRecDepth 20000 in
theorem gX1_carry_X1_find : GoodIn wsX1_carry (wsV RX1 44 RX1 yX1_find wsX1_find) := goodIn_app (goodIn_of _ (by decide +kernel)) ggX1_carry_X1_find
set_option maxRecDepth 20000 in
theorem ggX1_carry_X1_requireMonth : GoodIn wsX1_carry wsX1_requireMonth := goodIn_ca (goodIn_r _ [11, 12, 13, 4, 14, 15, 16] (by decide +kernel) (by decide +kernel)) (goodIn_sub (fun _ h => List.mem_cons_of_mem _ (List.mem_append_right _ h)) (by decide +kernel))
set_option maxRecDepth 20000 in
theorem gX1_carry_X1_requireMonth : GoodIn wsX1_carry (va_wsS RX1 102 yX1_requireMonth wsX1_requireMonth) := goodIn_app (goodIn_of _ (by decide +kernel)) ggX1_carry_X1_requireMonth
set_option maxRecDepth 20000 in
theorem ggX1_carry_X0_carryIn : GoodIn wsX1_carry wsX0_carryIn := goodIn_r _ [21, 22, 23, 28, 29, 30, 31, 32, 33, 34, 35, 36, 37, 38, 39, 40] (by decide +kernel) (by decide +kernel)
set_option maxRecDepth 20000 in
theorem gX1_carry_X0_carryIn : GoodIn wsX1_carry (wsV RX1 110 RX0 yX0_carryIn wsX0_carryIn) := goodIn_app (goodIn_of _ (by decide +kernel)) ggX1_carry_X0_carryIn
theorem dX1_carry_0 : decode cX1_carry 0 = .ok (.aload_n 0, 1) := by decide +kernel
theorem dX1_carry_1 : decode cX1_carry 1 = .ok (.iload_n 1, 1) := by decide +kernel
theorem dX1_carry_2 : decode cX1_carry 2 = .ok (.invokevirtual 44, 3) := by decide +kernel
theorem dX1_carry_5 : decode cX1_carry 5 = .ok (.astore_n 3, 1) := by decide +kernel
theorem dX1_carry_6 : decode cX1_carry 6 = .ok (.iload_n 2, 1) := by decide +kernel
theorem dX1_carry_7 : decode cX1_carry 7 = .ok (.invokestatic 102, 3) := by decide +kernel
theorem dX1_carry_10 : decode cX1_carry 10 = .ok (.aload_n 3, 1) := by decide +kernel
theorem dX1_carry_11 : decode cX1_carry 11 = .ok (.iload_n 2, 1) := by decide +kernel
theorem dX1_carry_12 : decode cX1_carry 12 = .ok (.invokevirtual 110, 3) := by decide +kernel
theorem dX1_carry_15 : decode cX1_carry 15 = .ok (.ireturn, 1) := by decide +kernel
set_option maxRecDepth 20000 in
theorem ggX1_entitled_X1_find : GoodIn wsX1_entitled wsX1_find := goodIn_ca (goodIn_r _ [5, 6, 7, 8, 61, 62, 63, 64] (by decide +kernel) (by decide +kernel)) (goodIn_sub (fun _ h => List.mem_cons_of_mem _ (List.mem_append_left _ (List.mem_append_right _ h))) (by decide +kernel))
set_option maxRecDepth 20000 in
theorem gX1_entitled_X1_find : GoodIn wsX1_entitled (wsV RX1 44 RX1 yX1_find wsX1_find) := goodIn_app (goodIn_of _ (by decide +kernel)) ggX1_entitled_X1_find
set_option maxRecDepth 20000 in
theorem ggX1_entitled_X1_requireMonth : GoodIn wsX1_entitled wsX1_requireMonth := goodIn_ca (goodIn_r _ [11, 12, 13, 4, 14, 15, 16] (by decide +kernel) (by decide +kernel)) (goodIn_sub (fun _ h => List.mem_cons_of_mem _ (List.mem_append_right _ h)) (by decide +kernel))
set_option maxRecDepth 20000 in
theorem gX1_entitled_X1_requireMonth : GoodIn wsX1_entitled (va_wsS RX1 102 yX1_requireMonth wsX1_requireMonth) := goodIn_app (goodIn_of _ (by decide +kernel)) ggX1_entitled_X1_requireMonth
set_option maxRecDepth 20000 in
theorem ggX1_entitled_X0_dueIn : GoodIn wsX1_entitled wsX0_dueIn := goodIn_r _ [21, 22, 23, 24, 20, 25, 26, 27, 28, 29, 30, 31, 32, 33, 34, 35, 36, 37, 38, 39, 40, 41, 42, 43, 44, 45, 46, 47, 48, 49, 50, 51, 52, 53, 54, 55, 56, 57, 58, 59, 60, 65, 66, 67, 68, 69, 70, 71, 72, 73, 74, 75, 76, 77] (by decide +kernel) (by decide +kernel)
set_option maxRecDepth 20000 in
theorem gX1_entitled_X0_dueIn : GoodIn wsX1_entitled (wsV RX1 113 RX0 yX0_dueIn wsX0_dueIn) := goodIn_app (goodIn_of _ (by decide +kernel)) ggX1_entitled_X0_dueIn
theorem dX1_entitled_0 : decode cX1_entitled 0 = .ok (.aload_n 0, 1) := by decide +kernel
theorem dX1_entitled_1 : decode cX1_entitled 1 = .ok (.iload_n 1, 1) := by decide +kernel
theorem dX1_entitled_2 : decode cX1_entitled 2 = .ok (.invokevirtual 44, 3) := by decide +kernel
theorem dX1_entitled_5 : decode cX1_entitled 5 = .ok (.astore_n 3, 1) := by decide +kernel
theorem dX1_entitled_6 : decode cX1_entitled 6 = .ok (.iload_n 2, 1) := by decide +kernel
theorem dX1_entitled_7 : decode cX1_entitled 7 = .ok (.invokestatic 102, 3) := by decide +kernel
theorem dX1_entitled_10 : decode cX1_entitled 10 = .ok (.aload_n 3, 1) := by decide +kernel
theorem dX1_entitled_11 : decode cX1_entitled 11 = .ok (.iload_n 2, 1) := by decide +kernel
theorem dX1_entitled_12 : decode cX1_entitled 12 = .ok (.invokevirtual 113, 3) := by decide +kernel
theorem dX1_entitled_15 : decode cX1_entitled 15 = .ok (.lreturn, 1) := by decide +kernel
set_option maxRecDepth 20000 in
theorem ggX1_entitledUpTo_X1_find : GoodIn wsX1_entitledUpTo wsX1_find := goodIn_ca (goodIn_r _ [5, 6, 7, 8, 61, 62, 63, 64] (by decide +kernel) (by decide +kernel)) (goodIn_sub (fun _ h => List.mem_cons_of_mem _ (List.mem_append_left _ (List.mem_append_right _ h))) (by decide +kernel))
set_option maxRecDepth 20000 in
theorem gX1_entitledUpTo_X1_find : GoodIn wsX1_entitledUpTo (wsV RX1 44 RX1 yX1_find wsX1_find) := goodIn_app (goodIn_of _ (by decide +kernel)) ggX1_entitledUpTo_X1_find
set_option maxRecDepth 20000 in
theorem ggX1_entitledUpTo_X1_requireMonth : GoodIn wsX1_entitledUpTo wsX1_requireMonth := goodIn_ca (goodIn_r _ [11, 12, 13, 4, 14, 15, 16] (by decide +kernel) (by decide +kernel)) (goodIn_sub (fun _ h => List.mem_cons_of_mem _ (List.mem_append_right _ h)) (by decide +kernel))
set_option maxRecDepth 20000 in
theorem gX1_entitledUpTo_X1_requireMonth : GoodIn wsX1_entitledUpTo (va_wsS RX1 102 yX1_requireMonth wsX1_requireMonth) := goodIn_app (goodIn_of _ (by decide +kernel)) ggX1_entitledUpTo_X1_requireMonth
set_option maxRecDepth 20000 in
theorem ggX1_entitledUpTo_X0_dueAhead : GoodIn wsX1_entitledUpTo wsX0_dueAhead := goodIn_r _ [21, 22, 23, 24, 20, 25, 26, 27, 28, 29, 30, 31, 32, 33, 34, 35, 36, 37, 38, 39, 40, 41, 42, 43, 44, 45, 46, 47, 48, 49, 50, 51, 52, 53, 54, 55, 56, 57, 58, 59, 60, 65, 66, 67, 68, 69, 70, 71, 72, 73, 74, 75, 76, 77] (by decide +kernel) (by decide +kernel)
set_option maxRecDepth 20000 in
theorem gX1_entitledUpTo_X0_dueAhead : GoodIn wsX1_entitledUpTo (wsV RX1 116 RX0 yX0_dueAhead wsX0_dueAhead) := goodIn_app (goodIn_of _ (by decide +kernel)) ggX1_entitledUpTo_X0_dueAhead
theorem dX1_entitledUpTo_0 : decode cX1_entitledUpTo 0 = .ok (.aload_n 0, 1) := by decide +kernel
theorem dX1_entitledUpTo_1 : decode cX1_entitledUpTo 1 = .ok (.iload_n 1, 1) := by decide +kernel
theorem dX1_entitledUpTo_2 : decode cX1_entitledUpTo 2 = .ok (.invokevirtual 44, 3) := by decide +kernel
theorem dX1_entitledUpTo_5 : decode cX1_entitledUpTo 5 = .ok (.astore_n 3, 1) := by decide +kernel
theorem dX1_entitledUpTo_6 : decode cX1_entitledUpTo 6 = .ok (.iload_n 2, 1) := by decide +kernel
theorem dX1_entitledUpTo_7 : decode cX1_entitledUpTo 7 = .ok (.invokestatic 102, 3) := by decide +kernel
theorem dX1_entitledUpTo_10 : decode cX1_entitledUpTo 10 = .ok (.aload_n 3, 1) := by decide +kernel
theorem dX1_entitledUpTo_11 : decode cX1_entitledUpTo 11 = .ok (.iload_n 2, 1) := by decide +kernel
theorem dX1_entitledUpTo_12 : decode cX1_entitledUpTo 12 = .ok (.iconst 1, 1) := by decide +kernel
theorem dX1_entitledUpTo_13 : decode cX1_entitledUpTo 13 = .ok (.iadd, 1) := by decide +kernel
theorem dX1_entitledUpTo_14 : decode cX1_entitledUpTo 14 = .ok (.invokevirtual 116, 3) := by decide +kernel
theorem dX1_entitledUpTo_17 : decode cX1_entitledUpTo 17 = .ok (.lreturn, 1) := by decide +kernel
set_option maxRecDepth 20000 in
theorem ggX1_protection_X1_find : GoodIn wsX1_protection wsX1_find := goodIn_ca (goodIn_r _ [5, 6, 7, 8, 49, 50, 51, 52] (by decide +kernel) (by decide +kernel)) (goodIn_sub (fun _ h => List.mem_cons_of_mem _ (List.mem_append_right _ h)) (by decide +kernel))
set_option maxRecDepth 20000 in
theorem gX1_protection_X1_find : GoodIn wsX1_protection (wsV RX1 44 RX1 yX1_find wsX1_find) := goodIn_app (goodIn_of _ (by decide +kernel)) ggX1_protection_X1_find
set_option maxRecDepth 20000 in
theorem ggX1_protection_X0_protectionSum : GoodIn wsX1_protection wsX0_protectionSum := goodIn_r _ [13, 14, 15, 16, 17, 18, 19, 20, 21, 22, 23, 12, 24, 25, 26, 27, 28, 29, 30, 31, 32, 33, 34, 35, 36, 37, 38, 39, 40, 41, 42, 43, 44, 45, 46, 47, 48, 53, 54, 55, 56, 57, 58, 59, 60, 61, 62, 63, 64, 65] (by decide +kernel) (by decide +kernel)
set_option maxRecDepth 20000 in
theorem gX1_protection_X0_protectionSum : GoodIn wsX1_protection (wsV RX1 119 RX0 yX0_protectionSum wsX0_protectionSum) := goodIn_app (goodIn_of _ (by decide +kernel)) ggX1_protection_X0_protectionSum
theorem dX1_protection_0 : decode cX1_protection 0 = .ok (.aload_n 0, 1) := by decide +kernel
theorem dX1_protection_1 : decode cX1_protection 1 = .ok (.iload_n 1, 1) := by decide +kernel
theorem dX1_protection_2 : decode cX1_protection 2 = .ok (.invokevirtual 44, 3) := by decide +kernel
theorem dX1_protection_5 : decode cX1_protection 5 = .ok (.invokevirtual 119, 3) := by decide +kernel
theorem dX1_protection_8 : decode cX1_protection 8 = .ok (.lreturn, 1) := by decide +kernel
theorem dX1_find_0 : decode cX1_find 0 = .ok (.iload_n 1, 1) := by decide +kernel
theorem dX1_find_1 : decode cX1_find 1 = .ok (.ifCond .lt 21, 3) := by decide +kernel
theorem dX1_find_4 : decode cX1_find 4 = .ok (.iload_n 1, 1) := by decide +kernel
theorem dX1_find_5 : decode cX1_find 5 = .ok (.aload_n 0, 1) := by decide +kernel
theorem dX1_find_6 : decode cX1_find 6 = .ok (.getfield 11, 3) := by decide +kernel
theorem dX1_find_9 : decode cX1_find 9 = .ok (.arraylength, 1) := by decide +kernel
theorem dX1_find_10 : decode cX1_find 10 = .ok (.if_icmp .ge 12, 3) := by decide +kernel
theorem dX1_find_13 : decode cX1_find 13 = .ok (.aload_n 0, 1) := by decide +kernel
theorem dX1_find_14 : decode cX1_find 14 = .ok (.getfield 11, 3) := by decide +kernel
theorem dX1_find_17 : decode cX1_find 17 = .ok (.iload_n 1, 1) := by decide +kernel
theorem dX1_find_18 : decode cX1_find 18 = .ok (.aaload, 1) := by decide +kernel
theorem dX1_find_19 : decode cX1_find 19 = .ok (.goto 4, 3) := by decide +kernel
theorem dX1_find_22 : decode cX1_find 22 = .ok (.aconst_null, 1) := by decide +kernel
theorem dX1_find_23 : decode cX1_find 23 = .ok (.astore_n 2, 1) := by decide +kernel
theorem dX1_find_24 : decode cX1_find 24 = .ok (.aload_n 2, 1) := by decide +kernel
theorem dX1_find_25 : decode cX1_find 25 = .ok (.ifnonnull 13, 3) := by decide +kernel
theorem dX1_find_28 : decode cX1_find 28 = .ok (.new 123, 3) := by decide +kernel
theorem dX1_find_31 : decode cX1_find 31 = .ok (.dup, 1) := by decide +kernel
theorem dX1_find_32 : decode cX1_find 32 = .ok (.ldc 125, 2) := by decide +kernel
theorem dX1_find_34 : decode cX1_find 34 = .ok (.invokespecial 127, 3) := by decide +kernel
theorem dX1_find_37 : decode cX1_find 37 = .ok (.athrow, 1) := by decide +kernel
theorem dX1_find_38 : decode cX1_find 38 = .ok (.aload_n 2, 1) := by decide +kernel
theorem dX1_find_39 : decode cX1_find 39 = .ok (.areturn, 1) := by decide +kernel
theorem dX1_requireStartNotRun_0 : decode cX1_requireStartNotRun 0 = .ok (.aload_n 1, 1) := by decide +kernel
theorem dX1_requireStartNotRun_1 : decode cX1_requireStartNotRun 1 = .ok (.getfield 128, 3) := by decide +kernel
theorem dX1_requireStartNotRun_4 : decode cX1_requireStartNotRun 4 = .ok (.aload_n 0, 1) := by decide +kernel
theorem dX1_requireStartNotRun_5 : decode cX1_requireStartNotRun 5 = .ok (.getfield 23, 3) := by decide +kernel
theorem dX1_requireStartNotRun_8 : decode cX1_requireStartNotRun 8 = .ok (.if_icmp .ge 13, 3) := by decide +kernel
theorem dX1_requireStartNotRun_11 : decode cX1_requireStartNotRun 11 = .ok (.new 31, 3) := by decide +kernel
theorem dX1_requireStartNotRun_14 : decode cX1_requireStartNotRun 14 = .ok (.dup, 1) := by decide +kernel
theorem dX1_requireStartNotRun_15 : decode cX1_requireStartNotRun 15 = .ok (.ldc 131, 2) := by decide +kernel
theorem dX1_requireStartNotRun_17 : decode cX1_requireStartNotRun 17 = .ok (.invokespecial 35, 3) := by decide +kernel
theorem dX1_requireStartNotRun_20 : decode cX1_requireStartNotRun 20 = .ok (.athrow, 1) := by decide +kernel
theorem dX1_requireStartNotRun_21 : decode cX1_requireStartNotRun 21 = .ok (.return_, 1) := by decide +kernel
set_option maxRecDepth 20000 in
theorem ggX1_requireMonth_X1_requireRange : GoodIn wsX1_requireMonth wsX1_requireRange := goodIn_ca (goodIn_r _ [4, 5, 6] (by decide +kernel) (by decide +kernel)) (goodIn_sub (fun _ h => List.mem_cons_of_mem _ (List.mem_append_right _ h)) (by decide +kernel))
set_option maxRecDepth 20000 in
theorem gX1_requireMonth_X1_requireRange : GoodIn wsX1_requireMonth (va_wsS RX1 26 yX1_requireRange wsX1_requireRange) := goodIn_app (goodIn_of _ (by decide +kernel)) ggX1_requireMonth_X1_requireRange
theorem dX1_requireMonth_0 : decode cX1_requireMonth 0 = .ok (.iload_n 0, 1) := by decide +kernel
theorem dX1_requireMonth_1 : decode cX1_requireMonth 1 = .ok (.iconst 0, 1) := by decide +kernel
theorem dX1_requireMonth_2 : decode cX1_requireMonth 2 = .ok (.sipush 239, 3) := by decide +kernel
theorem dX1_requireMonth_5 : decode cX1_requireMonth 5 = .ok (.invokestatic 26, 3) := by decide +kernel
theorem dX1_requireMonth_8 : decode cX1_requireMonth 8 = .ok (.return_, 1) := by decide +kernel
theorem dX1_requireRange_0 : decode cX1_requireRange 0 = .ok (.iload_n 0, 1) := by decide +kernel
theorem dX1_requireRange_1 : decode cX1_requireRange 1 = .ok (.iload_n 1, 1) := by decide +kernel
theorem dX1_requireRange_2 : decode cX1_requireRange 2 = .ok (.if_icmp .lt 8, 3) := by decide +kernel
theorem dX1_requireRange_5 : decode cX1_requireRange 5 = .ok (.iload_n 0, 1) := by decide +kernel
theorem dX1_requireRange_6 : decode cX1_requireRange 6 = .ok (.iload_n 2, 1) := by decide +kernel
theorem dX1_requireRange_7 : decode cX1_requireRange 7 = .ok (.if_icmp .le 13, 3) := by decide +kernel
theorem dX1_requireRange_10 : decode cX1_requireRange 10 = .ok (.new 133, 3) := by decide +kernel
theorem dX1_requireRange_13 : decode cX1_requireRange 13 = .ok (.dup, 1) := by decide +kernel
theorem dX1_requireRange_14 : decode cX1_requireRange 14 = .ok (.ldc 135, 2) := by decide +kernel
theorem dX1_requireRange_16 : decode cX1_requireRange 16 = .ok (.invokespecial 137, 3) := by decide +kernel
theorem dX1_requireRange_19 : decode cX1_requireRange 19 = .ok (.athrow, 1) := by decide +kernel
theorem dX1_requireRange_20 : decode cX1_requireRange 20 = .ok (.return_, 1) := by decide +kernel
theorem dJ9_max_7cf53_0 : decode cJ9_max_7cf53 0 = .ok (.iload_n 0, 1) := by decide +kernel
theorem dJ9_max_7cf53_1 : decode cJ9_max_7cf53 1 = .ok (.iload_n 1, 1) := by decide +kernel
theorem dJ9_max_7cf53_2 : decode cJ9_max_7cf53 2 = .ok (.if_icmp .lt 7, 3) := by decide +kernel
theorem dJ9_max_7cf53_5 : decode cJ9_max_7cf53 5 = .ok (.iload_n 0, 1) := by decide +kernel
theorem dJ9_max_7cf53_6 : decode cJ9_max_7cf53 6 = .ok (.goto 4, 3) := by decide +kernel
theorem dJ9_max_7cf53_9 : decode cJ9_max_7cf53 9 = .ok (.iload_n 1, 1) := by decide +kernel
theorem dJ9_max_7cf53_10 : decode cJ9_max_7cf53 10 = .ok (.ireturn, 1) := by decide +kernel
theorem dJ9_max_f86c9_0 : decode cJ9_max_f86c9 0 = .ok (.lload_n 0, 1) := by decide +kernel
theorem dJ9_max_f86c9_1 : decode cJ9_max_f86c9 1 = .ok (.lload_n 2, 1) := by decide +kernel
theorem dJ9_max_f86c9_2 : decode cJ9_max_f86c9 2 = .ok (.lcmp, 1) := by decide +kernel
theorem dJ9_max_f86c9_3 : decode cJ9_max_f86c9 3 = .ok (.ifCond .lt 7, 3) := by decide +kernel
theorem dJ9_max_f86c9_6 : decode cJ9_max_f86c9 6 = .ok (.lload_n 0, 1) := by decide +kernel
theorem dJ9_max_f86c9_7 : decode cJ9_max_f86c9 7 = .ok (.goto 4, 3) := by decide +kernel
theorem dJ9_max_f86c9_10 : decode cJ9_max_f86c9 10 = .ok (.lload_n 2, 1) := by decide +kernel
theorem dJ9_max_f86c9_11 : decode cJ9_max_f86c9 11 = .ok (.lreturn, 1) := by decide +kernel
theorem dJ9_min_7cf53_0 : decode cJ9_min_7cf53 0 = .ok (.iload_n 0, 1) := by decide +kernel
theorem dJ9_min_7cf53_1 : decode cJ9_min_7cf53 1 = .ok (.iload_n 1, 1) := by decide +kernel
theorem dJ9_min_7cf53_2 : decode cJ9_min_7cf53 2 = .ok (.if_icmp .gt 7, 3) := by decide +kernel
theorem dJ9_min_7cf53_5 : decode cJ9_min_7cf53 5 = .ok (.iload_n 0, 1) := by decide +kernel
theorem dJ9_min_7cf53_6 : decode cJ9_min_7cf53 6 = .ok (.goto 4, 3) := by decide +kernel
theorem dJ9_min_7cf53_9 : decode cJ9_min_7cf53 9 = .ok (.iload_n 1, 1) := by decide +kernel
theorem dJ9_min_7cf53_10 : decode cJ9_min_7cf53 10 = .ok (.ireturn, 1) := by decide +kernel
end
section
theorem dL_cell_0 : decode cL_cell 0 = .ok (.iload_n 1, 1) := by decide +kernel
theorem dL_cell_1 : decode cL_cell 1 = .ok (.aload_n 0, 1) := by decide +kernel
theorem dL_cell_2 : decode cL_cell 2 = .ok (.arraylength, 1) := by decide +kernel
theorem dL_cell_3 : decode cL_cell 3 = .ok (.if_icmp .ge 9, 3) := by decide +kernel
theorem dL_cell_6 : decode cL_cell 6 = .ok (.aload_n 0, 1) := by decide +kernel
theorem dL_cell_7 : decode cL_cell 7 = .ok (.iload_n 1, 1) := by decide +kernel
theorem dL_cell_8 : decode cL_cell 8 = .ok (.iaload, 1) := by decide +kernel
theorem dL_cell_9 : decode cL_cell 9 = .ok (.goto 15, 3) := by decide +kernel
theorem dL_cell_12 : decode cL_cell 12 = .ok (.ldc 7, 2) := by decide +kernel
theorem dL_cell_14 : decode cL_cell 14 = .ok (.iload_n 1, 1) := by decide +kernel
theorem dL_cell_15 : decode cL_cell 15 = .ok (.sipush 6997, 3) := by decide +kernel
theorem dL_cell_18 : decode cL_cell 18 = .ok (.irem, 1) := by decide +kernel
theorem dL_cell_19 : decode cL_cell 19 = .ok (.imul, 1) := by decide +kernel
theorem dL_cell_20 : decode cL_cell 20 = .ok (.sipush 5113, 3) := by decide +kernel
theorem dL_cell_23 : decode cL_cell 23 = .ok (.iadd, 1) := by decide +kernel
theorem dL_cell_24 : decode cL_cell 24 = .ok (.ldc 8, 2) := by decide +kernel
theorem dL_cell_26 : decode cL_cell 26 = .ok (.iand, 1) := by decide +kernel
theorem dL_cell_27 : decode cL_cell 27 = .ok (.ireturn, 1) := by decide +kernel
set_option maxRecDepth 20000 in
theorem ggL_add_X1_add : GoodIn wsL_add wsX1_add := goodIn_ca (goodIn_ca (goodIn_r _ [7, 8, 9, 10, 11, 12, 13, 14, 15, 16, 17, 18, 19, 6, 20, 21, 22, 23, 24, 25, 26, 27, 28, 29, 30, 31, 32, 33, 34, 35, 36, 37, 38, 39, 40, 41, 42, 43, 44, 45, 46, 47, 48, 49, 50, 51, 52, 53, 54, 55, 56, 57, 58, 59, 60, 61, 62, 63, 64, 65, 66, 67, 68, 69, 70, 71] (by decide +kernel) (by decide +kernel)) (goodIn_sub (fun _ h => List.mem_cons_of_mem _ (List.mem_append_left _ (List.mem_append_right _ h))) (by decide +kernel))) (goodIn_sub (fun _ h => List.mem_cons_of_mem _ (List.mem_append_right _ h)) (by decide +kernel))
set_option maxRecDepth 20000 in
theorem gL_add_X1_add : GoodIn wsL_add (wsV RL 9 RX1 yX1_add wsX1_add) := goodIn_app (goodIn_of _ (by decide +kernel)) ggL_add_X1_add
theorem dL_add_0 : decode cL_add 0 = .ok (.aload_n 0, 1) := by decide +kernel
theorem dL_add_1 : decode cL_add 1 = .ok (.iload_n 1, 1) := by decide +kernel
theorem dL_add_2 : decode cL_add 2 = .ok (.iload_n 2, 1) := by decide +kernel
theorem dL_add_3 : decode cL_add 3 = .ok (.iload_n 3, 1) := by decide +kernel
theorem dL_add_4 : decode cL_add 4 = .ok (.invokevirtual 9, 3) := by decide +kernel
theorem dL_add_7 : decode cL_add 7 = .ok (.ireturn, 1) := by decide +kernel
theorem dL_add_8 : decode cL_add 8 = .ok (.astore 4, 2) := by decide +kernel
theorem dL_add_10 : decode cL_add 10 = .ok (.bipush (-102), 2) := by decide +kernel
theorem dL_add_12 : decode cL_add 12 = .ok (.ireturn, 1) := by decide +kernel
theorem dL_add_13 : decode cL_add 13 = .ok (.astore 4, 2) := by decide +kernel
theorem dL_add_15 : decode cL_add 15 = .ok (.bipush (-103), 2) := by decide +kernel
theorem dL_add_17 : decode cL_add 17 = .ok (.ireturn, 1) := by decide +kernel
set_option maxRecDepth 20000 in
theorem ggL_survivor_X1_setSurvivor : GoodIn wsL_survivor wsX1_setSurvivor := goodIn_ca (goodIn_ca (goodIn_ca (goodIn_r _ [8, 9, 10, 11, 12, 13, 7, 14, 15, 16, 17, 18, 19, 20, 21, 22, 23, 24, 25, 26, 27, 28, 29, 30, 31, 32, 33, 34, 35, 36, 37, 38, 39, 40, 41, 42, 43, 44, 45, 46, 47] (by decide +kernel) (by decide +kernel)) (goodIn_sub (fun _ h => List.mem_cons_of_mem _ (List.mem_append_left _ (List.mem_append_left _ (List.mem_append_right _ h)))) (by decide +kernel))) (goodIn_sub (fun _ h => List.mem_cons_of_mem _ (List.mem_append_left _ (List.mem_append_right _ h))) (by decide +kernel))) (goodIn_sub (fun _ h => List.mem_cons_of_mem _ (List.mem_append_right _ h)) (by decide +kernel))
set_option maxRecDepth 20000 in
theorem gL_survivor_X1_setSurvivor : GoodIn wsL_survivor (wsV RL 19 RX1 yX1_setSurvivor wsX1_setSurvivor) := goodIn_app (goodIn_of _ (by decide +kernel)) ggL_survivor_X1_setSurvivor
theorem dL_survivor_0 : decode cL_survivor 0 = .ok (.aload_n 0, 1) := by decide +kernel
theorem dL_survivor_1 : decode cL_survivor 1 = .ok (.iload_n 1, 1) := by decide +kernel
theorem dL_survivor_2 : decode cL_survivor 2 = .ok (.iload_n 2, 1) := by decide +kernel
theorem dL_survivor_3 : decode cL_survivor 3 = .ok (.iload_n 3, 1) := by decide +kernel
theorem dL_survivor_4 : decode cL_survivor 4 = .ok (.invokevirtual 19, 3) := by decide +kernel
theorem dL_survivor_7 : decode cL_survivor 7 = .ok (.goto 18, 3) := by decide +kernel
theorem dL_survivor_10 : decode cL_survivor 10 = .ok (.astore 4, 2) := by decide +kernel
theorem dL_survivor_12 : decode cL_survivor 12 = .ok (.bipush (-101), 2) := by decide +kernel
theorem dL_survivor_14 : decode cL_survivor 14 = .ok (.ireturn, 1) := by decide +kernel
theorem dL_survivor_15 : decode cL_survivor 15 = .ok (.astore 4, 2) := by decide +kernel
theorem dL_survivor_17 : decode cL_survivor 17 = .ok (.bipush (-102), 2) := by decide +kernel
theorem dL_survivor_19 : decode cL_survivor 19 = .ok (.ireturn, 1) := by decide +kernel
theorem dL_survivor_20 : decode cL_survivor 20 = .ok (.astore 4, 2) := by decide +kernel
theorem dL_survivor_22 : decode cL_survivor 22 = .ok (.bipush (-103), 2) := by decide +kernel
theorem dL_survivor_24 : decode cL_survivor 24 = .ok (.ireturn, 1) := by decide +kernel
theorem dL_survivor_25 : decode cL_survivor 25 = .ok (.iconst 0, 1) := by decide +kernel
theorem dL_survivor_26 : decode cL_survivor 26 = .ok (.ireturn, 1) := by decide +kernel
set_option maxRecDepth 20000 in
theorem ggL_cap_X1_setCap : GoodIn wsL_cap wsX1_setCap := goodIn_ca (goodIn_ca (goodIn_ca (goodIn_r _ [8, 9, 10, 11, 12, 13, 7, 14, 15, 16, 17, 18, 19, 20, 21, 22, 23, 24, 25, 26, 27, 28, 29, 30, 31, 32, 33, 34, 35, 36, 37, 38, 39, 40, 41, 42, 43, 44, 45, 46, 47, 48, 49, 50, 51, 52, 53, 54, 55, 56, 57, 58, 59, 60, 61, 62, 63, 64] (by decide +kernel) (by decide +kernel)) (goodIn_sub (fun _ h => List.mem_cons_of_mem _ (List.mem_append_left _ (List.mem_append_left _ (List.mem_append_right _ h)))) (by decide +kernel))) (goodIn_sub (fun _ h => List.mem_cons_of_mem _ (List.mem_append_left _ (List.mem_append_right _ h))) (by decide +kernel))) (goodIn_sub (fun _ h => List.mem_cons_of_mem _ (List.mem_append_right _ h)) (by decide +kernel))
set_option maxRecDepth 20000 in
theorem gL_cap_X1_setCap : GoodIn wsL_cap (wsV RL 25 RX1 yX1_setCap wsX1_setCap) := goodIn_app (goodIn_of _ (by decide +kernel)) ggL_cap_X1_setCap
theorem dL_cap_0 : decode cL_cap 0 = .ok (.aload_n 0, 1) := by decide +kernel
theorem dL_cap_1 : decode cL_cap 1 = .ok (.iload_n 1, 1) := by decide +kernel
theorem dL_cap_2 : decode cL_cap 2 = .ok (.iload_n 2, 1) := by decide +kernel
theorem dL_cap_3 : decode cL_cap 3 = .ok (.invokevirtual 25, 3) := by decide +kernel
theorem dL_cap_6 : decode cL_cap 6 = .ok (.goto 15, 3) := by decide +kernel
theorem dL_cap_9 : decode cL_cap 9 = .ok (.astore_n 3, 1) := by decide +kernel
theorem dL_cap_10 : decode cL_cap 10 = .ok (.bipush (-101), 2) := by decide +kernel
theorem dL_cap_12 : decode cL_cap 12 = .ok (.ireturn, 1) := by decide +kernel
theorem dL_cap_13 : decode cL_cap 13 = .ok (.astore_n 3, 1) := by decide +kernel
theorem dL_cap_14 : decode cL_cap 14 = .ok (.bipush (-102), 2) := by decide +kernel
theorem dL_cap_16 : decode cL_cap 16 = .ok (.ireturn, 1) := by decide +kernel
theorem dL_cap_17 : decode cL_cap 17 = .ok (.astore_n 3, 1) := by decide +kernel
theorem dL_cap_18 : decode cL_cap 18 = .ok (.bipush (-103), 2) := by decide +kernel
theorem dL_cap_20 : decode cL_cap 20 = .ok (.ireturn, 1) := by decide +kernel
theorem dL_cap_21 : decode cL_cap 21 = .ok (.iconst 0, 1) := by decide +kernel
theorem dL_cap_22 : decode cL_cap 22 = .ok (.ireturn, 1) := by decide +kernel
set_option maxRecDepth 20000 in
theorem ggL_protect_X1_protect : GoodIn wsL_protect wsX1_protect := goodIn_ca (goodIn_ca (goodIn_ca (goodIn_r _ [8, 9, 10, 11, 12, 13, 14, 7, 15, 16, 17, 18, 19, 20, 21, 22, 23, 24, 25, 26, 27, 28, 29, 30, 31, 32, 33, 34, 35, 36, 37, 38, 39, 40, 41, 42, 43, 44, 45, 46, 47, 48] (by decide +kernel) (by decide +kernel)) (goodIn_sub (fun _ h => List.mem_cons_of_mem _ (List.mem_append_left _ (List.mem_append_left _ (List.mem_append_right _ h)))) (by decide +kernel))) (goodIn_sub (fun _ h => List.mem_cons_of_mem _ (List.mem_append_left _ (List.mem_append_right _ h))) (by decide +kernel))) (goodIn_sub (fun _ h => List.mem_cons_of_mem _ (List.mem_append_right _ h)) (by decide +kernel))
set_option maxRecDepth 20000 in
theorem gL_protect_X1_protect : GoodIn wsL_protect (wsV RL 29 RX1 yX1_protect wsX1_protect) := goodIn_app (goodIn_of _ (by decide +kernel)) ggL_protect_X1_protect
theorem dL_protect_0 : decode cL_protect 0 = .ok (.aload_n 0, 1) := by decide +kernel
theorem dL_protect_1 : decode cL_protect 1 = .ok (.iload_n 1, 1) := by decide +kernel
theorem dL_protect_2 : decode cL_protect 2 = .ok (.iload_n 2, 1) := by decide +kernel
theorem dL_protect_3 : decode cL_protect 3 = .ok (.iload_n 3, 1) := by decide +kernel
theorem dL_protect_4 : decode cL_protect 4 = .ok (.invokevirtual 29, 3) := by decide +kernel
theorem dL_protect_7 : decode cL_protect 7 = .ok (.goto 18, 3) := by decide +kernel
theorem dL_protect_10 : decode cL_protect 10 = .ok (.astore 4, 2) := by decide +kernel
theorem dL_protect_12 : decode cL_protect 12 = .ok (.bipush (-101), 2) := by decide +kernel
theorem dL_protect_14 : decode cL_protect 14 = .ok (.ireturn, 1) := by decide +kernel
theorem dL_protect_15 : decode cL_protect 15 = .ok (.astore 4, 2) := by decide +kernel
theorem dL_protect_17 : decode cL_protect 17 = .ok (.bipush (-102), 2) := by decide +kernel
theorem dL_protect_19 : decode cL_protect 19 = .ok (.ireturn, 1) := by decide +kernel
theorem dL_protect_20 : decode cL_protect 20 = .ok (.astore 4, 2) := by decide +kernel
theorem dL_protect_22 : decode cL_protect 22 = .ok (.bipush (-103), 2) := by decide +kernel
theorem dL_protect_24 : decode cL_protect 24 = .ok (.ireturn, 1) := by decide +kernel
theorem dL_protect_25 : decode cL_protect 25 = .ok (.iconst 0, 1) := by decide +kernel
theorem dL_protect_26 : decode cL_protect 26 = .ok (.ireturn, 1) := by decide +kernel
set_option maxRecDepth 20000 in
theorem ggL_inflation_X1_setInflation : GoodIn wsL_inflation wsX1_setInflation := goodIn_ca (goodIn_r _ [6, 7, 8, 9, 10, 5, 11, 12, 13, 14, 15, 16, 17, 18, 19, 20, 21, 22, 23, 24, 25, 26, 27, 28, 29, 30, 31, 32, 33, 34, 35, 36, 37, 38, 39, 40, 41, 42, 43, 44, 45, 46, 47] (by decide +kernel) (by decide +kernel)) (goodIn_sub (fun _ h => List.mem_cons_of_mem _ (List.mem_append_right _ h)) (by decide +kernel))
set_option maxRecDepth 20000 in
theorem gL_inflation_X1_setInflation : GoodIn wsL_inflation (wsV RL 33 RX1 yX1_setInflation wsX1_setInflation) := goodIn_app (goodIn_of _ (by decide +kernel)) ggL_inflation_X1_setInflation
theorem dL_inflation_0 : decode cL_inflation 0 = .ok (.aload_n 0, 1) := by decide +kernel
theorem dL_inflation_1 : decode cL_inflation 1 = .ok (.iload_n 1, 1) := by decide +kernel
theorem dL_inflation_2 : decode cL_inflation 2 = .ok (.iload_n 2, 1) := by decide +kernel
theorem dL_inflation_3 : decode cL_inflation 3 = .ok (.invokevirtual 33, 3) := by decide +kernel
theorem dL_inflation_6 : decode cL_inflation 6 = .ok (.ireturn, 1) := by decide +kernel
theorem dL_inflation_7 : decode cL_inflation 7 = .ok (.astore_n 3, 1) := by decide +kernel
theorem dL_inflation_8 : decode cL_inflation 8 = .ok (.sipush (-10002), 3) := by decide +kernel
theorem dL_inflation_11 : decode cL_inflation 11 = .ok (.ireturn, 1) := by decide +kernel
set_option maxRecDepth 20000 in
theorem ggL_die_X1_die : GoodIn wsL_die wsX1_die := goodIn_ca (goodIn_ca (goodIn_ca (goodIn_r _ [8, 9, 10, 11, 12, 13, 14, 15, 16, 17, 18, 19, 7, 20, 21, 22, 23, 24, 25, 26, 27, 28, 29, 30, 31, 32, 33, 34, 35, 36, 37, 38, 39, 40, 41, 42, 43, 44, 45] (by decide +kernel) (by decide +kernel)) (goodIn_sub (fun _ h => List.mem_cons_of_mem _ (List.mem_append_left _ (List.mem_append_left _ (List.mem_append_right _ h)))) (by decide +kernel))) (goodIn_sub (fun _ h => List.mem_cons_of_mem _ (List.mem_append_left _ (List.mem_append_right _ h))) (by decide +kernel))) (goodIn_sub (fun _ h => List.mem_cons_of_mem _ (List.mem_append_right _ h)) (by decide +kernel))
set_option maxRecDepth 20000 in
theorem gL_die_X1_die : GoodIn wsL_die (wsV RL 37 RX1 yX1_die wsX1_die) := goodIn_app (goodIn_of _ (by decide +kernel)) ggL_die_X1_die
theorem dL_die_0 : decode cL_die 0 = .ok (.aload_n 0, 1) := by decide +kernel
theorem dL_die_1 : decode cL_die 1 = .ok (.iload_n 1, 1) := by decide +kernel
theorem dL_die_2 : decode cL_die 2 = .ok (.iload_n 2, 1) := by decide +kernel
theorem dL_die_3 : decode cL_die 3 = .ok (.iload_n 3, 1) := by decide +kernel
theorem dL_die_4 : decode cL_die 4 = .ok (.invokevirtual 37, 3) := by decide +kernel
theorem dL_die_7 : decode cL_die 7 = .ok (.goto 18, 3) := by decide +kernel
theorem dL_die_10 : decode cL_die 10 = .ok (.astore 4, 2) := by decide +kernel
theorem dL_die_12 : decode cL_die 12 = .ok (.bipush (-101), 2) := by decide +kernel
theorem dL_die_14 : decode cL_die 14 = .ok (.ireturn, 1) := by decide +kernel
theorem dL_die_15 : decode cL_die 15 = .ok (.astore 4, 2) := by decide +kernel
theorem dL_die_17 : decode cL_die 17 = .ok (.bipush (-102), 2) := by decide +kernel
theorem dL_die_19 : decode cL_die 19 = .ok (.ireturn, 1) := by decide +kernel
theorem dL_die_20 : decode cL_die 20 = .ok (.astore 4, 2) := by decide +kernel
theorem dL_die_22 : decode cL_die 22 = .ok (.bipush (-103), 2) := by decide +kernel
theorem dL_die_24 : decode cL_die 24 = .ok (.ireturn, 1) := by decide +kernel
theorem dL_die_25 : decode cL_die 25 = .ok (.iconst 0, 1) := by decide +kernel
theorem dL_die_26 : decode cL_die 26 = .ok (.ireturn, 1) := by decide +kernel
set_option maxRecDepth 20000 in
theorem ggL_takeBack_X1_takeBack : GoodIn wsL_takeBack wsX1_takeBack := goodIn_ca (goodIn_ca (goodIn_ca (goodIn_r _ [8, 9, 10, 11, 12, 13, 14, 7, 15, 16, 17, 18, 19, 20, 21, 22, 23, 24, 25, 26, 27, 28, 29, 30, 31, 32, 33, 34, 35, 36, 37, 38, 39, 40] (by decide +kernel) (by decide +kernel)) (goodIn_sub (fun _ h => List.mem_cons_of_mem _ (List.mem_append_left _ (List.mem_append_left _ (List.mem_append_right _ h)))) (by decide +kernel))) (goodIn_sub (fun _ h => List.mem_cons_of_mem _ (List.mem_append_left _ (List.mem_append_right _ h))) (by decide +kernel))) (goodIn_sub (fun _ h => List.mem_cons_of_mem _ (List.mem_append_right _ h)) (by decide +kernel))
set_option maxRecDepth 20000 in
theorem gL_takeBack_X1_takeBack : GoodIn wsL_takeBack (wsV RL 40 RX1 yX1_takeBack wsX1_takeBack) := goodIn_app (goodIn_of _ (by decide +kernel)) ggL_takeBack_X1_takeBack
theorem dL_takeBack_0 : decode cL_takeBack 0 = .ok (.aload_n 0, 1) := by decide +kernel
theorem dL_takeBack_1 : decode cL_takeBack 1 = .ok (.iload_n 1, 1) := by decide +kernel
theorem dL_takeBack_2 : decode cL_takeBack 2 = .ok (.iload_n 2, 1) := by decide +kernel
theorem dL_takeBack_3 : decode cL_takeBack 3 = .ok (.invokevirtual 40, 3) := by decide +kernel
theorem dL_takeBack_6 : decode cL_takeBack 6 = .ok (.ireturn, 1) := by decide +kernel
theorem dL_takeBack_7 : decode cL_takeBack 7 = .ok (.astore_n 3, 1) := by decide +kernel
theorem dL_takeBack_8 : decode cL_takeBack 8 = .ok (.bipush (-101), 2) := by decide +kernel
theorem dL_takeBack_10 : decode cL_takeBack 10 = .ok (.ireturn, 1) := by decide +kernel
theorem dL_takeBack_11 : decode cL_takeBack 11 = .ok (.astore_n 3, 1) := by decide +kernel
theorem dL_takeBack_12 : decode cL_takeBack 12 = .ok (.bipush (-102), 2) := by decide +kernel
theorem dL_takeBack_14 : decode cL_takeBack 14 = .ok (.ireturn, 1) := by decide +kernel
theorem dL_takeBack_15 : decode cL_takeBack 15 = .ok (.astore_n 3, 1) := by decide +kernel
theorem dL_takeBack_16 : decode cL_takeBack 16 = .ok (.bipush (-103), 2) := by decide +kernel
theorem dL_takeBack_18 : decode cL_takeBack 18 = .ok (.ireturn, 1) := by decide +kernel
set_option maxRecDepth 20000 in
theorem ggL_run_X1_run : GoodIn wsL_run wsX1_run := goodIn_ca (goodIn_r _ [7, 8, 9, 10, 11, 12, 13, 14, 15, 16, 17, 18, 19, 20, 21, 22, 23, 24, 25, 26, 27, 28, 29, 30, 31, 32, 33, 34, 35, 36, 37, 38, 39, 40, 41, 42, 43, 44, 45, 46, 47, 48, 49, 50, 51, 52, 53, 54, 55, 56, 57, 58, 59, 60, 61, 62, 63, 64, 65, 66, 67, 68, 69, 70, 71, 72, 73, 74, 75, 76, 77, 78] (by decide +kernel) (by decide +kernel)) (goodIn_sub (fun _ h => List.mem_cons_of_mem _ (List.mem_append_right _ h)) (by decide +kernel))
set_option maxRecDepth 20000 in
theorem gL_run_X1_run : GoodIn wsL_run (wsV RL 43 RX1 yX1_run wsX1_run) := goodIn_app (goodIn_of _ (by decide +kernel)) ggL_run_X1_run
theorem dL_run_0 : decode cL_run 0 = .ok (.aload_n 0, 1) := by decide +kernel
theorem dL_run_1 : decode cL_run 1 = .ok (.invokevirtual 43, 3) := by decide +kernel
theorem dL_run_4 : decode cL_run 4 = .ok (.lreturn, 1) := by decide +kernel
theorem dL_run_5 : decode cL_run 5 = .ok (.astore_n 1, 1) := by decide +kernel
theorem dL_run_6 : decode cL_run 6 = .ok (.ldc2_w 47, 3) := by decide +kernel
theorem dL_run_9 : decode cL_run 9 = .ok (.lreturn, 1) := by decide +kernel
set_option maxRecDepth 20000 in
theorem ggL_back_X1_giveBack : GoodIn wsL_back wsX1_giveBack := goodIn_ca (goodIn_ca (goodIn_ca (goodIn_r _ [11, 12, 13, 14, 15, 16, 17, 18, 19, 10, 20, 21, 22, 23, 24, 25, 26, 27, 28, 29, 30, 31, 32, 33, 34, 35, 36, 37, 38, 39, 40, 41, 42, 43, 44, 45, 46, 47, 48, 49, 50, 51, 52, 53, 54, 55, 56, 57, 58, 59, 60, 61, 62, 63, 64, 65, 66, 67, 68, 69, 70, 71, 72, 73, 74, 75, 76, 77, 78, 79, 80, 81, 82, 83, 84, 85, 86, 87, 88, 89, 90, 91, 92, 93, 94] (by decide +kernel) (by decide +kernel)) (goodIn_sub (fun _ h => List.mem_cons_of_mem _ (List.mem_append_left _ (List.mem_append_left _ (List.mem_append_right _ h)))) (by decide +kernel))) (goodIn_sub (fun _ h => List.mem_cons_of_mem _ (List.mem_append_left _ (List.mem_append_right _ h))) (by decide +kernel))) (goodIn_sub (fun _ h => List.mem_cons_of_mem _ (List.mem_append_right _ h)) (by decide +kernel))
set_option maxRecDepth 20000 in
theorem gL_back_X1_giveBack : GoodIn wsL_back (wsV RL 49 RX1 yX1_giveBack wsX1_giveBack) := goodIn_app (goodIn_of _ (by decide +kernel)) ggL_back_X1_giveBack
theorem dL_back_0 : decode cL_back 0 = .ok (.aload_n 0, 1) := by decide +kernel
theorem dL_back_1 : decode cL_back 1 = .ok (.iload_n 1, 1) := by decide +kernel
theorem dL_back_2 : decode cL_back 2 = .ok (.iload_n 2, 1) := by decide +kernel
theorem dL_back_3 : decode cL_back 3 = .ok (.invokevirtual 49, 3) := by decide +kernel
theorem dL_back_6 : decode cL_back 6 = .ok (.lreturn, 1) := by decide +kernel
theorem dL_back_7 : decode cL_back 7 = .ok (.astore_n 3, 1) := by decide +kernel
theorem dL_back_8 : decode cL_back 8 = .ok (.ldc2_w 53, 3) := by decide +kernel
theorem dL_back_11 : decode cL_back 11 = .ok (.lreturn, 1) := by decide +kernel
theorem dL_back_12 : decode cL_back 12 = .ok (.astore_n 3, 1) := by decide +kernel
theorem dL_back_13 : decode cL_back 13 = .ok (.ldc2_w 55, 3) := by decide +kernel
theorem dL_back_16 : decode cL_back 16 = .ok (.lreturn, 1) := by decide +kernel
theorem dL_back_17 : decode cL_back 17 = .ok (.astore_n 3, 1) := by decide +kernel
theorem dL_back_18 : decode cL_back 18 = .ok (.ldc2_w 47, 3) := by decide +kernel
theorem dL_back_21 : decode cL_back 21 = .ok (.lreturn, 1) := by decide +kernel
set_option maxRecDepth 20000 in
theorem ggL_paid_X1_paid : GoodIn wsL_paid wsX1_paid := goodIn_ca (goodIn_ca (goodIn_r _ [9, 10, 11, 12, 13, 14, 8, 15, 16, 17, 18, 19, 20, 21, 22, 23, 24, 25, 26, 27, 28, 29, 30, 31, 32, 33, 34, 35, 36, 37, 38, 39, 40] (by decide +kernel) (by decide +kernel)) (goodIn_sub (fun _ h => List.mem_cons_of_mem _ (List.mem_append_left _ (List.mem_append_right _ h))) (by decide +kernel))) (goodIn_sub (fun _ h => List.mem_cons_of_mem _ (List.mem_append_right _ h)) (by decide +kernel))
set_option maxRecDepth 20000 in
theorem gL_paid_X1_paid : GoodIn wsL_paid (wsV RL 57 RX1 yX1_paid wsX1_paid) := goodIn_app (goodIn_of _ (by decide +kernel)) ggL_paid_X1_paid
theorem dL_paid_0 : decode cL_paid 0 = .ok (.aload_n 0, 1) := by decide +kernel
theorem dL_paid_1 : decode cL_paid 1 = .ok (.iload_n 1, 1) := by decide +kernel
theorem dL_paid_2 : decode cL_paid 2 = .ok (.iload_n 2, 1) := by decide +kernel
theorem dL_paid_3 : decode cL_paid 3 = .ok (.invokevirtual 57, 3) := by decide +kernel
theorem dL_paid_6 : decode cL_paid 6 = .ok (.lreturn, 1) := by decide +kernel
theorem dL_paid_7 : decode cL_paid 7 = .ok (.astore_n 3, 1) := by decide +kernel
theorem dL_paid_8 : decode cL_paid 8 = .ok (.ldc2_w 53, 3) := by decide +kernel
theorem dL_paid_11 : decode cL_paid 11 = .ok (.lreturn, 1) := by decide +kernel
theorem dL_paid_12 : decode cL_paid 12 = .ok (.astore_n 3, 1) := by decide +kernel
theorem dL_paid_13 : decode cL_paid 13 = .ok (.ldc2_w 55, 3) := by decide +kernel
theorem dL_paid_16 : decode cL_paid 16 = .ok (.lreturn, 1) := by decide +kernel
set_option maxRecDepth 20000 in
theorem ggL_paidAll_X1_paidInAll : GoodIn wsL_paidAll wsX1_paidInAll := goodIn_ca (goodIn_r _ [7, 8, 9, 10, 11, 6, 12, 13, 14, 15, 16, 17, 18, 19, 20, 21, 22, 23, 24, 25, 26, 27, 28, 29, 30, 31, 32] (by decide +kernel) (by decide +kernel)) (goodIn_sub (fun _ h => List.mem_cons_of_mem _ (List.mem_append_right _ h)) (by decide +kernel))
set_option maxRecDepth 20000 in
theorem gL_paidAll_X1_paidInAll : GoodIn wsL_paidAll (wsV RL 60 RX1 yX1_paidInAll wsX1_paidInAll) := goodIn_app (goodIn_of _ (by decide +kernel)) ggL_paidAll_X1_paidInAll
theorem dL_paidAll_0 : decode cL_paidAll 0 = .ok (.aload_n 0, 1) := by decide +kernel
theorem dL_paidAll_1 : decode cL_paidAll 1 = .ok (.iload_n 1, 1) := by decide +kernel
theorem dL_paidAll_2 : decode cL_paidAll 2 = .ok (.invokevirtual 60, 3) := by decide +kernel
theorem dL_paidAll_5 : decode cL_paidAll 5 = .ok (.lreturn, 1) := by decide +kernel
theorem dL_paidAll_6 : decode cL_paidAll 6 = .ok (.astore_n 2, 1) := by decide +kernel
theorem dL_paidAll_7 : decode cL_paidAll 7 = .ok (.ldc2_w 53, 3) := by decide +kernel
theorem dL_paidAll_10 : decode cL_paidAll 10 = .ok (.lreturn, 1) := by decide +kernel
set_option maxRecDepth 20000 in
theorem ggL_owes_X1_owes : GoodIn wsL_owes wsX1_owes := goodIn_ca (goodIn_r _ [7, 8, 9, 10, 11, 6, 12, 13, 14, 15, 16, 17, 18, 19, 20, 21, 22, 23, 24, 25, 26, 27, 28, 29, 30, 31, 32, 33, 34, 35, 36, 37, 38, 39, 40, 41, 42, 43, 44, 45, 46, 47, 48, 49, 50, 51, 52, 53, 54, 55, 56, 57, 58, 59, 60, 61, 62, 63, 64, 65, 66, 67, 68, 69, 70, 71, 72, 73, 74, 75, 76, 77, 78, 79, 80, 81] (by decide +kernel) (by decide +kernel)) (goodIn_sub (fun _ h => List.mem_cons_of_mem _ (List.mem_append_right _ h)) (by decide +kernel))
set_option maxRecDepth 20000 in
theorem gL_owes_X1_owes : GoodIn wsL_owes (wsV RL 64 RX1 yX1_owes wsX1_owes) := goodIn_app (goodIn_of _ (by decide +kernel)) ggL_owes_X1_owes
theorem dL_owes_0 : decode cL_owes 0 = .ok (.aload_n 0, 1) := by decide +kernel
theorem dL_owes_1 : decode cL_owes 1 = .ok (.iload_n 1, 1) := by decide +kernel
theorem dL_owes_2 : decode cL_owes 2 = .ok (.invokevirtual 64, 3) := by decide +kernel
theorem dL_owes_5 : decode cL_owes 5 = .ok (.lreturn, 1) := by decide +kernel
theorem dL_owes_6 : decode cL_owes 6 = .ok (.astore_n 2, 1) := by decide +kernel
theorem dL_owes_7 : decode cL_owes 7 = .ok (.ldc2_w 53, 3) := by decide +kernel
theorem dL_owes_10 : decode cL_owes 10 = .ok (.lreturn, 1) := by decide +kernel
set_option maxRecDepth 20000 in
theorem ggL_full_X1_fullAmount : GoodIn wsL_full wsX1_fullAmount := goodIn_ca (goodIn_ca (goodIn_r _ [7, 8, 9, 10, 6, 11, 12, 13, 14, 15, 16, 17, 18, 19, 20, 21, 22, 23, 24, 25, 26, 27, 28, 29, 30, 31, 32, 33, 34, 35, 36, 37, 38, 39, 40, 41, 42, 43, 44, 45, 46] (by decide +kernel) (by decide +kernel)) (goodIn_sub (fun _ h => List.mem_cons_of_mem _ (List.mem_append_left _ (List.mem_append_right _ h))) (by decide +kernel))) (goodIn_sub (fun _ h => List.mem_cons_of_mem _ (List.mem_append_right _ h)) (by decide +kernel))
set_option maxRecDepth 20000 in
theorem gL_full_X1_fullAmount : GoodIn wsL_full (wsV RL 67 RX1 yX1_fullAmount wsX1_fullAmount) := goodIn_app (goodIn_of _ (by decide +kernel)) ggL_full_X1_fullAmount
theorem dL_full_0 : decode cL_full 0 = .ok (.aload_n 0, 1) := by decide +kernel
theorem dL_full_1 : decode cL_full 1 = .ok (.iload_n 1, 1) := by decide +kernel
theorem dL_full_2 : decode cL_full 2 = .ok (.iload_n 2, 1) := by decide +kernel
theorem dL_full_3 : decode cL_full 3 = .ok (.invokevirtual 67, 3) := by decide +kernel
theorem dL_full_6 : decode cL_full 6 = .ok (.ireturn, 1) := by decide +kernel
theorem dL_full_7 : decode cL_full 7 = .ok (.astore_n 3, 1) := by decide +kernel
theorem dL_full_8 : decode cL_full 8 = .ok (.bipush (-101), 2) := by decide +kernel
theorem dL_full_10 : decode cL_full 10 = .ok (.ireturn, 1) := by decide +kernel
theorem dL_full_11 : decode cL_full 11 = .ok (.astore_n 3, 1) := by decide +kernel
theorem dL_full_12 : decode cL_full 12 = .ok (.bipush (-102), 2) := by decide +kernel
theorem dL_full_14 : decode cL_full 14 = .ok (.ireturn, 1) := by decide +kernel
set_option maxRecDepth 20000 in
theorem ggL_carry_X1_carry : GoodIn wsL_carry wsX1_carry := goodIn_ca (goodIn_ca (goodIn_r _ [7, 8, 9, 10, 6, 11, 12, 13, 14, 15, 16, 17, 18, 19, 20, 21, 22, 23, 24, 25, 26, 27, 28, 29, 30, 31, 32, 33, 34, 35, 36, 37, 38, 39, 40, 41, 42, 43, 44, 45, 46] (by decide +kernel) (by decide +kernel)) (goodIn_sub (fun _ h => List.mem_cons_of_mem _ (List.mem_append_left _ (List.mem_append_right _ h))) (by decide +kernel))) (goodIn_sub (fun _ h => List.mem_cons_of_mem _ (List.mem_append_right _ h)) (by decide +kernel))
set_option maxRecDepth 20000 in
theorem gL_carry_X1_carry : GoodIn wsL_carry (wsV RL 70 RX1 yX1_carry wsX1_carry) := goodIn_app (goodIn_of _ (by decide +kernel)) ggL_carry_X1_carry
theorem dL_carry_0 : decode cL_carry 0 = .ok (.aload_n 0, 1) := by decide +kernel
theorem dL_carry_1 : decode cL_carry 1 = .ok (.iload_n 1, 1) := by decide +kernel
theorem dL_carry_2 : decode cL_carry 2 = .ok (.iload_n 2, 1) := by decide +kernel
theorem dL_carry_3 : decode cL_carry 3 = .ok (.invokevirtual 70, 3) := by decide +kernel
theorem dL_carry_6 : decode cL_carry 6 = .ok (.ireturn, 1) := by decide +kernel
theorem dL_carry_7 : decode cL_carry 7 = .ok (.astore_n 3, 1) := by decide +kernel
theorem dL_carry_8 : decode cL_carry 8 = .ok (.sipush (-10001), 3) := by decide +kernel
theorem dL_carry_11 : decode cL_carry 11 = .ok (.ireturn, 1) := by decide +kernel
theorem dL_carry_12 : decode cL_carry 12 = .ok (.astore_n 3, 1) := by decide +kernel
theorem dL_carry_13 : decode cL_carry 13 = .ok (.sipush (-10002), 3) := by decide +kernel
theorem dL_carry_16 : decode cL_carry 16 = .ok (.ireturn, 1) := by decide +kernel
set_option maxRecDepth 20000 in
theorem ggL_entitled_X1_entitled : GoodIn wsL_entitled wsX1_entitled := goodIn_ca (goodIn_ca (goodIn_r _ [9, 10, 11, 12, 8, 13, 14, 15, 16, 17, 18, 19, 20, 21, 22, 23, 24, 25, 26, 27, 28, 29, 30, 31, 32, 33, 34, 35, 36, 37, 38, 39, 40, 41, 42, 43, 44, 45, 46, 47, 48, 49, 50, 51, 52, 53, 54, 55, 56, 57, 58, 59, 60, 61, 62, 63, 64, 65, 66, 67, 68, 69, 70, 71, 72, 73, 74, 75, 76, 77, 78, 79, 80, 81, 82, 83, 84, 85] (by decide +kernel) (by decide +kernel)) (goodIn_sub (fun _ h => List.mem_cons_of_mem _ (List.mem_append_left _ (List.mem_append_right _ h))) (by decide +kernel))) (goodIn_sub (fun _ h => List.mem_cons_of_mem _ (List.mem_append_right _ h)) (by decide +kernel))
set_option maxRecDepth 20000 in
theorem gL_entitled_X1_entitled : GoodIn wsL_entitled (wsV RL 73 RX1 yX1_entitled wsX1_entitled) := goodIn_app (goodIn_of _ (by decide +kernel)) ggL_entitled_X1_entitled
theorem dL_entitled_0 : decode cL_entitled 0 = .ok (.aload_n 0, 1) := by decide +kernel
theorem dL_entitled_1 : decode cL_entitled 1 = .ok (.iload_n 1, 1) := by decide +kernel
theorem dL_entitled_2 : decode cL_entitled 2 = .ok (.iload_n 2, 1) := by decide +kernel
theorem dL_entitled_3 : decode cL_entitled 3 = .ok (.invokevirtual 73, 3) := by decide +kernel
theorem dL_entitled_6 : decode cL_entitled 6 = .ok (.lreturn, 1) := by decide +kernel
theorem dL_entitled_7 : decode cL_entitled 7 = .ok (.astore_n 3, 1) := by decide +kernel
theorem dL_entitled_8 : decode cL_entitled 8 = .ok (.ldc2_w 53, 3) := by decide +kernel
theorem dL_entitled_11 : decode cL_entitled 11 = .ok (.lreturn, 1) := by decide +kernel
theorem dL_entitled_12 : decode cL_entitled 12 = .ok (.astore_n 3, 1) := by decide +kernel
theorem dL_entitled_13 : decode cL_entitled 13 = .ok (.ldc2_w 55, 3) := by decide +kernel
theorem dL_entitled_16 : decode cL_entitled 16 = .ok (.lreturn, 1) := by decide +kernel
set_option maxRecDepth 20000 in
theorem ggL_upTo_X1_entitledUpTo : GoodIn wsL_upTo wsX1_entitledUpTo := goodIn_ca (goodIn_ca (goodIn_r _ [9, 10, 11, 12, 8, 13, 14, 15, 16, 17, 18, 19, 20, 21, 22, 23, 24, 25, 26, 27, 28, 29, 30, 31, 32, 33, 34, 35, 36, 37, 38, 39, 40, 41, 42, 43, 44, 45, 46, 47, 48, 49, 50, 51, 52, 53, 54, 55, 56, 57, 58, 59, 60, 61, 62, 63, 64, 65, 66, 67, 68, 69, 70, 71, 72, 73, 74, 75, 76, 77, 78, 79, 80, 81, 82, 83, 84, 85] (by decide +kernel) (by decide +kernel)) (goodIn_sub (fun _ h => List.mem_cons_of_mem _ (List.mem_append_left _ (List.mem_append_right _ h))) (by decide +kernel))) (goodIn_sub (fun _ h => List.mem_cons_of_mem _ (List.mem_append_right _ h)) (by decide +kernel))
set_option maxRecDepth 20000 in
theorem gL_upTo_X1_entitledUpTo : GoodIn wsL_upTo (wsV RL 76 RX1 yX1_entitledUpTo wsX1_entitledUpTo) := goodIn_app (goodIn_of _ (by decide +kernel)) ggL_upTo_X1_entitledUpTo
theorem dL_upTo_0 : decode cL_upTo 0 = .ok (.aload_n 0, 1) := by decide +kernel
theorem dL_upTo_1 : decode cL_upTo 1 = .ok (.iload_n 1, 1) := by decide +kernel
theorem dL_upTo_2 : decode cL_upTo 2 = .ok (.iload_n 2, 1) := by decide +kernel
theorem dL_upTo_3 : decode cL_upTo 3 = .ok (.invokevirtual 76, 3) := by decide +kernel
theorem dL_upTo_6 : decode cL_upTo 6 = .ok (.lreturn, 1) := by decide +kernel
theorem dL_upTo_7 : decode cL_upTo 7 = .ok (.astore_n 3, 1) := by decide +kernel
theorem dL_upTo_8 : decode cL_upTo 8 = .ok (.ldc2_w 53, 3) := by decide +kernel
theorem dL_upTo_11 : decode cL_upTo 11 = .ok (.lreturn, 1) := by decide +kernel
theorem dL_upTo_12 : decode cL_upTo 12 = .ok (.astore_n 3, 1) := by decide +kernel
theorem dL_upTo_13 : decode cL_upTo 13 = .ok (.ldc2_w 55, 3) := by decide +kernel
theorem dL_upTo_16 : decode cL_upTo 16 = .ok (.lreturn, 1) := by decide +kernel
set_option maxRecDepth 20000 in
theorem ggL_protection_X1_protection : GoodIn wsL_protection wsX1_protection := goodIn_ca (goodIn_r _ [7, 8, 9, 10, 6, 11, 12, 13, 14, 15, 16, 17, 18, 19, 20, 21, 22, 23, 24, 25, 26, 27, 28, 29, 30, 31, 32, 33, 34, 35, 36, 37, 38, 39, 40, 41, 42, 43, 44, 45, 46, 47, 48, 49, 50, 51, 52, 53, 54, 55, 56, 57, 58, 59, 60, 61, 62, 63, 64, 65, 66, 67, 68, 69, 70, 71] (by decide +kernel) (by decide +kernel)) (goodIn_sub (fun _ h => List.mem_cons_of_mem _ (List.mem_append_right _ h)) (by decide +kernel))
set_option maxRecDepth 20000 in
theorem gL_protection_X1_protection : GoodIn wsL_protection (wsV RL 79 RX1 yX1_protection wsX1_protection) := goodIn_app (goodIn_of _ (by decide +kernel)) ggL_protection_X1_protection
theorem dL_protection_0 : decode cL_protection 0 = .ok (.aload_n 0, 1) := by decide +kernel
theorem dL_protection_1 : decode cL_protection 1 = .ok (.iload_n 1, 1) := by decide +kernel
theorem dL_protection_2 : decode cL_protection 2 = .ok (.invokevirtual 79, 3) := by decide +kernel
theorem dL_protection_5 : decode cL_protection 5 = .ok (.lreturn, 1) := by decide +kernel
theorem dL_protection_6 : decode cL_protection 6 = .ok (.astore_n 2, 1) := by decide +kernel
theorem dL_protection_7 : decode cL_protection 7 = .ok (.ldc2_w 53, 3) := by decide +kernel
theorem dL_protection_10 : decode cL_protection 10 = .ok (.lreturn, 1) := by decide +kernel
set_option maxRecDepth 20000 in
theorem ggL_follows_L_full : GoodIn wsL_follows wsL_full := goodIn_ca (goodIn_ca (goodIn_r _ [5, 6, 7, 8, 9, 10, 11, 12, 13, 14, 15, 16, 17, 18, 19, 20, 21, 22, 23, 24, 25, 26, 27, 28, 29, 30, 31, 32, 33, 34, 112, 113, 114, 115, 116, 117, 118, 119, 120, 121, 122, 123, 124, 125, 126, 127, 128] (by decide +kernel) (by decide +kernel)) (goodIn_sub (fun _ h => List.mem_cons_of_mem _ (List.mem_append_left _ (List.mem_append_right _ h))) (by decide +kernel))) (goodIn_sub (fun _ h => List.mem_cons_of_mem _ (List.mem_append_right _ h)) (by decide +kernel))
set_option maxRecDepth 20000 in
theorem gL_follows_L_full : GoodIn wsL_follows (va_wsS RL 82 yL_full wsL_full) := goodIn_app (goodIn_of _ (by decide +kernel)) ggL_follows_L_full
set_option maxRecDepth 20000 in
theorem ggL_follows_L_carry : GoodIn wsL_follows wsL_carry := goodIn_ca (goodIn_ca (goodIn_r _ [37, 6, 7, 38, 39, 40, 11, 41, 13, 14, 15, 16, 17, 18, 19, 20, 21, 22, 23, 24, 25, 26, 27, 42, 43, 44, 31, 45, 33, 46, 112, 113, 114, 115, 116, 117, 118, 119, 120, 121, 122, 123, 124, 125, 126, 127, 128] (by decide +kernel) (by decide +kernel)) (goodIn_sub (fun _ h => List.mem_cons_of_mem _ (List.mem_append_left _ (List.mem_append_right _ h))) (by decide +kernel))) (goodIn_sub (fun _ h => List.mem_cons_of_mem _ (List.mem_append_right _ h)) (by decide +kernel))
set_option maxRecDepth 20000 in
theorem gL_follows_L_carry : GoodIn wsL_follows (va_wsS RL 88 yL_carry wsL_carry) := goodIn_app (goodIn_of _ (by decide +kernel)) ggL_follows_L_carry
set_option maxRecDepth 20000 in
theorem ggL_follows_L_entitled : GoodIn wsL_follows wsL_entitled := goodIn_ca (goodIn_ca (goodIn_r _ [49, 6, 7, 50, 1, 51, 52, 53, 11, 54, 13, 14, 15, 16, 17, 18, 19, 20, 21, 22, 23, 24, 25, 26, 27, 55, 56, 57, 31, 58, 59, 60, 61, 62, 33, 63, 64, 65, 66, 67, 68, 29, 30, 32, 34, 69, 70, 71, 72, 73, 74, 75, 76, 77, 78, 79, 80, 81, 82, 83, 84, 85, 86, 87, 88, 89, 90, 91, 92, 112, 113, 114, 115, 116, 117, 118, 119, 120, 121, 122, 123, 124, 125, 126, 127, 128] (by decide +kernel) (by decide +kernel)) (goodIn_sub (fun _ h => List.mem_cons_of_mem _ (List.mem_append_left _ (List.mem_append_right _ h))) (by decide +kernel))) (goodIn_sub (fun _ h => List.mem_cons_of_mem _ (List.mem_append_right _ h)) (by decide +kernel))
set_option maxRecDepth 20000 in
theorem gL_follows_L_entitled : GoodIn wsL_follows (va_wsS RL 90 yL_entitled wsL_entitled) := goodIn_app (goodIn_of _ (by decide +kernel)) ggL_follows_L_entitled
set_option maxRecDepth 20000 in
theorem ggL_follows_L_upTo : GoodIn wsL_follows wsL_upTo := goodIn_ca (goodIn_ca (goodIn_r _ [95, 6, 7, 50, 1, 96, 97, 98, 11, 99, 13, 14, 15, 16, 17, 18, 19, 20, 21, 22, 23, 24, 25, 26, 27, 100, 101, 102, 31, 103, 89, 90, 91, 92, 33, 59, 60, 61, 62, 63, 64, 65, 66, 67, 68, 29, 30, 32, 34, 69, 70, 71, 72, 73, 74, 75, 76, 77, 78, 79, 80, 81, 82, 83, 84, 85, 86, 87, 88, 112, 113, 114, 115, 116, 117, 118, 119, 120, 121, 122, 123, 124, 125, 126, 127, 128] (by decide +kernel) (by decide +kernel)) (goodIn_sub (fun _ h => List.mem_cons_of_mem _ (List.mem_append_left _ (List.mem_append_right _ h))) (by decide +kernel))) (goodIn_sub (fun _ h => List.mem_cons_of_mem _ (List.mem_append_right _ h)) (by decide +kernel))
set_option maxRecDepth 20000 in
theorem gL_follows_L_upTo : GoodIn wsL_follows (va_wsS RL 93 yL_upTo wsL_upTo) := goodIn_app (goodIn_of _ (by decide +kernel)) ggL_follows_L_upTo
set_option maxRecDepth 20000 in
theorem ggL_follows_L_protection : GoodIn wsL_follows wsL_protection := goodIn_ca (goodIn_r _ [106, 6, 50, 107, 108, 109, 11, 110, 13, 14, 15, 16, 17, 18, 19, 111, 81, 82, 31, 83, 84, 85, 67, 86, 87, 75, 88, 69, 70, 71, 72, 63, 73, 74, 76, 64, 77, 78, 79, 89, 90, 91, 92, 33, 59, 60, 61, 62, 65, 66, 68, 29, 30, 32, 34, 112, 113, 114, 115, 116, 117, 118, 119, 120, 121, 122, 123, 124, 125, 126, 127, 128] (by decide +kernel) (by decide +kernel)) (goodIn_sub (fun _ h => List.mem_cons_of_mem _ (List.mem_append_left _ (List.mem_append_right _ h))) (by decide +kernel))
set_option maxRecDepth 20000 in
theorem gL_follows_L_protection : GoodIn wsL_follows (va_wsS RL 96 yL_protection wsL_protection) := goodIn_app (goodIn_of _ (by decide +kernel)) ggL_follows_L_protection
theorem dL_follows_0 : decode cL_follows 0 = .ok (.lconst 0, 1) := by decide +kernel
theorem dL_follows_1 : decode cL_follows 1 = .ok (.lstore 6, 2) := by decide +kernel
theorem dL_follows_3 : decode cL_follows 3 = .ok (.iload_n 2, 1) := by decide +kernel
theorem dL_follows_4 : decode cL_follows 4 = .ok (.ifCond .eq 38, 3) := by decide +kernel
theorem dL_follows_7 : decode cL_follows 7 = .ok (.aload_n 0, 1) := by decide +kernel
theorem dL_follows_8 : decode cL_follows 8 = .ok (.iload_n 1, 1) := by decide +kernel
theorem dL_follows_9 : decode cL_follows 9 = .ok (.iload_n 2, 1) := by decide +kernel
theorem dL_follows_10 : decode cL_follows 10 = .ok (.iconst 1, 1) := by decide +kernel
theorem dL_follows_11 : decode cL_follows 11 = .ok (.isub, 1) := by decide +kernel
theorem dL_follows_12 : decode cL_follows 12 = .ok (.invokestatic 82, 3) := by decide +kernel
theorem dL_follows_15 : decode cL_follows 15 = .ok (.ifCond .ne 31, 3) := by decide +kernel
theorem dL_follows_18 : decode cL_follows 18 = .ok (.aload_n 0, 1) := by decide +kernel
theorem dL_follows_19 : decode cL_follows 19 = .ok (.iload_n 1, 1) := by decide +kernel
theorem dL_follows_20 : decode cL_follows 20 = .ok (.iload_n 2, 1) := by decide +kernel
theorem dL_follows_21 : decode cL_follows 21 = .ok (.iconst 1, 1) := by decide +kernel
theorem dL_follows_22 : decode cL_follows 22 = .ok (.isub, 1) := by decide +kernel
theorem dL_follows_23 : decode cL_follows 23 = .ok (.invokestatic 88, 3) := by decide +kernel
theorem dL_follows_26 : decode cL_follows 26 = .ok (.ifCond .ne 20, 3) := by decide +kernel
theorem dL_follows_29 : decode cL_follows 29 = .ok (.aload_n 0, 1) := by decide +kernel
theorem dL_follows_30 : decode cL_follows 30 = .ok (.iload_n 1, 1) := by decide +kernel
theorem dL_follows_31 : decode cL_follows 31 = .ok (.iload_n 2, 1) := by decide +kernel
theorem dL_follows_32 : decode cL_follows 32 = .ok (.iconst 1, 1) := by decide +kernel
theorem dL_follows_33 : decode cL_follows 33 = .ok (.isub, 1) := by decide +kernel
theorem dL_follows_34 : decode cL_follows 34 = .ok (.invokestatic 90, 3) := by decide +kernel
theorem dL_follows_37 : decode cL_follows 37 = .ok (.lconst 0, 1) := by decide +kernel
theorem dL_follows_38 : decode cL_follows 38 = .ok (.lcmp, 1) := by decide +kernel
theorem dL_follows_39 : decode cL_follows 39 = .ok (.ifCond .ne 7, 3) := by decide +kernel
theorem dL_follows_42 : decode cL_follows 42 = .ok (.iconst 1, 1) := by decide +kernel
theorem dL_follows_43 : decode cL_follows 43 = .ok (.goto 4, 3) := by decide +kernel
theorem dL_follows_46 : decode cL_follows 46 = .ok (.iconst 0, 1) := by decide +kernel
theorem dL_follows_47 : decode cL_follows 47 = .ok (.istore 8, 2) := by decide +kernel
theorem dL_follows_49 : decode cL_follows 49 = .ok (.iload 8, 2) := by decide +kernel
theorem dL_follows_51 : decode cL_follows 51 = .ok (.ifCond .eq 25, 3) := by decide +kernel
theorem dL_follows_54 : decode cL_follows 54 = .ok (.aload_n 0, 1) := by decide +kernel
theorem dL_follows_55 : decode cL_follows 55 = .ok (.iload_n 1, 1) := by decide +kernel
theorem dL_follows_56 : decode cL_follows 56 = .ok (.iload_n 2, 1) := by decide +kernel
theorem dL_follows_57 : decode cL_follows 57 = .ok (.invokestatic 88, 3) := by decide +kernel
theorem dL_follows_60 : decode cL_follows 60 = .ok (.ifCond .ne 16, 3) := by decide +kernel
theorem dL_follows_63 : decode cL_follows 63 = .ok (.aload_n 0, 1) := by decide +kernel
theorem dL_follows_64 : decode cL_follows 64 = .ok (.iload_n 1, 1) := by decide +kernel
theorem dL_follows_65 : decode cL_follows 65 = .ok (.iload_n 2, 1) := by decide +kernel
theorem dL_follows_66 : decode cL_follows 66 = .ok (.invokestatic 82, 3) := by decide +kernel
theorem dL_follows_69 : decode cL_follows 69 = .ok (.ifCond .le 7, 3) := by decide +kernel
theorem dL_follows_72 : decode cL_follows 72 = .ok (.iconst 1, 1) := by decide +kernel
theorem dL_follows_73 : decode cL_follows 73 = .ok (.goto 4, 3) := by decide +kernel
theorem dL_follows_76 : decode cL_follows 76 = .ok (.iconst 0, 1) := by decide +kernel
theorem dL_follows_77 : decode cL_follows 77 = .ok (.istore 8, 2) := by decide +kernel
theorem dL_follows_79 : decode cL_follows 79 = .ok (.iconst 0, 1) := by decide +kernel
theorem dL_follows_80 : decode cL_follows 80 = .ok (.istore 9, 2) := by decide +kernel
theorem dL_follows_82 : decode cL_follows 82 = .ok (.iconst 0, 1) := by decide +kernel
theorem dL_follows_83 : decode cL_follows 83 = .ok (.istore 10, 2) := by decide +kernel
theorem dL_follows_85 : decode cL_follows 85 = .ok (.iload 10, 2) := by decide +kernel
theorem dL_follows_87 : decode cL_follows 87 = .ok (.sipush 240, 3) := by decide +kernel
theorem dL_follows_90 : decode cL_follows 90 = .ok (.if_icmp .ge 294, 3) := by decide +kernel
theorem dL_follows_93 : decode cL_follows 93 = .ok (.iload 8, 2) := by decide +kernel
theorem dL_follows_95 : decode cL_follows 95 = .ok (.ifCond .eq 289, 3) := by decide +kernel
theorem dL_follows_98 : decode cL_follows 98 = .ok (.aload_n 0, 1) := by decide +kernel
theorem dL_follows_99 : decode cL_follows 99 = .ok (.iload_n 1, 1) := by decide +kernel
theorem dL_follows_100 : decode cL_follows 100 = .ok (.iload 10, 2) := by decide +kernel
theorem dL_follows_102 : decode cL_follows 102 = .ok (.invokestatic 82, 3) := by decide +kernel
theorem dL_follows_105 : decode cL_follows 105 = .ok (.istore 11, 2) := by decide +kernel
theorem dL_follows_107 : decode cL_follows 107 = .ok (.aload_n 0, 1) := by decide +kernel
theorem dL_follows_108 : decode cL_follows 108 = .ok (.iload_n 1, 1) := by decide +kernel
theorem dL_follows_109 : decode cL_follows 109 = .ok (.iload 10, 2) := by decide +kernel
theorem dL_follows_111 : decode cL_follows 111 = .ok (.invokestatic 88, 3) := by decide +kernel
theorem dL_follows_114 : decode cL_follows 114 = .ok (.istore 12, 2) := by decide +kernel
theorem dL_follows_116 : decode cL_follows 116 = .ok (.aload_n 0, 1) := by decide +kernel
theorem dL_follows_117 : decode cL_follows 117 = .ok (.iload_n 1, 1) := by decide +kernel
theorem dL_follows_118 : decode cL_follows 118 = .ok (.iload 10, 2) := by decide +kernel
theorem dL_follows_120 : decode cL_follows 120 = .ok (.invokestatic 90, 3) := by decide +kernel
theorem dL_follows_123 : decode cL_follows 123 = .ok (.lstore 13, 2) := by decide +kernel
theorem dL_follows_125 : decode cL_follows 125 = .ok (.iload 10, 2) := by decide +kernel
theorem dL_follows_127 : decode cL_follows 127 = .ok (.iload_n 2, 1) := by decide +kernel
theorem dL_follows_128 : decode cL_follows 128 = .ok (.if_icmp .le 164, 3) := by decide +kernel
theorem dL_follows_131 : decode cL_follows 131 = .ok (.aload_n 0, 1) := by decide +kernel
theorem dL_follows_132 : decode cL_follows 132 = .ok (.iload_n 1, 1) := by decide +kernel
theorem dL_follows_133 : decode cL_follows 133 = .ok (.iload 10, 2) := by decide +kernel
theorem dL_follows_135 : decode cL_follows 135 = .ok (.iconst 1, 1) := by decide +kernel
theorem dL_follows_136 : decode cL_follows 136 = .ok (.isub, 1) := by decide +kernel
theorem dL_follows_137 : decode cL_follows 137 = .ok (.invokestatic 82, 3) := by decide +kernel
theorem dL_follows_140 : decode cL_follows 140 = .ok (.istore 15, 2) := by decide +kernel
theorem dL_follows_142 : decode cL_follows 142 = .ok (.aload_n 0, 1) := by decide +kernel
theorem dL_follows_143 : decode cL_follows 143 = .ok (.iload_n 1, 1) := by decide +kernel
theorem dL_follows_144 : decode cL_follows 144 = .ok (.iload 10, 2) := by decide +kernel
theorem dL_follows_146 : decode cL_follows 146 = .ok (.iconst 1, 1) := by decide +kernel
theorem dL_follows_147 : decode cL_follows 147 = .ok (.isub, 1) := by decide +kernel
theorem dL_follows_148 : decode cL_follows 148 = .ok (.invokestatic 88, 3) := by decide +kernel
theorem dL_follows_151 : decode cL_follows 151 = .ok (.istore 16, 2) := by decide +kernel
theorem dL_follows_153 : decode cL_follows 153 = .ok (.iload 10, 2) := by decide +kernel
theorem dL_follows_155 : decode cL_follows 155 = .ok (.iload_n 2, 1) := by decide +kernel
theorem dL_follows_156 : decode cL_follows 156 = .ok (.isub, 1) := by decide +kernel
theorem dL_follows_157 : decode cL_follows 157 = .ok (.bipush 12, 2) := by decide +kernel
theorem dL_follows_159 : decode cL_follows 159 = .ok (.irem, 1) := by decide +kernel
theorem dL_follows_160 : decode cL_follows 160 = .ok (.ifCond .ne 7, 3) := by decide +kernel
theorem dL_follows_163 : decode cL_follows 163 = .ok (.iconst 1, 1) := by decide +kernel
theorem dL_follows_164 : decode cL_follows 164 = .ok (.goto 4, 3) := by decide +kernel
theorem dL_follows_167 : decode cL_follows 167 = .ok (.iconst 0, 1) := by decide +kernel
theorem dL_follows_168 : decode cL_follows 168 = .ok (.istore 17, 2) := by decide +kernel
theorem dL_follows_170 : decode cL_follows 170 = .ok (.iload 16, 2) := by decide +kernel
theorem dL_follows_172 : decode cL_follows 172 = .ok (.aload 5, 2) := by decide +kernel
theorem dL_follows_174 : decode cL_follows 174 = .ok (.iload 10, 2) := by decide +kernel
theorem dL_follows_176 : decode cL_follows 176 = .ok (.bipush 12, 2) := by decide +kernel
theorem dL_follows_178 : decode cL_follows 178 = .ok (.idiv, 1) := by decide +kernel
theorem dL_follows_179 : decode cL_follows 179 = .ok (.iload 10, 2) := by decide +kernel
theorem dL_follows_181 : decode cL_follows 181 = .ok (.bipush 12, 2) := by decide +kernel
theorem dL_follows_183 : decode cL_follows 183 = .ok (.idiv, 1) := by decide +kernel
theorem dL_follows_184 : decode cL_follows 184 = .ok (.ifCond .le 7, 3) := by decide +kernel
theorem dL_follows_187 : decode cL_follows 187 = .ok (.iconst 1, 1) := by decide +kernel
theorem dL_follows_188 : decode cL_follows 188 = .ok (.goto 4, 3) := by decide +kernel
theorem dL_follows_191 : decode cL_follows 191 = .ok (.iconst 0, 1) := by decide +kernel
theorem dL_follows_192 : decode cL_follows 192 = .ok (.isub, 1) := by decide +kernel
theorem dL_follows_193 : decode cL_follows 193 = .ok (.iaload, 1) := by decide +kernel
theorem dL_follows_194 : decode cL_follows 194 = .ok (.iadd, 1) := by decide +kernel
theorem dL_follows_195 : decode cL_follows 195 = .ok (.istore 18, 2) := by decide +kernel
theorem dL_follows_197 : decode cL_follows 197 = .ok (.iload 18, 2) := by decide +kernel
theorem dL_follows_199 : decode cL_follows 199 = .ok (.iload_n 3, 1) := by decide +kernel
theorem dL_follows_200 : decode cL_follows 200 = .ok (.if_icmp .le 7, 3) := by decide +kernel
theorem dL_follows_203 : decode cL_follows 203 = .ok (.iload_n 3, 1) := by decide +kernel
theorem dL_follows_204 : decode cL_follows 204 = .ok (.goto 14, 3) := by decide +kernel
theorem dL_follows_207 : decode cL_follows 207 = .ok (.iload 18, 2) := by decide +kernel
theorem dL_follows_209 : decode cL_follows 209 = .ok (.ifCond .ge 7, 3) := by decide +kernel
theorem dL_follows_212 : decode cL_follows 212 = .ok (.iconst 0, 1) := by decide +kernel
theorem dL_follows_213 : decode cL_follows 213 = .ok (.goto 5, 3) := by decide +kernel
theorem dL_follows_216 : decode cL_follows 216 = .ok (.iload 18, 2) := by decide +kernel
theorem dL_follows_218 : decode cL_follows 218 = .ok (.istore 18, 2) := by decide +kernel
theorem dL_follows_220 : decode cL_follows 220 = .ok (.iload 17, 2) := by decide +kernel
theorem dL_follows_222 : decode cL_follows 222 = .ok (.ifCond .eq 49, 3) := by decide +kernel
theorem dL_follows_225 : decode cL_follows 225 = .ok (.iload 11, 2) := by decide +kernel
theorem dL_follows_227 : decode cL_follows 227 = .ok (.iload 15, 2) := by decide +kernel
theorem dL_follows_229 : decode cL_follows 229 = .ok (.iload 15, 2) := by decide +kernel
theorem dL_follows_231 : decode cL_follows 231 = .ok (.iload 18, 2) := by decide +kernel
theorem dL_follows_233 : decode cL_follows 233 = .ok (.imul, 1) := by decide +kernel
theorem dL_follows_234 : decode cL_follows 234 = .ok (.sipush 1000, 3) := by decide +kernel
theorem dL_follows_237 : decode cL_follows 237 = .ok (.idiv, 1) := by decide +kernel
theorem dL_follows_238 : decode cL_follows 238 = .ok (.iadd, 1) := by decide +kernel
theorem dL_follows_239 : decode cL_follows 239 = .ok (.if_icmp .ne 28, 3) := by decide +kernel
theorem dL_follows_242 : decode cL_follows 242 = .ok (.iload 12, 2) := by decide +kernel
theorem dL_follows_244 : decode cL_follows 244 = .ok (.iload 16, 2) := by decide +kernel
theorem dL_follows_246 : decode cL_follows 246 = .ok (.aload 5, 2) := by decide +kernel
theorem dL_follows_248 : decode cL_follows 248 = .ok (.iload 10, 2) := by decide +kernel
theorem dL_follows_250 : decode cL_follows 250 = .ok (.bipush 12, 2) := by decide +kernel
theorem dL_follows_252 : decode cL_follows 252 = .ok (.idiv, 1) := by decide +kernel
theorem dL_follows_253 : decode cL_follows 253 = .ok (.iconst 1, 1) := by decide +kernel
theorem dL_follows_254 : decode cL_follows 254 = .ok (.isub, 1) := by decide +kernel
theorem dL_follows_255 : decode cL_follows 255 = .ok (.iaload, 1) := by decide +kernel
theorem dL_follows_256 : decode cL_follows 256 = .ok (.iadd, 1) := by decide +kernel
theorem dL_follows_257 : decode cL_follows 257 = .ok (.iload 18, 2) := by decide +kernel
theorem dL_follows_259 : decode cL_follows 259 = .ok (.isub, 1) := by decide +kernel
theorem dL_follows_260 : decode cL_follows 260 = .ok (.if_icmp .ne 7, 3) := by decide +kernel
theorem dL_follows_263 : decode cL_follows 263 = .ok (.iconst 1, 1) := by decide +kernel
theorem dL_follows_264 : decode cL_follows 264 = .ok (.goto 26, 3) := by decide +kernel
theorem dL_follows_267 : decode cL_follows 267 = .ok (.iconst 0, 1) := by decide +kernel
theorem dL_follows_268 : decode cL_follows 268 = .ok (.goto 22, 3) := by decide +kernel
theorem dL_follows_271 : decode cL_follows 271 = .ok (.iload 11, 2) := by decide +kernel
theorem dL_follows_273 : decode cL_follows 273 = .ok (.iload 15, 2) := by decide +kernel
theorem dL_follows_275 : decode cL_follows 275 = .ok (.if_icmp .ne 14, 3) := by decide +kernel
theorem dL_follows_278 : decode cL_follows 278 = .ok (.iload 12, 2) := by decide +kernel
theorem dL_follows_280 : decode cL_follows 280 = .ok (.iload 16, 2) := by decide +kernel
theorem dL_follows_282 : decode cL_follows 282 = .ok (.if_icmp .ne 7, 3) := by decide +kernel
theorem dL_follows_285 : decode cL_follows 285 = .ok (.iconst 1, 1) := by decide +kernel
theorem dL_follows_286 : decode cL_follows 286 = .ok (.goto 4, 3) := by decide +kernel
theorem dL_follows_289 : decode cL_follows 289 = .ok (.iconst 0, 1) := by decide +kernel
theorem dL_follows_290 : decode cL_follows 290 = .ok (.istore 8, 2) := by decide +kernel
theorem dL_follows_292 : decode cL_follows 292 = .ok (.lload 6, 2) := by decide +kernel
theorem dL_follows_294 : decode cL_follows 294 = .ok (.lload 13, 2) := by decide +kernel
theorem dL_follows_296 : decode cL_follows 296 = .ok (.ladd, 1) := by decide +kernel
theorem dL_follows_297 : decode cL_follows 297 = .ok (.lstore 6, 2) := by decide +kernel
theorem dL_follows_299 : decode cL_follows 299 = .ok (.iload 8, 2) := by decide +kernel
theorem dL_follows_301 : decode cL_follows 301 = .ok (.ifCond .eq 27, 3) := by decide +kernel
theorem dL_follows_304 : decode cL_follows 304 = .ok (.aload_n 0, 1) := by decide +kernel
theorem dL_follows_305 : decode cL_follows 305 = .ok (.iload_n 1, 1) := by decide +kernel
theorem dL_follows_306 : decode cL_follows 306 = .ok (.iload 10, 2) := by decide +kernel
theorem dL_follows_308 : decode cL_follows 308 = .ok (.invokestatic 93, 3) := by decide +kernel
theorem dL_follows_311 : decode cL_follows 311 = .ok (.lload 6, 2) := by decide +kernel
theorem dL_follows_313 : decode cL_follows 313 = .ok (.lcmp, 1) := by decide +kernel
theorem dL_follows_314 : decode cL_follows 314 = .ok (.ifCond .ne 14, 3) := by decide +kernel
theorem dL_follows_317 : decode cL_follows 317 = .ok (.lload 13, 2) := by decide +kernel
theorem dL_follows_319 : decode cL_follows 319 = .ok (.lconst 0, 1) := by decide +kernel
theorem dL_follows_320 : decode cL_follows 320 = .ok (.lcmp, 1) := by decide +kernel
theorem dL_follows_321 : decode cL_follows 321 = .ok (.ifCond .lt 7, 3) := by decide +kernel
theorem dL_follows_324 : decode cL_follows 324 = .ok (.iconst 1, 1) := by decide +kernel
theorem dL_follows_325 : decode cL_follows 325 = .ok (.goto 4, 3) := by decide +kernel
theorem dL_follows_328 : decode cL_follows 328 = .ok (.iconst 0, 1) := by decide +kernel
theorem dL_follows_329 : decode cL_follows 329 = .ok (.istore 8, 2) := by decide +kernel
theorem dL_follows_331 : decode cL_follows 331 = .ok (.iload 9, 2) := by decide +kernel
theorem dL_follows_333 : decode cL_follows 333 = .ok (.iload 10, 2) := by decide +kernel
theorem dL_follows_335 : decode cL_follows 335 = .ok (.iload_n 2, 1) := by decide +kernel
theorem dL_follows_336 : decode cL_follows 336 = .ok (.if_icmp .lt 38, 3) := by decide +kernel
theorem dL_follows_339 : decode cL_follows 339 = .ok (.lload 13, 2) := by decide +kernel
theorem dL_follows_341 : decode cL_follows 341 = .ok (.lconst 0, 1) := by decide +kernel
theorem dL_follows_342 : decode cL_follows 342 = .ok (.lcmp, 1) := by decide +kernel
theorem dL_follows_343 : decode cL_follows 343 = .ok (.ifCond .eq 31, 3) := by decide +kernel
theorem dL_follows_346 : decode cL_follows 346 = .ok (.lload 13, 2) := by decide +kernel
theorem dL_follows_348 : decode cL_follows 348 = .ok (.iload 11, 2) := by decide +kernel
theorem dL_follows_350 : decode cL_follows 350 = .ok (.i2l, 1) := by decide +kernel
theorem dL_follows_351 : decode cL_follows 351 = .ok (.lcmp, 1) := by decide +kernel
theorem dL_follows_352 : decode cL_follows 352 = .ok (.ifCond .eq 22, 3) := by decide +kernel
theorem dL_follows_355 : decode cL_follows 355 = .ok (.lload 13, 2) := by decide +kernel
theorem dL_follows_357 : decode cL_follows 357 = .ok (.iload 11, 2) := by decide +kernel
theorem dL_follows_359 : decode cL_follows 359 = .ok (.iload 4, 2) := by decide +kernel
theorem dL_follows_361 : decode cL_follows 361 = .ok (.imul, 1) := by decide +kernel
theorem dL_follows_362 : decode cL_follows 362 = .ok (.bipush 100, 2) := by decide +kernel
theorem dL_follows_364 : decode cL_follows 364 = .ok (.idiv, 1) := by decide +kernel
theorem dL_follows_365 : decode cL_follows 365 = .ok (.i2l, 1) := by decide +kernel
theorem dL_follows_366 : decode cL_follows 366 = .ok (.lcmp, 1) := by decide +kernel
theorem dL_follows_367 : decode cL_follows 367 = .ok (.ifCond .eq 7, 3) := by decide +kernel
theorem dL_follows_370 : decode cL_follows 370 = .ok (.iconst 1, 1) := by decide +kernel
theorem dL_follows_371 : decode cL_follows 371 = .ok (.goto 4, 3) := by decide +kernel
theorem dL_follows_374 : decode cL_follows 374 = .ok (.iconst 0, 1) := by decide +kernel
theorem dL_follows_375 : decode cL_follows 375 = .ok (.iadd, 1) := by decide +kernel
theorem dL_follows_376 : decode cL_follows 376 = .ok (.istore 9, 2) := by decide +kernel
theorem dL_follows_378 : decode cL_follows 378 = .ok (.iinc 10 1, 3) := by decide +kernel
theorem dL_follows_381 : decode cL_follows 381 = .ok (.goto (-296), 3) := by decide +kernel
theorem dL_follows_384 : decode cL_follows 384 = .ok (.iload 8, 2) := by decide +kernel
theorem dL_follows_386 : decode cL_follows 386 = .ok (.ifCond .eq 75, 3) := by decide +kernel
theorem dL_follows_389 : decode cL_follows 389 = .ok (.iload 9, 2) := by decide +kernel
theorem dL_follows_391 : decode cL_follows 391 = .ok (.iconst 1, 1) := by decide +kernel
theorem dL_follows_392 : decode cL_follows 392 = .ok (.if_icmp .gt 69, 3) := by decide +kernel
theorem dL_follows_395 : decode cL_follows 395 = .ok (.aload_n 0, 1) := by decide +kernel
theorem dL_follows_396 : decode cL_follows 396 = .ok (.iload_n 1, 1) := by decide +kernel
theorem dL_follows_397 : decode cL_follows 397 = .ok (.invokestatic 96, 3) := by decide +kernel
theorem dL_follows_400 : decode cL_follows 400 = .ok (.lconst 0, 1) := by decide +kernel
theorem dL_follows_401 : decode cL_follows 401 = .ok (.lcmp, 1) := by decide +kernel
theorem dL_follows_402 : decode cL_follows 402 = .ok (.ifCond .lt 59, 3) := by decide +kernel
theorem dL_follows_405 : decode cL_follows 405 = .ok (.aload_n 0, 1) := by decide +kernel
theorem dL_follows_406 : decode cL_follows 406 = .ok (.iload_n 1, 1) := by decide +kernel
theorem dL_follows_407 : decode cL_follows 407 = .ok (.invokestatic 96, 3) := by decide +kernel
theorem dL_follows_410 : decode cL_follows 410 = .ok (.lload 6, 2) := by decide +kernel
theorem dL_follows_412 : decode cL_follows 412 = .ok (.lcmp, 1) := by decide +kernel
theorem dL_follows_413 : decode cL_follows 413 = .ok (.ifCond .gt 48, 3) := by decide +kernel
theorem dL_follows_416 : decode cL_follows 416 = .ok (.aload_n 0, 1) := by decide +kernel
theorem dL_follows_417 : decode cL_follows 417 = .ok (.iload_n 1, 1) := by decide +kernel
theorem dL_follows_418 : decode cL_follows 418 = .ok (.sipush 240, 3) := by decide +kernel
theorem dL_follows_421 : decode cL_follows 421 = .ok (.invokestatic 82, 3) := by decide +kernel
theorem dL_follows_424 : decode cL_follows 424 = .ok (.bipush (-102), 2) := by decide +kernel
theorem dL_follows_426 : decode cL_follows 426 = .ok (.if_icmp .ne 35, 3) := by decide +kernel
theorem dL_follows_429 : decode cL_follows 429 = .ok (.aload_n 0, 1) := by decide +kernel
theorem dL_follows_430 : decode cL_follows 430 = .ok (.iload_n 1, 1) := by decide +kernel
theorem dL_follows_431 : decode cL_follows 431 = .ok (.iconst (-1), 1) := by decide +kernel
theorem dL_follows_432 : decode cL_follows 432 = .ok (.invokestatic 90, 3) := by decide +kernel
theorem dL_follows_435 : decode cL_follows 435 = .ok (.ldc2_w 55, 3) := by decide +kernel
theorem dL_follows_438 : decode cL_follows 438 = .ok (.lcmp, 1) := by decide +kernel
theorem dL_follows_439 : decode cL_follows 439 = .ok (.ifCond .ne 22, 3) := by decide +kernel
theorem dL_follows_442 : decode cL_follows 442 = .ok (.aload_n 0, 1) := by decide +kernel
theorem dL_follows_443 : decode cL_follows 443 = .ok (.iload_n 1, 1) := by decide +kernel
theorem dL_follows_444 : decode cL_follows 444 = .ok (.sipush 240, 3) := by decide +kernel
theorem dL_follows_447 : decode cL_follows 447 = .ok (.invokestatic 93, 3) := by decide +kernel
theorem dL_follows_450 : decode cL_follows 450 = .ok (.ldc2_w 55, 3) := by decide +kernel
theorem dL_follows_453 : decode cL_follows 453 = .ok (.lcmp, 1) := by decide +kernel
theorem dL_follows_454 : decode cL_follows 454 = .ok (.ifCond .ne 7, 3) := by decide +kernel
theorem dL_follows_457 : decode cL_follows 457 = .ok (.iconst 1, 1) := by decide +kernel
theorem dL_follows_458 : decode cL_follows 458 = .ok (.goto 4, 3) := by decide +kernel
theorem dL_follows_461 : decode cL_follows 461 = .ok (.iconst 0, 1) := by decide +kernel
theorem dL_follows_462 : decode cL_follows 462 = .ok (.ireturn, 1) := by decide +kernel
set_option maxRecDepth 20000 in
theorem ggL_law_X1_init : GoodIn wsL_law wsX1_init := goodIn_r _ [13, 14, 15, 16, 17, 18, 3, 19, 20, 21, 268, 269, 270, 271] (by decide +kernel) (by decide +kernel)
set_option maxRecDepth 20000 in
theorem gL_law_X1_init : GoodIn wsL_law (wsX1_init) := ggL_law_X1_init
set_option maxRecDepth 20000 in
theorem ggL_law_X1_month : GoodIn wsL_law wsX1_month := goodIn_r _ [25, 21, 268, 269, 270, 271] (by decide +kernel) (by decide +kernel)
set_option maxRecDepth 20000 in
theorem gL_law_X1_month : GoodIn wsL_law (wsV RL 100 RX1 yX1_month wsX1_month) := goodIn_app (goodIn_of _ (by decide +kernel)) ggL_law_X1_month
set_option maxRecDepth 20000 in
theorem ggL_law_L_paidAll : GoodIn wsL_law wsL_paidAll := goodIn_ca (goodIn_r _ [29, 30, 4, 31, 32, 33, 2, 34, 35, 36, 37, 38, 39, 40, 41, 18, 272, 273, 274, 275, 276, 277, 278, 279, 280, 281, 282, 283, 284, 268, 269, 270, 271] (by decide +kernel) (by decide +kernel)) (goodIn_sub (fun _ h => List.mem_append_left _ (List.mem_append_left _ (List.mem_append_right _ h))) (by decide +kernel))
set_option maxRecDepth 20000 in
theorem gL_law_L_paidAll : GoodIn wsL_law (va_wsS RL 104 yL_paidAll wsL_paidAll) := goodIn_app (goodIn_of _ (by decide +kernel)) ggL_law_L_paidAll
set_option maxRecDepth 20000 in
theorem ggL_law_L_owes : GoodIn wsL_law wsL_owes := goodIn_ca (goodIn_r _ [44, 30, 4, 45, 46, 47, 2, 48, 21, 36, 37, 38, 39, 40, 41, 18, 49, 50, 51, 52, 53, 54, 55, 56, 57, 58, 59, 60, 61, 62, 63, 64, 65, 66, 67, 68, 69, 70, 71, 72, 73, 74, 75, 76, 77, 78, 79, 80, 81, 82, 83, 84, 85, 86, 87, 88, 89, 90, 91, 92, 93, 94, 95, 96, 97, 268, 269, 270, 271, 272, 273, 274, 275, 276, 277, 278, 279, 280, 281, 282, 283, 284] (by decide +kernel) (by decide +kernel)) (goodIn_sub (fun _ h => List.mem_append_left _ (List.mem_append_left _ (List.mem_append_right _ h))) (by decide +kernel))
set_option maxRecDepth 20000 in
theorem gL_law_L_owes : GoodIn wsL_law (va_wsS RL 107 yL_owes wsL_owes) := goodIn_app (goodIn_of _ (by decide +kernel)) ggL_law_L_owes
set_option maxRecDepth 20000 in
theorem ggL_law_L_protection : GoodIn wsL_law wsL_protection := goodIn_ca (goodIn_r _ [100, 30, 4, 101, 102, 103, 2, 104, 36, 37, 38, 39, 40, 41, 18, 105, 93, 94, 52, 95, 96, 97, 76, 55, 56, 57, 58, 82, 83, 84, 85, 72, 86, 87, 88, 73, 89, 90, 91, 63, 64, 65, 66, 67, 68, 69, 70, 71, 74, 75, 77, 78, 79, 80, 81, 268, 269, 270, 271, 272, 273, 274, 275, 276, 277, 278, 279, 280, 281, 282, 283, 284] (by decide +kernel) (by decide +kernel)) (goodIn_sub (fun _ h => List.mem_append_left _ (List.mem_append_left _ (List.mem_append_right _ h))) (by decide +kernel))
set_option maxRecDepth 20000 in
theorem gL_law_L_protection : GoodIn wsL_law (va_wsS RL 96 yL_protection wsL_protection) := goodIn_app (goodIn_of _ (by decide +kernel)) ggL_law_L_protection
set_option maxRecDepth 20000 in
theorem ggL_law_L_cell : GoodIn wsL_law wsL_cell := goodIn_r _ [108, 109, 110] (by decide +kernel) (by decide +kernel)
set_option maxRecDepth 20000 in
theorem gL_law_L_cell : GoodIn wsL_law (va_wsS RL 109 yL_cell wsL_cell) := goodIn_app (goodIn_of _ (by decide +kernel)) ggL_law_L_cell
set_option maxRecDepth 20000 in
theorem ggL_law_L_add : GoodIn wsL_law wsL_add := goodIn_ca (goodIn_ca (goodIn_r _ [113, 114, 115, 116, 117, 118, 2, 119, 120, 121, 21, 122, 20, 18, 17, 123, 52, 19, 124, 125, 126, 127, 128, 129, 130, 131, 132, 15, 16, 67, 133, 73, 75, 74, 134, 96, 97, 3, 72, 81, 135, 136, 137, 54, 138, 139, 140, 141, 89, 90, 57, 91, 86, 87, 88, 268, 269, 270, 271, 272, 273, 274, 275, 276, 277, 278, 279, 280, 281, 282, 283, 284] (by decide +kernel) (by decide +kernel)) (goodIn_sub (fun _ h => List.mem_append_left _ (List.mem_append_right _ h)) (by decide +kernel))) (goodIn_sub (fun _ h => List.mem_append_right _ h) (by decide +kernel))
set_option maxRecDepth 20000 in
theorem gL_law_L_add : GoodIn wsL_law (va_wsS RL 114 yL_add wsL_add) := goodIn_app (goodIn_of _ (by decide +kernel)) ggL_law_L_add
set_option maxRecDepth 20000 in
theorem ggL_law_L_cap : GoodIn wsL_law wsL_cap := goodIn_ca (goodIn_ca (goodIn_ca (goodIn_r _ [144, 30, 114, 115, 145, 146, 147, 2, 148, 149, 19, 36, 37, 38, 39, 40, 41, 18, 124, 125, 126, 127, 128, 150, 151, 152, 153, 120, 121, 154, 21, 138, 139, 140, 52, 141, 133, 81, 135, 67, 134, 89, 90, 57, 91, 86, 87, 88, 272, 273, 274, 275, 276, 277, 278, 279, 280, 281, 282, 283, 284, 268, 269, 270, 271] (by decide +kernel) (by decide +kernel)) (goodIn_sub (fun _ h => List.mem_append_left _ (List.mem_append_left _ (List.mem_append_right _ h))) (by decide +kernel))) (goodIn_sub (fun _ h => List.mem_append_right _ h) (by decide +kernel))) (goodIn_sub (fun _ h => List.mem_append_left _ (List.mem_append_right _ h)) (by decide +kernel))
set_option maxRecDepth 20000 in
theorem gL_law_L_cap : GoodIn wsL_law (va_wsS RL 117 yL_cap wsL_cap) := goodIn_app (goodIn_of _ (by decide +kernel)) ggL_law_L_cap
set_option maxRecDepth 20000 in
theorem ggL_law_L_survivor : GoodIn wsL_law wsL_survivor := goodIn_ca (goodIn_ca (goodIn_ca (goodIn_r _ [157, 30, 114, 115, 158, 159, 160, 2, 161, 162, 163, 36, 37, 38, 39, 40, 41, 18, 124, 125, 126, 127, 128, 150, 151, 152, 153, 120, 121, 154, 21, 272, 273, 274, 275, 276, 277, 278, 279, 280, 281, 282, 283, 284, 268, 269, 270, 271] (by decide +kernel) (by decide +kernel)) (goodIn_sub (fun _ h => List.mem_append_left _ (List.mem_append_left _ (List.mem_append_right _ h))) (by decide +kernel))) (goodIn_sub (fun _ h => List.mem_append_right _ h) (by decide +kernel))) (goodIn_sub (fun _ h => List.mem_append_left _ (List.mem_append_right _ h)) (by decide +kernel))
set_option maxRecDepth 20000 in
theorem gL_law_L_survivor : GoodIn wsL_law (va_wsS RL 120 yL_survivor wsL_survivor) := goodIn_app (goodIn_of _ (by decide +kernel)) ggL_law_L_survivor
set_option maxRecDepth 20000 in
theorem ggL_law_L_protect : GoodIn wsL_law wsL_protect := goodIn_ca (goodIn_ca (goodIn_ca (goodIn_r _ [166, 30, 114, 115, 167, 168, 169, 2, 170, 171, 172, 173, 36, 37, 38, 39, 40, 41, 18, 124, 125, 126, 127, 128, 150, 151, 152, 153, 120, 121, 154, 21, 272, 273, 274, 275, 276, 277, 278, 279, 280, 281, 282, 283, 284, 268, 269, 270, 271] (by decide +kernel) (by decide +kernel)) (goodIn_sub (fun _ h => List.mem_append_left _ (List.mem_append_left _ (List.mem_append_right _ h))) (by decide +kernel))) (goodIn_sub (fun _ h => List.mem_append_right _ h) (by decide +kernel))) (goodIn_sub (fun _ h => List.mem_append_left _ (List.mem_append_right _ h)) (by decide +kernel))
set_option maxRecDepth 20000 in
theorem gL_law_L_protect : GoodIn wsL_law (va_wsS RL 125 yL_protect wsL_protect) := goodIn_app (goodIn_of _ (by decide +kernel)) ggL_law_L_protect
set_option maxRecDepth 20000 in
theorem ggL_law_L_run : GoodIn wsL_law wsL_run := goodIn_ca (goodIn_r _ [176, 115, 10, 177, 178, 179, 2, 180, 120, 121, 21, 18, 181, 182, 183, 52, 184, 54, 55, 56, 57, 58, 137, 59, 60, 61, 62, 63, 64, 65, 66, 67, 68, 69, 70, 71, 72, 73, 74, 75, 76, 77, 78, 79, 80, 81, 82, 83, 84, 85, 86, 87, 88, 89, 90, 91, 92, 93, 94, 95, 96, 97, 268, 269, 270, 271, 272, 273, 274, 275, 276, 277, 278, 279, 280, 281, 282, 283, 284] (by decide +kernel) (by decide +kernel)) (goodIn_sub (fun _ h => List.mem_append_left _ (List.mem_append_right _ h)) (by decide +kernel))
set_option maxRecDepth 20000 in
theorem gL_law_L_run : GoodIn wsL_law (va_wsS RL 127 yL_run wsL_run) := goodIn_app (goodIn_of _ (by decide +kernel)) ggL_law_L_run
set_option maxRecDepth 20000 in
theorem ggL_law_L_paid : GoodIn wsL_law wsL_paid := goodIn_ca (goodIn_ca (goodIn_r _ [187, 30, 114, 4, 7, 188, 189, 190, 2, 191, 21, 192, 36, 37, 38, 39, 40, 41, 18, 124, 125, 126, 127, 128, 268, 269, 270, 271, 272, 273, 274, 275, 276, 277, 278, 279, 280, 281, 282, 283, 284] (by decide +kernel) (by decide +kernel)) (goodIn_sub (fun _ h => List.mem_append_left _ (List.mem_append_left _ (List.mem_append_right _ h))) (by decide +kernel))) (goodIn_sub (fun _ h => List.mem_append_right _ h) (by decide +kernel))
set_option maxRecDepth 20000 in
theorem gL_law_L_paid : GoodIn wsL_law (va_wsS RL 130 yL_paid wsL_paid) := goodIn_app (goodIn_of _ (by decide +kernel)) ggL_law_L_paid
set_option maxRecDepth 20000 in
theorem ggL_law_L_upTo : GoodIn wsL_law wsL_upTo := goodIn_ca (goodIn_ca (goodIn_r _ [195, 30, 114, 4, 7, 196, 197, 198, 2, 199, 36, 37, 38, 39, 40, 41, 18, 200, 201, 202, 124, 125, 126, 127, 128, 203, 60, 61, 52, 62, 63, 64, 65, 66, 67, 68, 69, 70, 71, 72, 73, 74, 75, 76, 77, 78, 79, 80, 81, 82, 83, 84, 85, 86, 87, 57, 88, 89, 90, 91, 92, 93, 94, 95, 96, 97, 55, 56, 58, 268, 269, 270, 271, 272, 273, 274, 275, 276, 277, 278, 279, 280, 281, 282, 283, 284] (by decide +kernel) (by decide +kernel)) (goodIn_sub (fun _ h => List.mem_append_left _ (List.mem_append_left _ (List.mem_append_right _ h))) (by decide +kernel))) (goodIn_sub (fun _ h => List.mem_append_right _ h) (by decide +kernel))
set_option maxRecDepth 20000 in
theorem gL_law_L_upTo : GoodIn wsL_law (va_wsS RL 93 yL_upTo wsL_upTo) := goodIn_app (goodIn_of _ (by decide +kernel)) ggL_law_L_upTo
set_option maxRecDepth 20000 in
theorem ggL_law_L_inflation : GoodIn wsL_law wsL_inflation := goodIn_ca (goodIn_r _ [206, 114, 207, 208, 209, 2, 210, 19, 18, 124, 125, 126, 127, 128, 138, 139, 140, 52, 141, 133, 81, 135, 67, 134, 89, 90, 57, 91, 86, 87, 88, 268, 269, 270, 271, 272, 273, 274, 275, 276, 277, 278, 279, 280, 281, 282, 283, 284] (by decide +kernel) (by decide +kernel)) (goodIn_sub (fun _ h => List.mem_append_right _ h) (by decide +kernel))
set_option maxRecDepth 20000 in
theorem gL_law_L_inflation : GoodIn wsL_law (va_wsS RL 132 yL_inflation wsL_inflation) := goodIn_app (goodIn_of _ (by decide +kernel)) ggL_law_L_inflation
set_option maxRecDepth 20000 in
theorem ggL_law_L_die : GoodIn wsL_law wsL_die := goodIn_ca (goodIn_ca (goodIn_ca (goodIn_r _ [213, 30, 114, 115, 214, 215, 216, 2, 217, 120, 121, 21, 218, 90, 57, 91, 219, 36, 37, 38, 39, 40, 41, 18, 124, 125, 126, 127, 128, 268, 269, 270, 271, 272, 273, 274, 275, 276, 277, 278, 279, 280, 281, 282, 283, 284] (by decide +kernel) (by decide +kernel)) (goodIn_sub (fun _ h => List.mem_append_left _ (List.mem_append_right _ h)) (by decide +kernel))) (goodIn_sub (fun _ h => List.mem_append_left _ (List.mem_append_left _ (List.mem_append_right _ h))) (by decide +kernel))) (goodIn_sub (fun _ h => List.mem_append_right _ h) (by decide +kernel))
set_option maxRecDepth 20000 in
theorem gL_law_L_die : GoodIn wsL_law (va_wsS RL 135 yL_die wsL_die) := goodIn_app (goodIn_of _ (by decide +kernel)) ggL_law_L_die
set_option maxRecDepth 20000 in
theorem ggL_law_L_takeBack : GoodIn wsL_law wsL_takeBack := goodIn_ca (goodIn_ca (goodIn_ca (goodIn_r _ [222, 30, 114, 115, 223, 224, 225, 2, 226, 120, 121, 219, 36, 37, 38, 39, 40, 41, 18, 124, 125, 126, 127, 128, 272, 273, 274, 275, 276, 277, 278, 279, 280, 281, 282, 283, 284, 268, 269, 270, 271] (by decide +kernel) (by decide +kernel)) (goodIn_sub (fun _ h => List.mem_append_left _ (List.mem_append_right _ h)) (by decide +kernel))) (goodIn_sub (fun _ h => List.mem_append_left _ (List.mem_append_left _ (List.mem_append_right _ h))) (by decide +kernel))) (goodIn_sub (fun _ h => List.mem_append_right _ h) (by decide +kernel))
set_option maxRecDepth 20000 in
theorem gL_law_L_takeBack : GoodIn wsL_law (va_wsS RL 137 yL_takeBack wsL_takeBack) := goodIn_app (goodIn_of _ (by decide +kernel)) ggL_law_L_takeBack
set_option maxRecDepth 20000 in
theorem ggL_law_L_follows : GoodIn wsL_law wsL_follows := goodIn_ca (goodIn_ca (goodIn_r _ [229, 7, 230, 231, 28, 232, 30, 114, 233, 234, 235, 2, 236, 36, 37, 38, 39, 40, 41, 18, 200, 201, 202, 124, 125, 126, 127, 128, 237, 78, 79, 52, 80, 67, 81, 238, 239, 240, 241, 242, 243, 244, 245, 246, 247, 248, 135, 249, 250, 251, 4, 252, 253, 254, 255, 256, 257, 258, 259, 68, 69, 70, 71, 72, 73, 74, 75, 76, 77, 82, 83, 84, 85, 86, 87, 57, 88, 89, 90, 91, 92, 93, 94, 95, 96, 97, 55, 56, 58, 63, 64, 65, 66, 193, 194, 195, 196, 197, 198, 199, 203, 60, 61, 62, 98, 99, 100, 101, 102, 103, 104, 105, 268, 269, 270, 271, 272, 273, 274, 275, 276, 277, 278, 279, 280, 281, 282, 283, 284] (by decide +kernel) (by decide +kernel)) (goodIn_sub (fun _ h => List.mem_append_left _ (List.mem_append_left _ (List.mem_append_right _ h))) (by decide +kernel))) (goodIn_sub (fun _ h => List.mem_append_right _ h) (by decide +kernel))
set_option maxRecDepth 20000 in
theorem gL_law_L_follows : GoodIn wsL_law (va_wsS RL 139 yL_follows wsL_follows) := goodIn_app (goodIn_of _ (by decide +kernel)) ggL_law_L_follows
set_option maxRecDepth 20000 in
theorem ggL_law_L_back : GoodIn wsL_law wsL_back := goodIn_ca (goodIn_ca (goodIn_ca (goodIn_r _ [262, 30, 114, 115, 4, 7, 10, 263, 264, 265, 2, 266, 120, 121, 267, 21, 35, 36, 37, 38, 39, 40, 41, 18, 124, 125, 126, 127, 128, 49, 50, 51, 52, 53, 54, 55, 56, 57, 58, 59, 60, 61, 62, 63, 64, 65, 66, 67, 68, 69, 70, 71, 72, 73, 74, 75, 76, 77, 78, 79, 80, 81, 82, 83, 84, 85, 86, 87, 88, 89, 90, 91, 92, 93, 94, 95, 96, 97, 268, 269, 270, 271, 272, 273, 274, 275, 276, 277, 278, 279, 280, 281, 282, 283, 284] (by decide +kernel) (by decide +kernel)) (goodIn_sub (fun _ h => List.mem_append_left _ (List.mem_append_right _ h)) (by decide +kernel))) (goodIn_sub (fun _ h => List.mem_append_left _ (List.mem_append_left _ (List.mem_append_right _ h))) (by decide +kernel))) (goodIn_sub (fun _ h => List.mem_append_right _ h) (by decide +kernel))
set_option maxRecDepth 20000 in
theorem gL_law_L_back : GoodIn wsL_law (va_wsS RL 146 yL_back wsL_back) := goodIn_app (goodIn_of _ (by decide +kernel)) ggL_law_L_back
theorem dL_law_0 : decode cL_law 0 = .ok (.new 10, 3) := by decide +kernel
theorem dL_law_3 : decode cL_law 3 = .ok (.dup, 1) := by decide +kernel
theorem dL_law_4 : decode cL_law 4 = .ok (.invokespecial 99, 3) := by decide +kernel
theorem dL_law_7 : decode cL_law 7 = .ok (.astore_n 1, 1) := by decide +kernel
theorem dL_law_8 : decode cL_law 8 = .ok (.bipush 20, 2) := by decide +kernel
theorem dL_law_10 : decode cL_law 10 = .ok (.newarray .int, 2) := by decide +kernel
theorem dL_law_12 : decode cL_law 12 = .ok (.astore_n 2, 1) := by decide +kernel
theorem dL_law_13 : decode cL_law 13 = .ok (.bipush 20, 2) := by decide +kernel
theorem dL_law_15 : decode cL_law 15 = .ok (.newarray .int, 2) := by decide +kernel
theorem dL_law_17 : decode cL_law 17 = .ok (.astore_n 3, 1) := by decide +kernel
theorem dL_law_18 : decode cL_law 18 = .ok (.bipush 20, 2) := by decide +kernel
theorem dL_law_20 : decode cL_law 20 = .ok (.newarray .int, 2) := by decide +kernel
theorem dL_law_22 : decode cL_law 22 = .ok (.astore 4, 2) := by decide +kernel
theorem dL_law_24 : decode cL_law 24 = .ok (.bipush 20, 2) := by decide +kernel
theorem dL_law_26 : decode cL_law 26 = .ok (.newarray .int, 2) := by decide +kernel
theorem dL_law_28 : decode cL_law 28 = .ok (.astore 5, 2) := by decide +kernel
theorem dL_law_30 : decode cL_law 30 = .ok (.iconst 0, 1) := by decide +kernel
theorem dL_law_31 : decode cL_law 31 = .ok (.istore 6, 2) := by decide +kernel
theorem dL_law_33 : decode cL_law 33 = .ok (.aload_n 1, 1) := by decide +kernel
theorem dL_law_34 : decode cL_law 34 = .ok (.invokevirtual 100, 3) := by decide +kernel
theorem dL_law_37 : decode cL_law 37 = .ok (.ifCond .ne 43, 3) := by decide +kernel
theorem dL_law_40 : decode cL_law 40 = .ok (.aload_n 1, 1) := by decide +kernel
theorem dL_law_41 : decode cL_law 41 = .ok (.iconst 0, 1) := by decide +kernel
theorem dL_law_42 : decode cL_law 42 = .ok (.invokestatic 104, 3) := by decide +kernel
theorem dL_law_45 : decode cL_law 45 = .ok (.ldc2_w 53, 3) := by decide +kernel
theorem dL_law_48 : decode cL_law 48 = .ok (.lcmp, 1) := by decide +kernel
theorem dL_law_49 : decode cL_law 49 = .ok (.ifCond .ne 31, 3) := by decide +kernel
theorem dL_law_52 : decode cL_law 52 = .ok (.aload_n 1, 1) := by decide +kernel
theorem dL_law_53 : decode cL_law 53 = .ok (.iconst 0, 1) := by decide +kernel
theorem dL_law_54 : decode cL_law 54 = .ok (.invokestatic 107, 3) := by decide +kernel
theorem dL_law_57 : decode cL_law 57 = .ok (.ldc2_w 53, 3) := by decide +kernel
theorem dL_law_60 : decode cL_law 60 = .ok (.lcmp, 1) := by decide +kernel
theorem dL_law_61 : decode cL_law 61 = .ok (.ifCond .ne 19, 3) := by decide +kernel
theorem dL_law_64 : decode cL_law 64 = .ok (.aload_n 1, 1) := by decide +kernel
theorem dL_law_65 : decode cL_law 65 = .ok (.iconst 0, 1) := by decide +kernel
theorem dL_law_66 : decode cL_law 66 = .ok (.invokestatic 96, 3) := by decide +kernel
theorem dL_law_69 : decode cL_law 69 = .ok (.ldc2_w 53, 3) := by decide +kernel
theorem dL_law_72 : decode cL_law 72 = .ok (.lcmp, 1) := by decide +kernel
theorem dL_law_73 : decode cL_law 73 = .ok (.ifCond .ne 7, 3) := by decide +kernel
theorem dL_law_76 : decode cL_law 76 = .ok (.iconst 1, 1) := by decide +kernel
theorem dL_law_77 : decode cL_law 77 = .ok (.goto 4, 3) := by decide +kernel
theorem dL_law_80 : decode cL_law 80 = .ok (.iconst 0, 1) := by decide +kernel
theorem dL_law_81 : decode cL_law 81 = .ok (.istore 7, 2) := by decide +kernel
theorem dL_law_83 : decode cL_law 83 = .ok (.iconst 0, 1) := by decide +kernel
theorem dL_law_84 : decode cL_law 84 = .ok (.istore 8, 2) := by decide +kernel
theorem dL_law_86 : decode cL_law 86 = .ok (.iload 8, 2) := by decide +kernel
theorem dL_law_88 : decode cL_law 88 = .ok (.bipush 30, 2) := by decide +kernel
theorem dL_law_90 : decode cL_law 90 = .ok (.if_icmp .ge 862, 3) := by decide +kernel
theorem dL_law_93 : decode cL_law 93 = .ok (.iload 7, 2) := by decide +kernel
theorem dL_law_95 : decode cL_law 95 = .ok (.ifCond .eq 857, 3) := by decide +kernel
theorem dL_law_98 : decode cL_law 98 = .ok (.aload_n 0, 1) := by decide +kernel
theorem dL_law_99 : decode cL_law 99 = .ok (.iload 8, 2) := by decide +kernel
theorem dL_law_101 : decode cL_law 101 = .ok (.invokestatic 109, 3) := by decide +kernel
theorem dL_law_104 : decode cL_law 104 = .ok (.istore 9, 2) := by decide +kernel
theorem dL_law_106 : decode cL_law 106 = .ok (.iload 9, 2) := by decide +kernel
theorem dL_law_108 : decode cL_law 108 = .ok (.bipush 8, 2) := by decide +kernel
theorem dL_law_110 : decode cL_law 110 = .ok (.idiv, 1) := by decide +kernel
theorem dL_law_111 : decode cL_law 111 = .ok (.istore 10, 2) := by decide +kernel
theorem dL_law_113 : decode cL_law 113 = .ok (.iload 6, 2) := by decide +kernel
theorem dL_law_115 : decode cL_law 115 = .ok (.ifCond .ne 7, 3) := by decide +kernel
theorem dL_law_118 : decode cL_law 118 = .ok (.iconst 0, 1) := by decide +kernel
theorem dL_law_119 : decode cL_law 119 = .ok (.goto 8, 3) := by decide +kernel
theorem dL_law_122 : decode cL_law 122 = .ok (.iload 10, 2) := by decide +kernel
theorem dL_law_124 : decode cL_law 124 = .ok (.iload 6, 2) := by decide +kernel
theorem dL_law_126 : decode cL_law 126 = .ok (.irem, 1) := by decide +kernel
theorem dL_law_127 : decode cL_law 127 = .ok (.istore 11, 2) := by decide +kernel
theorem dL_law_129 : decode cL_law 129 = .ok (.iload 10, 2) := by decide +kernel
theorem dL_law_131 : decode cL_law 131 = .ok (.iconst 4, 1) := by decide +kernel
theorem dL_law_132 : decode cL_law 132 = .ok (.idiv, 1) := by decide +kernel
theorem dL_law_133 : decode cL_law 133 = .ok (.istore 12, 2) := by decide +kernel
theorem dL_law_135 : decode cL_law 135 = .ok (.aload_n 1, 1) := by decide +kernel
theorem dL_law_136 : decode cL_law 136 = .ok (.invokevirtual 100, 3) := by decide +kernel
theorem dL_law_139 : decode cL_law 139 = .ok (.istore 13, 2) := by decide +kernel
theorem dL_law_141 : decode cL_law 141 = .ok (.iload 9, 2) := by decide +kernel
theorem dL_law_143 : decode cL_law 143 = .ok (.bipush 8, 2) := by decide +kernel
theorem dL_law_145 : decode cL_law 145 = .ok (.irem, 1) := by decide +kernel
theorem dL_law_146 : decode cL_law 146 = .ok (.iconst 2, 1) := by decide +kernel
theorem dL_law_147 : decode cL_law 147 = .ok (.if_icmp .ge 18, 3) := by decide +kernel
theorem dL_law_150 : decode cL_law 150 = .ok (.iload 6, 2) := by decide +kernel
theorem dL_law_152 : decode cL_law 152 = .ok (.bipush 6, 2) := by decide +kernel
theorem dL_law_154 : decode cL_law 154 = .ok (.if_icmp .ge 11, 3) := by decide +kernel
theorem dL_law_157 : decode cL_law 157 = .ok (.iload 13, 2) := by decide +kernel
theorem dL_law_159 : decode cL_law 159 = .ok (.sipush 240, 3) := by decide +kernel
theorem dL_law_162 : decode cL_law 162 = .ok (.if_icmp .lt 8, 3) := by decide +kernel
theorem dL_law_165 : decode cL_law 165 = .ok (.iload 6, 2) := by decide +kernel
theorem dL_law_167 : decode cL_law 167 = .ok (.ifCond .ne 148, 3) := by decide +kernel
theorem dL_law_170 : decode cL_law 170 = .ok (.aload_n 3, 1) := by decide +kernel
theorem dL_law_171 : decode cL_law 171 = .ok (.iload 6, 2) := by decide +kernel
theorem dL_law_173 : decode cL_law 173 = .ok (.iload 13, 2) := by decide +kernel
theorem dL_law_175 : decode cL_law 175 = .ok (.iload 12, 2) := by decide +kernel
theorem dL_law_177 : decode cL_law 177 = .ok (.sipush 240, 3) := by decide +kernel
theorem dL_law_180 : decode cL_law 180 = .ok (.iload 13, 2) := by decide +kernel
theorem dL_law_182 : decode cL_law 182 = .ok (.isub, 1) := by decide +kernel
theorem dL_law_183 : decode cL_law 183 = .ok (.irem, 1) := by decide +kernel
theorem dL_law_184 : decode cL_law 184 = .ok (.iadd, 1) := by decide +kernel
theorem dL_law_185 : decode cL_law 185 = .ok (.iastore, 1) := by decide +kernel
theorem dL_law_186 : decode cL_law 186 = .ok (.aload 4, 2) := by decide +kernel
theorem dL_law_188 : decode cL_law 188 = .ok (.iload 6, 2) := by decide +kernel
theorem dL_law_190 : decode cL_law 190 = .ok (.iload 12, 2) := by decide +kernel
theorem dL_law_192 : decode cL_law 192 = .ok (.sipush 240, 3) := by decide +kernel
theorem dL_law_195 : decode cL_law 195 = .ok (.idiv, 1) := by decide +kernel
theorem dL_law_196 : decode cL_law 196 = .ok (.sipush 201, 3) := by decide +kernel
theorem dL_law_199 : decode cL_law 199 = .ok (.irem, 1) := by decide +kernel
theorem dL_law_200 : decode cL_law 200 = .ok (.iastore, 1) := by decide +kernel
theorem dL_law_201 : decode cL_law 201 = .ok (.aload 5, 2) := by decide +kernel
theorem dL_law_203 : decode cL_law 203 = .ok (.iload 6, 2) := by decide +kernel
theorem dL_law_205 : decode cL_law 205 = .ok (.iload 12, 2) := by decide +kernel
theorem dL_law_207 : decode cL_law 207 = .ok (.bipush 17, 2) := by decide +kernel
theorem dL_law_209 : decode cL_law 209 = .ok (.idiv, 1) := by decide +kernel
theorem dL_law_210 : decode cL_law 210 = .ok (.bipush 101, 2) := by decide +kernel
theorem dL_law_212 : decode cL_law 212 = .ok (.irem, 1) := by decide +kernel
theorem dL_law_213 : decode cL_law 213 = .ok (.iastore, 1) := by decide +kernel
theorem dL_law_214 : decode cL_law 214 = .ok (.aload_n 1, 1) := by decide +kernel
theorem dL_law_215 : decode cL_law 215 = .ok (.aload_n 3, 1) := by decide +kernel
theorem dL_law_216 : decode cL_law 216 = .ok (.iload 6, 2) := by decide +kernel
theorem dL_law_218 : decode cL_law 218 = .ok (.iaload, 1) := by decide +kernel
theorem dL_law_219 : decode cL_law 219 = .ok (.iconst 1, 1) := by decide +kernel
theorem dL_law_220 : decode cL_law 220 = .ok (.iload 12, 2) := by decide +kernel
theorem dL_law_222 : decode cL_law 222 = .ok (.ldc 113, 2) := by decide +kernel
theorem dL_law_224 : decode cL_law 224 = .ok (.irem, 1) := by decide +kernel
theorem dL_law_225 : decode cL_law 225 = .ok (.iadd, 1) := by decide +kernel
theorem dL_law_226 : decode cL_law 226 = .ok (.iload 12, 2) := by decide +kernel
theorem dL_law_228 : decode cL_law 228 = .ok (.iconst 5, 1) := by decide +kernel
theorem dL_law_229 : decode cL_law 229 = .ok (.idiv, 1) := by decide +kernel
theorem dL_law_230 : decode cL_law 230 = .ok (.bipush 40, 2) := by decide +kernel
theorem dL_law_232 : decode cL_law 232 = .ok (.irem, 1) := by decide +kernel
theorem dL_law_233 : decode cL_law 233 = .ok (.invokestatic 114, 3) := by decide +kernel
theorem dL_law_236 : decode cL_law 236 = .ok (.iload 6, 2) := by decide +kernel
theorem dL_law_238 : decode cL_law 238 = .ok (.if_icmp .ne 68, 3) := by decide +kernel
theorem dL_law_241 : decode cL_law 241 = .ok (.aload_n 1, 1) := by decide +kernel
theorem dL_law_242 : decode cL_law 242 = .ok (.iload 6, 2) := by decide +kernel
theorem dL_law_244 : decode cL_law 244 = .ok (.aload 4, 2) := by decide +kernel
theorem dL_law_246 : decode cL_law 246 = .ok (.iload 6, 2) := by decide +kernel
theorem dL_law_248 : decode cL_law 248 = .ok (.iaload, 1) := by decide +kernel
theorem dL_law_249 : decode cL_law 249 = .ok (.invokestatic 117, 3) := by decide +kernel
theorem dL_law_252 : decode cL_law 252 = .ok (.ifCond .ne 54, 3) := by decide +kernel
theorem dL_law_255 : decode cL_law 255 = .ok (.aload_n 1, 1) := by decide +kernel
theorem dL_law_256 : decode cL_law 256 = .ok (.iload 6, 2) := by decide +kernel
theorem dL_law_258 : decode cL_law 258 = .ok (.aload 5, 2) := by decide +kernel
theorem dL_law_260 : decode cL_law 260 = .ok (.iload 6, 2) := by decide +kernel
theorem dL_law_262 : decode cL_law 262 = .ok (.iaload, 1) := by decide +kernel
theorem dL_law_263 : decode cL_law 263 = .ok (.iload 12, 2) := by decide +kernel
theorem dL_law_265 : decode cL_law 265 = .ok (.iconst 2, 1) := by decide +kernel
theorem dL_law_266 : decode cL_law 266 = .ok (.irem, 1) := by decide +kernel
theorem dL_law_267 : decode cL_law 267 = .ok (.ifCond .ne 7, 3) := by decide +kernel
theorem dL_law_270 : decode cL_law 270 = .ok (.iconst 1, 1) := by decide +kernel
theorem dL_law_271 : decode cL_law 271 = .ok (.goto 4, 3) := by decide +kernel
theorem dL_law_274 : decode cL_law 274 = .ok (.iconst 0, 1) := by decide +kernel
theorem dL_law_275 : decode cL_law 275 = .ok (.invokestatic 120, 3) := by decide +kernel
theorem dL_law_278 : decode cL_law 278 = .ok (.ifCond .ne 28, 3) := by decide +kernel
theorem dL_law_281 : decode cL_law 281 = .ok (.aload_n 1, 1) := by decide +kernel
theorem dL_law_282 : decode cL_law 282 = .ok (.iload 6, 2) := by decide +kernel
theorem dL_law_284 : decode cL_law 284 = .ok (.iload 12, 2) := by decide +kernel
theorem dL_law_286 : decode cL_law 286 = .ok (.ldc 124, 2) := by decide +kernel
theorem dL_law_288 : decode cL_law 288 = .ok (.irem, 1) := by decide +kernel
theorem dL_law_289 : decode cL_law 289 = .ok (.iload 12, 2) := by decide +kernel
theorem dL_law_291 : decode cL_law 291 = .ok (.iconst 3, 1) := by decide +kernel
theorem dL_law_292 : decode cL_law 292 = .ok (.idiv, 1) := by decide +kernel
theorem dL_law_293 : decode cL_law 293 = .ok (.bipush 101, 2) := by decide +kernel
theorem dL_law_295 : decode cL_law 295 = .ok (.irem, 1) := by decide +kernel
theorem dL_law_296 : decode cL_law 296 = .ok (.invokestatic 125, 3) := by decide +kernel
theorem dL_law_299 : decode cL_law 299 = .ok (.ifCond .ne 7, 3) := by decide +kernel
theorem dL_law_302 : decode cL_law 302 = .ok (.iconst 1, 1) := by decide +kernel
theorem dL_law_303 : decode cL_law 303 = .ok (.goto 4, 3) := by decide +kernel
theorem dL_law_306 : decode cL_law 306 = .ok (.iconst 0, 1) := by decide +kernel
theorem dL_law_307 : decode cL_law 307 = .ok (.istore 7, 2) := by decide +kernel
theorem dL_law_309 : decode cL_law 309 = .ok (.iinc 6 1, 3) := by decide +kernel
theorem dL_law_312 : decode cL_law 312 = .ok (.goto 425, 3) := by decide +kernel
theorem dL_law_315 : decode cL_law 315 = .ok (.iload 9, 2) := by decide +kernel
theorem dL_law_317 : decode cL_law 317 = .ok (.bipush 8, 2) := by decide +kernel
theorem dL_law_319 : decode cL_law 319 = .ok (.irem, 1) := by decide +kernel
theorem dL_law_320 : decode cL_law 320 = .ok (.iconst 5, 1) := by decide +kernel
theorem dL_law_321 : decode cL_law 321 = .ok (.if_icmp .ge 196, 3) := by decide +kernel
theorem dL_law_324 : decode cL_law 324 = .ok (.iconst 0, 1) := by decide +kernel
theorem dL_law_325 : decode cL_law 325 = .ok (.istore 14, 2) := by decide +kernel
theorem dL_law_327 : decode cL_law 327 = .ok (.iload 14, 2) := by decide +kernel
theorem dL_law_329 : decode cL_law 329 = .ok (.iconst 1, 1) := by decide +kernel
theorem dL_law_330 : decode cL_law 330 = .ok (.iload 12, 2) := by decide +kernel
theorem dL_law_332 : decode cL_law 332 = .ok (.bipush 20, 2) := by decide +kernel
theorem dL_law_334 : decode cL_law 334 = .ok (.irem, 1) := by decide +kernel
theorem dL_law_335 : decode cL_law 335 = .ok (.iadd, 1) := by decide +kernel
theorem dL_law_336 : decode cL_law 336 = .ok (.if_icmp .ge 178, 3) := by decide +kernel
theorem dL_law_339 : decode cL_law 339 = .ok (.aload_n 1, 1) := by decide +kernel
theorem dL_law_340 : decode cL_law 340 = .ok (.invokevirtual 100, 3) := by decide +kernel
theorem dL_law_343 : decode cL_law 343 = .ok (.sipush 240, 3) := by decide +kernel
theorem dL_law_346 : decode cL_law 346 = .ok (.if_icmp .ge 168, 3) := by decide +kernel
theorem dL_law_349 : decode cL_law 349 = .ok (.iload 7, 2) := by decide +kernel
theorem dL_law_351 : decode cL_law 351 = .ok (.ifCond .eq 163, 3) := by decide +kernel
theorem dL_law_354 : decode cL_law 354 = .ok (.aload_n 1, 1) := by decide +kernel
theorem dL_law_355 : decode cL_law 355 = .ok (.invokevirtual 100, 3) := by decide +kernel
theorem dL_law_358 : decode cL_law 358 = .ok (.istore 15, 2) := by decide +kernel
theorem dL_law_360 : decode cL_law 360 = .ok (.aload_n 1, 1) := by decide +kernel
theorem dL_law_361 : decode cL_law 361 = .ok (.invokestatic 127, 3) := by decide +kernel
theorem dL_law_364 : decode cL_law 364 = .ok (.lstore 16, 2) := by decide +kernel
theorem dL_law_366 : decode cL_law 366 = .ok (.iconst 0, 1) := by decide +kernel
theorem dL_law_367 : decode cL_law 367 = .ok (.istore 18, 2) := by decide +kernel
theorem dL_law_369 : decode cL_law 369 = .ok (.iload 18, 2) := by decide +kernel
theorem dL_law_371 : decode cL_law 371 = .ok (.iload 6, 2) := by decide +kernel
theorem dL_law_373 : decode cL_law 373 = .ok (.if_icmp .ge 105, 3) := by decide +kernel
theorem dL_law_376 : decode cL_law 376 = .ok (.iload 7, 2) := by decide +kernel
theorem dL_law_378 : decode cL_law 378 = .ok (.ifCond .eq 100, 3) := by decide +kernel
theorem dL_law_381 : decode cL_law 381 = .ok (.aload_n 1, 1) := by decide +kernel
theorem dL_law_382 : decode cL_law 382 = .ok (.iload 18, 2) := by decide +kernel
theorem dL_law_384 : decode cL_law 384 = .ok (.iload 15, 2) := by decide +kernel
theorem dL_law_386 : decode cL_law 386 = .ok (.invokestatic 130, 3) := by decide +kernel
theorem dL_law_389 : decode cL_law 389 = .ok (.lstore 19, 2) := by decide +kernel
theorem dL_law_391 : decode cL_law 391 = .ok (.lload 16, 2) := by decide +kernel
theorem dL_law_393 : decode cL_law 393 = .ok (.lload 19, 2) := by decide +kernel
theorem dL_law_395 : decode cL_law 395 = .ok (.lsub, 1) := by decide +kernel
theorem dL_law_396 : decode cL_law 396 = .ok (.lstore 16, 2) := by decide +kernel
theorem dL_law_398 : decode cL_law 398 = .ok (.lload 19, 2) := by decide +kernel
theorem dL_law_400 : decode cL_law 400 = .ok (.lconst 0, 1) := by decide +kernel
theorem dL_law_401 : decode cL_law 401 = .ok (.lcmp, 1) := by decide +kernel
theorem dL_law_402 : decode cL_law 402 = .ok (.ifCond .lt 67, 3) := by decide +kernel
theorem dL_law_405 : decode cL_law 405 = .ok (.aload_n 1, 1) := by decide +kernel
theorem dL_law_406 : decode cL_law 406 = .ok (.iload 18, 2) := by decide +kernel
theorem dL_law_408 : decode cL_law 408 = .ok (.invokestatic 104, 3) := by decide +kernel
theorem dL_law_411 : decode cL_law 411 = .ok (.aload_n 1, 1) := by decide +kernel
theorem dL_law_412 : decode cL_law 412 = .ok (.iload 18, 2) := by decide +kernel
theorem dL_law_414 : decode cL_law 414 = .ok (.iload 15, 2) := by decide +kernel
theorem dL_law_416 : decode cL_law 416 = .ok (.invokestatic 93, 3) := by decide +kernel
theorem dL_law_419 : decode cL_law 419 = .ok (.lcmp, 1) := by decide +kernel
theorem dL_law_420 : decode cL_law 420 = .ok (.ifCond .lt 49, 3) := by decide +kernel
theorem dL_law_423 : decode cL_law 423 = .ok (.lload 19, 2) := by decide +kernel
theorem dL_law_425 : decode cL_law 425 = .ok (.lconst 0, 1) := by decide +kernel
theorem dL_law_426 : decode cL_law 426 = .ok (.lcmp, 1) := by decide +kernel
theorem dL_law_427 : decode cL_law 427 = .ok (.ifCond .eq 21, 3) := by decide +kernel
theorem dL_law_430 : decode cL_law 430 = .ok (.aload_n 1, 1) := by decide +kernel
theorem dL_law_431 : decode cL_law 431 = .ok (.iload 18, 2) := by decide +kernel
theorem dL_law_433 : decode cL_law 433 = .ok (.invokestatic 104, 3) := by decide +kernel
theorem dL_law_436 : decode cL_law 436 = .ok (.aload_n 1, 1) := by decide +kernel
theorem dL_law_437 : decode cL_law 437 = .ok (.iload 18, 2) := by decide +kernel
theorem dL_law_439 : decode cL_law 439 = .ok (.iload 15, 2) := by decide +kernel
theorem dL_law_441 : decode cL_law 441 = .ok (.invokestatic 93, 3) := by decide +kernel
theorem dL_law_444 : decode cL_law 444 = .ok (.lcmp, 1) := by decide +kernel
theorem dL_law_445 : decode cL_law 445 = .ok (.ifCond .ne 24, 3) := by decide +kernel
theorem dL_law_448 : decode cL_law 448 = .ok (.aload_n 1, 1) := by decide +kernel
theorem dL_law_449 : decode cL_law 449 = .ok (.iload 18, 2) := by decide +kernel
theorem dL_law_451 : decode cL_law 451 = .ok (.iload 15, 2) := by decide +kernel
theorem dL_law_453 : decode cL_law 453 = .ok (.iconst 1, 1) := by decide +kernel
theorem dL_law_454 : decode cL_law 454 = .ok (.iadd, 1) := by decide +kernel
theorem dL_law_455 : decode cL_law 455 = .ok (.invokestatic 130, 3) := by decide +kernel
theorem dL_law_458 : decode cL_law 458 = .ok (.ldc2_w 55, 3) := by decide +kernel
theorem dL_law_461 : decode cL_law 461 = .ok (.lcmp, 1) := by decide +kernel
theorem dL_law_462 : decode cL_law 462 = .ok (.ifCond .ne 7, 3) := by decide +kernel
theorem dL_law_465 : decode cL_law 465 = .ok (.iconst 1, 1) := by decide +kernel
theorem dL_law_466 : decode cL_law 466 = .ok (.goto 4, 3) := by decide +kernel
theorem dL_law_469 : decode cL_law 469 = .ok (.iconst 0, 1) := by decide +kernel
theorem dL_law_470 : decode cL_law 470 = .ok (.istore 7, 2) := by decide +kernel
theorem dL_law_472 : decode cL_law 472 = .ok (.iinc 18 1, 3) := by decide +kernel
theorem dL_law_475 : decode cL_law 475 = .ok (.goto (-106), 3) := by decide +kernel
theorem dL_law_478 : decode cL_law 478 = .ok (.iload 7, 2) := by decide +kernel
theorem dL_law_480 : decode cL_law 480 = .ok (.ifCond .eq 25, 3) := by decide +kernel
theorem dL_law_483 : decode cL_law 483 = .ok (.lload 16, 2) := by decide +kernel
theorem dL_law_485 : decode cL_law 485 = .ok (.lconst 0, 1) := by decide +kernel
theorem dL_law_486 : decode cL_law 486 = .ok (.lcmp, 1) := by decide +kernel
theorem dL_law_487 : decode cL_law 487 = .ok (.ifCond .ne 18, 3) := by decide +kernel
theorem dL_law_490 : decode cL_law 490 = .ok (.aload_n 1, 1) := by decide +kernel
theorem dL_law_491 : decode cL_law 491 = .ok (.invokevirtual 100, 3) := by decide +kernel
theorem dL_law_494 : decode cL_law 494 = .ok (.iload 15, 2) := by decide +kernel
theorem dL_law_496 : decode cL_law 496 = .ok (.iconst 1, 1) := by decide +kernel
theorem dL_law_497 : decode cL_law 497 = .ok (.iadd, 1) := by decide +kernel
theorem dL_law_498 : decode cL_law 498 = .ok (.if_icmp .ne 7, 3) := by decide +kernel
theorem dL_law_501 : decode cL_law 501 = .ok (.iconst 1, 1) := by decide +kernel
theorem dL_law_502 : decode cL_law 502 = .ok (.goto 4, 3) := by decide +kernel
theorem dL_law_505 : decode cL_law 505 = .ok (.iconst 0, 1) := by decide +kernel
theorem dL_law_506 : decode cL_law 506 = .ok (.istore 7, 2) := by decide +kernel
theorem dL_law_508 : decode cL_law 508 = .ok (.iinc 14 1, 3) := by decide +kernel
theorem dL_law_511 : decode cL_law 511 = .ok (.goto (-184), 3) := by decide +kernel
theorem dL_law_514 : decode cL_law 514 = .ok (.goto 223, 3) := by decide +kernel
theorem dL_law_517 : decode cL_law 517 = .ok (.iload 9, 2) := by decide +kernel
theorem dL_law_519 : decode cL_law 519 = .ok (.bipush 8, 2) := by decide +kernel
theorem dL_law_521 : decode cL_law 521 = .ok (.irem, 1) := by decide +kernel
theorem dL_law_522 : decode cL_law 522 = .ok (.iconst 5, 1) := by decide +kernel
theorem dL_law_523 : decode cL_law 523 = .ok (.if_icmp .ne 55, 3) := by decide +kernel
theorem dL_law_526 : decode cL_law 526 = .ok (.iload 12, 2) := by decide +kernel
theorem dL_law_528 : decode cL_law 528 = .ok (.bipush 20, 2) := by decide +kernel
theorem dL_law_530 : decode cL_law 530 = .ok (.irem, 1) := by decide +kernel
theorem dL_law_531 : decode cL_law 531 = .ok (.istore 14, 2) := by decide +kernel
theorem dL_law_533 : decode cL_law 533 = .ok (.iload 12, 2) := by decide +kernel
theorem dL_law_535 : decode cL_law 535 = .ok (.bipush 20, 2) := by decide +kernel
theorem dL_law_537 : decode cL_law 537 = .ok (.idiv, 1) := by decide +kernel
theorem dL_law_538 : decode cL_law 538 = .ok (.sipush 401, 3) := by decide +kernel
theorem dL_law_541 : decode cL_law 541 = .ok (.irem, 1) := by decide +kernel
theorem dL_law_542 : decode cL_law 542 = .ok (.bipush 100, 2) := by decide +kernel
theorem dL_law_544 : decode cL_law 544 = .ok (.isub, 1) := by decide +kernel
theorem dL_law_545 : decode cL_law 545 = .ok (.istore 15, 2) := by decide +kernel
theorem dL_law_547 : decode cL_law 547 = .ok (.aload_n 1, 1) := by decide +kernel
theorem dL_law_548 : decode cL_law 548 = .ok (.iload 14, 2) := by decide +kernel
theorem dL_law_550 : decode cL_law 550 = .ok (.iload 15, 2) := by decide +kernel
theorem dL_law_552 : decode cL_law 552 = .ok (.invokestatic 132, 3) := by decide +kernel
theorem dL_law_555 : decode cL_law 555 = .ok (.aload_n 2, 1) := by decide +kernel
theorem dL_law_556 : decode cL_law 556 = .ok (.iload 14, 2) := by decide +kernel
theorem dL_law_558 : decode cL_law 558 = .ok (.iaload, 1) := by decide +kernel
theorem dL_law_559 : decode cL_law 559 = .ok (.if_icmp .ne 7, 3) := by decide +kernel
theorem dL_law_562 : decode cL_law 562 = .ok (.iconst 1, 1) := by decide +kernel
theorem dL_law_563 : decode cL_law 563 = .ok (.goto 4, 3) := by decide +kernel
theorem dL_law_566 : decode cL_law 566 = .ok (.iconst 0, 1) := by decide +kernel
theorem dL_law_567 : decode cL_law 567 = .ok (.istore 7, 2) := by decide +kernel
theorem dL_law_569 : decode cL_law 569 = .ok (.aload_n 2, 1) := by decide +kernel
theorem dL_law_570 : decode cL_law 570 = .ok (.iload 14, 2) := by decide +kernel
theorem dL_law_572 : decode cL_law 572 = .ok (.iload 15, 2) := by decide +kernel
theorem dL_law_574 : decode cL_law 574 = .ok (.iastore, 1) := by decide +kernel
theorem dL_law_575 : decode cL_law 575 = .ok (.goto 162, 3) := by decide +kernel
theorem dL_law_578 : decode cL_law 578 = .ok (.iload 12, 2) := by decide +kernel
theorem dL_law_580 : decode cL_law 580 = .ok (.iconst 2, 1) := by decide +kernel
theorem dL_law_581 : decode cL_law 581 = .ok (.irem, 1) := by decide +kernel
theorem dL_law_582 : decode cL_law 582 = .ok (.istore 14, 2) := by decide +kernel
theorem dL_law_584 : decode cL_law 584 = .ok (.aload_n 1, 1) := by decide +kernel
theorem dL_law_585 : decode cL_law 585 = .ok (.iload 11, 2) := by decide +kernel
theorem dL_law_587 : decode cL_law 587 = .ok (.sipush 239, 3) := by decide +kernel
theorem dL_law_590 : decode cL_law 590 = .ok (.invokestatic 93, 3) := by decide +kernel
theorem dL_law_593 : decode cL_law 593 = .ok (.lstore 15, 2) := by decide +kernel
theorem dL_law_595 : decode cL_law 595 = .ok (.iload 12, 2) := by decide +kernel
theorem dL_law_597 : decode cL_law 597 = .ok (.iconst 2, 1) := by decide +kernel
theorem dL_law_598 : decode cL_law 598 = .ok (.idiv, 1) := by decide +kernel
theorem dL_law_599 : decode cL_law 599 = .ok (.iload 13, 2) := by decide +kernel
theorem dL_law_601 : decode cL_law 601 = .ok (.sipush 240, 3) := by decide +kernel
theorem dL_law_604 : decode cL_law 604 = .ok (.if_icmp .ge 10, 3) := by decide +kernel
theorem dL_law_607 : decode cL_law 607 = .ok (.iload 13, 2) := by decide +kernel
theorem dL_law_609 : decode cL_law 609 = .ok (.iconst 1, 1) := by decide +kernel
theorem dL_law_610 : decode cL_law 610 = .ok (.iadd, 1) := by decide +kernel
theorem dL_law_611 : decode cL_law 611 = .ok (.goto 6, 3) := by decide +kernel
theorem dL_law_614 : decode cL_law 614 = .ok (.sipush 240, 3) := by decide +kernel
theorem dL_law_617 : decode cL_law 617 = .ok (.irem, 1) := by decide +kernel
theorem dL_law_618 : decode cL_law 618 = .ok (.istore 17, 2) := by decide +kernel
theorem dL_law_620 : decode cL_law 620 = .ok (.aload_n 1, 1) := by decide +kernel
theorem dL_law_621 : decode cL_law 621 = .ok (.iload 11, 2) := by decide +kernel
theorem dL_law_623 : decode cL_law 623 = .ok (.iload 14, 2) := by decide +kernel
theorem dL_law_625 : decode cL_law 625 = .ok (.iload 17, 2) := by decide +kernel
theorem dL_law_627 : decode cL_law 627 = .ok (.invokestatic 135, 3) := by decide +kernel
theorem dL_law_630 : decode cL_law 630 = .ok (.istore 18, 2) := by decide +kernel
theorem dL_law_632 : decode cL_law 632 = .ok (.iload 18, 2) := by decide +kernel
theorem dL_law_634 : decode cL_law 634 = .ok (.ifCond .eq 10, 3) := by decide +kernel
theorem dL_law_637 : decode cL_law 637 = .ok (.iload 18, 2) := by decide +kernel
theorem dL_law_639 : decode cL_law 639 = .ok (.bipush (-103), 2) := by decide +kernel
theorem dL_law_641 : decode cL_law 641 = .ok (.if_icmp .ne 7, 3) := by decide +kernel
theorem dL_law_644 : decode cL_law 644 = .ok (.iconst 1, 1) := by decide +kernel
theorem dL_law_645 : decode cL_law 645 = .ok (.goto 4, 3) := by decide +kernel
theorem dL_law_648 : decode cL_law 648 = .ok (.iconst 0, 1) := by decide +kernel
theorem dL_law_649 : decode cL_law 649 = .ok (.istore 7, 2) := by decide +kernel
theorem dL_law_651 : decode cL_law 651 = .ok (.iload 18, 2) := by decide +kernel
theorem dL_law_653 : decode cL_law 653 = .ok (.bipush (-103), 2) := by decide +kernel
theorem dL_law_655 : decode cL_law 655 = .ok (.if_icmp .ne 37, 3) := by decide +kernel
theorem dL_law_658 : decode cL_law 658 = .ok (.aload_n 1, 1) := by decide +kernel
theorem dL_law_659 : decode cL_law 659 = .ok (.iload 11, 2) := by decide +kernel
theorem dL_law_661 : decode cL_law 661 = .ok (.iload 14, 2) := by decide +kernel
theorem dL_law_663 : decode cL_law 663 = .ok (.invokestatic 137, 3) := by decide +kernel
theorem dL_law_666 : decode cL_law 666 = .ok (.ifCond .lt 20, 3) := by decide +kernel
theorem dL_law_669 : decode cL_law 669 = .ok (.aload_n 1, 1) := by decide +kernel
theorem dL_law_670 : decode cL_law 670 = .ok (.iload 11, 2) := by decide +kernel
theorem dL_law_672 : decode cL_law 672 = .ok (.iload 14, 2) := by decide +kernel
theorem dL_law_674 : decode cL_law 674 = .ok (.invokestatic 137, 3) := by decide +kernel
theorem dL_law_677 : decode cL_law 677 = .ok (.bipush (-103), 2) := by decide +kernel
theorem dL_law_679 : decode cL_law 679 = .ok (.if_icmp .ne 7, 3) := by decide +kernel
theorem dL_law_682 : decode cL_law 682 = .ok (.iconst 1, 1) := by decide +kernel
theorem dL_law_683 : decode cL_law 683 = .ok (.goto 4, 3) := by decide +kernel
theorem dL_law_686 : decode cL_law 686 = .ok (.iconst 0, 1) := by decide +kernel
theorem dL_law_687 : decode cL_law 687 = .ok (.istore 7, 2) := by decide +kernel
theorem dL_law_689 : decode cL_law 689 = .ok (.goto 48, 3) := by decide +kernel
theorem dL_law_692 : decode cL_law 692 = .ok (.iload 9, 2) := by decide +kernel
theorem dL_law_694 : decode cL_law 694 = .ok (.bipush 8, 2) := by decide +kernel
theorem dL_law_696 : decode cL_law 696 = .ok (.irem, 1) := by decide +kernel
theorem dL_law_697 : decode cL_law 697 = .ok (.bipush 6, 2) := by decide +kernel
theorem dL_law_699 : decode cL_law 699 = .ok (.if_icmp .ne 38, 3) := by decide +kernel
theorem dL_law_702 : decode cL_law 702 = .ok (.aload_n 1, 1) := by decide +kernel
theorem dL_law_703 : decode cL_law 703 = .ok (.iload 11, 2) := by decide +kernel
theorem dL_law_705 : decode cL_law 705 = .ok (.iload 14, 2) := by decide +kernel
theorem dL_law_707 : decode cL_law 707 = .ok (.invokestatic 137, 3) := by decide +kernel
theorem dL_law_710 : decode cL_law 710 = .ok (.iload 17, 2) := by decide +kernel
theorem dL_law_712 : decode cL_law 712 = .ok (.if_icmp .ne 22, 3) := by decide +kernel
theorem dL_law_715 : decode cL_law 715 = .ok (.aload_n 1, 1) := by decide +kernel
theorem dL_law_716 : decode cL_law 716 = .ok (.iload 11, 2) := by decide +kernel
theorem dL_law_718 : decode cL_law 718 = .ok (.sipush 239, 3) := by decide +kernel
theorem dL_law_721 : decode cL_law 721 = .ok (.invokestatic 93, 3) := by decide +kernel
theorem dL_law_724 : decode cL_law 724 = .ok (.lload 15, 2) := by decide +kernel
theorem dL_law_726 : decode cL_law 726 = .ok (.lcmp, 1) := by decide +kernel
theorem dL_law_727 : decode cL_law 727 = .ok (.ifCond .ne 7, 3) := by decide +kernel
theorem dL_law_730 : decode cL_law 730 = .ok (.iconst 1, 1) := by decide +kernel
theorem dL_law_731 : decode cL_law 731 = .ok (.goto 4, 3) := by decide +kernel
theorem dL_law_734 : decode cL_law 734 = .ok (.iconst 0, 1) := by decide +kernel
theorem dL_law_735 : decode cL_law 735 = .ok (.istore 7, 2) := by decide +kernel
theorem dL_law_737 : decode cL_law 737 = .ok (.iconst 0, 1) := by decide +kernel
theorem dL_law_738 : decode cL_law 738 = .ok (.istore 14, 2) := by decide +kernel
theorem dL_law_740 : decode cL_law 740 = .ok (.iload 14, 2) := by decide +kernel
theorem dL_law_742 : decode cL_law 742 = .ok (.iload 6, 2) := by decide +kernel
theorem dL_law_744 : decode cL_law 744 = .ok (.if_icmp .ge 76, 3) := by decide +kernel
theorem dL_law_747 : decode cL_law 747 = .ok (.iload 7, 2) := by decide +kernel
theorem dL_law_749 : decode cL_law 749 = .ok (.ifCond .eq 71, 3) := by decide +kernel
theorem dL_law_752 : decode cL_law 752 = .ok (.aload_n 1, 1) := by decide +kernel
theorem dL_law_753 : decode cL_law 753 = .ok (.invokevirtual 100, 3) := by decide +kernel
theorem dL_law_756 : decode cL_law 756 = .ok (.ifCond .ne 7, 3) := by decide +kernel
theorem dL_law_759 : decode cL_law 759 = .ok (.lconst 0, 1) := by decide +kernel
theorem dL_law_760 : decode cL_law 760 = .ok (.goto 22, 3) := by decide +kernel
theorem dL_law_763 : decode cL_law 763 = .ok (.aload_n 1, 1) := by decide +kernel
theorem dL_law_764 : decode cL_law 764 = .ok (.iload 14, 2) := by decide +kernel
theorem dL_law_766 : decode cL_law 766 = .ok (.invokestatic 104, 3) := by decide +kernel
theorem dL_law_769 : decode cL_law 769 = .ok (.aload_n 1, 1) := by decide +kernel
theorem dL_law_770 : decode cL_law 770 = .ok (.iload 14, 2) := by decide +kernel
theorem dL_law_772 : decode cL_law 772 = .ok (.aload_n 1, 1) := by decide +kernel
theorem dL_law_773 : decode cL_law 773 = .ok (.invokevirtual 100, 3) := by decide +kernel
theorem dL_law_776 : decode cL_law 776 = .ok (.iconst 1, 1) := by decide +kernel
theorem dL_law_777 : decode cL_law 777 = .ok (.isub, 1) := by decide +kernel
theorem dL_law_778 : decode cL_law 778 = .ok (.invokestatic 93, 3) := by decide +kernel
theorem dL_law_781 : decode cL_law 781 = .ok (.lsub, 1) := by decide +kernel
theorem dL_law_782 : decode cL_law 782 = .ok (.lstore 15, 2) := by decide +kernel
theorem dL_law_784 : decode cL_law 784 = .ok (.aload_n 1, 1) := by decide +kernel
theorem dL_law_785 : decode cL_law 785 = .ok (.iload 14, 2) := by decide +kernel
theorem dL_law_787 : decode cL_law 787 = .ok (.invokestatic 107, 3) := by decide +kernel
theorem dL_law_790 : decode cL_law 790 = .ok (.lload 15, 2) := by decide +kernel
theorem dL_law_792 : decode cL_law 792 = .ok (.lconst 0, 1) := by decide +kernel
theorem dL_law_793 : decode cL_law 793 = .ok (.lcmp, 1) := by decide +kernel
theorem dL_law_794 : decode cL_law 794 = .ok (.ifCond .le 8, 3) := by decide +kernel
theorem dL_law_797 : decode cL_law 797 = .ok (.lload 15, 2) := by decide +kernel
theorem dL_law_799 : decode cL_law 799 = .ok (.goto 4, 3) := by decide +kernel
theorem dL_law_802 : decode cL_law 802 = .ok (.lconst 0, 1) := by decide +kernel
theorem dL_law_803 : decode cL_law 803 = .ok (.lcmp, 1) := by decide +kernel
theorem dL_law_804 : decode cL_law 804 = .ok (.ifCond .ne 7, 3) := by decide +kernel
theorem dL_law_807 : decode cL_law 807 = .ok (.iconst 1, 1) := by decide +kernel
theorem dL_law_808 : decode cL_law 808 = .ok (.goto 4, 3) := by decide +kernel
theorem dL_law_811 : decode cL_law 811 = .ok (.iconst 0, 1) := by decide +kernel
theorem dL_law_812 : decode cL_law 812 = .ok (.istore 7, 2) := by decide +kernel
theorem dL_law_814 : decode cL_law 814 = .ok (.iinc 14 1, 3) := by decide +kernel
theorem dL_law_817 : decode cL_law 817 = .ok (.goto (-77), 3) := by decide +kernel
theorem dL_law_820 : decode cL_law 820 = .ok (.iload 7, 2) := by decide +kernel
theorem dL_law_822 : decode cL_law 822 = .ok (.ifCond .eq 124, 3) := by decide +kernel
theorem dL_law_825 : decode cL_law 825 = .ok (.iload 6, 2) := by decide +kernel
theorem dL_law_827 : decode cL_law 827 = .ok (.ifCond .le 119, 3) := by decide +kernel
theorem dL_law_830 : decode cL_law 830 = .ok (.iload 8, 2) := by decide +kernel
theorem dL_law_832 : decode cL_law 832 = .ok (.iconst 3, 1) := by decide +kernel
theorem dL_law_833 : decode cL_law 833 = .ok (.irem, 1) := by decide +kernel
theorem dL_law_834 : decode cL_law 834 = .ok (.ifCond .ne 112, 3) := by decide +kernel
theorem dL_law_837 : decode cL_law 837 = .ok (.aload_n 1, 1) := by decide +kernel
theorem dL_law_838 : decode cL_law 838 = .ok (.iload 11, 2) := by decide +kernel
theorem dL_law_840 : decode cL_law 840 = .ok (.aload_n 3, 1) := by decide +kernel
theorem dL_law_841 : decode cL_law 841 = .ok (.iload 11, 2) := by decide +kernel
theorem dL_law_843 : decode cL_law 843 = .ok (.iaload, 1) := by decide +kernel
theorem dL_law_844 : decode cL_law 844 = .ok (.aload 4, 2) := by decide +kernel
theorem dL_law_846 : decode cL_law 846 = .ok (.iload 11, 2) := by decide +kernel
theorem dL_law_848 : decode cL_law 848 = .ok (.iaload, 1) := by decide +kernel
theorem dL_law_849 : decode cL_law 849 = .ok (.aload 5, 2) := by decide +kernel
theorem dL_law_851 : decode cL_law 851 = .ok (.iload 11, 2) := by decide +kernel
theorem dL_law_853 : decode cL_law 853 = .ok (.iaload, 1) := by decide +kernel
theorem dL_law_854 : decode cL_law 854 = .ok (.aload_n 2, 1) := by decide +kernel
theorem dL_law_855 : decode cL_law 855 = .ok (.invokestatic 139, 3) := by decide +kernel
theorem dL_law_858 : decode cL_law 858 = .ok (.istore 7, 2) := by decide +kernel
theorem dL_law_860 : decode cL_law 860 = .ok (.aload_n 1, 1) := by decide +kernel
theorem dL_law_861 : decode cL_law 861 = .ok (.iload 11, 2) := by decide +kernel
theorem dL_law_863 : decode cL_law 863 = .ok (.invokestatic 107, 3) := by decide +kernel
theorem dL_law_866 : decode cL_law 866 = .ok (.lstore 14, 2) := by decide +kernel
theorem dL_law_868 : decode cL_law 868 = .ok (.iload 7, 2) := by decide +kernel
theorem dL_law_870 : decode cL_law 870 = .ok (.ifCond .eq 73, 3) := by decide +kernel
theorem dL_law_873 : decode cL_law 873 = .ok (.lload 14, 2) := by decide +kernel
theorem dL_law_875 : decode cL_law 875 = .ok (.lconst 0, 1) := by decide +kernel
theorem dL_law_876 : decode cL_law 876 = .ok (.lcmp, 1) := by decide +kernel
theorem dL_law_877 : decode cL_law 877 = .ok (.ifCond .eq 12, 3) := by decide +kernel
theorem dL_law_880 : decode cL_law 880 = .ok (.lload 14, 2) := by decide +kernel
theorem dL_law_882 : decode cL_law 882 = .ok (.ldc2_w 143, 3) := by decide +kernel
theorem dL_law_885 : decode cL_law 885 = .ok (.lcmp, 1) := by decide +kernel
theorem dL_law_886 : decode cL_law 886 = .ok (.ifCond .le 28, 3) := by decide +kernel
theorem dL_law_889 : decode cL_law 889 = .ok (.aload_n 1, 1) := by decide +kernel
theorem dL_law_890 : decode cL_law 890 = .ok (.iload 11, 2) := by decide +kernel
theorem dL_law_892 : decode cL_law 892 = .ok (.ldc 145, 2) := by decide +kernel
theorem dL_law_894 : decode cL_law 894 = .ok (.invokestatic 146, 3) := by decide +kernel
theorem dL_law_897 : decode cL_law 897 = .ok (.ldc2_w 47, 3) := by decide +kernel
theorem dL_law_900 : decode cL_law 900 = .ok (.lcmp, 1) := by decide +kernel
theorem dL_law_901 : decode cL_law 901 = .ok (.ifCond .eq 38, 3) := by decide +kernel
theorem dL_law_904 : decode cL_law 904 = .ok (.lload 14, 2) := by decide +kernel
theorem dL_law_906 : decode cL_law 906 = .ok (.lconst 0, 1) := by decide +kernel
theorem dL_law_907 : decode cL_law 907 = .ok (.lcmp, 1) := by decide +kernel
theorem dL_law_908 : decode cL_law 908 = .ok (.ifCond .le 35, 3) := by decide +kernel
theorem dL_law_911 : decode cL_law 911 = .ok (.goto 28, 3) := by decide +kernel
theorem dL_law_914 : decode cL_law 914 = .ok (.aload_n 1, 1) := by decide +kernel
theorem dL_law_915 : decode cL_law 915 = .ok (.iload 11, 2) := by decide +kernel
theorem dL_law_917 : decode cL_law 917 = .ok (.lload 14, 2) := by decide +kernel
theorem dL_law_919 : decode cL_law 919 = .ok (.l2i, 1) := by decide +kernel
theorem dL_law_920 : decode cL_law 920 = .ok (.invokestatic 146, 3) := by decide +kernel
theorem dL_law_923 : decode cL_law 923 = .ok (.lconst 0, 1) := by decide +kernel
theorem dL_law_924 : decode cL_law 924 = .ok (.lcmp, 1) := by decide +kernel
theorem dL_law_925 : decode cL_law 925 = .ok (.ifCond .ne 18, 3) := by decide +kernel
theorem dL_law_928 : decode cL_law 928 = .ok (.aload_n 1, 1) := by decide +kernel
theorem dL_law_929 : decode cL_law 929 = .ok (.iload 11, 2) := by decide +kernel
theorem dL_law_931 : decode cL_law 931 = .ok (.invokestatic 107, 3) := by decide +kernel
theorem dL_law_934 : decode cL_law 934 = .ok (.lconst 0, 1) := by decide +kernel
theorem dL_law_935 : decode cL_law 935 = .ok (.lcmp, 1) := by decide +kernel
theorem dL_law_936 : decode cL_law 936 = .ok (.ifCond .ne 7, 3) := by decide +kernel
theorem dL_law_939 : decode cL_law 939 = .ok (.iconst 1, 1) := by decide +kernel
theorem dL_law_940 : decode cL_law 940 = .ok (.goto 4, 3) := by decide +kernel
theorem dL_law_943 : decode cL_law 943 = .ok (.iconst 0, 1) := by decide +kernel
theorem dL_law_944 : decode cL_law 944 = .ok (.istore 7, 2) := by decide +kernel
theorem dL_law_946 : decode cL_law 946 = .ok (.iinc 8 1, 3) := by decide +kernel
theorem dL_law_949 : decode cL_law 949 = .ok (.goto (-863), 3) := by decide +kernel
theorem dL_law_952 : decode cL_law 952 = .ok (.iload 7, 2) := by decide +kernel
theorem dL_law_954 : decode cL_law 954 = .ok (.ireturn, 1) := by decide +kernel
abbrev vwCl : List vw_C := [(RX0, TX0, 13), (RX1, TX1, 4)]
end
section
/-! the pure side: what an annuity is worth, in natural numbers. an : 0 start, 1 amount, 2 guarantee, 3 percent, 4 steps on first (1) or not (0), 5 cap, 6 price, 7 protected percent, 8 and 9 the deaths (240: not told) -/
def jcl (w : Int32) (ca : Nat) : Nat := if w < 0 then 0 else if nI ca < w then ca else w.toNatClampNeg
def jgr (am ca y : Nat) (iv : Nat → Int32) : Nat → Nat × Int32
  | 0 => (am, 0)
  | a + 1 => if y + a < 20 then ((jgr am ca y iv a).1 + (jgr am ca y iv a).1 * jcl (iv (y + a) + (jgr am ca y iv a).2) ca / 1000, iv (y + a) + (jgr am ca y iv a).2 - nI (jcl (iv (y + a) + (jgr am ca y iv a).2) ca)) else jgr am ca y iv a
def jF (an : Nat → Nat) (iv : Nat → Int32) (a : Nat) : Nat := (jgr (an 1) (an 5) (an 0 / 12) iv a).1
def jC (an : Nat → Nat) (iv : Nat → Int32) (a : Nat) : Int32 := (jgr (an 1) (an 5) (an 0 / 12) iv a).2
def jM (an : Nat → Nat) (iv : Nat → Int32) (k : Nat) : Nat := jF an iv ((k - an 0) / 12)
def jS (an : Nat → Nat) (iv : Nat → Int32) (k : Nat) : Nat :=
  if k < an 0 + an 2 then jM an iv k
  else if k ≤ an 8 then (if k ≤ an 9 then jM an iv k else if an 4 = 0 then jM an iv k else jM an iv k * an 3 / 100)
  else if k ≤ an 9 then jM an iv k * an 3 / 100 else 0
def jT (an : Nat → Nat) (iv : Nat → Int32) : Nat → Nat
  | 0 => 0
  | e + 1 => jT an iv e + (if an 0 ≤ e then jS an iv e else 0)
def jP (an : Nat → Nat) : Nat := if an 8 = 240 ∨ an 9 = 240 then 240 else min (max (max (an 8) (an 9) + 1) (an 0 + an 2)) 240
def jQ (an : Nat → Nat) (iv : Nat → Int32) : Nat := if jP an = 240 then 0 else an 6 * an 7 / 100 - jT an iv (jP an)
def jU (an : Nat → Nat) (iv : Nat → Int32) (e : Nat) : Nat := jT an iv e + (if jP an < e then jQ an iv else 0)
/-- an annuity's numbers are in range -/
def jV (an : Nat → Nat) : Prop := an 0 < 240 ∧ an 1 ≤ 100000 ∧ an 2 ≤ 240 ∧ an 3 ≤ 100 ∧ an 4 ≤ 1 ∧ an 5 ≤ 200 ∧ an 6 ≤ 10000000 ∧ an 7 ≤ 100 ∧ an 8 ≤ 240 ∧ an 9 ≤ 240
def jB : Nat → Nat
  | 0 => 100000
  | a + 1 => jB a + jB a * 200 / 1000
theorem jB_mono (a b : Nat) (h : a ≤ b) : jB a ≤ jB b := by
  induction b with
  | zero =>
    have : a = 0 := by omega
    subst this
    exact Nat.le_refl _
  | succ b ih =>
    by_cases h1 : a = b + 1
    · subst h1; exact Nat.le_refl _
    · have h2 := ih (by omega)
      show jB a ≤ jB b + jB b * 200 / 1000
      omega
theorem jB19 : jB 19 ≤ 3200000 := by decide +kernel
theorem nI_toNat {w : Int32} (h : ¬ w < 0) : w = nI w.toNatClampNeg := by
  obtain ⟨j, hj, rfl⟩ := nI_of h
  rw [nI_clamp hj]
theorem jcl_le (w : Int32) {ca : Nat} (hc : ca < 2 ^ 31) : jcl w ca ≤ ca := by
  unfold jcl
  by_cases h1 : w < 0
  · rw [if_pos h1]; exact Nat.zero_le _
  · rw [if_neg h1]
    by_cases h2 : nI ca < w
    · rw [if_pos h2]; exact Nat.le_refl _
    · rw [if_neg h2]
      obtain ⟨j, hj, rfl⟩ := nI_of h1
      rw [nI_clamp hj]
      rw [nI_ltI hc hj] at h2
      omega
theorem jF_le {an : Nat → Nat} (hv : jV an) (iv : Nat → Int32) (a : Nat) : jF an iv a ≤ jB a := by
  obtain ⟨h0, h1, -, -, -, h5, -⟩ := hv
  unfold jF
  induction a with
  | zero => exact h1
  | succ a ih =>
    have hc := jcl_le (iv (an 0 / 12 + a) + (jgr (an 1) (an 5) (an 0 / 12) iv a).2) (ca := an 5) (by omega)
    show (if _ then _ else _ : Nat × Int32).1 ≤ jB a + jB a * 200 / 1000
    split
    · generalize jcl (iv (an 0 / 12 + a) + (jgr (an 1) (an 5) (an 0 / 12) iv a).2) (an 5) = x at hc ⊢
      generalize (jgr (an 1) (an 5) (an 0 / 12) iv a).1 = f at ih ⊢
      have h9 : f * x ≤ jB a * 200 := Nat.mul_le_mul ih (by omega)
      show f + f * x / 1000 ≤ _
      have := Nat.div_le_div_right (c := 1000) h9
      omega
    · omega
theorem jF_bd {an : Nat → Nat} (hv : jV an) (iv : Nat → Int32) {a : Nat} (ha : a ≤ 19) : jF an iv a ≤ 3200000 := Nat.le_trans (jF_le hv iv a) (Nat.le_trans (jB_mono a 19 ha) jB19)
theorem jM_bd {an : Nat → Nat} (hv : jV an) (iv : Nat → Int32) {k : Nat} (hk : k < 240) : jM an iv k ≤ 3200000 := jF_bd hv iv (by omega)
theorem jpct {f p : Nat} (hf : f ≤ 3200000) (hp : p ≤ 100) : f * p ≤ 320000000 ∧ f * p / 100 ≤ 3200000 := by
  have h := Nat.mul_le_mul hf hp
  omega
theorem jS_bd {an : Nat → Nat} (hv : jV an) (iv : Nat → Int32) {k : Nat} (hk : k < 240) : jS an iv k ≤ 3200000 := by
  have h1 := jM_bd hv iv hk
  have h2 := (jpct h1 hv.2.2.2.1).2
  unfold jS
  split
  · exact h1
  · split
    · split
      · exact h1
      · split
        · exact h1
        · exact h2
    · split
      · exact h2
      · exact Nat.zero_le _
theorem jT_bd {an : Nat → Nat} (hv : jV an) (iv : Nat → Int32) {e : Nat} (he : e ≤ 240) : jT an iv e ≤ e * 3200000 := by
  induction e with
  | zero => exact Nat.le_refl _
  | succ e ih =>
    have h1 := ih (by omega)
    have h2 := jS_bd hv iv (k := e) (by omega)
    show jT an iv e + (if an 0 ≤ e then jS an iv e else 0) ≤ (e + 1) * 3200000
    rw [Nat.succ_mul]
    by_cases h : an 0 ≤ e
    · rw [if_pos h]; exact Nat.add_le_add h1 h2
    · rw [if_neg h]; exact Nat.le_trans h1 (Nat.le_add_right _ _)
theorem jT_le {an : Nat → Nat} (hv : jV an) (iv : Nat → Int32) {e : Nat} (he : e ≤ 240) : jT an iv e ≤ 768000000 := by
  have := jT_bd hv iv he
  omega
theorem jT_0 (an : Nat → Nat) (iv : Nat → Int32) {e : Nat} (he : e ≤ an 0) : jT an iv e = 0 := by
  induction e with
  | zero => rfl
  | succ e ih =>
    show jT an iv e + (if an 0 ≤ e then jS an iv e else 0) = 0
    rw [ih (by omega), if_neg (by omega)]
theorem jT_s (an : Nat → Nat) (iv : Nat → Int32) {e : Nat} (he : an 0 ≤ e) : jT an iv (e + 1) = jT an iv e + jS an iv e := by
  show jT an iv e + (if an 0 ≤ e then jS an iv e else 0) = _
  rw [if_pos he]
theorem jP_le (an : Nat → Nat) : jP an ≤ 240 := by
  unfold jP
  split
  · exact Nat.le_refl _
  · exact Nat.min_le_right _ _
theorem jP_ge (an : Nat → Nat) (h : an 0 < 240) : an 0 ≤ jP an := by
  unfold jP
  split
  · omega
  · omega
theorem jpr {a b : Nat} (ha : a ≤ 10000000) (hb : b ≤ 100) : a * b ≤ 1000000000 := Nat.mul_le_mul ha hb
theorem jQ_le {an : Nat → Nat} (hv : jV an) (iv : Nat → Int32) : jQ an iv ≤ 10000000 := by
  have h := jpr hv.2.2.2.2.2.2.1 hv.2.2.2.2.2.2.2.1
  unfold jQ
  split
  · omega
  · omega
theorem jU_le {an : Nat → Nat} (hv : jV an) (iv : Nat → Int32) {e : Nat} (he : e ≤ 240) : jU an iv e ≤ 778000000 := by
  have h1 := jT_le hv iv he
  have h2 := jQ_le hv iv
  unfold jU
  split <;> omega
/-- one month more, the protection in it -/
theorem jU_s {an : Nat → Nat} (iv : Nat → Int32) {e : Nat} (hs : an 0 ≤ e) (he : e < 240) : jU an iv (e + 1) = (if e = jP an ∧ jU an iv e < an 6 * an 7 / 100 then an 6 * an 7 / 100 else jU an iv e) + jS an iv e := by
  have h1 := jT_s an iv hs
  unfold jU
  rw [h1]
  generalize jS an iv e = x
  rcases Nat.lt_trichotomy e (jP an) with h | h | h
  · rw [if_neg (show ¬ jP an < e + 1 by omega), if_neg (show ¬ jP an < e by omega), if_neg (fun q => absurd q.1 (by omega))]
    omega
  · have h3 : jQ an iv = an 6 * an 7 / 100 - jT an iv e := by
      unfold jQ
      rw [if_neg (by omega), ← h]
    rw [if_pos (show jP an < e + 1 by omega), if_neg (show ¬ jP an < e by omega), h3]
    generalize an 6 * an 7 / 100 = y
    generalize jT an iv e = z
    by_cases h4 : z + 0 < y
    · rw [if_pos ⟨h, h4⟩]; omega
    · rw [if_neg (fun q => h4 q.2)]; omega
  · rw [if_pos (show jP an < e + 1 by omega), if_pos (show jP an < e by omega), if_neg (fun q => absurd q.1 (by omega))]
    omega
theorem jU_0 {an : Nat → Nat} (iv : Nat → Int32) {e : Nat} (h : an 0 < 240) (he : e ≤ an 0) : jU an iv e = 0 := by
  have := jP_ge an h
  unfold jU
  rw [jT_0 an iv he, if_neg (by omega)]
theorem jgr_0 (am ca y : Nat) (iv : Nat → Int32) : jgr am ca y iv 0 = (am, 0) := rfl
theorem jF_0 (an : Nat → Nat) (iv : Nat → Int32) : jF an iv 0 = an 1 := rfl
theorem jC_0 (an : Nat → Nat) (iv : Nat → Int32) : jC an iv 0 = 0 := rfl
theorem jF_s (an : Nat → Nat) (iv : Nat → Int32) {a : Nat} (h : an 0 / 12 + a < 20) : jF an iv (a + 1) = jF an iv a + jF an iv a * jcl (iv (an 0 / 12 + a) + jC an iv a) (an 5) / 1000 := by
  unfold jF jC
  show (if _ then _ else _ : Nat × Int32).1 = _
  rw [if_pos h]
theorem jC_s (an : Nat → Nat) (iv : Nat → Int32) {a : Nat} (h : an 0 / 12 + a < 20) : jC an iv (a + 1) = iv (an 0 / 12 + a) + jC an iv a - nI (jcl (iv (an 0 / 12 + a) + jC an iv a) (an 5)) := by
  unfold jC
  show (if _ then _ else _ : Nat × Int32).2 = _
  rw [if_pos h]
theorem jF_n (an : Nat → Nat) (iv : Nat → Int32) {a : Nat} (h : ¬ an 0 / 12 + a < 20) : jF an iv (a + 1) = jF an iv a := by
  unfold jF
  show (if _ then _ else _ : Nat × Int32).1 = _
  rw [if_neg h]
theorem jC_n (an : Nat → Nat) (iv : Nat → Int32) {a : Nat} (h : ¬ an 0 / 12 + a < 20) : jC an iv (a + 1) = jC an iv a := by
  unfold jC
  show (if _ then _ else _ : Nat × Int32).2 = _
  rw [if_neg h]
/-- the increase as the class has it, and as the reference has it -/
theorem jcl_A (w : Int32) {ca : Nat} (hc : ca < 2 ^ 31) : (if (0 : Int32) < (if nI ca < w then nI ca else w) then (if nI ca < w then nI ca else w) else 0) = nI (jcl w ca) := by
  unfold jcl
  by_cases h1 : w < 0
  · have h2 : ¬ nI ca < w := by
      intro h
      have h3 := nI_pos' hc
      rw [Int32.lt_iff_toInt_lt] at h h1
      rw [Int32.le_iff_toInt_le] at h3
      omega
    rw [if_pos h1, if_neg h2, if_neg]
    · rfl
    · intro h
      rw [Int32.lt_iff_toInt_lt] at h h1
      omega
  · rw [if_neg h1]
    obtain ⟨j, hj, rfl⟩ := nI_of h1
    rw [nI_clamp hj]
    by_cases h2 : nI ca < nI j
    · rw [if_pos h2, if_pos h2]
      by_cases h3 : ca = 0
      · subst h3
        rfl
      · rw [if_pos]
        rw [← nI_0, nI_ltI (by omega) hc]
        omega
    · rw [if_neg h2, if_neg h2]
      by_cases h3 : j = 0
      · subst h3
        rfl
      · rw [if_pos]
        rw [← nI_0, nI_ltI (by omega) hj]
        omega
theorem jcl_M (w : Int32) {ca : Nat} (hc : ca < 2 ^ 31) : (if w ≤ nI ca then (if (0 : Int32) ≤ w then w else 0) else nI ca) = nI (jcl w ca) := by
  unfold jcl
  by_cases h1 : w < 0
  · have h3 := nI_pos' hc
    rw [if_pos h1, if_pos, if_neg]
    · rfl
    · intro h
      rw [Int32.lt_iff_toInt_lt] at h1
      rw [Int32.le_iff_toInt_le] at h
      omega
    · rw [Int32.lt_iff_toInt_lt] at h1
      rw [Int32.le_iff_toInt_le] at h3 ⊢
      omega
  · rw [if_neg h1]
    obtain ⟨j, hj, rfl⟩ := nI_of h1
    rw [nI_clamp hj]
    by_cases h2 : nI ca < nI j
    · rw [if_pos h2, if_neg]
      rw [nI_ltI hc hj] at h2
      rw [nI_leI hj hc]
      omega
    · rw [if_neg h2, if_pos, if_pos (nI_pos' hj)]
      rw [nI_ltI hc hj] at h2
      rw [nI_leI hj hc]
      omega
/-- the growth in ints -/
theorem jgrow {f i : Nat} (hf : f ≤ 3200000) (hi : i ≤ 200) : nI f + nI f * nI i / 1000 = nI (f + f * i / 1000) := by
  have h := Nat.mul_le_mul hf hi
  rw [pk_mul, show (1000 : Int32) = nI 1000 from rfl, pk_div (by omega) (by omega) (by omega), nI_add]
theorem jpctI {f p : Nat} (hf : f ≤ 3200000) (hp : p ≤ 100) : nI f * nI p / 100 = nI (f * p / 100) := by
  have h := Nat.mul_le_mul hf hp
  rw [pk_mul, show (100 : Int32) = nI 100 from rfl, pk_div (by omega) (by omega) (by omega)]
theorem jpctL {f p : Nat} (hf : f ≤ 3200000) (hp : p ≤ 100) : lN f * lN p / 100 = lN (f * p / 100) := by
  have h := Nat.mul_le_mul hf hp
  rw [lN_mul, show (100 : Int64) = lN 100 from rfl, pk_lDiv (by omega) (by omega) (by omega)]
theorem jprI {f p : Nat} (hf : f ≤ 10000000) (hp : p ≤ 100) : nI f * nI p / 100 = nI (f * p / 100) := by
  have h := Nat.mul_le_mul hf hp
  rw [pk_mul, show (100 : Int32) = nI 100 from rfl, pk_div (by omega) (by omega) (by omega)]
theorem jprL {f p : Nat} (hf : f ≤ 10000000) (hp : p ≤ 100) : lN f * lN p / 100 = lN (f * p / 100) := by
  have h := Nat.mul_le_mul hf hp
  rw [lN_mul, show (100 : Int64) = lN 100 from rfl, pk_lDiv (by omega) (by omega) (by omega)]
/-- the larger of 0 and a difference of longs that are small -/
theorem jmaxL {a b : Nat} (ha : a < 2 ^ 31) (hb : b < 2 ^ 31) : (if lN a - lN b < (0 : Int64) then (0 : Int64) else lN a - lN b) = lN (a - b) := by
  by_cases h : b ≤ a
  · rw [lN_sub h, if_neg]
    rw [show (0 : Int64) = lN 0 from rfl, lN_lt (by omega) (by omega)]
    omega
  · have e : lN a - lN b = -(lN (b - a)) := by
      rw [← lN_sub (show a ≤ b by omega), Int64.neg_sub]
    have h0 : (-(lN (b - a))).toInt = -((b - a : Nat) : Int) := Int64.toInt_neg_ofNat_of_le (n := b - a) (by omega)
    rw [if_pos]
    · rw [show a - b = 0 by omega]; rfl
    · rw [e, Int64.lt_iff_toInt_lt, h0]
      show -((b - a : Nat) : Int) < 0
      omega
theorem jmaxI {a b : Nat} (ha : a < 2 ^ 31) (hb : b < 2 ^ 31) : (if nI a < nI b then nI b else nI a) = nI (max a b) := by
  by_cases h : a < b
  · rw [if_pos ((nI_ltI ha hb).mpr h), Nat.max_eq_right (by omega)]
  · rw [if_neg (fun q => h ((nI_ltI ha hb).mp q)), Nat.max_eq_left (by omega)]
theorem jminI {a b : Nat} (ha : a < 2 ^ 31) (hb : b < 2 ^ 31) : (if nI b < nI a then nI b else nI a) = nI (min a b) := by
  by_cases h : b < a
  · rw [if_pos ((nI_ltI hb ha).mpr h), Nat.min_eq_right (by omega)]
  · rw [if_neg (fun q => h ((nI_ltI hb ha).mp q)), Nat.min_eq_left (by omega)]
theorem jmaxL2 {a b : Nat} (ha : a < 2 ^ 31) (hb : b < 2 ^ 31) : (if lN a - lN b < lN 0 then lN 0 else lN a - lN b) = lN (a - b) := jmaxL ha hb
/-- the larger of 0 and a long -/
def jmx (z : Int64) : Int64 := if z < 0 then 0 else z
theorem jmx_of (z : Int64) : (if z < lN 0 then lN 0 else z) = jmx z := rfl
end
section
/-! my own rows over the kit: heads of contracts, calls, worlds cut out and put back, what a throw needs -/
section JK
variable {p : Program} {l : Launch} {e : Env} {R : Room} {s : State} {m : MethodId} {args : Array Value} {below : List Frame} {meth : Method} {c : Code} {H : Heap} {locs : List Loc} {cells slots : Nat} {Q : State → Prop}
variable {pc : Nat} {ls : Array Slot} {rest st0 : List Value}
/-- a value on top of the stack, written otherwise -/
theorem j_i {x y : Int32} (h : x = y) (k : W p l e R s m args below meth c H locs cells slots Q (F0 m pc ls (.int y :: rest))) : W p l e R s m args below meth c H locs cells slots Q (F0 m pc ls (.int x :: rest)) := h ▸ k
theorem j_l {x y : Int64} (h : x = y) (k : W p l e R s m args below meth c H locs cells slots Q (F0 m pc ls (.long y :: rest))) : W p l e R s m args below meth c H locs cells slots Q (F0 m pc ls (.long x :: rest)) := h ▸ k
/-- several roads meet: the rest is walked once -/
theorem j_join {α : Type} (P : α → Prop) (f : α → JFrame) {g : JFrame} (J : ∀ a, P a → W p l e R s m args below meth c H locs cells slots Q (f a)) (k : (∀ a, P a → W p l e R s m args below meth c H locs cells slots Q (f a)) → W p l e R s m args below meth c H locs cells slots Q g) : W p l e R s m args below meth c H locs cells slots Q g := k J
theorem j_v {x y : Value} (h : x = y) (k : W p l e R s m args below meth c H locs cells slots Q (F0 m pc ls (y :: rest))) : W p l e R s m args below meth c H locs cells slots Q (F0 m pc ls (x :: rest)) := h ▸ k
end JK
section JH
variable {l : Launch} {y : MethodName} {ws ws' : List Cond} {rm : Room} {vs : List Value} {B : State → Prop} {Qc : Array Value → State → Outcome → State → Prop} {XC : String → State → State → Prop} {mc ms : Nat} {free : Addr → Prop} {cc : ByteArray} {maxL : Nat} {ret : Option FieldType} {hh : List (Nat × Nat × Nat × Nat)}
/-- the head of a contract of a method that returns -/
theorem j_of (hy : plainName y.cls = true) (hw : ws = Cond.code y cc maxL ret :: ws') (hlen : (lg_sl vs).length ≤ maxL)
    (body : ∀ (p : Program) (e : Env) (s : State) (m : MethodId) (below : List Frame) (meth : Method) (c : Code) (ls : Array Slot), p.tables.exec = Jvm.exec → c.code = cc → meth.sig.returnType = ret → c.maxLocals = maxL → (∀ w ∈ ws, w.before vs.toArray s = true) → s.vm.findClass y.cls = some m.cls → meth.locks = false → meth.name = y.name → lv_has ls maxL (lv_args 0 vs) → B s →
      W p l e rm s m vs.toArray below meth c s.heap [] 0 0 (MQ below Qc vs.toArray s mc ms free) (F0 m 0 ls [])) : Met l y ws rm (va_Pc vs B) Qc mc ms free := by
  refine Met.ofW (cc := cc) (maxL := maxL) (ret := ret) hy hw ?_
  intro p e s m args below meth c s₁ Bd hml hv
  obtain ⟨rfl, hB⟩ := hv
  rw [lg_entry_eq]
  exact body p e s m below meth c _ Bd.exec Bd.bytes Bd.returns hml (atoms_spec (ws := ws) Bd.pre) (findClass_of_methodNamed Bd.named) Bd.notSynchronized (name_of_methodNamed Bd.named Bd.method).1 (lv_entry vs hlen) hB
/-- .. that returns or throws -/
theorem j_ofx (hy : plainName y.cls = true) (hw : ws = Cond.code y cc maxL ret :: ws') (hlen : (lg_sl vs).length ≤ maxL)
    (body : ∀ (p : Program) (e : Env) (s : State) (m : MethodId) (below : List Frame) (meth : Method) (c : Code) (ls : Array Slot), p.tables.exec = Jvm.exec → c.code = cc → meth.sig.returnType = ret → c.maxLocals = maxL → (∀ w ∈ ws, w.before vs.toArray s = true) → s.vm.findClass y.cls = some m.cls → meth.locks = false → (∀ x ∈ c.exceptionTable.toList, False) → lv_has ls maxL (lv_args 0 vs) → B s →
      W p l e rm s m vs.toArray below meth c s.heap [] 0 0 (vx_MQ below Qc XC vs.toArray s mc ms free) (F0 m 0 ls [])) : vx_Met l y ws rm (va_Pc vs B) Qc XC mc ms free := by
  refine vx_ofW (cc := cc) (maxL := maxL) (ret := ret) hy hw ?_
  intro p e s m args below meth c s₁ Bd hml ht hv
  obtain ⟨rfl, hB⟩ := hv
  rw [lg_entry_eq]
  exact body p e s m below meth c _ Bd.exec Bd.bytes Bd.returns hml (atoms_spec (ws := ws) Bd.pre) (findClass_of_methodNamed Bd.named) Bd.notSynchronized ht (lv_entry vs hlen) hB
/-- .. with handlers -/
theorem j_ofh (hy : plainName y.cls = true) (hw : ws = Cond.codeWith y cc maxL ret hh :: ws') (hlen : (lg_sl vs).length ≤ maxL)
    (body : ∀ (p : Program) (e : Env) (s : State) (m : MethodId) (below : List Frame) (meth : Method) (c : Code) (ls : Array Slot), p.tables.exec = Jvm.exec → c.code = cc → meth.sig.returnType = ret → c.maxLocals = maxL → (∀ w ∈ ws, w.before vs.toArray s = true) → s.vm.findClass y.cls = some m.cls → meth.locks = false → c.exceptionTable.toList = tableOf hh → lv_has ls maxL (lv_args 0 vs) → B s →
      W p l e rm s m vs.toArray below meth c s.heap [] 0 0 (MQ below Qc vs.toArray s mc ms free) (F0 m 0 ls [])) : Met l y ws rm (va_Pc vs B) Qc mc ms free := by
  refine va_MetW (cc := cc) (maxL := maxL) (ret := ret) (hh := hh) hy hw ?_
  intro p e s m args below meth c s₁ Bd hml hv
  obtain ⟨rfl, hB⟩ := hv
  rw [lg_entry_eq]
  have hts := atoms_spec (ws := ws) Bd.pre
  exact body p e s m below meth c _ Bd.exec Bd.bytes Bd.returns hml hts (findClass_of_methodNamed Bd.named) Bd.notSynchronized (vx_table (x := y) Bd (hts _ (by rw [hw]; exact List.mem_cons_self))) (lv_entry vs hlen) hB
end JH
/-! worlds -/
/-- the addresses of a world -/
def jA (ws : va_W) : Nat → Prop := fun q => ∃ (k : Nat) (e : va_E), ws[k]? = some (q, e)
theorem va_D.addr {A : Nat → Prop} {ws wn : va_W} (h : va_D A ws) (ha : ws.map (·.1) = wn.map (·.1)) : va_D A wn := by
  have g : ∀ (k : Nat) (q : Nat × va_E), wn[k]? = some q → ∃ q0, ws[k]? = some q0 ∧ q0.1 = q.1 := by
    intro k q hk
    have h1 : (wn.map (·.1))[k]? = some q.1 := by rw [List.getElem?_map, hk]; rfl
    rw [← ha, List.getElem?_map] at h1
    cases h2 : ws[k]? with
    | none => rw [h2] at h1; cases h1
    | some q0 => rw [h2] at h1; exact ⟨q0, rfl, Option.some.inj h1⟩
  refine ⟨fun i j p q hi hj e => ?_, fun k q hk => ?_⟩
  · obtain ⟨p0, h1, e1⟩ := g i p hi
    obtain ⟨q0, h2, e2⟩ := g j q hj
    exact h.1 i j p0 q0 h1 h2 (by rw [e1, e2]; exact e)
  · obtain ⟨q0, h1, e1⟩ := g k q hk
    rw [← e1]
    exact h.2 k q0 h1
theorem va_D.jA {A : Nat → Prop} {ws : va_W} (h : va_D A ws) : va_D (jA ws) ws := ⟨h.1, fun k q hk => ⟨k, q.2, hk⟩⟩
theorem jA_sub {A : Nat → Prop} {ws wc : va_W} (hD : va_D A ws) (is : List Nat) (hC : is.map (fun i => ws[i]?) = wc.map some) : ∀ q, jA wc q → A q := by
  intro q ⟨k, e, h⟩
  have h1 : (is.map (fun i => ws[i]?))[k]? = some (some (q, e)) := by rw [hC, List.getElem?_map, h]; rfl
  rw [List.getElem?_map] at h1
  cases h2 : is[k]? with
  | none => rw [h2] at h1; cases h1
  | some i => rw [h2] at h1; exact hD.2 i _ (Option.some.inj h1)
/-- behind a call: the callee's world put back in its places -/
theorem j_merge {A0 : Nat → Prop} {D : va_G} {cl : List vw_C} {ws wn wc w1 : va_W} {H H1 : Heap} (hP : va_P D cl ws H) (hD : va_D A0 ws) (is ir : List Nat) (hC : is.map (fun i => ws[i]?) = wc.map some) (hN : is.map (fun i => wn[i]?) = w1.map some) (ha : ws.map (·.1) = wn.map (·.1))
    (hR : ir.map (fun i => wn[i]?) = ir.map (fun i => ws[i]?)) (hcov : ∀ i, i < wn.length → i ∈ is ∨ i ∈ ir) (hk : ∀ q : Nat, q < H.size → ¬ jA wc q → H1[q]? = H[q]?) (hP1 : va_P D cl w1 H1) : va_P D cl wn H1 ∧ va_D A0 wn := by
  refine ⟨fun k q hq => ?_, hD.addr ha⟩
  by_cases h1 : k ∈ is
  · obtain ⟨j, hj⟩ := List.getElem?_of_mem h1
    have h2 : (is.map (fun i => wn[i]?))[j]? = some (some q) := by rw [List.getElem?_map, hj]; exact congrArg some hq
    rw [hN, List.getElem?_map] at h2
    cases h3 : w1[j]? with
    | none => rw [h3] at h2; cases h2
    | some q1 =>
      rw [h3] at h2
      cases Option.some.inj (Option.some.inj h2)
      exact hP1 j q h3
  · have h2 := (hcov k (List.getElem?_eq_some_iff.mp hq).1).resolve_left h1
    obtain ⟨j, hj⟩ := List.getElem?_of_mem h2
    have h3 : (ir.map (fun i => wn[i]?))[j]? = some (some q) := by rw [List.getElem?_map, hj]; exact congrArg some hq
    rw [hR, List.getElem?_map, hj] at h3
    have h4 : ws[k]? = some q := Option.some.inj h3
    refine (hP k q h4).kept (hk q.1 (hP k q h4).lt ?_)
    intro ⟨j2, e2, h5⟩
    have h6 : (is.map (fun i => ws[i]?))[j2]? = some (some (q.1, e2)) := by rw [hC, List.getElem?_map, h5]; rfl
    rw [List.getElem?_map] at h6
    cases h7 : is[j2]? with
    | none => rw [h7] at h6; cases h6
    | some i =>
      rw [h7] at h6
      have h8 : i = k := hD.1 i k _ _ (Option.some.inj h6) h4 rfl
      exact h1 (by rw [← h8]; exact List.mem_of_getElem? h7)
/-- .. by what lies in the new world -/
theorem j_wu {A0 : Nat → Prop} {D : va_G} {cl : List vw_C} {ws wn wc w1 : va_W} {H H1 : Heap} (hP : va_P D cl ws H) (hD : va_D A0 ws) (ha : ws.map (·.1) = wn.map (·.1)) (hk : ∀ q : Nat, q < H.size → ¬ jA wc q → H1[q]? = H[q]?) (hP1 : va_P D cl w1 H1)
    (h : ∀ q ∈ wn, q ∈ w1 ∨ (q ∈ ws ∧ ∀ z ∈ wc, z.1 ≠ q.1)) : va_P D cl wn H1 ∧ va_D A0 wn := by
  refine ⟨fun k q hq => ?_, hD.addr ha⟩
  rcases h q (List.mem_of_getElem? hq) with h1 | ⟨h1, h2⟩
  · obtain ⟨j, hj⟩ := List.getElem?_of_mem h1
    exact hP1 j q hj
  · obtain ⟨j, hj⟩ := List.getElem?_of_mem h1
    refine (hP j q hj).kept (hk q.1 (hP j q hj).lt ?_)
    intro ⟨j2, e2, h5⟩
    exact h2 _ (List.mem_of_getElem? h5) rfl
/-- an array's contents, by what they are below its length -/
theorem j_cI {cA : ClassId} {n : Nat} {f g : Nat → Int32} (h : ∀ j, j < n → f j = g j) : vp_cell cA (n, .inl f) = vp_cell cA (n, .inl g) := by
  rw [vp_cell_i, vp_cell_i]
  unfold arrV
  congr 2
  funext j
  exact congrArg Value.int (h j.1 j.2)
theorem j_cL {cA : ClassId} {n : Nat} {f g : Nat → Int64} (h : ∀ j, j < n → f j = g j) : vp_cell cA (n, .inr (.inl f)) = vp_cell cA (n, .inr (.inl g)) := by
  rw [vp_cell_l, vp_cell_l]
  unfold arrV
  congr 2
  funext j
  exact congrArg Value.long (h j.1 j.2)
/-- one cell of a world, said otherwise -/
theorem j_same {D : va_G} {cl : List vw_C} {ws wn : va_W} {H : Heap} (hP : va_P D cl ws H) (hlen : ws.length = wn.length) (h : ∀ k, k < ws.length → wn[k]? = ws[k]? ∨ ∃ (a : Nat) (x y : ClassId × vp_A), ws[k]? = some (a, .inl x) ∧ wn[k]? = some (a, .inl y) ∧ vp_cell x.1 x.2 = vp_cell y.1 y.2) : va_P D cl wn H := by
  intro k q hq
  have hk := (List.getElem?_eq_some_iff.mp hq).1
  rcases h k (by omega) with h1 | ⟨a, x, y, h1, h2, h3⟩
  · exact hP k q (by rw [← h1]; exact hq)
  · rw [h2] at hq
    cases hq
    have h4 : H[a]? = some (vp_cell x.1 x.2) := hP k _ h1
    show H[a]? = some (vp_cell y.1 y.2)
    rw [← h3]
    exact h4
theorem j_h {D : va_G} {cl : List vw_C} {ws : va_W} {t : State} {H : Heap} (ht : t.heap = H) (h : va_P D cl ws H) : va_P D cl ws t.heap := by rw [ht]; exact h
/-- a class of arrays is found by its name -/
theorem j_cls {D : va_G} {cl : List vw_C} {tys : List (ClassId × FieldType)} {U : State} (h : va_K D cl tys U) (i j : Nat) {c1 c2 : ClassId} {ty : FieldType} (hi : tys[i]? = some (c1, ty)) (hj : tys[j]? = some (c2, ty)) : c1 = c2 := by
  have h1 := (h.2 i _ hi).2
  have h2 := (h.2 j _ hj).2
  cases ty <;> first
    | (obtain ⟨_, _, _, _, _, e1⟩ := h1; obtain ⟨_, _, _, _, _, e2⟩ := h2; exact Option.some.inj (e1.symm.trans e2))
    | exact Option.some.inj (h1.symm.trans h2)
theorem j_cov (is ir : List Nat) (n : Nat) (h : (List.range n).all (fun i => is.contains i || ir.contains i) = true) : ∀ i, i < n → i ∈ is ∨ i ∈ ir := by
  intro i hi
  have h1 := List.all_eq_true.mp h i (List.mem_range.mpr hi)
  simp only [Bool.or_eq_true, List.contains_iff_mem] at h1
  exact h1
/-! the starts of contracts -/
def jR (D : va_G) (tys : List (ClassId × FieldType)) (ws : va_W) (U : State) : Prop := va_P D vwCl ws U.heap ∧ va_K D vwCl tys U
def jW (D : va_G) (tys : List (ClassId × FieldType)) (ws : va_W) (U : State) : Prop := va_P D vwCl ws U.heap ∧ va_K D vwCl tys U ∧ va_D (fun _ => True) ws
theorem j_calls {u : State} {D : va_G} {tys : List (ClassId × FieldType)} {g : JFrame} {mk : MethodId} {a : Array Value} (h : va_K D vwCl tys u) : va_K D vwCl tys (u.calling g mk a) := va_K.moved (u := u) (U := u.calling g mk a) (Vm.Alike.refl u.vm) h
theorem jR_bl {av : List Value} {D : va_G} {tys : List (ClassId × FieldType)} {ws : va_W} : FrameBlind (va_Pc av (jR D tys ws)) := fun _ _ _ _ q => ⟨q.1, q.2.1, j_calls q.2.2⟩
theorem jW_bl {av : List Value} {D : va_G} {tys : List (ClassId × FieldType)} {ws : va_W} : FrameBlind (va_Pc av (jW D tys ws)) := fun _ _ _ _ q => ⟨q.1, q.2.1, j_calls q.2.2.1, q.2.2.2⟩
section JP
variable {s : State} {H : Heap} {D : va_G} {tys : List (ClassId × FieldType)} {ws wc : va_W} {A : Nat → Prop} {C : String} {b ci q0 : Nat} {r : vw_C} {fs As : List Value}
theorem jR_V (hK : va_K D vwCl tys s) (hP : va_P D vwCl ws H) (is : List Nat) (hs : is.filterMap (fun i => ws[i]?) = wc) (hc : vwCl[ci]? = some r) (he : ws[q0]? = some (b, .inr (ci, fs))) (hn : r.1 = C) : PreV s H C b (va_Pc (.ref b :: As) (jR D tys wc)) As :=
  ⟨jR_bl, by rw [← hn]; exact va_recv hK hP hc he, fun U hU hW => ⟨rfl, by rw [hU]; exact hP.sub is hs, va_K.moved hW.alike hK⟩⟩
theorem jW_V (hK : va_K D vwCl tys s) (hP : va_P D vwCl ws H) (hD : va_D A ws) (is : List Nat) (hn9 : va_nd is = true) (hs : is.map (fun i => ws[i]?) = wc.map some) (hc : vwCl[ci]? = some r) (he : ws[q0]? = some (b, .inr (ci, fs))) (hn : r.1 = C) : PreV s H C b (va_Pc (.ref b :: As) (jW D tys wc)) As :=
  ⟨jW_bl, by rw [← hn]; exact va_recv hK hP hc he, fun U hU hW => ⟨rfl, by
    rw [hU]
    refine hP.sub is ?_
    have h : ∀ (l : List Nat) (w : va_W), l.map (fun i => ws[i]?) = w.map some → l.filterMap (fun i => ws[i]?) = w := by
      intro l
      induction l with
      | nil => intro w h; cases w with
        | nil => rfl
        | cons _ _ => cases h
      | cons i l ih => intro w h; cases w with
        | nil => cases h
        | cons z w =>
          simp only [List.map_cons, List.cons.injEq] at h
          rw [List.filterMap_cons, h.1, ih w h.2]
    exact h is wc hs, va_K.moved hW.alike hK, (hD.sub is hn9 hs).weaken (fun _ _ _ _ => trivial)⟩⟩
end JP
/-! calls -/
section JC
variable {p : Program} {l : Launch} {e : Env} {R : Room} {s : State} {m : MethodId} {args : Array Value} {below : List Frame} {meth : Method} {c : Code} {H : Heap} {locs : List Loc} {cells slots : Nat} {Q : State → Prop}
variable {pc : Nat} {ls : Array Slot} {rest st0 As : List Value} {lv : List (Nat × Value)}
variable {y : MethodName} {bytes cc : ByteArray} {maxL nL n index : Nat} {ret : Option FieldType} {ws' : List Cond} {rm : Room} {Ts : List Cond} {own C : String} {b : Addr} {Pc : Array Value → State → Prop}
theorem j_cI_ {post : Int32 → Prop} (S : CallFix p m c cc nL s args Ts own) (hM : Met l y ws' rm Pc (vp_Si post) 0 0 (fun _ => False)) (cw : CallW R s args own C index y bytes maxL ret ws' rm 0 0 n) (hp : PreV s H C b Pc As) (hn : As.length = n) (hl : lv_has ls nL lv) (hst : st0 = As.reverse ++ .ref b :: rest) (hro : (rest.map fun v => v.category).sum ≤ 8) (hdg : decode cc pc = .ok (.invokevirtual index, 3)) (hf : cells ≤ R.cells ∧ slots ≤ R.slots)
    (kk : ∀ r : Int32, post r → W p l e R s m args below meth c H locs cells slots Q (F0 m (pc + 3) ls (.int r :: rest))) : W p l e R s m args below meth c H locs cells slots Q (F0 m pc ls st0) :=
  vp_callSi (va_Run.run (va_runV S hM cw hp rfl hn hl.1 hst (lv_room hro) hdg hf)) kk
theorem j_cL_ {post : Int64 → Prop} (S : CallFix p m c cc nL s args Ts own) (hM : Met l y ws' rm Pc (vp_Sl post) 0 0 (fun _ => False)) (cw : CallW R s args own C index y bytes maxL ret ws' rm 0 0 n) (hp : PreV s H C b Pc As) (hn : As.length = n) (hl : lv_has ls nL lv) (hst : st0 = As.reverse ++ .ref b :: rest) (hro : (rest.map fun v => v.category).sum ≤ 8) (hdg : decode cc pc = .ok (.invokevirtual index, 3)) (hf : cells ≤ R.cells ∧ slots ≤ R.slots)
    (kk : ∀ r : Int64, post r → W p l e R s m args below meth c H locs cells slots Q (F0 m (pc + 3) ls (.long r :: rest))) : W p l e R s m args below meth c H locs cells slots Q (F0 m pc ls st0) :=
  vp_callSl (va_Run.run (va_runV S hM cw hp rfl hn hl.1 hst (lv_room hro) hdg hf)) kk
/-- static, a reader without a world -/
theorem j_sI {post : Int32 → Prop} (S : CallFix p m c cc nL s args Ts own) (hM : Met l y ws' rm (va_Pc As (fun _ => True)) (vp_Si post) 0 0 (fun _ => False)) (cw : CallB R s args own index y bytes maxL ret ws' rm 0 0 n ∧ (Cond.static y).before args s = true) (hn : As.length = n) (hl : lv_has ls nL lv) (hst : st0 = As.reverse ++ rest) (hro : (rest.map fun v => v.category).sum ≤ 8) (hdg : decode cc pc = .ok (.invokestatic index, 3)) (hf : cells ≤ R.cells ∧ slots ≤ R.slots)
    (kk : ∀ r : Int32, post r → W p l e R s m args below meth c H locs cells slots Q (F0 m (pc + 3) ls (.int r :: rest))) : W p l e R s m args below meth c H locs cells slots Q (F0 m pc ls st0) :=
  vp_callSi (va_Run.run (va_runS S hM cw ⟨fun _ _ _ _ q => q, fun _ _ _ => ⟨rfl, trivial⟩⟩ rfl hn hl.1 hst (lv_room hro) hdg hf)) kk
variable {A0 : Nat → Prop} {H0 : Heap} {D : va_G} {ws wc : va_W}
/-- a writer: its world is put back -/
theorem j_wV {S : Type} {post : S → Prop} {w1 : S → va_W} (Sx : CallFix p m c cc nL s args Ts own) (hM : Met l y ws' rm Pc (va_Qv post (fun u t => va_P D vwCl (w1 u) t.heap) (jA wc)) 0 0 (jA wc)) (cw : CallW R s args own C index y bytes maxL ret ws' rm 0 0 n) (hp : PreV s H C b Pc As) (hn : As.length = n) (hl : lv_has ls nL lv) (hst : st0 = As.reverse ++ .ref b :: rest) (hro : (rest.map fun v => v.category).sum ≤ 8) (hdg : decode cc pc = .ok (.invokevirtual index, 3)) (hf : cells ≤ R.cells ∧ slots ≤ R.slots)
    (hP : va_P D vwCl ws H) (hD : va_D A0 ws) (hS : va_S A0 H0 H locs) (is ir : List Nat) (hC : is.map (fun i => ws[i]?) = wc.map some) (wn : S → va_W) (hN : ∀ u, is.map (fun i => (wn u)[i]?) = (w1 u).map some) (ads : List Nat) (ha1 : ws.map (·.1) = ads) (ha2 : ∀ u, (wn u).map (·.1) = ads) (wr : va_W) (hR1 : ir.map (fun i => ws[i]?) = wr.map some) (hR2 : ∀ u, ir.map (fun i => (wn u)[i]?) = wr.map some) (hcov : ∀ u i, i < (wn u).length → i ∈ is ∨ i ∈ ir)
    (kk : ∀ (u : S) (H1 : Heap) (locs1 : List Loc), post u → va_P D vwCl (wn u) H1 → va_D A0 (wn u) → va_S A0 H0 H1 locs1 → W p l e R s m args below meth c H1 locs1 cells slots Q (F0 m (pc + 3) ls rest)) : W p l e R s m args below meth c H locs cells slots Q (F0 m pc ls st0) :=
  va_callv (va_runV Sx hM cw hp rfl hn hl.1 hst (lv_room hro) hdg hf) hS (fun q _ h => jA_sub hD is hC q h) (fun q h => jA_sub hD is hC q h) (fun u t H1 locs1 ht _ hw hB _ hk hS1 => by
    obtain ⟨h1, h2⟩ := j_merge hP hD is ir hC (hN u) (ha1.trans (ha2 u).symm) ((hR2 u).trans hR1.symm) (hcov u) hk (by rw [← ht]; exact hB)
    exact kk u H1 locs1 hw h1 h2 hS1)
theorem j_wI {S : Type} {post : Int32 → S → Prop} {w1 : S → va_W} (Sx : CallFix p m c cc nL s args Ts own) (hM : Met l y ws' rm Pc (va_Qi post (fun u t => va_P D vwCl (w1 u) t.heap) (jA wc)) 0 0 (jA wc)) (cw : CallW R s args own C index y bytes maxL ret ws' rm 0 0 n) (hp : PreV s H C b Pc As) (hn : As.length = n) (hl : lv_has ls nL lv) (hst : st0 = As.reverse ++ .ref b :: rest) (hro : (rest.map fun v => v.category).sum ≤ 8) (hdg : decode cc pc = .ok (.invokevirtual index, 3)) (hf : cells ≤ R.cells ∧ slots ≤ R.slots)
    (hP : va_P D vwCl ws H) (hD : va_D A0 ws) (hS : va_S A0 H0 H locs) (is ir : List Nat) (hC : is.map (fun i => ws[i]?) = wc.map some) (wn : S → va_W) (hN : ∀ u, is.map (fun i => (wn u)[i]?) = (w1 u).map some) (ads : List Nat) (ha1 : ws.map (·.1) = ads) (ha2 : ∀ u, (wn u).map (·.1) = ads) (wr : va_W) (hR1 : ir.map (fun i => ws[i]?) = wr.map some) (hR2 : ∀ u, ir.map (fun i => (wn u)[i]?) = wr.map some) (hcov : ∀ u i, i < (wn u).length → i ∈ is ∨ i ∈ ir)
    (kk : ∀ (r : Int32) (u : S) (H1 : Heap) (locs1 : List Loc), post r u → va_P D vwCl (wn u) H1 → va_D A0 (wn u) → va_S A0 H0 H1 locs1 → W p l e R s m args below meth c H1 locs1 cells slots Q (F0 m (pc + 3) ls (.int r :: rest))) : W p l e R s m args below meth c H locs cells slots Q (F0 m pc ls st0) :=
  va_calli (va_runV Sx hM cw hp rfl hn hl.1 hst (lv_room hro) hdg hf) hS (fun q _ h => jA_sub hD is hC q h) (fun q h => jA_sub hD is hC q h) (fun r u t H1 locs1 ht _ hw hB _ hk hS1 => by
    obtain ⟨h1, h2⟩ := j_merge hP hD is ir hC (hN u) (ha1.trans (ha2 u).symm) ((hR2 u).trans hR1.symm) (hcov u) hk (by rw [← ht]; exact hB)
    exact kk r u H1 locs1 hw h1 h2 hS1)
theorem j_wL {S : Type} {post : Int64 → S → Prop} {w1 : S → va_W} (Sx : CallFix p m c cc nL s args Ts own) (hM : Met l y ws' rm Pc (va_Ql post (fun u t => va_P D vwCl (w1 u) t.heap) (jA wc)) 0 0 (jA wc)) (cw : CallW R s args own C index y bytes maxL ret ws' rm 0 0 n) (hp : PreV s H C b Pc As) (hn : As.length = n) (hl : lv_has ls nL lv) (hst : st0 = As.reverse ++ .ref b :: rest) (hro : (rest.map fun v => v.category).sum ≤ 8) (hdg : decode cc pc = .ok (.invokevirtual index, 3)) (hf : cells ≤ R.cells ∧ slots ≤ R.slots)
    (hP : va_P D vwCl ws H) (hD : va_D A0 ws) (hS : va_S A0 H0 H locs) (is ir : List Nat) (hC : is.map (fun i => ws[i]?) = wc.map some) (wn : S → va_W) (hN : ∀ u, is.map (fun i => (wn u)[i]?) = (w1 u).map some) (ads : List Nat) (ha1 : ws.map (·.1) = ads) (ha2 : ∀ u, (wn u).map (·.1) = ads) (wr : va_W) (hR1 : ir.map (fun i => ws[i]?) = wr.map some) (hR2 : ∀ u, ir.map (fun i => (wn u)[i]?) = wr.map some) (hcov : ∀ u i, i < (wn u).length → i ∈ is ∨ i ∈ ir)
    (kk : ∀ (r : Int64) (u : S) (H1 : Heap) (locs1 : List Loc), post r u → va_P D vwCl (wn u) H1 → va_D A0 (wn u) → va_S A0 H0 H1 locs1 → W p l e R s m args below meth c H1 locs1 cells slots Q (F0 m (pc + 3) ls (.long r :: rest))) : W p l e R s m args below meth c H locs cells slots Q (F0 m pc ls st0) :=
  va_calll (va_runV Sx hM cw hp rfl hn hl.1 hst (lv_room hro) hdg hf) hS (fun q _ h => jA_sub hD is hC q h) (fun q h => jA_sub hD is hC q h) (fun r u t H1 locs1 ht _ hw hB _ hk hS1 => by
    obtain ⟨h1, h2⟩ := j_merge hP hD is ir hC (hN u) (ha1.trans (ha2 u).symm) ((hR2 u).trans hR1.symm) (hcov u) hk (by rw [← ht]; exact hB)
    exact kk r u H1 locs1 hw h1 h2 hS1)
end JC
/-! loops -/
section JL
variable {p : Program} {l : Launch} {e : Env} {R : Room} {s : State} {m : MethodId} {args : Array Value} {below : List Frame} {meth : Method} {c : Code} {cells slots : Nat} {Q : State → Prop}
/-- a loop that writes nothing: at its head, with a's locals -/
theorem j_loop {α : Type} {H : Heap} {locs : List Loc} {nL pc0 : Nat} {ls : Array Slot} (I : α → Prop) (μ : α → Nat) (lv : α → List (Nat × Value)) (a0 : α) (h0 : I a0) (hl0 : lv_has ls nL (lv a0))
    (hs : ∀ (a : α) (ls : Array Slot), I a → lv_has ls nL (lv a) → (∀ (a' : α) (ls' : Array Slot), I a' → μ a' < μ a → lv_has ls' nL (lv a') → W p l e R s m args below meth c H locs cells slots Q (F0 m pc0 ls' [])) → W p l e R s m args below meth c H locs cells slots Q (F0 m pc0 ls [])) :
    W p l e R s m args below meth c H locs cells slots Q (F0 m pc0 ls []) := by
  have g : ∀ (n : Nat) (a : α) (ls : Array Slot), μ a < n → I a → lv_has ls nL (lv a) → W p l e R s m args below meth c H locs cells slots Q (F0 m pc0 ls []) := by
    intro n
    induction n with
    | zero => intro a ls h; exact absurd h (Nat.not_lt_zero _)
    | succ n ih => intro a ls h hI hl; exact hs a ls hI hl (fun a' ls' hI' hm hl' => ih a' ls' (by omega) hI' hl')
  exact g _ a0 ls (Nat.lt_succ_self _) h0 hl0
/-- a loop that writes -/
theorem j_loopW {α : Type} {D : va_G} {A0 : Nat → Prop} {H0 H : Heap} {locs : List Loc} {nL pc0 : Nat} {ls : Array Slot} (I : α → Prop) (μ : α → Nat) (lv : α → List (Nat × Value)) (w : α → va_W) (a0 : α) (h0 : I a0) (hl0 : lv_has ls nL (lv a0)) (hP0 : va_P D vwCl (w a0) H) (hD0 : va_D A0 (w a0)) (hS0 : va_S A0 H0 H locs)
    (hs : ∀ (a : α) (H : Heap) (locs : List Loc) (ls : Array Slot), I a → va_P D vwCl (w a) H → va_D A0 (w a) → va_S A0 H0 H locs → lv_has ls nL (lv a) → (∀ (a' : α) (H' : Heap) (locs' : List Loc) (ls' : Array Slot), I a' → μ a' < μ a → va_P D vwCl (w a') H' → va_D A0 (w a') → va_S A0 H0 H' locs' → lv_has ls' nL (lv a') → W p l e R s m args below meth c H' locs' cells slots Q (F0 m pc0 ls' [])) → W p l e R s m args below meth c H locs cells slots Q (F0 m pc0 ls [])) :
    W p l e R s m args below meth c H locs cells slots Q (F0 m pc0 ls []) := by
  have g : ∀ (n : Nat) (a : α) (H : Heap) (locs : List Loc) (ls : Array Slot), μ a < n → I a → va_P D vwCl (w a) H → va_D A0 (w a) → va_S A0 H0 H locs → lv_has ls nL (lv a) → W p l e R s m args below meth c H locs cells slots Q (F0 m pc0 ls []) := by
    intro n
    induction n with
    | zero => intro a H locs ls h; exact absurd h (Nat.not_lt_zero _)
    | succ n ih => intro a H locs ls h hI hP hD hS hl; exact hs a H locs ls hI hP hD hS hl (fun a' H' locs' ls' hI' hm hP' hD' hS' hl' => ih a' H' locs' ls' (by omega) hI' hP' hD' hS' hl')
  exact g _ a0 H locs ls (Nat.lt_succ_self _) h0 hP0 hD0 hS0 hl0
end JL
end
section
/-! the worlds: an annuity of the class is five cells (object, deaths, full amounts, carries, payments) -/
abbrev jTY (cI cJ cZ cO : ClassId) : List (ClassId × FieldType) := [(cI, .int), (cJ, .long), (cZ, .boolean), (cO, .object "JointAnnuity$Annuity")]
abbrev jO (aa an : Nat → Nat) (kp : Int64) : Nat × va_E := (aa 0, .inr (0, [.int (nI (an 0)), .int (nI (an 1)), .int (nI (an 0 + an 2)), .int (nI (an 3)), .int (nI (an 4)), .int (nI (an 5)), .int (nI (an 6)), .int (nI (an 7)), .ref (aa 1), .ref (aa 2), .ref (aa 3), .ref (aa 4), .long (kp)]))
abbrev jAW (cI cJ : ClassId) (aa an : Nat → Nat) (iv : Nat → Int32) (kp : Int64) (py : Nat → Int64) : va_W := [jO aa an kp, (aa 1, .inl (cI, 2, .inl (fun j => nI (if j = 0 then an 8 else an 9)))), (aa 2, .inl (cI, 20, .inl (fun j => nI (jF an iv j)))), (aa 3, .inl (cI, 20, .inl (fun j => jC an iv j))), (aa 4, .inl (cJ, 240, .inr (.inl (py))))]
/-- the numbers of an annuity that was just added -/
def jN (s am g : Nat) : Nat → Nat := fun i => match i with
  | 0 => s
  | 1 => am
  | 2 => g
  | 3 => 100
  | 8 => 240
  | 9 => 240
  | _ => 0
theorem jd0 (x y : Nat) : (fun j => nI (if j = 0 then x else y)) (nI 0).toNatClampNeg = nI x := rfl
theorem jd1 (x y : Nat) : (fun j => nI (if j = 0 then x else y)) (nI 1).toNatClampNeg = nI y := rfl
def upN (f : Nat → Nat) (i v : Nat) : Nat → Nat := fun j => if j = i then v else f j
abbrev jXo (ax : Nat → Nat) (n mo : Nat) : Nat × va_E := (ax 0, .inr (1, [.ref (ax 1), .ref (ax 2), .int (nI n), .int (nI mo)]))
abbrev jXa (cO : ClassId) (ax : Nat → Nat) (ao : Nat → Option Nat) : Nat × va_E := (ax 1, .inl (cO, 20, .inr (.inr (.inr (.inr (ao))))))
abbrev jXi (cI : ClassId) (ax : Nat → Nat) (iv : Nat → Int32) : Nat × va_E := (ax 2, .inl (cI, 20, .inl (iv)))
/-- the desk and one annuity of it -/
abbrev jFW (cI cJ cO : ClassId) (ax : Nat → Nat) (ao : Nat → Option Nat) (n mo : Nat) (iv : Nat → Int32) (aa an : Nat → Nat) (kp : Int64) (py : Nat → Int64) : va_W := jXo ax n mo :: jXa cO ax ao :: jXi cI ax iv :: jAW cI cJ aa an iv kp py
theorem jzn {v : Nat} (h : v ≤ 1) : narrow .boolean (.int (nI v)) = .int (nI v) ∧ fits .boolean (.int (nI v)) = true := by
  rcases (show v = 0 ∨ v = 1 by omega) with rfl | rfl <;> exact ⟨rfl, rfl⟩
theorem jV5 {an : Nat → Nat} (hv : jV an) {v : Nat} (h : v ≤ 200) : jV (upN an 5 v) := ⟨hv.1, hv.2.1, hv.2.2.1, hv.2.2.2.1, hv.2.2.2.2.1, h, hv.2.2.2.2.2.2⟩
end
section
/-! the contracts of an annuity (JointAnnuity$Annuity): readers -/
set_option maxHeartbeats 4000000 in
set_option maxRecDepth 100000 in
/-- the full amount in a month -/
theorem c_X0_fullIn (l : Launch) (dC : Nat → ClassId) (dI : Nat → Nat → Nat) (cI cJ cZ cO : ClassId) (aa an : Nat → Nat) (iv : Nat → Int32) (kp : Int64) (py : Nat → Int64) (k : Nat) (hv : jV an) (hk : k < 240) : Met l yX0_fullIn wsX0_fullIn ({ frames := 0, cells := 0, slots := 0, locals := 0 }) (va_Pc [.ref (aa 0), .int (nI k)] (jR (dC, dI) (jTY cI cJ cZ cO) (jAW cI cJ aa an iv kp py))) (vp_Si (fun r => r = nI (if k < an 0 then 0 else jM an iv k))) 0 0 (fun _ => False) := by
  refine j_of (cc := cX0_fullIn) (maxL := 2) (ret := (some .int)) (by decide) rfl (Nat.le_of_ble_eq_true rfl) ?_
  intro p e s m below meth c ls hx hb hr hml hts hown hlocks hnm hl hpre
  have hown : s.vm.findClass RX0 = some m.cls := hown
  have hl : lv_has ls 2 [(0, .ref (aa 0)), (1, .int (nI k))] := hl
  obtain ⟨v0, v1, v2, v3, v4, v5, v6, v7, v8, v9⟩ := id hv
  obtain ⟨hP, hK⟩ := hpre
  refine lv_iload_n hx hb dX0_fullIn_0 rfl (lv_at hl 1 rfl) ?_
  refine lv_aload_n hx hb dX0_fullIn_1 rfl (lv_at hl 0 rfl) ?_
  refine va_get (D := (dC, dI)) (ci := 0) (v := .int (nI (an 0))) (C := RX0) (T := TX0) (N := 13) hx hb hts (fun _ h => List.mem_cons_of_mem _ (List.mem_append_right _ h)) hown hK hP 0 rfl rfl 0 (by decide) (hts (.fieldLink RX0 9 "JointAnnuity$Annuity" "start" "I") (List.mem_of_getElem? (i := 1) rfl)) (fun _ h9 => h9) rfl dX0_fullIn_2 ?_
  refine lv_icmp_ge (tgt := 12) hx hb dX0_fullIn_5 (by decide) (fun c_5 => ?_) (fun c_5 => ?_)
  · have c_5 : an 0 ≤ k := (nI_leI (a := an 0) (b := k) (by omega) (by omega)).mp c_5
    refine lv_aload_n hx hb dX0_fullIn_12 rfl (lv_at hl 0 rfl) ?_
    refine va_get (D := (dC, dI)) (ci := 0) (v := .ref (aa 2)) (C := RX0) (T := TX0) (N := 13) hx hb hts (fun _ h => List.mem_cons_of_mem _ (List.mem_append_right _ h)) hown hK hP 0 rfl rfl 9 (by decide) (hts (.fieldLink RX0 41 "JointAnnuity$Annuity" "fullAmounts" "[I") (List.mem_of_getElem? (i := 2) rfl)) (fun _ h9 => h9) rfl dX0_fullIn_13 ?_
    refine lv_iload_n hx hb dX0_fullIn_16 rfl (lv_at hl 1 rfl) ?_
    refine lv_aload_n hx hb dX0_fullIn_17 rfl (lv_at hl 0 rfl) ?_
    refine va_get (D := (dC, dI)) (ci := 0) (v := .int (nI (an 0))) (C := RX0) (T := TX0) (N := 13) hx hb hts (fun _ h => List.mem_cons_of_mem _ (List.mem_append_right _ h)) hown hK hP 0 rfl rfl 0 (by decide) (hts (.fieldLink RX0 9 "JointAnnuity$Annuity" "start" "I") (List.mem_of_getElem? (i := 1) rfl)) (fun _ h9 => h9) rfl dX0_fullIn_18 ?_
    refine lv_isub hx hb dX0_fullIn_21 ?_
    refine j_i (y := nI (k - (an 0))) (pk_sub (by omega)) ?_
    refine lv_bipush (v := nI 12) hx hb dX0_fullIn_22 (by decide) ?_
    refine lv_idiv hx hb dX0_fullIn_24 (by decide) ?_
    refine j_i (y := nI ((k - (an 0)) / 12)) (pk_div (by omega) (by omega) (by omega)) ?_
    refine va_iald hx hb hK hP 2 0 (f := fun j => nI (jF an iv j)) rfl rfl (vp_in_nI (n := (k - (an 0)) / 12) (N := 20) (by omega) (by omega)) dX0_fullIn_25 ?_
    refine j_i (y := nI (jF an iv ((k - an 0) / 12))) (by rw [nI_clamp (by omega)]) ?_
    exact W.iret (v := nI (jF an iv ((k - an 0) / 12))) hx hb hr (fun t ht hW => ⟨_, rfl, by rw [if_neg (by omega)]; rfl, ht⟩) (fun _ h => by cases h) dX0_fullIn_26
  · have c_5 : ¬ (an 0 ≤ k) := fun h => c_5 ((nI_leI (a := an 0) (b := k) (by omega) (by omega)).mpr h)
    refine lv_iconst (v := nI 0) hx hb dX0_fullIn_8 (by decide) ?_
    refine lv_goto (tgt := 26) hx hb dX0_fullIn_9 (by decide) ?_
    exact W.iret (v := nI 0) hx hb hr (fun t ht hW => ⟨_, rfl, by rw [if_pos (by omega)], ht⟩) (fun _ h => by cases h) dX0_fullIn_26
    --
set_option maxHeartbeats 4000000 in
set_option maxRecDepth 100000 in
/-- the carry in a month -/
theorem c_X0_carryIn (l : Launch) (dC : Nat → ClassId) (dI : Nat → Nat → Nat) (cI cJ cZ cO : ClassId) (aa an : Nat → Nat) (iv : Nat → Int32) (kp : Int64) (py : Nat → Int64) (k : Nat) (hv : jV an) (hk : k < 240) : Met l yX0_carryIn wsX0_carryIn ({ frames := 0, cells := 0, slots := 0, locals := 0 }) (va_Pc [.ref (aa 0), .int (nI k)] (jR (dC, dI) (jTY cI cJ cZ cO) (jAW cI cJ aa an iv kp py))) (vp_Si (fun r => r = if k < an 0 then 0 else jC an iv ((k - an 0) / 12))) 0 0 (fun _ => False) := by
  refine j_of (cc := cX0_carryIn) (maxL := 2) (ret := (some .int)) (by decide) rfl (Nat.le_of_ble_eq_true rfl) ?_
  intro p e s m below meth c ls hx hb hr hml hts hown hlocks hnm hl hpre
  have hown : s.vm.findClass RX0 = some m.cls := hown
  have hl : lv_has ls 2 [(0, .ref (aa 0)), (1, .int (nI k))] := hl
  obtain ⟨v0, v1, v2, v3, v4, v5, v6, v7, v8, v9⟩ := id hv
  obtain ⟨hP, hK⟩ := hpre
  refine lv_iload_n hx hb dX0_carryIn_0 rfl (lv_at hl 1 rfl) ?_
  refine lv_aload_n hx hb dX0_carryIn_1 rfl (lv_at hl 0 rfl) ?_
  refine va_get (D := (dC, dI)) (ci := 0) (v := .int (nI (an 0))) (C := RX0) (T := TX0) (N := 13) hx hb hts (fun _ h => List.mem_cons_of_mem _ (List.mem_append_right _ h)) hown hK hP 0 rfl rfl 0 (by decide) (hts (.fieldLink RX0 9 "JointAnnuity$Annuity" "start" "I") (List.mem_of_getElem? (i := 1) rfl)) (fun _ h9 => h9) rfl dX0_carryIn_2 ?_
  refine lv_icmp_ge (tgt := 12) hx hb dX0_carryIn_5 (by decide) (fun c_5 => ?_) (fun c_5 => ?_)
  · have c_5 : an 0 ≤ k := (nI_leI (a := an 0) (b := k) (by omega) (by omega)).mp c_5
    refine lv_aload_n hx hb dX0_carryIn_12 rfl (lv_at hl 0 rfl) ?_
    refine va_get (D := (dC, dI)) (ci := 0) (v := .ref (aa 3)) (C := RX0) (T := TX0) (N := 13) hx hb hts (fun _ h => List.mem_cons_of_mem _ (List.mem_append_right _ h)) hown hK hP 0 rfl rfl 10 (by decide) (hts (.fieldLink RX0 44 "JointAnnuity$Annuity" "carries" "[I") (List.mem_of_getElem? (i := 2) rfl)) (fun _ h9 => h9) rfl dX0_carryIn_13 ?_
    refine lv_iload_n hx hb dX0_carryIn_16 rfl (lv_at hl 1 rfl) ?_
    refine lv_aload_n hx hb dX0_carryIn_17 rfl (lv_at hl 0 rfl) ?_
    refine va_get (D := (dC, dI)) (ci := 0) (v := .int (nI (an 0))) (C := RX0) (T := TX0) (N := 13) hx hb hts (fun _ h => List.mem_cons_of_mem _ (List.mem_append_right _ h)) hown hK hP 0 rfl rfl 0 (by decide) (hts (.fieldLink RX0 9 "JointAnnuity$Annuity" "start" "I") (List.mem_of_getElem? (i := 1) rfl)) (fun _ h9 => h9) rfl dX0_carryIn_18 ?_
    refine lv_isub hx hb dX0_carryIn_21 ?_
    refine j_i (y := nI (k - (an 0))) (pk_sub (by omega)) ?_
    refine lv_bipush (v := nI 12) hx hb dX0_carryIn_22 (by decide) ?_
    refine lv_idiv hx hb dX0_carryIn_24 (by decide) ?_
    refine j_i (y := nI ((k - (an 0)) / 12)) (pk_div (by omega) (by omega) (by omega)) ?_
    refine va_iald hx hb hK hP 3 0 (f := fun j => jC an iv j) rfl rfl (vp_in_nI (n := (k - (an 0)) / 12) (N := 20) (by omega) (by omega)) dX0_carryIn_25 ?_
    refine j_i (y := jC an iv ((k - an 0) / 12)) (by rw [nI_clamp (by omega)]) ?_
    exact W.iret (v := jC an iv ((k - an 0) / 12)) hx hb hr (fun t ht hW => ⟨_, rfl, by rw [if_neg (by omega)], ht⟩) (fun _ h => by cases h) dX0_carryIn_26
  · have c_5 : ¬ (an 0 ≤ k) := fun h => c_5 ((nI_leI (a := an 0) (b := k) (by omega) (by omega)).mpr h)
    refine lv_iconst (v := nI 0) hx hb dX0_carryIn_8 (by decide) ?_
    refine lv_goto (tgt := 26) hx hb dX0_carryIn_9 (by decide) ?_
    exact W.iret (v := nI 0) hx hb hr (fun t ht hW => ⟨_, rfl, by rw [if_pos (by omega)]; rfl, ht⟩) (fun _ h => by cases h) dX0_carryIn_26
    --
set_option maxHeartbeats 4000000 in
set_option maxRecDepth 100000 in
/-- what the lives and the guaranteed term give in a month -/
theorem c_X0_shareIn (l : Launch) (dC : Nat → ClassId) (dI : Nat → Nat → Nat) (cI cJ cZ cO : ClassId) (aa an : Nat → Nat) (iv : Nat → Int32) (kp : Int64) (py : Nat → Int64) (k : Nat) (hv : jV an) (hk : k < 240) : Met l yX0_shareIn wsX0_shareIn ({ frames := 1, cells := 0, slots := 0, locals := 21 }) (va_Pc [.ref (aa 0), .int (nI k)] (jR (dC, dI) (jTY cI cJ cZ cO) (jAW cI cJ aa an iv kp py))) (vp_Sl (fun r => r = lN (if k < an 0 then 0 else jS an iv k))) 0 0 (fun _ => False) := by
  refine j_of (cc := cX0_shareIn) (maxL := 6) (ret := (some .long)) (by decide) rfl (Nat.le_of_ble_eq_true rfl) ?_
  intro p e s m below meth c ls hx hb hr hml hts hown hlocks hnm hl hpre
  have hown : s.vm.findClass RX0 = some m.cls := hown
  have hl : lv_has ls 6 [(0, .ref (aa 0)), (1, .int (nI k))] := hl
  obtain ⟨v0, v1, v2, v3, v4, v5, v6, v7, v8, v9⟩ := id hv
  obtain ⟨hP, hK⟩ := hpre
  have hm := jM_bd hv iv hk
  have hm2 := jpct hm v3
  refine lv_iload_n hx hb dX0_shareIn_0 rfl (lv_at hl 1 rfl) ?_
  refine lv_aload_n hx hb dX0_shareIn_1 rfl (lv_at hl 0 rfl) ?_
  refine va_get (D := (dC, dI)) (ci := 0) (v := .int (nI (an 0))) (C := RX0) (T := TX0) (N := 13) hx hb hts (fun _ h => List.mem_cons_of_mem _ (List.mem_append_right _ h)) hown hK hP 0 rfl rfl 0 (by decide) (hts (.fieldLink RX0 9 "JointAnnuity$Annuity" "start" "I") (List.mem_of_getElem? (i := 1) rfl)) (fun _ h9 => h9) rfl dX0_shareIn_2 ?_
  refine lv_icmp_ge (tgt := 10) hx hb dX0_shareIn_5 (by decide) (fun c_5 => ?_) (fun c_5 => ?_)
  · have c_5 : an 0 ≤ k := (nI_leI (a := an 0) (b := k) (by omega) (by omega)).mp c_5
    refine lv_aload_n hx hb dX0_shareIn_10 rfl (lv_at hl 0 rfl) ?_
    refine lv_iload_n hx hb dX0_shareIn_11 rfl (lv_at hl 1 rfl) ?_
    refine j_cI_ (As := [.int (nI k)]) (rest := []) ⟨hx, hb, hml, hown, hts⟩ (c_X0_fullIn l dC dI cI cJ cZ cO aa an iv kp py k hv hk) (cwV 1 hts gX0_shareIn_X0_fullIn rfl rfl rfl (by decide +kernel) ⟨Nat.le_of_ble_eq_true rfl, Nat.le_of_ble_eq_true rfl⟩) (jR_V hK hP [0, 1, 2, 3, 4] rfl (ci := 0) (q0 := 0) rfl rfl rfl) rfl hl rfl (Nat.le_of_ble_eq_true rfl) dX0_shareIn_12 ⟨Nat.le_of_ble_eq_true rfl, Nat.le_of_ble_eq_true rfl⟩ (fun r_12 hr_12 => ?_)
    subst hr_12
    refine j_i (y := nI (jM an iv k)) (by rw [if_neg (by omega)]) ?_
    refine lv_i2l (v := lN (jM an iv k)) hx hb dX0_shareIn_15 (nI_l (by omega)) ?_
    refine lv_lstore_n (lv' := [(2, .long (lN (jM an iv k))), (0, .ref (aa 0)), (1, .int (nI k))]) hx hb dX0_shareIn_16 rfl hl (by decide) rfl (fun ls hl => ?_)
    refine j_join (fun f1 : Nat => (k ≤ an 8 ∧ f1 = 1) ∨ (¬ k ≤ an 8 ∧ f1 = 0)) (fun f1 => F0 m 32 ls [.int (nI f1)]) (fun f1 hf1 => ?_) (fun J32 => ?_)
    · refine lv_istore (lv' := [(4, .int (nI f1)), (2, .long (lN (jM an iv k))), (0, .ref (aa 0)), (1, .int (nI k))]) hx hb dX0_shareIn_32 hl (by decide) rfl (fun ls hl => ?_)
      refine j_join (fun f2 : Nat => (k ≤ an 9 ∧ f2 = 1) ∨ (¬ k ≤ an 9 ∧ f2 = 0)) (fun f2 => F0 m 49 ls [.int (nI f2)]) (fun f2 hf2 => ?_) (fun J49 => ?_)
      · refine lv_istore (lv' := [(5, .int (nI f2)), (4, .int (nI f1)), (2, .long (lN (jM an iv k))), (0, .ref (aa 0)), (1, .int (nI k))]) hx hb dX0_shareIn_49 hl (by decide) rfl (fun ls hl => ?_)
        refine lv_iload_n hx hb dX0_shareIn_51 rfl (lv_at hl 4 rfl) ?_
        refine lv_aload_n hx hb dX0_shareIn_52 rfl (lv_at hl 3 rfl) ?_
        refine va_get (D := (dC, dI)) (ci := 0) (v := .int (nI (an 0 + an 2))) (C := RX0) (T := TX0) (N := 13) hx hb hts (fun _ h => List.mem_cons_of_mem _ (List.mem_append_right _ h)) hown hK hP 0 rfl rfl 2 (by decide) (hts (.fieldLink RX0 18 "JointAnnuity$Annuity" "guaranteeEnd" "I") (List.mem_of_getElem? (i := 3) rfl)) (fun _ h9 => h9) rfl dX0_shareIn_53 ?_
        refine lv_icmp_lt (tgt := 69) hx hb dX0_shareIn_56 (by decide) (fun c_56 => ?_) (fun c_56 => ?_)
        · have c_56 : k < an 0 + an 2 := (nI_ltI (a := k) (b := an 0 + an 2) (by omega) (by omega)).mp c_56
          refine lv_lload_n hx hb dX0_shareIn_69 rfl (lv_at hl 2 rfl) ?_
          have hz : jM an iv k = (if k < an 0 then 0 else jS an iv k) := by
            rw [if_neg (show ¬ k < an 0 by omega)]
            unfold jS
            repeat' split
            all_goals first | rfl | omega
          exact W.lret (v := lN (jM an iv k)) hx hb hr (fun t ht hW => ⟨_, rfl, by rw [← hz], ht⟩) (fun _ h => by cases h) dX0_shareIn_70
        · have c_56 : ¬ (k < an 0 + an 2) := fun h => c_56 ((nI_ltI (a := k) (b := an 0 + an 2) (by omega) (by omega)).mpr h)
          refine lv_iload hx hb dX0_shareIn_59 (lv_at hl 1 rfl) ?_
          refine lv_if_eq (tgt := 71) hx hb dX0_shareIn_61 (by decide) (fun c_61 => ?_) (fun c_61 => ?_)
          · have c_61 : f1 = 0 := (nI_eq (a := f1) (b := 0) (by omega) (by omega)).mp c_61
            refine lv_iload hx hb dX0_shareIn_71 (lv_at hl 1 rfl) ?_
            refine lv_if_eq (tgt := 85) hx hb dX0_shareIn_73 (by decide) (fun c_73 => ?_) (fun c_73 => ?_)
            · have c_73 : f1 = 0 := (nI_eq (a := f1) (b := 0) (by omega) (by omega)).mp c_73
              refine lv_iload hx hb dX0_shareIn_85 (lv_at hl 1 rfl) ?_
              refine lv_if_ne (tgt := 95) hx hb dX0_shareIn_87 (by decide) (fun c_87 => ?_) (fun c_87 => ?_)
              · have c_87 : ¬ (f1 = 0) := fun h => c_87 ((nI_eq (a := f1) (b := 0) (by omega) (by omega)).mpr h)
                refine lv_lload_n hx hb dX0_shareIn_95 rfl (lv_at hl 2 rfl) ?_
                refine lv_aload_n hx hb dX0_shareIn_96 rfl (lv_at hl 3 rfl) ?_
                refine va_get (D := (dC, dI)) (ci := 0) (v := .int (nI (an 3))) (C := RX0) (T := TX0) (N := 13) hx hb hts (fun _ h => List.mem_cons_of_mem _ (List.mem_append_right _ h)) hown hK hP 0 rfl rfl 3 (by decide) (hts (.fieldLink RX0 21 "JointAnnuity$Annuity" "survivorPercent" "I") (List.mem_of_getElem? (i := 5) rfl)) (fun _ h9 => h9) rfl dX0_shareIn_97 ?_
                refine lv_i2l (v := lN (an 3)) hx hb dX0_shareIn_100 (nI_l (by omega)) ?_
                refine lv_lmul hx hb dX0_shareIn_101 ?_
                refine j_l (y := lN ((jM an iv k) * (an 3))) (lN_mul _ _) ?_
                refine lv_ldc2 hx hb hown (hts (.constantLong RX0 68 (100)) (List.mem_of_getElem? (i := 6) rfl)) dX0_shareIn_102 ?_
                refine j_l (y := lN 100) (by decide +kernel) ?_
                refine lv_ldiv hx hb dX0_shareIn_105 (by decide) ?_
                refine j_l (y := lN (((jM an iv k) * (an 3)) / 100)) (pk_lDiv (by omega) (by omega) (by omega)) ?_
                refine lv_goto (tgt := 110) hx hb dX0_shareIn_106 (by decide) ?_
                have hz : ((jM an iv k) * (an 3)) / 100 = (if k < an 0 then 0 else jS an iv k) := by
                  rw [if_neg (show ¬ k < an 0 by omega)]
                  unfold jS
                  repeat' split
                  all_goals first | rfl | omega
                exact W.lret (v := lN (((jM an iv k) * (an 3)) / 100)) hx hb hr (fun t ht hW => ⟨_, rfl, by rw [← hz], ht⟩) (fun _ h => by cases h) dX0_shareIn_110
              · have c_87 : f1 = 0 := (nI_eq (a := f1) (b := 0) (by omega) (by omega)).mp c_87
                refine lv_iload hx hb dX0_shareIn_90 (lv_at hl 0 rfl) ?_
                refine lv_if_eq (tgt := 109) hx hb dX0_shareIn_92 (by decide) (fun c_92 => ?_) (fun c_92 => ?_)
                · have c_92 : f2 = 0 := (nI_eq (a := f2) (b := 0) (by omega) (by omega)).mp c_92
                  refine lv_lconst (v := lN 0) hx hb dX0_shareIn_109 (by decide) ?_
                  have hz : 0 = (if k < an 0 then 0 else jS an iv k) := by
                    rw [if_neg (show ¬ k < an 0 by omega)]
                    unfold jS
                    repeat' split
                    all_goals first | rfl | omega
                  exact W.lret (v := lN 0) hx hb hr (fun t ht hW => ⟨_, rfl, by rw [← hz], ht⟩) (fun _ h => by cases h) dX0_shareIn_110
                · have c_92 : ¬ (f2 = 0) := fun h => c_92 ((nI_eq (a := f2) (b := 0) (by omega) (by omega)).mpr h)
                  refine lv_lload_n hx hb dX0_shareIn_95 rfl (lv_at hl 2 rfl) ?_
                  refine lv_aload_n hx hb dX0_shareIn_96 rfl (lv_at hl 3 rfl) ?_
                  refine va_get (D := (dC, dI)) (ci := 0) (v := .int (nI (an 3))) (C := RX0) (T := TX0) (N := 13) hx hb hts (fun _ h => List.mem_cons_of_mem _ (List.mem_append_right _ h)) hown hK hP 0 rfl rfl 3 (by decide) (hts (.fieldLink RX0 21 "JointAnnuity$Annuity" "survivorPercent" "I") (List.mem_of_getElem? (i := 5) rfl)) (fun _ h9 => h9) rfl dX0_shareIn_97 ?_
                  refine lv_i2l (v := lN (an 3)) hx hb dX0_shareIn_100 (nI_l (by omega)) ?_
                  refine lv_lmul hx hb dX0_shareIn_101 ?_
                  refine j_l (y := lN ((jM an iv k) * (an 3))) (lN_mul _ _) ?_
                  refine lv_ldc2 hx hb hown (hts (.constantLong RX0 68 (100)) (List.mem_of_getElem? (i := 6) rfl)) dX0_shareIn_102 ?_
                  refine j_l (y := lN 100) (by decide +kernel) ?_
                  refine lv_ldiv hx hb dX0_shareIn_105 (by decide) ?_
                  refine j_l (y := lN (((jM an iv k) * (an 3)) / 100)) (pk_lDiv (by omega) (by omega) (by omega)) ?_
                  refine lv_goto (tgt := 110) hx hb dX0_shareIn_106 (by decide) ?_
                  have hz : ((jM an iv k) * (an 3)) / 100 = (if k < an 0 then 0 else jS an iv k) := by
                    rw [if_neg (show ¬ k < an 0 by omega)]
                    unfold jS
                    repeat' split
                    all_goals first | rfl | omega
                  exact W.lret (v := lN (((jM an iv k) * (an 3)) / 100)) hx hb hr (fun t ht hW => ⟨_, rfl, by rw [← hz], ht⟩) (fun _ h => by cases h) dX0_shareIn_110
            · have c_73 : ¬ (f1 = 0) := fun h => c_73 ((nI_eq (a := f1) (b := 0) (by omega) (by omega)).mpr h)
              refine lv_aload_n hx hb dX0_shareIn_76 rfl (lv_at hl 3 rfl) ?_
              refine va_get (D := (dC, dI)) (ci := 0) (v := .int (nI (an 4))) (C := RX0) (T := TX0) (N := 13) hx hb hts (fun _ h => List.mem_cons_of_mem _ (List.mem_append_right _ h)) hown hK hP 0 rfl rfl 4 (by decide) (hts (.fieldLink RX0 24 "JointAnnuity$Annuity" "stepsOnFirst" "Z") (List.mem_of_getElem? (i := 4) rfl)) (fun _ h9 => h9) rfl dX0_shareIn_77 ?_
              refine lv_if_ne (tgt := 85) hx hb dX0_shareIn_80 (by decide) (fun c_80 => ?_) (fun c_80 => ?_)
              · have c_80 : ¬ (an 4 = 0) := fun h => c_80 ((nI_eq (a := an 4) (b := 0) (by omega) (by omega)).mpr h)
                refine lv_iload hx hb dX0_shareIn_85 (lv_at hl 1 rfl) ?_
                refine lv_if_ne (tgt := 95) hx hb dX0_shareIn_87 (by decide) (fun c_87 => ?_) (fun c_87 => ?_)
                · have c_87 : ¬ (f1 = 0) := fun h => c_87 ((nI_eq (a := f1) (b := 0) (by omega) (by omega)).mpr h)
                  refine lv_lload_n hx hb dX0_shareIn_95 rfl (lv_at hl 2 rfl) ?_
                  refine lv_aload_n hx hb dX0_shareIn_96 rfl (lv_at hl 3 rfl) ?_
                  refine va_get (D := (dC, dI)) (ci := 0) (v := .int (nI (an 3))) (C := RX0) (T := TX0) (N := 13) hx hb hts (fun _ h => List.mem_cons_of_mem _ (List.mem_append_right _ h)) hown hK hP 0 rfl rfl 3 (by decide) (hts (.fieldLink RX0 21 "JointAnnuity$Annuity" "survivorPercent" "I") (List.mem_of_getElem? (i := 5) rfl)) (fun _ h9 => h9) rfl dX0_shareIn_97 ?_
                  refine lv_i2l (v := lN (an 3)) hx hb dX0_shareIn_100 (nI_l (by omega)) ?_
                  refine lv_lmul hx hb dX0_shareIn_101 ?_
                  refine j_l (y := lN ((jM an iv k) * (an 3))) (lN_mul _ _) ?_
                  refine lv_ldc2 hx hb hown (hts (.constantLong RX0 68 (100)) (List.mem_of_getElem? (i := 6) rfl)) dX0_shareIn_102 ?_
                  refine j_l (y := lN 100) (by decide +kernel) ?_
                  refine lv_ldiv hx hb dX0_shareIn_105 (by decide) ?_
                  refine j_l (y := lN (((jM an iv k) * (an 3)) / 100)) (pk_lDiv (by omega) (by omega) (by omega)) ?_
                  refine lv_goto (tgt := 110) hx hb dX0_shareIn_106 (by decide) ?_
                  have hz : ((jM an iv k) * (an 3)) / 100 = (if k < an 0 then 0 else jS an iv k) := by
                    rw [if_neg (show ¬ k < an 0 by omega)]
                    unfold jS
                    repeat' split
                    all_goals first | rfl | omega
                  exact W.lret (v := lN (((jM an iv k) * (an 3)) / 100)) hx hb hr (fun t ht hW => ⟨_, rfl, by rw [← hz], ht⟩) (fun _ h => by cases h) dX0_shareIn_110
                · have c_87 : f1 = 0 := (nI_eq (a := f1) (b := 0) (by omega) (by omega)).mp c_87
                  refine lv_iload hx hb dX0_shareIn_90 (lv_at hl 0 rfl) ?_
                  refine lv_if_eq (tgt := 109) hx hb dX0_shareIn_92 (by decide) (fun c_92 => ?_) (fun c_92 => ?_)
                  · have c_92 : f2 = 0 := (nI_eq (a := f2) (b := 0) (by omega) (by omega)).mp c_92
                    refine lv_lconst (v := lN 0) hx hb dX0_shareIn_109 (by decide) ?_
                    have hz : 0 = (if k < an 0 then 0 else jS an iv k) := by
                      rw [if_neg (show ¬ k < an 0 by omega)]
                      unfold jS
                      repeat' split
                      all_goals first | rfl | omega
                    exact W.lret (v := lN 0) hx hb hr (fun t ht hW => ⟨_, rfl, by rw [← hz], ht⟩) (fun _ h => by cases h) dX0_shareIn_110
                  · have c_92 : ¬ (f2 = 0) := fun h => c_92 ((nI_eq (a := f2) (b := 0) (by omega) (by omega)).mpr h)
                    refine lv_lload_n hx hb dX0_shareIn_95 rfl (lv_at hl 2 rfl) ?_
                    refine lv_aload_n hx hb dX0_shareIn_96 rfl (lv_at hl 3 rfl) ?_
                    refine va_get (D := (dC, dI)) (ci := 0) (v := .int (nI (an 3))) (C := RX0) (T := TX0) (N := 13) hx hb hts (fun _ h => List.mem_cons_of_mem _ (List.mem_append_right _ h)) hown hK hP 0 rfl rfl 3 (by decide) (hts (.fieldLink RX0 21 "JointAnnuity$Annuity" "survivorPercent" "I") (List.mem_of_getElem? (i := 5) rfl)) (fun _ h9 => h9) rfl dX0_shareIn_97 ?_
                    refine lv_i2l (v := lN (an 3)) hx hb dX0_shareIn_100 (nI_l (by omega)) ?_
                    refine lv_lmul hx hb dX0_shareIn_101 ?_
                    refine j_l (y := lN ((jM an iv k) * (an 3))) (lN_mul _ _) ?_
                    refine lv_ldc2 hx hb hown (hts (.constantLong RX0 68 (100)) (List.mem_of_getElem? (i := 6) rfl)) dX0_shareIn_102 ?_
                    refine j_l (y := lN 100) (by decide +kernel) ?_
                    refine lv_ldiv hx hb dX0_shareIn_105 (by decide) ?_
                    refine j_l (y := lN (((jM an iv k) * (an 3)) / 100)) (pk_lDiv (by omega) (by omega) (by omega)) ?_
                    refine lv_goto (tgt := 110) hx hb dX0_shareIn_106 (by decide) ?_
                    have hz : ((jM an iv k) * (an 3)) / 100 = (if k < an 0 then 0 else jS an iv k) := by
                      rw [if_neg (show ¬ k < an 0 by omega)]
                      unfold jS
                      repeat' split
                      all_goals first | rfl | omega
                    exact W.lret (v := lN (((jM an iv k) * (an 3)) / 100)) hx hb hr (fun t ht hW => ⟨_, rfl, by rw [← hz], ht⟩) (fun _ h => by cases h) dX0_shareIn_110
              · have c_80 : an 4 = 0 := (nI_eq (a := an 4) (b := 0) (by omega) (by omega)).mp c_80
                refine lv_lload_n hx hb dX0_shareIn_83 rfl (lv_at hl 2 rfl) ?_
                have hz : jM an iv k = (if k < an 0 then 0 else jS an iv k) := by
                  rw [if_neg (show ¬ k < an 0 by omega)]
                  unfold jS
                  repeat' split
                  all_goals first | rfl | omega
                exact W.lret (v := lN (jM an iv k)) hx hb hr (fun t ht hW => ⟨_, rfl, by rw [← hz], ht⟩) (fun _ h => by cases h) dX0_shareIn_84
          · have c_61 : ¬ (f1 = 0) := fun h => c_61 ((nI_eq (a := f1) (b := 0) (by omega) (by omega)).mpr h)
            refine lv_iload hx hb dX0_shareIn_64 (lv_at hl 0 rfl) ?_
            refine lv_if_eq (tgt := 71) hx hb dX0_shareIn_66 (by decide) (fun c_66 => ?_) (fun c_66 => ?_)
            · have c_66 : f2 = 0 := (nI_eq (a := f2) (b := 0) (by omega) (by omega)).mp c_66
              refine lv_iload hx hb dX0_shareIn_71 (lv_at hl 1 rfl) ?_
              refine lv_if_eq (tgt := 85) hx hb dX0_shareIn_73 (by decide) (fun c_73 => ?_) (fun c_73 => ?_)
              · have c_73 : f1 = 0 := (nI_eq (a := f1) (b := 0) (by omega) (by omega)).mp c_73
                refine lv_iload hx hb dX0_shareIn_85 (lv_at hl 1 rfl) ?_
                refine lv_if_ne (tgt := 95) hx hb dX0_shareIn_87 (by decide) (fun c_87 => ?_) (fun c_87 => ?_)
                · have c_87 : ¬ (f1 = 0) := fun h => c_87 ((nI_eq (a := f1) (b := 0) (by omega) (by omega)).mpr h)
                  refine lv_lload_n hx hb dX0_shareIn_95 rfl (lv_at hl 2 rfl) ?_
                  refine lv_aload_n hx hb dX0_shareIn_96 rfl (lv_at hl 3 rfl) ?_
                  refine va_get (D := (dC, dI)) (ci := 0) (v := .int (nI (an 3))) (C := RX0) (T := TX0) (N := 13) hx hb hts (fun _ h => List.mem_cons_of_mem _ (List.mem_append_right _ h)) hown hK hP 0 rfl rfl 3 (by decide) (hts (.fieldLink RX0 21 "JointAnnuity$Annuity" "survivorPercent" "I") (List.mem_of_getElem? (i := 5) rfl)) (fun _ h9 => h9) rfl dX0_shareIn_97 ?_
                  refine lv_i2l (v := lN (an 3)) hx hb dX0_shareIn_100 (nI_l (by omega)) ?_
                  refine lv_lmul hx hb dX0_shareIn_101 ?_
                  refine j_l (y := lN ((jM an iv k) * (an 3))) (lN_mul _ _) ?_
                  refine lv_ldc2 hx hb hown (hts (.constantLong RX0 68 (100)) (List.mem_of_getElem? (i := 6) rfl)) dX0_shareIn_102 ?_
                  refine j_l (y := lN 100) (by decide +kernel) ?_
                  refine lv_ldiv hx hb dX0_shareIn_105 (by decide) ?_
                  refine j_l (y := lN (((jM an iv k) * (an 3)) / 100)) (pk_lDiv (by omega) (by omega) (by omega)) ?_
                  refine lv_goto (tgt := 110) hx hb dX0_shareIn_106 (by decide) ?_
                  have hz : ((jM an iv k) * (an 3)) / 100 = (if k < an 0 then 0 else jS an iv k) := by
                    rw [if_neg (show ¬ k < an 0 by omega)]
                    unfold jS
                    repeat' split
                    all_goals first | rfl | omega
                  exact W.lret (v := lN (((jM an iv k) * (an 3)) / 100)) hx hb hr (fun t ht hW => ⟨_, rfl, by rw [← hz], ht⟩) (fun _ h => by cases h) dX0_shareIn_110
                · have c_87 : f1 = 0 := (nI_eq (a := f1) (b := 0) (by omega) (by omega)).mp c_87
                  refine lv_iload hx hb dX0_shareIn_90 (lv_at hl 0 rfl) ?_
                  refine lv_if_eq (tgt := 109) hx hb dX0_shareIn_92 (by decide) (fun c_92 => ?_) (fun c_92 => ?_)
                  · have c_92 : f2 = 0 := (nI_eq (a := f2) (b := 0) (by omega) (by omega)).mp c_92
                    refine lv_lconst (v := lN 0) hx hb dX0_shareIn_109 (by decide) ?_
                    have hz : 0 = (if k < an 0 then 0 else jS an iv k) := by
                      rw [if_neg (show ¬ k < an 0 by omega)]
                      unfold jS
                      repeat' split
                      all_goals first | rfl | omega
                    exact W.lret (v := lN 0) hx hb hr (fun t ht hW => ⟨_, rfl, by rw [← hz], ht⟩) (fun _ h => by cases h) dX0_shareIn_110
                  · have c_92 : ¬ (f2 = 0) := fun h => c_92 ((nI_eq (a := f2) (b := 0) (by omega) (by omega)).mpr h)
                    refine lv_lload_n hx hb dX0_shareIn_95 rfl (lv_at hl 2 rfl) ?_
                    refine lv_aload_n hx hb dX0_shareIn_96 rfl (lv_at hl 3 rfl) ?_
                    refine va_get (D := (dC, dI)) (ci := 0) (v := .int (nI (an 3))) (C := RX0) (T := TX0) (N := 13) hx hb hts (fun _ h => List.mem_cons_of_mem _ (List.mem_append_right _ h)) hown hK hP 0 rfl rfl 3 (by decide) (hts (.fieldLink RX0 21 "JointAnnuity$Annuity" "survivorPercent" "I") (List.mem_of_getElem? (i := 5) rfl)) (fun _ h9 => h9) rfl dX0_shareIn_97 ?_
                    refine lv_i2l (v := lN (an 3)) hx hb dX0_shareIn_100 (nI_l (by omega)) ?_
                    refine lv_lmul hx hb dX0_shareIn_101 ?_
                    refine j_l (y := lN ((jM an iv k) * (an 3))) (lN_mul _ _) ?_
                    refine lv_ldc2 hx hb hown (hts (.constantLong RX0 68 (100)) (List.mem_of_getElem? (i := 6) rfl)) dX0_shareIn_102 ?_
                    refine j_l (y := lN 100) (by decide +kernel) ?_
                    refine lv_ldiv hx hb dX0_shareIn_105 (by decide) ?_
                    refine j_l (y := lN (((jM an iv k) * (an 3)) / 100)) (pk_lDiv (by omega) (by omega) (by omega)) ?_
                    refine lv_goto (tgt := 110) hx hb dX0_shareIn_106 (by decide) ?_
                    have hz : ((jM an iv k) * (an 3)) / 100 = (if k < an 0 then 0 else jS an iv k) := by
                      rw [if_neg (show ¬ k < an 0 by omega)]
                      unfold jS
                      repeat' split
                      all_goals first | rfl | omega
                    exact W.lret (v := lN (((jM an iv k) * (an 3)) / 100)) hx hb hr (fun t ht hW => ⟨_, rfl, by rw [← hz], ht⟩) (fun _ h => by cases h) dX0_shareIn_110
              · have c_73 : ¬ (f1 = 0) := fun h => c_73 ((nI_eq (a := f1) (b := 0) (by omega) (by omega)).mpr h)
                refine lv_aload_n hx hb dX0_shareIn_76 rfl (lv_at hl 3 rfl) ?_
                refine va_get (D := (dC, dI)) (ci := 0) (v := .int (nI (an 4))) (C := RX0) (T := TX0) (N := 13) hx hb hts (fun _ h => List.mem_cons_of_mem _ (List.mem_append_right _ h)) hown hK hP 0 rfl rfl 4 (by decide) (hts (.fieldLink RX0 24 "JointAnnuity$Annuity" "stepsOnFirst" "Z") (List.mem_of_getElem? (i := 4) rfl)) (fun _ h9 => h9) rfl dX0_shareIn_77 ?_
                refine lv_if_ne (tgt := 85) hx hb dX0_shareIn_80 (by decide) (fun c_80 => ?_) (fun c_80 => ?_)
                · have c_80 : ¬ (an 4 = 0) := fun h => c_80 ((nI_eq (a := an 4) (b := 0) (by omega) (by omega)).mpr h)
                  refine lv_iload hx hb dX0_shareIn_85 (lv_at hl 1 rfl) ?_
                  refine lv_if_ne (tgt := 95) hx hb dX0_shareIn_87 (by decide) (fun c_87 => ?_) (fun c_87 => ?_)
                  · have c_87 : ¬ (f1 = 0) := fun h => c_87 ((nI_eq (a := f1) (b := 0) (by omega) (by omega)).mpr h)
                    refine lv_lload_n hx hb dX0_shareIn_95 rfl (lv_at hl 2 rfl) ?_
                    refine lv_aload_n hx hb dX0_shareIn_96 rfl (lv_at hl 3 rfl) ?_
                    refine va_get (D := (dC, dI)) (ci := 0) (v := .int (nI (an 3))) (C := RX0) (T := TX0) (N := 13) hx hb hts (fun _ h => List.mem_cons_of_mem _ (List.mem_append_right _ h)) hown hK hP 0 rfl rfl 3 (by decide) (hts (.fieldLink RX0 21 "JointAnnuity$Annuity" "survivorPercent" "I") (List.mem_of_getElem? (i := 5) rfl)) (fun _ h9 => h9) rfl dX0_shareIn_97 ?_
                    refine lv_i2l (v := lN (an 3)) hx hb dX0_shareIn_100 (nI_l (by omega)) ?_
                    refine lv_lmul hx hb dX0_shareIn_101 ?_
                    refine j_l (y := lN ((jM an iv k) * (an 3))) (lN_mul _ _) ?_
                    refine lv_ldc2 hx hb hown (hts (.constantLong RX0 68 (100)) (List.mem_of_getElem? (i := 6) rfl)) dX0_shareIn_102 ?_
                    refine j_l (y := lN 100) (by decide +kernel) ?_
                    refine lv_ldiv hx hb dX0_shareIn_105 (by decide) ?_
                    refine j_l (y := lN (((jM an iv k) * (an 3)) / 100)) (pk_lDiv (by omega) (by omega) (by omega)) ?_
                    refine lv_goto (tgt := 110) hx hb dX0_shareIn_106 (by decide) ?_
                    have hz : ((jM an iv k) * (an 3)) / 100 = (if k < an 0 then 0 else jS an iv k) := by
                      rw [if_neg (show ¬ k < an 0 by omega)]
                      unfold jS
                      repeat' split
                      all_goals first | rfl | omega
                    exact W.lret (v := lN (((jM an iv k) * (an 3)) / 100)) hx hb hr (fun t ht hW => ⟨_, rfl, by rw [← hz], ht⟩) (fun _ h => by cases h) dX0_shareIn_110
                  · have c_87 : f1 = 0 := (nI_eq (a := f1) (b := 0) (by omega) (by omega)).mp c_87
                    refine lv_iload hx hb dX0_shareIn_90 (lv_at hl 0 rfl) ?_
                    refine lv_if_eq (tgt := 109) hx hb dX0_shareIn_92 (by decide) (fun c_92 => ?_) (fun c_92 => ?_)
                    · have c_92 : f2 = 0 := (nI_eq (a := f2) (b := 0) (by omega) (by omega)).mp c_92
                      refine lv_lconst (v := lN 0) hx hb dX0_shareIn_109 (by decide) ?_
                      have hz : 0 = (if k < an 0 then 0 else jS an iv k) := by
                        rw [if_neg (show ¬ k < an 0 by omega)]
                        unfold jS
                        repeat' split
                        all_goals first | rfl | omega
                      exact W.lret (v := lN 0) hx hb hr (fun t ht hW => ⟨_, rfl, by rw [← hz], ht⟩) (fun _ h => by cases h) dX0_shareIn_110
                    · have c_92 : ¬ (f2 = 0) := fun h => c_92 ((nI_eq (a := f2) (b := 0) (by omega) (by omega)).mpr h)
                      refine lv_lload_n hx hb dX0_shareIn_95 rfl (lv_at hl 2 rfl) ?_
                      refine lv_aload_n hx hb dX0_shareIn_96 rfl (lv_at hl 3 rfl) ?_
                      refine va_get (D := (dC, dI)) (ci := 0) (v := .int (nI (an 3))) (C := RX0) (T := TX0) (N := 13) hx hb hts (fun _ h => List.mem_cons_of_mem _ (List.mem_append_right _ h)) hown hK hP 0 rfl rfl 3 (by decide) (hts (.fieldLink RX0 21 "JointAnnuity$Annuity" "survivorPercent" "I") (List.mem_of_getElem? (i := 5) rfl)) (fun _ h9 => h9) rfl dX0_shareIn_97 ?_
                      refine lv_i2l (v := lN (an 3)) hx hb dX0_shareIn_100 (nI_l (by omega)) ?_
                      refine lv_lmul hx hb dX0_shareIn_101 ?_
                      refine j_l (y := lN ((jM an iv k) * (an 3))) (lN_mul _ _) ?_
                      refine lv_ldc2 hx hb hown (hts (.constantLong RX0 68 (100)) (List.mem_of_getElem? (i := 6) rfl)) dX0_shareIn_102 ?_
                      refine j_l (y := lN 100) (by decide +kernel) ?_
                      refine lv_ldiv hx hb dX0_shareIn_105 (by decide) ?_
                      refine j_l (y := lN (((jM an iv k) * (an 3)) / 100)) (pk_lDiv (by omega) (by omega) (by omega)) ?_
                      refine lv_goto (tgt := 110) hx hb dX0_shareIn_106 (by decide) ?_
                      have hz : ((jM an iv k) * (an 3)) / 100 = (if k < an 0 then 0 else jS an iv k) := by
                        rw [if_neg (show ¬ k < an 0 by omega)]
                        unfold jS
                        repeat' split
                        all_goals first | rfl | omega
                      exact W.lret (v := lN (((jM an iv k) * (an 3)) / 100)) hx hb hr (fun t ht hW => ⟨_, rfl, by rw [← hz], ht⟩) (fun _ h => by cases h) dX0_shareIn_110
                · have c_80 : an 4 = 0 := (nI_eq (a := an 4) (b := 0) (by omega) (by omega)).mp c_80
                  refine lv_lload_n hx hb dX0_shareIn_83 rfl (lv_at hl 2 rfl) ?_
                  have hz : jM an iv k = (if k < an 0 then 0 else jS an iv k) := by
                    rw [if_neg (show ¬ k < an 0 by omega)]
                    unfold jS
                    repeat' split
                    all_goals first | rfl | omega
                  exact W.lret (v := lN (jM an iv k)) hx hb hr (fun t ht hW => ⟨_, rfl, by rw [← hz], ht⟩) (fun _ h => by cases h) dX0_shareIn_84
            · have c_66 : ¬ (f2 = 0) := fun h => c_66 ((nI_eq (a := f2) (b := 0) (by omega) (by omega)).mpr h)
              refine lv_lload_n hx hb dX0_shareIn_69 rfl (lv_at hl 2 rfl) ?_
              have hz : jM an iv k = (if k < an 0 then 0 else jS an iv k) := by
                rw [if_neg (show ¬ k < an 0 by omega)]
                unfold jS
                repeat' split
                all_goals first | rfl | omega
              exact W.lret (v := lN (jM an iv k)) hx hb hr (fun t ht hW => ⟨_, rfl, by rw [← hz], ht⟩) (fun _ h => by cases h) dX0_shareIn_70
      refine lv_iload_n hx hb dX0_shareIn_34 rfl (lv_at hl 3 rfl) ?_
      refine lv_aload_n hx hb dX0_shareIn_35 rfl (lv_at hl 2 rfl) ?_
      refine va_get (D := (dC, dI)) (ci := 0) (v := .ref (aa 1)) (C := RX0) (T := TX0) (N := 13) hx hb hts (fun _ h => List.mem_cons_of_mem _ (List.mem_append_right _ h)) hown hK hP 0 rfl rfl 8 (by decide) (hts (.fieldLink RX0 37 "JointAnnuity$Annuity" "deaths" "[I") (List.mem_of_getElem? (i := 2) rfl)) (fun _ h9 => h9) rfl dX0_shareIn_36 ?_
      refine lv_iconst (v := nI 1) hx hb dX0_shareIn_39 (by decide) ?_
      refine va_iald hx hb hK hP 1 0 (f := fun j => nI (if j = 0 then an 8 else an 9)) rfl rfl (vp_in_nI (n := 1) (N := 2) (by omega) (by omega)) dX0_shareIn_40 ?_
      refine j_i (y := nI (an 9)) (jd1 _ _) ?_
      refine lv_icmp_gt (tgt := 48) hx hb dX0_shareIn_41 (by decide) (fun c_41 => ?_) (fun c_41 => ?_)
      · have c_41 : an 9 < k := (nI_ltI (a := an 9) (b := k) (by omega) (by omega)).mp c_41
        refine lv_iconst (v := nI 0) hx hb dX0_shareIn_48 (by decide) ?_
        exact J49 0 (by omega)
      · have c_41 : ¬ (an 9 < k) := fun h => c_41 ((nI_ltI (a := an 9) (b := k) (by omega) (by omega)).mpr h)
        refine lv_iconst (v := nI 1) hx hb dX0_shareIn_44 (by decide) ?_
        refine lv_goto (tgt := 49) hx hb dX0_shareIn_45 (by decide) ?_
        exact J49 1 (by omega)
    refine lv_iload_n hx hb dX0_shareIn_17 rfl (lv_at hl 2 rfl) ?_
    refine lv_aload_n hx hb dX0_shareIn_18 rfl (lv_at hl 1 rfl) ?_
    refine va_get (D := (dC, dI)) (ci := 0) (v := .ref (aa 1)) (C := RX0) (T := TX0) (N := 13) hx hb hts (fun _ h => List.mem_cons_of_mem _ (List.mem_append_right _ h)) hown hK hP 0 rfl rfl 8 (by decide) (hts (.fieldLink RX0 37 "JointAnnuity$Annuity" "deaths" "[I") (List.mem_of_getElem? (i := 2) rfl)) (fun _ h9 => h9) rfl dX0_shareIn_19 ?_
    refine lv_iconst (v := nI 0) hx hb dX0_shareIn_22 (by decide) ?_
    refine va_iald hx hb hK hP 1 0 (f := fun j => nI (if j = 0 then an 8 else an 9)) rfl rfl (vp_in_nI (n := 0) (N := 2) (by omega) (by omega)) dX0_shareIn_23 ?_
    refine j_i (y := nI (an 8)) (jd0 _ _) ?_
    refine lv_icmp_gt (tgt := 31) hx hb dX0_shareIn_24 (by decide) (fun c_24 => ?_) (fun c_24 => ?_)
    · have c_24 : an 8 < k := (nI_ltI (a := an 8) (b := k) (by omega) (by omega)).mp c_24
      refine lv_iconst (v := nI 0) hx hb dX0_shareIn_31 (by decide) ?_
      exact J32 0 (by omega)
    · have c_24 : ¬ (an 8 < k) := fun h => c_24 ((nI_ltI (a := an 8) (b := k) (by omega) (by omega)).mpr h)
      refine lv_iconst (v := nI 1) hx hb dX0_shareIn_27 (by decide) ?_
      refine lv_goto (tgt := 32) hx hb dX0_shareIn_28 (by decide) ?_
      exact J32 1 (by omega)
  · have c_5 : ¬ (an 0 ≤ k) := fun h => c_5 ((nI_leI (a := an 0) (b := k) (by omega) (by omega)).mpr h)
    refine lv_lconst (v := lN 0) hx hb dX0_shareIn_8 (by decide) ?_
    exact W.lret (v := lN 0) hx hb hr (fun t ht hW => ⟨_, rfl, by rw [if_pos (by omega)], ht⟩) (fun _ h => by cases h) dX0_shareIn_9
set_option maxHeartbeats 4000000 in
set_option maxRecDepth 100000 in
/-- all shares ahead of a month -/
theorem c_X0_sharesAhead (l : Launch) (dC : Nat → ClassId) (dI : Nat → Nat → Nat) (cI cJ cZ cO : ClassId) (aa an : Nat → Nat) (iv : Nat → Int32) (kp : Int64) (py : Nat → Int64) (e9 : Nat) (hv : jV an) (he : e9 ≤ 240) : Met l yX0_sharesAhead wsX0_sharesAhead ({ frames := 2, cells := 0, slots := 0, locals := 46 }) (va_Pc [.ref (aa 0), .int (nI e9)] (jR (dC, dI) (jTY cI cJ cZ cO) (jAW cI cJ aa an iv kp py))) (vp_Sl (fun r => r = lN (jT an iv e9))) 0 0 (fun _ => False) := by
  refine j_of (cc := cX0_sharesAhead) (maxL := 5) (ret := (some .long)) (by decide) rfl (Nat.le_of_ble_eq_true rfl) ?_
  intro p e s m below meth c ls hx hb hr hml hts hown hlocks hnm hl hpre
  have hown : s.vm.findClass RX0 = some m.cls := hown
  have hl : lv_has ls 5 [(0, .ref (aa 0)), (1, .int (nI e9))] := hl
  obtain ⟨v0, v1, v2, v3, v4, v5, v6, v7, v8, v9⟩ := id hv
  obtain ⟨hP, hK⟩ := hpre
  refine lv_lconst (v := lN 0) hx hb dX0_sharesAhead_0 (by decide) ?_
  refine j_l (y := lN (jT an iv (an 0))) (by rw [jT_0 an iv (Nat.le_refl _)]) ?_
  refine lv_lstore_n (lv' := [(2, .long (lN (jT an iv (an 0)))), (0, .ref (aa 0)), (1, .int (nI e9))]) hx hb dX0_sharesAhead_1 rfl hl (by decide) rfl (fun ls hl => ?_)
  refine lv_aload_n hx hb dX0_sharesAhead_2 rfl (lv_at hl 1 rfl) ?_
  refine va_get (D := (dC, dI)) (ci := 0) (v := .int (nI (an 0))) (C := RX0) (T := TX0) (N := 13) hx hb hts (fun _ h => List.mem_cons_of_mem _ (List.mem_append_right _ h)) hown hK hP 0 rfl rfl 0 (by decide) (hts (.fieldLink RX0 9 "JointAnnuity$Annuity" "start" "I") (List.mem_of_getElem? (i := 1) rfl)) (fun _ h9 => h9) rfl dX0_sharesAhead_3 ?_
  refine lv_istore (lv' := [(4, .int (nI (an 0))), (2, .long (lN (jT an iv (an 0)))), (0, .ref (aa 0)), (1, .int (nI e9))]) hx hb dX0_sharesAhead_6 hl (by decide) rfl (fun ls hl => ?_)
  refine j_loop (I := fun j : Nat => an 0 ≤ j ∧ (j = an 0 ∨ j ≤ e9)) (μ := fun j => e9 - j) (lv := fun j => [(0, .ref (aa 0)), (1, .int (nI e9)), (2, .long (lN (jT an iv j))), (4, .int (nI j))]) (an 0) (by omega) (lv_sub hl [2, 3, 1, 0] rfl) ?_
  intro j ls hI hl IH
  have hl : lv_has ls 5 [(0, .ref (aa 0)), (1, .int (nI e9)), (2, .long (lN (jT an iv j))), (4, .int (nI j))] := hl
  obtain ⟨hI1, hI2⟩ := id hI
  refine lv_iload hx hb dX0_sharesAhead_8 (lv_at hl 3 rfl) ?_
  refine lv_iload_n hx hb dX0_sharesAhead_10 rfl (lv_at hl 1 rfl) ?_
  refine lv_icmp_ge (tgt := 29) hx hb dX0_sharesAhead_11 (by decide) (fun c_11 => ?_) (fun c_11 => ?_)
  · have c_11 : e9 ≤ j := (nI_leI (a := e9) (b := j) (by omega) (by omega)).mp c_11
    refine lv_lload_n hx hb dX0_sharesAhead_29 rfl (lv_at hl 2 rfl) ?_
    have hz : jT an iv j = jT an iv e9 := by
      rcases hI2 with h | h
      · rw [h, jT_0 an iv (Nat.le_refl _), jT_0 an iv (by omega)]
      · rw [show j = e9 by omega]
    exact W.lret (v := lN (jT an iv j)) hx hb hr (fun t ht hW => ⟨_, rfl, by rw [hz], ht⟩) (fun _ h => by cases h) dX0_sharesAhead_30
  · have c_11 : ¬ (e9 ≤ j) := fun h => c_11 ((nI_leI (a := e9) (b := j) (by omega) (by omega)).mpr h)
    refine lv_lload_n hx hb dX0_sharesAhead_14 rfl (lv_at hl 2 rfl) ?_
    refine lv_aload_n hx hb dX0_sharesAhead_15 rfl (lv_at hl 0 rfl) ?_
    refine lv_iload hx hb dX0_sharesAhead_16 (lv_at hl 3 rfl) ?_
    refine j_cL_ (As := [.int (nI j)]) (rest := [.long (lN (jT an iv j))]) ⟨hx, hb, hml, hown, hts⟩ (c_X0_shareIn l dC dI cI cJ cZ cO aa an iv kp py j hv (by omega)) (cwV 1 hts gX0_sharesAhead_X0_shareIn rfl rfl rfl (by decide +kernel) ⟨Nat.le_of_ble_eq_true rfl, Nat.le_of_ble_eq_true rfl⟩) (jR_V hK hP [0, 1, 2, 3, 4] rfl (ci := 0) (q0 := 0) rfl rfl rfl) rfl hl rfl (Nat.le_of_ble_eq_true rfl) dX0_sharesAhead_18 ⟨Nat.le_of_ble_eq_true rfl, Nat.le_of_ble_eq_true rfl⟩ (fun r_18 hr_18 => ?_)
    subst hr_18
    refine j_l (y := lN (jS an iv j)) (by rw [if_neg (by omega)]) ?_
    refine lv_ladd hx hb dX0_sharesAhead_21 ?_
    refine j_l (y := lN (jT an iv j + jS an iv j)) (lN_add _ _) ?_
    refine j_l (y := lN (jT an iv (j + 1))) (by rw [jT_s an iv hI.1]) ?_
    refine lv_lstore_n (lv' := [(2, .long (lN (jT an iv (j + 1)))), (0, .ref (aa 0)), (1, .int (nI e9)), (4, .int (nI j))]) hx hb dX0_sharesAhead_22 rfl hl (by decide) rfl (fun ls hl => ?_)
    refine lv_iinc (v := nI (j + 1)) (lv' := [(4, .int (nI (j + 1))), (2, .long (lN (jT an iv (j + 1)))), (0, .ref (aa 0)), (1, .int (nI e9))]) hx hb dX0_sharesAhead_23 hl (k := 3) rfl (by exact nI_add _ 1) (by decide) rfl (fun ls hl => ?_)
    refine lv_goto (tgt := 8) hx hb dX0_sharesAhead_26 (by decide) ?_
    exact IH (j + 1) _ (by omega) (by omega) (lv_sub hl [2, 3, 1, 0] rfl)
set_option maxHeartbeats 4000000 in
set_option maxRecDepth 100000 in
/-- the month of the protection -/
theorem c_X0_protectionMonth (l : Launch) (dC : Nat → ClassId) (dI : Nat → Nat → Nat) (cI cJ cZ cO : ClassId) (aa an : Nat → Nat) (iv : Nat → Int32) (kp : Int64) (py : Nat → Int64) (hv : jV an) : Met l yX0_protectionMonth wsX0_protectionMonth ({ frames := 1, cells := 0, slots := 0, locals := 13 }) (va_Pc [.ref (aa 0)] (jR (dC, dI) (jTY cI cJ cZ cO) (jAW cI cJ aa an iv kp py))) (vp_Si (fun r => r = nI (jP an))) 0 0 (fun _ => False) := by
  refine j_of (cc := cX0_protectionMonth) (maxL := 2) (ret := (some .int)) (by decide) rfl (Nat.le_of_ble_eq_true rfl) ?_
  intro p e s m below meth c ls hx hb hr hml hts hown hlocks hnm hl hpre
  have hown : s.vm.findClass RX0 = some m.cls := hown
  have hl : lv_has ls 2 [(0, .ref (aa 0))] := hl
  obtain ⟨v0, v1, v2, v3, v4, v5, v6, v7, v8, v9⟩ := id hv
  obtain ⟨hP, hK⟩ := hpre
  refine lv_aload_n hx hb dX0_protectionMonth_0 rfl (lv_at hl 0 rfl) ?_
  refine va_get (D := (dC, dI)) (ci := 0) (v := .ref (aa 1)) (C := RX0) (T := TX0) (N := 13) hx hb hts (fun _ h => List.mem_cons_of_mem _ (List.mem_append_right _ h)) hown hK hP 0 rfl rfl 8 (by decide) (hts (.fieldLink RX0 37 "JointAnnuity$Annuity" "deaths" "[I") (List.mem_of_getElem? (i := 1) rfl)) (fun _ h9 => h9) rfl dX0_protectionMonth_1 ?_
  refine lv_iconst (v := nI 0) hx hb dX0_protectionMonth_4 (by decide) ?_
  refine va_iald hx hb hK hP 1 0 (f := fun j => nI (if j = 0 then an 8 else an 9)) rfl rfl (vp_in_nI (n := 0) (N := 2) (by omega) (by omega)) dX0_protectionMonth_5 ?_
  refine j_i (y := nI (an 8)) (jd0 _ _) ?_
  refine lv_sipush (v := nI 240) hx hb dX0_protectionMonth_6 (by decide) ?_
  refine lv_icmp_eq (tgt := 24) hx hb dX0_protectionMonth_9 (by decide) (fun c_9 => ?_) (fun c_9 => ?_)
  · have c_9 : an 8 = 240 := (nI_eq (a := an 8) (b := 240) (by omega) (by omega)).mp c_9
    refine lv_sipush (v := nI 240) hx hb dX0_protectionMonth_24 (by decide) ?_
    exact W.iret (v := nI 240) hx hb hr (fun t ht hW => ⟨_, rfl, by unfold jP; rw [if_pos (by omega)], ht⟩) (fun _ h => by cases h) dX0_protectionMonth_27
  · have c_9 : ¬ (an 8 = 240) := fun h => c_9 ((nI_eq (a := an 8) (b := 240) (by omega) (by omega)).mpr h)
    refine lv_aload_n hx hb dX0_protectionMonth_12 rfl (lv_at hl 0 rfl) ?_
    refine va_get (D := (dC, dI)) (ci := 0) (v := .ref (aa 1)) (C := RX0) (T := TX0) (N := 13) hx hb hts (fun _ h => List.mem_cons_of_mem _ (List.mem_append_right _ h)) hown hK hP 0 rfl rfl 8 (by decide) (hts (.fieldLink RX0 37 "JointAnnuity$Annuity" "deaths" "[I") (List.mem_of_getElem? (i := 1) rfl)) (fun _ h9 => h9) rfl dX0_protectionMonth_13 ?_
    refine lv_iconst (v := nI 1) hx hb dX0_protectionMonth_16 (by decide) ?_
    refine va_iald hx hb hK hP 1 0 (f := fun j => nI (if j = 0 then an 8 else an 9)) rfl rfl (vp_in_nI (n := 1) (N := 2) (by omega) (by omega)) dX0_protectionMonth_17 ?_
    refine j_i (y := nI (an 9)) (jd1 _ _) ?_
    refine lv_sipush (v := nI 240) hx hb dX0_protectionMonth_18 (by decide) ?_
    refine lv_icmp_ne (tgt := 28) hx hb dX0_protectionMonth_21 (by decide) (fun c_21 => ?_) (fun c_21 => ?_)
    · have c_21 : ¬ (an 9 = 240) := fun h => c_21 ((nI_eq (a := an 9) (b := 240) (by omega) (by omega)).mpr h)
      refine lv_aload_n hx hb dX0_protectionMonth_28 rfl (lv_at hl 0 rfl) ?_
      refine va_get (D := (dC, dI)) (ci := 0) (v := .ref (aa 1)) (C := RX0) (T := TX0) (N := 13) hx hb hts (fun _ h => List.mem_cons_of_mem _ (List.mem_append_right _ h)) hown hK hP 0 rfl rfl 8 (by decide) (hts (.fieldLink RX0 37 "JointAnnuity$Annuity" "deaths" "[I") (List.mem_of_getElem? (i := 1) rfl)) (fun _ h9 => h9) rfl dX0_protectionMonth_29 ?_
      refine lv_iconst (v := nI 0) hx hb dX0_protectionMonth_32 (by decide) ?_
      refine va_iald hx hb hK hP 1 0 (f := fun j => nI (if j = 0 then an 8 else an 9)) rfl rfl (vp_in_nI (n := 0) (N := 2) (by omega) (by omega)) dX0_protectionMonth_33 ?_
      refine j_i (y := nI (an 8)) (jd0 _ _) ?_
      refine lv_aload_n hx hb dX0_protectionMonth_34 rfl (lv_at hl 0 rfl) ?_
      refine va_get (D := (dC, dI)) (ci := 0) (v := .ref (aa 1)) (C := RX0) (T := TX0) (N := 13) hx hb hts (fun _ h => List.mem_cons_of_mem _ (List.mem_append_right _ h)) hown hK hP 0 rfl rfl 8 (by decide) (hts (.fieldLink RX0 37 "JointAnnuity$Annuity" "deaths" "[I") (List.mem_of_getElem? (i := 1) rfl)) (fun _ h9 => h9) rfl dX0_protectionMonth_35 ?_
      refine lv_iconst (v := nI 1) hx hb dX0_protectionMonth_38 (by decide) ?_
      refine va_iald hx hb hK hP 1 0 (f := fun j => nI (if j = 0 then an 8 else an 9)) rfl rfl (vp_in_nI (n := 1) (N := 2) (by omega) (by omega)) dX0_protectionMonth_39 ?_
      refine j_i (y := nI (an 9)) (jd1 _ _) ?_
      refine va_mmax hx hb (hml.trans hl.1.symm) hown (hts (.methodLink RX0 61 Lib.Math.max.name) (List.mem_of_getElem? (i := 2) rfl)) (hts (.static Lib.Math.max.name) (List.mem_of_getElem? (i := 3) rfl)) (hts (.initialized "java/lang/Math") (List.mem_of_getElem? (i := 4) rfl)) (hts (.code Lib.Math.max.name Lib.Math.max.code 2 (some .int)) (List.mem_of_getElem? (i := 5) rfl)) (Nat.le_of_ble_eq_true rfl) (Nat.le_of_ble_eq_true rfl) (Nat.le_of_ble_eq_true rfl) (Nat.le_of_ble_eq_true rfl) dX0_protectionMonth_40 ?_
      refine j_i (y := nI (max (an 8) (an 9))) (jmaxI (by omega) (by omega)) ?_
      refine lv_iconst (v := nI 1) hx hb dX0_protectionMonth_43 (by decide) ?_
      refine lv_iadd hx hb dX0_protectionMonth_44 ?_
      refine j_i (y := nI ((max (an 8) (an 9)) + 1)) (nI_add _ _) ?_
      refine lv_istore_n (lv' := [(1, .int (nI ((max (an 8) (an 9)) + 1))), (0, .ref (aa 0))]) hx hb dX0_protectionMonth_45 rfl hl (by decide) rfl (fun ls hl => ?_)
      refine lv_iload_n hx hb dX0_protectionMonth_46 rfl (lv_at hl 0 rfl) ?_
      refine lv_aload_n hx hb dX0_protectionMonth_47 rfl (lv_at hl 1 rfl) ?_
      refine va_get (D := (dC, dI)) (ci := 0) (v := .int (nI (an 0 + an 2))) (C := RX0) (T := TX0) (N := 13) hx hb hts (fun _ h => List.mem_cons_of_mem _ (List.mem_append_right _ h)) hown hK hP 0 rfl rfl 2 (by decide) (hts (.fieldLink RX0 18 "JointAnnuity$Annuity" "guaranteeEnd" "I") (List.mem_of_getElem? (i := 6) rfl)) (fun _ h9 => h9) rfl dX0_protectionMonth_48 ?_
      refine va_mmax hx hb (hml.trans hl.1.symm) hown (hts (.methodLink RX0 61 Lib.Math.max.name) (List.mem_of_getElem? (i := 2) rfl)) (hts (.static Lib.Math.max.name) (List.mem_of_getElem? (i := 3) rfl)) (hts (.initialized "java/lang/Math") (List.mem_of_getElem? (i := 4) rfl)) (hts (.code Lib.Math.max.name Lib.Math.max.code 2 (some .int)) (List.mem_of_getElem? (i := 5) rfl)) (Nat.le_of_ble_eq_true rfl) (Nat.le_of_ble_eq_true rfl) (Nat.le_of_ble_eq_true rfl) (Nat.le_of_ble_eq_true rfl) dX0_protectionMonth_51 ?_
      refine j_i (y := nI (max (max (an 8) (an 9) + 1) (an 0 + an 2))) (jmaxI (by omega) (by omega)) ?_
      refine lv_sipush (v := nI 240) hx hb dX0_protectionMonth_54 (by decide) ?_
      refine va_mmin hx hb (hml.trans hl.1.symm) hown (hts (.methodLink RX0 55 Lib.Math.min.name) (List.mem_of_getElem? (i := 7) rfl)) (hts (.static Lib.Math.min.name) (List.mem_of_getElem? (i := 8) rfl)) (hts (.initialized "java/lang/Math") (List.mem_of_getElem? (i := 4) rfl)) (hts (.code Lib.Math.min.name Lib.Math.min.code 2 (some .int)) (List.mem_of_getElem? (i := 9) rfl)) (Nat.le_of_ble_eq_true rfl) (Nat.le_of_ble_eq_true rfl) (Nat.le_of_ble_eq_true rfl) (Nat.le_of_ble_eq_true rfl) dX0_protectionMonth_57 ?_
      refine j_i (y := nI (min (max (max (an 8) (an 9) + 1) (an 0 + an 2)) 240)) (jminI (by omega) (by omega)) ?_
      exact W.iret (v := nI (min (max (max (an 8) (an 9) + 1) (an 0 + an 2)) 240)) hx hb hr (fun t ht hW => ⟨_, rfl, by unfold jP; rw [if_neg (by omega)], ht⟩) (fun _ h => by cases h) dX0_protectionMonth_60
    · have c_21 : an 9 = 240 := (nI_eq (a := an 9) (b := 240) (by omega) (by omega)).mp c_21
      refine lv_sipush (v := nI 240) hx hb dX0_protectionMonth_24 (by decide) ?_
      exact W.iret (v := nI 240) hx hb hr (fun t ht hW => ⟨_, rfl, by unfold jP; rw [if_pos (by omega)], ht⟩) (fun _ h => by cases h) dX0_protectionMonth_27
set_option maxHeartbeats 4000000 in
set_option maxRecDepth 100000 in
/-- the protection -/
theorem c_X0_protectionSum (l : Launch) (dC : Nat → ClassId) (dI : Nat → Nat → Nat) (cI cJ cZ cO : ClassId) (aa an : Nat → Nat) (iv : Nat → Int32) (kp : Int64) (py : Nat → Int64) (hv : jV an) : Met l yX0_protectionSum wsX0_protectionSum ({ frames := 3, cells := 0, slots := 0, locals := 70 }) (va_Pc [.ref (aa 0)] (jR (dC, dI) (jTY cI cJ cZ cO) (jAW cI cJ aa an iv kp py))) (vp_Sl (fun r => r = lN (jQ an iv))) 0 0 (fun _ => False) := by
  refine j_of (cc := cX0_protectionSum) (maxL := 4) (ret := (some .long)) (by decide) rfl (Nat.le_of_ble_eq_true rfl) ?_
  intro p e s m below meth c ls hx hb hr hml hts hown hlocks hnm hl hpre
  have hown : s.vm.findClass RX0 = some m.cls := hown
  have hl : lv_has ls 4 [(0, .ref (aa 0))] := hl
  obtain ⟨v0, v1, v2, v3, v4, v5, v6, v7, v8, v9⟩ := id hv
  obtain ⟨hP, hK⟩ := hpre
  have h67 := jpr v6 v7
  have hpl := jP_le an
  have htl := jT_le hv iv hpl
  refine lv_aload_n hx hb dX0_protectionSum_0 rfl (lv_at hl 0 rfl) ?_
  refine j_cI_ (As := []) (rest := []) ⟨hx, hb, hml, hown, hts⟩ (c_X0_protectionMonth l dC dI cI cJ cZ cO aa an iv kp py hv) (cwV 0 hts gX0_protectionSum_X0_protectionMonth rfl rfl rfl (by decide +kernel) ⟨Nat.le_of_ble_eq_true rfl, Nat.le_of_ble_eq_true rfl⟩) (jR_V hK hP [0, 1, 2, 3, 4] rfl (ci := 0) (q0 := 0) rfl rfl rfl) rfl hl rfl (Nat.le_of_ble_eq_true rfl) dX0_protectionSum_1 ⟨Nat.le_of_ble_eq_true rfl, Nat.le_of_ble_eq_true rfl⟩ (fun r_1 hr_1 => ?_)
  subst hr_1
  refine lv_istore_n (lv' := [(1, .int (nI (jP an))), (0, .ref (aa 0))]) hx hb dX0_protectionSum_4 rfl hl (by decide) rfl (fun ls hl => ?_)
  refine lv_iload_n hx hb dX0_protectionSum_5 rfl (lv_at hl 0 rfl) ?_
  refine lv_sipush (v := nI 240) hx hb dX0_protectionSum_6 (by decide) ?_
  refine lv_icmp_ne (tgt := 14) hx hb dX0_protectionSum_9 (by decide) (fun c_9 => ?_) (fun c_9 => ?_)
  · have c_9 : ¬ (jP an = 240) := fun h => c_9 ((nI_eq (a := jP an) (b := 240) (by omega) (by omega)).mpr h)
    refine lv_aload_n hx hb dX0_protectionSum_14 rfl (lv_at hl 1 rfl) ?_
    refine va_get (D := (dC, dI)) (ci := 0) (v := .int (nI (an 6))) (C := RX0) (T := TX0) (N := 13) hx hb hts (fun _ h => List.mem_cons_of_mem _ (List.mem_append_right _ h)) hown hK hP 0 rfl rfl 6 (by decide) (hts (.fieldLink RX0 31 "JointAnnuity$Annuity" "price" "I") (List.mem_of_getElem? (i := 1) rfl)) (fun _ h9 => h9) rfl dX0_protectionSum_15 ?_
    refine lv_i2l (v := lN (an 6)) hx hb dX0_protectionSum_18 (nI_l (by omega)) ?_
    refine lv_aload_n hx hb dX0_protectionSum_19 rfl (lv_at hl 1 rfl) ?_
    refine va_get (D := (dC, dI)) (ci := 0) (v := .int (nI (an 7))) (C := RX0) (T := TX0) (N := 13) hx hb hts (fun _ h => List.mem_cons_of_mem _ (List.mem_append_right _ h)) hown hK hP 0 rfl rfl 7 (by decide) (hts (.fieldLink RX0 34 "JointAnnuity$Annuity" "protectedPercent" "I") (List.mem_of_getElem? (i := 2) rfl)) (fun _ h9 => h9) rfl dX0_protectionSum_20 ?_
    refine lv_i2l (v := lN (an 7)) hx hb dX0_protectionSum_23 (nI_l (by omega)) ?_
    refine lv_lmul hx hb dX0_protectionSum_24 ?_
    refine j_l (y := lN ((an 6) * (an 7))) (lN_mul _ _) ?_
    refine lv_ldc2 hx hb hown (hts (.constantLong RX0 68 (100)) (List.mem_of_getElem? (i := 3) rfl)) dX0_protectionSum_25 ?_
    refine j_l (y := lN 100) (by decide +kernel) ?_
    refine lv_ldiv hx hb dX0_protectionSum_28 (by decide) ?_
    refine j_l (y := lN (((an 6) * (an 7)) / 100)) (pk_lDiv (by omega) (by omega) (by omega)) ?_
    refine lv_lstore_n (lv' := [(2, .long (lN (((an 6) * (an 7)) / 100))), (1, .int (nI (jP an))), (0, .ref (aa 0))]) hx hb dX0_protectionSum_29 rfl hl (by decide) rfl (fun ls hl => ?_)
    refine lv_lconst (v := lN 0) hx hb dX0_protectionSum_30 (by decide) ?_
    refine lv_lload_n hx hb dX0_protectionSum_31 rfl (lv_at hl 0 rfl) ?_
    refine lv_aload_n hx hb dX0_protectionSum_32 rfl (lv_at hl 2 rfl) ?_
    refine lv_iload_n hx hb dX0_protectionSum_33 rfl (lv_at hl 1 rfl) ?_
    refine j_cL_ (As := [.int (nI (jP an))]) (rest := [.long (lN (((an 6) * (an 7)) / 100)), .long (lN 0)]) ⟨hx, hb, hml, hown, hts⟩ (c_X0_sharesAhead l dC dI cI cJ cZ cO aa an iv kp py (jP an) hv (by omega)) (cwV 1 hts gX0_protectionSum_X0_sharesAhead rfl rfl rfl (by decide +kernel) ⟨Nat.le_of_ble_eq_true rfl, Nat.le_of_ble_eq_true rfl⟩) (jR_V hK hP [0, 1, 2, 3, 4] rfl (ci := 0) (q0 := 0) rfl rfl rfl) rfl hl rfl (Nat.le_of_ble_eq_true rfl) dX0_protectionSum_34 ⟨Nat.le_of_ble_eq_true rfl, Nat.le_of_ble_eq_true rfl⟩ (fun r_34 hr_34 => ?_)
    subst hr_34
    refine lv_lsub hx hb dX0_protectionSum_37 ?_
    refine va_mmax_long hx hb (hml.trans hl.1.symm) hown (hts (.methodLink RX0 81 Lib.MathLoose.max_long.x) (List.mem_of_getElem? (i := 4) rfl)) (hts (.static Lib.MathLoose.max_long.x) (List.mem_of_getElem? (i := 5) rfl)) (hts (.initialized "java/lang/Math") (List.mem_of_getElem? (i := 6) rfl)) (hts (.code Lib.MathLoose.max_long.x Lib.MathLoose.max_long.code 4 (some .long)) (List.mem_of_getElem? (i := 7) rfl)) (Nat.le_of_ble_eq_true rfl) (Nat.le_of_ble_eq_true rfl) (Nat.le_of_ble_eq_true rfl) (Nat.le_of_ble_eq_true rfl) dX0_protectionSum_38 ?_
    refine j_l (y := lN (an 6 * an 7 / 100 - jT an iv (jP an))) (jmaxL2 (by omega) (by omega)) ?_
    exact W.lret (v := lN (an 6 * an 7 / 100 - jT an iv (jP an))) hx hb hr (fun t ht hW => ⟨_, rfl, by unfold jQ; rw [if_neg (by omega)], ht⟩) (fun _ h => by cases h) dX0_protectionSum_41
  · have c_9 : jP an = 240 := (nI_eq (a := jP an) (b := 240) (by omega) (by omega)).mp c_9
    refine lv_lconst (v := lN 0) hx hb dX0_protectionSum_12 (by decide) ?_
    exact W.lret (v := lN 0) hx hb hr (fun t ht hW => ⟨_, rfl, by unfold jQ; rw [if_pos (by omega)], ht⟩) (fun _ h => by cases h) dX0_protectionSum_13
set_option maxHeartbeats 4000000 in
set_option maxRecDepth 100000 in
/-- what is due in a month -/
theorem c_X0_dueIn (l : Launch) (dC : Nat → ClassId) (dI : Nat → Nat → Nat) (cI cJ cZ cO : ClassId) (aa an : Nat → Nat) (iv : Nat → Int32) (kp : Int64) (py : Nat → Int64) (k : Nat) (hv : jV an) (hk : k < 240) : Met l yX0_dueIn wsX0_dueIn ({ frames := 4, cells := 0, slots := 0, locals := 93 }) (va_Pc [.ref (aa 0), .int (nI k)] (jR (dC, dI) (jTY cI cJ cZ cO) (jAW cI cJ aa an iv kp py))) (vp_Sl (fun r => r = lN ((if k < an 0 then 0 else jS an iv k) + (if k = jP an then jQ an iv else 0)))) 0 0 (fun _ => False) := by
  refine j_of (cc := cX0_dueIn) (maxL := 4) (ret := (some .long)) (by decide) rfl (Nat.le_of_ble_eq_true rfl) ?_
  intro p e s m below meth c ls hx hb hr hml hts hown hlocks hnm hl hpre
  have hown : s.vm.findClass RX0 = some m.cls := hown
  have hl : lv_has ls 4 [(0, .ref (aa 0)), (1, .int (nI k))] := hl
  obtain ⟨v0, v1, v2, v3, v4, v5, v6, v7, v8, v9⟩ := id hv
  obtain ⟨hP, hK⟩ := hpre
  have hpl := jP_le an
  refine lv_aload_n hx hb dX0_dueIn_0 rfl (lv_at hl 0 rfl) ?_
  refine lv_iload_n hx hb dX0_dueIn_1 rfl (lv_at hl 1 rfl) ?_
  refine j_cL_ (As := [.int (nI k)]) (rest := []) ⟨hx, hb, hml, hown, hts⟩ (c_X0_shareIn l dC dI cI cJ cZ cO aa an iv kp py k hv hk) (cwV 1 hts gX0_dueIn_X0_shareIn rfl rfl rfl (by decide +kernel) ⟨Nat.le_of_ble_eq_true rfl, Nat.le_of_ble_eq_true rfl⟩) (jR_V hK hP [0, 1, 2, 3, 4] rfl (ci := 0) (q0 := 0) rfl rfl rfl) rfl hl rfl (Nat.le_of_ble_eq_true rfl) dX0_dueIn_2 ⟨Nat.le_of_ble_eq_true rfl, Nat.le_of_ble_eq_true rfl⟩ (fun r_2 hr_2 => ?_)
  subst hr_2
  refine lv_lstore_n (lv' := [(2, .long (lN (if k < an 0 then 0 else jS an iv k))), (0, .ref (aa 0)), (1, .int (nI k))]) hx hb dX0_dueIn_5 rfl hl (by decide) rfl (fun ls hl => ?_)
  refine j_join (fun z : Int64 => (k = jP an ∧ z = lN ((if k < an 0 then 0 else jS an iv k) + jQ an iv)) ∨ (¬ k = jP an ∧ z = lN (if k < an 0 then 0 else jS an iv k))) (fun z => F0 m 24 ls [.long z]) (fun z hz => ?_) (fun J24 => ?_)
  · have hz9 : z = lN ((if k < an 0 then 0 else jS an iv k) + (if k = jP an then jQ an iv else 0)) := by
      rcases hz with ⟨h1, h2⟩ | ⟨h1, h2⟩
      · rw [h2, if_pos h1]
      · rw [h2, if_neg h1, Nat.add_zero]
    exact W.lret (v := z) hx hb hr (fun t ht hW => ⟨_, rfl, hz9, ht⟩) (fun _ h => by cases h) dX0_dueIn_24
  refine lv_iload_n hx hb dX0_dueIn_6 rfl (lv_at hl 2 rfl) ?_
  refine lv_aload_n hx hb dX0_dueIn_7 rfl (lv_at hl 1 rfl) ?_
  refine j_cI_ (As := []) (rest := [.int (nI k)]) ⟨hx, hb, hml, hown, hts⟩ (c_X0_protectionMonth l dC dI cI cJ cZ cO aa an iv kp py hv) (cwV 0 hts gX0_dueIn_X0_protectionMonth rfl rfl rfl (by decide +kernel) ⟨Nat.le_of_ble_eq_true rfl, Nat.le_of_ble_eq_true rfl⟩) (jR_V hK hP [0, 1, 2, 3, 4] rfl (ci := 0) (q0 := 0) rfl rfl rfl) rfl hl rfl (Nat.le_of_ble_eq_true rfl) dX0_dueIn_8 ⟨Nat.le_of_ble_eq_true rfl, Nat.le_of_ble_eq_true rfl⟩ (fun r_8 hr_8 => ?_)
  subst hr_8
  refine lv_icmp_ne (tgt := 23) hx hb dX0_dueIn_11 (by decide) (fun c_11 => ?_) (fun c_11 => ?_)
  · have c_11 : ¬ (k = jP an) := fun h => c_11 ((nI_eq (a := k) (b := jP an) (by omega) (by omega)).mpr h)
    refine lv_lload_n hx hb dX0_dueIn_23 rfl (lv_at hl 0 rfl) ?_
    exact J24 _ (Or.inr ⟨c_11, rfl⟩)
  · have c_11 : k = jP an := (nI_eq (a := k) (b := jP an) (by omega) (by omega)).mp c_11
    refine lv_lload_n hx hb dX0_dueIn_14 rfl (lv_at hl 0 rfl) ?_
    refine lv_aload_n hx hb dX0_dueIn_15 rfl (lv_at hl 1 rfl) ?_
    refine j_cL_ (As := []) (rest := [.long (lN (if k < an 0 then 0 else jS an iv k))]) ⟨hx, hb, hml, hown, hts⟩ (c_X0_protectionSum l dC dI cI cJ cZ cO aa an iv kp py hv) (cwV 0 hts gX0_dueIn_X0_protectionSum rfl rfl rfl (by decide +kernel) ⟨Nat.le_of_ble_eq_true rfl, Nat.le_of_ble_eq_true rfl⟩) (jR_V hK hP [0, 1, 2, 3, 4] rfl (ci := 0) (q0 := 0) rfl rfl rfl) rfl hl rfl (Nat.le_of_ble_eq_true rfl) dX0_dueIn_16 ⟨Nat.le_of_ble_eq_true rfl, Nat.le_of_ble_eq_true rfl⟩ (fun r_16 hr_16 => ?_)
    subst hr_16
    refine lv_ladd hx hb dX0_dueIn_19 ?_
    refine j_l (y := lN ((if k < an 0 then 0 else jS an iv k) + jQ an iv)) (lN_add _ _) ?_
    refine lv_goto (tgt := 24) hx hb dX0_dueIn_20 (by decide) ?_
    exact J24 _ (Or.inl ⟨c_11, rfl⟩)
set_option maxHeartbeats 4000000 in
set_option maxRecDepth 100000 in
/-- all that is due ahead of a month -/
theorem c_X0_dueAhead (l : Launch) (dC : Nat → ClassId) (dI : Nat → Nat → Nat) (cI cJ cZ cO : ClassId) (aa an : Nat → Nat) (iv : Nat → Int32) (kp : Int64) (py : Nat → Int64) (e9 : Nat) (hv : jV an) (he : e9 ≤ 240) : Met l yX0_dueAhead wsX0_dueAhead ({ frames := 4, cells := 0, slots := 0, locals := 93 }) (va_Pc [.ref (aa 0), .int (nI e9)] (jR (dC, dI) (jTY cI cJ cZ cO) (jAW cI cJ aa an iv kp py))) (vp_Sl (fun r => r = lN (jU an iv e9))) 0 0 (fun _ => False) := by
  refine j_of (cc := cX0_dueAhead) (maxL := 4) (ret := (some .long)) (by decide) rfl (Nat.le_of_ble_eq_true rfl) ?_
  intro p e s m below meth c ls hx hb hr hml hts hown hlocks hnm hl hpre
  have hown : s.vm.findClass RX0 = some m.cls := hown
  have hl : lv_has ls 4 [(0, .ref (aa 0)), (1, .int (nI e9))] := hl
  obtain ⟨v0, v1, v2, v3, v4, v5, v6, v7, v8, v9⟩ := id hv
  obtain ⟨hP, hK⟩ := hpre
  have hpl := jP_le an
  refine lv_aload_n hx hb dX0_dueAhead_0 rfl (lv_at hl 0 rfl) ?_
  refine lv_iload_n hx hb dX0_dueAhead_1 rfl (lv_at hl 1 rfl) ?_
  refine j_cL_ (As := [.int (nI e9)]) (rest := []) ⟨hx, hb, hml, hown, hts⟩ (c_X0_sharesAhead l dC dI cI cJ cZ cO aa an iv kp py e9 hv he) (cwV 1 hts gX0_dueAhead_X0_sharesAhead rfl rfl rfl (by decide +kernel) ⟨Nat.le_of_ble_eq_true rfl, Nat.le_of_ble_eq_true rfl⟩) (jR_V hK hP [0, 1, 2, 3, 4] rfl (ci := 0) (q0 := 0) rfl rfl rfl) rfl hl rfl (Nat.le_of_ble_eq_true rfl) dX0_dueAhead_2 ⟨Nat.le_of_ble_eq_true rfl, Nat.le_of_ble_eq_true rfl⟩ (fun r_2 hr_2 => ?_)
  subst hr_2
  refine lv_lstore_n (lv' := [(2, .long (lN (jT an iv e9))), (0, .ref (aa 0)), (1, .int (nI e9))]) hx hb dX0_dueAhead_5 rfl hl (by decide) rfl (fun ls hl => ?_)
  refine j_join (fun z : Int64 => (e9 ≤ jP an ∧ z = lN (jT an iv e9)) ∨ (jP an < e9 ∧ z = lN (jT an iv e9 + jQ an iv))) (fun z => F0 m 24 ls [.long z]) (fun z hz => ?_) (fun J24 => ?_)
  · have hz9 : z = lN (jU an iv e9) := by
      unfold jU
      rcases hz with ⟨h1, h2⟩ | ⟨h1, h2⟩
      · rw [h2, if_neg (by omega), Nat.add_zero]
      · rw [h2, if_pos h1]
    exact W.lret (v := z) hx hb hr (fun t ht hW => ⟨_, rfl, hz9, ht⟩) (fun _ h => by cases h) dX0_dueAhead_24
  refine lv_aload_n hx hb dX0_dueAhead_6 rfl (lv_at hl 1 rfl) ?_
  refine j_cI_ (As := []) (rest := []) ⟨hx, hb, hml, hown, hts⟩ (c_X0_protectionMonth l dC dI cI cJ cZ cO aa an iv kp py hv) (cwV 0 hts gX0_dueAhead_X0_protectionMonth rfl rfl rfl (by decide +kernel) ⟨Nat.le_of_ble_eq_true rfl, Nat.le_of_ble_eq_true rfl⟩) (jR_V hK hP [0, 1, 2, 3, 4] rfl (ci := 0) (q0 := 0) rfl rfl rfl) rfl hl rfl (Nat.le_of_ble_eq_true rfl) dX0_dueAhead_7 ⟨Nat.le_of_ble_eq_true rfl, Nat.le_of_ble_eq_true rfl⟩ (fun r_7 hr_7 => ?_)
  subst hr_7
  refine lv_iload_n hx hb dX0_dueAhead_10 rfl (lv_at hl 2 rfl) ?_
  refine lv_icmp_ge (tgt := 23) hx hb dX0_dueAhead_11 (by decide) (fun c_11 => ?_) (fun c_11 => ?_)
  · have c_11 : e9 ≤ jP an := (nI_leI (a := e9) (b := jP an) (by omega) (by omega)).mp c_11
    refine lv_lload_n hx hb dX0_dueAhead_23 rfl (lv_at hl 0 rfl) ?_
    exact J24 _ (Or.inl ⟨c_11, rfl⟩)
  · have c_11 : ¬ (e9 ≤ jP an) := fun h => c_11 ((nI_leI (a := e9) (b := jP an) (by omega) (by omega)).mpr h)
    refine lv_lload_n hx hb dX0_dueAhead_14 rfl (lv_at hl 0 rfl) ?_
    refine lv_aload_n hx hb dX0_dueAhead_15 rfl (lv_at hl 1 rfl) ?_
    refine j_cL_ (As := []) (rest := [.long (lN (jT an iv e9))]) ⟨hx, hb, hml, hown, hts⟩ (c_X0_protectionSum l dC dI cI cJ cZ cO aa an iv kp py hv) (cwV 0 hts gX0_dueAhead_X0_protectionSum rfl rfl rfl (by decide +kernel) ⟨Nat.le_of_ble_eq_true rfl, Nat.le_of_ble_eq_true rfl⟩) (jR_V hK hP [0, 1, 2, 3, 4] rfl (ci := 0) (q0 := 0) rfl rfl rfl) rfl hl rfl (Nat.le_of_ble_eq_true rfl) dX0_dueAhead_16 ⟨Nat.le_of_ble_eq_true rfl, Nat.le_of_ble_eq_true rfl⟩ (fun r_16 hr_16 => ?_)
    subst hr_16
    refine lv_ladd hx hb dX0_dueAhead_19 ?_
    refine j_l (y := lN (jT an iv e9 + jQ an iv)) (lN_add _ _) ?_
    refine lv_goto (tgt := 24) hx hb dX0_dueAhead_20 (by decide) ?_
    exact J24 _ (Or.inr ⟨by omega, rfl⟩)
set_option maxHeartbeats 4000000 in
set_option maxRecDepth 100000 in
/-- what is owed -/
theorem c_X0_debtAhead (l : Launch) (dC : Nat → ClassId) (dI : Nat → Nat → Nat) (cI cJ cZ cO : ClassId) (aa an : Nat → Nat) (iv : Nat → Int32) (kp : Int64) (py : Nat → Int64) (e9 : Nat) (hv : jV an) (he : e9 ≤ 240) : Met l yX0_debtAhead wsX0_debtAhead ({ frames := 5, cells := 0, slots := 0, locals := 116 }) (va_Pc [.ref (aa 0), .int (nI e9)] (jR (dC, dI) (jTY cI cJ cZ cO) (jAW cI cJ aa an iv kp py))) (vp_Sl (fun r => r = jmx (kp - lN (jU an iv e9)))) 0 0 (fun _ => False) := by
  refine j_of (cc := cX0_debtAhead) (maxL := 2) (ret := (some .long)) (by decide) rfl (Nat.le_of_ble_eq_true rfl) ?_
  intro p e s m below meth c ls hx hb hr hml hts hown hlocks hnm hl hpre
  have hown : s.vm.findClass RX0 = some m.cls := hown
  have hl : lv_has ls 2 [(0, .ref (aa 0)), (1, .int (nI e9))] := hl
  obtain ⟨v0, v1, v2, v3, v4, v5, v6, v7, v8, v9⟩ := id hv
  obtain ⟨hP, hK⟩ := hpre
  refine lv_lconst (v := lN 0) hx hb dX0_debtAhead_0 (by decide) ?_
  refine lv_aload_n hx hb dX0_debtAhead_1 rfl (lv_at hl 0 rfl) ?_
  refine va_get (D := (dC, dI)) (ci := 0) (v := .long (kp)) (C := RX0) (T := TX0) (N := 13) hx hb hts (fun _ h => List.mem_cons_of_mem _ (List.mem_append_right _ h)) hown hK hP 0 rfl rfl 12 (by decide) (hts (.fieldLink RX0 51 "JointAnnuity$Annuity" "keptInAll" "J") (List.mem_of_getElem? (i := 1) rfl)) (fun _ h9 => h9) rfl dX0_debtAhead_2 ?_
  refine lv_aload_n hx hb dX0_debtAhead_5 rfl (lv_at hl 0 rfl) ?_
  refine lv_iload_n hx hb dX0_debtAhead_6 rfl (lv_at hl 1 rfl) ?_
  refine j_cL_ (As := [.int (nI e9)]) (rest := [.long (kp), .long (lN 0)]) ⟨hx, hb, hml, hown, hts⟩ (c_X0_dueAhead l dC dI cI cJ cZ cO aa an iv kp py e9 hv he) (cwV 1 hts gX0_debtAhead_X0_dueAhead rfl rfl rfl (by decide +kernel) ⟨Nat.le_of_ble_eq_true rfl, Nat.le_of_ble_eq_true rfl⟩) (jR_V hK hP [0, 1, 2, 3, 4] rfl (ci := 0) (q0 := 0) rfl rfl rfl) rfl hl rfl (Nat.le_of_ble_eq_true rfl) dX0_debtAhead_7 ⟨Nat.le_of_ble_eq_true rfl, Nat.le_of_ble_eq_true rfl⟩ (fun r_7 hr_7 => ?_)
  subst hr_7
  refine lv_lsub hx hb dX0_debtAhead_10 ?_
  refine va_mmax_long hx hb (hml.trans hl.1.symm) hown (hts (.methodLink RX0 81 Lib.MathLoose.max_long.x) (List.mem_of_getElem? (i := 2) rfl)) (hts (.static Lib.MathLoose.max_long.x) (List.mem_of_getElem? (i := 3) rfl)) (hts (.initialized "java/lang/Math") (List.mem_of_getElem? (i := 4) rfl)) (hts (.code Lib.MathLoose.max_long.x Lib.MathLoose.max_long.code 4 (some .long)) (List.mem_of_getElem? (i := 5) rfl)) (Nat.le_of_ble_eq_true rfl) (Nat.le_of_ble_eq_true rfl) (Nat.le_of_ble_eq_true rfl) (Nat.le_of_ble_eq_true rfl) dX0_debtAhead_11 ?_
  refine j_l (y := jmx (kp - lN (jU an iv e9))) (jmx_of _) ?_
  exact W.lret (v := jmx (kp - lN (jU an iv e9))) hx hb hr (fun t ht hW => ⟨_, rfl, rfl, ht⟩) (fun _ h => by cases h) dX0_debtAhead_14
end
section
/-! the contracts of an annuity: writers -/
set_option maxHeartbeats 4000000 in
set_option maxRecDepth 100000 in
/-- the full amounts and the carries, found anew -/
theorem c_X0_growBy (l : Launch) (dC : Nat → ClassId) (dI : Nat → Nat → Nat) (cI cJ cZ cO : ClassId) (aa an : Nat → Nat) (iv : Nat → Int32) (kp : Int64) (ia : Nat) (f0 c0 : Nat → Int32) (hv : jV an) : Met l yX0_growBy wsX0_growBy ({ frames := 1, cells := 0, slots := 0, locals := 14 }) (va_Pc [.ref (aa 0), .ref ia] (jW (dC, dI) (jTY cI cJ cZ cO) [((aa 0), .inr (0, [.int (nI (an 0)), .int (nI (an 1)), .int (nI (an 0 + an 2)), .int (nI (an 3)), .int (nI (an 4)), .int (nI (an 5)), .int (nI (an 6)), .int (nI (an 7)), .ref (aa 1), .ref (aa 2), .ref (aa 3), .ref (aa 4), .long (kp)])), ((aa 2), .inl (cI, 20, .inl (f0))), ((aa 3), .inl (cI, 20, .inl (c0))), (ia, .inl (cI, 20, .inl (iv)))])) (va_Qv (fun _ : Unit => True) (fun _ t => va_P (dC, dI) vwCl [((aa 0), .inr (0, [.int (nI (an 0)), .int (nI (an 1)), .int (nI (an 0 + an 2)), .int (nI (an 3)), .int (nI (an 4)), .int (nI (an 5)), .int (nI (an 6)), .int (nI (an 7)), .ref (aa 1), .ref (aa 2), .ref (aa 3), .ref (aa 4), .long (kp)])), ((aa 2), .inl (cI, 20, .inl (fun j => nI (jF an iv j)))), ((aa 3), .inl (cI, 20, .inl (fun j => jC an iv j))), (ia, .inl (cI, 20, .inl (iv)))] t.heap) (jA [((aa 0), .inr (0, [.int (nI (an 0)), .int (nI (an 1)), .int (nI (an 0 + an 2)), .int (nI (an 3)), .int (nI (an 4)), .int (nI (an 5)), .int (nI (an 6)), .int (nI (an 7)), .ref (aa 1), .ref (aa 2), .ref (aa 3), .ref (aa 4), .long (kp)])), ((aa 2), .inl (cI, 20, .inl (f0))), ((aa 3), .inl (cI, 20, .inl (c0))), (ia, .inl (cI, 20, .inl (iv)))])) 0 0 (jA [((aa 0), .inr (0, [.int (nI (an 0)), .int (nI (an 1)), .int (nI (an 0 + an 2)), .int (nI (an 3)), .int (nI (an 4)), .int (nI (an 5)), .int (nI (an 6)), .int (nI (an 7)), .ref (aa 1), .ref (aa 2), .ref (aa 3), .ref (aa 4), .long (kp)])), ((aa 2), .inl (cI, 20, .inl (f0))), ((aa 3), .inl (cI, 20, .inl (c0))), (ia, .inl (cI, 20, .inl (iv)))]) := by
  refine j_of (cc := cX0_growBy) (maxL := 8) (ret := none) (by decide) rfl (Nat.le_of_ble_eq_true rfl) ?_
  intro p e s m below meth c ls hx hb hr hml hts hown hlocks hnm hl hpre
  have hown : s.vm.findClass RX0 = some m.cls := hown
  have hl : lv_has ls 8 [(0, .ref (aa 0)), (1, .ref ia)] := hl
  obtain ⟨v0, v1, v2, v3, v4, v5, v6, v7, v8, v9⟩ := id hv
  obtain ⟨hP, hK, hD0⟩ := hpre
  have hD := hD0.jA
  generalize hAe : jA ([((aa 0), .inr (0, [.int (nI (an 0)), .int (nI (an 1)), .int (nI (an 0 + an 2)), .int (nI (an 3)), .int (nI (an 4)), .int (nI (an 5)), .int (nI (an 6)), .int (nI (an 7)), .ref (aa 1), .ref (aa 2), .ref (aa 3), .ref (aa 4), .long (kp)])), ((aa 2), .inl (cI, 20, .inl (f0))), ((aa 3), .inl (cI, 20, .inl (c0))), (ia, .inl (cI, 20, .inl (iv)))]) = A at hD ⊢
  have hS : va_S A s.heap s.heap [] := va_S.rf
  refine lv_aload_n hx hb dX0_growBy_0 rfl (lv_at hl 0 rfl) ?_
  refine va_get (D := (dC, dI)) (ci := 0) (v := .int (nI (an 1))) (C := RX0) (T := TX0) (N := 13) hx hb hts (fun _ h => List.mem_cons_of_mem _ (List.mem_append_right _ h)) hown hK hP 0 rfl rfl 1 (by decide) (hts (.fieldLink RX0 15 "JointAnnuity$Annuity" "amount" "I") (List.mem_of_getElem? (i := 1) rfl)) (fun _ h9 => h9) rfl dX0_growBy_1 ?_
  refine j_i (y := nI (jF an iv 0)) (rfl) ?_
  refine lv_istore_n (lv' := [(2, .int (nI (jF an iv 0))), (0, .ref (aa 0)), (1, .ref ia)]) hx hb dX0_growBy_4 rfl hl (by decide) rfl (fun ls hl => ?_)
  refine lv_iconst (v := nI 0) hx hb dX0_growBy_5 (by decide) ?_
  refine j_i (y := jC an iv 0) (rfl) ?_
  refine lv_istore_n (lv' := [(3, .int (jC an iv 0)), (2, .int (nI (jF an iv 0))), (0, .ref (aa 0)), (1, .ref ia)]) hx hb dX0_growBy_6 rfl hl (by decide) rfl (fun ls hl => ?_)
  refine lv_aload_n hx hb dX0_growBy_7 rfl (lv_at hl 2 rfl) ?_
  refine va_get (D := (dC, dI)) (ci := 0) (v := .ref (aa 2)) (C := RX0) (T := TX0) (N := 13) hx hb hts (fun _ h => List.mem_cons_of_mem _ (List.mem_append_right _ h)) hown hK hP 0 rfl rfl 9 (by decide) (hts (.fieldLink RX0 41 "JointAnnuity$Annuity" "fullAmounts" "[I") (List.mem_of_getElem? (i := 2) rfl)) (fun _ h9 => h9) rfl dX0_growBy_8 ?_
  refine lv_iconst (v := nI 0) hx hb dX0_growBy_11 (by decide) ?_
  refine lv_iload_n hx hb dX0_growBy_12 rfl (lv_at hl 1 rfl) ?_
  refine va_iast hx hb hK hP hD hS 1 0 (f := f0) (x := nI (jF an iv 0)) rfl rfl (vp_in_nI (n := 0) (N := 20) (by omega) (by omega)) dX0_growBy_13 (fun H locs hP hD hS => ?_)
  rw [nI_clamp (show 0 < 2 ^ 31 by omega)] at hP hD
  have hP : va_P (dC, dI) vwCl [((aa 0), .inr (0, [.int (nI (an 0)), .int (nI (an 1)), .int (nI (an 0 + an 2)), .int (nI (an 3)), .int (nI (an 4)), .int (nI (an 5)), .int (nI (an 6)), .int (nI (an 7)), .ref (aa 1), .ref (aa 2), .ref (aa 3), .ref (aa 4), .long (kp)])), ((aa 2), .inl (cI, 20, .inl (upd (f0) 0 (nI (jF an iv 0))))), ((aa 3), .inl (cI, 20, .inl (c0))), (ia, .inl (cI, 20, .inl (iv)))] H := hP
  have hD : va_D A [((aa 0), .inr (0, [.int (nI (an 0)), .int (nI (an 1)), .int (nI (an 0 + an 2)), .int (nI (an 3)), .int (nI (an 4)), .int (nI (an 5)), .int (nI (an 6)), .int (nI (an 7)), .ref (aa 1), .ref (aa 2), .ref (aa 3), .ref (aa 4), .long (kp)])), ((aa 2), .inl (cI, 20, .inl (upd (f0) 0 (nI (jF an iv 0))))), ((aa 3), .inl (cI, 20, .inl (c0))), (ia, .inl (cI, 20, .inl (iv)))] := hD
  refine lv_aload_n hx hb dX0_growBy_14 rfl (lv_at hl 2 rfl) ?_
  refine va_get (D := (dC, dI)) (ci := 0) (v := .ref (aa 3)) (C := RX0) (T := TX0) (N := 13) hx hb hts (fun _ h => List.mem_cons_of_mem _ (List.mem_append_right _ h)) hown hK hP 0 rfl rfl 10 (by decide) (hts (.fieldLink RX0 44 "JointAnnuity$Annuity" "carries" "[I") (List.mem_of_getElem? (i := 3) rfl)) (fun _ h9 => h9) rfl dX0_growBy_15 ?_
  refine lv_iconst (v := nI 0) hx hb dX0_growBy_18 (by decide) ?_
  refine lv_iload_n hx hb dX0_growBy_19 rfl (lv_at hl 0 rfl) ?_
  refine va_iast hx hb hK hP hD hS 2 0 (f := c0) (x := jC an iv 0) rfl rfl (vp_in_nI (n := 0) (N := 20) (by omega) (by omega)) dX0_growBy_20 (fun H locs hP hD hS => ?_)
  rw [nI_clamp (show 0 < 2 ^ 31 by omega)] at hP hD
  have hP : va_P (dC, dI) vwCl [((aa 0), .inr (0, [.int (nI (an 0)), .int (nI (an 1)), .int (nI (an 0 + an 2)), .int (nI (an 3)), .int (nI (an 4)), .int (nI (an 5)), .int (nI (an 6)), .int (nI (an 7)), .ref (aa 1), .ref (aa 2), .ref (aa 3), .ref (aa 4), .long (kp)])), ((aa 2), .inl (cI, 20, .inl (upd (f0) 0 (nI (jF an iv 0))))), ((aa 3), .inl (cI, 20, .inl (upd (c0) 0 (jC an iv 0)))), (ia, .inl (cI, 20, .inl (iv)))] H := hP
  have hD : va_D A [((aa 0), .inr (0, [.int (nI (an 0)), .int (nI (an 1)), .int (nI (an 0 + an 2)), .int (nI (an 3)), .int (nI (an 4)), .int (nI (an 5)), .int (nI (an 6)), .int (nI (an 7)), .ref (aa 1), .ref (aa 2), .ref (aa 3), .ref (aa 4), .long (kp)])), ((aa 2), .inl (cI, 20, .inl (upd (f0) 0 (nI (jF an iv 0))))), ((aa 3), .inl (cI, 20, .inl (upd (c0) 0 (jC an iv 0)))), (ia, .inl (cI, 20, .inl (iv)))] := hD
  refine lv_iconst (v := nI 1) hx hb dX0_growBy_21 (by decide) ?_
  refine lv_istore (lv' := [(4, .int (nI 1)), (3, .int (jC an iv 0)), (2, .int (nI (jF an iv 0))), (0, .ref (aa 0)), (1, .ref ia)]) hx hb dX0_growBy_22 hl (by decide) rfl (fun ls hl => ?_)
  refine j_loopW (I := fun q : Nat × (Nat → Int32) × (Nat → Int32) => q.1 < 20 ∧ ∀ i, i < q.1 + 1 → q.2.1 i = nI (jF an iv i) ∧ q.2.2 i = jC an iv i) (μ := fun q => 20 - q.1) (lv := fun q => [(0, .ref (aa 0)), (1, .ref ia), (2, .int (nI (jF an iv q.1))), (3, .int (jC an iv q.1)), (4, .int (nI (q.1 + 1)))]) (w := fun q => [((aa 0), .inr (0, [.int (nI (an 0)), .int (nI (an 1)), .int (nI (an 0 + an 2)), .int (nI (an 3)), .int (nI (an 4)), .int (nI (an 5)), .int (nI (an 6)), .int (nI (an 7)), .ref (aa 1), .ref (aa 2), .ref (aa 3), .ref (aa 4), .long (kp)])), ((aa 2), .inl (cI, 20, .inl (q.2.1))), ((aa 3), .inl (cI, 20, .inl (q.2.2))), (ia, .inl (cI, 20, .inl (iv)))]) (0, upd (f0) 0 (nI (jF an iv 0)), upd (c0) 0 (jC an iv 0)) ⟨show (0 : Nat) < 20 by decide, fun i hi => ?_⟩ (lv_sub hl [3, 4, 2, 1, 0] rfl) hP hD hS ?_
  · obtain rfl : i = 0 := by omega
    exact ⟨rfl, rfl⟩
  intro q H locs ls hI hP hD hS hl IH
  obtain ⟨b, f9, c9⟩ := q
  have hl : lv_has ls 8 [(0, .ref (aa 0)), (1, .ref ia), (2, .int (nI (jF an iv b))), (3, .int (jC an iv b)), (4, .int (nI (b + 1)))] := hl
  have hP : va_P (dC, dI) vwCl [((aa 0), .inr (0, [.int (nI (an 0)), .int (nI (an 1)), .int (nI (an 0 + an 2)), .int (nI (an 3)), .int (nI (an 4)), .int (nI (an 5)), .int (nI (an 6)), .int (nI (an 7)), .ref (aa 1), .ref (aa 2), .ref (aa 3), .ref (aa 4), .long (kp)])), ((aa 2), .inl (cI, 20, .inl (f9))), ((aa 3), .inl (cI, 20, .inl (c9))), (ia, .inl (cI, 20, .inl (iv)))] H := hP
  have hD : va_D A [((aa 0), .inr (0, [.int (nI (an 0)), .int (nI (an 1)), .int (nI (an 0 + an 2)), .int (nI (an 3)), .int (nI (an 4)), .int (nI (an 5)), .int (nI (an 6)), .int (nI (an 7)), .ref (aa 1), .ref (aa 2), .ref (aa 3), .ref (aa 4), .long (kp)])), ((aa 2), .inl (cI, 20, .inl (f9))), ((aa 3), .inl (cI, 20, .inl (c9))), (ia, .inl (cI, 20, .inl (iv)))] := hD
  have hI : b < 20 ∧ ∀ i, i < b + 1 → f9 i = nI (jF an iv i) ∧ c9 i = jC an iv i := hI
  obtain ⟨hb0, hI2⟩ := hI
  have hIH := fun (a9 : Nat × (Nat → Int32) × (Nat → Int32)) (H9 : Heap) => IH a9 H9
  refine lv_iload hx hb dX0_growBy_24 (lv_at hl 4 rfl) ?_
  refine lv_bipush (v := nI 20) hx hb dX0_growBy_26 (by decide) ?_
  refine lv_icmp_ge (tgt := 114) hx hb dX0_growBy_28 (by decide) (fun c_28 => ?_) (fun c_28 => ?_)
  · have c_28 : 20 ≤ b + 1 := (nI_leI (a := 20) (b := b + 1) (by omega) (by omega)).mp c_28
    have hP : va_P (dC, dI) vwCl [((aa 0), .inr (0, [.int (nI (an 0)), .int (nI (an 1)), .int (nI (an 0 + an 2)), .int (nI (an 3)), .int (nI (an 4)), .int (nI (an 5)), .int (nI (an 6)), .int (nI (an 7)), .ref (aa 1), .ref (aa 2), .ref (aa 3), .ref (aa 4), .long (kp)])), ((aa 2), .inl (cI, 20, .inl (fun j => nI (jF an iv j)))), ((aa 3), .inl (cI, 20, .inl (fun j => jC an iv j))), (ia, .inl (cI, 20, .inl (iv)))] H := j_same hP rfl (fun k hk => match k, hk with
      | 0, _ => Or.inl rfl
      | 1, _ => Or.inr ⟨_, _, _, rfl, rfl, j_cI (fun j hj => (hI2 j (by omega)).1)⟩
      | 2, _ => Or.inr ⟨_, _, _, rfl, rfl, j_cI (fun j hj => (hI2 j (by omega)).2)⟩
      | 3, _ => Or.inl rfl
      | _ + 4, h => absurd h (Nat.not_lt.mpr (Nat.le_add_left _ _)))
    exact W.vret hx hb hr (fun t ht hW => ⟨⟨(), rfl, trivial, j_h ht hP⟩, hS.F ht⟩) hS.2.2 dX0_growBy_114
  · have c_28 : ¬ (20 ≤ b + 1) := fun h => c_28 ((nI_leI (a := 20) (b := b + 1) (by omega) (by omega)).mpr h)
    refine lv_aload_n hx hb dX0_growBy_31 rfl (lv_at hl 0 rfl) ?_
    refine va_get (D := (dC, dI)) (ci := 0) (v := .int (nI (an 0))) (C := RX0) (T := TX0) (N := 13) hx hb hts (fun _ h => List.mem_cons_of_mem _ (List.mem_append_right _ h)) hown hK hP 0 rfl rfl 0 (by decide) (hts (.fieldLink RX0 9 "JointAnnuity$Annuity" "start" "I") (List.mem_of_getElem? (i := 4) rfl)) (fun _ h9 => h9) rfl dX0_growBy_32 ?_
    refine lv_bipush (v := nI 12) hx hb dX0_growBy_35 (by decide) ?_
    refine lv_idiv hx hb dX0_growBy_37 (by decide) ?_
    refine j_i (y := nI ((an 0) / 12)) (pk_div (by omega) (by omega) (by omega)) ?_
    refine lv_iload hx hb dX0_growBy_38 (lv_at hl 4 rfl) ?_
    refine lv_iadd hx hb dX0_growBy_40 ?_
    refine j_i (y := nI ((an 0) / 12 + b + 1)) (nI_add _ _) ?_
    refine lv_iconst (v := nI 1) hx hb dX0_growBy_41 (by decide) ?_
    refine lv_isub hx hb dX0_growBy_42 ?_
    refine j_i (y := nI (((an 0) / 12 + b + 1) - 1)) (pk_sub (by omega)) ?_
    refine j_i (y := nI (an 0 / 12 + b)) (congrArg nI (by omega)) ?_
    refine lv_istore (lv' := [(5, .int (nI (an 0 / 12 + b))), (0, .ref (aa 0)), (1, .ref ia), (2, .int (nI (jF an iv b))), (3, .int (jC an iv b)), (4, .int (nI (b + 1)))]) hx hb dX0_growBy_43 hl (by decide) rfl (fun ls hl => ?_)
    refine lv_iload hx hb dX0_growBy_45 (lv_at hl 0 rfl) ?_
    refine lv_aload_n hx hb dX0_growBy_47 rfl (lv_at hl 2 rfl) ?_
    refine va_alen hx hb hK hP 3 0 (v := nI 20) rfl rfl rfl dX0_growBy_48 ?_
    refine lv_icmp_ge (tgt := 92) hx hb dX0_growBy_49 (by decide) (fun c_49 => ?_) (fun c_49 => ?_)
    · have c_49 : 20 ≤ an 0 / 12 + b := (nI_leI (a := 20) (b := an 0 / 12 + b) (by omega) (by omega)).mp c_49
      have hn : ¬ an 0 / 12 + b < 20 := by omega
      have hl : lv_has ls 8 [(5, .int (nI (an 0 / 12 + b))), (0, .ref (aa 0)), (1, .ref ia), (2, .int (nI (jF an iv (b + 1)))), (3, .int (jC an iv (b + 1))), (4, .int (nI (b + 1)))] := by rw [jF_n an iv hn, jC_n an iv hn]; exact hl
      refine lv_aload_n hx hb dX0_growBy_92 rfl (lv_at hl 1 rfl) ?_
      refine va_get (D := (dC, dI)) (ci := 0) (v := .ref (aa 2)) (C := RX0) (T := TX0) (N := 13) hx hb hts (fun _ h => List.mem_cons_of_mem _ (List.mem_append_right _ h)) hown hK hP 0 rfl rfl 9 (by decide) (hts (.fieldLink RX0 41 "JointAnnuity$Annuity" "fullAmounts" "[I") (List.mem_of_getElem? (i := 2) rfl)) (fun _ h9 => h9) rfl dX0_growBy_93 ?_
      refine lv_iload hx hb dX0_growBy_96 (lv_at hl 5 rfl) ?_
      refine lv_iload_n hx hb dX0_growBy_98 rfl (lv_at hl 3 rfl) ?_
      refine va_iast hx hb hK hP hD hS 1 0 (f := f9) (x := nI (jF an iv (b + 1))) rfl rfl (vp_in_nI (n := b + 1) (N := 20) (by omega) (by omega)) dX0_growBy_99 (fun H locs hP hD hS => ?_)
      rw [nI_clamp (show b + 1 < 2 ^ 31 by omega)] at hP hD
      have hP : va_P (dC, dI) vwCl [((aa 0), .inr (0, [.int (nI (an 0)), .int (nI (an 1)), .int (nI (an 0 + an 2)), .int (nI (an 3)), .int (nI (an 4)), .int (nI (an 5)), .int (nI (an 6)), .int (nI (an 7)), .ref (aa 1), .ref (aa 2), .ref (aa 3), .ref (aa 4), .long (kp)])), ((aa 2), .inl (cI, 20, .inl (upd (f9) (b + 1) (nI (jF an iv (b + 1)))))), ((aa 3), .inl (cI, 20, .inl (c9))), (ia, .inl (cI, 20, .inl (iv)))] H := hP
      have hD : va_D A [((aa 0), .inr (0, [.int (nI (an 0)), .int (nI (an 1)), .int (nI (an 0 + an 2)), .int (nI (an 3)), .int (nI (an 4)), .int (nI (an 5)), .int (nI (an 6)), .int (nI (an 7)), .ref (aa 1), .ref (aa 2), .ref (aa 3), .ref (aa 4), .long (kp)])), ((aa 2), .inl (cI, 20, .inl (upd (f9) (b + 1) (nI (jF an iv (b + 1)))))), ((aa 3), .inl (cI, 20, .inl (c9))), (ia, .inl (cI, 20, .inl (iv)))] := hD
      refine lv_aload_n hx hb dX0_growBy_100 rfl (lv_at hl 1 rfl) ?_
      refine va_get (D := (dC, dI)) (ci := 0) (v := .ref (aa 3)) (C := RX0) (T := TX0) (N := 13) hx hb hts (fun _ h => List.mem_cons_of_mem _ (List.mem_append_right _ h)) hown hK hP 0 rfl rfl 10 (by decide) (hts (.fieldLink RX0 44 "JointAnnuity$Annuity" "carries" "[I") (List.mem_of_getElem? (i := 3) rfl)) (fun _ h9 => h9) rfl dX0_growBy_101 ?_
      refine lv_iload hx hb dX0_growBy_104 (lv_at hl 5 rfl) ?_
      refine lv_iload_n hx hb dX0_growBy_106 rfl (lv_at hl 4 rfl) ?_
      refine va_iast hx hb hK hP hD hS 2 0 (f := c9) (x := jC an iv (b + 1)) rfl rfl (vp_in_nI (n := b + 1) (N := 20) (by omega) (by omega)) dX0_growBy_107 (fun H locs hP hD hS => ?_)
      rw [nI_clamp (show b + 1 < 2 ^ 31 by omega)] at hP hD
      have hP : va_P (dC, dI) vwCl [((aa 0), .inr (0, [.int (nI (an 0)), .int (nI (an 1)), .int (nI (an 0 + an 2)), .int (nI (an 3)), .int (nI (an 4)), .int (nI (an 5)), .int (nI (an 6)), .int (nI (an 7)), .ref (aa 1), .ref (aa 2), .ref (aa 3), .ref (aa 4), .long (kp)])), ((aa 2), .inl (cI, 20, .inl (upd (f9) (b + 1) (nI (jF an iv (b + 1)))))), ((aa 3), .inl (cI, 20, .inl (upd (c9) (b + 1) (jC an iv (b + 1))))), (ia, .inl (cI, 20, .inl (iv)))] H := hP
      have hD : va_D A [((aa 0), .inr (0, [.int (nI (an 0)), .int (nI (an 1)), .int (nI (an 0 + an 2)), .int (nI (an 3)), .int (nI (an 4)), .int (nI (an 5)), .int (nI (an 6)), .int (nI (an 7)), .ref (aa 1), .ref (aa 2), .ref (aa 3), .ref (aa 4), .long (kp)])), ((aa 2), .inl (cI, 20, .inl (upd (f9) (b + 1) (nI (jF an iv (b + 1)))))), ((aa 3), .inl (cI, 20, .inl (upd (c9) (b + 1) (jC an iv (b + 1))))), (ia, .inl (cI, 20, .inl (iv)))] := hD
      refine lv_iinc (v := nI (b + 1 + 1)) (lv' := [(4, .int (nI (b + 1 + 1))), (5, .int (nI (an 0 / 12 + b))), (0, .ref (aa 0)), (1, .ref ia), (2, .int (nI (jF an iv (b + 1)))), (3, .int (jC an iv (b + 1)))]) hx hb dX0_growBy_108 hl (k := 5) rfl (by exact nI_add _ 1) (by decide) rfl (fun ls hl => ?_)
      refine lv_goto (tgt := 24) hx hb dX0_growBy_111 (by decide) ?_
      refine IH (b + 1, upd (f9) (b + 1) (nI (jF an iv (b + 1))), upd (c9) (b + 1) (jC an iv (b + 1))) H locs ls ⟨by omega, fun i hi => ?_⟩ (show 20 - (b + 1) < 20 - b by omega) hP hD hS (lv_sub hl [2, 3, 4, 5, 0] rfl)
      by_cases h : i = b + 1
      · subst h
        exact ⟨pk_us, pk_us⟩
      · exact ⟨(pk_un h).trans (hI2 i (by omega)).1, (pk_un h).trans (hI2 i (by omega)).2⟩
    · have c_49 : ¬ (20 ≤ an 0 / 12 + b) := fun h => c_49 ((nI_leI (a := 20) (b := an 0 / 12 + b) (by omega) (by omega)).mpr h)
      have hy : an 0 / 12 + b < 20 := by omega
      refine lv_aload_n hx hb dX0_growBy_52 rfl (lv_at hl 2 rfl) ?_
      refine lv_iload hx hb dX0_growBy_53 (lv_at hl 0 rfl) ?_
      refine va_iald hx hb hK hP 3 0 (f := iv) rfl rfl (vp_in_nI (n := an 0 / 12 + b) (N := 20) (by omega) (by omega)) dX0_growBy_55 ?_
      refine j_i (y := iv (an 0 / 12 + b)) (by rw [nI_clamp (by omega)]) ?_
      refine lv_iload_n hx hb dX0_growBy_56 rfl (lv_at hl 4 rfl) ?_
      refine lv_iadd hx hb dX0_growBy_57 ?_
      refine lv_istore (lv' := [(6, .int ((iv (an 0 / 12 + b)) + (jC an iv b))), (5, .int (nI (an 0 / 12 + b))), (0, .ref (aa 0)), (1, .ref ia), (2, .int (nI (jF an iv b))), (3, .int (jC an iv b)), (4, .int (nI (b + 1)))]) hx hb dX0_growBy_58 hl (by decide) rfl (fun ls hl => ?_)
      refine lv_iconst (v := nI 0) hx hb dX0_growBy_60 (by decide) ?_
      refine lv_iload hx hb dX0_growBy_61 (lv_at hl 0 rfl) ?_
      refine lv_aload_n hx hb dX0_growBy_63 rfl (lv_at hl 2 rfl) ?_
      refine va_get (D := (dC, dI)) (ci := 0) (v := .int (nI (an 5))) (C := RX0) (T := TX0) (N := 13) hx hb hts (fun _ h => List.mem_cons_of_mem _ (List.mem_append_right _ h)) hown hK hP 0 rfl rfl 5 (by decide) (hts (.fieldLink RX0 28 "JointAnnuity$Annuity" "cap" "I") (List.mem_of_getElem? (i := 5) rfl)) (fun _ h9 => h9) rfl dX0_growBy_64 ?_
      refine va_mmin hx hb (hml.trans hl.1.symm) hown (hts (.methodLink RX0 55 Lib.Math.min.name) (List.mem_of_getElem? (i := 6) rfl)) (hts (.static Lib.Math.min.name) (List.mem_of_getElem? (i := 7) rfl)) (hts (.initialized "java/lang/Math") (List.mem_of_getElem? (i := 8) rfl)) (hts (.code Lib.Math.min.name Lib.Math.min.code 2 (some .int)) (List.mem_of_getElem? (i := 9) rfl)) (Nat.le_of_ble_eq_true rfl) (Nat.le_of_ble_eq_true rfl) (Nat.le_of_ble_eq_true rfl) (Nat.le_of_ble_eq_true rfl) dX0_growBy_67 ?_
      refine va_mmax hx hb (hml.trans hl.1.symm) hown (hts (.methodLink RX0 61 Lib.Math.max.name) (List.mem_of_getElem? (i := 10) rfl)) (hts (.static Lib.Math.max.name) (List.mem_of_getElem? (i := 11) rfl)) (hts (.initialized "java/lang/Math") (List.mem_of_getElem? (i := 8) rfl)) (hts (.code Lib.Math.max.name Lib.Math.max.code 2 (some .int)) (List.mem_of_getElem? (i := 12) rfl)) (Nat.le_of_ble_eq_true rfl) (Nat.le_of_ble_eq_true rfl) (Nat.le_of_ble_eq_true rfl) (Nat.le_of_ble_eq_true rfl) dX0_growBy_70 ?_
      refine j_i (y := nI (jcl (iv (an 0 / 12 + b) + jC an iv b) (an 5))) (jcl_A _ (by omega)) ?_
      refine lv_istore (lv' := [(7, .int (nI (jcl (iv (an 0 / 12 + b) + jC an iv b) (an 5)))), (6, .int ((iv (an 0 / 12 + b)) + (jC an iv b))), (5, .int (nI (an 0 / 12 + b))), (0, .ref (aa 0)), (1, .ref ia), (2, .int (nI (jF an iv b))), (3, .int (jC an iv b)), (4, .int (nI (b + 1)))]) hx hb dX0_growBy_73 hl (by decide) rfl (fun ls hl => ?_)
      refine lv_iload hx hb dX0_growBy_75 (lv_at hl 1 rfl) ?_
      refine lv_iload hx hb dX0_growBy_77 (lv_at hl 0 rfl) ?_
      refine lv_isub hx hb dX0_growBy_79 ?_
      refine j_i (y := jC an iv (b + 1)) ((jC_s an iv hy).symm) ?_
      refine lv_istore_n (lv' := [(3, .int (jC an iv (b + 1))), (7, .int (nI (jcl (iv (an 0 / 12 + b) + jC an iv b) (an 5)))), (6, .int ((iv (an 0 / 12 + b)) + (jC an iv b))), (5, .int (nI (an 0 / 12 + b))), (0, .ref (aa 0)), (1, .ref ia), (2, .int (nI (jF an iv b))), (4, .int (nI (b + 1)))]) hx hb dX0_growBy_80 rfl hl (by decide) rfl (fun ls hl => ?_)
      refine lv_iload_n hx hb dX0_growBy_81 rfl (lv_at hl 6 rfl) ?_
      refine lv_iload_n hx hb dX0_growBy_82 rfl (lv_at hl 6 rfl) ?_
      refine lv_iload hx hb dX0_growBy_83 (lv_at hl 1 rfl) ?_
      refine lv_imul hx hb dX0_growBy_85 ?_
      refine lv_sipush (v := nI 1000) hx hb dX0_growBy_86 (by decide) ?_
      refine lv_idiv hx hb dX0_growBy_89 (by decide) ?_
      refine lv_iadd hx hb dX0_growBy_90 ?_
      refine j_i (y := nI (jF an iv (b + 1))) (by rw [jF_s an iv hy]; exact jgrow (jF_bd hv iv (by omega)) (Nat.le_trans (jcl_le _ (by omega)) v5)) ?_
      refine lv_istore_n (lv' := [(2, .int (nI (jF an iv (b + 1)))), (3, .int (jC an iv (b + 1))), (7, .int (nI (jcl (iv (an 0 / 12 + b) + jC an iv b) (an 5)))), (6, .int ((iv (an 0 / 12 + b)) + (jC an iv b))), (5, .int (nI (an 0 / 12 + b))), (0, .ref (aa 0)), (1, .ref ia), (4, .int (nI (b + 1)))]) hx hb dX0_growBy_91 rfl hl (by decide) rfl (fun ls hl => ?_)
      refine lv_aload_n hx hb dX0_growBy_92 rfl (lv_at hl 5 rfl) ?_
      refine va_get (D := (dC, dI)) (ci := 0) (v := .ref (aa 2)) (C := RX0) (T := TX0) (N := 13) hx hb hts (fun _ h => List.mem_cons_of_mem _ (List.mem_append_right _ h)) hown hK hP 0 rfl rfl 9 (by decide) (hts (.fieldLink RX0 41 "JointAnnuity$Annuity" "fullAmounts" "[I") (List.mem_of_getElem? (i := 2) rfl)) (fun _ h9 => h9) rfl dX0_growBy_93 ?_
      refine lv_iload hx hb dX0_growBy_96 (lv_at hl 7 rfl) ?_
      refine lv_iload_n hx hb dX0_growBy_98 rfl (lv_at hl 0 rfl) ?_
      refine va_iast hx hb hK hP hD hS 1 0 (f := f9) (x := nI (jF an iv (b + 1))) rfl rfl (vp_in_nI (n := b + 1) (N := 20) (by omega) (by omega)) dX0_growBy_99 (fun H locs hP hD hS => ?_)
      rw [nI_clamp (show b + 1 < 2 ^ 31 by omega)] at hP hD
      have hP : va_P (dC, dI) vwCl [((aa 0), .inr (0, [.int (nI (an 0)), .int (nI (an 1)), .int (nI (an 0 + an 2)), .int (nI (an 3)), .int (nI (an 4)), .int (nI (an 5)), .int (nI (an 6)), .int (nI (an 7)), .ref (aa 1), .ref (aa 2), .ref (aa 3), .ref (aa 4), .long (kp)])), ((aa 2), .inl (cI, 20, .inl (upd (f9) (b + 1) (nI (jF an iv (b + 1)))))), ((aa 3), .inl (cI, 20, .inl (c9))), (ia, .inl (cI, 20, .inl (iv)))] H := hP
      have hD : va_D A [((aa 0), .inr (0, [.int (nI (an 0)), .int (nI (an 1)), .int (nI (an 0 + an 2)), .int (nI (an 3)), .int (nI (an 4)), .int (nI (an 5)), .int (nI (an 6)), .int (nI (an 7)), .ref (aa 1), .ref (aa 2), .ref (aa 3), .ref (aa 4), .long (kp)])), ((aa 2), .inl (cI, 20, .inl (upd (f9) (b + 1) (nI (jF an iv (b + 1)))))), ((aa 3), .inl (cI, 20, .inl (c9))), (ia, .inl (cI, 20, .inl (iv)))] := hD
      refine lv_aload_n hx hb dX0_growBy_100 rfl (lv_at hl 5 rfl) ?_
      refine va_get (D := (dC, dI)) (ci := 0) (v := .ref (aa 3)) (C := RX0) (T := TX0) (N := 13) hx hb hts (fun _ h => List.mem_cons_of_mem _ (List.mem_append_right _ h)) hown hK hP 0 rfl rfl 10 (by decide) (hts (.fieldLink RX0 44 "JointAnnuity$Annuity" "carries" "[I") (List.mem_of_getElem? (i := 3) rfl)) (fun _ h9 => h9) rfl dX0_growBy_101 ?_
      refine lv_iload hx hb dX0_growBy_104 (lv_at hl 7 rfl) ?_
      refine lv_iload_n hx hb dX0_growBy_106 rfl (lv_at hl 1 rfl) ?_
      refine va_iast hx hb hK hP hD hS 2 0 (f := c9) (x := jC an iv (b + 1)) rfl rfl (vp_in_nI (n := b + 1) (N := 20) (by omega) (by omega)) dX0_growBy_107 (fun H locs hP hD hS => ?_)
      rw [nI_clamp (show b + 1 < 2 ^ 31 by omega)] at hP hD
      have hP : va_P (dC, dI) vwCl [((aa 0), .inr (0, [.int (nI (an 0)), .int (nI (an 1)), .int (nI (an 0 + an 2)), .int (nI (an 3)), .int (nI (an 4)), .int (nI (an 5)), .int (nI (an 6)), .int (nI (an 7)), .ref (aa 1), .ref (aa 2), .ref (aa 3), .ref (aa 4), .long (kp)])), ((aa 2), .inl (cI, 20, .inl (upd (f9) (b + 1) (nI (jF an iv (b + 1)))))), ((aa 3), .inl (cI, 20, .inl (upd (c9) (b + 1) (jC an iv (b + 1))))), (ia, .inl (cI, 20, .inl (iv)))] H := hP
      have hD : va_D A [((aa 0), .inr (0, [.int (nI (an 0)), .int (nI (an 1)), .int (nI (an 0 + an 2)), .int (nI (an 3)), .int (nI (an 4)), .int (nI (an 5)), .int (nI (an 6)), .int (nI (an 7)), .ref (aa 1), .ref (aa 2), .ref (aa 3), .ref (aa 4), .long (kp)])), ((aa 2), .inl (cI, 20, .inl (upd (f9) (b + 1) (nI (jF an iv (b + 1)))))), ((aa 3), .inl (cI, 20, .inl (upd (c9) (b + 1) (jC an iv (b + 1))))), (ia, .inl (cI, 20, .inl (iv)))] := hD
      refine lv_iinc (v := nI (b + 1 + 1)) (lv' := [(4, .int (nI (b + 1 + 1))), (2, .int (nI (jF an iv (b + 1)))), (3, .int (jC an iv (b + 1))), (7, .int (nI (jcl (iv (an 0 / 12 + b) + jC an iv b) (an 5)))), (6, .int ((iv (an 0 / 12 + b)) + (jC an iv b))), (5, .int (nI (an 0 / 12 + b))), (0, .ref (aa 0)), (1, .ref ia)]) hx hb dX0_growBy_108 hl (k := 7) rfl (by exact nI_add _ 1) (by decide) rfl (fun ls hl => ?_)
      refine lv_goto (tgt := 24) hx hb dX0_growBy_111 (by decide) ?_
      refine IH (b + 1, upd (f9) (b + 1) (nI (jF an iv (b + 1))), upd (c9) (b + 1) (jC an iv (b + 1))) H locs ls ⟨by omega, fun i hi => ?_⟩ (show 20 - (b + 1) < 20 - b by omega) hP hD hS (lv_sub hl [6, 7, 1, 2, 0] rfl)
      by_cases h : i = b + 1
      · subst h
        exact ⟨pk_us, pk_us⟩
      · exact ⟨(pk_un h).trans (hI2 i (by omega)).1, (pk_un h).trans (hI2 i (by omega)).2⟩
set_option maxHeartbeats 4000000 in
set_option maxRecDepth 100000 in
/-- a month is paid -/
theorem c_X0_payIn (l : Launch) (dC : Nat → ClassId) (dI : Nat → Nat → Nat) (cI cJ cZ cO : ClassId) (aa an : Nat → Nat) (iv : Nat → Int32) (kp : Int64) (py : Nat → Int64) (k : Nat) (hv : jV an) (hk : k < 240) : Met l yX0_payIn wsX0_payIn ({ frames := 5, cells := 0, slots := 0, locals := 116 }) (va_Pc [.ref (aa 0), .int (nI k)] (jW (dC, dI) (jTY cI cJ cZ cO) (jAW cI cJ aa an iv kp py))) (va_Ql (fun r (_ : Unit) => r = jmx (lN (jU an iv (k + 1)) - kp)) (fun _ t => va_P (dC, dI) vwCl (jAW cI cJ aa an iv (kp + jmx (lN (jU an iv (k + 1)) - kp)) (vp_updL py k (jmx (lN (jU an iv (k + 1)) - kp)))) t.heap) (jA (jAW cI cJ aa an iv kp py))) 0 0 (jA (jAW cI cJ aa an iv kp py)) := by
  refine j_of (cc := cX0_payIn) (maxL := 4) (ret := (some .long)) (by decide) rfl (Nat.le_of_ble_eq_true rfl) ?_
  intro p e s m below meth c ls hx hb hr hml hts hown hlocks hnm hl hpre
  have hown : s.vm.findClass RX0 = some m.cls := hown
  have hl : lv_has ls 4 [(0, .ref (aa 0)), (1, .int (nI k))] := hl
  obtain ⟨v0, v1, v2, v3, v4, v5, v6, v7, v8, v9⟩ := id hv
  obtain ⟨hP, hK, hD0⟩ := hpre
  have hD := hD0.jA
  generalize hAe : jA (jAW cI cJ aa an iv kp py) = A at hD ⊢
  have hS : va_S A s.heap s.heap [] := va_S.rf
  refine lv_lconst (v := lN 0) hx hb dX0_payIn_0 (by decide) ?_
  refine lv_aload_n hx hb dX0_payIn_1 rfl (lv_at hl 0 rfl) ?_
  refine lv_iload_n hx hb dX0_payIn_2 rfl (lv_at hl 1 rfl) ?_
  refine lv_iconst (v := nI 1) hx hb dX0_payIn_3 (by decide) ?_
  refine lv_iadd hx hb dX0_payIn_4 ?_
  refine j_i (y := nI (k + 1)) (nI_add _ _) ?_
  refine j_cL_ (As := [.int (nI (k + 1))]) (rest := [.long (lN 0)]) ⟨hx, hb, hml, hown, hts⟩ (c_X0_dueAhead l dC dI cI cJ cZ cO aa an iv kp py (k + 1) hv (by omega)) (cwV 1 hts gX0_payIn_X0_dueAhead rfl rfl rfl (by decide +kernel) ⟨Nat.le_of_ble_eq_true rfl, Nat.le_of_ble_eq_true rfl⟩) (jR_V hK hP [0, 1, 2, 3, 4] rfl (ci := 0) (q0 := 0) rfl rfl rfl) rfl hl rfl (Nat.le_of_ble_eq_true rfl) dX0_payIn_5 ⟨Nat.le_of_ble_eq_true rfl, Nat.le_of_ble_eq_true rfl⟩ (fun r_5 hr_5 => ?_)
  subst hr_5
  refine lv_aload_n hx hb dX0_payIn_8 rfl (lv_at hl 0 rfl) ?_
  refine va_get (D := (dC, dI)) (ci := 0) (v := .long (kp)) (C := RX0) (T := TX0) (N := 13) hx hb hts (fun _ h => List.mem_cons_of_mem _ (List.mem_append_right _ h)) hown hK hP 0 rfl rfl 12 (by decide) (hts (.fieldLink RX0 51 "JointAnnuity$Annuity" "keptInAll" "J") (List.mem_of_getElem? (i := 1) rfl)) (fun _ h9 => h9) rfl dX0_payIn_9 ?_
  refine lv_lsub hx hb dX0_payIn_12 ?_
  refine va_mmax_long hx hb (hml.trans hl.1.symm) hown (hts (.methodLink RX0 81 Lib.MathLoose.max_long.x) (List.mem_of_getElem? (i := 2) rfl)) (hts (.static Lib.MathLoose.max_long.x) (List.mem_of_getElem? (i := 3) rfl)) (hts (.initialized "java/lang/Math") (List.mem_of_getElem? (i := 4) rfl)) (hts (.code Lib.MathLoose.max_long.x Lib.MathLoose.max_long.code 4 (some .long)) (List.mem_of_getElem? (i := 5) rfl)) (Nat.le_of_ble_eq_true rfl) (Nat.le_of_ble_eq_true rfl) (Nat.le_of_ble_eq_true rfl) (Nat.le_of_ble_eq_true rfl) dX0_payIn_13 ?_
  refine j_l (y := jmx (lN (jU an iv (k + 1)) - kp)) (jmx_of _) ?_
  refine lv_lstore_n (lv' := [(2, .long (jmx (lN (jU an iv (k + 1)) - kp))), (0, .ref (aa 0)), (1, .int (nI k))]) hx hb dX0_payIn_16 rfl hl (by decide) rfl (fun ls hl => ?_)
  refine lv_aload_n hx hb dX0_payIn_17 rfl (lv_at hl 1 rfl) ?_
  refine va_get (D := (dC, dI)) (ci := 0) (v := .ref (aa 4)) (C := RX0) (T := TX0) (N := 13) hx hb hts (fun _ h => List.mem_cons_of_mem _ (List.mem_append_right _ h)) hown hK hP 0 rfl rfl 11 (by decide) (hts (.fieldLink RX0 47 "JointAnnuity$Annuity" "payments" "[J") (List.mem_of_getElem? (i := 6) rfl)) (fun _ h9 => h9) rfl dX0_payIn_18 ?_
  refine lv_iload_n hx hb dX0_payIn_21 rfl (lv_at hl 2 rfl) ?_
  refine lv_lload_n hx hb dX0_payIn_22 rfl (lv_at hl 0 rfl) ?_
  refine va_last hx hb hK hP hD hS 4 1 (f := py) (x := jmx (lN (jU an iv (k + 1)) - kp)) rfl rfl (vp_in_nI (n := k) (N := 240) (by omega) (by omega)) dX0_payIn_23 (fun H locs hP hD hS => ?_)
  rw [nI_clamp (show k < 2 ^ 31 by omega)] at hP hD
  have hP : va_P (dC, dI) vwCl [((aa 0), .inr (0, [.int (nI (an 0)), .int (nI (an 1)), .int (nI (an 0 + an 2)), .int (nI (an 3)), .int (nI (an 4)), .int (nI (an 5)), .int (nI (an 6)), .int (nI (an 7)), .ref (aa 1), .ref (aa 2), .ref (aa 3), .ref (aa 4), .long (kp)])), ((aa 1), .inl (cI, 2, .inl (fun j => nI (if j = 0 then an 8 else an 9)))), ((aa 2), .inl (cI, 20, .inl (fun j => nI (jF an iv j)))), ((aa 3), .inl (cI, 20, .inl (fun j => jC an iv j))), ((aa 4), .inl (cJ, 240, .inr (.inl (vp_updL (py) k (jmx (lN (jU an iv (k + 1)) - kp))))))] H := hP
  have hD : va_D A [((aa 0), .inr (0, [.int (nI (an 0)), .int (nI (an 1)), .int (nI (an 0 + an 2)), .int (nI (an 3)), .int (nI (an 4)), .int (nI (an 5)), .int (nI (an 6)), .int (nI (an 7)), .ref (aa 1), .ref (aa 2), .ref (aa 3), .ref (aa 4), .long (kp)])), ((aa 1), .inl (cI, 2, .inl (fun j => nI (if j = 0 then an 8 else an 9)))), ((aa 2), .inl (cI, 20, .inl (fun j => nI (jF an iv j)))), ((aa 3), .inl (cI, 20, .inl (fun j => jC an iv j))), ((aa 4), .inl (cJ, 240, .inr (.inl (vp_updL (py) k (jmx (lN (jU an iv (k + 1)) - kp))))))] := hD
  refine lv_aload_n hx hb dX0_payIn_24 rfl (lv_at hl 1 rfl) ?_
  refine lv_dup hx hb dX0_payIn_25 rfl ?_
  refine va_get (D := (dC, dI)) (ci := 0) (v := .long (kp)) (C := RX0) (T := TX0) (N := 13) hx hb hts (fun _ h => List.mem_cons_of_mem _ (List.mem_append_right _ h)) hown hK hP 0 rfl rfl 12 (by decide) (hts (.fieldLink RX0 51 "JointAnnuity$Annuity" "keptInAll" "J") (List.mem_of_getElem? (i := 1) rfl)) (fun _ h9 => h9) rfl dX0_payIn_26 ?_
  refine lv_lload_n hx hb dX0_payIn_29 rfl (lv_at hl 0 rfl) ?_
  refine lv_ladd hx hb dX0_payIn_30 ?_
  refine va_put (D := (dC, dI)) (ci := 0) (v := .long (kp + (jmx (lN (jU an iv (k + 1)) - kp)))) (ty := .long) (C := RX0) (T := TX0) (N := 13) hx hb hts (fun _ h => List.mem_cons_of_mem _ (List.mem_append_right _ h)) tyX0 tyX0_ok nmX0 hown hK hP hD hS 0 rfl rfl 12 (by decide) (hts (.fieldLink RX0 51 "JointAnnuity$Annuity" "keptInAll" "J") (List.mem_of_getElem? (i := 1) rfl)) (fun _ h9 => h9) rfl (by decide +kernel) rfl rfl (Nat.le_of_ble_eq_true rfl) dX0_payIn_31 (fun H locs hP hD hS => ?_)
  have hP : va_P (dC, dI) vwCl [((aa 0), .inr (0, [.int (nI (an 0)), .int (nI (an 1)), .int (nI (an 0 + an 2)), .int (nI (an 3)), .int (nI (an 4)), .int (nI (an 5)), .int (nI (an 6)), .int (nI (an 7)), .ref (aa 1), .ref (aa 2), .ref (aa 3), .ref (aa 4), .long (kp + (jmx (lN (jU an iv (k + 1)) - kp)))])), ((aa 1), .inl (cI, 2, .inl (fun j => nI (if j = 0 then an 8 else an 9)))), ((aa 2), .inl (cI, 20, .inl (fun j => nI (jF an iv j)))), ((aa 3), .inl (cI, 20, .inl (fun j => jC an iv j))), ((aa 4), .inl (cJ, 240, .inr (.inl (vp_updL (py) k (jmx (lN (jU an iv (k + 1)) - kp))))))] H := hP
  have hD : va_D A [((aa 0), .inr (0, [.int (nI (an 0)), .int (nI (an 1)), .int (nI (an 0 + an 2)), .int (nI (an 3)), .int (nI (an 4)), .int (nI (an 5)), .int (nI (an 6)), .int (nI (an 7)), .ref (aa 1), .ref (aa 2), .ref (aa 3), .ref (aa 4), .long (kp + (jmx (lN (jU an iv (k + 1)) - kp)))])), ((aa 1), .inl (cI, 2, .inl (fun j => nI (if j = 0 then an 8 else an 9)))), ((aa 2), .inl (cI, 20, .inl (fun j => nI (jF an iv j)))), ((aa 3), .inl (cI, 20, .inl (fun j => jC an iv j))), ((aa 4), .inl (cJ, 240, .inr (.inl (vp_updL (py) k (jmx (lN (jU an iv (k + 1)) - kp))))))] := hD
  refine lv_lload_n hx hb dX0_payIn_34 rfl (lv_at hl 0 rfl) ?_
  exact W.lret (v := jmx (lN (jU an iv (k + 1)) - kp)) hx hb hr (fun t ht hW => ⟨⟨_, (), rfl, rfl, j_h ht hP⟩, hS.F ht⟩) hS.2.2 dX0_payIn_35
set_option maxHeartbeats 4000000 in
set_option maxRecDepth 100000 in
/-- a new annuity -/
theorem c_X0_init (l : Launch) (dC : Nat → ClassId) (dI : Nat → Nat → Nat) (cI cJ cZ cO : ClassId) (h0 sz : Nat) (sa ma ga : Nat)  : Met l yX0_init wsX0_init ({ frames := 1, cells := 4, slots := 282, locals := 12 }) (va_Pc [.ref h0, .int (nI sa), .int (nI ma), .int (nI ga)] (fun U => U.heap.size = sz ∧ va_P (dC, dI) vwCl [(h0, .inr (0, [.int 0, .int 0, .int 0, .int 0, .int 0, .int 0, .int 0, .int 0, .null, .null, .null, .null, .long 0]))] U.heap ∧ va_K (dC, dI) vwCl (jTY cI cJ cZ cO) U ∧ va_D (fun _ => True) [(h0, .inr (0, [.int 0, .int 0, .int 0, .int 0, .int 0, .int 0, .int 0, .int 0, .null, .null, .null, .null, .long 0]))])) (va_Qv (fun aa : Nat → Nat => aa 0 = h0) (fun aa t => va_P (dC, dI) vwCl [(aa 0, .inr (0, [.int (nI (jN sa ma ga 0)), .int (nI (jN sa ma ga 1)), .int (nI (jN sa ma ga 0 + jN sa ma ga 2)), .int (nI (jN sa ma ga 3)), .int (nI (jN sa ma ga 4)), .int (nI (jN sa ma ga 5)), .int (nI (jN sa ma ga 6)), .int (nI (jN sa ma ga 7)), .ref (aa 1), .ref (aa 2), .ref (aa 3), .ref (aa 4), .long 0])), (aa 1, .inl (cI, 2, .inl (fun j => nI (if j = 0 then jN sa ma ga 8 else jN sa ma ga 9)))), (aa 2, .inl (cI, 20, .inl (fun _ => 0))), (aa 3, .inl (cI, 20, .inl (fun _ => 0))), (aa 4, .inl (cJ, 240, .inr (.inl (fun _ => 0))))] t.heap ∧ va_D (va_A [(h0, .inr (0, [.int 0, .int 0, .int 0, .int 0, .int 0, .int 0, .int 0, .int 0, .null, .null, .null, .null, .long 0]))] sz) [(aa 0, .inr (0, [.int (nI (jN sa ma ga 0)), .int (nI (jN sa ma ga 1)), .int (nI (jN sa ma ga 0 + jN sa ma ga 2)), .int (nI (jN sa ma ga 3)), .int (nI (jN sa ma ga 4)), .int (nI (jN sa ma ga 5)), .int (nI (jN sa ma ga 6)), .int (nI (jN sa ma ga 7)), .ref (aa 1), .ref (aa 2), .ref (aa 3), .ref (aa 4), .long 0])), (aa 1, .inl (cI, 2, .inl (fun j => nI (if j = 0 then jN sa ma ga 8 else jN sa ma ga 9)))), (aa 2, .inl (cI, 20, .inl (fun _ => 0))), (aa 3, .inl (cI, 20, .inl (fun _ => 0))), (aa 4, .inl (cJ, 240, .inr (.inl (fun _ => 0))))]) (va_A [(h0, .inr (0, [.int 0, .int 0, .int 0, .int 0, .int 0, .int 0, .int 0, .int 0, .null, .null, .null, .null, .long 0]))] sz)) 4 282 (va_A [(h0, .inr (0, [.int 0, .int 0, .int 0, .int 0, .int 0, .int 0, .int 0, .int 0, .null, .null, .null, .null, .long 0]))] sz) := by
  refine j_of (cc := cX0_init) (maxL := 4) (ret := none) (by decide) rfl (Nat.le_of_ble_eq_true rfl) ?_
  intro p e s m below meth c ls hx hb hr hml hts hown hlocks hnm hl hpre
  have hown : s.vm.findClass RX0 = some m.cls := hown
  have hl : lv_has ls 4 [(0, .ref h0), (1, .int (nI sa)), (2, .int (nI ma)), (3, .int (nI ga))] := hl
  have hin : meth.name = "<init>" := hnm
  obtain ⟨hsz, hP, hK, hD0⟩ := hpre
  subst hsz
  have hD := hD0.self (sz := s.heap.size)
  generalize hAe : va_A [(h0, .inr (0, [.int 0, .int 0, .int 0, .int 0, .int 0, .int 0, .int 0, .int 0, .null, .null, .null, .null, .long 0]))] s.heap.size = A at hD ⊢
  have hA : ∀ q : Nat, s.heap.size ≤ q → A q := fun q h => by rw [← hAe]; exact Or.inr h
  have hS : va_S A s.heap s.heap [] := va_S.rf
  refine lv_aload_n hx hb dX0_init_0 rfl (lv_at hl 0 rfl) ?_
  refine W.objInit hx hb hown (hts (.methodLink RX0 3 objectInit) (List.mem_of_getElem? (i := 1) rfl)) (hts (.instanceMethod objectInit) (List.mem_of_getElem? (i := 2) rfl)) (hts _ (List.mem_of_getElem? (i := 3) rfl)) rfl (by rw [hml]; exact hl.1) rfl dX0_init_1 (Nat.le_of_ble_eq_true rfl) (Nat.le_of_ble_eq_true rfl) ?_
  refine W.eq (g2 := F0 m 4 ls []) rfl ?_
  refine lv_aload_n hx hb dX0_init_4 rfl (lv_at hl 0 rfl) ?_
  refine lv_iload_n hx hb dX0_init_5 rfl (lv_at hl 1 rfl) ?_
  refine va_putF (D := (dC, dI)) (ci := 0) (v := .int (nI sa)) (ty := .int) (C := RX0) (T := TX0) (N := 13) hx hb hts (fun _ h => List.mem_cons_of_mem _ (List.mem_append_right _ h)) tyX0 tyX0_ok nmX0 hown hK hP hD hS 0 rfl rfl 0 (by decide) (hts (.fieldLink RX0 9 "JointAnnuity$Annuity" "start" "I") (List.mem_of_getElem? (i := 4) rfl)) (fun _ h9 => h9) rfl hin rfl (by decide +kernel) rfl rfl (Nat.le_of_ble_eq_true rfl) dX0_init_6 (fun H locs hP hD hS => ?_)
  have hP : va_P (dC, dI) vwCl [(h0, .inr (0, [.int (nI sa), .int 0, .int 0, .int 0, .int 0, .int 0, .int 0, .int 0, .null, .null, .null, .null, .long 0]))] H := hP
  have hD : va_D A [(h0, .inr (0, [.int (nI sa), .int 0, .int 0, .int 0, .int 0, .int 0, .int 0, .int 0, .null, .null, .null, .null, .long 0]))] := hD
  refine lv_aload_n hx hb dX0_init_9 rfl (lv_at hl 0 rfl) ?_
  refine lv_iload_n hx hb dX0_init_10 rfl (lv_at hl 2 rfl) ?_
  refine va_putF (D := (dC, dI)) (ci := 0) (v := .int (nI ma)) (ty := .int) (C := RX0) (T := TX0) (N := 13) hx hb hts (fun _ h => List.mem_cons_of_mem _ (List.mem_append_right _ h)) tyX0 tyX0_ok nmX0 hown hK hP hD hS 0 rfl rfl 1 (by decide) (hts (.fieldLink RX0 15 "JointAnnuity$Annuity" "amount" "I") (List.mem_of_getElem? (i := 5) rfl)) (fun _ h9 => h9) rfl hin rfl (by decide +kernel) rfl rfl (Nat.le_of_ble_eq_true rfl) dX0_init_11 (fun H locs hP hD hS => ?_)
  have hP : va_P (dC, dI) vwCl [(h0, .inr (0, [.int (nI sa), .int (nI ma), .int 0, .int 0, .int 0, .int 0, .int 0, .int 0, .null, .null, .null, .null, .long 0]))] H := hP
  have hD : va_D A [(h0, .inr (0, [.int (nI sa), .int (nI ma), .int 0, .int 0, .int 0, .int 0, .int 0, .int 0, .null, .null, .null, .null, .long 0]))] := hD
  refine lv_aload_n hx hb dX0_init_14 rfl (lv_at hl 0 rfl) ?_
  refine lv_iload_n hx hb dX0_init_15 rfl (lv_at hl 1 rfl) ?_
  refine lv_iload_n hx hb dX0_init_16 rfl (lv_at hl 3 rfl) ?_
  refine lv_iadd hx hb dX0_init_17 ?_
  refine j_i (y := nI (sa + ga)) (nI_add _ _) ?_
  refine va_putF (D := (dC, dI)) (ci := 0) (v := .int (nI (sa + ga))) (ty := .int) (C := RX0) (T := TX0) (N := 13) hx hb hts (fun _ h => List.mem_cons_of_mem _ (List.mem_append_right _ h)) tyX0 tyX0_ok nmX0 hown hK hP hD hS 0 rfl rfl 2 (by decide) (hts (.fieldLink RX0 18 "JointAnnuity$Annuity" "guaranteeEnd" "I") (List.mem_of_getElem? (i := 6) rfl)) (fun _ h9 => h9) rfl hin rfl (by decide +kernel) rfl rfl (Nat.le_of_ble_eq_true rfl) dX0_init_18 (fun H locs hP hD hS => ?_)
  have hP : va_P (dC, dI) vwCl [(h0, .inr (0, [.int (nI sa), .int (nI ma), .int (nI (sa + ga)), .int 0, .int 0, .int 0, .int 0, .int 0, .null, .null, .null, .null, .long 0]))] H := hP
  have hD : va_D A [(h0, .inr (0, [.int (nI sa), .int (nI ma), .int (nI (sa + ga)), .int 0, .int 0, .int 0, .int 0, .int 0, .null, .null, .null, .null, .long 0]))] := hD
  refine lv_aload_n hx hb dX0_init_21 rfl (lv_at hl 0 rfl) ?_
  refine lv_bipush (v := nI 100) hx hb dX0_init_22 (by decide) ?_
  refine va_put (D := (dC, dI)) (ci := 0) (v := .int (nI 100)) (ty := .int) (C := RX0) (T := TX0) (N := 13) hx hb hts (fun _ h => List.mem_cons_of_mem _ (List.mem_append_right _ h)) tyX0 tyX0_ok nmX0 hown hK hP hD hS 0 rfl rfl 3 (by decide) (hts (.fieldLink RX0 21 "JointAnnuity$Annuity" "survivorPercent" "I") (List.mem_of_getElem? (i := 7) rfl)) (fun _ h9 => h9) rfl (by decide +kernel) rfl rfl (Nat.le_of_ble_eq_true rfl) dX0_init_24 (fun H locs hP hD hS => ?_)
  have hP : va_P (dC, dI) vwCl [(h0, .inr (0, [.int (nI sa), .int (nI ma), .int (nI (sa + ga)), .int (nI 100), .int 0, .int 0, .int 0, .int 0, .null, .null, .null, .null, .long 0]))] H := hP
  have hD : va_D A [(h0, .inr (0, [.int (nI sa), .int (nI ma), .int (nI (sa + ga)), .int (nI 100), .int 0, .int 0, .int 0, .int 0, .null, .null, .null, .null, .long 0]))] := hD
  refine lv_aload_n hx hb dX0_init_27 rfl (lv_at hl 0 rfl) ?_
  refine lv_iconst (v := nI 0) hx hb dX0_init_28 (by decide) ?_
  refine va_put (D := (dC, dI)) (ci := 0) (v := .int (nI 0)) (ty := .boolean) (C := RX0) (T := TX0) (N := 13) hx hb hts (fun _ h => List.mem_cons_of_mem _ (List.mem_append_right _ h)) tyX0 tyX0_ok nmX0 hown hK hP hD hS 0 rfl rfl 4 (by decide) (hts (.fieldLink RX0 24 "JointAnnuity$Annuity" "stepsOnFirst" "Z") (List.mem_of_getElem? (i := 8) rfl)) (fun _ h9 => h9) rfl (by decide +kernel) rfl rfl (Nat.le_of_ble_eq_true rfl) dX0_init_29 (fun H locs hP hD hS => ?_)
  have hP : va_P (dC, dI) vwCl [(h0, .inr (0, [.int (nI sa), .int (nI ma), .int (nI (sa + ga)), .int (nI 100), .int (nI 0), .int 0, .int 0, .int 0, .null, .null, .null, .null, .long 0]))] H := hP
  have hD : va_D A [(h0, .inr (0, [.int (nI sa), .int (nI ma), .int (nI (sa + ga)), .int (nI 100), .int (nI 0), .int 0, .int 0, .int 0, .null, .null, .null, .null, .long 0]))] := hD
  refine lv_aload_n hx hb dX0_init_32 rfl (lv_at hl 0 rfl) ?_
  refine lv_iconst (v := nI 0) hx hb dX0_init_33 (by decide) ?_
  refine va_put (D := (dC, dI)) (ci := 0) (v := .int (nI 0)) (ty := .int) (C := RX0) (T := TX0) (N := 13) hx hb hts (fun _ h => List.mem_cons_of_mem _ (List.mem_append_right _ h)) tyX0 tyX0_ok nmX0 hown hK hP hD hS 0 rfl rfl 5 (by decide) (hts (.fieldLink RX0 28 "JointAnnuity$Annuity" "cap" "I") (List.mem_of_getElem? (i := 9) rfl)) (fun _ h9 => h9) rfl (by decide +kernel) rfl rfl (Nat.le_of_ble_eq_true rfl) dX0_init_34 (fun H locs hP hD hS => ?_)
  have hP : va_P (dC, dI) vwCl [(h0, .inr (0, [.int (nI sa), .int (nI ma), .int (nI (sa + ga)), .int (nI 100), .int (nI 0), .int (nI 0), .int 0, .int 0, .null, .null, .null, .null, .long 0]))] H := hP
  have hD : va_D A [(h0, .inr (0, [.int (nI sa), .int (nI ma), .int (nI (sa + ga)), .int (nI 100), .int (nI 0), .int (nI 0), .int 0, .int 0, .null, .null, .null, .null, .long 0]))] := hD
  refine lv_aload_n hx hb dX0_init_37 rfl (lv_at hl 0 rfl) ?_
  refine lv_iconst (v := nI 0) hx hb dX0_init_38 (by decide) ?_
  refine va_put (D := (dC, dI)) (ci := 0) (v := .int (nI 0)) (ty := .int) (C := RX0) (T := TX0) (N := 13) hx hb hts (fun _ h => List.mem_cons_of_mem _ (List.mem_append_right _ h)) tyX0 tyX0_ok nmX0 hown hK hP hD hS 0 rfl rfl 6 (by decide) (hts (.fieldLink RX0 31 "JointAnnuity$Annuity" "price" "I") (List.mem_of_getElem? (i := 10) rfl)) (fun _ h9 => h9) rfl (by decide +kernel) rfl rfl (Nat.le_of_ble_eq_true rfl) dX0_init_39 (fun H locs hP hD hS => ?_)
  have hP : va_P (dC, dI) vwCl [(h0, .inr (0, [.int (nI sa), .int (nI ma), .int (nI (sa + ga)), .int (nI 100), .int (nI 0), .int (nI 0), .int (nI 0), .int 0, .null, .null, .null, .null, .long 0]))] H := hP
  have hD : va_D A [(h0, .inr (0, [.int (nI sa), .int (nI ma), .int (nI (sa + ga)), .int (nI 100), .int (nI 0), .int (nI 0), .int (nI 0), .int 0, .null, .null, .null, .null, .long 0]))] := hD
  refine lv_aload_n hx hb dX0_init_42 rfl (lv_at hl 0 rfl) ?_
  refine lv_iconst (v := nI 0) hx hb dX0_init_43 (by decide) ?_
  refine va_put (D := (dC, dI)) (ci := 0) (v := .int (nI 0)) (ty := .int) (C := RX0) (T := TX0) (N := 13) hx hb hts (fun _ h => List.mem_cons_of_mem _ (List.mem_append_right _ h)) tyX0 tyX0_ok nmX0 hown hK hP hD hS 0 rfl rfl 7 (by decide) (hts (.fieldLink RX0 34 "JointAnnuity$Annuity" "protectedPercent" "I") (List.mem_of_getElem? (i := 11) rfl)) (fun _ h9 => h9) rfl (by decide +kernel) rfl rfl (Nat.le_of_ble_eq_true rfl) dX0_init_44 (fun H locs hP hD hS => ?_)
  have hP : va_P (dC, dI) vwCl [(h0, .inr (0, [.int (nI sa), .int (nI ma), .int (nI (sa + ga)), .int (nI 100), .int (nI 0), .int (nI 0), .int (nI 0), .int (nI 0), .null, .null, .null, .null, .long 0]))] H := hP
  have hD : va_D A [(h0, .inr (0, [.int (nI sa), .int (nI ma), .int (nI (sa + ga)), .int (nI 100), .int (nI 0), .int (nI 0), .int (nI 0), .int (nI 0), .null, .null, .null, .null, .long 0]))] := hD
  refine lv_aload_n hx hb dX0_init_47 rfl (lv_at hl 0 rfl) ?_
  refine lv_iconst (v := nI 2) hx hb dX0_init_48 (by decide) ?_
  refine va_newa (atype := .int) (ty := .int) (N' := 2) (a0 := (2, .inl (fun _ => 0))) hx hb (hts (.arrayClass .int) (List.mem_of_getElem? (i := 12) rfl)) rfl hK hP hD hS hA (fun _ => rfl) (nI_pos (by omega)) (nI_clamp (by omega)) (by decide) (Nat.le_of_ble_eq_true rfl) (Nat.le_of_ble_eq_true rfl) dX0_init_49 (fun q49 cA9 H hK hP hD hS => ?_)
  obtain rfl := j_cls hK 0 4 rfl rfl
  have hK := hK.sub (tys' := jTY cI cJ cZ cO) [0, 1, 2, 3] rfl
  have hP : va_P (dC, dI) vwCl [(h0, .inr (0, [.int (nI sa), .int (nI ma), .int (nI (sa + ga)), .int (nI 100), .int (nI 0), .int (nI 0), .int (nI 0), .int (nI 0), .null, .null, .null, .null, .long 0])), (q49, .inl (cI, 2, .inl (fun _ => 0)))] H := hP
  have hD : va_D A [(h0, .inr (0, [.int (nI sa), .int (nI ma), .int (nI (sa + ga)), .int (nI 100), .int (nI 0), .int (nI 0), .int (nI 0), .int (nI 0), .null, .null, .null, .null, .long 0])), (q49, .inl (cI, 2, .inl (fun _ => 0)))] := hD
  refine lv_dup hx hb dX0_init_51 rfl ?_
  refine lv_iconst (v := nI 0) hx hb dX0_init_52 (by decide) ?_
  refine lv_sipush (v := nI 240) hx hb dX0_init_53 (by decide) ?_
  refine va_iast hx hb hK hP hD hS 1 0 (f := fun _ => 0) (x := nI 240) rfl rfl (vp_in_nI (n := 0) (N := 2) (by omega) (by omega)) dX0_init_56 (fun H locs hP hD hS => ?_)
  rw [nI_clamp (show 0 < 2 ^ 31 by omega)] at hP hD
  have hP : va_P (dC, dI) vwCl [(h0, .inr (0, [.int (nI sa), .int (nI ma), .int (nI (sa + ga)), .int (nI 100), .int (nI 0), .int (nI 0), .int (nI 0), .int (nI 0), .null, .null, .null, .null, .long 0])), (q49, .inl (cI, 2, .inl (upd (fun _ => 0) 0 (nI 240))))] H := hP
  have hD : va_D A [(h0, .inr (0, [.int (nI sa), .int (nI ma), .int (nI (sa + ga)), .int (nI 100), .int (nI 0), .int (nI 0), .int (nI 0), .int (nI 0), .null, .null, .null, .null, .long 0])), (q49, .inl (cI, 2, .inl (upd (fun _ => 0) 0 (nI 240))))] := hD
  refine lv_dup hx hb dX0_init_57 rfl ?_
  refine lv_iconst (v := nI 1) hx hb dX0_init_58 (by decide) ?_
  refine lv_sipush (v := nI 240) hx hb dX0_init_59 (by decide) ?_
  refine va_iast hx hb hK hP hD hS 1 0 (f := upd (fun _ => 0) 0 (nI 240)) (x := nI 240) rfl rfl (vp_in_nI (n := 1) (N := 2) (by omega) (by omega)) dX0_init_62 (fun H locs hP hD hS => ?_)
  rw [nI_clamp (show 1 < 2 ^ 31 by omega)] at hP hD
  have hP : va_P (dC, dI) vwCl [(h0, .inr (0, [.int (nI sa), .int (nI ma), .int (nI (sa + ga)), .int (nI 100), .int (nI 0), .int (nI 0), .int (nI 0), .int (nI 0), .null, .null, .null, .null, .long 0])), (q49, .inl (cI, 2, .inl (upd (upd (fun _ => 0) 0 (nI 240)) 1 (nI 240))))] H := hP
  have hD : va_D A [(h0, .inr (0, [.int (nI sa), .int (nI ma), .int (nI (sa + ga)), .int (nI 100), .int (nI 0), .int (nI 0), .int (nI 0), .int (nI 0), .null, .null, .null, .null, .long 0])), (q49, .inl (cI, 2, .inl (upd (upd (fun _ => 0) 0 (nI 240)) 1 (nI 240))))] := hD
  refine va_putF (D := (dC, dI)) (ci := 0) (v := .ref q49) (ty := .array .int) (C := RX0) (T := TX0) (N := 13) hx hb hts (fun _ h => List.mem_cons_of_mem _ (List.mem_append_right _ h)) tyX0 tyX0_ok nmX0 hown hK hP hD hS 0 rfl rfl 8 (by decide) (hts (.fieldLink RX0 37 "JointAnnuity$Annuity" "deaths" "[I") (List.mem_of_getElem? (i := 13) rfl)) (fun _ h9 => h9) rfl hin rfl (by decide +kernel) rfl rfl (Nat.le_of_ble_eq_true rfl) dX0_init_63 (fun H locs hP hD hS => ?_)
  have hP : va_P (dC, dI) vwCl [(h0, .inr (0, [.int (nI sa), .int (nI ma), .int (nI (sa + ga)), .int (nI 100), .int (nI 0), .int (nI 0), .int (nI 0), .int (nI 0), .ref q49, .null, .null, .null, .long 0])), (q49, .inl (cI, 2, .inl (upd (upd (fun _ => 0) 0 (nI 240)) 1 (nI 240))))] H := hP
  have hD : va_D A [(h0, .inr (0, [.int (nI sa), .int (nI ma), .int (nI (sa + ga)), .int (nI 100), .int (nI 0), .int (nI 0), .int (nI 0), .int (nI 0), .ref q49, .null, .null, .null, .long 0])), (q49, .inl (cI, 2, .inl (upd (upd (fun _ => 0) 0 (nI 240)) 1 (nI 240))))] := hD
  refine lv_aload_n hx hb dX0_init_66 rfl (lv_at hl 0 rfl) ?_
  refine lv_bipush (v := nI 20) hx hb dX0_init_67 (by decide) ?_
  refine va_newa (atype := .int) (ty := .int) (N' := 20) (a0 := (20, .inl (fun _ => 0))) hx hb (hts (.arrayClass .int) (List.mem_of_getElem? (i := 12) rfl)) rfl hK hP hD hS hA (fun _ => rfl) (nI_pos (by omega)) (nI_clamp (by omega)) (by decide) (Nat.le_of_ble_eq_true rfl) (Nat.le_of_ble_eq_true rfl) dX0_init_69 (fun q69 cA9 H hK hP hD hS => ?_)
  obtain rfl := j_cls hK 0 4 rfl rfl
  have hK := hK.sub (tys' := jTY cI cJ cZ cO) [0, 1, 2, 3] rfl
  have hP : va_P (dC, dI) vwCl [(h0, .inr (0, [.int (nI sa), .int (nI ma), .int (nI (sa + ga)), .int (nI 100), .int (nI 0), .int (nI 0), .int (nI 0), .int (nI 0), .ref q49, .null, .null, .null, .long 0])), (q49, .inl (cI, 2, .inl (upd (upd (fun _ => 0) 0 (nI 240)) 1 (nI 240)))), (q69, .inl (cI, 20, .inl (fun _ => 0)))] H := hP
  have hD : va_D A [(h0, .inr (0, [.int (nI sa), .int (nI ma), .int (nI (sa + ga)), .int (nI 100), .int (nI 0), .int (nI 0), .int (nI 0), .int (nI 0), .ref q49, .null, .null, .null, .long 0])), (q49, .inl (cI, 2, .inl (upd (upd (fun _ => 0) 0 (nI 240)) 1 (nI 240)))), (q69, .inl (cI, 20, .inl (fun _ => 0)))] := hD
  refine va_putF (D := (dC, dI)) (ci := 0) (v := .ref q69) (ty := .array .int) (C := RX0) (T := TX0) (N := 13) hx hb hts (fun _ h => List.mem_cons_of_mem _ (List.mem_append_right _ h)) tyX0 tyX0_ok nmX0 hown hK hP hD hS 0 rfl rfl 9 (by decide) (hts (.fieldLink RX0 41 "JointAnnuity$Annuity" "fullAmounts" "[I") (List.mem_of_getElem? (i := 14) rfl)) (fun _ h9 => h9) rfl hin rfl (by decide +kernel) rfl rfl (Nat.le_of_ble_eq_true rfl) dX0_init_71 (fun H locs hP hD hS => ?_)
  have hP : va_P (dC, dI) vwCl [(h0, .inr (0, [.int (nI sa), .int (nI ma), .int (nI (sa + ga)), .int (nI 100), .int (nI 0), .int (nI 0), .int (nI 0), .int (nI 0), .ref q49, .ref q69, .null, .null, .long 0])), (q49, .inl (cI, 2, .inl (upd (upd (fun _ => 0) 0 (nI 240)) 1 (nI 240)))), (q69, .inl (cI, 20, .inl (fun _ => 0)))] H := hP
  have hD : va_D A [(h0, .inr (0, [.int (nI sa), .int (nI ma), .int (nI (sa + ga)), .int (nI 100), .int (nI 0), .int (nI 0), .int (nI 0), .int (nI 0), .ref q49, .ref q69, .null, .null, .long 0])), (q49, .inl (cI, 2, .inl (upd (upd (fun _ => 0) 0 (nI 240)) 1 (nI 240)))), (q69, .inl (cI, 20, .inl (fun _ => 0)))] := hD
  refine lv_aload_n hx hb dX0_init_74 rfl (lv_at hl 0 rfl) ?_
  refine lv_bipush (v := nI 20) hx hb dX0_init_75 (by decide) ?_
  refine va_newa (atype := .int) (ty := .int) (N' := 20) (a0 := (20, .inl (fun _ => 0))) hx hb (hts (.arrayClass .int) (List.mem_of_getElem? (i := 12) rfl)) rfl hK hP hD hS hA (fun _ => rfl) (nI_pos (by omega)) (nI_clamp (by omega)) (by decide) (Nat.le_of_ble_eq_true rfl) (Nat.le_of_ble_eq_true rfl) dX0_init_77 (fun q77 cA9 H hK hP hD hS => ?_)
  obtain rfl := j_cls hK 0 4 rfl rfl
  have hK := hK.sub (tys' := jTY cI cJ cZ cO) [0, 1, 2, 3] rfl
  have hP : va_P (dC, dI) vwCl [(h0, .inr (0, [.int (nI sa), .int (nI ma), .int (nI (sa + ga)), .int (nI 100), .int (nI 0), .int (nI 0), .int (nI 0), .int (nI 0), .ref q49, .ref q69, .null, .null, .long 0])), (q49, .inl (cI, 2, .inl (upd (upd (fun _ => 0) 0 (nI 240)) 1 (nI 240)))), (q69, .inl (cI, 20, .inl (fun _ => 0))), (q77, .inl (cI, 20, .inl (fun _ => 0)))] H := hP
  have hD : va_D A [(h0, .inr (0, [.int (nI sa), .int (nI ma), .int (nI (sa + ga)), .int (nI 100), .int (nI 0), .int (nI 0), .int (nI 0), .int (nI 0), .ref q49, .ref q69, .null, .null, .long 0])), (q49, .inl (cI, 2, .inl (upd (upd (fun _ => 0) 0 (nI 240)) 1 (nI 240)))), (q69, .inl (cI, 20, .inl (fun _ => 0))), (q77, .inl (cI, 20, .inl (fun _ => 0)))] := hD
  refine va_putF (D := (dC, dI)) (ci := 0) (v := .ref q77) (ty := .array .int) (C := RX0) (T := TX0) (N := 13) hx hb hts (fun _ h => List.mem_cons_of_mem _ (List.mem_append_right _ h)) tyX0 tyX0_ok nmX0 hown hK hP hD hS 0 rfl rfl 10 (by decide) (hts (.fieldLink RX0 44 "JointAnnuity$Annuity" "carries" "[I") (List.mem_of_getElem? (i := 15) rfl)) (fun _ h9 => h9) rfl hin rfl (by decide +kernel) rfl rfl (Nat.le_of_ble_eq_true rfl) dX0_init_79 (fun H locs hP hD hS => ?_)
  have hP : va_P (dC, dI) vwCl [(h0, .inr (0, [.int (nI sa), .int (nI ma), .int (nI (sa + ga)), .int (nI 100), .int (nI 0), .int (nI 0), .int (nI 0), .int (nI 0), .ref q49, .ref q69, .ref q77, .null, .long 0])), (q49, .inl (cI, 2, .inl (upd (upd (fun _ => 0) 0 (nI 240)) 1 (nI 240)))), (q69, .inl (cI, 20, .inl (fun _ => 0))), (q77, .inl (cI, 20, .inl (fun _ => 0)))] H := hP
  have hD : va_D A [(h0, .inr (0, [.int (nI sa), .int (nI ma), .int (nI (sa + ga)), .int (nI 100), .int (nI 0), .int (nI 0), .int (nI 0), .int (nI 0), .ref q49, .ref q69, .ref q77, .null, .long 0])), (q49, .inl (cI, 2, .inl (upd (upd (fun _ => 0) 0 (nI 240)) 1 (nI 240)))), (q69, .inl (cI, 20, .inl (fun _ => 0))), (q77, .inl (cI, 20, .inl (fun _ => 0)))] := hD
  refine lv_aload_n hx hb dX0_init_82 rfl (lv_at hl 0 rfl) ?_
  refine lv_sipush (v := nI 240) hx hb dX0_init_83 (by decide) ?_
  refine va_newa (atype := .long) (ty := .long) (N' := 240) (a0 := (240, .inr (.inl (fun _ => 0)))) hx hb (hts (.arrayClass .long) (List.mem_of_getElem? (i := 16) rfl)) rfl hK hP hD hS hA (fun _ => rfl) (nI_pos (by omega)) (nI_clamp (by omega)) (by decide) (Nat.le_of_ble_eq_true rfl) (Nat.le_of_ble_eq_true rfl) dX0_init_86 (fun q86 cA9 H hK hP hD hS => ?_)
  obtain rfl := j_cls hK 1 4 rfl rfl
  have hK := hK.sub (tys' := jTY cI cJ cZ cO) [0, 1, 2, 3] rfl
  have hP : va_P (dC, dI) vwCl [(h0, .inr (0, [.int (nI sa), .int (nI ma), .int (nI (sa + ga)), .int (nI 100), .int (nI 0), .int (nI 0), .int (nI 0), .int (nI 0), .ref q49, .ref q69, .ref q77, .null, .long 0])), (q49, .inl (cI, 2, .inl (upd (upd (fun _ => 0) 0 (nI 240)) 1 (nI 240)))), (q69, .inl (cI, 20, .inl (fun _ => 0))), (q77, .inl (cI, 20, .inl (fun _ => 0))), (q86, .inl (cJ, 240, .inr (.inl (fun _ => 0))))] H := hP
  have hD : va_D A [(h0, .inr (0, [.int (nI sa), .int (nI ma), .int (nI (sa + ga)), .int (nI 100), .int (nI 0), .int (nI 0), .int (nI 0), .int (nI 0), .ref q49, .ref q69, .ref q77, .null, .long 0])), (q49, .inl (cI, 2, .inl (upd (upd (fun _ => 0) 0 (nI 240)) 1 (nI 240)))), (q69, .inl (cI, 20, .inl (fun _ => 0))), (q77, .inl (cI, 20, .inl (fun _ => 0))), (q86, .inl (cJ, 240, .inr (.inl (fun _ => 0))))] := hD
  refine va_putF (D := (dC, dI)) (ci := 0) (v := .ref q86) (ty := .array .long) (C := RX0) (T := TX0) (N := 13) hx hb hts (fun _ h => List.mem_cons_of_mem _ (List.mem_append_right _ h)) tyX0 tyX0_ok nmX0 hown hK hP hD hS 0 rfl rfl 11 (by decide) (hts (.fieldLink RX0 47 "JointAnnuity$Annuity" "payments" "[J") (List.mem_of_getElem? (i := 17) rfl)) (fun _ h9 => h9) rfl hin rfl (by decide +kernel) rfl rfl (Nat.le_of_ble_eq_true rfl) dX0_init_88 (fun H locs hP hD hS => ?_)
  have hP : va_P (dC, dI) vwCl [(h0, .inr (0, [.int (nI sa), .int (nI ma), .int (nI (sa + ga)), .int (nI 100), .int (nI 0), .int (nI 0), .int (nI 0), .int (nI 0), .ref q49, .ref q69, .ref q77, .ref q86, .long 0])), (q49, .inl (cI, 2, .inl (upd (upd (fun _ => 0) 0 (nI 240)) 1 (nI 240)))), (q69, .inl (cI, 20, .inl (fun _ => 0))), (q77, .inl (cI, 20, .inl (fun _ => 0))), (q86, .inl (cJ, 240, .inr (.inl (fun _ => 0))))] H := hP
  have hD : va_D A [(h0, .inr (0, [.int (nI sa), .int (nI ma), .int (nI (sa + ga)), .int (nI 100), .int (nI 0), .int (nI 0), .int (nI 0), .int (nI 0), .ref q49, .ref q69, .ref q77, .ref q86, .long 0])), (q49, .inl (cI, 2, .inl (upd (upd (fun _ => 0) 0 (nI 240)) 1 (nI 240)))), (q69, .inl (cI, 20, .inl (fun _ => 0))), (q77, .inl (cI, 20, .inl (fun _ => 0))), (q86, .inl (cJ, 240, .inr (.inl (fun _ => 0))))] := hD
  refine lv_aload_n hx hb dX0_init_91 rfl (lv_at hl 0 rfl) ?_
  refine lv_lconst (v := lN 0) hx hb dX0_init_92 (by decide) ?_
  refine va_put (D := (dC, dI)) (ci := 0) (v := .long (lN 0)) (ty := .long) (C := RX0) (T := TX0) (N := 13) hx hb hts (fun _ h => List.mem_cons_of_mem _ (List.mem_append_right _ h)) tyX0 tyX0_ok nmX0 hown hK hP hD hS 0 rfl rfl 12 (by decide) (hts (.fieldLink RX0 51 "JointAnnuity$Annuity" "keptInAll" "J") (List.mem_of_getElem? (i := 18) rfl)) (fun _ h9 => h9) rfl (by decide +kernel) rfl rfl (Nat.le_of_ble_eq_true rfl) dX0_init_93 (fun H locs hP hD hS => ?_)
  have hP : va_P (dC, dI) vwCl [(h0, .inr (0, [.int (nI sa), .int (nI ma), .int (nI (sa + ga)), .int (nI 100), .int (nI 0), .int (nI 0), .int (nI 0), .int (nI 0), .ref q49, .ref q69, .ref q77, .ref q86, .long (lN 0)])), (q49, .inl (cI, 2, .inl (upd (upd (fun _ => 0) 0 (nI 240)) 1 (nI 240)))), (q69, .inl (cI, 20, .inl (fun _ => 0))), (q77, .inl (cI, 20, .inl (fun _ => 0))), (q86, .inl (cJ, 240, .inr (.inl (fun _ => 0))))] H := hP
  have hD : va_D A [(h0, .inr (0, [.int (nI sa), .int (nI ma), .int (nI (sa + ga)), .int (nI 100), .int (nI 0), .int (nI 0), .int (nI 0), .int (nI 0), .ref q49, .ref q69, .ref q77, .ref q86, .long (lN 0)])), (q49, .inl (cI, 2, .inl (upd (upd (fun _ => 0) 0 (nI 240)) 1 (nI 240)))), (q69, .inl (cI, 20, .inl (fun _ => 0))), (q77, .inl (cI, 20, .inl (fun _ => 0))), (q86, .inl (cJ, 240, .inr (.inl (fun _ => 0))))] := hD
  have hP : va_P (dC, dI) vwCl [(h0, .inr (0, [.int (nI (jN sa ma ga 0)), .int (nI (jN sa ma ga 1)), .int (nI (jN sa ma ga 0 + jN sa ma ga 2)), .int (nI (jN sa ma ga 3)), .int (nI (jN sa ma ga 4)), .int (nI (jN sa ma ga 5)), .int (nI (jN sa ma ga 6)), .int (nI (jN sa ma ga 7)), .ref q49, .ref q69, .ref q77, .ref q86, .long 0])), (q49, .inl (cI, 2, .inl (fun j => nI (if j = 0 then jN sa ma ga 8 else jN sa ma ga 9)))), (q69, .inl (cI, 20, .inl (fun _ => 0))), (q77, .inl (cI, 20, .inl (fun _ => 0))), (q86, .inl (cJ, 240, .inr (.inl (fun _ => 0))))] H := j_same hP rfl (fun k hk => match k, hk with
    | 0, _ => Or.inl rfl
    | 1, _ => Or.inr ⟨_, _, _, rfl, rfl, j_cI (fun j hj => match j, hj with
      | 0, _ => rfl
      | 1, _ => rfl
      | _ + 2, h => absurd h (Nat.not_lt.mpr (Nat.le_add_left _ _)))⟩
    | 2, _ => Or.inl rfl
    | 3, _ => Or.inl rfl
    | 4, _ => Or.inl rfl
    | _ + 5, h => absurd h (Nat.not_lt.mpr (Nat.le_add_left _ _)))
  have hD : va_D A [(h0, .inr (0, [.int (nI (jN sa ma ga 0)), .int (nI (jN sa ma ga 1)), .int (nI (jN sa ma ga 0 + jN sa ma ga 2)), .int (nI (jN sa ma ga 3)), .int (nI (jN sa ma ga 4)), .int (nI (jN sa ma ga 5)), .int (nI (jN sa ma ga 6)), .int (nI (jN sa ma ga 7)), .ref q49, .ref q69, .ref q77, .ref q86, .long 0])), (q49, .inl (cI, 2, .inl (fun j => nI (if j = 0 then jN sa ma ga 8 else jN sa ma ga 9)))), (q69, .inl (cI, 20, .inl (fun _ => 0))), (q77, .inl (cI, 20, .inl (fun _ => 0))), (q86, .inl (cJ, 240, .inr (.inl (fun _ => 0))))] := hD.addr rfl
  exact W.vret hx hb hr (fun t ht hW => ⟨⟨fun i => match i with | 0 => h0 | 1 => q49 | 2 => q69 | 3 => q77 | _ => q86, rfl, rfl, j_h ht hP, hD⟩, hS.F ht⟩) hS.2.2 dX0_init_96
end
section
/-! what a throw needs; methods that throw for certain; a call that is caught -/
abbrev eA : String := "java/lang/IllegalArgumentException"
abbrev eS : String := "java/lang/IllegalStateException"
abbrev eO : String := "java/lang/IndexOutOfBoundsException"
abbrev jEs : List String := [eA, eS, eO]
abbrev jUp : List String := ["java/lang/RuntimeException", "java/lang/Exception"]
abbrev jYs : List String := ["java/lang/RuntimeException", "java/lang/Exception", Bundle.tN]
def jStr : List (Nat × String) := [(33, "there is no room for another annuity"), (78, "the death of this life has been told"), (80, "the death of this life has not been told"), (82, "all months have been run"), (92, "the annuity owes less"), (125, "there is no such annuity"), (131, "the start of this annuity has been run"), (135, "an argument is out of range")]
def jX (A : Nat → Prop) (U : State) (H : Heap) : Prop :=
  vx_Zq Bundle.tN "UNASSIGNED_STACK" Bundle.steD A U H ∧ vx_Zq Bundle.tN "SUPPRESSED_SENTINEL" Bundle.listD A U H ∧ (∀ q ∈ jStr, ∃ a, vk_R RX1 q.1 q.2 a U) ∧ (∀ E ∈ jEs, va_Nw (.castable E E) U) ∧ (∀ Y ∈ jYs, va_Nw (.declares (Bundle.initS Y)) U) ∧ ∀ E ∈ jEs, ∀ F ∈ jEs, E ≠ F → va_Nc E F U
theorem jX.warm {A : Nat → Prop} {s U : State} {H : Heap} (hW : s.WarmedH U.vm) (h : jX A s H) : jX A U H :=
  ⟨vx_Zq.moved hW.alike h.1, vx_Zq.moved hW.alike h.2.1, fun q hq => by obtain ⟨a, ha⟩ := h.2.2.1 q hq; exact ⟨a, vk_R.warm hW ha⟩, fun E hE => va_Nw.warmC hW (h.2.2.2.1 E hE), fun Y hY => va_Nw.warmD hW (h.2.2.2.2.1 Y hY), fun E hE F hF hn => va_Nc.moved hW.alike (h.2.2.2.2.2 E hE F hF hn)⟩
theorem jX.kept {A : Nat → Prop} {U : State} {H H1 : Heap} (h : jX A U H) (hq : ∀ a : Nat, a < H.size → ¬ A a → H1[a]? = H[a]?) : jX A U H1 := ⟨vx_Zq.kept h.1 hq, vx_Zq.kept h.2.1 hq, h.2.2⟩
theorem jX.narrow {A B : Nat → Prop} {U : State} {H : Heap} (h : jX A U H) (hAB : ∀ q, B q → A q) : jX B U H := ⟨vx_Zq.narrow h.1 hAB, vx_Zq.narrow h.2.1 hAB, h.2.2⟩
theorem jX.calls {A : Nat → Prop} {u : State} {g : JFrame} {mk : MethodId} {a : Array Value} (h : jX A u u.heap) : jX A (u.calling g mk a) (u.calling g mk a).heap := by
  have h1 : jX A (u.calling g mk a) u.heap := ⟨vx_Zq.moved (u := u) (U := u.calling g mk a) (Vm.Alike.refl u.vm) h.1, vx_Zq.moved (u := u) (U := u.calling g mk a) (Vm.Alike.refl u.vm) h.2.1, fun q hq => by obtain ⟨b, hb⟩ := h.2.2.1 q hq; exact ⟨b, vk_R.same (u := u) rfl hb⟩, fun E hE => va_Nw.same rfl (u := u) rfl (h.2.2.2.1 E hE), fun Y hY => va_Nw.same rfl (u := u) rfl (h.2.2.2.2.1 Y hY), fun E hE F hF hn => va_Nc.moved (u := u) (U := u.calling g mk a) (Vm.Alike.refl u.vm) (h.2.2.2.2.2 E hE F hF hn)⟩
  exact h1
def jRX (D : va_G) (tys : List (ClassId × FieldType)) (ws : va_W) (U : State) : Prop := jR D tys ws U ∧ jX (fun _ => False) U U.heap
theorem jRX_bl {av : List Value} {D : va_G} {tys : List (ClassId × FieldType)} {ws : va_W} : FrameBlind (va_Pc av (jRX D tys ws)) := fun _ _ _ _ q => ⟨q.1, ⟨q.2.1.1, j_calls q.2.1.2⟩, jX.calls q.2.2⟩
theorem jX_bl {av : List Value} : FrameBlind (va_Pc av (fun U => jX (fun _ => False) U U.heap)) := fun _ _ _ _ q => ⟨q.1, jX.calls q.2⟩
section JPX
variable {s : State} {H : Heap} {D : va_G} {tys : List (ClassId × FieldType)} {ws wc : va_W} {C : String} {b ci q0 : Nat} {r : vw_C} {fs As : List Value}
theorem jRX_V (hX : jX (fun _ => False) s H) (hK : va_K D vwCl tys s) (hP : va_P D vwCl ws H) (is : List Nat) (hs : is.filterMap (fun i => ws[i]?) = wc) (hc : vwCl[ci]? = some r) (he : ws[q0]? = some (b, .inr (ci, fs))) (hn : r.1 = C) : PreV s H C b (va_Pc (.ref b :: As) (jRX D tys wc)) As :=
  ⟨jRX_bl, by rw [← hn]; exact va_recv hK hP hc he, fun U hU hW => ⟨rfl, ⟨by rw [hU]; exact hP.sub is hs, va_K.moved hW.alike hK⟩, by rw [hU]; exact jX.warm hW hX⟩⟩
theorem jX_S (hX : jX (fun _ => False) s H) : PreS s H (va_Pc As (fun U => jX (fun _ => False) U U.heap)) As :=
  ⟨jX_bl, fun U hU hW => ⟨rfl, show jX (fun _ => False) U U.heap from by rw [hU]; exact jX.warm hW hX⟩⟩
end JPX
/-- it doesn't return -/
def jFQ : Array Value → State → Outcome → State → Prop := fun _ _ _ _ => False
/-- it throws E and leaves all cells as they were -/
def jXC (E : String) : String → State → State → Prop := vx_X (fun _ : Unit => True) (fun E' _ _ => E' = E) (fun _ => False)
/-- it answers the cell a -/
def jSr (a : Nat) : Array Value → State → Outcome → State → Prop := fun _ st oc t => oc = .returned (some (.ref a)) ∧ t.heap = st.heap
abbrev jBad (E : String) : List Cond := [Cond.castable E E, Cond.declares (Bundle.initS "java/lang/RuntimeException"), Cond.declares (Bundle.initS "java/lang/Exception"), Cond.declares (Bundle.initS Bundle.tN)]
theorem jgA : ∀ w ∈ Cond.classLink RX1 133 eA :: Cond.initialized eA :: vx_atS RX1 137 eA jUp, vx_ot w = true := by decide +kernel
theorem jgS : ∀ w ∈ Cond.classLink RX1 31 eS :: Cond.initialized eS :: vx_atS RX1 35 eS jUp, vx_ot w = true := by decide +kernel
theorem jgO : ∀ w ∈ Cond.classLink RX1 123 eO :: Cond.initialized eO :: vx_atS RX1 127 eO jUp, vx_ot w = true := by decide +kernel
theorem jbA : ∀ w ∈ (vx_atS RX1 137 eA jUp).filter (fun w => !goodWord w), w ∈ jBad eA := by decide +kernel
theorem jbS : ∀ w ∈ (vx_atS RX1 35 eS jUp).filter (fun w => !goodWord w), w ∈ jBad eS := by decide +kernel
theorem jbO : ∀ w ∈ (vx_atS RX1 127 eO jUp).filter (fun w => !goodWord w), w ∈ jBad eO := by decide +kernel
section JTH
variable {p : Program} {l : Launch} {e : Env} {R : Room} {s : State} {m : MethodId} {args : Array Value} {below : List Frame} {meth : Method} {c : Code} {H : Heap} {locs : List Loc} {cells slots : Nat} {Q : State → Prop}
variable {pc : Nat} {ls : Array Slot} {rest st0 As : List Value} {lv : List (Nat × Value)}
variable {y : MethodName} {bytes cc : ByteArray} {maxL nL n index : Nat} {ret : Option FieldType} {ws' : List Cond} {rm : Room} {Ts : List Cond} {own C E : String} {b : Addr} {Pc : Array Value → State → Prop}
/-- 'throw new E("text")' at the start's heap -/
theorem j_throw (hx : p.tables.exec = Jvm.exec) (hb : c.code = cc) (hst : l.stackTraces = false) {text : String} {ik is ic : Nat} (hown : s.vm.findClass RX1 = some m.cls) (hfit : Bundle.fit E = true) (hE : E ∈ jEs)
    (hk : (Cond.classLink RX1 ik E).before args s = true) (hini : (Cond.initialized E).before args s = true) (hat : ∀ w ∈ (vx_atS RX1 ic E jUp).filter goodWord, w.before args s = true) (hg : ∀ w ∈ Cond.classLink RX1 ik E :: Cond.initialized E :: vx_atS RX1 ic E jUp, vx_ot w = true) (hbd : ∀ w ∈ (vx_atS RX1 ic E jUp).filter (fun w => !goodWord w), w ∈ jBad E)
    (hX : jX (fun _ => False) s s.heap) (hstr : (is, text) ∈ jStr) (hl : lv_has ls nL lv) (hml : c.maxLocals = nL)
    (d0 : decode cc pc = .ok (.new ik, 3)) (d3 : decode cc (pc + 3) = .ok (.dup, 1)) (d4 : decode cc (pc + 4) = .ok (.ldc is, 2)) (d6 : decode cc (pc + 6) = .ok (.invokespecial ic, 3)) (d9 : decode cc (pc + 9) = .ok (.athrow, 1))
    (htab : ∀ x ∈ c.exceptionTable.toList, False) (hR1 : 6 ≤ R.frames) (hR2 : (rest.map fun v => v.category).sum + 82 ≤ R.locals) (hR3 : 1 ≤ R.cells) (hR4 : 6 ≤ R.slots) (hlocks : meth.locks = false) :
    W p l e R s m args below meth c s.heap [] 0 0 (vx_MQ below jFQ (jXC E) args s 1 6 (fun _ => False)) (F0 m pc ls rest) := by
  obtain ⟨sa, hsa⟩ := hX.2.2.1 _ hstr
  refine vx_throwS (own := RX1) (cls := E) (text := text) (names := jUp) (ik := ik) (is := is) (ic := ic) (sa := sa) (A := fun _ => False) hx hb hst hown hfit (by decide +kernel) hk hini hsa ?_ hg hX.1 hX.2.1 va_S.rf (by rw [hml]; exact hl.1) d0 d3 d4 d6 d9 (fun x hx => (htab x hx).elim) (show 2 + 3 < R.frames by omega) (by simpa using hR2) (by omega) (by omega) hlocks (fun t _ h1 h2 => ⟨(), trivial, rfl, h1, fun q hq _ => h2 q hq⟩) (fun _ h => by cases h) (Nat.le_refl _) (Nat.le_refl _)
  exact vx_hat hat hbd (vx_c (va_Nw.use rfl (hX.2.2.2.1 E hE)) (vx_c (va_Nw.use rfl (hX.2.2.2.2.1 _ (by simp))) (vx_c (va_Nw.use rfl (hX.2.2.2.2.1 _ (by simp))) (vx_c (va_Nw.use rfl (hX.2.2.2.2.1 _ (by simp))) vx_n))))
/-- a call that throws, not caught here -/
theorem j_bx (hr : vx_Run p l e R s m args below meth c s.heap [] 0 0 1 6 (F0 m pc ls st0) rest (jFQ As.toArray) (jXC E) (fun _ => False)) (htab : ∀ x ∈ c.exceptionTable.toList, False) (hlocks : meth.locks = false) :
    W p l e R s m args below meth c s.heap [] 0 0 (vx_MQ below jFQ (jXC E) args s 1 6 (fun _ => False)) (F0 m pc ls st0) := by
  intro T hT X
  rcases hr T hT X with ⟨v, st₀, t, T', L, h0, X', hL, e1, e2, hf, st⟩ | ⟨q, st₀, t, T', L, E', ce, h0, X', hL, e1, e2, ⟨u, -, rfl, hF⟩, hce, hcv, hcl, st⟩
  · exact hf.elim
  · obtain ⟨hz, hk⟩ := hF
    rw [h0] at hz hk
    have k := vx_out (p := p) (l := l) (e := e) (R := R) (s := s) (m := m) (args := args) (below := below) (meth := meth) (c := c) (H := T'.heap) (locs := [] ++ L) (cells := 0 + 1) (slots := 0 + 6) (free := fun _ => False) (ls := ls) (rest := rest) (Qc := jFQ) (XC := jXC E') (pc := pc) (E := E') (ce := ce) (q := q) (mc := 1) (ms := 6)
      (fun x hx => (htab x hx).elim) hlocks (by rw [e1]; exact hce) hcv hcl (fun t9 ht9 _ => ⟨(), trivial, rfl, by rw [ht9, e1]; exact hz, fun q9 hq9 h9 => by rw [ht9, e1]; exact hk q9 hq9 h9⟩) (fun z hz9 => hL z (by simpa using hz9)) (by omega) (by omega)
    obtain ⟨t2, a1, b1⟩ := k T' rfl X'
    exact ⟨t2, st.trans a1, b1⟩
theorem j_bxV (S : CallFix p m c cc nL s args Ts own) (hM : vx_Met l y ws' rm Pc jFQ (jXC E) 1 6 (fun _ => False)) (cw : CallW R s args own C index y bytes maxL ret ws' rm 1 6 n) (hp : PreV s s.heap C b Pc As) (hn : As.length = n) (hl : lv_has ls nL lv) (hst : st0 = As.reverse ++ .ref b :: rest) (hro : (rest.map fun v => v.category).sum ≤ 8) (hdg : decode cc pc = .ok (.invokevirtual index, 3)) (hf : 1 ≤ R.cells ∧ 6 ≤ R.slots) (htab : ∀ x ∈ c.exceptionTable.toList, False) (hlocks : meth.locks = false) :
    W p l e R s m args below meth c s.heap [] 0 0 (vx_MQ below jFQ (jXC E) args s 1 6 (fun _ => False)) (F0 m pc ls st0) :=
  j_bx (As := .ref b :: As) (vx_runV S hM cw hp rfl hn hl.1 hst (lv_room hro) hdg ⟨by omega, by omega⟩) htab hlocks
theorem j_bxS (S : CallFix p m c cc nL s args Ts own) (hM : vx_Met l y ws' rm Pc jFQ (jXC E) 1 6 (fun _ => False)) (cw : CallB R s args own index y bytes maxL ret ws' rm 1 6 n ∧ (Cond.static y).before args s = true) (hp : PreS s s.heap Pc As) (hn : As.length = n) (hl : lv_has ls nL lv) (hst : st0 = As.reverse ++ rest) (hro : (rest.map fun v => v.category).sum ≤ 8) (hdg : decode cc pc = .ok (.invokestatic index, 3)) (hf : 1 ≤ R.cells ∧ 6 ≤ R.slots) (htab : ∀ x ∈ c.exceptionTable.toList, False) (hlocks : meth.locks = false) :
    W p l e R s m args below meth c s.heap [] 0 0 (vx_MQ below jFQ (jXC E) args s 1 6 (fun _ => False)) (F0 m pc ls st0) :=
  j_bx (As := As) (vx_runS S hM cw hp rfl hn hl.1 hst (lv_room hro) hdg ⟨by omega, by omega⟩) htab hlocks
/-- a call that throws, caught here -/
theorem j_try (S : CallFix p m c cc nL s args Ts own) (hM : vx_Met l y ws' rm Pc jFQ (jXC E) 1 6 (fun _ => False)) (cw : CallW R s args own C index y bytes maxL ret ws' rm 1 6 n) (hp : PreV s H C b Pc As) (hn : As.length = n) (hl : lv_has ls nL lv) (hst : st0 = As.reverse ++ .ref b :: rest) (hro : (rest.map fun v => v.category).sum ≤ 8) (hdg : decode cc pc = .ok (.invokevirtual index, 3)) (hf : cells + 1 ≤ R.cells ∧ slots + 6 ≤ R.slots)
    {name : String} (pre : List ExceptionTableEntry) (x : ExceptionTableEntry) (suf : List ExceptionTableEntry) (hsplit : c.exceptionTable.toList = pre ++ x :: suf) (hpass : ∀ z ∈ pre, covers z pc = false ∨ (z.catchType ≠ 0 ∧ ∃ nm : String, (Cond.classLink own z.catchType nm).before args s = true ∧ va_Nc E nm s)) (hcv : covers x pc = true) (h0 : x.catchType ≠ 0)
    (hlink : (Cond.classLink own x.catchType name).before args s = true) (hcast : (Cond.castable E name).before args s = true)
    (kk : ∀ (q9 : Nat) (H1 : Heap), H.size ≤ H1.size → (∀ q : Nat, q < H.size → H1[q]? = H[q]?) → W p l e R s m args below meth c H1 locs (cells + 1) (slots + 6) Q (F0 m x.handlerPc ls [.ref q9])) : W p l e R s m args below meth c H locs cells slots Q (F0 m pc ls st0) := by
  intro T hT X
  rcases vx_runV S hM cw hp rfl hn hl.1 hst (lv_room hro) hdg hf T hT X with ⟨v, st₀, t, T', L, h0, X', hL, e1, e2, hff, st⟩ | ⟨q, st₀, t, T', L, E', ce, h9, X', hL, e1, e2, ⟨u, -, rfl, hF⟩, hce, hcv9, hcl, st⟩
  · exact hff.elim
  · obtain ⟨hz, hk⟩ := hF
    rw [h9] at hz hk
    have X2 := Stand.forget (locs := locs) X' (fun z hz9 => (hL z hz9).elim)
    have k := vx_catch (p := p) (l := l) (e := e) (R := R) (s := s) (m := m) (args := args) (below := below) (meth := meth) (c := c) (H := T'.heap) (locs := locs) (cells := cells + 1) (slots := slots + 6) (Q := Q) (pc := pc) (ls := ls) (rest := rest) (own := own) (name := name) (E := E') (ce := ce) (q := q) S.2.2.2.1 pre x suf hsplit hpass hcv h0 hlink hcast (by rw [e1]; exact hce) hcv9 hcl (kk q T'.heap (by rw [e1]; exact hz) (fun q1 h1 => by rw [e1]; exact hk q1 h1 id))
    obtain ⟨t2, a1, b1⟩ := k T' rfl X2
    exact ⟨t2, st.trans a1, b1⟩
/-- a call of a reader that answers a cell -/
theorem j_cR_ {a : Nat} (S : CallFix p m c cc nL s args Ts own) (hM : Met l y ws' rm Pc (jSr a) 0 0 (fun _ => False)) (cw : CallW R s args own C index y bytes maxL ret ws' rm 0 0 n) (hp : PreV s H C b Pc As) (hn : As.length = n) (hl : lv_has ls nL lv) (hst : st0 = As.reverse ++ .ref b :: rest) (hro : (rest.map fun v => v.category).sum ≤ 8) (hdg : decode cc pc = .ok (.invokevirtual index, 3)) (hf : cells ≤ R.cells ∧ slots ≤ R.slots)
    (kk : W p l e R s m args below meth c H locs cells slots Q (F0 m (pc + 3) ls (.ref a :: rest))) : W p l e R s m args below meth c H locs cells slots Q (F0 m pc ls st0) := by
  intro T hT X
  obtain ⟨v, st₀, t, T', L, h0, X', hL, e1, ⟨hv, hh⟩, st⟩ := va_Run.run (va_runV S hM cw hp rfl hn hl.1 hst (lv_room hro) hdg hf) T hT X
  cases hv
  obtain ⟨t2, a1, b1⟩ := kk T' (by rw [e1, hh, h0]) (Stand.forget X' (fun q h => (hL q h).elim))
  exact ⟨t2, st t2 a1, b1⟩
/-- a call of a void reader -/
theorem j_cV_ (S : CallFix p m c cc nL s args Ts own) (hM : Met l y ws' rm Pc (va_Sv (fun _ => True)) 0 0 (fun _ => False)) (cw : CallW R s args own C index y bytes maxL ret ws' rm 0 0 n) (hp : PreV s H C b Pc As) (hn : As.length = n) (hl : lv_has ls nL lv) (hst : st0 = As.reverse ++ .ref b :: rest) (hro : (rest.map fun v => v.category).sum ≤ 8) (hdg : decode cc pc = .ok (.invokevirtual index, 3)) (hf : cells ≤ R.cells ∧ slots ≤ R.slots)
    (kk : W p l e R s m args below meth c H locs cells slots Q (F0 m (pc + 3) ls rest)) : W p l e R s m args below meth c H locs cells slots Q (F0 m pc ls st0) :=
  va_csv (va_Run.run (va_runV S hM cw hp rfl hn hl.1 hst (lv_room hro) hdg hf)) (fun _ => kk)
theorem j_sV (S : CallFix p m c cc nL s args Ts own) (hM : Met l y ws' rm (va_Pc As (fun _ => True)) (va_Sv (fun _ => True)) 0 0 (fun _ => False)) (cw : CallB R s args own index y bytes maxL ret ws' rm 0 0 n ∧ (Cond.static y).before args s = true) (hn : As.length = n) (hl : lv_has ls nL lv) (hst : st0 = As.reverse ++ rest) (hro : (rest.map fun v => v.category).sum ≤ 8) (hdg : decode cc pc = .ok (.invokestatic index, 3)) (hf : cells ≤ R.cells ∧ slots ≤ R.slots)
    (kk : W p l e R s m args below meth c H locs cells slots Q (F0 m (pc + 3) ls rest)) : W p l e R s m args below meth c H locs cells slots Q (F0 m pc ls st0) :=
  va_csv (va_Run.run (va_runS S hM cw ⟨fun _ _ _ _ q => q, fun _ _ _ => ⟨rfl, trivial⟩⟩ rfl hn hl.1 hst (lv_room hro) hdg hf)) (fun _ => kk)
end JTH
/-- an int between two bounds -/
theorem j_rng {x : Int32} {M : Nat} (hM : M < 2 ^ 31) (h1 : ¬ x < nI 0) (h2 : ¬ nI M < x) : ∃ v, v ≤ M ∧ x = nI v := by
  obtain ⟨v, hv, rfl⟩ := nI_of (x := x) h1
  rw [nI_ltI hM hv] at h2
  exact ⟨v, by omega, rfl⟩
end
section
/-! the contracts of the desk (JointAnnuity): what touches one annuity at most -/
set_option maxHeartbeats 4000000 in
set_option maxRecDepth 100000 in
/-- the number is in range -/
theorem c_X1_requireRange (l : Launch) (dC : Nat → ClassId) (dI : Nat → Nat → Nat) (v lo hi : Int32) (h1 : ¬ v < lo) (h2 : ¬ hi < v) : Met l yX1_requireRange wsX1_requireRange ({ frames := 0, cells := 0, slots := 0, locals := 0 }) (va_Pc [.int v, .int lo, .int hi] (fun _ => True)) (va_Sv (fun _ => True)) 0 0 (fun _ => False) := by
  refine j_of (cc := cX1_requireRange) (maxL := 3) (ret := none) (by decide) rfl (Nat.le_of_ble_eq_true rfl) ?_
  intro p e s m below meth c ls hx hb hr hml hts hown hlocks hnm hl hpre
  have hown : s.vm.findClass RX1 = some m.cls := hown
  have hl : lv_has ls 3 [(0, .int v), (1, .int lo), (2, .int hi)] := hl
  refine lv_iload_n hx hb dX1_requireRange_0 rfl (lv_at hl 0 rfl) ?_
  refine lv_iload_n hx hb dX1_requireRange_1 rfl (lv_at hl 1 rfl) ?_
  refine lv_icmp_lt (tgt := 10) hx hb dX1_requireRange_2 (by decide) (fun c_2 => ?_) (fun c_2 => ?_)
  · exact absurd c_2 h1
  · refine lv_iload_n hx hb dX1_requireRange_5 rfl (lv_at hl 0 rfl) ?_
    refine lv_iload_n hx hb dX1_requireRange_6 rfl (lv_at hl 2 rfl) ?_
    refine lv_icmp_le (tgt := 20) hx hb dX1_requireRange_7 (by decide) (fun c_7 => ?_) (fun c_7 => ?_)
    · exact W.vret hx hb hr (fun t ht hW => ⟨rfl, trivial, ht⟩) (fun _ h => by cases h) dX1_requireRange_20
    · exact absurd (Int32.not_lt.mp h2) c_7
set_option maxHeartbeats 4000000 in
set_option maxRecDepth 100000 in
/-- the number is out of range -/
theorem x_X1_requireRange (l : Launch) (dC : Nat → ClassId) (dI : Nat → Nat → Nat) (v lo hi : Int32) (hst : l.stackTraces = false) (h : v < lo ∨ hi < v) : vx_Met l yX1_requireRange wsX1_requireRange ({ frames := 6, cells := 1, slots := 6, locals := 82 }) (va_Pc [.int v, .int lo, .int hi] (fun U => jX (fun _ => False) U U.heap)) (jFQ) (jXC eA) 1 6 (fun _ => False) := by
  refine j_ofx (cc := cX1_requireRange) (maxL := 3) (ret := none) (by decide) rfl (Nat.le_of_ble_eq_true rfl) ?_
  intro p e s m below meth c ls hx hb hr hml hts hown hlocks htab hl hpre
  have hown : s.vm.findClass RX1 = some m.cls := hown
  have hl : lv_has ls 3 [(0, .int v), (1, .int lo), (2, .int hi)] := hl
  have hX : jX (fun _ => False) s s.heap := hpre
  refine lv_iload_n hx hb dX1_requireRange_0 rfl (lv_at hl 0 rfl) ?_
  refine lv_iload_n hx hb dX1_requireRange_1 rfl (lv_at hl 1 rfl) ?_
  refine lv_icmp_lt (tgt := 10) hx hb dX1_requireRange_2 (by decide) (fun c_2 => ?_) (fun c_2 => ?_)
  · exact j_throw (E := eA) hx hb hst hown (by decide +kernel) (by simp) (hts (.classLink RX1 133 "java/lang/IllegalArgumentException") (List.mem_of_getElem? (i := 1) rfl)) (hts (.initialized "java/lang/IllegalArgumentException") (List.mem_of_getElem? (i := 2) rfl)) (fun w h => hts w (List.mem_cons_of_mem _ (List.mem_append_right _ h))) jgA jbA hX (List.mem_of_getElem? (i := 7) rfl) hl hml dX1_requireRange_10 dX1_requireRange_13 dX1_requireRange_14 dX1_requireRange_16 dX1_requireRange_19 htab (Nat.le_of_ble_eq_true rfl) (Nat.le_of_ble_eq_true rfl) (Nat.le_of_ble_eq_true rfl) (Nat.le_of_ble_eq_true rfl) hlocks
  · refine lv_iload_n hx hb dX1_requireRange_5 rfl (lv_at hl 0 rfl) ?_
    refine lv_iload_n hx hb dX1_requireRange_6 rfl (lv_at hl 2 rfl) ?_
    refine lv_icmp_le (tgt := 20) hx hb dX1_requireRange_7 (by decide) (fun c_7 => ?_) (fun c_7 => ?_)
    · exact absurd (h.resolve_left c_2) (Int32.not_lt.mpr c_7)
    · exact j_throw (E := eA) hx hb hst hown (by decide +kernel) (by simp) (hts (.classLink RX1 133 "java/lang/IllegalArgumentException") (List.mem_of_getElem? (i := 1) rfl)) (hts (.initialized "java/lang/IllegalArgumentException") (List.mem_of_getElem? (i := 2) rfl)) (fun w h => hts w (List.mem_cons_of_mem _ (List.mem_append_right _ h))) jgA jbA hX (List.mem_of_getElem? (i := 7) rfl) hl hml dX1_requireRange_10 dX1_requireRange_13 dX1_requireRange_14 dX1_requireRange_16 dX1_requireRange_19 htab (Nat.le_of_ble_eq_true rfl) (Nat.le_of_ble_eq_true rfl) (Nat.le_of_ble_eq_true rfl) (Nat.le_of_ble_eq_true rfl) hlocks
set_option maxHeartbeats 4000000 in
set_option maxRecDepth 100000 in
/-- a month -/
theorem c_X1_requireMonth (l : Launch) (dC : Nat → ClassId) (dI : Nat → Nat → Nat) (v : Int32) (h1 : ¬ v < nI 0) (h2 : ¬ nI 239 < v) : Met l yX1_requireMonth wsX1_requireMonth ({ frames := 1, cells := 0, slots := 0, locals := 22 }) (va_Pc [.int v] (fun _ => True)) (va_Sv (fun _ => True)) 0 0 (fun _ => False) := by
  refine j_of (cc := cX1_requireMonth) (maxL := 1) (ret := none) (by decide) rfl (Nat.le_of_ble_eq_true rfl) ?_
  intro p e s m below meth c ls hx hb hr hml hts hown hlocks hnm hl hpre
  have hown : s.vm.findClass RX1 = some m.cls := hown
  have hl : lv_has ls 1 [(0, .int v)] := hl
  refine lv_iload_n hx hb dX1_requireMonth_0 rfl (lv_at hl 0 rfl) ?_
  refine lv_iconst (v := nI 0) hx hb dX1_requireMonth_1 (by decide) ?_
  refine lv_sipush (v := nI 239) hx hb dX1_requireMonth_2 (by decide) ?_
  refine j_sV (As := [.int v, .int (nI 0), .int (nI 239)]) (rest := []) ⟨hx, hb, hml, hown, hts⟩ (c_X1_requireRange l dC dI v (nI 0) (nI 239) h1 h2) (cwS 3 hts gX1_requireMonth_X1_requireRange rfl rfl rfl (by decide +kernel) ⟨Nat.le_of_ble_eq_true rfl, Nat.le_of_ble_eq_true rfl⟩) rfl hl rfl (Nat.le_of_ble_eq_true rfl) dX1_requireMonth_5 ⟨Nat.le_of_ble_eq_true rfl, Nat.le_of_ble_eq_true rfl⟩ ?_
  exact W.vret hx hb hr (fun t ht hW => ⟨rfl, trivial, ht⟩) (fun _ h => by cases h) dX1_requireMonth_8
set_option maxHeartbeats 4000000 in
set_option maxRecDepth 100000 in
/-- no month -/
theorem x_X1_requireMonth (l : Launch) (dC : Nat → ClassId) (dI : Nat → Nat → Nat) (v : Int32) (hst : l.stackTraces = false) (h : v < nI 0 ∨ nI 239 < v) : vx_Met l yX1_requireMonth wsX1_requireMonth ({ frames := 7, cells := 1, slots := 6, locals := 104 }) (va_Pc [.int v] (fun U => jX (fun _ => False) U U.heap)) (jFQ) (jXC eA) 1 6 (fun _ => False) := by
  refine j_ofx (cc := cX1_requireMonth) (maxL := 1) (ret := none) (by decide) rfl (Nat.le_of_ble_eq_true rfl) ?_
  intro p e s m below meth c ls hx hb hr hml hts hown hlocks htab hl hpre
  have hown : s.vm.findClass RX1 = some m.cls := hown
  have hl : lv_has ls 1 [(0, .int v)] := hl
  have hX : jX (fun _ => False) s s.heap := hpre
  refine lv_iload_n hx hb dX1_requireMonth_0 rfl (lv_at hl 0 rfl) ?_
  refine lv_iconst (v := nI 0) hx hb dX1_requireMonth_1 (by decide) ?_
  refine lv_sipush (v := nI 239) hx hb dX1_requireMonth_2 (by decide) ?_
  exact j_bxS (As := [.int v, .int (nI 0), .int (nI 239)]) (rest := []) ⟨hx, hb, hml, hown, hts⟩ (x_X1_requireRange l dC dI v (nI 0) (nI 239) hst h) (cwS 3 hts gX1_requireMonth_X1_requireRange rfl rfl rfl (by decide +kernel) ⟨Nat.le_of_ble_eq_true rfl, Nat.le_of_ble_eq_true rfl⟩) (jX_S hX) rfl hl rfl (Nat.le_of_ble_eq_true rfl) dX1_requireMonth_5 ⟨Nat.le_of_ble_eq_true rfl, Nat.le_of_ble_eq_true rfl⟩ htab hlocks
set_option maxHeartbeats 4000000 in
set_option maxRecDepth 100000 in
/-- the start has not been run -/
theorem c_X1_requireStartNotRun (l : Launch) (dC : Nat → ClassId) (dI : Nat → Nat → Nat) (cI cJ cZ cO : ClassId) (ax : Nat → Nat) (n mo : Nat) (aa an : Nat → Nat) (kp : Int64) (h0 : an 0 < 240) (hm : mo ≤ 240) (h : ¬ an 0 < mo) : Met l yX1_requireStartNotRun wsX1_requireStartNotRun ({ frames := 0, cells := 0, slots := 0, locals := 0 }) (va_Pc [.ref (ax 0), .ref (aa 0)] (jR (dC, dI) (jTY cI cJ cZ cO) [jXo ax n mo, jO aa an kp])) (va_Sv (fun _ => True)) 0 0 (fun _ => False) := by
  refine j_of (cc := cX1_requireStartNotRun) (maxL := 2) (ret := none) (by decide) rfl (Nat.le_of_ble_eq_true rfl) ?_
  intro p e s m below meth c ls hx hb hr hml hts hown hlocks hnm hl hpre
  have hown : s.vm.findClass RX1 = some m.cls := hown
  have hl : lv_has ls 2 [(0, .ref (ax 0)), (1, .ref (aa 0))] := hl
  obtain ⟨hP, hK⟩ := hpre
  refine lv_aload_n hx hb dX1_requireStartNotRun_0 rfl (lv_at hl 1 rfl) ?_
  refine va_get (D := (dC, dI)) (ci := 0) (v := .int (nI (an 0))) (C := RX0) (T := TX0) (N := 13) hx hb hts (fun _ h => List.mem_cons_of_mem _ (List.mem_append_left _ (List.mem_append_left _ (List.mem_append_right _ h)))) hown hK hP 1 rfl rfl 0 (by decide) (hts (.fieldLink RX1 128 "JointAnnuity$Annuity" "start" "I") (List.mem_of_getElem? (i := 3) rfl)) (fun _ h9 => h9) rfl dX1_requireStartNotRun_1 ?_
  refine lv_aload_n hx hb dX1_requireStartNotRun_4 rfl (lv_at hl 0 rfl) ?_
  refine va_get (D := (dC, dI)) (ci := 1) (v := .int (nI mo)) (C := RX1) (T := TX1) (N := 4) hx hb hts (fun _ h => List.mem_cons_of_mem _ (List.mem_append_left _ (List.mem_append_right _ h))) hown hK hP 0 rfl rfl 3 (by decide) (hts (.fieldLink RX1 23 "JointAnnuity" "monthThatGoesOn" "I") (List.mem_of_getElem? (i := 4) rfl)) (fun _ h9 => h9) rfl dX1_requireStartNotRun_5 ?_
  refine lv_icmp_ge (tgt := 21) hx hb dX1_requireStartNotRun_8 (by decide) (fun c_8 => ?_) (fun c_8 => ?_)
  · have c_8 : mo ≤ an 0 := (nI_leI (a := mo) (b := an 0) (by omega) (by omega)).mp c_8
    exact W.vret hx hb hr (fun t ht hW => ⟨rfl, trivial, ht⟩) (fun _ h => by cases h) dX1_requireStartNotRun_21
  · have c_8 : ¬ (mo ≤ an 0) := fun h => c_8 ((nI_leI (a := mo) (b := an 0) (by omega) (by omega)).mpr h)
    omega
set_option maxHeartbeats 4000000 in
set_option maxRecDepth 100000 in
/-- the start has been run -/
theorem x_X1_requireStartNotRun (l : Launch) (dC : Nat → ClassId) (dI : Nat → Nat → Nat) (cI cJ cZ cO : ClassId) (ax : Nat → Nat) (n mo : Nat) (aa an : Nat → Nat) (kp : Int64) (hst : l.stackTraces = false) (h0 : an 0 < 240) (hm : mo ≤ 240) (h : an 0 < mo) : vx_Met l yX1_requireStartNotRun wsX1_requireStartNotRun ({ frames := 6, cells := 1, slots := 6, locals := 82 }) (va_Pc [.ref (ax 0), .ref (aa 0)] (jRX (dC, dI) (jTY cI cJ cZ cO) [jXo ax n mo, jO aa an kp])) (jFQ) (jXC eS) 1 6 (fun _ => False) := by
  refine j_ofx (cc := cX1_requireStartNotRun) (maxL := 2) (ret := none) (by decide) rfl (Nat.le_of_ble_eq_true rfl) ?_
  intro p e s m below meth c ls hx hb hr hml hts hown hlocks htab hl hpre
  have hown : s.vm.findClass RX1 = some m.cls := hown
  have hl : lv_has ls 2 [(0, .ref (ax 0)), (1, .ref (aa 0))] := hl
  obtain ⟨⟨hP, hK⟩, hX⟩ := hpre
  refine lv_aload_n hx hb dX1_requireStartNotRun_0 rfl (lv_at hl 1 rfl) ?_
  refine va_get (D := (dC, dI)) (ci := 0) (v := .int (nI (an 0))) (C := RX0) (T := TX0) (N := 13) hx hb hts (fun _ h => List.mem_cons_of_mem _ (List.mem_append_left _ (List.mem_append_left _ (List.mem_append_right _ h)))) hown hK hP 1 rfl rfl 0 (by decide) (hts (.fieldLink RX1 128 "JointAnnuity$Annuity" "start" "I") (List.mem_of_getElem? (i := 3) rfl)) (fun _ h9 => h9) rfl dX1_requireStartNotRun_1 ?_
  refine lv_aload_n hx hb dX1_requireStartNotRun_4 rfl (lv_at hl 0 rfl) ?_
  refine va_get (D := (dC, dI)) (ci := 1) (v := .int (nI mo)) (C := RX1) (T := TX1) (N := 4) hx hb hts (fun _ h => List.mem_cons_of_mem _ (List.mem_append_left _ (List.mem_append_right _ h))) hown hK hP 0 rfl rfl 3 (by decide) (hts (.fieldLink RX1 23 "JointAnnuity" "monthThatGoesOn" "I") (List.mem_of_getElem? (i := 4) rfl)) (fun _ h9 => h9) rfl dX1_requireStartNotRun_5 ?_
  refine lv_icmp_ge (tgt := 21) hx hb dX1_requireStartNotRun_8 (by decide) (fun c_8 => ?_) (fun c_8 => ?_)
  · have c_8 : mo ≤ an 0 := (nI_leI (a := mo) (b := an 0) (by omega) (by omega)).mp c_8
    omega
  · have c_8 : ¬ (mo ≤ an 0) := fun h => c_8 ((nI_leI (a := mo) (b := an 0) (by omega) (by omega)).mpr h)
    exact j_throw (E := eS) hx hb hst hown (by decide +kernel) (by simp) (hts (.classLink RX1 31 "java/lang/IllegalStateException") (List.mem_of_getElem? (i := 1) rfl)) (hts (.initialized "java/lang/IllegalStateException") (List.mem_of_getElem? (i := 2) rfl)) (fun w h => hts w (List.mem_cons_of_mem _ (List.mem_append_right _ h))) jgS jbS hX (List.mem_of_getElem? (i := 6) rfl) hl hml dX1_requireStartNotRun_11 dX1_requireStartNotRun_14 dX1_requireStartNotRun_15 dX1_requireStartNotRun_17 dX1_requireStartNotRun_20 htab (Nat.le_of_ble_eq_true rfl) (Nat.le_of_ble_eq_true rfl) (Nat.le_of_ble_eq_true rfl) (Nat.le_of_ble_eq_true rfl) hlocks
set_option maxHeartbeats 4000000 in
set_option maxRecDepth 100000 in
/-- the annuity is found -/
theorem c_X1_find (l : Launch) (dC : Nat → ClassId) (dI : Nat → Nat → Nat) (cI cJ cZ cO : ClassId) (ax : Nat → Nat) (ao : Nat → Option Nat) (n mo : Nat) (k a : Nat) (hk : k < 20) (hao : ao k = some a) : Met l yX1_find wsX1_find ({ frames := 0, cells := 0, slots := 0, locals := 0 }) (va_Pc [.ref (ax 0), .int (nI k)] (jR (dC, dI) (jTY cI cJ cZ cO) [jXo ax n mo, jXa cO ax ao])) (jSr a) 0 0 (fun _ => False) := by
  refine j_of (cc := cX1_find) (maxL := 3) (ret := (some (.object "JointAnnuity$Annuity"))) (by decide) rfl (Nat.le_of_ble_eq_true rfl) ?_
  intro p e s m below meth c ls hx hb hr hml hts hown hlocks hnm hl hpre
  have hown : s.vm.findClass RX1 = some m.cls := hown
  have hl : lv_has ls 3 [(0, .ref (ax 0)), (1, .int (nI k))] := hl
  obtain ⟨hP, hK⟩ := hpre
  refine lv_iload_n hx hb dX1_find_0 rfl (lv_at hl 1 rfl) ?_
  refine lv_if_lt (tgt := 22) hx hb dX1_find_1 (by decide) (fun c_1 => ?_) (fun c_1 => ?_)
  · have c_1 : k < 0 := (nI_ltI (a := k) (b := 0) (by omega) (by omega)).mp c_1
    omega
  · have c_1 : ¬ (k < 0) := fun h => c_1 ((nI_ltI (a := k) (b := 0) (by omega) (by omega)).mpr h)
    refine lv_iload_n hx hb dX1_find_4 rfl (lv_at hl 1 rfl) ?_
    refine lv_aload_n hx hb dX1_find_5 rfl (lv_at hl 0 rfl) ?_
    refine va_get (D := (dC, dI)) (ci := 1) (v := .ref (ax 1)) (C := RX1) (T := TX1) (N := 4) hx hb hts (fun _ h => List.mem_cons_of_mem _ (List.mem_append_left _ (List.mem_append_right _ h))) hown hK hP 0 rfl rfl 0 (by decide) (hts (.fieldLink RX1 11 "JointAnnuity" "annuities" "[LJointAnnuity$Annuity;") (List.mem_of_getElem? (i := 3) rfl)) (fun _ h9 => h9) rfl dX1_find_6 ?_
    refine va_alen hx hb hK hP 1 3 (v := nI 20) rfl rfl rfl dX1_find_9 ?_
    refine lv_icmp_ge (tgt := 22) hx hb dX1_find_10 (by decide) (fun c_10 => ?_) (fun c_10 => ?_)
    · have c_10 : 20 ≤ k := (nI_leI (a := 20) (b := k) (by omega) (by omega)).mp c_10
      omega
    · have c_10 : ¬ (20 ≤ k) := fun h => c_10 ((nI_leI (a := 20) (b := k) (by omega) (by omega)).mpr h)
      refine lv_aload_n hx hb dX1_find_13 rfl (lv_at hl 0 rfl) ?_
      refine va_get (D := (dC, dI)) (ci := 1) (v := .ref (ax 1)) (C := RX1) (T := TX1) (N := 4) hx hb hts (fun _ h => List.mem_cons_of_mem _ (List.mem_append_left _ (List.mem_append_right _ h))) hown hK hP 0 rfl rfl 0 (by decide) (hts (.fieldLink RX1 11 "JointAnnuity" "annuities" "[LJointAnnuity$Annuity;") (List.mem_of_getElem? (i := 3) rfl)) (fun _ h9 => h9) rfl dX1_find_14 ?_
      refine lv_iload_n hx hb dX1_find_17 rfl (lv_at hl 1 rfl) ?_
      refine va_aldq hx hb hK hP 1 3 (f := ao) rfl rfl (vp_in_nI (n := k) (N := 20) (by omega) (by omega)) dX1_find_18 ?_
      refine j_v (y := .ref a) (by rw [nI_clamp (by omega), hao]; rfl) ?_
      refine lv_goto (tgt := 23) hx hb dX1_find_19 (by decide) ?_
      refine lv_astore_n (lv' := [(2, .ref a), (0, .ref (ax 0)), (1, .int (nI k))]) hx hb dX1_find_23 rfl hl (by decide) rfl (fun ls hl => ?_)
      refine lv_aload_n hx hb dX1_find_24 rfl (lv_at hl 0 rfl) ?_
      refine lv_ifnonnull (tgt := 38) hx hb dX1_find_25 (by decide) ?_
      refine lv_aload_n hx hb dX1_find_38 rfl (lv_at hl 0 rfl) ?_
      exact W.aret (v := .ref a) hx hb hr (Or.inl ⟨_, rfl⟩) (Or.inr ⟨_, rfl⟩) (fun t ht hW => ⟨rfl, ht⟩) (fun _ h => by cases h) dX1_find_39
set_option maxHeartbeats 4000000 in
set_option maxRecDepth 100000 in
/-- no such annuity -/
theorem x_X1_find (l : Launch) (dC : Nat → ClassId) (dI : Nat → Nat → Nat) (cI cJ cZ cO : ClassId) (ax : Nat → Nat) (ao : Nat → Option Nat) (n mo : Nat) (p0 : Int32) (hst : l.stackTraces = false) (hn : n ≤ 20) (hao : ∀ j, n ≤ j → ao j = none) (hb0 : ¬ vp_in p0 n) : vx_Met l yX1_find wsX1_find ({ frames := 6, cells := 1, slots := 6, locals := 82 }) (va_Pc [.ref (ax 0), .int p0] (jRX (dC, dI) (jTY cI cJ cZ cO) [jXo ax n mo, jXa cO ax ao])) (jFQ) (jXC eO) 1 6 (fun _ => False) := by
  refine j_ofx (cc := cX1_find) (maxL := 3) (ret := (some (.object "JointAnnuity$Annuity"))) (by decide) rfl (Nat.le_of_ble_eq_true rfl) ?_
  intro p e s m below meth c ls hx hb hr hml hts hown hlocks htab hl hpre
  have hown : s.vm.findClass RX1 = some m.cls := hown
  have hl : lv_has ls 3 [(0, .ref (ax 0)), (1, .int p0)] := hl
  obtain ⟨⟨hP, hK⟩, hX⟩ := hpre
  refine lv_iload_n hx hb dX1_find_0 rfl (lv_at hl 1 rfl) ?_
  refine lv_if_lt (tgt := 22) hx hb dX1_find_1 (by decide) (fun c_1 => ?_) (fun c_1 => ?_)
  · refine lv_null hx hb dX1_find_22 ?_
    refine lv_astore_nN (lv' := [(2, .null), (0, .ref (ax 0)), (1, .int p0)]) hx hb dX1_find_23 rfl hl (by decide) rfl (fun ls hl => ?_)
    refine lv_aload_nN hx hb dX1_find_24 rfl (lv_at hl 0 rfl) ?_
    refine lv_ifnonnullN hx hb dX1_find_25 ?_
    exact j_throw (E := eO) hx hb hst hown (by decide +kernel) (by simp) (hts (.classLink RX1 123 "java/lang/IndexOutOfBoundsException") (List.mem_of_getElem? (i := 1) rfl)) (hts (.initialized "java/lang/IndexOutOfBoundsException") (List.mem_of_getElem? (i := 2) rfl)) (fun w h => hts w (List.mem_cons_of_mem _ (List.mem_append_right _ h))) jgO jbO hX (List.mem_of_getElem? (i := 5) rfl) hl hml dX1_find_28 dX1_find_31 dX1_find_32 dX1_find_34 dX1_find_37 htab (Nat.le_of_ble_eq_true rfl) (Nat.le_of_ble_eq_true rfl) (Nat.le_of_ble_eq_true rfl) (Nat.le_of_ble_eq_true rfl) hlocks
  · refine lv_iload_n hx hb dX1_find_4 rfl (lv_at hl 1 rfl) ?_
    refine lv_aload_n hx hb dX1_find_5 rfl (lv_at hl 0 rfl) ?_
    refine va_get (D := (dC, dI)) (ci := 1) (v := .ref (ax 1)) (C := RX1) (T := TX1) (N := 4) hx hb hts (fun _ h => List.mem_cons_of_mem _ (List.mem_append_left _ (List.mem_append_right _ h))) hown hK hP 0 rfl rfl 0 (by decide) (hts (.fieldLink RX1 11 "JointAnnuity" "annuities" "[LJointAnnuity$Annuity;") (List.mem_of_getElem? (i := 3) rfl)) (fun _ h9 => h9) rfl dX1_find_6 ?_
    refine va_alen hx hb hK hP 1 3 (v := nI 20) rfl rfl rfl dX1_find_9 ?_
    refine lv_icmp_ge (tgt := 22) hx hb dX1_find_10 (by decide) (fun c_10 => ?_) (fun c_10 => ?_)
    · refine lv_null hx hb dX1_find_22 ?_
      refine lv_astore_nN (lv' := [(2, .null), (0, .ref (ax 0)), (1, .int p0)]) hx hb dX1_find_23 rfl hl (by decide) rfl (fun ls hl => ?_)
      refine lv_aload_nN hx hb dX1_find_24 rfl (lv_at hl 0 rfl) ?_
      refine lv_ifnonnullN hx hb dX1_find_25 ?_
      exact j_throw (E := eO) hx hb hst hown (by decide +kernel) (by simp) (hts (.classLink RX1 123 "java/lang/IndexOutOfBoundsException") (List.mem_of_getElem? (i := 1) rfl)) (hts (.initialized "java/lang/IndexOutOfBoundsException") (List.mem_of_getElem? (i := 2) rfl)) (fun w h => hts w (List.mem_cons_of_mem _ (List.mem_append_right _ h))) jgO jbO hX (List.mem_of_getElem? (i := 5) rfl) hl hml dX1_find_28 dX1_find_31 dX1_find_32 dX1_find_34 dX1_find_37 htab (Nat.le_of_ble_eq_true rfl) (Nat.le_of_ble_eq_true rfl) (Nat.le_of_ble_eq_true rfl) (Nat.le_of_ble_eq_true rfl) hlocks
    · obtain ⟨j, hj, rfl⟩ := nI_of (x := p0) c_1
      have c_10 : ¬ 20 ≤ j := fun h => c_10 ((nI_leI (a := 20) (b := j) (by omega) hj).mpr h)
      have hj2 : j < 20 := by omega
      have hn9 : n ≤ j := Nat.not_lt.mp (fun h => hb0 (vp_in_nI h (by omega)))
      refine lv_aload_n hx hb dX1_find_13 rfl (lv_at hl 0 rfl) ?_
      refine va_get (D := (dC, dI)) (ci := 1) (v := .ref (ax 1)) (C := RX1) (T := TX1) (N := 4) hx hb hts (fun _ h => List.mem_cons_of_mem _ (List.mem_append_left _ (List.mem_append_right _ h))) hown hK hP 0 rfl rfl 0 (by decide) (hts (.fieldLink RX1 11 "JointAnnuity" "annuities" "[LJointAnnuity$Annuity;") (List.mem_of_getElem? (i := 3) rfl)) (fun _ h9 => h9) rfl dX1_find_14 ?_
      refine lv_iload_n hx hb dX1_find_17 rfl (lv_at hl 1 rfl) ?_
      refine va_aldq hx hb hK hP 1 3 (f := ao) rfl rfl (vp_in_nI (n := j) (N := 20) hj2 (by omega)) dX1_find_18 ?_
      refine j_v (y := .null) (by rw [nI_clamp (by omega), hao j hn9]; rfl) ?_
      refine lv_goto (tgt := 23) hx hb dX1_find_19 (by decide) ?_
      refine lv_astore_nN (lv' := [(2, .null), (0, .ref (ax 0)), (1, .int (nI j))]) hx hb dX1_find_23 rfl hl (by decide) rfl (fun ls hl => ?_)
      refine lv_aload_nN hx hb dX1_find_24 rfl (lv_at hl 0 rfl) ?_
      refine lv_ifnonnullN hx hb dX1_find_25 ?_
      exact j_throw (E := eO) hx hb hst hown (by decide +kernel) (by simp) (hts (.classLink RX1 123 "java/lang/IndexOutOfBoundsException") (List.mem_of_getElem? (i := 1) rfl)) (hts (.initialized "java/lang/IndexOutOfBoundsException") (List.mem_of_getElem? (i := 2) rfl)) (fun w h => hts w (List.mem_cons_of_mem _ (List.mem_append_right _ h))) jgO jbO hX (List.mem_of_getElem? (i := 5) rfl) hl hml dX1_find_28 dX1_find_31 dX1_find_32 dX1_find_34 dX1_find_37 htab (Nat.le_of_ble_eq_true rfl) (Nat.le_of_ble_eq_true rfl) (Nat.le_of_ble_eq_true rfl) (Nat.le_of_ble_eq_true rfl) hlocks
set_option maxHeartbeats 4000000 in
set_option maxRecDepth 100000 in
/-- what was paid -/
theorem c_X1_paid (l : Launch) (dC : Nat → ClassId) (dI : Nat → Nat → Nat) (cI cJ cZ cO : ClassId) (ax : Nat → Nat) (ao : Nat → Option Nat) (n mo : Nat) (iv : Nat → Int32) (aa an : Nat → Nat) (kp : Int64) (py : Nat → Int64) (k : Nat) (v : Nat) (hv : jV an) (hm : mo ≤ 240) (hk : k < 20) (hao : ao k = some (aa 0)) (hb9 : v < mo) : Met l yX1_paid wsX1_paid ({ frames := 1, cells := 0, slots := 0, locals := 22 }) (va_Pc [.ref (ax 0), .int (nI k), .int (nI v)] (jR (dC, dI) (jTY cI cJ cZ cO) (jFW cI cJ cO ax ao n mo iv aa an kp py))) (vp_Sl (fun r => r = py v)) 0 0 (fun _ => False) := by
  refine j_of (cc := cX1_paid) (maxL := 4) (ret := (some .long)) (by decide) rfl (Nat.le_of_ble_eq_true rfl) ?_
  intro p e s m below meth c ls hx hb hr hml hts hown hlocks hnm hl hpre
  have hown : s.vm.findClass RX1 = some m.cls := hown
  have hl : lv_has ls 4 [(0, .ref (ax 0)), (1, .int (nI k)), (2, .int (nI v))] := hl
  obtain ⟨v0, v1, v2, v3, v4, v5, v6, v7, v8, v9⟩ := id hv
  obtain ⟨hP, hK⟩ := hpre
  refine lv_aload_n hx hb dX1_paid_0 rfl (lv_at hl 0 rfl) ?_
  refine lv_iload_n hx hb dX1_paid_1 rfl (lv_at hl 1 rfl) ?_
  refine j_cR_ (As := [.int (nI k)]) (rest := []) ⟨hx, hb, hml, hown, hts⟩ (c_X1_find l dC dI cI cJ cZ cO ax ao n mo k (aa 0) hk hao) (cwV 1 hts gX1_paid_X1_find rfl rfl rfl (by decide +kernel) ⟨Nat.le_of_ble_eq_true rfl, Nat.le_of_ble_eq_true rfl⟩) (jR_V hK hP [0, 1] rfl (ci := 1) (q0 := 0) rfl rfl rfl) rfl hl rfl (Nat.le_of_ble_eq_true rfl) dX1_paid_2 ⟨Nat.le_of_ble_eq_true rfl, Nat.le_of_ble_eq_true rfl⟩ ?_
  refine lv_astore_n (lv' := [(3, .ref (aa 0)), (0, .ref (ax 0)), (1, .int (nI k)), (2, .int (nI v))]) hx hb dX1_paid_5 rfl hl (by decide) rfl (fun ls hl => ?_)
  refine lv_iload_n hx hb dX1_paid_6 rfl (lv_at hl 3 rfl) ?_
  refine lv_iconst (v := nI 0) hx hb dX1_paid_7 (by decide) ?_
  refine lv_aload_n hx hb dX1_paid_8 rfl (lv_at hl 1 rfl) ?_
  refine va_get (D := (dC, dI)) (ci := 1) (v := .int (nI mo)) (C := RX1) (T := TX1) (N := 4) hx hb hts (fun _ h => List.mem_cons_of_mem _ (List.mem_append_left _ (List.mem_append_left _ (List.mem_append_left _ (List.mem_append_right _ h))))) hown hK hP 0 rfl rfl 3 (by decide) (hts (.fieldLink RX1 23 "JointAnnuity" "monthThatGoesOn" "I") (List.mem_of_getElem? (i := 1) rfl)) (fun _ h9 => h9) rfl dX1_paid_9 ?_
  refine lv_iconst (v := nI 1) hx hb dX1_paid_12 (by decide) ?_
  refine lv_isub hx hb dX1_paid_13 ?_
  refine j_i (y := nI (mo - 1)) (pk_sub (by omega)) ?_
  refine j_sV (As := [.int (nI v), .int (nI 0), .int (nI (mo - 1))]) (rest := []) ⟨hx, hb, hml, hown, hts⟩ (c_X1_requireRange l dC dI (nI v) (nI 0) (nI (mo - 1)) (nI_nlt (by omega) (by omega)) (nI_nlt (by omega) (by omega))) (cwS 3 hts gX1_paid_X1_requireRange rfl rfl rfl (by decide +kernel) ⟨Nat.le_of_ble_eq_true rfl, Nat.le_of_ble_eq_true rfl⟩) rfl hl rfl (Nat.le_of_ble_eq_true rfl) dX1_paid_14 ⟨Nat.le_of_ble_eq_true rfl, Nat.le_of_ble_eq_true rfl⟩ ?_
  refine lv_aload_n hx hb dX1_paid_17 rfl (lv_at hl 0 rfl) ?_
  refine va_get (D := (dC, dI)) (ci := 0) (v := .ref (aa 4)) (C := RX0) (T := TX0) (N := 13) hx hb hts (fun _ h => List.mem_cons_of_mem _ (List.mem_append_left _ (List.mem_append_left _ (List.mem_append_right _ h)))) hown hK hP 3 rfl rfl 11 (by decide) (hts (.fieldLink RX1 98 "JointAnnuity$Annuity" "payments" "[J") (List.mem_of_getElem? (i := 2) rfl)) (fun _ h9 => h9) rfl dX1_paid_18 ?_
  refine lv_iload_n hx hb dX1_paid_21 rfl (lv_at hl 3 rfl) ?_
  refine va_lald hx hb hK hP 7 1 (f := py) rfl rfl (vp_in_nI (n := v) (N := 240) (by omega) (by omega)) dX1_paid_22 ?_
  refine j_l (y := py v) (by rw [nI_clamp (by omega)]) ?_
  exact W.lret (v := py v) hx hb hr (fun t ht hW => ⟨_, rfl, rfl, ht⟩) (fun _ h => by cases h) dX1_paid_23
set_option maxHeartbeats 4000000 in
set_option maxRecDepth 100000 in
/-- all that was paid -/
theorem c_X1_paidInAll (l : Launch) (dC : Nat → ClassId) (dI : Nat → Nat → Nat) (cI cJ cZ cO : ClassId) (ax : Nat → Nat) (ao : Nat → Option Nat) (n mo : Nat) (iv : Nat → Int32) (aa an : Nat → Nat) (kp : Int64) (py : Nat → Int64) (k : Nat) (hv : jV an) (hm : mo ≤ 240) (hk : k < 20) (hao : ao k = some (aa 0)) : Met l yX1_paidInAll wsX1_paidInAll ({ frames := 1, cells := 0, slots := 0, locals := 22 }) (va_Pc [.ref (ax 0), .int (nI k)] (jR (dC, dI) (jTY cI cJ cZ cO) (jFW cI cJ cO ax ao n mo iv aa an kp py))) (vp_Sl (fun r => r = kp)) 0 0 (fun _ => False) := by
  refine j_of (cc := cX1_paidInAll) (maxL := 2) (ret := (some .long)) (by decide) rfl (Nat.le_of_ble_eq_true rfl) ?_
  intro p e s m below meth c ls hx hb hr hml hts hown hlocks hnm hl hpre
  have hown : s.vm.findClass RX1 = some m.cls := hown
  have hl : lv_has ls 2 [(0, .ref (ax 0)), (1, .int (nI k))] := hl
  obtain ⟨v0, v1, v2, v3, v4, v5, v6, v7, v8, v9⟩ := id hv
  obtain ⟨hP, hK⟩ := hpre
  refine lv_aload_n hx hb dX1_paidInAll_0 rfl (lv_at hl 0 rfl) ?_
  refine lv_iload_n hx hb dX1_paidInAll_1 rfl (lv_at hl 1 rfl) ?_
  refine j_cR_ (As := [.int (nI k)]) (rest := []) ⟨hx, hb, hml, hown, hts⟩ (c_X1_find l dC dI cI cJ cZ cO ax ao n mo k (aa 0) hk hao) (cwV 1 hts gX1_paidInAll_X1_find rfl rfl rfl (by decide +kernel) ⟨Nat.le_of_ble_eq_true rfl, Nat.le_of_ble_eq_true rfl⟩) (jR_V hK hP [0, 1] rfl (ci := 1) (q0 := 0) rfl rfl rfl) rfl hl rfl (Nat.le_of_ble_eq_true rfl) dX1_paidInAll_2 ⟨Nat.le_of_ble_eq_true rfl, Nat.le_of_ble_eq_true rfl⟩ ?_
  refine va_get (D := (dC, dI)) (ci := 0) (v := .long (kp)) (C := RX0) (T := TX0) (N := 13) hx hb hts (fun _ h => List.mem_cons_of_mem _ (List.mem_append_left _ (List.mem_append_left _ (List.mem_append_right _ h)))) hown hK hP 3 rfl rfl 12 (by decide) (hts (.fieldLink RX1 94 "JointAnnuity$Annuity" "keptInAll" "J") (List.mem_of_getElem? (i := 1) rfl)) (fun _ h9 => h9) rfl dX1_paidInAll_5 ?_
  exact W.lret (v := kp) hx hb hr (fun t ht hW => ⟨_, rfl, rfl, ht⟩) (fun _ h => by cases h) dX1_paidInAll_8
set_option maxHeartbeats 4000000 in
set_option maxRecDepth 100000 in
/-- what is owed -/
theorem c_X1_owes (l : Launch) (dC : Nat → ClassId) (dI : Nat → Nat → Nat) (cI cJ cZ cO : ClassId) (ax : Nat → Nat) (ao : Nat → Option Nat) (n mo : Nat) (iv : Nat → Int32) (aa an : Nat → Nat) (kp : Int64) (py : Nat → Int64) (k : Nat) (hv : jV an) (hm : mo ≤ 240) (hk : k < 20) (hao : ao k = some (aa 0)) : Met l yX1_owes wsX1_owes ({ frames := 6, cells := 0, slots := 0, locals := 137 }) (va_Pc [.ref (ax 0), .int (nI k)] (jR (dC, dI) (jTY cI cJ cZ cO) (jFW cI cJ cO ax ao n mo iv aa an kp py))) (vp_Sl (fun r => r = jmx (kp - lN (jU an iv mo)))) 0 0 (fun _ => False) := by
  refine j_of (cc := cX1_owes) (maxL := 2) (ret := (some .long)) (by decide) rfl (Nat.le_of_ble_eq_true rfl) ?_
  intro p e s m below meth c ls hx hb hr hml hts hown hlocks hnm hl hpre
  have hown : s.vm.findClass RX1 = some m.cls := hown
  have hl : lv_has ls 2 [(0, .ref (ax 0)), (1, .int (nI k))] := hl
  obtain ⟨v0, v1, v2, v3, v4, v5, v6, v7, v8, v9⟩ := id hv
  obtain ⟨hP, hK⟩ := hpre
  refine lv_aload_n hx hb dX1_owes_0 rfl (lv_at hl 0 rfl) ?_
  refine lv_iload_n hx hb dX1_owes_1 rfl (lv_at hl 1 rfl) ?_
  refine j_cR_ (As := [.int (nI k)]) (rest := []) ⟨hx, hb, hml, hown, hts⟩ (c_X1_find l dC dI cI cJ cZ cO ax ao n mo k (aa 0) hk hao) (cwV 1 hts gX1_owes_X1_find rfl rfl rfl (by decide +kernel) ⟨Nat.le_of_ble_eq_true rfl, Nat.le_of_ble_eq_true rfl⟩) (jR_V hK hP [0, 1] rfl (ci := 1) (q0 := 0) rfl rfl rfl) rfl hl rfl (Nat.le_of_ble_eq_true rfl) dX1_owes_2 ⟨Nat.le_of_ble_eq_true rfl, Nat.le_of_ble_eq_true rfl⟩ ?_
  refine lv_aload_n hx hb dX1_owes_5 rfl (lv_at hl 0 rfl) ?_
  refine va_get (D := (dC, dI)) (ci := 1) (v := .int (nI mo)) (C := RX1) (T := TX1) (N := 4) hx hb hts (fun _ h => List.mem_cons_of_mem _ (List.mem_append_left _ (List.mem_append_left _ (List.mem_append_right _ h)))) hown hK hP 0 rfl rfl 3 (by decide) (hts (.fieldLink RX1 23 "JointAnnuity" "monthThatGoesOn" "I") (List.mem_of_getElem? (i := 1) rfl)) (fun _ h9 => h9) rfl dX1_owes_6 ?_
  refine j_cL_ (As := [.int (nI mo)]) (rest := []) ⟨hx, hb, hml, hown, hts⟩ (c_X0_debtAhead l dC dI cI cJ cZ cO aa an iv kp py mo hv hm) (cwV 1 hts gX1_owes_X0_debtAhead rfl rfl rfl (by decide +kernel) ⟨Nat.le_of_ble_eq_true rfl, Nat.le_of_ble_eq_true rfl⟩) (jR_V hK hP [3, 4, 5, 6, 7] rfl (ci := 0) (q0 := 3) rfl rfl rfl) rfl hl rfl (Nat.le_of_ble_eq_true rfl) dX1_owes_9 ⟨Nat.le_of_ble_eq_true rfl, Nat.le_of_ble_eq_true rfl⟩ (fun r_9 hr_9 => ?_)
  subst hr_9
  exact W.lret (v := jmx (kp - lN (jU an iv mo))) hx hb hr (fun t ht hW => ⟨_, rfl, rfl, ht⟩) (fun _ h => by cases h) dX1_owes_12
set_option maxHeartbeats 4000000 in
set_option maxRecDepth 100000 in
/-- the full amount -/
theorem c_X1_fullAmount (l : Launch) (dC : Nat → ClassId) (dI : Nat → Nat → Nat) (cI cJ cZ cO : ClassId) (ax : Nat → Nat) (ao : Nat → Option Nat) (n mo : Nat) (iv : Nat → Int32) (aa an : Nat → Nat) (kp : Int64) (py : Nat → Int64) (k : Nat) (v : Nat) (hv : jV an) (hm : mo ≤ 240) (hk : k < 20) (hao : ao k = some (aa 0)) (hb9 : v < 240) : Met l yX1_fullAmount wsX1_fullAmount ({ frames := 2, cells := 0, slots := 0, locals := 42 }) (va_Pc [.ref (ax 0), .int (nI k), .int (nI v)] (jR (dC, dI) (jTY cI cJ cZ cO) (jFW cI cJ cO ax ao n mo iv aa an kp py))) (vp_Si (fun r => r = nI (if v < an 0 then 0 else jM an iv v))) 0 0 (fun _ => False) := by
  refine j_of (cc := cX1_fullAmount) (maxL := 4) (ret := (some .int)) (by decide) rfl (Nat.le_of_ble_eq_true rfl) ?_
  intro p e s m below meth c ls hx hb hr hml hts hown hlocks hnm hl hpre
  have hown : s.vm.findClass RX1 = some m.cls := hown
  have hl : lv_has ls 4 [(0, .ref (ax 0)), (1, .int (nI k)), (2, .int (nI v))] := hl
  obtain ⟨v0, v1, v2, v3, v4, v5, v6, v7, v8, v9⟩ := id hv
  obtain ⟨hP, hK⟩ := hpre
  refine lv_aload_n hx hb dX1_fullAmount_0 rfl (lv_at hl 0 rfl) ?_
  refine lv_iload_n hx hb dX1_fullAmount_1 rfl (lv_at hl 1 rfl) ?_
  refine j_cR_ (As := [.int (nI k)]) (rest := []) ⟨hx, hb, hml, hown, hts⟩ (c_X1_find l dC dI cI cJ cZ cO ax ao n mo k (aa 0) hk hao) (cwV 1 hts gX1_fullAmount_X1_find rfl rfl rfl (by decide +kernel) ⟨Nat.le_of_ble_eq_true rfl, Nat.le_of_ble_eq_true rfl⟩) (jR_V hK hP [0, 1] rfl (ci := 1) (q0 := 0) rfl rfl rfl) rfl hl rfl (Nat.le_of_ble_eq_true rfl) dX1_fullAmount_2 ⟨Nat.le_of_ble_eq_true rfl, Nat.le_of_ble_eq_true rfl⟩ ?_
  refine lv_astore_n (lv' := [(3, .ref (aa 0)), (0, .ref (ax 0)), (1, .int (nI k)), (2, .int (nI v))]) hx hb dX1_fullAmount_5 rfl hl (by decide) rfl (fun ls hl => ?_)
  refine lv_iload_n hx hb dX1_fullAmount_6 rfl (lv_at hl 3 rfl) ?_
  refine j_sV (As := [.int (nI v)]) (rest := []) ⟨hx, hb, hml, hown, hts⟩ (c_X1_requireMonth l dC dI (nI v) (nI_nlt (by omega) (by omega)) (nI_nlt (by omega) (by omega))) (cwS 1 hts gX1_fullAmount_X1_requireMonth rfl rfl rfl (by decide +kernel) ⟨Nat.le_of_ble_eq_true rfl, Nat.le_of_ble_eq_true rfl⟩) rfl hl rfl (Nat.le_of_ble_eq_true rfl) dX1_fullAmount_7 ⟨Nat.le_of_ble_eq_true rfl, Nat.le_of_ble_eq_true rfl⟩ ?_
  refine lv_aload_n hx hb dX1_fullAmount_10 rfl (lv_at hl 0 rfl) ?_
  refine lv_iload_n hx hb dX1_fullAmount_11 rfl (lv_at hl 3 rfl) ?_
  refine j_cI_ (As := [.int (nI v)]) (rest := []) ⟨hx, hb, hml, hown, hts⟩ (c_X0_fullIn l dC dI cI cJ cZ cO aa an iv kp py v hv hb9) (cwV 1 hts gX1_fullAmount_X0_fullIn rfl rfl rfl (by decide +kernel) ⟨Nat.le_of_ble_eq_true rfl, Nat.le_of_ble_eq_true rfl⟩) (jR_V hK hP [3, 4, 5, 6, 7] rfl (ci := 0) (q0 := 3) rfl rfl rfl) rfl hl rfl (Nat.le_of_ble_eq_true rfl) dX1_fullAmount_12 ⟨Nat.le_of_ble_eq_true rfl, Nat.le_of_ble_eq_true rfl⟩ (fun r_12 hr_12 => ?_)
  subst hr_12
  exact W.iret (v := nI (if v < an 0 then 0 else jM an iv v)) hx hb hr (fun t ht hW => ⟨_, rfl, rfl, ht⟩) (fun _ h => by cases h) dX1_fullAmount_15
set_option maxHeartbeats 4000000 in
set_option maxRecDepth 100000 in
/-- the carry -/
theorem c_X1_carry (l : Launch) (dC : Nat → ClassId) (dI : Nat → Nat → Nat) (cI cJ cZ cO : ClassId) (ax : Nat → Nat) (ao : Nat → Option Nat) (n mo : Nat) (iv : Nat → Int32) (aa an : Nat → Nat) (kp : Int64) (py : Nat → Int64) (k : Nat) (v : Nat) (hv : jV an) (hm : mo ≤ 240) (hk : k < 20) (hao : ao k = some (aa 0)) (hb9 : v < 240) : Met l yX1_carry wsX1_carry ({ frames := 2, cells := 0, slots := 0, locals := 42 }) (va_Pc [.ref (ax 0), .int (nI k), .int (nI v)] (jR (dC, dI) (jTY cI cJ cZ cO) (jFW cI cJ cO ax ao n mo iv aa an kp py))) (vp_Si (fun r => r = if v < an 0 then 0 else jC an iv ((v - an 0) / 12))) 0 0 (fun _ => False) := by
  refine j_of (cc := cX1_carry) (maxL := 4) (ret := (some .int)) (by decide) rfl (Nat.le_of_ble_eq_true rfl) ?_
  intro p e s m below meth c ls hx hb hr hml hts hown hlocks hnm hl hpre
  have hown : s.vm.findClass RX1 = some m.cls := hown
  have hl : lv_has ls 4 [(0, .ref (ax 0)), (1, .int (nI k)), (2, .int (nI v))] := hl
  obtain ⟨v0, v1, v2, v3, v4, v5, v6, v7, v8, v9⟩ := id hv
  obtain ⟨hP, hK⟩ := hpre
  refine lv_aload_n hx hb dX1_carry_0 rfl (lv_at hl 0 rfl) ?_
  refine lv_iload_n hx hb dX1_carry_1 rfl (lv_at hl 1 rfl) ?_
  refine j_cR_ (As := [.int (nI k)]) (rest := []) ⟨hx, hb, hml, hown, hts⟩ (c_X1_find l dC dI cI cJ cZ cO ax ao n mo k (aa 0) hk hao) (cwV 1 hts gX1_carry_X1_find rfl rfl rfl (by decide +kernel) ⟨Nat.le_of_ble_eq_true rfl, Nat.le_of_ble_eq_true rfl⟩) (jR_V hK hP [0, 1] rfl (ci := 1) (q0 := 0) rfl rfl rfl) rfl hl rfl (Nat.le_of_ble_eq_true rfl) dX1_carry_2 ⟨Nat.le_of_ble_eq_true rfl, Nat.le_of_ble_eq_true rfl⟩ ?_
  refine lv_astore_n (lv' := [(3, .ref (aa 0)), (0, .ref (ax 0)), (1, .int (nI k)), (2, .int (nI v))]) hx hb dX1_carry_5 rfl hl (by decide) rfl (fun ls hl => ?_)
  refine lv_iload_n hx hb dX1_carry_6 rfl (lv_at hl 3 rfl) ?_
  refine j_sV (As := [.int (nI v)]) (rest := []) ⟨hx, hb, hml, hown, hts⟩ (c_X1_requireMonth l dC dI (nI v) (nI_nlt (by omega) (by omega)) (nI_nlt (by omega) (by omega))) (cwS 1 hts gX1_carry_X1_requireMonth rfl rfl rfl (by decide +kernel) ⟨Nat.le_of_ble_eq_true rfl, Nat.le_of_ble_eq_true rfl⟩) rfl hl rfl (Nat.le_of_ble_eq_true rfl) dX1_carry_7 ⟨Nat.le_of_ble_eq_true rfl, Nat.le_of_ble_eq_true rfl⟩ ?_
  refine lv_aload_n hx hb dX1_carry_10 rfl (lv_at hl 0 rfl) ?_
  refine lv_iload_n hx hb dX1_carry_11 rfl (lv_at hl 3 rfl) ?_
  refine j_cI_ (As := [.int (nI v)]) (rest := []) ⟨hx, hb, hml, hown, hts⟩ (c_X0_carryIn l dC dI cI cJ cZ cO aa an iv kp py v hv hb9) (cwV 1 hts gX1_carry_X0_carryIn rfl rfl rfl (by decide +kernel) ⟨Nat.le_of_ble_eq_true rfl, Nat.le_of_ble_eq_true rfl⟩) (jR_V hK hP [3, 4, 5, 6, 7] rfl (ci := 0) (q0 := 3) rfl rfl rfl) rfl hl rfl (Nat.le_of_ble_eq_true rfl) dX1_carry_12 ⟨Nat.le_of_ble_eq_true rfl, Nat.le_of_ble_eq_true rfl⟩ (fun r_12 hr_12 => ?_)
  subst hr_12
  exact W.iret (v := if v < an 0 then 0 else jC an iv ((v - an 0) / 12)) hx hb hr (fun t ht hW => ⟨_, rfl, rfl, ht⟩) (fun _ h => by cases h) dX1_carry_15
set_option maxHeartbeats 4000000 in
set_option maxRecDepth 100000 in
/-- what is due in a month -/
theorem c_X1_entitled (l : Launch) (dC : Nat → ClassId) (dI : Nat → Nat → Nat) (cI cJ cZ cO : ClassId) (ax : Nat → Nat) (ao : Nat → Option Nat) (n mo : Nat) (iv : Nat → Int32) (aa an : Nat → Nat) (kp : Int64) (py : Nat → Int64) (k : Nat) (v : Nat) (hv : jV an) (hm : mo ≤ 240) (hk : k < 20) (hao : ao k = some (aa 0)) (hb9 : v < 240) : Met l yX1_entitled wsX1_entitled ({ frames := 5, cells := 0, slots := 0, locals := 116 }) (va_Pc [.ref (ax 0), .int (nI k), .int (nI v)] (jR (dC, dI) (jTY cI cJ cZ cO) (jFW cI cJ cO ax ao n mo iv aa an kp py))) (vp_Sl (fun r => r = lN ((if v < an 0 then 0 else jS an iv v) + (if v = jP an then jQ an iv else 0)))) 0 0 (fun _ => False) := by
  refine j_of (cc := cX1_entitled) (maxL := 4) (ret := (some .long)) (by decide) rfl (Nat.le_of_ble_eq_true rfl) ?_
  intro p e s m below meth c ls hx hb hr hml hts hown hlocks hnm hl hpre
  have hown : s.vm.findClass RX1 = some m.cls := hown
  have hl : lv_has ls 4 [(0, .ref (ax 0)), (1, .int (nI k)), (2, .int (nI v))] := hl
  obtain ⟨v0, v1, v2, v3, v4, v5, v6, v7, v8, v9⟩ := id hv
  obtain ⟨hP, hK⟩ := hpre
  refine lv_aload_n hx hb dX1_entitled_0 rfl (lv_at hl 0 rfl) ?_
  refine lv_iload_n hx hb dX1_entitled_1 rfl (lv_at hl 1 rfl) ?_
  refine j_cR_ (As := [.int (nI k)]) (rest := []) ⟨hx, hb, hml, hown, hts⟩ (c_X1_find l dC dI cI cJ cZ cO ax ao n mo k (aa 0) hk hao) (cwV 1 hts gX1_entitled_X1_find rfl rfl rfl (by decide +kernel) ⟨Nat.le_of_ble_eq_true rfl, Nat.le_of_ble_eq_true rfl⟩) (jR_V hK hP [0, 1] rfl (ci := 1) (q0 := 0) rfl rfl rfl) rfl hl rfl (Nat.le_of_ble_eq_true rfl) dX1_entitled_2 ⟨Nat.le_of_ble_eq_true rfl, Nat.le_of_ble_eq_true rfl⟩ ?_
  refine lv_astore_n (lv' := [(3, .ref (aa 0)), (0, .ref (ax 0)), (1, .int (nI k)), (2, .int (nI v))]) hx hb dX1_entitled_5 rfl hl (by decide) rfl (fun ls hl => ?_)
  refine lv_iload_n hx hb dX1_entitled_6 rfl (lv_at hl 3 rfl) ?_
  refine j_sV (As := [.int (nI v)]) (rest := []) ⟨hx, hb, hml, hown, hts⟩ (c_X1_requireMonth l dC dI (nI v) (nI_nlt (by omega) (by omega)) (nI_nlt (by omega) (by omega))) (cwS 1 hts gX1_entitled_X1_requireMonth rfl rfl rfl (by decide +kernel) ⟨Nat.le_of_ble_eq_true rfl, Nat.le_of_ble_eq_true rfl⟩) rfl hl rfl (Nat.le_of_ble_eq_true rfl) dX1_entitled_7 ⟨Nat.le_of_ble_eq_true rfl, Nat.le_of_ble_eq_true rfl⟩ ?_
  refine lv_aload_n hx hb dX1_entitled_10 rfl (lv_at hl 0 rfl) ?_
  refine lv_iload_n hx hb dX1_entitled_11 rfl (lv_at hl 3 rfl) ?_
  refine j_cL_ (As := [.int (nI v)]) (rest := []) ⟨hx, hb, hml, hown, hts⟩ (c_X0_dueIn l dC dI cI cJ cZ cO aa an iv kp py v hv hb9) (cwV 1 hts gX1_entitled_X0_dueIn rfl rfl rfl (by decide +kernel) ⟨Nat.le_of_ble_eq_true rfl, Nat.le_of_ble_eq_true rfl⟩) (jR_V hK hP [3, 4, 5, 6, 7] rfl (ci := 0) (q0 := 3) rfl rfl rfl) rfl hl rfl (Nat.le_of_ble_eq_true rfl) dX1_entitled_12 ⟨Nat.le_of_ble_eq_true rfl, Nat.le_of_ble_eq_true rfl⟩ (fun r_12 hr_12 => ?_)
  subst hr_12
  exact W.lret (v := lN ((if v < an 0 then 0 else jS an iv v) + (if v = jP an then jQ an iv else 0))) hx hb hr (fun t ht hW => ⟨_, rfl, rfl, ht⟩) (fun _ h => by cases h) dX1_entitled_15
set_option maxHeartbeats 4000000 in
set_option maxRecDepth 100000 in
/-- what is due up to a month -/
theorem c_X1_entitledUpTo (l : Launch) (dC : Nat → ClassId) (dI : Nat → Nat → Nat) (cI cJ cZ cO : ClassId) (ax : Nat → Nat) (ao : Nat → Option Nat) (n mo : Nat) (iv : Nat → Int32) (aa an : Nat → Nat) (kp : Int64) (py : Nat → Int64) (k : Nat) (v : Nat) (hv : jV an) (hm : mo ≤ 240) (hk : k < 20) (hao : ao k = some (aa 0)) (hb9 : v < 240) : Met l yX1_entitledUpTo wsX1_entitledUpTo ({ frames := 5, cells := 0, slots := 0, locals := 116 }) (va_Pc [.ref (ax 0), .int (nI k), .int (nI v)] (jR (dC, dI) (jTY cI cJ cZ cO) (jFW cI cJ cO ax ao n mo iv aa an kp py))) (vp_Sl (fun r => r = lN (jU an iv (v + 1)))) 0 0 (fun _ => False) := by
  refine j_of (cc := cX1_entitledUpTo) (maxL := 4) (ret := (some .long)) (by decide) rfl (Nat.le_of_ble_eq_true rfl) ?_
  intro p e s m below meth c ls hx hb hr hml hts hown hlocks hnm hl hpre
  have hown : s.vm.findClass RX1 = some m.cls := hown
  have hl : lv_has ls 4 [(0, .ref (ax 0)), (1, .int (nI k)), (2, .int (nI v))] := hl
  obtain ⟨v0, v1, v2, v3, v4, v5, v6, v7, v8, v9⟩ := id hv
  obtain ⟨hP, hK⟩ := hpre
  refine lv_aload_n hx hb dX1_entitledUpTo_0 rfl (lv_at hl 0 rfl) ?_
  refine lv_iload_n hx hb dX1_entitledUpTo_1 rfl (lv_at hl 1 rfl) ?_
  refine j_cR_ (As := [.int (nI k)]) (rest := []) ⟨hx, hb, hml, hown, hts⟩ (c_X1_find l dC dI cI cJ cZ cO ax ao n mo k (aa 0) hk hao) (cwV 1 hts gX1_entitledUpTo_X1_find rfl rfl rfl (by decide +kernel) ⟨Nat.le_of_ble_eq_true rfl, Nat.le_of_ble_eq_true rfl⟩) (jR_V hK hP [0, 1] rfl (ci := 1) (q0 := 0) rfl rfl rfl) rfl hl rfl (Nat.le_of_ble_eq_true rfl) dX1_entitledUpTo_2 ⟨Nat.le_of_ble_eq_true rfl, Nat.le_of_ble_eq_true rfl⟩ ?_
  refine lv_astore_n (lv' := [(3, .ref (aa 0)), (0, .ref (ax 0)), (1, .int (nI k)), (2, .int (nI v))]) hx hb dX1_entitledUpTo_5 rfl hl (by decide) rfl (fun ls hl => ?_)
  refine lv_iload_n hx hb dX1_entitledUpTo_6 rfl (lv_at hl 3 rfl) ?_
  refine j_sV (As := [.int (nI v)]) (rest := []) ⟨hx, hb, hml, hown, hts⟩ (c_X1_requireMonth l dC dI (nI v) (nI_nlt (by omega) (by omega)) (nI_nlt (by omega) (by omega))) (cwS 1 hts gX1_entitledUpTo_X1_requireMonth rfl rfl rfl (by decide +kernel) ⟨Nat.le_of_ble_eq_true rfl, Nat.le_of_ble_eq_true rfl⟩) rfl hl rfl (Nat.le_of_ble_eq_true rfl) dX1_entitledUpTo_7 ⟨Nat.le_of_ble_eq_true rfl, Nat.le_of_ble_eq_true rfl⟩ ?_
  refine lv_aload_n hx hb dX1_entitledUpTo_10 rfl (lv_at hl 0 rfl) ?_
  refine lv_iload_n hx hb dX1_entitledUpTo_11 rfl (lv_at hl 3 rfl) ?_
  refine lv_iconst (v := nI 1) hx hb dX1_entitledUpTo_12 (by decide) ?_
  refine lv_iadd hx hb dX1_entitledUpTo_13 ?_
  refine j_i (y := nI (v + 1)) (nI_add _ _) ?_
  refine j_cL_ (As := [.int (nI (v + 1))]) (rest := []) ⟨hx, hb, hml, hown, hts⟩ (c_X0_dueAhead l dC dI cI cJ cZ cO aa an iv kp py (v + 1) hv (by omega)) (cwV 1 hts gX1_entitledUpTo_X0_dueAhead rfl rfl rfl (by decide +kernel) ⟨Nat.le_of_ble_eq_true rfl, Nat.le_of_ble_eq_true rfl⟩) (jR_V hK hP [3, 4, 5, 6, 7] rfl (ci := 0) (q0 := 3) rfl rfl rfl) rfl hl rfl (Nat.le_of_ble_eq_true rfl) dX1_entitledUpTo_14 ⟨Nat.le_of_ble_eq_true rfl, Nat.le_of_ble_eq_true rfl⟩ (fun r_14 hr_14 => ?_)
  subst hr_14
  exact W.lret (v := lN (jU an iv (v + 1))) hx hb hr (fun t ht hW => ⟨_, rfl, rfl, ht⟩) (fun _ h => by cases h) dX1_entitledUpTo_17
set_option maxHeartbeats 4000000 in
set_option maxRecDepth 100000 in
/-- the protection -/
theorem c_X1_protection (l : Launch) (dC : Nat → ClassId) (dI : Nat → Nat → Nat) (cI cJ cZ cO : ClassId) (ax : Nat → Nat) (ao : Nat → Option Nat) (n mo : Nat) (iv : Nat → Int32) (aa an : Nat → Nat) (kp : Int64) (py : Nat → Int64) (k : Nat) (hv : jV an) (hm : mo ≤ 240) (hk : k < 20) (hao : ao k = some (aa 0)) : Met l yX1_protection wsX1_protection ({ frames := 4, cells := 0, slots := 0, locals := 93 }) (va_Pc [.ref (ax 0), .int (nI k)] (jR (dC, dI) (jTY cI cJ cZ cO) (jFW cI cJ cO ax ao n mo iv aa an kp py))) (vp_Sl (fun r => r = lN (jQ an iv))) 0 0 (fun _ => False) := by
  refine j_of (cc := cX1_protection) (maxL := 2) (ret := (some .long)) (by decide) rfl (Nat.le_of_ble_eq_true rfl) ?_
  intro p e s m below meth c ls hx hb hr hml hts hown hlocks hnm hl hpre
  have hown : s.vm.findClass RX1 = some m.cls := hown
  have hl : lv_has ls 2 [(0, .ref (ax 0)), (1, .int (nI k))] := hl
  obtain ⟨v0, v1, v2, v3, v4, v5, v6, v7, v8, v9⟩ := id hv
  obtain ⟨hP, hK⟩ := hpre
  refine lv_aload_n hx hb dX1_protection_0 rfl (lv_at hl 0 rfl) ?_
  refine lv_iload_n hx hb dX1_protection_1 rfl (lv_at hl 1 rfl) ?_
  refine j_cR_ (As := [.int (nI k)]) (rest := []) ⟨hx, hb, hml, hown, hts⟩ (c_X1_find l dC dI cI cJ cZ cO ax ao n mo k (aa 0) hk hao) (cwV 1 hts gX1_protection_X1_find rfl rfl rfl (by decide +kernel) ⟨Nat.le_of_ble_eq_true rfl, Nat.le_of_ble_eq_true rfl⟩) (jR_V hK hP [0, 1] rfl (ci := 1) (q0 := 0) rfl rfl rfl) rfl hl rfl (Nat.le_of_ble_eq_true rfl) dX1_protection_2 ⟨Nat.le_of_ble_eq_true rfl, Nat.le_of_ble_eq_true rfl⟩ ?_
  refine j_cL_ (As := []) (rest := []) ⟨hx, hb, hml, hown, hts⟩ (c_X0_protectionSum l dC dI cI cJ cZ cO aa an iv kp py hv) (cwV 0 hts gX1_protection_X0_protectionSum rfl rfl rfl (by decide +kernel) ⟨Nat.le_of_ble_eq_true rfl, Nat.le_of_ble_eq_true rfl⟩) (jR_V hK hP [3, 4, 5, 6, 7] rfl (ci := 0) (q0 := 3) rfl rfl rfl) rfl hl rfl (Nat.le_of_ble_eq_true rfl) dX1_protection_5 ⟨Nat.le_of_ble_eq_true rfl, Nat.le_of_ble_eq_true rfl⟩ (fun r_5 hr_5 => ?_)
  subst hr_5
  exact W.lret (v := lN (jQ an iv)) hx hb hr (fun t ht hW => ⟨_, rfl, rfl, ht⟩) (fun _ h => by cases h) dX1_protection_8
set_option maxHeartbeats 4000000 in
set_option maxRecDepth 100000 in
/-- the month that goes on -/
theorem c_X1_month (l : Launch) (dC : Nat → ClassId) (dI : Nat → Nat → Nat) (cI cJ cZ cO : ClassId) (ax : Nat → Nat) (n mo : Nat)  : Met l yX1_month wsX1_month ({ frames := 0, cells := 0, slots := 0, locals := 0 }) (va_Pc [.ref (ax 0)] (jR (dC, dI) (jTY cI cJ cZ cO) [jXo ax n mo])) (vp_Si (fun r => r = nI mo)) 0 0 (fun _ => False) := by
  refine j_of (cc := cX1_month) (maxL := 1) (ret := (some .int)) (by decide) rfl (Nat.le_of_ble_eq_true rfl) ?_
  intro p e s m below meth c ls hx hb hr hml hts hown hlocks hnm hl hpre
  have hown : s.vm.findClass RX1 = some m.cls := hown
  have hl : lv_has ls 1 [(0, .ref (ax 0))] := hl
  obtain ⟨hP, hK⟩ := hpre
  refine lv_aload_n hx hb dX1_month_0 rfl (lv_at hl 0 rfl) ?_
  refine va_get (D := (dC, dI)) (ci := 1) (v := .int (nI mo)) (C := RX1) (T := TX1) (N := 4) hx hb hts (fun _ h => List.mem_cons_of_mem _ (List.mem_append_right _ h)) hown hK hP 0 rfl rfl 3 (by decide) (hts (.fieldLink RX1 23 "JointAnnuity" "monthThatGoesOn" "I") (List.mem_of_getElem? (i := 1) rfl)) (fun _ h9 => h9) rfl dX1_month_1 ?_
  exact W.iret (v := nI mo) hx hb hr (fun t ht hW => ⟨_, rfl, rfl, ht⟩) (fun _ h => by cases h) dX1_month_4
set_option maxHeartbeats 4000000 in
set_option maxRecDepth 100000 in
/-- the survivor is set -/
theorem c_X1_setSurvivor (l : Launch) (dC : Nat → ClassId) (dI : Nat → Nat → Nat) (cI cJ cZ cO : ClassId) (ax : Nat → Nat) (ao : Nat → Option Nat) (n mo : Nat) (iv : Nat → Int32) (aa an : Nat → Nat) (kp : Int64) (py : Nat → Int64) (k : Nat) (v w : Nat) (hv : jV an) (hm : mo ≤ 240) (hk : k < 20) (hao : ao k = some (aa 0)) (h1 : v ≤ 100) (h2 : w ≤ 1) (hs : ¬ an 0 < mo) : Met l yX1_setSurvivor wsX1_setSurvivor ({ frames := 1, cells := 0, slots := 0, locals := 22 }) (va_Pc [.ref (ax 0), .int (nI k), .int (nI v), .int (nI w)] (jW (dC, dI) (jTY cI cJ cZ cO) (jFW cI cJ cO ax ao n mo iv aa an kp py))) (va_Qv (fun _ : Unit => True) (fun _ t => va_P (dC, dI) vwCl (jFW cI cJ cO ax ao n mo iv aa (upN (upN an 3 v) 4 w) kp py) t.heap) (jA (jFW cI cJ cO ax ao n mo iv aa an kp py))) 0 0 (jA (jFW cI cJ cO ax ao n mo iv aa an kp py)) := by
  refine j_of (cc := cX1_setSurvivor) (maxL := 5) (ret := none) (by decide) rfl (Nat.le_of_ble_eq_true rfl) ?_
  intro p e s m below meth c ls hx hb hr hml hts hown hlocks hnm hl hpre
  have hown : s.vm.findClass RX1 = some m.cls := hown
  have hl : lv_has ls 5 [(0, .ref (ax 0)), (1, .int (nI k)), (2, .int (nI v)), (3, .int (nI w))] := hl
  obtain ⟨v0, v1, v2, v3, v4, v5, v6, v7, v8, v9⟩ := id hv
  obtain ⟨hP, hK, hD0⟩ := hpre
  have hD := hD0.jA
  generalize hAe : jA (jFW cI cJ cO ax ao n mo iv aa an kp py) = A at hD ⊢
  have hS : va_S A s.heap s.heap [] := va_S.rf
  refine lv_aload_n hx hb dX1_setSurvivor_0 rfl (lv_at hl 0 rfl) ?_
  refine lv_iload_n hx hb dX1_setSurvivor_1 rfl (lv_at hl 1 rfl) ?_
  refine j_cR_ (As := [.int (nI k)]) (rest := []) ⟨hx, hb, hml, hown, hts⟩ (c_X1_find l dC dI cI cJ cZ cO ax ao n mo k (aa 0) hk hao) (cwV 1 hts gX1_setSurvivor_X1_find rfl rfl rfl (by decide +kernel) ⟨Nat.le_of_ble_eq_true rfl, Nat.le_of_ble_eq_true rfl⟩) (jR_V hK hP [0, 1] rfl (ci := 1) (q0 := 0) rfl rfl rfl) rfl hl rfl (Nat.le_of_ble_eq_true rfl) dX1_setSurvivor_2 ⟨Nat.le_of_ble_eq_true rfl, Nat.le_of_ble_eq_true rfl⟩ ?_
  refine lv_astore (lv' := [(4, .ref (aa 0)), (0, .ref (ax 0)), (1, .int (nI k)), (2, .int (nI v)), (3, .int (nI w))]) hx hb dX1_setSurvivor_5 hl (by decide) rfl (fun ls hl => ?_)
  refine lv_iload_n hx hb dX1_setSurvivor_7 rfl (lv_at hl 3 rfl) ?_
  refine lv_iconst (v := nI 0) hx hb dX1_setSurvivor_8 (by decide) ?_
  refine lv_bipush (v := nI 100) hx hb dX1_setSurvivor_9 (by decide) ?_
  refine j_sV (As := [.int (nI v), .int (nI 0), .int (nI 100)]) (rest := []) ⟨hx, hb, hml, hown, hts⟩ (c_X1_requireRange l dC dI (nI v) (nI 0) (nI 100) (nI_nlt (by omega) (by omega)) (nI_nlt (by omega) (by omega))) (cwS 3 hts gX1_setSurvivor_X1_requireRange rfl rfl rfl (by decide +kernel) ⟨Nat.le_of_ble_eq_true rfl, Nat.le_of_ble_eq_true rfl⟩) rfl hl rfl (Nat.le_of_ble_eq_true rfl) dX1_setSurvivor_11 ⟨Nat.le_of_ble_eq_true rfl, Nat.le_of_ble_eq_true rfl⟩ ?_
  refine lv_aload_n hx hb dX1_setSurvivor_14 rfl (lv_at hl 1 rfl) ?_
  refine lv_aload hx hb dX1_setSurvivor_15 (lv_at hl 0 rfl) ?_
  refine j_cV_ (As := [.ref (aa 0)]) (rest := []) ⟨hx, hb, hml, hown, hts⟩ (c_X1_requireStartNotRun l dC dI cI cJ cZ cO ax n mo aa an kp v0 hm hs) (cwV 1 hts gX1_setSurvivor_X1_requireStartNotRun rfl rfl rfl (by decide +kernel) ⟨Nat.le_of_ble_eq_true rfl, Nat.le_of_ble_eq_true rfl⟩) (jR_V hK hP [0, 3] rfl (ci := 1) (q0 := 0) rfl rfl rfl) rfl hl rfl (Nat.le_of_ble_eq_true rfl) dX1_setSurvivor_17 ⟨Nat.le_of_ble_eq_true rfl, Nat.le_of_ble_eq_true rfl⟩ ?_
  refine lv_aload hx hb dX1_setSurvivor_20 (lv_at hl 0 rfl) ?_
  refine lv_iload_n hx hb dX1_setSurvivor_22 rfl (lv_at hl 3 rfl) ?_
  refine va_put (D := (dC, dI)) (ci := 0) (v := .int (nI v)) (ty := .int) (C := RX0) (T := TX0) (N := 13) hx hb hts (fun _ h => List.mem_cons_of_mem _ (List.mem_append_left _ (List.mem_append_left _ (List.mem_append_left _ (List.mem_append_left _ (List.mem_append_right _ h)))))) tyX0 tyX0_ok nmX0 hown hK hP hD hS 3 rfl rfl 3 (by decide) (hts (.fieldLink RX1 52 "JointAnnuity$Annuity" "survivorPercent" "I") (List.mem_of_getElem? (i := 1) rfl)) (fun _ h9 => h9) rfl (by decide +kernel) rfl rfl (Nat.le_of_ble_eq_true rfl) dX1_setSurvivor_23 (fun H locs hP hD hS => ?_)
  have hP : va_P (dC, dI) vwCl [((ax 0), .inr (1, [.ref (ax 1), .ref (ax 2), .int (nI n), .int (nI mo)])), ((ax 1), .inl (cO, 20, .inr (.inr (.inr (.inr (ao)))))), ((ax 2), .inl (cI, 20, .inl (iv))), ((aa 0), .inr (0, [.int (nI (an 0)), .int (nI (an 1)), .int (nI (an 0 + an 2)), .int (nI v), .int (nI (an 4)), .int (nI (an 5)), .int (nI (an 6)), .int (nI (an 7)), .ref (aa 1), .ref (aa 2), .ref (aa 3), .ref (aa 4), .long (kp)])), ((aa 1), .inl (cI, 2, .inl (fun j => nI (if j = 0 then an 8 else an 9)))), ((aa 2), .inl (cI, 20, .inl (fun j => nI (jF an iv j)))), ((aa 3), .inl (cI, 20, .inl (fun j => jC an iv j))), ((aa 4), .inl (cJ, 240, .inr (.inl (py))))] H := hP
  have hD : va_D A [((ax 0), .inr (1, [.ref (ax 1), .ref (ax 2), .int (nI n), .int (nI mo)])), ((ax 1), .inl (cO, 20, .inr (.inr (.inr (.inr (ao)))))), ((ax 2), .inl (cI, 20, .inl (iv))), ((aa 0), .inr (0, [.int (nI (an 0)), .int (nI (an 1)), .int (nI (an 0 + an 2)), .int (nI v), .int (nI (an 4)), .int (nI (an 5)), .int (nI (an 6)), .int (nI (an 7)), .ref (aa 1), .ref (aa 2), .ref (aa 3), .ref (aa 4), .long (kp)])), ((aa 1), .inl (cI, 2, .inl (fun j => nI (if j = 0 then an 8 else an 9)))), ((aa 2), .inl (cI, 20, .inl (fun j => nI (jF an iv j)))), ((aa 3), .inl (cI, 20, .inl (fun j => jC an iv j))), ((aa 4), .inl (cJ, 240, .inr (.inl (py))))] := hD
  refine lv_aload hx hb dX1_setSurvivor_26 (lv_at hl 0 rfl) ?_
  refine lv_iload_n hx hb dX1_setSurvivor_28 rfl (lv_at hl 4 rfl) ?_
  refine va_put (D := (dC, dI)) (ci := 0) (v := .int (nI w)) (ty := .boolean) (C := RX0) (T := TX0) (N := 13) hx hb hts (fun _ h => List.mem_cons_of_mem _ (List.mem_append_left _ (List.mem_append_left _ (List.mem_append_left _ (List.mem_append_left _ (List.mem_append_right _ h)))))) tyX0 tyX0_ok nmX0 hown hK hP hD hS 3 rfl rfl 4 (by decide) (hts (.fieldLink RX1 55 "JointAnnuity$Annuity" "stepsOnFirst" "Z") (List.mem_of_getElem? (i := 2) rfl)) (fun _ h9 => h9) rfl (by decide +kernel) (jzn h2).1 (jzn h2).2 (Nat.le_of_ble_eq_true rfl) dX1_setSurvivor_29 (fun H locs hP hD hS => ?_)
  have hP : va_P (dC, dI) vwCl [((ax 0), .inr (1, [.ref (ax 1), .ref (ax 2), .int (nI n), .int (nI mo)])), ((ax 1), .inl (cO, 20, .inr (.inr (.inr (.inr (ao)))))), ((ax 2), .inl (cI, 20, .inl (iv))), ((aa 0), .inr (0, [.int (nI (an 0)), .int (nI (an 1)), .int (nI (an 0 + an 2)), .int (nI v), .int (nI w), .int (nI (an 5)), .int (nI (an 6)), .int (nI (an 7)), .ref (aa 1), .ref (aa 2), .ref (aa 3), .ref (aa 4), .long (kp)])), ((aa 1), .inl (cI, 2, .inl (fun j => nI (if j = 0 then an 8 else an 9)))), ((aa 2), .inl (cI, 20, .inl (fun j => nI (jF an iv j)))), ((aa 3), .inl (cI, 20, .inl (fun j => jC an iv j))), ((aa 4), .inl (cJ, 240, .inr (.inl (py))))] H := hP
  have hD : va_D A [((ax 0), .inr (1, [.ref (ax 1), .ref (ax 2), .int (nI n), .int (nI mo)])), ((ax 1), .inl (cO, 20, .inr (.inr (.inr (.inr (ao)))))), ((ax 2), .inl (cI, 20, .inl (iv))), ((aa 0), .inr (0, [.int (nI (an 0)), .int (nI (an 1)), .int (nI (an 0 + an 2)), .int (nI v), .int (nI w), .int (nI (an 5)), .int (nI (an 6)), .int (nI (an 7)), .ref (aa 1), .ref (aa 2), .ref (aa 3), .ref (aa 4), .long (kp)])), ((aa 1), .inl (cI, 2, .inl (fun j => nI (if j = 0 then an 8 else an 9)))), ((aa 2), .inl (cI, 20, .inl (fun j => nI (jF an iv j)))), ((aa 3), .inl (cI, 20, .inl (fun j => jC an iv j))), ((aa 4), .inl (cJ, 240, .inr (.inl (py))))] := hD
  have hP : va_P (dC, dI) vwCl (jFW cI cJ cO ax ao n mo iv aa (upN (upN an 3 v) 4 w) kp py) H := hP
  exact W.vret hx hb hr (fun t ht hW => ⟨⟨(), rfl, trivial, j_h ht hP⟩, hS.F ht⟩) hS.2.2 dX1_setSurvivor_32
set_option maxHeartbeats 4000000 in
set_option maxRecDepth 100000 in
/-- the cap is set -/
theorem c_X1_setCap (l : Launch) (dC : Nat → ClassId) (dI : Nat → Nat → Nat) (cI cJ cZ cO : ClassId) (ax : Nat → Nat) (ao : Nat → Option Nat) (n mo : Nat) (iv : Nat → Int32) (aa an : Nat → Nat) (kp : Int64) (py : Nat → Int64) (k : Nat) (v : Nat) (hv : jV an) (hm : mo ≤ 240) (hk : k < 20) (hao : ao k = some (aa 0)) (h1 : v ≤ 200) (hs : ¬ an 0 < mo) : Met l yX1_setCap wsX1_setCap ({ frames := 2, cells := 0, slots := 0, locals := 41 }) (va_Pc [.ref (ax 0), .int (nI k), .int (nI v)] (jW (dC, dI) (jTY cI cJ cZ cO) (jFW cI cJ cO ax ao n mo iv aa an kp py))) (va_Qv (fun _ : Unit => True) (fun _ t => va_P (dC, dI) vwCl (jFW cI cJ cO ax ao n mo iv aa (upN an 5 v) kp py) t.heap) (jA (jFW cI cJ cO ax ao n mo iv aa an kp py))) 0 0 (jA (jFW cI cJ cO ax ao n mo iv aa an kp py)) := by
  refine j_of (cc := cX1_setCap) (maxL := 4) (ret := none) (by decide) rfl (Nat.le_of_ble_eq_true rfl) ?_
  intro p e s m below meth c ls hx hb hr hml hts hown hlocks hnm hl hpre
  have hown : s.vm.findClass RX1 = some m.cls := hown
  have hl : lv_has ls 4 [(0, .ref (ax 0)), (1, .int (nI k)), (2, .int (nI v))] := hl
  obtain ⟨v0, v1, v2, v3, v4, v5, v6, v7, v8, v9⟩ := id hv
  obtain ⟨hP, hK, hD0⟩ := hpre
  have hD := hD0.jA
  generalize hAe : jA (jFW cI cJ cO ax ao n mo iv aa an kp py) = A at hD ⊢
  have hS : va_S A s.heap s.heap [] := va_S.rf
  refine lv_aload_n hx hb dX1_setCap_0 rfl (lv_at hl 0 rfl) ?_
  refine lv_iload_n hx hb dX1_setCap_1 rfl (lv_at hl 1 rfl) ?_
  refine j_cR_ (As := [.int (nI k)]) (rest := []) ⟨hx, hb, hml, hown, hts⟩ (c_X1_find l dC dI cI cJ cZ cO ax ao n mo k (aa 0) hk hao) (cwV 1 hts gX1_setCap_X1_find rfl rfl rfl (by decide +kernel) ⟨Nat.le_of_ble_eq_true rfl, Nat.le_of_ble_eq_true rfl⟩) (jR_V hK hP [0, 1] rfl (ci := 1) (q0 := 0) rfl rfl rfl) rfl hl rfl (Nat.le_of_ble_eq_true rfl) dX1_setCap_2 ⟨Nat.le_of_ble_eq_true rfl, Nat.le_of_ble_eq_true rfl⟩ ?_
  refine lv_astore_n (lv' := [(3, .ref (aa 0)), (0, .ref (ax 0)), (1, .int (nI k)), (2, .int (nI v))]) hx hb dX1_setCap_5 rfl hl (by decide) rfl (fun ls hl => ?_)
  refine lv_iload_n hx hb dX1_setCap_6 rfl (lv_at hl 3 rfl) ?_
  refine lv_iconst (v := nI 0) hx hb dX1_setCap_7 (by decide) ?_
  refine lv_sipush (v := nI 200) hx hb dX1_setCap_8 (by decide) ?_
  refine j_sV (As := [.int (nI v), .int (nI 0), .int (nI 200)]) (rest := []) ⟨hx, hb, hml, hown, hts⟩ (c_X1_requireRange l dC dI (nI v) (nI 0) (nI 200) (nI_nlt (by omega) (by omega)) (nI_nlt (by omega) (by omega))) (cwS 3 hts gX1_setCap_X1_requireRange rfl rfl rfl (by decide +kernel) ⟨Nat.le_of_ble_eq_true rfl, Nat.le_of_ble_eq_true rfl⟩) rfl hl rfl (Nat.le_of_ble_eq_true rfl) dX1_setCap_11 ⟨Nat.le_of_ble_eq_true rfl, Nat.le_of_ble_eq_true rfl⟩ ?_
  refine lv_aload_n hx hb dX1_setCap_14 rfl (lv_at hl 1 rfl) ?_
  refine lv_aload_n hx hb dX1_setCap_15 rfl (lv_at hl 0 rfl) ?_
  refine j_cV_ (As := [.ref (aa 0)]) (rest := []) ⟨hx, hb, hml, hown, hts⟩ (c_X1_requireStartNotRun l dC dI cI cJ cZ cO ax n mo aa an kp v0 hm hs) (cwV 1 hts gX1_setCap_X1_requireStartNotRun rfl rfl rfl (by decide +kernel) ⟨Nat.le_of_ble_eq_true rfl, Nat.le_of_ble_eq_true rfl⟩) (jR_V hK hP [0, 3] rfl (ci := 1) (q0 := 0) rfl rfl rfl) rfl hl rfl (Nat.le_of_ble_eq_true rfl) dX1_setCap_16 ⟨Nat.le_of_ble_eq_true rfl, Nat.le_of_ble_eq_true rfl⟩ ?_
  refine lv_aload_n hx hb dX1_setCap_19 rfl (lv_at hl 0 rfl) ?_
  refine lv_iload_n hx hb dX1_setCap_20 rfl (lv_at hl 3 rfl) ?_
  refine va_put (D := (dC, dI)) (ci := 0) (v := .int (nI v)) (ty := .int) (C := RX0) (T := TX0) (N := 13) hx hb hts (fun _ h => List.mem_cons_of_mem _ (List.mem_append_left _ (List.mem_append_left _ (List.mem_append_left _ (List.mem_append_left _ (List.mem_append_right _ h)))))) tyX0 tyX0_ok nmX0 hown hK hP hD hS 3 rfl rfl 5 (by decide) (hts (.fieldLink RX1 59 "JointAnnuity$Annuity" "cap" "I") (List.mem_of_getElem? (i := 1) rfl)) (fun _ h9 => h9) rfl (by decide +kernel) rfl rfl (Nat.le_of_ble_eq_true rfl) dX1_setCap_21 (fun H locs hP hD hS => ?_)
  have hP : va_P (dC, dI) vwCl [((ax 0), .inr (1, [.ref (ax 1), .ref (ax 2), .int (nI n), .int (nI mo)])), ((ax 1), .inl (cO, 20, .inr (.inr (.inr (.inr (ao)))))), ((ax 2), .inl (cI, 20, .inl (iv))), ((aa 0), .inr (0, [.int (nI (an 0)), .int (nI (an 1)), .int (nI (an 0 + an 2)), .int (nI (an 3)), .int (nI (an 4)), .int (nI v), .int (nI (an 6)), .int (nI (an 7)), .ref (aa 1), .ref (aa 2), .ref (aa 3), .ref (aa 4), .long (kp)])), ((aa 1), .inl (cI, 2, .inl (fun j => nI (if j = 0 then an 8 else an 9)))), ((aa 2), .inl (cI, 20, .inl (fun j => nI (jF an iv j)))), ((aa 3), .inl (cI, 20, .inl (fun j => jC an iv j))), ((aa 4), .inl (cJ, 240, .inr (.inl (py))))] H := hP
  have hD : va_D A [((ax 0), .inr (1, [.ref (ax 1), .ref (ax 2), .int (nI n), .int (nI mo)])), ((ax 1), .inl (cO, 20, .inr (.inr (.inr (.inr (ao)))))), ((ax 2), .inl (cI, 20, .inl (iv))), ((aa 0), .inr (0, [.int (nI (an 0)), .int (nI (an 1)), .int (nI (an 0 + an 2)), .int (nI (an 3)), .int (nI (an 4)), .int (nI v), .int (nI (an 6)), .int (nI (an 7)), .ref (aa 1), .ref (aa 2), .ref (aa 3), .ref (aa 4), .long (kp)])), ((aa 1), .inl (cI, 2, .inl (fun j => nI (if j = 0 then an 8 else an 9)))), ((aa 2), .inl (cI, 20, .inl (fun j => nI (jF an iv j)))), ((aa 3), .inl (cI, 20, .inl (fun j => jC an iv j))), ((aa 4), .inl (cJ, 240, .inr (.inl (py))))] := hD
  refine lv_aload_n hx hb dX1_setCap_24 rfl (lv_at hl 0 rfl) ?_
  refine lv_aload_n hx hb dX1_setCap_25 rfl (lv_at hl 1 rfl) ?_
  refine va_get (D := (dC, dI)) (ci := 1) (v := .ref (ax 2)) (C := RX1) (T := TX1) (N := 4) hx hb hts (fun _ h => List.mem_cons_of_mem _ (List.mem_append_left _ (List.mem_append_left _ (List.mem_append_left _ (List.mem_append_right _ h))))) hown hK hP 0 rfl rfl 1 (by decide) (hts (.fieldLink RX1 15 "JointAnnuity" "inflation" "[I") (List.mem_of_getElem? (i := 2) rfl)) (fun _ h9 => h9) rfl dX1_setCap_26 ?_
  have hP : va_P (dC, dI) vwCl [((ax 0), .inr (1, [.ref (ax 1), .ref (ax 2), .int (nI n), .int (nI mo)])), ((ax 1), .inl (cO, 20, .inr (.inr (.inr (.inr (ao)))))), ((ax 2), .inl (cI, 20, .inl (iv))), ((aa 0), .inr (0, [.int (nI ((upN an 5 v) 0)), .int (nI ((upN an 5 v) 1)), .int (nI ((upN an 5 v) 0 + (upN an 5 v) 2)), .int (nI ((upN an 5 v) 3)), .int (nI ((upN an 5 v) 4)), .int (nI ((upN an 5 v) 5)), .int (nI ((upN an 5 v) 6)), .int (nI ((upN an 5 v) 7)), .ref (aa 1), .ref (aa 2), .ref (aa 3), .ref (aa 4), .long (kp)])), ((aa 1), .inl (cI, 2, .inl (fun j => nI (if j = 0 then (upN an 5 v) 8 else (upN an 5 v) 9)))), ((aa 2), .inl (cI, 20, .inl (fun j => nI (jF an iv j)))), ((aa 3), .inl (cI, 20, .inl (fun j => jC an iv j))), ((aa 4), .inl (cJ, 240, .inr (.inl (py))))] H := hP
  have hD : va_D A [((ax 0), .inr (1, [.ref (ax 1), .ref (ax 2), .int (nI n), .int (nI mo)])), ((ax 1), .inl (cO, 20, .inr (.inr (.inr (.inr (ao)))))), ((ax 2), .inl (cI, 20, .inl (iv))), ((aa 0), .inr (0, [.int (nI ((upN an 5 v) 0)), .int (nI ((upN an 5 v) 1)), .int (nI ((upN an 5 v) 0 + (upN an 5 v) 2)), .int (nI ((upN an 5 v) 3)), .int (nI ((upN an 5 v) 4)), .int (nI ((upN an 5 v) 5)), .int (nI ((upN an 5 v) 6)), .int (nI ((upN an 5 v) 7)), .ref (aa 1), .ref (aa 2), .ref (aa 3), .ref (aa 4), .long (kp)])), ((aa 1), .inl (cI, 2, .inl (fun j => nI (if j = 0 then (upN an 5 v) 8 else (upN an 5 v) 9)))), ((aa 2), .inl (cI, 20, .inl (fun j => nI (jF an iv j)))), ((aa 3), .inl (cI, 20, .inl (fun j => jC an iv j))), ((aa 4), .inl (cJ, 240, .inr (.inl (py))))] := hD
  refine j_wV (As := [.ref (ax 2)]) (rest := []) ⟨hx, hb, hml, hown, hts⟩ (c_X0_growBy l dC dI cI cJ cZ cO aa (upN an 5 v) iv kp (ax 2) (fun j => nI (jF an iv j)) (fun j => jC an iv j) (jV5 hv h1)) (cwV 1 hts gX1_setCap_X0_growBy rfl rfl rfl (by decide +kernel) ⟨Nat.le_of_ble_eq_true rfl, Nat.le_of_ble_eq_true rfl⟩) (jW_V hK hP hD [3, 5, 6, 2] (by decide) rfl (ci := 0) (q0 := 3) rfl rfl rfl) rfl hl rfl (Nat.le_of_ble_eq_true rfl) dX1_setCap_29 ⟨Nat.le_of_ble_eq_true rfl, Nat.le_of_ble_eq_true rfl⟩ hP hD hS [3, 5, 6, 2] [0, 1, 4, 7] rfl (fun _ : Unit => [((ax 0), .inr (1, [.ref (ax 1), .ref (ax 2), .int (nI n), .int (nI mo)])), ((ax 1), .inl (cO, 20, .inr (.inr (.inr (.inr (ao)))))), ((ax 2), .inl (cI, 20, .inl (iv))), ((aa 0), .inr (0, [.int (nI ((upN an 5 v) 0)), .int (nI ((upN an 5 v) 1)), .int (nI ((upN an 5 v) 0 + (upN an 5 v) 2)), .int (nI ((upN an 5 v) 3)), .int (nI ((upN an 5 v) 4)), .int (nI ((upN an 5 v) 5)), .int (nI ((upN an 5 v) 6)), .int (nI ((upN an 5 v) 7)), .ref (aa 1), .ref (aa 2), .ref (aa 3), .ref (aa 4), .long (kp)])), ((aa 1), .inl (cI, 2, .inl (fun j => nI (if j = 0 then (upN an 5 v) 8 else (upN an 5 v) 9)))), ((aa 2), .inl (cI, 20, .inl (fun j => nI (jF (upN an 5 v) iv j)))), ((aa 3), .inl (cI, 20, .inl (fun j => jC (upN an 5 v) iv j))), ((aa 4), .inl (cJ, 240, .inr (.inl (py))))]) (fun _ => rfl) [(ax 0), (ax 1), (ax 2), (aa 0), (aa 1), (aa 2), (aa 3), (aa 4)] rfl (fun _ => rfl) [((ax 0), .inr (1, [.ref (ax 1), .ref (ax 2), .int (nI n), .int (nI mo)])), ((ax 1), .inl (cO, 20, .inr (.inr (.inr (.inr (ao)))))), ((aa 1), .inl (cI, 2, .inl (fun j => nI (if j = 0 then (upN an 5 v) 8 else (upN an 5 v) 9)))), ((aa 4), .inl (cJ, 240, .inr (.inl (py))))] rfl (fun _ => rfl) (fun _ i hi => j_cov _ _ 8 (by decide) i hi) (fun _ H locs hr_29 hP hD hS => ?_)
  have hP : va_P (dC, dI) vwCl [((ax 0), .inr (1, [.ref (ax 1), .ref (ax 2), .int (nI n), .int (nI mo)])), ((ax 1), .inl (cO, 20, .inr (.inr (.inr (.inr (ao)))))), ((ax 2), .inl (cI, 20, .inl (iv))), ((aa 0), .inr (0, [.int (nI ((upN an 5 v) 0)), .int (nI ((upN an 5 v) 1)), .int (nI ((upN an 5 v) 0 + (upN an 5 v) 2)), .int (nI ((upN an 5 v) 3)), .int (nI ((upN an 5 v) 4)), .int (nI ((upN an 5 v) 5)), .int (nI ((upN an 5 v) 6)), .int (nI ((upN an 5 v) 7)), .ref (aa 1), .ref (aa 2), .ref (aa 3), .ref (aa 4), .long (kp)])), ((aa 1), .inl (cI, 2, .inl (fun j => nI (if j = 0 then (upN an 5 v) 8 else (upN an 5 v) 9)))), ((aa 2), .inl (cI, 20, .inl (fun j => nI (jF (upN an 5 v) iv j)))), ((aa 3), .inl (cI, 20, .inl (fun j => jC (upN an 5 v) iv j))), ((aa 4), .inl (cJ, 240, .inr (.inl (py))))] H := hP
  have hD : va_D A [((ax 0), .inr (1, [.ref (ax 1), .ref (ax 2), .int (nI n), .int (nI mo)])), ((ax 1), .inl (cO, 20, .inr (.inr (.inr (.inr (ao)))))), ((ax 2), .inl (cI, 20, .inl (iv))), ((aa 0), .inr (0, [.int (nI ((upN an 5 v) 0)), .int (nI ((upN an 5 v) 1)), .int (nI ((upN an 5 v) 0 + (upN an 5 v) 2)), .int (nI ((upN an 5 v) 3)), .int (nI ((upN an 5 v) 4)), .int (nI ((upN an 5 v) 5)), .int (nI ((upN an 5 v) 6)), .int (nI ((upN an 5 v) 7)), .ref (aa 1), .ref (aa 2), .ref (aa 3), .ref (aa 4), .long (kp)])), ((aa 1), .inl (cI, 2, .inl (fun j => nI (if j = 0 then (upN an 5 v) 8 else (upN an 5 v) 9)))), ((aa 2), .inl (cI, 20, .inl (fun j => nI (jF (upN an 5 v) iv j)))), ((aa 3), .inl (cI, 20, .inl (fun j => jC (upN an 5 v) iv j))), ((aa 4), .inl (cJ, 240, .inr (.inl (py))))] := hD
  have hP : va_P (dC, dI) vwCl (jFW cI cJ cO ax ao n mo iv aa (upN an 5 v) kp py) H := hP
  exact W.vret hx hb hr (fun t ht hW => ⟨⟨(), rfl, trivial, j_h ht hP⟩, hS.F ht⟩) hS.2.2 dX1_setCap_32
set_option maxHeartbeats 4000000 in
set_option maxRecDepth 100000 in
/-- price and percent are set -/
theorem c_X1_protect (l : Launch) (dC : Nat → ClassId) (dI : Nat → Nat → Nat) (cI cJ cZ cO : ClassId) (ax : Nat → Nat) (ao : Nat → Option Nat) (n mo : Nat) (iv : Nat → Int32) (aa an : Nat → Nat) (kp : Int64) (py : Nat → Int64) (k : Nat) (v w : Nat) (hv : jV an) (hm : mo ≤ 240) (hk : k < 20) (hao : ao k = some (aa 0)) (h1 : v ≤ 10000000) (h2 : w ≤ 100) (hs : ¬ an 0 < mo) : Met l yX1_protect wsX1_protect ({ frames := 1, cells := 0, slots := 0, locals := 22 }) (va_Pc [.ref (ax 0), .int (nI k), .int (nI v), .int (nI w)] (jW (dC, dI) (jTY cI cJ cZ cO) (jFW cI cJ cO ax ao n mo iv aa an kp py))) (va_Qv (fun _ : Unit => True) (fun _ t => va_P (dC, dI) vwCl (jFW cI cJ cO ax ao n mo iv aa (upN (upN an 6 v) 7 w) kp py) t.heap) (jA (jFW cI cJ cO ax ao n mo iv aa an kp py))) 0 0 (jA (jFW cI cJ cO ax ao n mo iv aa an kp py)) := by
  refine j_of (cc := cX1_protect) (maxL := 5) (ret := none) (by decide) rfl (Nat.le_of_ble_eq_true rfl) ?_
  intro p e s m below meth c ls hx hb hr hml hts hown hlocks hnm hl hpre
  have hown : s.vm.findClass RX1 = some m.cls := hown
  have hl : lv_has ls 5 [(0, .ref (ax 0)), (1, .int (nI k)), (2, .int (nI v)), (3, .int (nI w))] := hl
  obtain ⟨v0, v1, v2, v3, v4, v5, v6, v7, v8, v9⟩ := id hv
  obtain ⟨hP, hK, hD0⟩ := hpre
  have hD := hD0.jA
  generalize hAe : jA (jFW cI cJ cO ax ao n mo iv aa an kp py) = A at hD ⊢
  have hS : va_S A s.heap s.heap [] := va_S.rf
  refine lv_aload_n hx hb dX1_protect_0 rfl (lv_at hl 0 rfl) ?_
  refine lv_iload_n hx hb dX1_protect_1 rfl (lv_at hl 1 rfl) ?_
  refine j_cR_ (As := [.int (nI k)]) (rest := []) ⟨hx, hb, hml, hown, hts⟩ (c_X1_find l dC dI cI cJ cZ cO ax ao n mo k (aa 0) hk hao) (cwV 1 hts gX1_protect_X1_find rfl rfl rfl (by decide +kernel) ⟨Nat.le_of_ble_eq_true rfl, Nat.le_of_ble_eq_true rfl⟩) (jR_V hK hP [0, 1] rfl (ci := 1) (q0 := 0) rfl rfl rfl) rfl hl rfl (Nat.le_of_ble_eq_true rfl) dX1_protect_2 ⟨Nat.le_of_ble_eq_true rfl, Nat.le_of_ble_eq_true rfl⟩ ?_
  refine lv_astore (lv' := [(4, .ref (aa 0)), (0, .ref (ax 0)), (1, .int (nI k)), (2, .int (nI v)), (3, .int (nI w))]) hx hb dX1_protect_5 hl (by decide) rfl (fun ls hl => ?_)
  refine lv_iload_n hx hb dX1_protect_7 rfl (lv_at hl 3 rfl) ?_
  refine lv_iconst (v := nI 0) hx hb dX1_protect_8 (by decide) ?_
  refine lv_ldc hx hb hown (hts (.constant RX1 62 (10000000)) (List.mem_of_getElem? (i := 1) rfl)) dX1_protect_9 ?_
  refine j_i (y := nI 10000000) (by decide +kernel) ?_
  refine j_sV (As := [.int (nI v), .int (nI 0), .int (nI 10000000)]) (rest := []) ⟨hx, hb, hml, hown, hts⟩ (c_X1_requireRange l dC dI (nI v) (nI 0) (nI 10000000) (nI_nlt (by omega) (by omega)) (nI_nlt (by omega) (by omega))) (cwS 3 hts gX1_protect_X1_requireRange rfl rfl rfl (by decide +kernel) ⟨Nat.le_of_ble_eq_true rfl, Nat.le_of_ble_eq_true rfl⟩) rfl hl rfl (Nat.le_of_ble_eq_true rfl) dX1_protect_11 ⟨Nat.le_of_ble_eq_true rfl, Nat.le_of_ble_eq_true rfl⟩ ?_
  refine lv_iload_n hx hb dX1_protect_14 rfl (lv_at hl 4 rfl) ?_
  refine lv_iconst (v := nI 0) hx hb dX1_protect_15 (by decide) ?_
  refine lv_bipush (v := nI 100) hx hb dX1_protect_16 (by decide) ?_
  refine j_sV (As := [.int (nI w), .int (nI 0), .int (nI 100)]) (rest := []) ⟨hx, hb, hml, hown, hts⟩ (c_X1_requireRange l dC dI (nI w) (nI 0) (nI 100) (nI_nlt (by omega) (by omega)) (nI_nlt (by omega) (by omega))) (cwS 3 hts gX1_protect_X1_requireRange rfl rfl rfl (by decide +kernel) ⟨Nat.le_of_ble_eq_true rfl, Nat.le_of_ble_eq_true rfl⟩) rfl hl rfl (Nat.le_of_ble_eq_true rfl) dX1_protect_18 ⟨Nat.le_of_ble_eq_true rfl, Nat.le_of_ble_eq_true rfl⟩ ?_
  refine lv_aload_n hx hb dX1_protect_21 rfl (lv_at hl 1 rfl) ?_
  refine lv_aload hx hb dX1_protect_22 (lv_at hl 0 rfl) ?_
  refine j_cV_ (As := [.ref (aa 0)]) (rest := []) ⟨hx, hb, hml, hown, hts⟩ (c_X1_requireStartNotRun l dC dI cI cJ cZ cO ax n mo aa an kp v0 hm hs) (cwV 1 hts gX1_protect_X1_requireStartNotRun rfl rfl rfl (by decide +kernel) ⟨Nat.le_of_ble_eq_true rfl, Nat.le_of_ble_eq_true rfl⟩) (jR_V hK hP [0, 3] rfl (ci := 1) (q0 := 0) rfl rfl rfl) rfl hl rfl (Nat.le_of_ble_eq_true rfl) dX1_protect_24 ⟨Nat.le_of_ble_eq_true rfl, Nat.le_of_ble_eq_true rfl⟩ ?_
  refine lv_aload hx hb dX1_protect_27 (lv_at hl 0 rfl) ?_
  refine lv_iload_n hx hb dX1_protect_29 rfl (lv_at hl 3 rfl) ?_
  refine va_put (D := (dC, dI)) (ci := 0) (v := .int (nI v)) (ty := .int) (C := RX0) (T := TX0) (N := 13) hx hb hts (fun _ h => List.mem_cons_of_mem _ (List.mem_append_left _ (List.mem_append_left _ (List.mem_append_left _ (List.mem_append_left _ (List.mem_append_right _ h)))))) tyX0 tyX0_ok nmX0 hown hK hP hD hS 3 rfl rfl 6 (by decide) (hts (.fieldLink RX1 63 "JointAnnuity$Annuity" "price" "I") (List.mem_of_getElem? (i := 2) rfl)) (fun _ h9 => h9) rfl (by decide +kernel) rfl rfl (Nat.le_of_ble_eq_true rfl) dX1_protect_30 (fun H locs hP hD hS => ?_)
  have hP : va_P (dC, dI) vwCl [((ax 0), .inr (1, [.ref (ax 1), .ref (ax 2), .int (nI n), .int (nI mo)])), ((ax 1), .inl (cO, 20, .inr (.inr (.inr (.inr (ao)))))), ((ax 2), .inl (cI, 20, .inl (iv))), ((aa 0), .inr (0, [.int (nI (an 0)), .int (nI (an 1)), .int (nI (an 0 + an 2)), .int (nI (an 3)), .int (nI (an 4)), .int (nI (an 5)), .int (nI v), .int (nI (an 7)), .ref (aa 1), .ref (aa 2), .ref (aa 3), .ref (aa 4), .long (kp)])), ((aa 1), .inl (cI, 2, .inl (fun j => nI (if j = 0 then an 8 else an 9)))), ((aa 2), .inl (cI, 20, .inl (fun j => nI (jF an iv j)))), ((aa 3), .inl (cI, 20, .inl (fun j => jC an iv j))), ((aa 4), .inl (cJ, 240, .inr (.inl (py))))] H := hP
  have hD : va_D A [((ax 0), .inr (1, [.ref (ax 1), .ref (ax 2), .int (nI n), .int (nI mo)])), ((ax 1), .inl (cO, 20, .inr (.inr (.inr (.inr (ao)))))), ((ax 2), .inl (cI, 20, .inl (iv))), ((aa 0), .inr (0, [.int (nI (an 0)), .int (nI (an 1)), .int (nI (an 0 + an 2)), .int (nI (an 3)), .int (nI (an 4)), .int (nI (an 5)), .int (nI v), .int (nI (an 7)), .ref (aa 1), .ref (aa 2), .ref (aa 3), .ref (aa 4), .long (kp)])), ((aa 1), .inl (cI, 2, .inl (fun j => nI (if j = 0 then an 8 else an 9)))), ((aa 2), .inl (cI, 20, .inl (fun j => nI (jF an iv j)))), ((aa 3), .inl (cI, 20, .inl (fun j => jC an iv j))), ((aa 4), .inl (cJ, 240, .inr (.inl (py))))] := hD
  refine lv_aload hx hb dX1_protect_33 (lv_at hl 0 rfl) ?_
  refine lv_iload_n hx hb dX1_protect_35 rfl (lv_at hl 4 rfl) ?_
  refine va_put (D := (dC, dI)) (ci := 0) (v := .int (nI w)) (ty := .int) (C := RX0) (T := TX0) (N := 13) hx hb hts (fun _ h => List.mem_cons_of_mem _ (List.mem_append_left _ (List.mem_append_left _ (List.mem_append_left _ (List.mem_append_left _ (List.mem_append_right _ h)))))) tyX0 tyX0_ok nmX0 hown hK hP hD hS 3 rfl rfl 7 (by decide) (hts (.fieldLink RX1 66 "JointAnnuity$Annuity" "protectedPercent" "I") (List.mem_of_getElem? (i := 3) rfl)) (fun _ h9 => h9) rfl (by decide +kernel) rfl rfl (Nat.le_of_ble_eq_true rfl) dX1_protect_36 (fun H locs hP hD hS => ?_)
  have hP : va_P (dC, dI) vwCl [((ax 0), .inr (1, [.ref (ax 1), .ref (ax 2), .int (nI n), .int (nI mo)])), ((ax 1), .inl (cO, 20, .inr (.inr (.inr (.inr (ao)))))), ((ax 2), .inl (cI, 20, .inl (iv))), ((aa 0), .inr (0, [.int (nI (an 0)), .int (nI (an 1)), .int (nI (an 0 + an 2)), .int (nI (an 3)), .int (nI (an 4)), .int (nI (an 5)), .int (nI v), .int (nI w), .ref (aa 1), .ref (aa 2), .ref (aa 3), .ref (aa 4), .long (kp)])), ((aa 1), .inl (cI, 2, .inl (fun j => nI (if j = 0 then an 8 else an 9)))), ((aa 2), .inl (cI, 20, .inl (fun j => nI (jF an iv j)))), ((aa 3), .inl (cI, 20, .inl (fun j => jC an iv j))), ((aa 4), .inl (cJ, 240, .inr (.inl (py))))] H := hP
  have hD : va_D A [((ax 0), .inr (1, [.ref (ax 1), .ref (ax 2), .int (nI n), .int (nI mo)])), ((ax 1), .inl (cO, 20, .inr (.inr (.inr (.inr (ao)))))), ((ax 2), .inl (cI, 20, .inl (iv))), ((aa 0), .inr (0, [.int (nI (an 0)), .int (nI (an 1)), .int (nI (an 0 + an 2)), .int (nI (an 3)), .int (nI (an 4)), .int (nI (an 5)), .int (nI v), .int (nI w), .ref (aa 1), .ref (aa 2), .ref (aa 3), .ref (aa 4), .long (kp)])), ((aa 1), .inl (cI, 2, .inl (fun j => nI (if j = 0 then an 8 else an 9)))), ((aa 2), .inl (cI, 20, .inl (fun j => nI (jF an iv j)))), ((aa 3), .inl (cI, 20, .inl (fun j => jC an iv j))), ((aa 4), .inl (cJ, 240, .inr (.inl (py))))] := hD
  have hP : va_P (dC, dI) vwCl (jFW cI cJ cO ax ao n mo iv aa (upN (upN an 6 v) 7 w) kp py) H := hP
  exact W.vret hx hb hr (fun t ht hW => ⟨⟨(), rfl, trivial, j_h ht hP⟩, hS.F ht⟩) hS.2.2 dX1_protect_39
set_option maxHeartbeats 4000000 in
set_option maxRecDepth 100000 in
/-- a death is told -/
theorem c_X1_die0 (l : Launch) (dC : Nat → ClassId) (dI : Nat → Nat → Nat) (cI cJ cZ cO : ClassId) (ax : Nat → Nat) (ao : Nat → Option Nat) (n mo : Nat) (iv : Nat → Int32) (aa an : Nat → Nat) (kp : Int64) (py : Nat → Int64) (k : Nat) (v : Nat) (hv : jV an) (hm : mo ≤ 240) (hk : k < 20) (hao : ao k = some (aa 0)) (h1 : v ≤ mo) (h2 : v ≤ 239) (ht9 : an 8 = 240) : Met l yX1_die wsX1_die ({ frames := 1, cells := 0, slots := 0, locals := 22 }) (va_Pc [.ref (ax 0), .int (nI k), .int (nI 0), .int (nI v)] (jW (dC, dI) (jTY cI cJ cZ cO) (jFW cI cJ cO ax ao n mo iv aa an kp py))) (va_Qv (fun _ : Unit => True) (fun _ t => va_P (dC, dI) vwCl (jFW cI cJ cO ax ao n mo iv aa (upN an 8 v) kp py) t.heap) (jA (jFW cI cJ cO ax ao n mo iv aa an kp py))) 0 0 (jA (jFW cI cJ cO ax ao n mo iv aa an kp py)) := by
  refine j_of (cc := cX1_die) (maxL := 5) (ret := none) (by decide) rfl (Nat.le_of_ble_eq_true rfl) ?_
  intro p e s m below meth c ls hx hb hr hml hts hown hlocks hnm hl hpre
  have hown : s.vm.findClass RX1 = some m.cls := hown
  have hl : lv_has ls 5 [(0, .ref (ax 0)), (1, .int (nI k)), (2, .int (nI 0)), (3, .int (nI v))] := hl
  obtain ⟨v0, v1, v2, v3, v4, v5, v6, v7, v8, v9⟩ := id hv
  obtain ⟨hP, hK, hD0⟩ := hpre
  have hD := hD0.jA
  generalize hAe : jA (jFW cI cJ cO ax ao n mo iv aa an kp py) = A at hD ⊢
  have hS : va_S A s.heap s.heap [] := va_S.rf
  refine lv_aload_n hx hb dX1_die_0 rfl (lv_at hl 0 rfl) ?_
  refine lv_iload_n hx hb dX1_die_1 rfl (lv_at hl 1 rfl) ?_
  refine j_cR_ (As := [.int (nI k)]) (rest := []) ⟨hx, hb, hml, hown, hts⟩ (c_X1_find l dC dI cI cJ cZ cO ax ao n mo k (aa 0) hk hao) (cwV 1 hts gX1_die_X1_find rfl rfl rfl (by decide +kernel) ⟨Nat.le_of_ble_eq_true rfl, Nat.le_of_ble_eq_true rfl⟩) (jR_V hK hP [0, 1] rfl (ci := 1) (q0 := 0) rfl rfl rfl) rfl hl rfl (Nat.le_of_ble_eq_true rfl) dX1_die_2 ⟨Nat.le_of_ble_eq_true rfl, Nat.le_of_ble_eq_true rfl⟩ ?_
  refine lv_astore (lv' := [(4, .ref (aa 0)), (0, .ref (ax 0)), (1, .int (nI k)), (2, .int (nI 0)), (3, .int (nI v))]) hx hb dX1_die_5 hl (by decide) rfl (fun ls hl => ?_)
  refine lv_iload_n hx hb dX1_die_7 rfl (lv_at hl 3 rfl) ?_
  refine lv_iconst (v := nI 0) hx hb dX1_die_8 (by decide) ?_
  refine lv_iconst (v := nI 1) hx hb dX1_die_9 (by decide) ?_
  refine j_sV (As := [.int (nI 0), .int (nI 0), .int (nI 1)]) (rest := []) ⟨hx, hb, hml, hown, hts⟩ (c_X1_requireRange l dC dI (nI 0) (nI 0) (nI 1) (nI_nlt (by omega) (by omega)) (nI_nlt (by omega) (by omega))) (cwS 3 hts gX1_die_X1_requireRange rfl rfl rfl (by decide +kernel) ⟨Nat.le_of_ble_eq_true rfl, Nat.le_of_ble_eq_true rfl⟩) rfl hl rfl (Nat.le_of_ble_eq_true rfl) dX1_die_10 ⟨Nat.le_of_ble_eq_true rfl, Nat.le_of_ble_eq_true rfl⟩ ?_
  refine lv_iload_n hx hb dX1_die_13 rfl (lv_at hl 4 rfl) ?_
  refine lv_iconst (v := nI 0) hx hb dX1_die_14 (by decide) ?_
  refine lv_aload_n hx hb dX1_die_15 rfl (lv_at hl 1 rfl) ?_
  refine va_get (D := (dC, dI)) (ci := 1) (v := .int (nI mo)) (C := RX1) (T := TX1) (N := 4) hx hb hts (fun _ h => List.mem_cons_of_mem _ (List.mem_append_left _ (List.mem_append_left _ (List.mem_append_left _ (List.mem_append_left _ (List.mem_append_right _ h)))))) hown hK hP 0 rfl rfl 3 (by decide) (hts (.fieldLink RX1 23 "JointAnnuity" "monthThatGoesOn" "I") (List.mem_of_getElem? (i := 3) rfl)) (fun _ h9 => h9) rfl dX1_die_16 ?_
  refine lv_sipush (v := nI 239) hx hb dX1_die_19 (by decide) ?_
  refine va_mmin hx hb (hml.trans hl.1.symm) hown (hts (.methodLink RX1 69 Lib.Math.min.name) (List.mem_of_getElem? (i := 4) rfl)) (hts (.static Lib.Math.min.name) (List.mem_of_getElem? (i := 5) rfl)) (hts (.initialized "java/lang/Math") (List.mem_of_getElem? (i := 6) rfl)) (hts (.code Lib.Math.min.name Lib.Math.min.code 2 (some .int)) (List.mem_of_getElem? (i := 7) rfl)) (Nat.le_of_ble_eq_true rfl) (Nat.le_of_ble_eq_true rfl) (Nat.le_of_ble_eq_true rfl) (Nat.le_of_ble_eq_true rfl) dX1_die_22 ?_
  refine j_i (y := nI (min mo 239)) (jminI (by omega) (by omega)) ?_
  refine j_sV (As := [.int (nI v), .int (nI 0), .int (nI (min mo 239))]) (rest := []) ⟨hx, hb, hml, hown, hts⟩ (c_X1_requireRange l dC dI (nI v) (nI 0) (nI (min mo 239)) (nI_nlt (by omega) (by omega)) (nI_nlt (by omega) (by omega))) (cwS 3 hts gX1_die_X1_requireRange rfl rfl rfl (by decide +kernel) ⟨Nat.le_of_ble_eq_true rfl, Nat.le_of_ble_eq_true rfl⟩) rfl hl rfl (Nat.le_of_ble_eq_true rfl) dX1_die_25 ⟨Nat.le_of_ble_eq_true rfl, Nat.le_of_ble_eq_true rfl⟩ ?_
  refine lv_aload hx hb dX1_die_28 (lv_at hl 0 rfl) ?_
  refine va_get (D := (dC, dI)) (ci := 0) (v := .ref (aa 1)) (C := RX0) (T := TX0) (N := 13) hx hb hts (fun _ h => List.mem_cons_of_mem _ (List.mem_append_left _ (List.mem_append_left _ (List.mem_append_left _ (List.mem_append_right _ h))))) hown hK hP 3 rfl rfl 8 (by decide) (hts (.fieldLink RX1 75 "JointAnnuity$Annuity" "deaths" "[I") (List.mem_of_getElem? (i := 8) rfl)) (fun _ h9 => h9) rfl dX1_die_30 ?_
  refine lv_iload_n hx hb dX1_die_33 rfl (lv_at hl 3 rfl) ?_
  refine va_iald hx hb hK hP 4 0 (f := fun j => nI (if j = 0 then an 8 else an 9)) rfl rfl (vp_in_nI (n := 0) (N := 2) (by omega) (by omega)) dX1_die_34 ?_
  refine j_i (y := nI (an 8)) (jd0 _ _) ?_
  refine lv_sipush (v := nI 240) hx hb dX1_die_35 (by decide) ?_
  refine lv_icmp_eq (tgt := 51) hx hb dX1_die_38 (by decide) (fun c_38 => ?_) (fun c_38 => ?_)
  · have c_38 : an 8 = 240 := (nI_eq (a := an 8) (b := 240) (by omega) (by omega)).mp c_38
    refine lv_aload hx hb dX1_die_51 (lv_at hl 0 rfl) ?_
    refine va_get (D := (dC, dI)) (ci := 0) (v := .ref (aa 1)) (C := RX0) (T := TX0) (N := 13) hx hb hts (fun _ h => List.mem_cons_of_mem _ (List.mem_append_left _ (List.mem_append_left _ (List.mem_append_left _ (List.mem_append_right _ h))))) hown hK hP 3 rfl rfl 8 (by decide) (hts (.fieldLink RX1 75 "JointAnnuity$Annuity" "deaths" "[I") (List.mem_of_getElem? (i := 8) rfl)) (fun _ h9 => h9) rfl dX1_die_53 ?_
    refine lv_iload_n hx hb dX1_die_56 rfl (lv_at hl 3 rfl) ?_
    refine lv_iload_n hx hb dX1_die_57 rfl (lv_at hl 4 rfl) ?_
    refine va_iast hx hb hK hP hD hS 4 0 (f := fun j => nI (if j = 0 then an 8 else an 9)) (x := nI v) rfl rfl (vp_in_nI (n := 0) (N := 2) (by omega) (by omega)) dX1_die_58 (fun H locs hP hD hS => ?_)
    rw [nI_clamp (show 0 < 2 ^ 31 by omega)] at hP hD
    have hP : va_P (dC, dI) vwCl [((ax 0), .inr (1, [.ref (ax 1), .ref (ax 2), .int (nI n), .int (nI mo)])), ((ax 1), .inl (cO, 20, .inr (.inr (.inr (.inr (ao)))))), ((ax 2), .inl (cI, 20, .inl (iv))), ((aa 0), .inr (0, [.int (nI (an 0)), .int (nI (an 1)), .int (nI (an 0 + an 2)), .int (nI (an 3)), .int (nI (an 4)), .int (nI (an 5)), .int (nI (an 6)), .int (nI (an 7)), .ref (aa 1), .ref (aa 2), .ref (aa 3), .ref (aa 4), .long (kp)])), ((aa 1), .inl (cI, 2, .inl (upd (fun j => nI (if j = 0 then an 8 else an 9)) 0 (nI v)))), ((aa 2), .inl (cI, 20, .inl (fun j => nI (jF an iv j)))), ((aa 3), .inl (cI, 20, .inl (fun j => jC an iv j))), ((aa 4), .inl (cJ, 240, .inr (.inl (py))))] H := hP
    have hD : va_D A [((ax 0), .inr (1, [.ref (ax 1), .ref (ax 2), .int (nI n), .int (nI mo)])), ((ax 1), .inl (cO, 20, .inr (.inr (.inr (.inr (ao)))))), ((ax 2), .inl (cI, 20, .inl (iv))), ((aa 0), .inr (0, [.int (nI (an 0)), .int (nI (an 1)), .int (nI (an 0 + an 2)), .int (nI (an 3)), .int (nI (an 4)), .int (nI (an 5)), .int (nI (an 6)), .int (nI (an 7)), .ref (aa 1), .ref (aa 2), .ref (aa 3), .ref (aa 4), .long (kp)])), ((aa 1), .inl (cI, 2, .inl (upd (fun j => nI (if j = 0 then an 8 else an 9)) 0 (nI v)))), ((aa 2), .inl (cI, 20, .inl (fun j => nI (jF an iv j)))), ((aa 3), .inl (cI, 20, .inl (fun j => jC an iv j))), ((aa 4), .inl (cJ, 240, .inr (.inl (py))))] := hD
    have hP := j_same (wn := jFW cI cJ cO ax ao n mo iv aa (upN an 8 v) kp py) hP rfl (fun k hk => match k, hk with
      | 0, _ => Or.inl rfl
      | 1, _ => Or.inl rfl
      | 2, _ => Or.inl rfl
      | 3, _ => Or.inl rfl
      | 4, _ => Or.inr ⟨_, _, _, rfl, rfl, j_cI (fun j hj => match j, hj with
        | 0, _ => rfl
        | 1, _ => rfl
        | _ + 2, h => absurd h (Nat.not_lt.mpr (Nat.le_add_left _ _)))⟩
      | 5, _ => Or.inl rfl
      | 6, _ => Or.inl rfl
      | 7, _ => Or.inl rfl
      | _ + 8, h => absurd h (Nat.not_lt.mpr (Nat.le_add_left _ _)))
    have hP : va_P (dC, dI) vwCl (jFW cI cJ cO ax ao n mo iv aa (upN an 8 v) kp py) H := hP
    exact W.vret hx hb hr (fun t ht hW => ⟨⟨(), rfl, trivial, j_h ht hP⟩, hS.F ht⟩) hS.2.2 dX1_die_59
  · have c_38 : ¬ (an 8 = 240) := fun h => c_38 ((nI_eq (a := an 8) (b := 240) (by omega) (by omega)).mpr h)
    omega
set_option maxHeartbeats 4000000 in
set_option maxRecDepth 100000 in
/-- a death is taken back -/
theorem c_X1_takeBack0 (l : Launch) (dC : Nat → ClassId) (dI : Nat → Nat → Nat) (cI cJ cZ cO : ClassId) (ax : Nat → Nat) (ao : Nat → Option Nat) (n mo : Nat) (iv : Nat → Int32) (aa an : Nat → Nat) (kp : Int64) (py : Nat → Int64) (k : Nat) (hv : jV an) (hm : mo ≤ 240) (hk : k < 20) (hao : ao k = some (aa 0)) (ht9 : an 8 ≠ 240) : Met l yX1_takeBack wsX1_takeBack ({ frames := 1, cells := 0, slots := 0, locals := 22 }) (va_Pc [.ref (ax 0), .int (nI k), .int (nI 0)] (jW (dC, dI) (jTY cI cJ cZ cO) (jFW cI cJ cO ax ao n mo iv aa an kp py))) (va_Qi (fun r (_ : Unit) => r = nI (an 8)) (fun _ t => va_P (dC, dI) vwCl (jFW cI cJ cO ax ao n mo iv aa (upN an 8 240) kp py) t.heap) (jA (jFW cI cJ cO ax ao n mo iv aa an kp py))) 0 0 (jA (jFW cI cJ cO ax ao n mo iv aa an kp py)) := by
  refine j_of (cc := cX1_takeBack) (maxL := 5) (ret := (some .int)) (by decide) rfl (Nat.le_of_ble_eq_true rfl) ?_
  intro p e s m below meth c ls hx hb hr hml hts hown hlocks hnm hl hpre
  have hown : s.vm.findClass RX1 = some m.cls := hown
  have hl : lv_has ls 5 [(0, .ref (ax 0)), (1, .int (nI k)), (2, .int (nI 0))] := hl
  obtain ⟨v0, v1, v2, v3, v4, v5, v6, v7, v8, v9⟩ := id hv
  obtain ⟨hP, hK, hD0⟩ := hpre
  have hD := hD0.jA
  generalize hAe : jA (jFW cI cJ cO ax ao n mo iv aa an kp py) = A at hD ⊢
  have hS : va_S A s.heap s.heap [] := va_S.rf
  refine lv_aload_n hx hb dX1_takeBack_0 rfl (lv_at hl 0 rfl) ?_
  refine lv_iload_n hx hb dX1_takeBack_1 rfl (lv_at hl 1 rfl) ?_
  refine j_cR_ (As := [.int (nI k)]) (rest := []) ⟨hx, hb, hml, hown, hts⟩ (c_X1_find l dC dI cI cJ cZ cO ax ao n mo k (aa 0) hk hao) (cwV 1 hts gX1_takeBack_X1_find rfl rfl rfl (by decide +kernel) ⟨Nat.le_of_ble_eq_true rfl, Nat.le_of_ble_eq_true rfl⟩) (jR_V hK hP [0, 1] rfl (ci := 1) (q0 := 0) rfl rfl rfl) rfl hl rfl (Nat.le_of_ble_eq_true rfl) dX1_takeBack_2 ⟨Nat.le_of_ble_eq_true rfl, Nat.le_of_ble_eq_true rfl⟩ ?_
  refine lv_astore_n (lv' := [(3, .ref (aa 0)), (0, .ref (ax 0)), (1, .int (nI k)), (2, .int (nI 0))]) hx hb dX1_takeBack_5 rfl hl (by decide) rfl (fun ls hl => ?_)
  refine lv_iload_n hx hb dX1_takeBack_6 rfl (lv_at hl 3 rfl) ?_
  refine lv_iconst (v := nI 0) hx hb dX1_takeBack_7 (by decide) ?_
  refine lv_iconst (v := nI 1) hx hb dX1_takeBack_8 (by decide) ?_
  refine j_sV (As := [.int (nI 0), .int (nI 0), .int (nI 1)]) (rest := []) ⟨hx, hb, hml, hown, hts⟩ (c_X1_requireRange l dC dI (nI 0) (nI 0) (nI 1) (nI_nlt (by omega) (by omega)) (nI_nlt (by omega) (by omega))) (cwS 3 hts gX1_takeBack_X1_requireRange rfl rfl rfl (by decide +kernel) ⟨Nat.le_of_ble_eq_true rfl, Nat.le_of_ble_eq_true rfl⟩) rfl hl rfl (Nat.le_of_ble_eq_true rfl) dX1_takeBack_9 ⟨Nat.le_of_ble_eq_true rfl, Nat.le_of_ble_eq_true rfl⟩ ?_
  refine lv_aload_n hx hb dX1_takeBack_12 rfl (lv_at hl 0 rfl) ?_
  refine va_get (D := (dC, dI)) (ci := 0) (v := .ref (aa 1)) (C := RX0) (T := TX0) (N := 13) hx hb hts (fun _ h => List.mem_cons_of_mem _ (List.mem_append_left _ (List.mem_append_left _ (List.mem_append_left _ (List.mem_append_left _ (List.mem_append_right _ h)))))) hown hK hP 3 rfl rfl 8 (by decide) (hts (.fieldLink RX1 75 "JointAnnuity$Annuity" "deaths" "[I") (List.mem_of_getElem? (i := 3) rfl)) (fun _ h9 => h9) rfl dX1_takeBack_13 ?_
  refine lv_iload_n hx hb dX1_takeBack_16 rfl (lv_at hl 3 rfl) ?_
  refine va_iald hx hb hK hP 4 0 (f := fun j => nI (if j = 0 then an 8 else an 9)) rfl rfl (vp_in_nI (n := 0) (N := 2) (by omega) (by omega)) dX1_takeBack_17 ?_
  refine j_i (y := nI (an 8)) (jd0 _ _) ?_
  refine lv_istore (lv' := [(4, .int (nI (an 8))), (3, .ref (aa 0)), (0, .ref (ax 0)), (1, .int (nI k)), (2, .int (nI 0))]) hx hb dX1_takeBack_18 hl (by decide) rfl (fun ls hl => ?_)
  refine lv_iload hx hb dX1_takeBack_20 (lv_at hl 0 rfl) ?_
  refine lv_sipush (v := nI 240) hx hb dX1_takeBack_22 (by decide) ?_
  refine lv_icmp_ne (tgt := 38) hx hb dX1_takeBack_25 (by decide) (fun c_25 => ?_) (fun c_25 => ?_)
  · have c_25 : ¬ (an 8 = 240) := fun h => c_25 ((nI_eq (a := an 8) (b := 240) (by omega) (by omega)).mpr h)
    refine lv_aload_n hx hb dX1_takeBack_38 rfl (lv_at hl 1 rfl) ?_
    refine va_get (D := (dC, dI)) (ci := 0) (v := .ref (aa 1)) (C := RX0) (T := TX0) (N := 13) hx hb hts (fun _ h => List.mem_cons_of_mem _ (List.mem_append_left _ (List.mem_append_left _ (List.mem_append_left _ (List.mem_append_left _ (List.mem_append_right _ h)))))) hown hK hP 3 rfl rfl 8 (by decide) (hts (.fieldLink RX1 75 "JointAnnuity$Annuity" "deaths" "[I") (List.mem_of_getElem? (i := 3) rfl)) (fun _ h9 => h9) rfl dX1_takeBack_39 ?_
    refine lv_iload_n hx hb dX1_takeBack_42 rfl (lv_at hl 4 rfl) ?_
    refine lv_sipush (v := nI 240) hx hb dX1_takeBack_43 (by decide) ?_
    refine va_iast hx hb hK hP hD hS 4 0 (f := fun j => nI (if j = 0 then an 8 else an 9)) (x := nI 240) rfl rfl (vp_in_nI (n := 0) (N := 2) (by omega) (by omega)) dX1_takeBack_46 (fun H locs hP hD hS => ?_)
    rw [nI_clamp (show 0 < 2 ^ 31 by omega)] at hP hD
    have hP : va_P (dC, dI) vwCl [((ax 0), .inr (1, [.ref (ax 1), .ref (ax 2), .int (nI n), .int (nI mo)])), ((ax 1), .inl (cO, 20, .inr (.inr (.inr (.inr (ao)))))), ((ax 2), .inl (cI, 20, .inl (iv))), ((aa 0), .inr (0, [.int (nI (an 0)), .int (nI (an 1)), .int (nI (an 0 + an 2)), .int (nI (an 3)), .int (nI (an 4)), .int (nI (an 5)), .int (nI (an 6)), .int (nI (an 7)), .ref (aa 1), .ref (aa 2), .ref (aa 3), .ref (aa 4), .long (kp)])), ((aa 1), .inl (cI, 2, .inl (upd (fun j => nI (if j = 0 then an 8 else an 9)) 0 (nI 240)))), ((aa 2), .inl (cI, 20, .inl (fun j => nI (jF an iv j)))), ((aa 3), .inl (cI, 20, .inl (fun j => jC an iv j))), ((aa 4), .inl (cJ, 240, .inr (.inl (py))))] H := hP
    have hD : va_D A [((ax 0), .inr (1, [.ref (ax 1), .ref (ax 2), .int (nI n), .int (nI mo)])), ((ax 1), .inl (cO, 20, .inr (.inr (.inr (.inr (ao)))))), ((ax 2), .inl (cI, 20, .inl (iv))), ((aa 0), .inr (0, [.int (nI (an 0)), .int (nI (an 1)), .int (nI (an 0 + an 2)), .int (nI (an 3)), .int (nI (an 4)), .int (nI (an 5)), .int (nI (an 6)), .int (nI (an 7)), .ref (aa 1), .ref (aa 2), .ref (aa 3), .ref (aa 4), .long (kp)])), ((aa 1), .inl (cI, 2, .inl (upd (fun j => nI (if j = 0 then an 8 else an 9)) 0 (nI 240)))), ((aa 2), .inl (cI, 20, .inl (fun j => nI (jF an iv j)))), ((aa 3), .inl (cI, 20, .inl (fun j => jC an iv j))), ((aa 4), .inl (cJ, 240, .inr (.inl (py))))] := hD
    refine lv_iload hx hb dX1_takeBack_47 (lv_at hl 0 rfl) ?_
    have hP := j_same (wn := jFW cI cJ cO ax ao n mo iv aa (upN an 8 240) kp py) hP rfl (fun k hk => match k, hk with
      | 0, _ => Or.inl rfl
      | 1, _ => Or.inl rfl
      | 2, _ => Or.inl rfl
      | 3, _ => Or.inl rfl
      | 4, _ => Or.inr ⟨_, _, _, rfl, rfl, j_cI (fun j hj => match j, hj with
        | 0, _ => rfl
        | 1, _ => rfl
        | _ + 2, h => absurd h (Nat.not_lt.mpr (Nat.le_add_left _ _)))⟩
      | 5, _ => Or.inl rfl
      | 6, _ => Or.inl rfl
      | 7, _ => Or.inl rfl
      | _ + 8, h => absurd h (Nat.not_lt.mpr (Nat.le_add_left _ _)))
    have hP : va_P (dC, dI) vwCl (jFW cI cJ cO ax ao n mo iv aa (upN an 8 240) kp py) H := hP
    exact W.iret (v := nI (an 8)) hx hb hr (fun t ht hW => ⟨⟨_, (), rfl, rfl, j_h ht hP⟩, hS.F ht⟩) hS.2.2 dX1_takeBack_49
  · have c_25 : an 8 = 240 := (nI_eq (a := an 8) (b := 240) (by omega) (by omega)).mp c_25
    omega
set_option maxHeartbeats 4000000 in
set_option maxRecDepth 100000 in
/-- a death is told -/
theorem c_X1_die1 (l : Launch) (dC : Nat → ClassId) (dI : Nat → Nat → Nat) (cI cJ cZ cO : ClassId) (ax : Nat → Nat) (ao : Nat → Option Nat) (n mo : Nat) (iv : Nat → Int32) (aa an : Nat → Nat) (kp : Int64) (py : Nat → Int64) (k : Nat) (v : Nat) (hv : jV an) (hm : mo ≤ 240) (hk : k < 20) (hao : ao k = some (aa 0)) (h1 : v ≤ mo) (h2 : v ≤ 239) (ht9 : an 9 = 240) : Met l yX1_die wsX1_die ({ frames := 1, cells := 0, slots := 0, locals := 22 }) (va_Pc [.ref (ax 0), .int (nI k), .int (nI 1), .int (nI v)] (jW (dC, dI) (jTY cI cJ cZ cO) (jFW cI cJ cO ax ao n mo iv aa an kp py))) (va_Qv (fun _ : Unit => True) (fun _ t => va_P (dC, dI) vwCl (jFW cI cJ cO ax ao n mo iv aa (upN an 9 v) kp py) t.heap) (jA (jFW cI cJ cO ax ao n mo iv aa an kp py))) 0 0 (jA (jFW cI cJ cO ax ao n mo iv aa an kp py)) := by
  refine j_of (cc := cX1_die) (maxL := 5) (ret := none) (by decide) rfl (Nat.le_of_ble_eq_true rfl) ?_
  intro p e s m below meth c ls hx hb hr hml hts hown hlocks hnm hl hpre
  have hown : s.vm.findClass RX1 = some m.cls := hown
  have hl : lv_has ls 5 [(0, .ref (ax 0)), (1, .int (nI k)), (2, .int (nI 1)), (3, .int (nI v))] := hl
  obtain ⟨v0, v1, v2, v3, v4, v5, v6, v7, v8, v9⟩ := id hv
  obtain ⟨hP, hK, hD0⟩ := hpre
  have hD := hD0.jA
  generalize hAe : jA (jFW cI cJ cO ax ao n mo iv aa an kp py) = A at hD ⊢
  have hS : va_S A s.heap s.heap [] := va_S.rf
  refine lv_aload_n hx hb dX1_die_0 rfl (lv_at hl 0 rfl) ?_
  refine lv_iload_n hx hb dX1_die_1 rfl (lv_at hl 1 rfl) ?_
  refine j_cR_ (As := [.int (nI k)]) (rest := []) ⟨hx, hb, hml, hown, hts⟩ (c_X1_find l dC dI cI cJ cZ cO ax ao n mo k (aa 0) hk hao) (cwV 1 hts gX1_die_X1_find rfl rfl rfl (by decide +kernel) ⟨Nat.le_of_ble_eq_true rfl, Nat.le_of_ble_eq_true rfl⟩) (jR_V hK hP [0, 1] rfl (ci := 1) (q0 := 0) rfl rfl rfl) rfl hl rfl (Nat.le_of_ble_eq_true rfl) dX1_die_2 ⟨Nat.le_of_ble_eq_true rfl, Nat.le_of_ble_eq_true rfl⟩ ?_
  refine lv_astore (lv' := [(4, .ref (aa 0)), (0, .ref (ax 0)), (1, .int (nI k)), (2, .int (nI 1)), (3, .int (nI v))]) hx hb dX1_die_5 hl (by decide) rfl (fun ls hl => ?_)
  refine lv_iload_n hx hb dX1_die_7 rfl (lv_at hl 3 rfl) ?_
  refine lv_iconst (v := nI 0) hx hb dX1_die_8 (by decide) ?_
  refine lv_iconst (v := nI 1) hx hb dX1_die_9 (by decide) ?_
  refine j_sV (As := [.int (nI 1), .int (nI 0), .int (nI 1)]) (rest := []) ⟨hx, hb, hml, hown, hts⟩ (c_X1_requireRange l dC dI (nI 1) (nI 0) (nI 1) (nI_nlt (by omega) (by omega)) (nI_nlt (by omega) (by omega))) (cwS 3 hts gX1_die_X1_requireRange rfl rfl rfl (by decide +kernel) ⟨Nat.le_of_ble_eq_true rfl, Nat.le_of_ble_eq_true rfl⟩) rfl hl rfl (Nat.le_of_ble_eq_true rfl) dX1_die_10 ⟨Nat.le_of_ble_eq_true rfl, Nat.le_of_ble_eq_true rfl⟩ ?_
  refine lv_iload_n hx hb dX1_die_13 rfl (lv_at hl 4 rfl) ?_
  refine lv_iconst (v := nI 0) hx hb dX1_die_14 (by decide) ?_
  refine lv_aload_n hx hb dX1_die_15 rfl (lv_at hl 1 rfl) ?_
  refine va_get (D := (dC, dI)) (ci := 1) (v := .int (nI mo)) (C := RX1) (T := TX1) (N := 4) hx hb hts (fun _ h => List.mem_cons_of_mem _ (List.mem_append_left _ (List.mem_append_left _ (List.mem_append_left _ (List.mem_append_left _ (List.mem_append_right _ h)))))) hown hK hP 0 rfl rfl 3 (by decide) (hts (.fieldLink RX1 23 "JointAnnuity" "monthThatGoesOn" "I") (List.mem_of_getElem? (i := 3) rfl)) (fun _ h9 => h9) rfl dX1_die_16 ?_
  refine lv_sipush (v := nI 239) hx hb dX1_die_19 (by decide) ?_
  refine va_mmin hx hb (hml.trans hl.1.symm) hown (hts (.methodLink RX1 69 Lib.Math.min.name) (List.mem_of_getElem? (i := 4) rfl)) (hts (.static Lib.Math.min.name) (List.mem_of_getElem? (i := 5) rfl)) (hts (.initialized "java/lang/Math") (List.mem_of_getElem? (i := 6) rfl)) (hts (.code Lib.Math.min.name Lib.Math.min.code 2 (some .int)) (List.mem_of_getElem? (i := 7) rfl)) (Nat.le_of_ble_eq_true rfl) (Nat.le_of_ble_eq_true rfl) (Nat.le_of_ble_eq_true rfl) (Nat.le_of_ble_eq_true rfl) dX1_die_22 ?_
  refine j_i (y := nI (min mo 239)) (jminI (by omega) (by omega)) ?_
  refine j_sV (As := [.int (nI v), .int (nI 0), .int (nI (min mo 239))]) (rest := []) ⟨hx, hb, hml, hown, hts⟩ (c_X1_requireRange l dC dI (nI v) (nI 0) (nI (min mo 239)) (nI_nlt (by omega) (by omega)) (nI_nlt (by omega) (by omega))) (cwS 3 hts gX1_die_X1_requireRange rfl rfl rfl (by decide +kernel) ⟨Nat.le_of_ble_eq_true rfl, Nat.le_of_ble_eq_true rfl⟩) rfl hl rfl (Nat.le_of_ble_eq_true rfl) dX1_die_25 ⟨Nat.le_of_ble_eq_true rfl, Nat.le_of_ble_eq_true rfl⟩ ?_
  refine lv_aload hx hb dX1_die_28 (lv_at hl 0 rfl) ?_
  refine va_get (D := (dC, dI)) (ci := 0) (v := .ref (aa 1)) (C := RX0) (T := TX0) (N := 13) hx hb hts (fun _ h => List.mem_cons_of_mem _ (List.mem_append_left _ (List.mem_append_left _ (List.mem_append_left _ (List.mem_append_right _ h))))) hown hK hP 3 rfl rfl 8 (by decide) (hts (.fieldLink RX1 75 "JointAnnuity$Annuity" "deaths" "[I") (List.mem_of_getElem? (i := 8) rfl)) (fun _ h9 => h9) rfl dX1_die_30 ?_
  refine lv_iload_n hx hb dX1_die_33 rfl (lv_at hl 3 rfl) ?_
  refine va_iald hx hb hK hP 4 0 (f := fun j => nI (if j = 0 then an 8 else an 9)) rfl rfl (vp_in_nI (n := 1) (N := 2) (by omega) (by omega)) dX1_die_34 ?_
  refine j_i (y := nI (an 9)) (jd1 _ _) ?_
  refine lv_sipush (v := nI 240) hx hb dX1_die_35 (by decide) ?_
  refine lv_icmp_eq (tgt := 51) hx hb dX1_die_38 (by decide) (fun c_38 => ?_) (fun c_38 => ?_)
  · have c_38 : an 9 = 240 := (nI_eq (a := an 9) (b := 240) (by omega) (by omega)).mp c_38
    refine lv_aload hx hb dX1_die_51 (lv_at hl 0 rfl) ?_
    refine va_get (D := (dC, dI)) (ci := 0) (v := .ref (aa 1)) (C := RX0) (T := TX0) (N := 13) hx hb hts (fun _ h => List.mem_cons_of_mem _ (List.mem_append_left _ (List.mem_append_left _ (List.mem_append_left _ (List.mem_append_right _ h))))) hown hK hP 3 rfl rfl 8 (by decide) (hts (.fieldLink RX1 75 "JointAnnuity$Annuity" "deaths" "[I") (List.mem_of_getElem? (i := 8) rfl)) (fun _ h9 => h9) rfl dX1_die_53 ?_
    refine lv_iload_n hx hb dX1_die_56 rfl (lv_at hl 3 rfl) ?_
    refine lv_iload_n hx hb dX1_die_57 rfl (lv_at hl 4 rfl) ?_
    refine va_iast hx hb hK hP hD hS 4 0 (f := fun j => nI (if j = 0 then an 8 else an 9)) (x := nI v) rfl rfl (vp_in_nI (n := 1) (N := 2) (by omega) (by omega)) dX1_die_58 (fun H locs hP hD hS => ?_)
    rw [nI_clamp (show 1 < 2 ^ 31 by omega)] at hP hD
    have hP : va_P (dC, dI) vwCl [((ax 0), .inr (1, [.ref (ax 1), .ref (ax 2), .int (nI n), .int (nI mo)])), ((ax 1), .inl (cO, 20, .inr (.inr (.inr (.inr (ao)))))), ((ax 2), .inl (cI, 20, .inl (iv))), ((aa 0), .inr (0, [.int (nI (an 0)), .int (nI (an 1)), .int (nI (an 0 + an 2)), .int (nI (an 3)), .int (nI (an 4)), .int (nI (an 5)), .int (nI (an 6)), .int (nI (an 7)), .ref (aa 1), .ref (aa 2), .ref (aa 3), .ref (aa 4), .long (kp)])), ((aa 1), .inl (cI, 2, .inl (upd (fun j => nI (if j = 0 then an 8 else an 9)) 1 (nI v)))), ((aa 2), .inl (cI, 20, .inl (fun j => nI (jF an iv j)))), ((aa 3), .inl (cI, 20, .inl (fun j => jC an iv j))), ((aa 4), .inl (cJ, 240, .inr (.inl (py))))] H := hP
    have hD : va_D A [((ax 0), .inr (1, [.ref (ax 1), .ref (ax 2), .int (nI n), .int (nI mo)])), ((ax 1), .inl (cO, 20, .inr (.inr (.inr (.inr (ao)))))), ((ax 2), .inl (cI, 20, .inl (iv))), ((aa 0), .inr (0, [.int (nI (an 0)), .int (nI (an 1)), .int (nI (an 0 + an 2)), .int (nI (an 3)), .int (nI (an 4)), .int (nI (an 5)), .int (nI (an 6)), .int (nI (an 7)), .ref (aa 1), .ref (aa 2), .ref (aa 3), .ref (aa 4), .long (kp)])), ((aa 1), .inl (cI, 2, .inl (upd (fun j => nI (if j = 0 then an 8 else an 9)) 1 (nI v)))), ((aa 2), .inl (cI, 20, .inl (fun j => nI (jF an iv j)))), ((aa 3), .inl (cI, 20, .inl (fun j => jC an iv j))), ((aa 4), .inl (cJ, 240, .inr (.inl (py))))] := hD
    have hP := j_same (wn := jFW cI cJ cO ax ao n mo iv aa (upN an 9 v) kp py) hP rfl (fun k hk => match k, hk with
      | 0, _ => Or.inl rfl
      | 1, _ => Or.inl rfl
      | 2, _ => Or.inl rfl
      | 3, _ => Or.inl rfl
      | 4, _ => Or.inr ⟨_, _, _, rfl, rfl, j_cI (fun j hj => match j, hj with
        | 0, _ => rfl
        | 1, _ => rfl
        | _ + 2, h => absurd h (Nat.not_lt.mpr (Nat.le_add_left _ _)))⟩
      | 5, _ => Or.inl rfl
      | 6, _ => Or.inl rfl
      | 7, _ => Or.inl rfl
      | _ + 8, h => absurd h (Nat.not_lt.mpr (Nat.le_add_left _ _)))
    have hP : va_P (dC, dI) vwCl (jFW cI cJ cO ax ao n mo iv aa (upN an 9 v) kp py) H := hP
    exact W.vret hx hb hr (fun t ht hW => ⟨⟨(), rfl, trivial, j_h ht hP⟩, hS.F ht⟩) hS.2.2 dX1_die_59
  · have c_38 : ¬ (an 9 = 240) := fun h => c_38 ((nI_eq (a := an 9) (b := 240) (by omega) (by omega)).mpr h)
    omega
set_option maxHeartbeats 4000000 in
set_option maxRecDepth 100000 in
/-- a death is taken back -/
theorem c_X1_takeBack1 (l : Launch) (dC : Nat → ClassId) (dI : Nat → Nat → Nat) (cI cJ cZ cO : ClassId) (ax : Nat → Nat) (ao : Nat → Option Nat) (n mo : Nat) (iv : Nat → Int32) (aa an : Nat → Nat) (kp : Int64) (py : Nat → Int64) (k : Nat) (hv : jV an) (hm : mo ≤ 240) (hk : k < 20) (hao : ao k = some (aa 0)) (ht9 : an 9 ≠ 240) : Met l yX1_takeBack wsX1_takeBack ({ frames := 1, cells := 0, slots := 0, locals := 22 }) (va_Pc [.ref (ax 0), .int (nI k), .int (nI 1)] (jW (dC, dI) (jTY cI cJ cZ cO) (jFW cI cJ cO ax ao n mo iv aa an kp py))) (va_Qi (fun r (_ : Unit) => r = nI (an 9)) (fun _ t => va_P (dC, dI) vwCl (jFW cI cJ cO ax ao n mo iv aa (upN an 9 240) kp py) t.heap) (jA (jFW cI cJ cO ax ao n mo iv aa an kp py))) 0 0 (jA (jFW cI cJ cO ax ao n mo iv aa an kp py)) := by
  refine j_of (cc := cX1_takeBack) (maxL := 5) (ret := (some .int)) (by decide) rfl (Nat.le_of_ble_eq_true rfl) ?_
  intro p e s m below meth c ls hx hb hr hml hts hown hlocks hnm hl hpre
  have hown : s.vm.findClass RX1 = some m.cls := hown
  have hl : lv_has ls 5 [(0, .ref (ax 0)), (1, .int (nI k)), (2, .int (nI 1))] := hl
  obtain ⟨v0, v1, v2, v3, v4, v5, v6, v7, v8, v9⟩ := id hv
  obtain ⟨hP, hK, hD0⟩ := hpre
  have hD := hD0.jA
  generalize hAe : jA (jFW cI cJ cO ax ao n mo iv aa an kp py) = A at hD ⊢
  have hS : va_S A s.heap s.heap [] := va_S.rf
  refine lv_aload_n hx hb dX1_takeBack_0 rfl (lv_at hl 0 rfl) ?_
  refine lv_iload_n hx hb dX1_takeBack_1 rfl (lv_at hl 1 rfl) ?_
  refine j_cR_ (As := [.int (nI k)]) (rest := []) ⟨hx, hb, hml, hown, hts⟩ (c_X1_find l dC dI cI cJ cZ cO ax ao n mo k (aa 0) hk hao) (cwV 1 hts gX1_takeBack_X1_find rfl rfl rfl (by decide +kernel) ⟨Nat.le_of_ble_eq_true rfl, Nat.le_of_ble_eq_true rfl⟩) (jR_V hK hP [0, 1] rfl (ci := 1) (q0 := 0) rfl rfl rfl) rfl hl rfl (Nat.le_of_ble_eq_true rfl) dX1_takeBack_2 ⟨Nat.le_of_ble_eq_true rfl, Nat.le_of_ble_eq_true rfl⟩ ?_
  refine lv_astore_n (lv' := [(3, .ref (aa 0)), (0, .ref (ax 0)), (1, .int (nI k)), (2, .int (nI 1))]) hx hb dX1_takeBack_5 rfl hl (by decide) rfl (fun ls hl => ?_)
  refine lv_iload_n hx hb dX1_takeBack_6 rfl (lv_at hl 3 rfl) ?_
  refine lv_iconst (v := nI 0) hx hb dX1_takeBack_7 (by decide) ?_
  refine lv_iconst (v := nI 1) hx hb dX1_takeBack_8 (by decide) ?_
  refine j_sV (As := [.int (nI 1), .int (nI 0), .int (nI 1)]) (rest := []) ⟨hx, hb, hml, hown, hts⟩ (c_X1_requireRange l dC dI (nI 1) (nI 0) (nI 1) (nI_nlt (by omega) (by omega)) (nI_nlt (by omega) (by omega))) (cwS 3 hts gX1_takeBack_X1_requireRange rfl rfl rfl (by decide +kernel) ⟨Nat.le_of_ble_eq_true rfl, Nat.le_of_ble_eq_true rfl⟩) rfl hl rfl (Nat.le_of_ble_eq_true rfl) dX1_takeBack_9 ⟨Nat.le_of_ble_eq_true rfl, Nat.le_of_ble_eq_true rfl⟩ ?_
  refine lv_aload_n hx hb dX1_takeBack_12 rfl (lv_at hl 0 rfl) ?_
  refine va_get (D := (dC, dI)) (ci := 0) (v := .ref (aa 1)) (C := RX0) (T := TX0) (N := 13) hx hb hts (fun _ h => List.mem_cons_of_mem _ (List.mem_append_left _ (List.mem_append_left _ (List.mem_append_left _ (List.mem_append_left _ (List.mem_append_right _ h)))))) hown hK hP 3 rfl rfl 8 (by decide) (hts (.fieldLink RX1 75 "JointAnnuity$Annuity" "deaths" "[I") (List.mem_of_getElem? (i := 3) rfl)) (fun _ h9 => h9) rfl dX1_takeBack_13 ?_
  refine lv_iload_n hx hb dX1_takeBack_16 rfl (lv_at hl 3 rfl) ?_
  refine va_iald hx hb hK hP 4 0 (f := fun j => nI (if j = 0 then an 8 else an 9)) rfl rfl (vp_in_nI (n := 1) (N := 2) (by omega) (by omega)) dX1_takeBack_17 ?_
  refine j_i (y := nI (an 9)) (jd1 _ _) ?_
  refine lv_istore (lv' := [(4, .int (nI (an 9))), (3, .ref (aa 0)), (0, .ref (ax 0)), (1, .int (nI k)), (2, .int (nI 1))]) hx hb dX1_takeBack_18 hl (by decide) rfl (fun ls hl => ?_)
  refine lv_iload hx hb dX1_takeBack_20 (lv_at hl 0 rfl) ?_
  refine lv_sipush (v := nI 240) hx hb dX1_takeBack_22 (by decide) ?_
  refine lv_icmp_ne (tgt := 38) hx hb dX1_takeBack_25 (by decide) (fun c_25 => ?_) (fun c_25 => ?_)
  · have c_25 : ¬ (an 9 = 240) := fun h => c_25 ((nI_eq (a := an 9) (b := 240) (by omega) (by omega)).mpr h)
    refine lv_aload_n hx hb dX1_takeBack_38 rfl (lv_at hl 1 rfl) ?_
    refine va_get (D := (dC, dI)) (ci := 0) (v := .ref (aa 1)) (C := RX0) (T := TX0) (N := 13) hx hb hts (fun _ h => List.mem_cons_of_mem _ (List.mem_append_left _ (List.mem_append_left _ (List.mem_append_left _ (List.mem_append_left _ (List.mem_append_right _ h)))))) hown hK hP 3 rfl rfl 8 (by decide) (hts (.fieldLink RX1 75 "JointAnnuity$Annuity" "deaths" "[I") (List.mem_of_getElem? (i := 3) rfl)) (fun _ h9 => h9) rfl dX1_takeBack_39 ?_
    refine lv_iload_n hx hb dX1_takeBack_42 rfl (lv_at hl 4 rfl) ?_
    refine lv_sipush (v := nI 240) hx hb dX1_takeBack_43 (by decide) ?_
    refine va_iast hx hb hK hP hD hS 4 0 (f := fun j => nI (if j = 0 then an 8 else an 9)) (x := nI 240) rfl rfl (vp_in_nI (n := 1) (N := 2) (by omega) (by omega)) dX1_takeBack_46 (fun H locs hP hD hS => ?_)
    rw [nI_clamp (show 1 < 2 ^ 31 by omega)] at hP hD
    have hP : va_P (dC, dI) vwCl [((ax 0), .inr (1, [.ref (ax 1), .ref (ax 2), .int (nI n), .int (nI mo)])), ((ax 1), .inl (cO, 20, .inr (.inr (.inr (.inr (ao)))))), ((ax 2), .inl (cI, 20, .inl (iv))), ((aa 0), .inr (0, [.int (nI (an 0)), .int (nI (an 1)), .int (nI (an 0 + an 2)), .int (nI (an 3)), .int (nI (an 4)), .int (nI (an 5)), .int (nI (an 6)), .int (nI (an 7)), .ref (aa 1), .ref (aa 2), .ref (aa 3), .ref (aa 4), .long (kp)])), ((aa 1), .inl (cI, 2, .inl (upd (fun j => nI (if j = 0 then an 8 else an 9)) 1 (nI 240)))), ((aa 2), .inl (cI, 20, .inl (fun j => nI (jF an iv j)))), ((aa 3), .inl (cI, 20, .inl (fun j => jC an iv j))), ((aa 4), .inl (cJ, 240, .inr (.inl (py))))] H := hP
    have hD : va_D A [((ax 0), .inr (1, [.ref (ax 1), .ref (ax 2), .int (nI n), .int (nI mo)])), ((ax 1), .inl (cO, 20, .inr (.inr (.inr (.inr (ao)))))), ((ax 2), .inl (cI, 20, .inl (iv))), ((aa 0), .inr (0, [.int (nI (an 0)), .int (nI (an 1)), .int (nI (an 0 + an 2)), .int (nI (an 3)), .int (nI (an 4)), .int (nI (an 5)), .int (nI (an 6)), .int (nI (an 7)), .ref (aa 1), .ref (aa 2), .ref (aa 3), .ref (aa 4), .long (kp)])), ((aa 1), .inl (cI, 2, .inl (upd (fun j => nI (if j = 0 then an 8 else an 9)) 1 (nI 240)))), ((aa 2), .inl (cI, 20, .inl (fun j => nI (jF an iv j)))), ((aa 3), .inl (cI, 20, .inl (fun j => jC an iv j))), ((aa 4), .inl (cJ, 240, .inr (.inl (py))))] := hD
    refine lv_iload hx hb dX1_takeBack_47 (lv_at hl 0 rfl) ?_
    have hP := j_same (wn := jFW cI cJ cO ax ao n mo iv aa (upN an 9 240) kp py) hP rfl (fun k hk => match k, hk with
      | 0, _ => Or.inl rfl
      | 1, _ => Or.inl rfl
      | 2, _ => Or.inl rfl
      | 3, _ => Or.inl rfl
      | 4, _ => Or.inr ⟨_, _, _, rfl, rfl, j_cI (fun j hj => match j, hj with
        | 0, _ => rfl
        | 1, _ => rfl
        | _ + 2, h => absurd h (Nat.not_lt.mpr (Nat.le_add_left _ _)))⟩
      | 5, _ => Or.inl rfl
      | 6, _ => Or.inl rfl
      | 7, _ => Or.inl rfl
      | _ + 8, h => absurd h (Nat.not_lt.mpr (Nat.le_add_left _ _)))
    have hP : va_P (dC, dI) vwCl (jFW cI cJ cO ax ao n mo iv aa (upN an 9 240) kp py) H := hP
    exact W.iret (v := nI (an 9)) hx hb hr (fun t ht hW => ⟨⟨_, (), rfl, rfl, j_h ht hP⟩, hS.F ht⟩) hS.2.2 dX1_takeBack_49
  · have c_25 : an 9 = 240 := (nI_eq (a := an 9) (b := 240) (by omega) (by omega)).mp c_25
    omega
set_option maxHeartbeats 4000000 in
set_option maxRecDepth 100000 in
/-- some is given back -/
theorem c_X1_giveBack (l : Launch) (dC : Nat → ClassId) (dI : Nat → Nat → Nat) (cI cJ cZ cO : ClassId) (ax : Nat → Nat) (ao : Nat → Option Nat) (n mo : Nat) (iv : Nat → Int32) (aa an : Nat → Nat) (kp : Int64) (py : Nat → Int64) (k : Nat) (v : Nat) (hv : jV an) (hm : mo ≤ 240) (hk : k < 20) (hao : ao k = some (aa 0)) (h1 : 1 ≤ v) (h2 : v ≤ 100000000) (ho : ¬ jmx (kp - lN (jU an iv mo)) < lN v) : Met l yX1_giveBack wsX1_giveBack ({ frames := 6, cells := 0, slots := 0, locals := 137 }) (va_Pc [.ref (ax 0), .int (nI k), .int (nI v)] (jW (dC, dI) (jTY cI cJ cZ cO) (jFW cI cJ cO ax ao n mo iv aa an kp py))) (va_Ql (fun r (_ : Unit) => r = jmx (kp - lN (jU an iv mo)) - lN v) (fun _ t => va_P (dC, dI) vwCl (jFW cI cJ cO ax ao n mo iv aa an (kp - lN v) py) t.heap) (jA (jFW cI cJ cO ax ao n mo iv aa an kp py))) 0 0 (jA (jFW cI cJ cO ax ao n mo iv aa an kp py)) := by
  refine j_of (cc := cX1_giveBack) (maxL := 6) (ret := (some .long)) (by decide) rfl (Nat.le_of_ble_eq_true rfl) ?_
  intro p e s m below meth c ls hx hb hr hml hts hown hlocks hnm hl hpre
  have hown : s.vm.findClass RX1 = some m.cls := hown
  have hl : lv_has ls 6 [(0, .ref (ax 0)), (1, .int (nI k)), (2, .int (nI v))] := hl
  obtain ⟨v0, v1, v2, v3, v4, v5, v6, v7, v8, v9⟩ := id hv
  obtain ⟨hP, hK, hD0⟩ := hpre
  have hD := hD0.jA
  generalize hAe : jA (jFW cI cJ cO ax ao n mo iv aa an kp py) = A at hD ⊢
  have hS : va_S A s.heap s.heap [] := va_S.rf
  refine lv_aload_n hx hb dX1_giveBack_0 rfl (lv_at hl 0 rfl) ?_
  refine lv_iload_n hx hb dX1_giveBack_1 rfl (lv_at hl 1 rfl) ?_
  refine j_cR_ (As := [.int (nI k)]) (rest := []) ⟨hx, hb, hml, hown, hts⟩ (c_X1_find l dC dI cI cJ cZ cO ax ao n mo k (aa 0) hk hao) (cwV 1 hts gX1_giveBack_X1_find rfl rfl rfl (by decide +kernel) ⟨Nat.le_of_ble_eq_true rfl, Nat.le_of_ble_eq_true rfl⟩) (jR_V hK hP [0, 1] rfl (ci := 1) (q0 := 0) rfl rfl rfl) rfl hl rfl (Nat.le_of_ble_eq_true rfl) dX1_giveBack_2 ⟨Nat.le_of_ble_eq_true rfl, Nat.le_of_ble_eq_true rfl⟩ ?_
  refine lv_astore_n (lv' := [(3, .ref (aa 0)), (0, .ref (ax 0)), (1, .int (nI k)), (2, .int (nI v))]) hx hb dX1_giveBack_5 rfl hl (by decide) rfl (fun ls hl => ?_)
  refine lv_iload_n hx hb dX1_giveBack_6 rfl (lv_at hl 3 rfl) ?_
  refine lv_iconst (v := nI 1) hx hb dX1_giveBack_7 (by decide) ?_
  refine lv_ldc hx hb hown (hts (.constant RX1 88 (100000000)) (List.mem_of_getElem? (i := 3) rfl)) dX1_giveBack_8 ?_
  refine j_i (y := nI 100000000) (by decide +kernel) ?_
  refine j_sV (As := [.int (nI v), .int (nI 1), .int (nI 100000000)]) (rest := []) ⟨hx, hb, hml, hown, hts⟩ (c_X1_requireRange l dC dI (nI v) (nI 1) (nI 100000000) (nI_nlt (by omega) (by omega)) (nI_nlt (by omega) (by omega))) (cwS 3 hts gX1_giveBack_X1_requireRange rfl rfl rfl (by decide +kernel) ⟨Nat.le_of_ble_eq_true rfl, Nat.le_of_ble_eq_true rfl⟩) rfl hl rfl (Nat.le_of_ble_eq_true rfl) dX1_giveBack_10 ⟨Nat.le_of_ble_eq_true rfl, Nat.le_of_ble_eq_true rfl⟩ ?_
  refine lv_aload_n hx hb dX1_giveBack_13 rfl (lv_at hl 0 rfl) ?_
  refine lv_aload_n hx hb dX1_giveBack_14 rfl (lv_at hl 1 rfl) ?_
  refine va_get (D := (dC, dI)) (ci := 1) (v := .int (nI mo)) (C := RX1) (T := TX1) (N := 4) hx hb hts (fun _ h => List.mem_cons_of_mem _ (List.mem_append_left _ (List.mem_append_left _ (List.mem_append_left _ (List.mem_append_left _ (List.mem_append_right _ h)))))) hown hK hP 0 rfl rfl 3 (by decide) (hts (.fieldLink RX1 23 "JointAnnuity" "monthThatGoesOn" "I") (List.mem_of_getElem? (i := 4) rfl)) (fun _ h9 => h9) rfl dX1_giveBack_15 ?_
  refine j_cL_ (As := [.int (nI mo)]) (rest := []) ⟨hx, hb, hml, hown, hts⟩ (c_X0_debtAhead l dC dI cI cJ cZ cO aa an iv kp py mo hv hm) (cwV 1 hts gX1_giveBack_X0_debtAhead rfl rfl rfl (by decide +kernel) ⟨Nat.le_of_ble_eq_true rfl, Nat.le_of_ble_eq_true rfl⟩) (jR_V hK hP [3, 4, 5, 6, 7] rfl (ci := 0) (q0 := 3) rfl rfl rfl) rfl hl rfl (Nat.le_of_ble_eq_true rfl) dX1_giveBack_18 ⟨Nat.le_of_ble_eq_true rfl, Nat.le_of_ble_eq_true rfl⟩ (fun r_18 hr_18 => ?_)
  subst hr_18
  refine lv_lstore (lv' := [(4, .long (jmx (kp - lN (jU an iv mo)))), (3, .ref (aa 0)), (0, .ref (ax 0)), (1, .int (nI k)), (2, .int (nI v))]) hx hb dX1_giveBack_21 hl (by decide) rfl (fun ls hl => ?_)
  refine lv_lload hx hb dX1_giveBack_23 (lv_at hl 0 rfl) ?_
  refine lv_iload_n hx hb dX1_giveBack_25 rfl (lv_at hl 4 rfl) ?_
  refine lv_i2l (v := lN v) hx hb dX1_giveBack_26 (nI_l (by omega)) ?_
  refine W.lcmp hx hb dX1_giveBack_27 ?_
  refine lv_if_ge (tgt := 41) hx hb dX1_giveBack_28 (by decide) (fun c_28 => ?_) (fun c_28 => ?_)
  · refine lv_aload_n hx hb dX1_giveBack_41 rfl (lv_at hl 1 rfl) ?_
    refine lv_dup hx hb dX1_giveBack_42 rfl ?_
    refine va_get (D := (dC, dI)) (ci := 0) (v := .long (kp)) (C := RX0) (T := TX0) (N := 13) hx hb hts (fun _ h => List.mem_cons_of_mem _ (List.mem_append_left _ (List.mem_append_left _ (List.mem_append_left _ (List.mem_append_right _ h))))) hown hK hP 3 rfl rfl 12 (by decide) (hts (.fieldLink RX1 94 "JointAnnuity$Annuity" "keptInAll" "J") (List.mem_of_getElem? (i := 5) rfl)) (fun _ h9 => h9) rfl dX1_giveBack_43 ?_
    refine lv_iload_n hx hb dX1_giveBack_46 rfl (lv_at hl 4 rfl) ?_
    refine lv_i2l (v := lN v) hx hb dX1_giveBack_47 (nI_l (by omega)) ?_
    refine lv_lsub hx hb dX1_giveBack_48 ?_
    refine va_put (D := (dC, dI)) (ci := 0) (v := .long (kp - (lN v))) (ty := .long) (C := RX0) (T := TX0) (N := 13) hx hb hts (fun _ h => List.mem_cons_of_mem _ (List.mem_append_left _ (List.mem_append_left _ (List.mem_append_left _ (List.mem_append_right _ h))))) tyX0 tyX0_ok nmX0 hown hK hP hD hS 3 rfl rfl 12 (by decide) (hts (.fieldLink RX1 94 "JointAnnuity$Annuity" "keptInAll" "J") (List.mem_of_getElem? (i := 5) rfl)) (fun _ h9 => h9) rfl (by decide +kernel) rfl rfl (Nat.le_of_ble_eq_true rfl) dX1_giveBack_49 (fun H locs hP hD hS => ?_)
    have hP : va_P (dC, dI) vwCl [((ax 0), .inr (1, [.ref (ax 1), .ref (ax 2), .int (nI n), .int (nI mo)])), ((ax 1), .inl (cO, 20, .inr (.inr (.inr (.inr (ao)))))), ((ax 2), .inl (cI, 20, .inl (iv))), ((aa 0), .inr (0, [.int (nI (an 0)), .int (nI (an 1)), .int (nI (an 0 + an 2)), .int (nI (an 3)), .int (nI (an 4)), .int (nI (an 5)), .int (nI (an 6)), .int (nI (an 7)), .ref (aa 1), .ref (aa 2), .ref (aa 3), .ref (aa 4), .long (kp - (lN v))])), ((aa 1), .inl (cI, 2, .inl (fun j => nI (if j = 0 then an 8 else an 9)))), ((aa 2), .inl (cI, 20, .inl (fun j => nI (jF an iv j)))), ((aa 3), .inl (cI, 20, .inl (fun j => jC an iv j))), ((aa 4), .inl (cJ, 240, .inr (.inl (py))))] H := hP
    have hD : va_D A [((ax 0), .inr (1, [.ref (ax 1), .ref (ax 2), .int (nI n), .int (nI mo)])), ((ax 1), .inl (cO, 20, .inr (.inr (.inr (.inr (ao)))))), ((ax 2), .inl (cI, 20, .inl (iv))), ((aa 0), .inr (0, [.int (nI (an 0)), .int (nI (an 1)), .int (nI (an 0 + an 2)), .int (nI (an 3)), .int (nI (an 4)), .int (nI (an 5)), .int (nI (an 6)), .int (nI (an 7)), .ref (aa 1), .ref (aa 2), .ref (aa 3), .ref (aa 4), .long (kp - (lN v))])), ((aa 1), .inl (cI, 2, .inl (fun j => nI (if j = 0 then an 8 else an 9)))), ((aa 2), .inl (cI, 20, .inl (fun j => nI (jF an iv j)))), ((aa 3), .inl (cI, 20, .inl (fun j => jC an iv j))), ((aa 4), .inl (cJ, 240, .inr (.inl (py))))] := hD
    refine lv_lload hx hb dX1_giveBack_52 (lv_at hl 0 rfl) ?_
    refine lv_iload_n hx hb dX1_giveBack_54 rfl (lv_at hl 4 rfl) ?_
    refine lv_i2l (v := lN v) hx hb dX1_giveBack_55 (nI_l (by omega)) ?_
    refine lv_lsub hx hb dX1_giveBack_56 ?_
    have hP : va_P (dC, dI) vwCl (jFW cI cJ cO ax ao n mo iv aa an (kp - lN v) py) H := hP
    exact W.lret (v := (jmx (kp - lN (jU an iv mo))) - (lN v)) hx hb hr (fun t ht hW => ⟨⟨_, (), rfl, rfl, j_h ht hP⟩, hS.F ht⟩) hS.2.2 dX1_giveBack_57
  · exact (c_28 ((lg_cmp_ge _ _).mpr (Int64.not_lt.mp ho))).elim
set_option maxHeartbeats 4000000 in
set_option maxRecDepth 100000 in
/-- no such annuity -/
theorem x1_X1_setSurvivor (l : Launch) (dC : Nat → ClassId) (dI : Nat → Nat → Nat) (cI cJ cZ cO : ClassId) (ax : Nat → Nat) (ao : Nat → Option Nat) (n mo : Nat) (p0 p1 p2 : Int32) (hst : l.stackTraces = false) (hn : n ≤ 20) (hao : ∀ j, n ≤ j → ao j = none) (hb0 : ¬ vp_in p0 n) : vx_Met l yX1_setSurvivor wsX1_setSurvivor ({ frames := 7, cells := 1, slots := 6, locals := 104 }) (va_Pc [.ref (ax 0), .int p0, .int p1, .int p2] (jRX (dC, dI) (jTY cI cJ cZ cO) ([jXo ax n mo, jXa cO ax ao]))) (jFQ) (jXC eO) 1 6 (fun _ => False) := by
  refine j_ofx (cc := cX1_setSurvivor) (maxL := 5) (ret := none) (by decide) rfl (Nat.le_of_ble_eq_true rfl) ?_
  intro p e s m below meth c ls hx hb hr hml hts hown hlocks htab hl hpre
  have hown : s.vm.findClass RX1 = some m.cls := hown
  have hl : lv_has ls 5 [(0, .ref (ax 0)), (1, .int p0), (2, .int p1), (3, .int p2)] := hl
  obtain ⟨⟨hP, hK⟩, hX⟩ := hpre
  refine lv_aload_n hx hb dX1_setSurvivor_0 rfl (lv_at hl 0 rfl) ?_
  refine lv_iload_n hx hb dX1_setSurvivor_1 rfl (lv_at hl 1 rfl) ?_
  exact j_bxV (As := [.int p0]) (rest := []) ⟨hx, hb, hml, hown, hts⟩ (x_X1_find l dC dI cI cJ cZ cO ax ao n mo p0 hst hn hao hb0) (cwV 1 hts gX1_setSurvivor_X1_find rfl rfl rfl (by decide +kernel) ⟨Nat.le_of_ble_eq_true rfl, Nat.le_of_ble_eq_true rfl⟩) (jRX_V hX hK hP [0, 1] rfl (ci := 1) (q0 := 0) rfl rfl rfl) rfl hl rfl (Nat.le_of_ble_eq_true rfl) dX1_setSurvivor_2 ⟨Nat.le_of_ble_eq_true rfl, Nat.le_of_ble_eq_true rfl⟩ htab hlocks
set_option maxHeartbeats 4000000 in
set_option maxRecDepth 100000 in
/-- no such annuity -/
theorem x1_X1_setCap (l : Launch) (dC : Nat → ClassId) (dI : Nat → Nat → Nat) (cI cJ cZ cO : ClassId) (ax : Nat → Nat) (ao : Nat → Option Nat) (n mo : Nat) (p0 p1 : Int32) (hst : l.stackTraces = false) (hn : n ≤ 20) (hao : ∀ j, n ≤ j → ao j = none) (hb0 : ¬ vp_in p0 n) : vx_Met l yX1_setCap wsX1_setCap ({ frames := 7, cells := 1, slots := 6, locals := 104 }) (va_Pc [.ref (ax 0), .int p0, .int p1] (jRX (dC, dI) (jTY cI cJ cZ cO) ([jXo ax n mo, jXa cO ax ao]))) (jFQ) (jXC eO) 1 6 (fun _ => False) := by
  refine j_ofx (cc := cX1_setCap) (maxL := 4) (ret := none) (by decide) rfl (Nat.le_of_ble_eq_true rfl) ?_
  intro p e s m below meth c ls hx hb hr hml hts hown hlocks htab hl hpre
  have hown : s.vm.findClass RX1 = some m.cls := hown
  have hl : lv_has ls 4 [(0, .ref (ax 0)), (1, .int p0), (2, .int p1)] := hl
  obtain ⟨⟨hP, hK⟩, hX⟩ := hpre
  refine lv_aload_n hx hb dX1_setCap_0 rfl (lv_at hl 0 rfl) ?_
  refine lv_iload_n hx hb dX1_setCap_1 rfl (lv_at hl 1 rfl) ?_
  exact j_bxV (As := [.int p0]) (rest := []) ⟨hx, hb, hml, hown, hts⟩ (x_X1_find l dC dI cI cJ cZ cO ax ao n mo p0 hst hn hao hb0) (cwV 1 hts gX1_setCap_X1_find rfl rfl rfl (by decide +kernel) ⟨Nat.le_of_ble_eq_true rfl, Nat.le_of_ble_eq_true rfl⟩) (jRX_V hX hK hP [0, 1] rfl (ci := 1) (q0 := 0) rfl rfl rfl) rfl hl rfl (Nat.le_of_ble_eq_true rfl) dX1_setCap_2 ⟨Nat.le_of_ble_eq_true rfl, Nat.le_of_ble_eq_true rfl⟩ htab hlocks
set_option maxHeartbeats 4000000 in
set_option maxRecDepth 100000 in
/-- no such annuity -/
theorem x1_X1_protect (l : Launch) (dC : Nat → ClassId) (dI : Nat → Nat → Nat) (cI cJ cZ cO : ClassId) (ax : Nat → Nat) (ao : Nat → Option Nat) (n mo : Nat) (p0 p1 p2 : Int32) (hst : l.stackTraces = false) (hn : n ≤ 20) (hao : ∀ j, n ≤ j → ao j = none) (hb0 : ¬ vp_in p0 n) : vx_Met l yX1_protect wsX1_protect ({ frames := 7, cells := 1, slots := 6, locals := 104 }) (va_Pc [.ref (ax 0), .int p0, .int p1, .int p2] (jRX (dC, dI) (jTY cI cJ cZ cO) ([jXo ax n mo, jXa cO ax ao]))) (jFQ) (jXC eO) 1 6 (fun _ => False) := by
  refine j_ofx (cc := cX1_protect) (maxL := 5) (ret := none) (by decide) rfl (Nat.le_of_ble_eq_true rfl) ?_
  intro p e s m below meth c ls hx hb hr hml hts hown hlocks htab hl hpre
  have hown : s.vm.findClass RX1 = some m.cls := hown
  have hl : lv_has ls 5 [(0, .ref (ax 0)), (1, .int p0), (2, .int p1), (3, .int p2)] := hl
  obtain ⟨⟨hP, hK⟩, hX⟩ := hpre
  refine lv_aload_n hx hb dX1_protect_0 rfl (lv_at hl 0 rfl) ?_
  refine lv_iload_n hx hb dX1_protect_1 rfl (lv_at hl 1 rfl) ?_
  exact j_bxV (As := [.int p0]) (rest := []) ⟨hx, hb, hml, hown, hts⟩ (x_X1_find l dC dI cI cJ cZ cO ax ao n mo p0 hst hn hao hb0) (cwV 1 hts gX1_protect_X1_find rfl rfl rfl (by decide +kernel) ⟨Nat.le_of_ble_eq_true rfl, Nat.le_of_ble_eq_true rfl⟩) (jRX_V hX hK hP [0, 1] rfl (ci := 1) (q0 := 0) rfl rfl rfl) rfl hl rfl (Nat.le_of_ble_eq_true rfl) dX1_protect_2 ⟨Nat.le_of_ble_eq_true rfl, Nat.le_of_ble_eq_true rfl⟩ htab hlocks
set_option maxHeartbeats 4000000 in
set_option maxRecDepth 100000 in
/-- no such annuity -/
theorem x1_X1_die (l : Launch) (dC : Nat → ClassId) (dI : Nat → Nat → Nat) (cI cJ cZ cO : ClassId) (ax : Nat → Nat) (ao : Nat → Option Nat) (n mo : Nat) (p0 p1 p2 : Int32) (hst : l.stackTraces = false) (hn : n ≤ 20) (hao : ∀ j, n ≤ j → ao j = none) (hb0 : ¬ vp_in p0 n) : vx_Met l yX1_die wsX1_die ({ frames := 7, cells := 1, slots := 6, locals := 104 }) (va_Pc [.ref (ax 0), .int p0, .int p1, .int p2] (jRX (dC, dI) (jTY cI cJ cZ cO) ([jXo ax n mo, jXa cO ax ao]))) (jFQ) (jXC eO) 1 6 (fun _ => False) := by
  refine j_ofx (cc := cX1_die) (maxL := 5) (ret := none) (by decide) rfl (Nat.le_of_ble_eq_true rfl) ?_
  intro p e s m below meth c ls hx hb hr hml hts hown hlocks htab hl hpre
  have hown : s.vm.findClass RX1 = some m.cls := hown
  have hl : lv_has ls 5 [(0, .ref (ax 0)), (1, .int p0), (2, .int p1), (3, .int p2)] := hl
  obtain ⟨⟨hP, hK⟩, hX⟩ := hpre
  refine lv_aload_n hx hb dX1_die_0 rfl (lv_at hl 0 rfl) ?_
  refine lv_iload_n hx hb dX1_die_1 rfl (lv_at hl 1 rfl) ?_
  exact j_bxV (As := [.int p0]) (rest := []) ⟨hx, hb, hml, hown, hts⟩ (x_X1_find l dC dI cI cJ cZ cO ax ao n mo p0 hst hn hao hb0) (cwV 1 hts gX1_die_X1_find rfl rfl rfl (by decide +kernel) ⟨Nat.le_of_ble_eq_true rfl, Nat.le_of_ble_eq_true rfl⟩) (jRX_V hX hK hP [0, 1] rfl (ci := 1) (q0 := 0) rfl rfl rfl) rfl hl rfl (Nat.le_of_ble_eq_true rfl) dX1_die_2 ⟨Nat.le_of_ble_eq_true rfl, Nat.le_of_ble_eq_true rfl⟩ htab hlocks
set_option maxHeartbeats 4000000 in
set_option maxRecDepth 100000 in
/-- no such annuity -/
theorem x1_X1_takeBack (l : Launch) (dC : Nat → ClassId) (dI : Nat → Nat → Nat) (cI cJ cZ cO : ClassId) (ax : Nat → Nat) (ao : Nat → Option Nat) (n mo : Nat) (p0 p1 : Int32) (hst : l.stackTraces = false) (hn : n ≤ 20) (hao : ∀ j, n ≤ j → ao j = none) (hb0 : ¬ vp_in p0 n) : vx_Met l yX1_takeBack wsX1_takeBack ({ frames := 7, cells := 1, slots := 6, locals := 104 }) (va_Pc [.ref (ax 0), .int p0, .int p1] (jRX (dC, dI) (jTY cI cJ cZ cO) ([jXo ax n mo, jXa cO ax ao]))) (jFQ) (jXC eO) 1 6 (fun _ => False) := by
  refine j_ofx (cc := cX1_takeBack) (maxL := 5) (ret := (some .int)) (by decide) rfl (Nat.le_of_ble_eq_true rfl) ?_
  intro p e s m below meth c ls hx hb hr hml hts hown hlocks htab hl hpre
  have hown : s.vm.findClass RX1 = some m.cls := hown
  have hl : lv_has ls 5 [(0, .ref (ax 0)), (1, .int p0), (2, .int p1)] := hl
  obtain ⟨⟨hP, hK⟩, hX⟩ := hpre
  refine lv_aload_n hx hb dX1_takeBack_0 rfl (lv_at hl 0 rfl) ?_
  refine lv_iload_n hx hb dX1_takeBack_1 rfl (lv_at hl 1 rfl) ?_
  exact j_bxV (As := [.int p0]) (rest := []) ⟨hx, hb, hml, hown, hts⟩ (x_X1_find l dC dI cI cJ cZ cO ax ao n mo p0 hst hn hao hb0) (cwV 1 hts gX1_takeBack_X1_find rfl rfl rfl (by decide +kernel) ⟨Nat.le_of_ble_eq_true rfl, Nat.le_of_ble_eq_true rfl⟩) (jRX_V hX hK hP [0, 1] rfl (ci := 1) (q0 := 0) rfl rfl rfl) rfl hl rfl (Nat.le_of_ble_eq_true rfl) dX1_takeBack_2 ⟨Nat.le_of_ble_eq_true rfl, Nat.le_of_ble_eq_true rfl⟩ htab hlocks
set_option maxHeartbeats 4000000 in
set_option maxRecDepth 100000 in
/-- no such annuity -/
theorem x1_X1_giveBack (l : Launch) (dC : Nat → ClassId) (dI : Nat → Nat → Nat) (cI cJ cZ cO : ClassId) (ax : Nat → Nat) (ao : Nat → Option Nat) (n mo : Nat) (p0 p1 : Int32) (hst : l.stackTraces = false) (hn : n ≤ 20) (hao : ∀ j, n ≤ j → ao j = none) (hb0 : ¬ vp_in p0 n) : vx_Met l yX1_giveBack wsX1_giveBack ({ frames := 7, cells := 1, slots := 6, locals := 104 }) (va_Pc [.ref (ax 0), .int p0, .int p1] (jRX (dC, dI) (jTY cI cJ cZ cO) ([jXo ax n mo, jXa cO ax ao]))) (jFQ) (jXC eO) 1 6 (fun _ => False) := by
  refine j_ofx (cc := cX1_giveBack) (maxL := 6) (ret := (some .long)) (by decide) rfl (Nat.le_of_ble_eq_true rfl) ?_
  intro p e s m below meth c ls hx hb hr hml hts hown hlocks htab hl hpre
  have hown : s.vm.findClass RX1 = some m.cls := hown
  have hl : lv_has ls 6 [(0, .ref (ax 0)), (1, .int p0), (2, .int p1)] := hl
  obtain ⟨⟨hP, hK⟩, hX⟩ := hpre
  refine lv_aload_n hx hb dX1_giveBack_0 rfl (lv_at hl 0 rfl) ?_
  refine lv_iload_n hx hb dX1_giveBack_1 rfl (lv_at hl 1 rfl) ?_
  exact j_bxV (As := [.int p0]) (rest := []) ⟨hx, hb, hml, hown, hts⟩ (x_X1_find l dC dI cI cJ cZ cO ax ao n mo p0 hst hn hao hb0) (cwV 1 hts gX1_giveBack_X1_find rfl rfl rfl (by decide +kernel) ⟨Nat.le_of_ble_eq_true rfl, Nat.le_of_ble_eq_true rfl⟩) (jRX_V hX hK hP [0, 1] rfl (ci := 1) (q0 := 0) rfl rfl rfl) rfl hl rfl (Nat.le_of_ble_eq_true rfl) dX1_giveBack_2 ⟨Nat.le_of_ble_eq_true rfl, Nat.le_of_ble_eq_true rfl⟩ htab hlocks
set_option maxHeartbeats 4000000 in
set_option maxRecDepth 100000 in
/-- no such annuity -/
theorem x1_X1_paid (l : Launch) (dC : Nat → ClassId) (dI : Nat → Nat → Nat) (cI cJ cZ cO : ClassId) (ax : Nat → Nat) (ao : Nat → Option Nat) (n mo : Nat) (p0 p1 : Int32) (hst : l.stackTraces = false) (hn : n ≤ 20) (hao : ∀ j, n ≤ j → ao j = none) (hb0 : ¬ vp_in p0 n) : vx_Met l yX1_paid wsX1_paid ({ frames := 7, cells := 1, slots := 6, locals := 104 }) (va_Pc [.ref (ax 0), .int p0, .int p1] (jRX (dC, dI) (jTY cI cJ cZ cO) ([jXo ax n mo, jXa cO ax ao]))) (jFQ) (jXC eO) 1 6 (fun _ => False) := by
  refine j_ofx (cc := cX1_paid) (maxL := 4) (ret := (some .long)) (by decide) rfl (Nat.le_of_ble_eq_true rfl) ?_
  intro p e s m below meth c ls hx hb hr hml hts hown hlocks htab hl hpre
  have hown : s.vm.findClass RX1 = some m.cls := hown
  have hl : lv_has ls 4 [(0, .ref (ax 0)), (1, .int p0), (2, .int p1)] := hl
  obtain ⟨⟨hP, hK⟩, hX⟩ := hpre
  refine lv_aload_n hx hb dX1_paid_0 rfl (lv_at hl 0 rfl) ?_
  refine lv_iload_n hx hb dX1_paid_1 rfl (lv_at hl 1 rfl) ?_
  exact j_bxV (As := [.int p0]) (rest := []) ⟨hx, hb, hml, hown, hts⟩ (x_X1_find l dC dI cI cJ cZ cO ax ao n mo p0 hst hn hao hb0) (cwV 1 hts gX1_paid_X1_find rfl rfl rfl (by decide +kernel) ⟨Nat.le_of_ble_eq_true rfl, Nat.le_of_ble_eq_true rfl⟩) (jRX_V hX hK hP [0, 1] rfl (ci := 1) (q0 := 0) rfl rfl rfl) rfl hl rfl (Nat.le_of_ble_eq_true rfl) dX1_paid_2 ⟨Nat.le_of_ble_eq_true rfl, Nat.le_of_ble_eq_true rfl⟩ htab hlocks
set_option maxHeartbeats 4000000 in
set_option maxRecDepth 100000 in
/-- no such annuity -/
theorem x1_X1_paidInAll (l : Launch) (dC : Nat → ClassId) (dI : Nat → Nat → Nat) (cI cJ cZ cO : ClassId) (ax : Nat → Nat) (ao : Nat → Option Nat) (n mo : Nat) (p0 : Int32) (hst : l.stackTraces = false) (hn : n ≤ 20) (hao : ∀ j, n ≤ j → ao j = none) (hb0 : ¬ vp_in p0 n) : vx_Met l yX1_paidInAll wsX1_paidInAll ({ frames := 7, cells := 1, slots := 6, locals := 104 }) (va_Pc [.ref (ax 0), .int p0] (jRX (dC, dI) (jTY cI cJ cZ cO) ([jXo ax n mo, jXa cO ax ao]))) (jFQ) (jXC eO) 1 6 (fun _ => False) := by
  refine j_ofx (cc := cX1_paidInAll) (maxL := 2) (ret := (some .long)) (by decide) rfl (Nat.le_of_ble_eq_true rfl) ?_
  intro p e s m below meth c ls hx hb hr hml hts hown hlocks htab hl hpre
  have hown : s.vm.findClass RX1 = some m.cls := hown
  have hl : lv_has ls 2 [(0, .ref (ax 0)), (1, .int p0)] := hl
  obtain ⟨⟨hP, hK⟩, hX⟩ := hpre
  refine lv_aload_n hx hb dX1_paidInAll_0 rfl (lv_at hl 0 rfl) ?_
  refine lv_iload_n hx hb dX1_paidInAll_1 rfl (lv_at hl 1 rfl) ?_
  exact j_bxV (As := [.int p0]) (rest := []) ⟨hx, hb, hml, hown, hts⟩ (x_X1_find l dC dI cI cJ cZ cO ax ao n mo p0 hst hn hao hb0) (cwV 1 hts gX1_paidInAll_X1_find rfl rfl rfl (by decide +kernel) ⟨Nat.le_of_ble_eq_true rfl, Nat.le_of_ble_eq_true rfl⟩) (jRX_V hX hK hP [0, 1] rfl (ci := 1) (q0 := 0) rfl rfl rfl) rfl hl rfl (Nat.le_of_ble_eq_true rfl) dX1_paidInAll_2 ⟨Nat.le_of_ble_eq_true rfl, Nat.le_of_ble_eq_true rfl⟩ htab hlocks
set_option maxHeartbeats 4000000 in
set_option maxRecDepth 100000 in
/-- no such annuity -/
theorem x1_X1_owes (l : Launch) (dC : Nat → ClassId) (dI : Nat → Nat → Nat) (cI cJ cZ cO : ClassId) (ax : Nat → Nat) (ao : Nat → Option Nat) (n mo : Nat) (p0 : Int32) (hst : l.stackTraces = false) (hn : n ≤ 20) (hao : ∀ j, n ≤ j → ao j = none) (hb0 : ¬ vp_in p0 n) : vx_Met l yX1_owes wsX1_owes ({ frames := 7, cells := 1, slots := 6, locals := 104 }) (va_Pc [.ref (ax 0), .int p0] (jRX (dC, dI) (jTY cI cJ cZ cO) ([jXo ax n mo, jXa cO ax ao]))) (jFQ) (jXC eO) 1 6 (fun _ => False) := by
  refine j_ofx (cc := cX1_owes) (maxL := 2) (ret := (some .long)) (by decide) rfl (Nat.le_of_ble_eq_true rfl) ?_
  intro p e s m below meth c ls hx hb hr hml hts hown hlocks htab hl hpre
  have hown : s.vm.findClass RX1 = some m.cls := hown
  have hl : lv_has ls 2 [(0, .ref (ax 0)), (1, .int p0)] := hl
  obtain ⟨⟨hP, hK⟩, hX⟩ := hpre
  refine lv_aload_n hx hb dX1_owes_0 rfl (lv_at hl 0 rfl) ?_
  refine lv_iload_n hx hb dX1_owes_1 rfl (lv_at hl 1 rfl) ?_
  exact j_bxV (As := [.int p0]) (rest := []) ⟨hx, hb, hml, hown, hts⟩ (x_X1_find l dC dI cI cJ cZ cO ax ao n mo p0 hst hn hao hb0) (cwV 1 hts gX1_owes_X1_find rfl rfl rfl (by decide +kernel) ⟨Nat.le_of_ble_eq_true rfl, Nat.le_of_ble_eq_true rfl⟩) (jRX_V hX hK hP [0, 1] rfl (ci := 1) (q0 := 0) rfl rfl rfl) rfl hl rfl (Nat.le_of_ble_eq_true rfl) dX1_owes_2 ⟨Nat.le_of_ble_eq_true rfl, Nat.le_of_ble_eq_true rfl⟩ htab hlocks
set_option maxHeartbeats 4000000 in
set_option maxRecDepth 100000 in
/-- no such annuity -/
theorem x1_X1_fullAmount (l : Launch) (dC : Nat → ClassId) (dI : Nat → Nat → Nat) (cI cJ cZ cO : ClassId) (ax : Nat → Nat) (ao : Nat → Option Nat) (n mo : Nat) (p0 p1 : Int32) (hst : l.stackTraces = false) (hn : n ≤ 20) (hao : ∀ j, n ≤ j → ao j = none) (hb0 : ¬ vp_in p0 n) : vx_Met l yX1_fullAmount wsX1_fullAmount ({ frames := 7, cells := 1, slots := 6, locals := 104 }) (va_Pc [.ref (ax 0), .int p0, .int p1] (jRX (dC, dI) (jTY cI cJ cZ cO) ([jXo ax n mo, jXa cO ax ao]))) (jFQ) (jXC eO) 1 6 (fun _ => False) := by
  refine j_ofx (cc := cX1_fullAmount) (maxL := 4) (ret := (some .int)) (by decide) rfl (Nat.le_of_ble_eq_true rfl) ?_
  intro p e s m below meth c ls hx hb hr hml hts hown hlocks htab hl hpre
  have hown : s.vm.findClass RX1 = some m.cls := hown
  have hl : lv_has ls 4 [(0, .ref (ax 0)), (1, .int p0), (2, .int p1)] := hl
  obtain ⟨⟨hP, hK⟩, hX⟩ := hpre
  refine lv_aload_n hx hb dX1_fullAmount_0 rfl (lv_at hl 0 rfl) ?_
  refine lv_iload_n hx hb dX1_fullAmount_1 rfl (lv_at hl 1 rfl) ?_
  exact j_bxV (As := [.int p0]) (rest := []) ⟨hx, hb, hml, hown, hts⟩ (x_X1_find l dC dI cI cJ cZ cO ax ao n mo p0 hst hn hao hb0) (cwV 1 hts gX1_fullAmount_X1_find rfl rfl rfl (by decide +kernel) ⟨Nat.le_of_ble_eq_true rfl, Nat.le_of_ble_eq_true rfl⟩) (jRX_V hX hK hP [0, 1] rfl (ci := 1) (q0 := 0) rfl rfl rfl) rfl hl rfl (Nat.le_of_ble_eq_true rfl) dX1_fullAmount_2 ⟨Nat.le_of_ble_eq_true rfl, Nat.le_of_ble_eq_true rfl⟩ htab hlocks
set_option maxHeartbeats 4000000 in
set_option maxRecDepth 100000 in
/-- no such annuity -/
theorem x1_X1_carry (l : Launch) (dC : Nat → ClassId) (dI : Nat → Nat → Nat) (cI cJ cZ cO : ClassId) (ax : Nat → Nat) (ao : Nat → Option Nat) (n mo : Nat) (p0 p1 : Int32) (hst : l.stackTraces = false) (hn : n ≤ 20) (hao : ∀ j, n ≤ j → ao j = none) (hb0 : ¬ vp_in p0 n) : vx_Met l yX1_carry wsX1_carry ({ frames := 7, cells := 1, slots := 6, locals := 104 }) (va_Pc [.ref (ax 0), .int p0, .int p1] (jRX (dC, dI) (jTY cI cJ cZ cO) ([jXo ax n mo, jXa cO ax ao]))) (jFQ) (jXC eO) 1 6 (fun _ => False) := by
  refine j_ofx (cc := cX1_carry) (maxL := 4) (ret := (some .int)) (by decide) rfl (Nat.le_of_ble_eq_true rfl) ?_
  intro p e s m below meth c ls hx hb hr hml hts hown hlocks htab hl hpre
  have hown : s.vm.findClass RX1 = some m.cls := hown
  have hl : lv_has ls 4 [(0, .ref (ax 0)), (1, .int p0), (2, .int p1)] := hl
  obtain ⟨⟨hP, hK⟩, hX⟩ := hpre
  refine lv_aload_n hx hb dX1_carry_0 rfl (lv_at hl 0 rfl) ?_
  refine lv_iload_n hx hb dX1_carry_1 rfl (lv_at hl 1 rfl) ?_
  exact j_bxV (As := [.int p0]) (rest := []) ⟨hx, hb, hml, hown, hts⟩ (x_X1_find l dC dI cI cJ cZ cO ax ao n mo p0 hst hn hao hb0) (cwV 1 hts gX1_carry_X1_find rfl rfl rfl (by decide +kernel) ⟨Nat.le_of_ble_eq_true rfl, Nat.le_of_ble_eq_true rfl⟩) (jRX_V hX hK hP [0, 1] rfl (ci := 1) (q0 := 0) rfl rfl rfl) rfl hl rfl (Nat.le_of_ble_eq_true rfl) dX1_carry_2 ⟨Nat.le_of_ble_eq_true rfl, Nat.le_of_ble_eq_true rfl⟩ htab hlocks
set_option maxHeartbeats 4000000 in
set_option maxRecDepth 100000 in
/-- no such annuity -/
theorem x1_X1_entitled (l : Launch) (dC : Nat → ClassId) (dI : Nat → Nat → Nat) (cI cJ cZ cO : ClassId) (ax : Nat → Nat) (ao : Nat → Option Nat) (n mo : Nat) (p0 p1 : Int32) (hst : l.stackTraces = false) (hn : n ≤ 20) (hao : ∀ j, n ≤ j → ao j = none) (hb0 : ¬ vp_in p0 n) : vx_Met l yX1_entitled wsX1_entitled ({ frames := 7, cells := 1, slots := 6, locals := 104 }) (va_Pc [.ref (ax 0), .int p0, .int p1] (jRX (dC, dI) (jTY cI cJ cZ cO) ([jXo ax n mo, jXa cO ax ao]))) (jFQ) (jXC eO) 1 6 (fun _ => False) := by
  refine j_ofx (cc := cX1_entitled) (maxL := 4) (ret := (some .long)) (by decide) rfl (Nat.le_of_ble_eq_true rfl) ?_
  intro p e s m below meth c ls hx hb hr hml hts hown hlocks htab hl hpre
  have hown : s.vm.findClass RX1 = some m.cls := hown
  have hl : lv_has ls 4 [(0, .ref (ax 0)), (1, .int p0), (2, .int p1)] := hl
  obtain ⟨⟨hP, hK⟩, hX⟩ := hpre
  refine lv_aload_n hx hb dX1_entitled_0 rfl (lv_at hl 0 rfl) ?_
  refine lv_iload_n hx hb dX1_entitled_1 rfl (lv_at hl 1 rfl) ?_
  exact j_bxV (As := [.int p0]) (rest := []) ⟨hx, hb, hml, hown, hts⟩ (x_X1_find l dC dI cI cJ cZ cO ax ao n mo p0 hst hn hao hb0) (cwV 1 hts gX1_entitled_X1_find rfl rfl rfl (by decide +kernel) ⟨Nat.le_of_ble_eq_true rfl, Nat.le_of_ble_eq_true rfl⟩) (jRX_V hX hK hP [0, 1] rfl (ci := 1) (q0 := 0) rfl rfl rfl) rfl hl rfl (Nat.le_of_ble_eq_true rfl) dX1_entitled_2 ⟨Nat.le_of_ble_eq_true rfl, Nat.le_of_ble_eq_true rfl⟩ htab hlocks
set_option maxHeartbeats 4000000 in
set_option maxRecDepth 100000 in
/-- no such annuity -/
theorem x1_X1_entitledUpTo (l : Launch) (dC : Nat → ClassId) (dI : Nat → Nat → Nat) (cI cJ cZ cO : ClassId) (ax : Nat → Nat) (ao : Nat → Option Nat) (n mo : Nat) (p0 p1 : Int32) (hst : l.stackTraces = false) (hn : n ≤ 20) (hao : ∀ j, n ≤ j → ao j = none) (hb0 : ¬ vp_in p0 n) : vx_Met l yX1_entitledUpTo wsX1_entitledUpTo ({ frames := 7, cells := 1, slots := 6, locals := 104 }) (va_Pc [.ref (ax 0), .int p0, .int p1] (jRX (dC, dI) (jTY cI cJ cZ cO) ([jXo ax n mo, jXa cO ax ao]))) (jFQ) (jXC eO) 1 6 (fun _ => False) := by
  refine j_ofx (cc := cX1_entitledUpTo) (maxL := 4) (ret := (some .long)) (by decide) rfl (Nat.le_of_ble_eq_true rfl) ?_
  intro p e s m below meth c ls hx hb hr hml hts hown hlocks htab hl hpre
  have hown : s.vm.findClass RX1 = some m.cls := hown
  have hl : lv_has ls 4 [(0, .ref (ax 0)), (1, .int p0), (2, .int p1)] := hl
  obtain ⟨⟨hP, hK⟩, hX⟩ := hpre
  refine lv_aload_n hx hb dX1_entitledUpTo_0 rfl (lv_at hl 0 rfl) ?_
  refine lv_iload_n hx hb dX1_entitledUpTo_1 rfl (lv_at hl 1 rfl) ?_
  exact j_bxV (As := [.int p0]) (rest := []) ⟨hx, hb, hml, hown, hts⟩ (x_X1_find l dC dI cI cJ cZ cO ax ao n mo p0 hst hn hao hb0) (cwV 1 hts gX1_entitledUpTo_X1_find rfl rfl rfl (by decide +kernel) ⟨Nat.le_of_ble_eq_true rfl, Nat.le_of_ble_eq_true rfl⟩) (jRX_V hX hK hP [0, 1] rfl (ci := 1) (q0 := 0) rfl rfl rfl) rfl hl rfl (Nat.le_of_ble_eq_true rfl) dX1_entitledUpTo_2 ⟨Nat.le_of_ble_eq_true rfl, Nat.le_of_ble_eq_true rfl⟩ htab hlocks
set_option maxHeartbeats 4000000 in
set_option maxRecDepth 100000 in
/-- no such annuity -/
theorem x1_X1_protection (l : Launch) (dC : Nat → ClassId) (dI : Nat → Nat → Nat) (cI cJ cZ cO : ClassId) (ax : Nat → Nat) (ao : Nat → Option Nat) (n mo : Nat) (p0 : Int32) (hst : l.stackTraces = false) (hn : n ≤ 20) (hao : ∀ j, n ≤ j → ao j = none) (hb0 : ¬ vp_in p0 n) : vx_Met l yX1_protection wsX1_protection ({ frames := 7, cells := 1, slots := 6, locals := 104 }) (va_Pc [.ref (ax 0), .int p0] (jRX (dC, dI) (jTY cI cJ cZ cO) ([jXo ax n mo, jXa cO ax ao]))) (jFQ) (jXC eO) 1 6 (fun _ => False) := by
  refine j_ofx (cc := cX1_protection) (maxL := 2) (ret := (some .long)) (by decide) rfl (Nat.le_of_ble_eq_true rfl) ?_
  intro p e s m below meth c ls hx hb hr hml hts hown hlocks htab hl hpre
  have hown : s.vm.findClass RX1 = some m.cls := hown
  have hl : lv_has ls 2 [(0, .ref (ax 0)), (1, .int p0)] := hl
  obtain ⟨⟨hP, hK⟩, hX⟩ := hpre
  refine lv_aload_n hx hb dX1_protection_0 rfl (lv_at hl 0 rfl) ?_
  refine lv_iload_n hx hb dX1_protection_1 rfl (lv_at hl 1 rfl) ?_
  exact j_bxV (As := [.int p0]) (rest := []) ⟨hx, hb, hml, hown, hts⟩ (x_X1_find l dC dI cI cJ cZ cO ax ao n mo p0 hst hn hao hb0) (cwV 1 hts gX1_protection_X1_find rfl rfl rfl (by decide +kernel) ⟨Nat.le_of_ble_eq_true rfl, Nat.le_of_ble_eq_true rfl⟩) (jRX_V hX hK hP [0, 1] rfl (ci := 1) (q0 := 0) rfl rfl rfl) rfl hl rfl (Nat.le_of_ble_eq_true rfl) dX1_protection_2 ⟨Nat.le_of_ble_eq_true rfl, Nat.le_of_ble_eq_true rfl⟩ htab hlocks
set_option maxHeartbeats 4000000 in
set_option maxRecDepth 100000 in
/-- percent out of range -/
theorem x2_X1_setSurvivor (l : Launch) (dC : Nat → ClassId) (dI : Nat → Nat → Nat) (cI cJ cZ cO : ClassId) (ax : Nat → Nat) (ao : Nat → Option Nat) (n mo : Nat) (iv : Nat → Int32) (aa an : Nat → Nat) (kp : Int64) (py : Nat → Int64) (k : Nat) (p1 p2 : Int32) (hst : l.stackTraces = false) (hv : jV an) (hm : mo ≤ 240) (hk : k < 20) (hao : ao k = some (aa 0)) (h : p1 < nI 0 ∨ nI 100 < p1) : vx_Met l yX1_setSurvivor wsX1_setSurvivor ({ frames := 7, cells := 1, slots := 6, locals := 104 }) (va_Pc [.ref (ax 0), .int (nI k), .int p1, .int p2] (jRX (dC, dI) (jTY cI cJ cZ cO) (jFW cI cJ cO ax ao n mo iv aa an kp py))) (jFQ) (jXC eA) 1 6 (fun _ => False) := by
  refine j_ofx (cc := cX1_setSurvivor) (maxL := 5) (ret := none) (by decide) rfl (Nat.le_of_ble_eq_true rfl) ?_
  intro p e s m below meth c ls hx hb hr hml hts hown hlocks htab hl hpre
  have hown : s.vm.findClass RX1 = some m.cls := hown
  have hl : lv_has ls 5 [(0, .ref (ax 0)), (1, .int (nI k)), (2, .int p1), (3, .int p2)] := hl
  obtain ⟨v0, v1, v2, v3, v4, v5, v6, v7, v8, v9⟩ := id hv
  obtain ⟨⟨hP, hK⟩, hX⟩ := hpre
  refine lv_aload_n hx hb dX1_setSurvivor_0 rfl (lv_at hl 0 rfl) ?_
  refine lv_iload_n hx hb dX1_setSurvivor_1 rfl (lv_at hl 1 rfl) ?_
  refine j_cR_ (As := [.int (nI k)]) (rest := []) ⟨hx, hb, hml, hown, hts⟩ (c_X1_find l dC dI cI cJ cZ cO ax ao n mo k (aa 0) hk hao) (cwV 1 hts gX1_setSurvivor_X1_find rfl rfl rfl (by decide +kernel) ⟨Nat.le_of_ble_eq_true rfl, Nat.le_of_ble_eq_true rfl⟩) (jR_V hK hP [0, 1] rfl (ci := 1) (q0 := 0) rfl rfl rfl) rfl hl rfl (Nat.le_of_ble_eq_true rfl) dX1_setSurvivor_2 ⟨Nat.le_of_ble_eq_true rfl, Nat.le_of_ble_eq_true rfl⟩ ?_
  refine lv_astore (lv' := [(4, .ref (aa 0)), (0, .ref (ax 0)), (1, .int (nI k)), (2, .int p1), (3, .int p2)]) hx hb dX1_setSurvivor_5 hl (by decide) rfl (fun ls hl => ?_)
  refine lv_iload_n hx hb dX1_setSurvivor_7 rfl (lv_at hl 3 rfl) ?_
  refine lv_iconst (v := nI 0) hx hb dX1_setSurvivor_8 (by decide) ?_
  refine lv_bipush (v := nI 100) hx hb dX1_setSurvivor_9 (by decide) ?_
  exact j_bxS (As := [.int p1, .int (nI 0), .int (nI 100)]) (rest := []) ⟨hx, hb, hml, hown, hts⟩ (x_X1_requireRange l dC dI p1 (nI 0) (nI 100) hst h) (cwS 3 hts gX1_setSurvivor_X1_requireRange rfl rfl rfl (by decide +kernel) ⟨Nat.le_of_ble_eq_true rfl, Nat.le_of_ble_eq_true rfl⟩) (jX_S hX) rfl hl rfl (Nat.le_of_ble_eq_true rfl) dX1_setSurvivor_11 ⟨Nat.le_of_ble_eq_true rfl, Nat.le_of_ble_eq_true rfl⟩ htab hlocks
set_option maxHeartbeats 4000000 in
set_option maxRecDepth 100000 in
/-- cap out of range -/
theorem x2_X1_setCap (l : Launch) (dC : Nat → ClassId) (dI : Nat → Nat → Nat) (cI cJ cZ cO : ClassId) (ax : Nat → Nat) (ao : Nat → Option Nat) (n mo : Nat) (iv : Nat → Int32) (aa an : Nat → Nat) (kp : Int64) (py : Nat → Int64) (k : Nat) (p1 : Int32) (hst : l.stackTraces = false) (hv : jV an) (hm : mo ≤ 240) (hk : k < 20) (hao : ao k = some (aa 0)) (h : p1 < nI 0 ∨ nI 200 < p1) : vx_Met l yX1_setCap wsX1_setCap ({ frames := 7, cells := 1, slots := 6, locals := 104 }) (va_Pc [.ref (ax 0), .int (nI k), .int p1] (jRX (dC, dI) (jTY cI cJ cZ cO) (jFW cI cJ cO ax ao n mo iv aa an kp py))) (jFQ) (jXC eA) 1 6 (fun _ => False) := by
  refine j_ofx (cc := cX1_setCap) (maxL := 4) (ret := none) (by decide) rfl (Nat.le_of_ble_eq_true rfl) ?_
  intro p e s m below meth c ls hx hb hr hml hts hown hlocks htab hl hpre
  have hown : s.vm.findClass RX1 = some m.cls := hown
  have hl : lv_has ls 4 [(0, .ref (ax 0)), (1, .int (nI k)), (2, .int p1)] := hl
  obtain ⟨v0, v1, v2, v3, v4, v5, v6, v7, v8, v9⟩ := id hv
  obtain ⟨⟨hP, hK⟩, hX⟩ := hpre
  refine lv_aload_n hx hb dX1_setCap_0 rfl (lv_at hl 0 rfl) ?_
  refine lv_iload_n hx hb dX1_setCap_1 rfl (lv_at hl 1 rfl) ?_
  refine j_cR_ (As := [.int (nI k)]) (rest := []) ⟨hx, hb, hml, hown, hts⟩ (c_X1_find l dC dI cI cJ cZ cO ax ao n mo k (aa 0) hk hao) (cwV 1 hts gX1_setCap_X1_find rfl rfl rfl (by decide +kernel) ⟨Nat.le_of_ble_eq_true rfl, Nat.le_of_ble_eq_true rfl⟩) (jR_V hK hP [0, 1] rfl (ci := 1) (q0 := 0) rfl rfl rfl) rfl hl rfl (Nat.le_of_ble_eq_true rfl) dX1_setCap_2 ⟨Nat.le_of_ble_eq_true rfl, Nat.le_of_ble_eq_true rfl⟩ ?_
  refine lv_astore_n (lv' := [(3, .ref (aa 0)), (0, .ref (ax 0)), (1, .int (nI k)), (2, .int p1)]) hx hb dX1_setCap_5 rfl hl (by decide) rfl (fun ls hl => ?_)
  refine lv_iload_n hx hb dX1_setCap_6 rfl (lv_at hl 3 rfl) ?_
  refine lv_iconst (v := nI 0) hx hb dX1_setCap_7 (by decide) ?_
  refine lv_sipush (v := nI 200) hx hb dX1_setCap_8 (by decide) ?_
  exact j_bxS (As := [.int p1, .int (nI 0), .int (nI 200)]) (rest := []) ⟨hx, hb, hml, hown, hts⟩ (x_X1_requireRange l dC dI p1 (nI 0) (nI 200) hst h) (cwS 3 hts gX1_setCap_X1_requireRange rfl rfl rfl (by decide +kernel) ⟨Nat.le_of_ble_eq_true rfl, Nat.le_of_ble_eq_true rfl⟩) (jX_S hX) rfl hl rfl (Nat.le_of_ble_eq_true rfl) dX1_setCap_11 ⟨Nat.le_of_ble_eq_true rfl, Nat.le_of_ble_eq_true rfl⟩ htab hlocks
set_option maxHeartbeats 4000000 in
set_option maxRecDepth 100000 in
/-- price out of range -/
theorem x2_X1_protect (l : Launch) (dC : Nat → ClassId) (dI : Nat → Nat → Nat) (cI cJ cZ cO : ClassId) (ax : Nat → Nat) (ao : Nat → Option Nat) (n mo : Nat) (iv : Nat → Int32) (aa an : Nat → Nat) (kp : Int64) (py : Nat → Int64) (k : Nat) (p1 p2 : Int32) (hst : l.stackTraces = false) (hv : jV an) (hm : mo ≤ 240) (hk : k < 20) (hao : ao k = some (aa 0)) (h : p1 < nI 0 ∨ nI 10000000 < p1) : vx_Met l yX1_protect wsX1_protect ({ frames := 7, cells := 1, slots := 6, locals := 104 }) (va_Pc [.ref (ax 0), .int (nI k), .int p1, .int p2] (jRX (dC, dI) (jTY cI cJ cZ cO) (jFW cI cJ cO ax ao n mo iv aa an kp py))) (jFQ) (jXC eA) 1 6 (fun _ => False) := by
  refine j_ofx (cc := cX1_protect) (maxL := 5) (ret := none) (by decide) rfl (Nat.le_of_ble_eq_true rfl) ?_
  intro p e s m below meth c ls hx hb hr hml hts hown hlocks htab hl hpre
  have hown : s.vm.findClass RX1 = some m.cls := hown
  have hl : lv_has ls 5 [(0, .ref (ax 0)), (1, .int (nI k)), (2, .int p1), (3, .int p2)] := hl
  obtain ⟨v0, v1, v2, v3, v4, v5, v6, v7, v8, v9⟩ := id hv
  obtain ⟨⟨hP, hK⟩, hX⟩ := hpre
  refine lv_aload_n hx hb dX1_protect_0 rfl (lv_at hl 0 rfl) ?_
  refine lv_iload_n hx hb dX1_protect_1 rfl (lv_at hl 1 rfl) ?_
  refine j_cR_ (As := [.int (nI k)]) (rest := []) ⟨hx, hb, hml, hown, hts⟩ (c_X1_find l dC dI cI cJ cZ cO ax ao n mo k (aa 0) hk hao) (cwV 1 hts gX1_protect_X1_find rfl rfl rfl (by decide +kernel) ⟨Nat.le_of_ble_eq_true rfl, Nat.le_of_ble_eq_true rfl⟩) (jR_V hK hP [0, 1] rfl (ci := 1) (q0 := 0) rfl rfl rfl) rfl hl rfl (Nat.le_of_ble_eq_true rfl) dX1_protect_2 ⟨Nat.le_of_ble_eq_true rfl, Nat.le_of_ble_eq_true rfl⟩ ?_
  refine lv_astore (lv' := [(4, .ref (aa 0)), (0, .ref (ax 0)), (1, .int (nI k)), (2, .int p1), (3, .int p2)]) hx hb dX1_protect_5 hl (by decide) rfl (fun ls hl => ?_)
  refine lv_iload_n hx hb dX1_protect_7 rfl (lv_at hl 3 rfl) ?_
  refine lv_iconst (v := nI 0) hx hb dX1_protect_8 (by decide) ?_
  refine lv_ldc hx hb hown (hts (.constant RX1 62 (10000000)) (List.mem_of_getElem? (i := 1) rfl)) dX1_protect_9 ?_
  refine j_i (y := nI 10000000) (by decide +kernel) ?_
  exact j_bxS (As := [.int p1, .int (nI 0), .int (nI 10000000)]) (rest := []) ⟨hx, hb, hml, hown, hts⟩ (x_X1_requireRange l dC dI p1 (nI 0) (nI 10000000) hst h) (cwS 3 hts gX1_protect_X1_requireRange rfl rfl rfl (by decide +kernel) ⟨Nat.le_of_ble_eq_true rfl, Nat.le_of_ble_eq_true rfl⟩) (jX_S hX) rfl hl rfl (Nat.le_of_ble_eq_true rfl) dX1_protect_11 ⟨Nat.le_of_ble_eq_true rfl, Nat.le_of_ble_eq_true rfl⟩ htab hlocks
set_option maxHeartbeats 4000000 in
set_option maxRecDepth 100000 in
/-- percent out of range -/
theorem x2b_X1_protect (l : Launch) (dC : Nat → ClassId) (dI : Nat → Nat → Nat) (cI cJ cZ cO : ClassId) (ax : Nat → Nat) (ao : Nat → Option Nat) (n mo : Nat) (iv : Nat → Int32) (aa an : Nat → Nat) (kp : Int64) (py : Nat → Int64) (k : Nat) (v : Nat) (p2 : Int32) (hst : l.stackTraces = false) (hv : jV an) (hm : mo ≤ 240) (hk : k < 20) (hao : ao k = some (aa 0)) (h1 : v ≤ 10000000) (h : p2 < nI 0 ∨ nI 100 < p2) : vx_Met l yX1_protect wsX1_protect ({ frames := 7, cells := 1, slots := 6, locals := 104 }) (va_Pc [.ref (ax 0), .int (nI k), .int (nI v), .int p2] (jRX (dC, dI) (jTY cI cJ cZ cO) (jFW cI cJ cO ax ao n mo iv aa an kp py))) (jFQ) (jXC eA) 1 6 (fun _ => False) := by
  refine j_ofx (cc := cX1_protect) (maxL := 5) (ret := none) (by decide) rfl (Nat.le_of_ble_eq_true rfl) ?_
  intro p e s m below meth c ls hx hb hr hml hts hown hlocks htab hl hpre
  have hown : s.vm.findClass RX1 = some m.cls := hown
  have hl : lv_has ls 5 [(0, .ref (ax 0)), (1, .int (nI k)), (2, .int (nI v)), (3, .int p2)] := hl
  obtain ⟨v0, v1, v2, v3, v4, v5, v6, v7, v8, v9⟩ := id hv
  obtain ⟨⟨hP, hK⟩, hX⟩ := hpre
  refine lv_aload_n hx hb dX1_protect_0 rfl (lv_at hl 0 rfl) ?_
  refine lv_iload_n hx hb dX1_protect_1 rfl (lv_at hl 1 rfl) ?_
  refine j_cR_ (As := [.int (nI k)]) (rest := []) ⟨hx, hb, hml, hown, hts⟩ (c_X1_find l dC dI cI cJ cZ cO ax ao n mo k (aa 0) hk hao) (cwV 1 hts gX1_protect_X1_find rfl rfl rfl (by decide +kernel) ⟨Nat.le_of_ble_eq_true rfl, Nat.le_of_ble_eq_true rfl⟩) (jR_V hK hP [0, 1] rfl (ci := 1) (q0 := 0) rfl rfl rfl) rfl hl rfl (Nat.le_of_ble_eq_true rfl) dX1_protect_2 ⟨Nat.le_of_ble_eq_true rfl, Nat.le_of_ble_eq_true rfl⟩ ?_
  refine lv_astore (lv' := [(4, .ref (aa 0)), (0, .ref (ax 0)), (1, .int (nI k)), (2, .int (nI v)), (3, .int p2)]) hx hb dX1_protect_5 hl (by decide) rfl (fun ls hl => ?_)
  refine lv_iload_n hx hb dX1_protect_7 rfl (lv_at hl 3 rfl) ?_
  refine lv_iconst (v := nI 0) hx hb dX1_protect_8 (by decide) ?_
  refine lv_ldc hx hb hown (hts (.constant RX1 62 (10000000)) (List.mem_of_getElem? (i := 1) rfl)) dX1_protect_9 ?_
  refine j_i (y := nI 10000000) (by decide +kernel) ?_
  refine j_sV (As := [.int (nI v), .int (nI 0), .int (nI 10000000)]) (rest := []) ⟨hx, hb, hml, hown, hts⟩ (c_X1_requireRange l dC dI (nI v) (nI 0) (nI 10000000) (nI_nlt (by omega) (by omega)) (nI_nlt (by omega) (by omega))) (cwS 3 hts gX1_protect_X1_requireRange rfl rfl rfl (by decide +kernel) ⟨Nat.le_of_ble_eq_true rfl, Nat.le_of_ble_eq_true rfl⟩) rfl hl rfl (Nat.le_of_ble_eq_true rfl) dX1_protect_11 ⟨Nat.le_of_ble_eq_true rfl, Nat.le_of_ble_eq_true rfl⟩ ?_
  refine lv_iload_n hx hb dX1_protect_14 rfl (lv_at hl 4 rfl) ?_
  refine lv_iconst (v := nI 0) hx hb dX1_protect_15 (by decide) ?_
  refine lv_bipush (v := nI 100) hx hb dX1_protect_16 (by decide) ?_
  exact j_bxS (As := [.int p2, .int (nI 0), .int (nI 100)]) (rest := []) ⟨hx, hb, hml, hown, hts⟩ (x_X1_requireRange l dC dI p2 (nI 0) (nI 100) hst h) (cwS 3 hts gX1_protect_X1_requireRange rfl rfl rfl (by decide +kernel) ⟨Nat.le_of_ble_eq_true rfl, Nat.le_of_ble_eq_true rfl⟩) (jX_S hX) rfl hl rfl (Nat.le_of_ble_eq_true rfl) dX1_protect_18 ⟨Nat.le_of_ble_eq_true rfl, Nat.le_of_ble_eq_true rfl⟩ htab hlocks
set_option maxHeartbeats 4000000 in
set_option maxRecDepth 100000 in
/-- no life -/
theorem x2_X1_die (l : Launch) (dC : Nat → ClassId) (dI : Nat → Nat → Nat) (cI cJ cZ cO : ClassId) (ax : Nat → Nat) (ao : Nat → Option Nat) (n mo : Nat) (iv : Nat → Int32) (aa an : Nat → Nat) (kp : Int64) (py : Nat → Int64) (k : Nat) (p1 p2 : Int32) (hst : l.stackTraces = false) (hv : jV an) (hm : mo ≤ 240) (hk : k < 20) (hao : ao k = some (aa 0)) (h : p1 < nI 0 ∨ nI 1 < p1) : vx_Met l yX1_die wsX1_die ({ frames := 7, cells := 1, slots := 6, locals := 104 }) (va_Pc [.ref (ax 0), .int (nI k), .int p1, .int p2] (jRX (dC, dI) (jTY cI cJ cZ cO) (jFW cI cJ cO ax ao n mo iv aa an kp py))) (jFQ) (jXC eA) 1 6 (fun _ => False) := by
  refine j_ofx (cc := cX1_die) (maxL := 5) (ret := none) (by decide) rfl (Nat.le_of_ble_eq_true rfl) ?_
  intro p e s m below meth c ls hx hb hr hml hts hown hlocks htab hl hpre
  have hown : s.vm.findClass RX1 = some m.cls := hown
  have hl : lv_has ls 5 [(0, .ref (ax 0)), (1, .int (nI k)), (2, .int p1), (3, .int p2)] := hl
  obtain ⟨v0, v1, v2, v3, v4, v5, v6, v7, v8, v9⟩ := id hv
  obtain ⟨⟨hP, hK⟩, hX⟩ := hpre
  refine lv_aload_n hx hb dX1_die_0 rfl (lv_at hl 0 rfl) ?_
  refine lv_iload_n hx hb dX1_die_1 rfl (lv_at hl 1 rfl) ?_
  refine j_cR_ (As := [.int (nI k)]) (rest := []) ⟨hx, hb, hml, hown, hts⟩ (c_X1_find l dC dI cI cJ cZ cO ax ao n mo k (aa 0) hk hao) (cwV 1 hts gX1_die_X1_find rfl rfl rfl (by decide +kernel) ⟨Nat.le_of_ble_eq_true rfl, Nat.le_of_ble_eq_true rfl⟩) (jR_V hK hP [0, 1] rfl (ci := 1) (q0 := 0) rfl rfl rfl) rfl hl rfl (Nat.le_of_ble_eq_true rfl) dX1_die_2 ⟨Nat.le_of_ble_eq_true rfl, Nat.le_of_ble_eq_true rfl⟩ ?_
  refine lv_astore (lv' := [(4, .ref (aa 0)), (0, .ref (ax 0)), (1, .int (nI k)), (2, .int p1), (3, .int p2)]) hx hb dX1_die_5 hl (by decide) rfl (fun ls hl => ?_)
  refine lv_iload_n hx hb dX1_die_7 rfl (lv_at hl 3 rfl) ?_
  refine lv_iconst (v := nI 0) hx hb dX1_die_8 (by decide) ?_
  refine lv_iconst (v := nI 1) hx hb dX1_die_9 (by decide) ?_
  exact j_bxS (As := [.int p1, .int (nI 0), .int (nI 1)]) (rest := []) ⟨hx, hb, hml, hown, hts⟩ (x_X1_requireRange l dC dI p1 (nI 0) (nI 1) hst h) (cwS 3 hts gX1_die_X1_requireRange rfl rfl rfl (by decide +kernel) ⟨Nat.le_of_ble_eq_true rfl, Nat.le_of_ble_eq_true rfl⟩) (jX_S hX) rfl hl rfl (Nat.le_of_ble_eq_true rfl) dX1_die_10 ⟨Nat.le_of_ble_eq_true rfl, Nat.le_of_ble_eq_true rfl⟩ htab hlocks
set_option maxHeartbeats 4000000 in
set_option maxRecDepth 100000 in
/-- month out of range -/
theorem x2b_X1_die (l : Launch) (dC : Nat → ClassId) (dI : Nat → Nat → Nat) (cI cJ cZ cO : ClassId) (ax : Nat → Nat) (ao : Nat → Option Nat) (n mo : Nat) (iv : Nat → Int32) (aa an : Nat → Nat) (kp : Int64) (py : Nat → Int64) (k : Nat) (i : Nat) (p2 : Int32) (hst : l.stackTraces = false) (hv : jV an) (hm : mo ≤ 240) (hk : k < 20) (hao : ao k = some (aa 0)) (hi : i ≤ 1) (h : p2 < nI 0 ∨ nI (min mo 239) < p2) : vx_Met l yX1_die wsX1_die ({ frames := 7, cells := 1, slots := 6, locals := 104 }) (va_Pc [.ref (ax 0), .int (nI k), .int (nI i), .int p2] (jRX (dC, dI) (jTY cI cJ cZ cO) (jFW cI cJ cO ax ao n mo iv aa an kp py))) (jFQ) (jXC eA) 1 6 (fun _ => False) := by
  refine j_ofx (cc := cX1_die) (maxL := 5) (ret := none) (by decide) rfl (Nat.le_of_ble_eq_true rfl) ?_
  intro p e s m below meth c ls hx hb hr hml hts hown hlocks htab hl hpre
  have hown : s.vm.findClass RX1 = some m.cls := hown
  have hl : lv_has ls 5 [(0, .ref (ax 0)), (1, .int (nI k)), (2, .int (nI i)), (3, .int p2)] := hl
  obtain ⟨v0, v1, v2, v3, v4, v5, v6, v7, v8, v9⟩ := id hv
  obtain ⟨⟨hP, hK⟩, hX⟩ := hpre
  refine lv_aload_n hx hb dX1_die_0 rfl (lv_at hl 0 rfl) ?_
  refine lv_iload_n hx hb dX1_die_1 rfl (lv_at hl 1 rfl) ?_
  refine j_cR_ (As := [.int (nI k)]) (rest := []) ⟨hx, hb, hml, hown, hts⟩ (c_X1_find l dC dI cI cJ cZ cO ax ao n mo k (aa 0) hk hao) (cwV 1 hts gX1_die_X1_find rfl rfl rfl (by decide +kernel) ⟨Nat.le_of_ble_eq_true rfl, Nat.le_of_ble_eq_true rfl⟩) (jR_V hK hP [0, 1] rfl (ci := 1) (q0 := 0) rfl rfl rfl) rfl hl rfl (Nat.le_of_ble_eq_true rfl) dX1_die_2 ⟨Nat.le_of_ble_eq_true rfl, Nat.le_of_ble_eq_true rfl⟩ ?_
  refine lv_astore (lv' := [(4, .ref (aa 0)), (0, .ref (ax 0)), (1, .int (nI k)), (2, .int (nI i)), (3, .int p2)]) hx hb dX1_die_5 hl (by decide) rfl (fun ls hl => ?_)
  refine lv_iload_n hx hb dX1_die_7 rfl (lv_at hl 3 rfl) ?_
  refine lv_iconst (v := nI 0) hx hb dX1_die_8 (by decide) ?_
  refine lv_iconst (v := nI 1) hx hb dX1_die_9 (by decide) ?_
  refine j_sV (As := [.int (nI i), .int (nI 0), .int (nI 1)]) (rest := []) ⟨hx, hb, hml, hown, hts⟩ (c_X1_requireRange l dC dI (nI i) (nI 0) (nI 1) (nI_nlt (by omega) (by omega)) (nI_nlt (by omega) (by omega))) (cwS 3 hts gX1_die_X1_requireRange rfl rfl rfl (by decide +kernel) ⟨Nat.le_of_ble_eq_true rfl, Nat.le_of_ble_eq_true rfl⟩) rfl hl rfl (Nat.le_of_ble_eq_true rfl) dX1_die_10 ⟨Nat.le_of_ble_eq_true rfl, Nat.le_of_ble_eq_true rfl⟩ ?_
  refine lv_iload_n hx hb dX1_die_13 rfl (lv_at hl 4 rfl) ?_
  refine lv_iconst (v := nI 0) hx hb dX1_die_14 (by decide) ?_
  refine lv_aload_n hx hb dX1_die_15 rfl (lv_at hl 1 rfl) ?_
  refine va_get (D := (dC, dI)) (ci := 1) (v := .int (nI mo)) (C := RX1) (T := TX1) (N := 4) hx hb hts (fun _ h => List.mem_cons_of_mem _ (List.mem_append_left _ (List.mem_append_left _ (List.mem_append_left _ (List.mem_append_left _ (List.mem_append_right _ h)))))) hown hK hP 0 rfl rfl 3 (by decide) (hts (.fieldLink RX1 23 "JointAnnuity" "monthThatGoesOn" "I") (List.mem_of_getElem? (i := 3) rfl)) (fun _ h9 => h9) rfl dX1_die_16 ?_
  refine lv_sipush (v := nI 239) hx hb dX1_die_19 (by decide) ?_
  refine va_mmin hx hb (hml.trans hl.1.symm) hown (hts (.methodLink RX1 69 Lib.Math.min.name) (List.mem_of_getElem? (i := 4) rfl)) (hts (.static Lib.Math.min.name) (List.mem_of_getElem? (i := 5) rfl)) (hts (.initialized "java/lang/Math") (List.mem_of_getElem? (i := 6) rfl)) (hts (.code Lib.Math.min.name Lib.Math.min.code 2 (some .int)) (List.mem_of_getElem? (i := 7) rfl)) (Nat.le_of_ble_eq_true rfl) (Nat.le_of_ble_eq_true rfl) (Nat.le_of_ble_eq_true rfl) (Nat.le_of_ble_eq_true rfl) dX1_die_22 ?_
  refine j_i (y := nI (min mo 239)) (jminI (by omega) (by omega)) ?_
  exact j_bxS (As := [.int p2, .int (nI 0), .int (nI (min mo 239))]) (rest := []) ⟨hx, hb, hml, hown, hts⟩ (x_X1_requireRange l dC dI p2 (nI 0) (nI (min mo 239)) hst h) (cwS 3 hts gX1_die_X1_requireRange rfl rfl rfl (by decide +kernel) ⟨Nat.le_of_ble_eq_true rfl, Nat.le_of_ble_eq_true rfl⟩) (jX_S hX) rfl hl rfl (Nat.le_of_ble_eq_true rfl) dX1_die_25 ⟨Nat.le_of_ble_eq_true rfl, Nat.le_of_ble_eq_true rfl⟩ htab hlocks
set_option maxHeartbeats 4000000 in
set_option maxRecDepth 100000 in
/-- no life -/
theorem x2_X1_takeBack (l : Launch) (dC : Nat → ClassId) (dI : Nat → Nat → Nat) (cI cJ cZ cO : ClassId) (ax : Nat → Nat) (ao : Nat → Option Nat) (n mo : Nat) (iv : Nat → Int32) (aa an : Nat → Nat) (kp : Int64) (py : Nat → Int64) (k : Nat) (p1 : Int32) (hst : l.stackTraces = false) (hv : jV an) (hm : mo ≤ 240) (hk : k < 20) (hao : ao k = some (aa 0)) (h : p1 < nI 0 ∨ nI 1 < p1) : vx_Met l yX1_takeBack wsX1_takeBack ({ frames := 7, cells := 1, slots := 6, locals := 104 }) (va_Pc [.ref (ax 0), .int (nI k), .int p1] (jRX (dC, dI) (jTY cI cJ cZ cO) (jFW cI cJ cO ax ao n mo iv aa an kp py))) (jFQ) (jXC eA) 1 6 (fun _ => False) := by
  refine j_ofx (cc := cX1_takeBack) (maxL := 5) (ret := (some .int)) (by decide) rfl (Nat.le_of_ble_eq_true rfl) ?_
  intro p e s m below meth c ls hx hb hr hml hts hown hlocks htab hl hpre
  have hown : s.vm.findClass RX1 = some m.cls := hown
  have hl : lv_has ls 5 [(0, .ref (ax 0)), (1, .int (nI k)), (2, .int p1)] := hl
  obtain ⟨v0, v1, v2, v3, v4, v5, v6, v7, v8, v9⟩ := id hv
  obtain ⟨⟨hP, hK⟩, hX⟩ := hpre
  refine lv_aload_n hx hb dX1_takeBack_0 rfl (lv_at hl 0 rfl) ?_
  refine lv_iload_n hx hb dX1_takeBack_1 rfl (lv_at hl 1 rfl) ?_
  refine j_cR_ (As := [.int (nI k)]) (rest := []) ⟨hx, hb, hml, hown, hts⟩ (c_X1_find l dC dI cI cJ cZ cO ax ao n mo k (aa 0) hk hao) (cwV 1 hts gX1_takeBack_X1_find rfl rfl rfl (by decide +kernel) ⟨Nat.le_of_ble_eq_true rfl, Nat.le_of_ble_eq_true rfl⟩) (jR_V hK hP [0, 1] rfl (ci := 1) (q0 := 0) rfl rfl rfl) rfl hl rfl (Nat.le_of_ble_eq_true rfl) dX1_takeBack_2 ⟨Nat.le_of_ble_eq_true rfl, Nat.le_of_ble_eq_true rfl⟩ ?_
  refine lv_astore_n (lv' := [(3, .ref (aa 0)), (0, .ref (ax 0)), (1, .int (nI k)), (2, .int p1)]) hx hb dX1_takeBack_5 rfl hl (by decide) rfl (fun ls hl => ?_)
  refine lv_iload_n hx hb dX1_takeBack_6 rfl (lv_at hl 3 rfl) ?_
  refine lv_iconst (v := nI 0) hx hb dX1_takeBack_7 (by decide) ?_
  refine lv_iconst (v := nI 1) hx hb dX1_takeBack_8 (by decide) ?_
  exact j_bxS (As := [.int p1, .int (nI 0), .int (nI 1)]) (rest := []) ⟨hx, hb, hml, hown, hts⟩ (x_X1_requireRange l dC dI p1 (nI 0) (nI 1) hst h) (cwS 3 hts gX1_takeBack_X1_requireRange rfl rfl rfl (by decide +kernel) ⟨Nat.le_of_ble_eq_true rfl, Nat.le_of_ble_eq_true rfl⟩) (jX_S hX) rfl hl rfl (Nat.le_of_ble_eq_true rfl) dX1_takeBack_9 ⟨Nat.le_of_ble_eq_true rfl, Nat.le_of_ble_eq_true rfl⟩ htab hlocks
set_option maxHeartbeats 4000000 in
set_option maxRecDepth 100000 in
/-- amount out of range -/
theorem x2_X1_giveBack (l : Launch) (dC : Nat → ClassId) (dI : Nat → Nat → Nat) (cI cJ cZ cO : ClassId) (ax : Nat → Nat) (ao : Nat → Option Nat) (n mo : Nat) (iv : Nat → Int32) (aa an : Nat → Nat) (kp : Int64) (py : Nat → Int64) (k : Nat) (p1 : Int32) (hst : l.stackTraces = false) (hv : jV an) (hm : mo ≤ 240) (hk : k < 20) (hao : ao k = some (aa 0)) (h : p1 < nI 1 ∨ nI 100000000 < p1) : vx_Met l yX1_giveBack wsX1_giveBack ({ frames := 7, cells := 1, slots := 6, locals := 104 }) (va_Pc [.ref (ax 0), .int (nI k), .int p1] (jRX (dC, dI) (jTY cI cJ cZ cO) (jFW cI cJ cO ax ao n mo iv aa an kp py))) (jFQ) (jXC eA) 1 6 (fun _ => False) := by
  refine j_ofx (cc := cX1_giveBack) (maxL := 6) (ret := (some .long)) (by decide) rfl (Nat.le_of_ble_eq_true rfl) ?_
  intro p e s m below meth c ls hx hb hr hml hts hown hlocks htab hl hpre
  have hown : s.vm.findClass RX1 = some m.cls := hown
  have hl : lv_has ls 6 [(0, .ref (ax 0)), (1, .int (nI k)), (2, .int p1)] := hl
  obtain ⟨v0, v1, v2, v3, v4, v5, v6, v7, v8, v9⟩ := id hv
  obtain ⟨⟨hP, hK⟩, hX⟩ := hpre
  refine lv_aload_n hx hb dX1_giveBack_0 rfl (lv_at hl 0 rfl) ?_
  refine lv_iload_n hx hb dX1_giveBack_1 rfl (lv_at hl 1 rfl) ?_
  refine j_cR_ (As := [.int (nI k)]) (rest := []) ⟨hx, hb, hml, hown, hts⟩ (c_X1_find l dC dI cI cJ cZ cO ax ao n mo k (aa 0) hk hao) (cwV 1 hts gX1_giveBack_X1_find rfl rfl rfl (by decide +kernel) ⟨Nat.le_of_ble_eq_true rfl, Nat.le_of_ble_eq_true rfl⟩) (jR_V hK hP [0, 1] rfl (ci := 1) (q0 := 0) rfl rfl rfl) rfl hl rfl (Nat.le_of_ble_eq_true rfl) dX1_giveBack_2 ⟨Nat.le_of_ble_eq_true rfl, Nat.le_of_ble_eq_true rfl⟩ ?_
  refine lv_astore_n (lv' := [(3, .ref (aa 0)), (0, .ref (ax 0)), (1, .int (nI k)), (2, .int p1)]) hx hb dX1_giveBack_5 rfl hl (by decide) rfl (fun ls hl => ?_)
  refine lv_iload_n hx hb dX1_giveBack_6 rfl (lv_at hl 3 rfl) ?_
  refine lv_iconst (v := nI 1) hx hb dX1_giveBack_7 (by decide) ?_
  refine lv_ldc hx hb hown (hts (.constant RX1 88 (100000000)) (List.mem_of_getElem? (i := 3) rfl)) dX1_giveBack_8 ?_
  refine j_i (y := nI 100000000) (by decide +kernel) ?_
  exact j_bxS (As := [.int p1, .int (nI 1), .int (nI 100000000)]) (rest := []) ⟨hx, hb, hml, hown, hts⟩ (x_X1_requireRange l dC dI p1 (nI 1) (nI 100000000) hst h) (cwS 3 hts gX1_giveBack_X1_requireRange rfl rfl rfl (by decide +kernel) ⟨Nat.le_of_ble_eq_true rfl, Nat.le_of_ble_eq_true rfl⟩) (jX_S hX) rfl hl rfl (Nat.le_of_ble_eq_true rfl) dX1_giveBack_10 ⟨Nat.le_of_ble_eq_true rfl, Nat.le_of_ble_eq_true rfl⟩ htab hlocks
set_option maxHeartbeats 4000000 in
set_option maxRecDepth 100000 in
/-- month out of range -/
theorem x2_X1_paid (l : Launch) (dC : Nat → ClassId) (dI : Nat → Nat → Nat) (cI cJ cZ cO : ClassId) (ax : Nat → Nat) (ao : Nat → Option Nat) (n mo : Nat) (iv : Nat → Int32) (aa an : Nat → Nat) (kp : Int64) (py : Nat → Int64) (k : Nat) (p1 : Int32) (hst : l.stackTraces = false) (hv : jV an) (hm : mo ≤ 240) (hk : k < 20) (hao : ao k = some (aa 0)) (h : p1 < nI 0 ∨ nI mo - nI 1 < p1) : vx_Met l yX1_paid wsX1_paid ({ frames := 7, cells := 1, slots := 6, locals := 104 }) (va_Pc [.ref (ax 0), .int (nI k), .int p1] (jRX (dC, dI) (jTY cI cJ cZ cO) (jFW cI cJ cO ax ao n mo iv aa an kp py))) (jFQ) (jXC eA) 1 6 (fun _ => False) := by
  refine j_ofx (cc := cX1_paid) (maxL := 4) (ret := (some .long)) (by decide) rfl (Nat.le_of_ble_eq_true rfl) ?_
  intro p e s m below meth c ls hx hb hr hml hts hown hlocks htab hl hpre
  have hown : s.vm.findClass RX1 = some m.cls := hown
  have hl : lv_has ls 4 [(0, .ref (ax 0)), (1, .int (nI k)), (2, .int p1)] := hl
  obtain ⟨v0, v1, v2, v3, v4, v5, v6, v7, v8, v9⟩ := id hv
  obtain ⟨⟨hP, hK⟩, hX⟩ := hpre
  refine lv_aload_n hx hb dX1_paid_0 rfl (lv_at hl 0 rfl) ?_
  refine lv_iload_n hx hb dX1_paid_1 rfl (lv_at hl 1 rfl) ?_
  refine j_cR_ (As := [.int (nI k)]) (rest := []) ⟨hx, hb, hml, hown, hts⟩ (c_X1_find l dC dI cI cJ cZ cO ax ao n mo k (aa 0) hk hao) (cwV 1 hts gX1_paid_X1_find rfl rfl rfl (by decide +kernel) ⟨Nat.le_of_ble_eq_true rfl, Nat.le_of_ble_eq_true rfl⟩) (jR_V hK hP [0, 1] rfl (ci := 1) (q0 := 0) rfl rfl rfl) rfl hl rfl (Nat.le_of_ble_eq_true rfl) dX1_paid_2 ⟨Nat.le_of_ble_eq_true rfl, Nat.le_of_ble_eq_true rfl⟩ ?_
  refine lv_astore_n (lv' := [(3, .ref (aa 0)), (0, .ref (ax 0)), (1, .int (nI k)), (2, .int p1)]) hx hb dX1_paid_5 rfl hl (by decide) rfl (fun ls hl => ?_)
  refine lv_iload_n hx hb dX1_paid_6 rfl (lv_at hl 3 rfl) ?_
  refine lv_iconst (v := nI 0) hx hb dX1_paid_7 (by decide) ?_
  refine lv_aload_n hx hb dX1_paid_8 rfl (lv_at hl 1 rfl) ?_
  refine va_get (D := (dC, dI)) (ci := 1) (v := .int (nI mo)) (C := RX1) (T := TX1) (N := 4) hx hb hts (fun _ h => List.mem_cons_of_mem _ (List.mem_append_left _ (List.mem_append_left _ (List.mem_append_left _ (List.mem_append_right _ h))))) hown hK hP 0 rfl rfl 3 (by decide) (hts (.fieldLink RX1 23 "JointAnnuity" "monthThatGoesOn" "I") (List.mem_of_getElem? (i := 1) rfl)) (fun _ h9 => h9) rfl dX1_paid_9 ?_
  refine lv_iconst (v := nI 1) hx hb dX1_paid_12 (by decide) ?_
  refine lv_isub hx hb dX1_paid_13 ?_
  exact j_bxS (As := [.int p1, .int (nI 0), .int ((nI mo) - (nI 1))]) (rest := []) ⟨hx, hb, hml, hown, hts⟩ (x_X1_requireRange l dC dI p1 (nI 0) (nI mo - nI 1) hst h) (cwS 3 hts gX1_paid_X1_requireRange rfl rfl rfl (by decide +kernel) ⟨Nat.le_of_ble_eq_true rfl, Nat.le_of_ble_eq_true rfl⟩) (jX_S hX) rfl hl rfl (Nat.le_of_ble_eq_true rfl) dX1_paid_14 ⟨Nat.le_of_ble_eq_true rfl, Nat.le_of_ble_eq_true rfl⟩ htab hlocks
set_option maxHeartbeats 4000000 in
set_option maxRecDepth 100000 in
/-- month out of range -/
theorem x2_X1_fullAmount (l : Launch) (dC : Nat → ClassId) (dI : Nat → Nat → Nat) (cI cJ cZ cO : ClassId) (ax : Nat → Nat) (ao : Nat → Option Nat) (n mo : Nat) (iv : Nat → Int32) (aa an : Nat → Nat) (kp : Int64) (py : Nat → Int64) (k : Nat) (p1 : Int32) (hst : l.stackTraces = false) (hv : jV an) (hm : mo ≤ 240) (hk : k < 20) (hao : ao k = some (aa 0)) (h : p1 < nI 0 ∨ nI 239 < p1) : vx_Met l yX1_fullAmount wsX1_fullAmount ({ frames := 8, cells := 1, slots := 6, locals := 124 }) (va_Pc [.ref (ax 0), .int (nI k), .int p1] (jRX (dC, dI) (jTY cI cJ cZ cO) (jFW cI cJ cO ax ao n mo iv aa an kp py))) (jFQ) (jXC eA) 1 6 (fun _ => False) := by
  refine j_ofx (cc := cX1_fullAmount) (maxL := 4) (ret := (some .int)) (by decide) rfl (Nat.le_of_ble_eq_true rfl) ?_
  intro p e s m below meth c ls hx hb hr hml hts hown hlocks htab hl hpre
  have hown : s.vm.findClass RX1 = some m.cls := hown
  have hl : lv_has ls 4 [(0, .ref (ax 0)), (1, .int (nI k)), (2, .int p1)] := hl
  obtain ⟨v0, v1, v2, v3, v4, v5, v6, v7, v8, v9⟩ := id hv
  obtain ⟨⟨hP, hK⟩, hX⟩ := hpre
  refine lv_aload_n hx hb dX1_fullAmount_0 rfl (lv_at hl 0 rfl) ?_
  refine lv_iload_n hx hb dX1_fullAmount_1 rfl (lv_at hl 1 rfl) ?_
  refine j_cR_ (As := [.int (nI k)]) (rest := []) ⟨hx, hb, hml, hown, hts⟩ (c_X1_find l dC dI cI cJ cZ cO ax ao n mo k (aa 0) hk hao) (cwV 1 hts gX1_fullAmount_X1_find rfl rfl rfl (by decide +kernel) ⟨Nat.le_of_ble_eq_true rfl, Nat.le_of_ble_eq_true rfl⟩) (jR_V hK hP [0, 1] rfl (ci := 1) (q0 := 0) rfl rfl rfl) rfl hl rfl (Nat.le_of_ble_eq_true rfl) dX1_fullAmount_2 ⟨Nat.le_of_ble_eq_true rfl, Nat.le_of_ble_eq_true rfl⟩ ?_
  refine lv_astore_n (lv' := [(3, .ref (aa 0)), (0, .ref (ax 0)), (1, .int (nI k)), (2, .int p1)]) hx hb dX1_fullAmount_5 rfl hl (by decide) rfl (fun ls hl => ?_)
  refine lv_iload_n hx hb dX1_fullAmount_6 rfl (lv_at hl 3 rfl) ?_
  exact j_bxS (As := [.int p1]) (rest := []) ⟨hx, hb, hml, hown, hts⟩ (x_X1_requireMonth l dC dI p1 hst h) (cwS 1 hts gX1_fullAmount_X1_requireMonth rfl rfl rfl (by decide +kernel) ⟨Nat.le_of_ble_eq_true rfl, Nat.le_of_ble_eq_true rfl⟩) (jX_S hX) rfl hl rfl (Nat.le_of_ble_eq_true rfl) dX1_fullAmount_7 ⟨Nat.le_of_ble_eq_true rfl, Nat.le_of_ble_eq_true rfl⟩ htab hlocks
set_option maxHeartbeats 4000000 in
set_option maxRecDepth 100000 in
/-- month out of range -/
theorem x2_X1_carry (l : Launch) (dC : Nat → ClassId) (dI : Nat → Nat → Nat) (cI cJ cZ cO : ClassId) (ax : Nat → Nat) (ao : Nat → Option Nat) (n mo : Nat) (iv : Nat → Int32) (aa an : Nat → Nat) (kp : Int64) (py : Nat → Int64) (k : Nat) (p1 : Int32) (hst : l.stackTraces = false) (hv : jV an) (hm : mo ≤ 240) (hk : k < 20) (hao : ao k = some (aa 0)) (h : p1 < nI 0 ∨ nI 239 < p1) : vx_Met l yX1_carry wsX1_carry ({ frames := 8, cells := 1, slots := 6, locals := 124 }) (va_Pc [.ref (ax 0), .int (nI k), .int p1] (jRX (dC, dI) (jTY cI cJ cZ cO) (jFW cI cJ cO ax ao n mo iv aa an kp py))) (jFQ) (jXC eA) 1 6 (fun _ => False) := by
  refine j_ofx (cc := cX1_carry) (maxL := 4) (ret := (some .int)) (by decide) rfl (Nat.le_of_ble_eq_true rfl) ?_
  intro p e s m below meth c ls hx hb hr hml hts hown hlocks htab hl hpre
  have hown : s.vm.findClass RX1 = some m.cls := hown
  have hl : lv_has ls 4 [(0, .ref (ax 0)), (1, .int (nI k)), (2, .int p1)] := hl
  obtain ⟨v0, v1, v2, v3, v4, v5, v6, v7, v8, v9⟩ := id hv
  obtain ⟨⟨hP, hK⟩, hX⟩ := hpre
  refine lv_aload_n hx hb dX1_carry_0 rfl (lv_at hl 0 rfl) ?_
  refine lv_iload_n hx hb dX1_carry_1 rfl (lv_at hl 1 rfl) ?_
  refine j_cR_ (As := [.int (nI k)]) (rest := []) ⟨hx, hb, hml, hown, hts⟩ (c_X1_find l dC dI cI cJ cZ cO ax ao n mo k (aa 0) hk hao) (cwV 1 hts gX1_carry_X1_find rfl rfl rfl (by decide +kernel) ⟨Nat.le_of_ble_eq_true rfl, Nat.le_of_ble_eq_true rfl⟩) (jR_V hK hP [0, 1] rfl (ci := 1) (q0 := 0) rfl rfl rfl) rfl hl rfl (Nat.le_of_ble_eq_true rfl) dX1_carry_2 ⟨Nat.le_of_ble_eq_true rfl, Nat.le_of_ble_eq_true rfl⟩ ?_
  refine lv_astore_n (lv' := [(3, .ref (aa 0)), (0, .ref (ax 0)), (1, .int (nI k)), (2, .int p1)]) hx hb dX1_carry_5 rfl hl (by decide) rfl (fun ls hl => ?_)
  refine lv_iload_n hx hb dX1_carry_6 rfl (lv_at hl 3 rfl) ?_
  exact j_bxS (As := [.int p1]) (rest := []) ⟨hx, hb, hml, hown, hts⟩ (x_X1_requireMonth l dC dI p1 hst h) (cwS 1 hts gX1_carry_X1_requireMonth rfl rfl rfl (by decide +kernel) ⟨Nat.le_of_ble_eq_true rfl, Nat.le_of_ble_eq_true rfl⟩) (jX_S hX) rfl hl rfl (Nat.le_of_ble_eq_true rfl) dX1_carry_7 ⟨Nat.le_of_ble_eq_true rfl, Nat.le_of_ble_eq_true rfl⟩ htab hlocks
set_option maxHeartbeats 4000000 in
set_option maxRecDepth 100000 in
/-- month out of range -/
theorem x2_X1_entitled (l : Launch) (dC : Nat → ClassId) (dI : Nat → Nat → Nat) (cI cJ cZ cO : ClassId) (ax : Nat → Nat) (ao : Nat → Option Nat) (n mo : Nat) (iv : Nat → Int32) (aa an : Nat → Nat) (kp : Int64) (py : Nat → Int64) (k : Nat) (p1 : Int32) (hst : l.stackTraces = false) (hv : jV an) (hm : mo ≤ 240) (hk : k < 20) (hao : ao k = some (aa 0)) (h : p1 < nI 0 ∨ nI 239 < p1) : vx_Met l yX1_entitled wsX1_entitled ({ frames := 8, cells := 1, slots := 6, locals := 124 }) (va_Pc [.ref (ax 0), .int (nI k), .int p1] (jRX (dC, dI) (jTY cI cJ cZ cO) (jFW cI cJ cO ax ao n mo iv aa an kp py))) (jFQ) (jXC eA) 1 6 (fun _ => False) := by
  refine j_ofx (cc := cX1_entitled) (maxL := 4) (ret := (some .long)) (by decide) rfl (Nat.le_of_ble_eq_true rfl) ?_
  intro p e s m below meth c ls hx hb hr hml hts hown hlocks htab hl hpre
  have hown : s.vm.findClass RX1 = some m.cls := hown
  have hl : lv_has ls 4 [(0, .ref (ax 0)), (1, .int (nI k)), (2, .int p1)] := hl
  obtain ⟨v0, v1, v2, v3, v4, v5, v6, v7, v8, v9⟩ := id hv
  obtain ⟨⟨hP, hK⟩, hX⟩ := hpre
  refine lv_aload_n hx hb dX1_entitled_0 rfl (lv_at hl 0 rfl) ?_
  refine lv_iload_n hx hb dX1_entitled_1 rfl (lv_at hl 1 rfl) ?_
  refine j_cR_ (As := [.int (nI k)]) (rest := []) ⟨hx, hb, hml, hown, hts⟩ (c_X1_find l dC dI cI cJ cZ cO ax ao n mo k (aa 0) hk hao) (cwV 1 hts gX1_entitled_X1_find rfl rfl rfl (by decide +kernel) ⟨Nat.le_of_ble_eq_true rfl, Nat.le_of_ble_eq_true rfl⟩) (jR_V hK hP [0, 1] rfl (ci := 1) (q0 := 0) rfl rfl rfl) rfl hl rfl (Nat.le_of_ble_eq_true rfl) dX1_entitled_2 ⟨Nat.le_of_ble_eq_true rfl, Nat.le_of_ble_eq_true rfl⟩ ?_
  refine lv_astore_n (lv' := [(3, .ref (aa 0)), (0, .ref (ax 0)), (1, .int (nI k)), (2, .int p1)]) hx hb dX1_entitled_5 rfl hl (by decide) rfl (fun ls hl => ?_)
  refine lv_iload_n hx hb dX1_entitled_6 rfl (lv_at hl 3 rfl) ?_
  exact j_bxS (As := [.int p1]) (rest := []) ⟨hx, hb, hml, hown, hts⟩ (x_X1_requireMonth l dC dI p1 hst h) (cwS 1 hts gX1_entitled_X1_requireMonth rfl rfl rfl (by decide +kernel) ⟨Nat.le_of_ble_eq_true rfl, Nat.le_of_ble_eq_true rfl⟩) (jX_S hX) rfl hl rfl (Nat.le_of_ble_eq_true rfl) dX1_entitled_7 ⟨Nat.le_of_ble_eq_true rfl, Nat.le_of_ble_eq_true rfl⟩ htab hlocks
set_option maxHeartbeats 4000000 in
set_option maxRecDepth 100000 in
/-- month out of range -/
theorem x2_X1_entitledUpTo (l : Launch) (dC : Nat → ClassId) (dI : Nat → Nat → Nat) (cI cJ cZ cO : ClassId) (ax : Nat → Nat) (ao : Nat → Option Nat) (n mo : Nat) (iv : Nat → Int32) (aa an : Nat → Nat) (kp : Int64) (py : Nat → Int64) (k : Nat) (p1 : Int32) (hst : l.stackTraces = false) (hv : jV an) (hm : mo ≤ 240) (hk : k < 20) (hao : ao k = some (aa 0)) (h : p1 < nI 0 ∨ nI 239 < p1) : vx_Met l yX1_entitledUpTo wsX1_entitledUpTo ({ frames := 8, cells := 1, slots := 6, locals := 124 }) (va_Pc [.ref (ax 0), .int (nI k), .int p1] (jRX (dC, dI) (jTY cI cJ cZ cO) (jFW cI cJ cO ax ao n mo iv aa an kp py))) (jFQ) (jXC eA) 1 6 (fun _ => False) := by
  refine j_ofx (cc := cX1_entitledUpTo) (maxL := 4) (ret := (some .long)) (by decide) rfl (Nat.le_of_ble_eq_true rfl) ?_
  intro p e s m below meth c ls hx hb hr hml hts hown hlocks htab hl hpre
  have hown : s.vm.findClass RX1 = some m.cls := hown
  have hl : lv_has ls 4 [(0, .ref (ax 0)), (1, .int (nI k)), (2, .int p1)] := hl
  obtain ⟨v0, v1, v2, v3, v4, v5, v6, v7, v8, v9⟩ := id hv
  obtain ⟨⟨hP, hK⟩, hX⟩ := hpre
  refine lv_aload_n hx hb dX1_entitledUpTo_0 rfl (lv_at hl 0 rfl) ?_
  refine lv_iload_n hx hb dX1_entitledUpTo_1 rfl (lv_at hl 1 rfl) ?_
  refine j_cR_ (As := [.int (nI k)]) (rest := []) ⟨hx, hb, hml, hown, hts⟩ (c_X1_find l dC dI cI cJ cZ cO ax ao n mo k (aa 0) hk hao) (cwV 1 hts gX1_entitledUpTo_X1_find rfl rfl rfl (by decide +kernel) ⟨Nat.le_of_ble_eq_true rfl, Nat.le_of_ble_eq_true rfl⟩) (jR_V hK hP [0, 1] rfl (ci := 1) (q0 := 0) rfl rfl rfl) rfl hl rfl (Nat.le_of_ble_eq_true rfl) dX1_entitledUpTo_2 ⟨Nat.le_of_ble_eq_true rfl, Nat.le_of_ble_eq_true rfl⟩ ?_
  refine lv_astore_n (lv' := [(3, .ref (aa 0)), (0, .ref (ax 0)), (1, .int (nI k)), (2, .int p1)]) hx hb dX1_entitledUpTo_5 rfl hl (by decide) rfl (fun ls hl => ?_)
  refine lv_iload_n hx hb dX1_entitledUpTo_6 rfl (lv_at hl 3 rfl) ?_
  exact j_bxS (As := [.int p1]) (rest := []) ⟨hx, hb, hml, hown, hts⟩ (x_X1_requireMonth l dC dI p1 hst h) (cwS 1 hts gX1_entitledUpTo_X1_requireMonth rfl rfl rfl (by decide +kernel) ⟨Nat.le_of_ble_eq_true rfl, Nat.le_of_ble_eq_true rfl⟩) (jX_S hX) rfl hl rfl (Nat.le_of_ble_eq_true rfl) dX1_entitledUpTo_7 ⟨Nat.le_of_ble_eq_true rfl, Nat.le_of_ble_eq_true rfl⟩ htab hlocks
set_option maxHeartbeats 4000000 in
set_option maxRecDepth 100000 in
/-- its start has been run -/
theorem x3_X1_setSurvivor (l : Launch) (dC : Nat → ClassId) (dI : Nat → Nat → Nat) (cI cJ cZ cO : ClassId) (ax : Nat → Nat) (ao : Nat → Option Nat) (n mo : Nat) (iv : Nat → Int32) (aa an : Nat → Nat) (kp : Int64) (py : Nat → Int64) (k : Nat) (v : Nat) (p2 : Int32) (hst : l.stackTraces = false) (hv : jV an) (hm : mo ≤ 240) (hk : k < 20) (hao : ao k = some (aa 0)) (h1 : v ≤ 100) (hs : an 0 < mo) : vx_Met l yX1_setSurvivor wsX1_setSurvivor ({ frames := 7, cells := 1, slots := 6, locals := 103 }) (va_Pc [.ref (ax 0), .int (nI k), .int (nI v), .int p2] (jRX (dC, dI) (jTY cI cJ cZ cO) (jFW cI cJ cO ax ao n mo iv aa an kp py))) (jFQ) (jXC eS) 1 6 (fun _ => False) := by
  refine j_ofx (cc := cX1_setSurvivor) (maxL := 5) (ret := none) (by decide) rfl (Nat.le_of_ble_eq_true rfl) ?_
  intro p e s m below meth c ls hx hb hr hml hts hown hlocks htab hl hpre
  have hown : s.vm.findClass RX1 = some m.cls := hown
  have hl : lv_has ls 5 [(0, .ref (ax 0)), (1, .int (nI k)), (2, .int (nI v)), (3, .int p2)] := hl
  obtain ⟨v0, v1, v2, v3, v4, v5, v6, v7, v8, v9⟩ := id hv
  obtain ⟨⟨hP, hK⟩, hX⟩ := hpre
  refine lv_aload_n hx hb dX1_setSurvivor_0 rfl (lv_at hl 0 rfl) ?_
  refine lv_iload_n hx hb dX1_setSurvivor_1 rfl (lv_at hl 1 rfl) ?_
  refine j_cR_ (As := [.int (nI k)]) (rest := []) ⟨hx, hb, hml, hown, hts⟩ (c_X1_find l dC dI cI cJ cZ cO ax ao n mo k (aa 0) hk hao) (cwV 1 hts gX1_setSurvivor_X1_find rfl rfl rfl (by decide +kernel) ⟨Nat.le_of_ble_eq_true rfl, Nat.le_of_ble_eq_true rfl⟩) (jR_V hK hP [0, 1] rfl (ci := 1) (q0 := 0) rfl rfl rfl) rfl hl rfl (Nat.le_of_ble_eq_true rfl) dX1_setSurvivor_2 ⟨Nat.le_of_ble_eq_true rfl, Nat.le_of_ble_eq_true rfl⟩ ?_
  refine lv_astore (lv' := [(4, .ref (aa 0)), (0, .ref (ax 0)), (1, .int (nI k)), (2, .int (nI v)), (3, .int p2)]) hx hb dX1_setSurvivor_5 hl (by decide) rfl (fun ls hl => ?_)
  refine lv_iload_n hx hb dX1_setSurvivor_7 rfl (lv_at hl 3 rfl) ?_
  refine lv_iconst (v := nI 0) hx hb dX1_setSurvivor_8 (by decide) ?_
  refine lv_bipush (v := nI 100) hx hb dX1_setSurvivor_9 (by decide) ?_
  refine j_sV (As := [.int (nI v), .int (nI 0), .int (nI 100)]) (rest := []) ⟨hx, hb, hml, hown, hts⟩ (c_X1_requireRange l dC dI (nI v) (nI 0) (nI 100) (nI_nlt (by omega) (by omega)) (nI_nlt (by omega) (by omega))) (cwS 3 hts gX1_setSurvivor_X1_requireRange rfl rfl rfl (by decide +kernel) ⟨Nat.le_of_ble_eq_true rfl, Nat.le_of_ble_eq_true rfl⟩) rfl hl rfl (Nat.le_of_ble_eq_true rfl) dX1_setSurvivor_11 ⟨Nat.le_of_ble_eq_true rfl, Nat.le_of_ble_eq_true rfl⟩ ?_
  refine lv_aload_n hx hb dX1_setSurvivor_14 rfl (lv_at hl 1 rfl) ?_
  refine lv_aload hx hb dX1_setSurvivor_15 (lv_at hl 0 rfl) ?_
  exact j_bxV (As := [.ref (aa 0)]) (rest := []) ⟨hx, hb, hml, hown, hts⟩ (x_X1_requireStartNotRun l dC dI cI cJ cZ cO ax n mo aa an kp hst v0 hm hs) (cwV 1 hts gX1_setSurvivor_X1_requireStartNotRun rfl rfl rfl (by decide +kernel) ⟨Nat.le_of_ble_eq_true rfl, Nat.le_of_ble_eq_true rfl⟩) (jRX_V hX hK hP [0, 3] rfl (ci := 1) (q0 := 0) rfl rfl rfl) rfl hl rfl (Nat.le_of_ble_eq_true rfl) dX1_setSurvivor_17 ⟨Nat.le_of_ble_eq_true rfl, Nat.le_of_ble_eq_true rfl⟩ htab hlocks
set_option maxHeartbeats 4000000 in
set_option maxRecDepth 100000 in
/-- its start has been run -/
theorem x3_X1_setCap (l : Launch) (dC : Nat → ClassId) (dI : Nat → Nat → Nat) (cI cJ cZ cO : ClassId) (ax : Nat → Nat) (ao : Nat → Option Nat) (n mo : Nat) (iv : Nat → Int32) (aa an : Nat → Nat) (kp : Int64) (py : Nat → Int64) (k : Nat) (v : Nat) (hst : l.stackTraces = false) (hv : jV an) (hm : mo ≤ 240) (hk : k < 20) (hao : ao k = some (aa 0)) (h1 : v ≤ 200) (hs : an 0 < mo) : vx_Met l yX1_setCap wsX1_setCap ({ frames := 7, cells := 1, slots := 6, locals := 103 }) (va_Pc [.ref (ax 0), .int (nI k), .int (nI v)] (jRX (dC, dI) (jTY cI cJ cZ cO) (jFW cI cJ cO ax ao n mo iv aa an kp py))) (jFQ) (jXC eS) 1 6 (fun _ => False) := by
  refine j_ofx (cc := cX1_setCap) (maxL := 4) (ret := none) (by decide) rfl (Nat.le_of_ble_eq_true rfl) ?_
  intro p e s m below meth c ls hx hb hr hml hts hown hlocks htab hl hpre
  have hown : s.vm.findClass RX1 = some m.cls := hown
  have hl : lv_has ls 4 [(0, .ref (ax 0)), (1, .int (nI k)), (2, .int (nI v))] := hl
  obtain ⟨v0, v1, v2, v3, v4, v5, v6, v7, v8, v9⟩ := id hv
  obtain ⟨⟨hP, hK⟩, hX⟩ := hpre
  refine lv_aload_n hx hb dX1_setCap_0 rfl (lv_at hl 0 rfl) ?_
  refine lv_iload_n hx hb dX1_setCap_1 rfl (lv_at hl 1 rfl) ?_
  refine j_cR_ (As := [.int (nI k)]) (rest := []) ⟨hx, hb, hml, hown, hts⟩ (c_X1_find l dC dI cI cJ cZ cO ax ao n mo k (aa 0) hk hao) (cwV 1 hts gX1_setCap_X1_find rfl rfl rfl (by decide +kernel) ⟨Nat.le_of_ble_eq_true rfl, Nat.le_of_ble_eq_true rfl⟩) (jR_V hK hP [0, 1] rfl (ci := 1) (q0 := 0) rfl rfl rfl) rfl hl rfl (Nat.le_of_ble_eq_true rfl) dX1_setCap_2 ⟨Nat.le_of_ble_eq_true rfl, Nat.le_of_ble_eq_true rfl⟩ ?_
  refine lv_astore_n (lv' := [(3, .ref (aa 0)), (0, .ref (ax 0)), (1, .int (nI k)), (2, .int (nI v))]) hx hb dX1_setCap_5 rfl hl (by decide) rfl (fun ls hl => ?_)
  refine lv_iload_n hx hb dX1_setCap_6 rfl (lv_at hl 3 rfl) ?_
  refine lv_iconst (v := nI 0) hx hb dX1_setCap_7 (by decide) ?_
  refine lv_sipush (v := nI 200) hx hb dX1_setCap_8 (by decide) ?_
  refine j_sV (As := [.int (nI v), .int (nI 0), .int (nI 200)]) (rest := []) ⟨hx, hb, hml, hown, hts⟩ (c_X1_requireRange l dC dI (nI v) (nI 0) (nI 200) (nI_nlt (by omega) (by omega)) (nI_nlt (by omega) (by omega))) (cwS 3 hts gX1_setCap_X1_requireRange rfl rfl rfl (by decide +kernel) ⟨Nat.le_of_ble_eq_true rfl, Nat.le_of_ble_eq_true rfl⟩) rfl hl rfl (Nat.le_of_ble_eq_true rfl) dX1_setCap_11 ⟨Nat.le_of_ble_eq_true rfl, Nat.le_of_ble_eq_true rfl⟩ ?_
  refine lv_aload_n hx hb dX1_setCap_14 rfl (lv_at hl 1 rfl) ?_
  refine lv_aload_n hx hb dX1_setCap_15 rfl (lv_at hl 0 rfl) ?_
  exact j_bxV (As := [.ref (aa 0)]) (rest := []) ⟨hx, hb, hml, hown, hts⟩ (x_X1_requireStartNotRun l dC dI cI cJ cZ cO ax n mo aa an kp hst v0 hm hs) (cwV 1 hts gX1_setCap_X1_requireStartNotRun rfl rfl rfl (by decide +kernel) ⟨Nat.le_of_ble_eq_true rfl, Nat.le_of_ble_eq_true rfl⟩) (jRX_V hX hK hP [0, 3] rfl (ci := 1) (q0 := 0) rfl rfl rfl) rfl hl rfl (Nat.le_of_ble_eq_true rfl) dX1_setCap_16 ⟨Nat.le_of_ble_eq_true rfl, Nat.le_of_ble_eq_true rfl⟩ htab hlocks
set_option maxHeartbeats 4000000 in
set_option maxRecDepth 100000 in
/-- its start has been run -/
theorem x3_X1_protect (l : Launch) (dC : Nat → ClassId) (dI : Nat → Nat → Nat) (cI cJ cZ cO : ClassId) (ax : Nat → Nat) (ao : Nat → Option Nat) (n mo : Nat) (iv : Nat → Int32) (aa an : Nat → Nat) (kp : Int64) (py : Nat → Int64) (k : Nat) (v w : Nat) (hst : l.stackTraces = false) (hv : jV an) (hm : mo ≤ 240) (hk : k < 20) (hao : ao k = some (aa 0)) (h1 : v ≤ 10000000) (h2 : w ≤ 100) (hs : an 0 < mo) : vx_Met l yX1_protect wsX1_protect ({ frames := 7, cells := 1, slots := 6, locals := 103 }) (va_Pc [.ref (ax 0), .int (nI k), .int (nI v), .int (nI w)] (jRX (dC, dI) (jTY cI cJ cZ cO) (jFW cI cJ cO ax ao n mo iv aa an kp py))) (jFQ) (jXC eS) 1 6 (fun _ => False) := by
  refine j_ofx (cc := cX1_protect) (maxL := 5) (ret := none) (by decide) rfl (Nat.le_of_ble_eq_true rfl) ?_
  intro p e s m below meth c ls hx hb hr hml hts hown hlocks htab hl hpre
  have hown : s.vm.findClass RX1 = some m.cls := hown
  have hl : lv_has ls 5 [(0, .ref (ax 0)), (1, .int (nI k)), (2, .int (nI v)), (3, .int (nI w))] := hl
  obtain ⟨v0, v1, v2, v3, v4, v5, v6, v7, v8, v9⟩ := id hv
  obtain ⟨⟨hP, hK⟩, hX⟩ := hpre
  refine lv_aload_n hx hb dX1_protect_0 rfl (lv_at hl 0 rfl) ?_
  refine lv_iload_n hx hb dX1_protect_1 rfl (lv_at hl 1 rfl) ?_
  refine j_cR_ (As := [.int (nI k)]) (rest := []) ⟨hx, hb, hml, hown, hts⟩ (c_X1_find l dC dI cI cJ cZ cO ax ao n mo k (aa 0) hk hao) (cwV 1 hts gX1_protect_X1_find rfl rfl rfl (by decide +kernel) ⟨Nat.le_of_ble_eq_true rfl, Nat.le_of_ble_eq_true rfl⟩) (jR_V hK hP [0, 1] rfl (ci := 1) (q0 := 0) rfl rfl rfl) rfl hl rfl (Nat.le_of_ble_eq_true rfl) dX1_protect_2 ⟨Nat.le_of_ble_eq_true rfl, Nat.le_of_ble_eq_true rfl⟩ ?_
  refine lv_astore (lv' := [(4, .ref (aa 0)), (0, .ref (ax 0)), (1, .int (nI k)), (2, .int (nI v)), (3, .int (nI w))]) hx hb dX1_protect_5 hl (by decide) rfl (fun ls hl => ?_)
  refine lv_iload_n hx hb dX1_protect_7 rfl (lv_at hl 3 rfl) ?_
  refine lv_iconst (v := nI 0) hx hb dX1_protect_8 (by decide) ?_
  refine lv_ldc hx hb hown (hts (.constant RX1 62 (10000000)) (List.mem_of_getElem? (i := 1) rfl)) dX1_protect_9 ?_
  refine j_i (y := nI 10000000) (by decide +kernel) ?_
  refine j_sV (As := [.int (nI v), .int (nI 0), .int (nI 10000000)]) (rest := []) ⟨hx, hb, hml, hown, hts⟩ (c_X1_requireRange l dC dI (nI v) (nI 0) (nI 10000000) (nI_nlt (by omega) (by omega)) (nI_nlt (by omega) (by omega))) (cwS 3 hts gX1_protect_X1_requireRange rfl rfl rfl (by decide +kernel) ⟨Nat.le_of_ble_eq_true rfl, Nat.le_of_ble_eq_true rfl⟩) rfl hl rfl (Nat.le_of_ble_eq_true rfl) dX1_protect_11 ⟨Nat.le_of_ble_eq_true rfl, Nat.le_of_ble_eq_true rfl⟩ ?_
  refine lv_iload_n hx hb dX1_protect_14 rfl (lv_at hl 4 rfl) ?_
  refine lv_iconst (v := nI 0) hx hb dX1_protect_15 (by decide) ?_
  refine lv_bipush (v := nI 100) hx hb dX1_protect_16 (by decide) ?_
  refine j_sV (As := [.int (nI w), .int (nI 0), .int (nI 100)]) (rest := []) ⟨hx, hb, hml, hown, hts⟩ (c_X1_requireRange l dC dI (nI w) (nI 0) (nI 100) (nI_nlt (by omega) (by omega)) (nI_nlt (by omega) (by omega))) (cwS 3 hts gX1_protect_X1_requireRange rfl rfl rfl (by decide +kernel) ⟨Nat.le_of_ble_eq_true rfl, Nat.le_of_ble_eq_true rfl⟩) rfl hl rfl (Nat.le_of_ble_eq_true rfl) dX1_protect_18 ⟨Nat.le_of_ble_eq_true rfl, Nat.le_of_ble_eq_true rfl⟩ ?_
  refine lv_aload_n hx hb dX1_protect_21 rfl (lv_at hl 1 rfl) ?_
  refine lv_aload hx hb dX1_protect_22 (lv_at hl 0 rfl) ?_
  exact j_bxV (As := [.ref (aa 0)]) (rest := []) ⟨hx, hb, hml, hown, hts⟩ (x_X1_requireStartNotRun l dC dI cI cJ cZ cO ax n mo aa an kp hst v0 hm hs) (cwV 1 hts gX1_protect_X1_requireStartNotRun rfl rfl rfl (by decide +kernel) ⟨Nat.le_of_ble_eq_true rfl, Nat.le_of_ble_eq_true rfl⟩) (jRX_V hX hK hP [0, 3] rfl (ci := 1) (q0 := 0) rfl rfl rfl) rfl hl rfl (Nat.le_of_ble_eq_true rfl) dX1_protect_24 ⟨Nat.le_of_ble_eq_true rfl, Nat.le_of_ble_eq_true rfl⟩ htab hlocks
set_option maxHeartbeats 4000000 in
set_option maxRecDepth 100000 in
/-- its death has been told -/
theorem x3_0_X1_die (l : Launch) (dC : Nat → ClassId) (dI : Nat → Nat → Nat) (cI cJ cZ cO : ClassId) (ax : Nat → Nat) (ao : Nat → Option Nat) (n mo : Nat) (iv : Nat → Int32) (aa an : Nat → Nat) (kp : Int64) (py : Nat → Int64) (k : Nat) (v : Nat) (hst : l.stackTraces = false) (hv : jV an) (hm : mo ≤ 240) (hk : k < 20) (hao : ao k = some (aa 0)) (h1 : v ≤ mo) (h2 : v ≤ 239) (ht9 : an 8 ≠ 240) : vx_Met l yX1_die wsX1_die ({ frames := 6, cells := 1, slots := 6, locals := 82 }) (va_Pc [.ref (ax 0), .int (nI k), .int (nI 0), .int (nI v)] (jRX (dC, dI) (jTY cI cJ cZ cO) (jFW cI cJ cO ax ao n mo iv aa an kp py))) (jFQ) (jXC eS) 1 6 (fun _ => False) := by
  refine j_ofx (cc := cX1_die) (maxL := 5) (ret := none) (by decide) rfl (Nat.le_of_ble_eq_true rfl) ?_
  intro p e s m below meth c ls hx hb hr hml hts hown hlocks htab hl hpre
  have hown : s.vm.findClass RX1 = some m.cls := hown
  have hl : lv_has ls 5 [(0, .ref (ax 0)), (1, .int (nI k)), (2, .int (nI 0)), (3, .int (nI v))] := hl
  obtain ⟨v0, v1, v2, v3, v4, v5, v6, v7, v8, v9⟩ := id hv
  obtain ⟨⟨hP, hK⟩, hX⟩ := hpre
  refine lv_aload_n hx hb dX1_die_0 rfl (lv_at hl 0 rfl) ?_
  refine lv_iload_n hx hb dX1_die_1 rfl (lv_at hl 1 rfl) ?_
  refine j_cR_ (As := [.int (nI k)]) (rest := []) ⟨hx, hb, hml, hown, hts⟩ (c_X1_find l dC dI cI cJ cZ cO ax ao n mo k (aa 0) hk hao) (cwV 1 hts gX1_die_X1_find rfl rfl rfl (by decide +kernel) ⟨Nat.le_of_ble_eq_true rfl, Nat.le_of_ble_eq_true rfl⟩) (jR_V hK hP [0, 1] rfl (ci := 1) (q0 := 0) rfl rfl rfl) rfl hl rfl (Nat.le_of_ble_eq_true rfl) dX1_die_2 ⟨Nat.le_of_ble_eq_true rfl, Nat.le_of_ble_eq_true rfl⟩ ?_
  refine lv_astore (lv' := [(4, .ref (aa 0)), (0, .ref (ax 0)), (1, .int (nI k)), (2, .int (nI 0)), (3, .int (nI v))]) hx hb dX1_die_5 hl (by decide) rfl (fun ls hl => ?_)
  refine lv_iload_n hx hb dX1_die_7 rfl (lv_at hl 3 rfl) ?_
  refine lv_iconst (v := nI 0) hx hb dX1_die_8 (by decide) ?_
  refine lv_iconst (v := nI 1) hx hb dX1_die_9 (by decide) ?_
  refine j_sV (As := [.int (nI 0), .int (nI 0), .int (nI 1)]) (rest := []) ⟨hx, hb, hml, hown, hts⟩ (c_X1_requireRange l dC dI (nI 0) (nI 0) (nI 1) (nI_nlt (by omega) (by omega)) (nI_nlt (by omega) (by omega))) (cwS 3 hts gX1_die_X1_requireRange rfl rfl rfl (by decide +kernel) ⟨Nat.le_of_ble_eq_true rfl, Nat.le_of_ble_eq_true rfl⟩) rfl hl rfl (Nat.le_of_ble_eq_true rfl) dX1_die_10 ⟨Nat.le_of_ble_eq_true rfl, Nat.le_of_ble_eq_true rfl⟩ ?_
  refine lv_iload_n hx hb dX1_die_13 rfl (lv_at hl 4 rfl) ?_
  refine lv_iconst (v := nI 0) hx hb dX1_die_14 (by decide) ?_
  refine lv_aload_n hx hb dX1_die_15 rfl (lv_at hl 1 rfl) ?_
  refine va_get (D := (dC, dI)) (ci := 1) (v := .int (nI mo)) (C := RX1) (T := TX1) (N := 4) hx hb hts (fun _ h => List.mem_cons_of_mem _ (List.mem_append_left _ (List.mem_append_left _ (List.mem_append_left _ (List.mem_append_left _ (List.mem_append_right _ h)))))) hown hK hP 0 rfl rfl 3 (by decide) (hts (.fieldLink RX1 23 "JointAnnuity" "monthThatGoesOn" "I") (List.mem_of_getElem? (i := 3) rfl)) (fun _ h9 => h9) rfl dX1_die_16 ?_
  refine lv_sipush (v := nI 239) hx hb dX1_die_19 (by decide) ?_
  refine va_mmin hx hb (hml.trans hl.1.symm) hown (hts (.methodLink RX1 69 Lib.Math.min.name) (List.mem_of_getElem? (i := 4) rfl)) (hts (.static Lib.Math.min.name) (List.mem_of_getElem? (i := 5) rfl)) (hts (.initialized "java/lang/Math") (List.mem_of_getElem? (i := 6) rfl)) (hts (.code Lib.Math.min.name Lib.Math.min.code 2 (some .int)) (List.mem_of_getElem? (i := 7) rfl)) (Nat.le_of_ble_eq_true rfl) (Nat.le_of_ble_eq_true rfl) (Nat.le_of_ble_eq_true rfl) (Nat.le_of_ble_eq_true rfl) dX1_die_22 ?_
  refine j_i (y := nI (min mo 239)) (jminI (by omega) (by omega)) ?_
  refine j_sV (As := [.int (nI v), .int (nI 0), .int (nI (min mo 239))]) (rest := []) ⟨hx, hb, hml, hown, hts⟩ (c_X1_requireRange l dC dI (nI v) (nI 0) (nI (min mo 239)) (nI_nlt (by omega) (by omega)) (nI_nlt (by omega) (by omega))) (cwS 3 hts gX1_die_X1_requireRange rfl rfl rfl (by decide +kernel) ⟨Nat.le_of_ble_eq_true rfl, Nat.le_of_ble_eq_true rfl⟩) rfl hl rfl (Nat.le_of_ble_eq_true rfl) dX1_die_25 ⟨Nat.le_of_ble_eq_true rfl, Nat.le_of_ble_eq_true rfl⟩ ?_
  refine lv_aload hx hb dX1_die_28 (lv_at hl 0 rfl) ?_
  refine va_get (D := (dC, dI)) (ci := 0) (v := .ref (aa 1)) (C := RX0) (T := TX0) (N := 13) hx hb hts (fun _ h => List.mem_cons_of_mem _ (List.mem_append_left _ (List.mem_append_left _ (List.mem_append_left _ (List.mem_append_right _ h))))) hown hK hP 3 rfl rfl 8 (by decide) (hts (.fieldLink RX1 75 "JointAnnuity$Annuity" "deaths" "[I") (List.mem_of_getElem? (i := 8) rfl)) (fun _ h9 => h9) rfl dX1_die_30 ?_
  refine lv_iload_n hx hb dX1_die_33 rfl (lv_at hl 3 rfl) ?_
  refine va_iald hx hb hK hP 4 0 (f := fun j => nI (if j = 0 then an 8 else an 9)) rfl rfl (vp_in_nI (n := 0) (N := 2) (by omega) (by omega)) dX1_die_34 ?_
  refine j_i (y := nI (an 8)) (jd0 _ _) ?_
  refine lv_sipush (v := nI 240) hx hb dX1_die_35 (by decide) ?_
  refine lv_icmp_eq (tgt := 51) hx hb dX1_die_38 (by decide) (fun c_38 => ?_) (fun c_38 => ?_)
  · have c_38 : an 8 = 240 := (nI_eq (a := an 8) (b := 240) (by omega) (by omega)).mp c_38
    omega
  · have c_38 : ¬ (an 8 = 240) := fun h => c_38 ((nI_eq (a := an 8) (b := 240) (by omega) (by omega)).mpr h)
    exact j_throw (E := eS) hx hb hst hown (by decide +kernel) (by simp) (hts (.classLink RX1 31 "java/lang/IllegalStateException") (List.mem_of_getElem? (i := 1) rfl)) (hts (.initialized "java/lang/IllegalStateException") (List.mem_of_getElem? (i := 2) rfl)) (fun w h => hts w (List.mem_cons_of_mem _ (List.mem_append_left _ (List.mem_append_left _ (List.mem_append_right _ h))))) jgS jbS hX (List.mem_of_getElem? (i := 1) rfl) hl hml dX1_die_41 dX1_die_44 dX1_die_45 dX1_die_47 dX1_die_50 htab (Nat.le_of_ble_eq_true rfl) (Nat.le_of_ble_eq_true rfl) (Nat.le_of_ble_eq_true rfl) (Nat.le_of_ble_eq_true rfl) hlocks
set_option maxHeartbeats 4000000 in
set_option maxRecDepth 100000 in
/-- its death has not been told -/
theorem x3_0_X1_takeBack (l : Launch) (dC : Nat → ClassId) (dI : Nat → Nat → Nat) (cI cJ cZ cO : ClassId) (ax : Nat → Nat) (ao : Nat → Option Nat) (n mo : Nat) (iv : Nat → Int32) (aa an : Nat → Nat) (kp : Int64) (py : Nat → Int64) (k : Nat) (hst : l.stackTraces = false) (hv : jV an) (hm : mo ≤ 240) (hk : k < 20) (hao : ao k = some (aa 0)) (ht9 : an 8 = 240) : vx_Met l yX1_takeBack wsX1_takeBack ({ frames := 6, cells := 1, slots := 6, locals := 82 }) (va_Pc [.ref (ax 0), .int (nI k), .int (nI 0)] (jRX (dC, dI) (jTY cI cJ cZ cO) (jFW cI cJ cO ax ao n mo iv aa an kp py))) (jFQ) (jXC eS) 1 6 (fun _ => False) := by
  refine j_ofx (cc := cX1_takeBack) (maxL := 5) (ret := (some .int)) (by decide) rfl (Nat.le_of_ble_eq_true rfl) ?_
  intro p e s m below meth c ls hx hb hr hml hts hown hlocks htab hl hpre
  have hown : s.vm.findClass RX1 = some m.cls := hown
  have hl : lv_has ls 5 [(0, .ref (ax 0)), (1, .int (nI k)), (2, .int (nI 0))] := hl
  obtain ⟨v0, v1, v2, v3, v4, v5, v6, v7, v8, v9⟩ := id hv
  obtain ⟨⟨hP, hK⟩, hX⟩ := hpre
  refine lv_aload_n hx hb dX1_takeBack_0 rfl (lv_at hl 0 rfl) ?_
  refine lv_iload_n hx hb dX1_takeBack_1 rfl (lv_at hl 1 rfl) ?_
  refine j_cR_ (As := [.int (nI k)]) (rest := []) ⟨hx, hb, hml, hown, hts⟩ (c_X1_find l dC dI cI cJ cZ cO ax ao n mo k (aa 0) hk hao) (cwV 1 hts gX1_takeBack_X1_find rfl rfl rfl (by decide +kernel) ⟨Nat.le_of_ble_eq_true rfl, Nat.le_of_ble_eq_true rfl⟩) (jR_V hK hP [0, 1] rfl (ci := 1) (q0 := 0) rfl rfl rfl) rfl hl rfl (Nat.le_of_ble_eq_true rfl) dX1_takeBack_2 ⟨Nat.le_of_ble_eq_true rfl, Nat.le_of_ble_eq_true rfl⟩ ?_
  refine lv_astore_n (lv' := [(3, .ref (aa 0)), (0, .ref (ax 0)), (1, .int (nI k)), (2, .int (nI 0))]) hx hb dX1_takeBack_5 rfl hl (by decide) rfl (fun ls hl => ?_)
  refine lv_iload_n hx hb dX1_takeBack_6 rfl (lv_at hl 3 rfl) ?_
  refine lv_iconst (v := nI 0) hx hb dX1_takeBack_7 (by decide) ?_
  refine lv_iconst (v := nI 1) hx hb dX1_takeBack_8 (by decide) ?_
  refine j_sV (As := [.int (nI 0), .int (nI 0), .int (nI 1)]) (rest := []) ⟨hx, hb, hml, hown, hts⟩ (c_X1_requireRange l dC dI (nI 0) (nI 0) (nI 1) (nI_nlt (by omega) (by omega)) (nI_nlt (by omega) (by omega))) (cwS 3 hts gX1_takeBack_X1_requireRange rfl rfl rfl (by decide +kernel) ⟨Nat.le_of_ble_eq_true rfl, Nat.le_of_ble_eq_true rfl⟩) rfl hl rfl (Nat.le_of_ble_eq_true rfl) dX1_takeBack_9 ⟨Nat.le_of_ble_eq_true rfl, Nat.le_of_ble_eq_true rfl⟩ ?_
  refine lv_aload_n hx hb dX1_takeBack_12 rfl (lv_at hl 0 rfl) ?_
  refine va_get (D := (dC, dI)) (ci := 0) (v := .ref (aa 1)) (C := RX0) (T := TX0) (N := 13) hx hb hts (fun _ h => List.mem_cons_of_mem _ (List.mem_append_left _ (List.mem_append_left _ (List.mem_append_left _ (List.mem_append_left _ (List.mem_append_right _ h)))))) hown hK hP 3 rfl rfl 8 (by decide) (hts (.fieldLink RX1 75 "JointAnnuity$Annuity" "deaths" "[I") (List.mem_of_getElem? (i := 3) rfl)) (fun _ h9 => h9) rfl dX1_takeBack_13 ?_
  refine lv_iload_n hx hb dX1_takeBack_16 rfl (lv_at hl 3 rfl) ?_
  refine va_iald hx hb hK hP 4 0 (f := fun j => nI (if j = 0 then an 8 else an 9)) rfl rfl (vp_in_nI (n := 0) (N := 2) (by omega) (by omega)) dX1_takeBack_17 ?_
  refine j_i (y := nI (an 8)) (jd0 _ _) ?_
  refine lv_istore (lv' := [(4, .int (nI (an 8))), (3, .ref (aa 0)), (0, .ref (ax 0)), (1, .int (nI k)), (2, .int (nI 0))]) hx hb dX1_takeBack_18 hl (by decide) rfl (fun ls hl => ?_)
  refine lv_iload hx hb dX1_takeBack_20 (lv_at hl 0 rfl) ?_
  refine lv_sipush (v := nI 240) hx hb dX1_takeBack_22 (by decide) ?_
  refine lv_icmp_ne (tgt := 38) hx hb dX1_takeBack_25 (by decide) (fun c_25 => ?_) (fun c_25 => ?_)
  · have c_25 : ¬ (an 8 = 240) := fun h => c_25 ((nI_eq (a := an 8) (b := 240) (by omega) (by omega)).mpr h)
    omega
  · have c_25 : an 8 = 240 := (nI_eq (a := an 8) (b := 240) (by omega) (by omega)).mp c_25
    exact j_throw (E := eS) hx hb hst hown (by decide +kernel) (by simp) (hts (.classLink RX1 31 "java/lang/IllegalStateException") (List.mem_of_getElem? (i := 1) rfl)) (hts (.initialized "java/lang/IllegalStateException") (List.mem_of_getElem? (i := 2) rfl)) (fun w h => hts w (List.mem_cons_of_mem _ (List.mem_append_left _ (List.mem_append_left _ (List.mem_append_right _ h))))) jgS jbS hX (List.mem_of_getElem? (i := 2) rfl) hl hml dX1_takeBack_28 dX1_takeBack_31 dX1_takeBack_32 dX1_takeBack_34 dX1_takeBack_37 htab (Nat.le_of_ble_eq_true rfl) (Nat.le_of_ble_eq_true rfl) (Nat.le_of_ble_eq_true rfl) (Nat.le_of_ble_eq_true rfl) hlocks
set_option maxHeartbeats 4000000 in
set_option maxRecDepth 100000 in
/-- its death has been told -/
theorem x3_1_X1_die (l : Launch) (dC : Nat → ClassId) (dI : Nat → Nat → Nat) (cI cJ cZ cO : ClassId) (ax : Nat → Nat) (ao : Nat → Option Nat) (n mo : Nat) (iv : Nat → Int32) (aa an : Nat → Nat) (kp : Int64) (py : Nat → Int64) (k : Nat) (v : Nat) (hst : l.stackTraces = false) (hv : jV an) (hm : mo ≤ 240) (hk : k < 20) (hao : ao k = some (aa 0)) (h1 : v ≤ mo) (h2 : v ≤ 239) (ht9 : an 9 ≠ 240) : vx_Met l yX1_die wsX1_die ({ frames := 6, cells := 1, slots := 6, locals := 82 }) (va_Pc [.ref (ax 0), .int (nI k), .int (nI 1), .int (nI v)] (jRX (dC, dI) (jTY cI cJ cZ cO) (jFW cI cJ cO ax ao n mo iv aa an kp py))) (jFQ) (jXC eS) 1 6 (fun _ => False) := by
  refine j_ofx (cc := cX1_die) (maxL := 5) (ret := none) (by decide) rfl (Nat.le_of_ble_eq_true rfl) ?_
  intro p e s m below meth c ls hx hb hr hml hts hown hlocks htab hl hpre
  have hown : s.vm.findClass RX1 = some m.cls := hown
  have hl : lv_has ls 5 [(0, .ref (ax 0)), (1, .int (nI k)), (2, .int (nI 1)), (3, .int (nI v))] := hl
  obtain ⟨v0, v1, v2, v3, v4, v5, v6, v7, v8, v9⟩ := id hv
  obtain ⟨⟨hP, hK⟩, hX⟩ := hpre
  refine lv_aload_n hx hb dX1_die_0 rfl (lv_at hl 0 rfl) ?_
  refine lv_iload_n hx hb dX1_die_1 rfl (lv_at hl 1 rfl) ?_
  refine j_cR_ (As := [.int (nI k)]) (rest := []) ⟨hx, hb, hml, hown, hts⟩ (c_X1_find l dC dI cI cJ cZ cO ax ao n mo k (aa 0) hk hao) (cwV 1 hts gX1_die_X1_find rfl rfl rfl (by decide +kernel) ⟨Nat.le_of_ble_eq_true rfl, Nat.le_of_ble_eq_true rfl⟩) (jR_V hK hP [0, 1] rfl (ci := 1) (q0 := 0) rfl rfl rfl) rfl hl rfl (Nat.le_of_ble_eq_true rfl) dX1_die_2 ⟨Nat.le_of_ble_eq_true rfl, Nat.le_of_ble_eq_true rfl⟩ ?_
  refine lv_astore (lv' := [(4, .ref (aa 0)), (0, .ref (ax 0)), (1, .int (nI k)), (2, .int (nI 1)), (3, .int (nI v))]) hx hb dX1_die_5 hl (by decide) rfl (fun ls hl => ?_)
  refine lv_iload_n hx hb dX1_die_7 rfl (lv_at hl 3 rfl) ?_
  refine lv_iconst (v := nI 0) hx hb dX1_die_8 (by decide) ?_
  refine lv_iconst (v := nI 1) hx hb dX1_die_9 (by decide) ?_
  refine j_sV (As := [.int (nI 1), .int (nI 0), .int (nI 1)]) (rest := []) ⟨hx, hb, hml, hown, hts⟩ (c_X1_requireRange l dC dI (nI 1) (nI 0) (nI 1) (nI_nlt (by omega) (by omega)) (nI_nlt (by omega) (by omega))) (cwS 3 hts gX1_die_X1_requireRange rfl rfl rfl (by decide +kernel) ⟨Nat.le_of_ble_eq_true rfl, Nat.le_of_ble_eq_true rfl⟩) rfl hl rfl (Nat.le_of_ble_eq_true rfl) dX1_die_10 ⟨Nat.le_of_ble_eq_true rfl, Nat.le_of_ble_eq_true rfl⟩ ?_
  refine lv_iload_n hx hb dX1_die_13 rfl (lv_at hl 4 rfl) ?_
  refine lv_iconst (v := nI 0) hx hb dX1_die_14 (by decide) ?_
  refine lv_aload_n hx hb dX1_die_15 rfl (lv_at hl 1 rfl) ?_
  refine va_get (D := (dC, dI)) (ci := 1) (v := .int (nI mo)) (C := RX1) (T := TX1) (N := 4) hx hb hts (fun _ h => List.mem_cons_of_mem _ (List.mem_append_left _ (List.mem_append_left _ (List.mem_append_left _ (List.mem_append_left _ (List.mem_append_right _ h)))))) hown hK hP 0 rfl rfl 3 (by decide) (hts (.fieldLink RX1 23 "JointAnnuity" "monthThatGoesOn" "I") (List.mem_of_getElem? (i := 3) rfl)) (fun _ h9 => h9) rfl dX1_die_16 ?_
  refine lv_sipush (v := nI 239) hx hb dX1_die_19 (by decide) ?_
  refine va_mmin hx hb (hml.trans hl.1.symm) hown (hts (.methodLink RX1 69 Lib.Math.min.name) (List.mem_of_getElem? (i := 4) rfl)) (hts (.static Lib.Math.min.name) (List.mem_of_getElem? (i := 5) rfl)) (hts (.initialized "java/lang/Math") (List.mem_of_getElem? (i := 6) rfl)) (hts (.code Lib.Math.min.name Lib.Math.min.code 2 (some .int)) (List.mem_of_getElem? (i := 7) rfl)) (Nat.le_of_ble_eq_true rfl) (Nat.le_of_ble_eq_true rfl) (Nat.le_of_ble_eq_true rfl) (Nat.le_of_ble_eq_true rfl) dX1_die_22 ?_
  refine j_i (y := nI (min mo 239)) (jminI (by omega) (by omega)) ?_
  refine j_sV (As := [.int (nI v), .int (nI 0), .int (nI (min mo 239))]) (rest := []) ⟨hx, hb, hml, hown, hts⟩ (c_X1_requireRange l dC dI (nI v) (nI 0) (nI (min mo 239)) (nI_nlt (by omega) (by omega)) (nI_nlt (by omega) (by omega))) (cwS 3 hts gX1_die_X1_requireRange rfl rfl rfl (by decide +kernel) ⟨Nat.le_of_ble_eq_true rfl, Nat.le_of_ble_eq_true rfl⟩) rfl hl rfl (Nat.le_of_ble_eq_true rfl) dX1_die_25 ⟨Nat.le_of_ble_eq_true rfl, Nat.le_of_ble_eq_true rfl⟩ ?_
  refine lv_aload hx hb dX1_die_28 (lv_at hl 0 rfl) ?_
  refine va_get (D := (dC, dI)) (ci := 0) (v := .ref (aa 1)) (C := RX0) (T := TX0) (N := 13) hx hb hts (fun _ h => List.mem_cons_of_mem _ (List.mem_append_left _ (List.mem_append_left _ (List.mem_append_left _ (List.mem_append_right _ h))))) hown hK hP 3 rfl rfl 8 (by decide) (hts (.fieldLink RX1 75 "JointAnnuity$Annuity" "deaths" "[I") (List.mem_of_getElem? (i := 8) rfl)) (fun _ h9 => h9) rfl dX1_die_30 ?_
  refine lv_iload_n hx hb dX1_die_33 rfl (lv_at hl 3 rfl) ?_
  refine va_iald hx hb hK hP 4 0 (f := fun j => nI (if j = 0 then an 8 else an 9)) rfl rfl (vp_in_nI (n := 1) (N := 2) (by omega) (by omega)) dX1_die_34 ?_
  refine j_i (y := nI (an 9)) (jd1 _ _) ?_
  refine lv_sipush (v := nI 240) hx hb dX1_die_35 (by decide) ?_
  refine lv_icmp_eq (tgt := 51) hx hb dX1_die_38 (by decide) (fun c_38 => ?_) (fun c_38 => ?_)
  · have c_38 : an 9 = 240 := (nI_eq (a := an 9) (b := 240) (by omega) (by omega)).mp c_38
    omega
  · have c_38 : ¬ (an 9 = 240) := fun h => c_38 ((nI_eq (a := an 9) (b := 240) (by omega) (by omega)).mpr h)
    exact j_throw (E := eS) hx hb hst hown (by decide +kernel) (by simp) (hts (.classLink RX1 31 "java/lang/IllegalStateException") (List.mem_of_getElem? (i := 1) rfl)) (hts (.initialized "java/lang/IllegalStateException") (List.mem_of_getElem? (i := 2) rfl)) (fun w h => hts w (List.mem_cons_of_mem _ (List.mem_append_left _ (List.mem_append_left _ (List.mem_append_right _ h))))) jgS jbS hX (List.mem_of_getElem? (i := 1) rfl) hl hml dX1_die_41 dX1_die_44 dX1_die_45 dX1_die_47 dX1_die_50 htab (Nat.le_of_ble_eq_true rfl) (Nat.le_of_ble_eq_true rfl) (Nat.le_of_ble_eq_true rfl) (Nat.le_of_ble_eq_true rfl) hlocks
set_option maxHeartbeats 4000000 in
set_option maxRecDepth 100000 in
/-- its death has not been told -/
theorem x3_1_X1_takeBack (l : Launch) (dC : Nat → ClassId) (dI : Nat → Nat → Nat) (cI cJ cZ cO : ClassId) (ax : Nat → Nat) (ao : Nat → Option Nat) (n mo : Nat) (iv : Nat → Int32) (aa an : Nat → Nat) (kp : Int64) (py : Nat → Int64) (k : Nat) (hst : l.stackTraces = false) (hv : jV an) (hm : mo ≤ 240) (hk : k < 20) (hao : ao k = some (aa 0)) (ht9 : an 9 = 240) : vx_Met l yX1_takeBack wsX1_takeBack ({ frames := 6, cells := 1, slots := 6, locals := 82 }) (va_Pc [.ref (ax 0), .int (nI k), .int (nI 1)] (jRX (dC, dI) (jTY cI cJ cZ cO) (jFW cI cJ cO ax ao n mo iv aa an kp py))) (jFQ) (jXC eS) 1 6 (fun _ => False) := by
  refine j_ofx (cc := cX1_takeBack) (maxL := 5) (ret := (some .int)) (by decide) rfl (Nat.le_of_ble_eq_true rfl) ?_
  intro p e s m below meth c ls hx hb hr hml hts hown hlocks htab hl hpre
  have hown : s.vm.findClass RX1 = some m.cls := hown
  have hl : lv_has ls 5 [(0, .ref (ax 0)), (1, .int (nI k)), (2, .int (nI 1))] := hl
  obtain ⟨v0, v1, v2, v3, v4, v5, v6, v7, v8, v9⟩ := id hv
  obtain ⟨⟨hP, hK⟩, hX⟩ := hpre
  refine lv_aload_n hx hb dX1_takeBack_0 rfl (lv_at hl 0 rfl) ?_
  refine lv_iload_n hx hb dX1_takeBack_1 rfl (lv_at hl 1 rfl) ?_
  refine j_cR_ (As := [.int (nI k)]) (rest := []) ⟨hx, hb, hml, hown, hts⟩ (c_X1_find l dC dI cI cJ cZ cO ax ao n mo k (aa 0) hk hao) (cwV 1 hts gX1_takeBack_X1_find rfl rfl rfl (by decide +kernel) ⟨Nat.le_of_ble_eq_true rfl, Nat.le_of_ble_eq_true rfl⟩) (jR_V hK hP [0, 1] rfl (ci := 1) (q0 := 0) rfl rfl rfl) rfl hl rfl (Nat.le_of_ble_eq_true rfl) dX1_takeBack_2 ⟨Nat.le_of_ble_eq_true rfl, Nat.le_of_ble_eq_true rfl⟩ ?_
  refine lv_astore_n (lv' := [(3, .ref (aa 0)), (0, .ref (ax 0)), (1, .int (nI k)), (2, .int (nI 1))]) hx hb dX1_takeBack_5 rfl hl (by decide) rfl (fun ls hl => ?_)
  refine lv_iload_n hx hb dX1_takeBack_6 rfl (lv_at hl 3 rfl) ?_
  refine lv_iconst (v := nI 0) hx hb dX1_takeBack_7 (by decide) ?_
  refine lv_iconst (v := nI 1) hx hb dX1_takeBack_8 (by decide) ?_
  refine j_sV (As := [.int (nI 1), .int (nI 0), .int (nI 1)]) (rest := []) ⟨hx, hb, hml, hown, hts⟩ (c_X1_requireRange l dC dI (nI 1) (nI 0) (nI 1) (nI_nlt (by omega) (by omega)) (nI_nlt (by omega) (by omega))) (cwS 3 hts gX1_takeBack_X1_requireRange rfl rfl rfl (by decide +kernel) ⟨Nat.le_of_ble_eq_true rfl, Nat.le_of_ble_eq_true rfl⟩) rfl hl rfl (Nat.le_of_ble_eq_true rfl) dX1_takeBack_9 ⟨Nat.le_of_ble_eq_true rfl, Nat.le_of_ble_eq_true rfl⟩ ?_
  refine lv_aload_n hx hb dX1_takeBack_12 rfl (lv_at hl 0 rfl) ?_
  refine va_get (D := (dC, dI)) (ci := 0) (v := .ref (aa 1)) (C := RX0) (T := TX0) (N := 13) hx hb hts (fun _ h => List.mem_cons_of_mem _ (List.mem_append_left _ (List.mem_append_left _ (List.mem_append_left _ (List.mem_append_left _ (List.mem_append_right _ h)))))) hown hK hP 3 rfl rfl 8 (by decide) (hts (.fieldLink RX1 75 "JointAnnuity$Annuity" "deaths" "[I") (List.mem_of_getElem? (i := 3) rfl)) (fun _ h9 => h9) rfl dX1_takeBack_13 ?_
  refine lv_iload_n hx hb dX1_takeBack_16 rfl (lv_at hl 3 rfl) ?_
  refine va_iald hx hb hK hP 4 0 (f := fun j => nI (if j = 0 then an 8 else an 9)) rfl rfl (vp_in_nI (n := 1) (N := 2) (by omega) (by omega)) dX1_takeBack_17 ?_
  refine j_i (y := nI (an 9)) (jd1 _ _) ?_
  refine lv_istore (lv' := [(4, .int (nI (an 9))), (3, .ref (aa 0)), (0, .ref (ax 0)), (1, .int (nI k)), (2, .int (nI 1))]) hx hb dX1_takeBack_18 hl (by decide) rfl (fun ls hl => ?_)
  refine lv_iload hx hb dX1_takeBack_20 (lv_at hl 0 rfl) ?_
  refine lv_sipush (v := nI 240) hx hb dX1_takeBack_22 (by decide) ?_
  refine lv_icmp_ne (tgt := 38) hx hb dX1_takeBack_25 (by decide) (fun c_25 => ?_) (fun c_25 => ?_)
  · have c_25 : ¬ (an 9 = 240) := fun h => c_25 ((nI_eq (a := an 9) (b := 240) (by omega) (by omega)).mpr h)
    omega
  · have c_25 : an 9 = 240 := (nI_eq (a := an 9) (b := 240) (by omega) (by omega)).mp c_25
    exact j_throw (E := eS) hx hb hst hown (by decide +kernel) (by simp) (hts (.classLink RX1 31 "java/lang/IllegalStateException") (List.mem_of_getElem? (i := 1) rfl)) (hts (.initialized "java/lang/IllegalStateException") (List.mem_of_getElem? (i := 2) rfl)) (fun w h => hts w (List.mem_cons_of_mem _ (List.mem_append_left _ (List.mem_append_left _ (List.mem_append_right _ h))))) jgS jbS hX (List.mem_of_getElem? (i := 2) rfl) hl hml dX1_takeBack_28 dX1_takeBack_31 dX1_takeBack_32 dX1_takeBack_34 dX1_takeBack_37 htab (Nat.le_of_ble_eq_true rfl) (Nat.le_of_ble_eq_true rfl) (Nat.le_of_ble_eq_true rfl) (Nat.le_of_ble_eq_true rfl) hlocks
set_option maxHeartbeats 4000000 in
set_option maxRecDepth 100000 in
/-- it owes less -/
theorem x3_X1_giveBack (l : Launch) (dC : Nat → ClassId) (dI : Nat → Nat → Nat) (cI cJ cZ cO : ClassId) (ax : Nat → Nat) (ao : Nat → Option Nat) (n mo : Nat) (iv : Nat → Int32) (aa an : Nat → Nat) (kp : Int64) (py : Nat → Int64) (k : Nat) (v : Nat) (hst : l.stackTraces = false) (hv : jV an) (hm : mo ≤ 240) (hk : k < 20) (hao : ao k = some (aa 0)) (h1 : 1 ≤ v) (h2 : v ≤ 100000000) (ho : jmx (kp - lN (jU an iv mo)) < lN v) : vx_Met l yX1_giveBack wsX1_giveBack ({ frames := 6, cells := 1, slots := 6, locals := 137 }) (va_Pc [.ref (ax 0), .int (nI k), .int (nI v)] (jRX (dC, dI) (jTY cI cJ cZ cO) (jFW cI cJ cO ax ao n mo iv aa an kp py))) (jFQ) (jXC eS) 1 6 (fun _ => False) := by
  refine j_ofx (cc := cX1_giveBack) (maxL := 6) (ret := (some .long)) (by decide) rfl (Nat.le_of_ble_eq_true rfl) ?_
  intro p e s m below meth c ls hx hb hr hml hts hown hlocks htab hl hpre
  have hown : s.vm.findClass RX1 = some m.cls := hown
  have hl : lv_has ls 6 [(0, .ref (ax 0)), (1, .int (nI k)), (2, .int (nI v))] := hl
  obtain ⟨v0, v1, v2, v3, v4, v5, v6, v7, v8, v9⟩ := id hv
  obtain ⟨⟨hP, hK⟩, hX⟩ := hpre
  refine lv_aload_n hx hb dX1_giveBack_0 rfl (lv_at hl 0 rfl) ?_
  refine lv_iload_n hx hb dX1_giveBack_1 rfl (lv_at hl 1 rfl) ?_
  refine j_cR_ (As := [.int (nI k)]) (rest := []) ⟨hx, hb, hml, hown, hts⟩ (c_X1_find l dC dI cI cJ cZ cO ax ao n mo k (aa 0) hk hao) (cwV 1 hts gX1_giveBack_X1_find rfl rfl rfl (by decide +kernel) ⟨Nat.le_of_ble_eq_true rfl, Nat.le_of_ble_eq_true rfl⟩) (jR_V hK hP [0, 1] rfl (ci := 1) (q0 := 0) rfl rfl rfl) rfl hl rfl (Nat.le_of_ble_eq_true rfl) dX1_giveBack_2 ⟨Nat.le_of_ble_eq_true rfl, Nat.le_of_ble_eq_true rfl⟩ ?_
  refine lv_astore_n (lv' := [(3, .ref (aa 0)), (0, .ref (ax 0)), (1, .int (nI k)), (2, .int (nI v))]) hx hb dX1_giveBack_5 rfl hl (by decide) rfl (fun ls hl => ?_)
  refine lv_iload_n hx hb dX1_giveBack_6 rfl (lv_at hl 3 rfl) ?_
  refine lv_iconst (v := nI 1) hx hb dX1_giveBack_7 (by decide) ?_
  refine lv_ldc hx hb hown (hts (.constant RX1 88 (100000000)) (List.mem_of_getElem? (i := 3) rfl)) dX1_giveBack_8 ?_
  refine j_i (y := nI 100000000) (by decide +kernel) ?_
  refine j_sV (As := [.int (nI v), .int (nI 1), .int (nI 100000000)]) (rest := []) ⟨hx, hb, hml, hown, hts⟩ (c_X1_requireRange l dC dI (nI v) (nI 1) (nI 100000000) (nI_nlt (by omega) (by omega)) (nI_nlt (by omega) (by omega))) (cwS 3 hts gX1_giveBack_X1_requireRange rfl rfl rfl (by decide +kernel) ⟨Nat.le_of_ble_eq_true rfl, Nat.le_of_ble_eq_true rfl⟩) rfl hl rfl (Nat.le_of_ble_eq_true rfl) dX1_giveBack_10 ⟨Nat.le_of_ble_eq_true rfl, Nat.le_of_ble_eq_true rfl⟩ ?_
  refine lv_aload_n hx hb dX1_giveBack_13 rfl (lv_at hl 0 rfl) ?_
  refine lv_aload_n hx hb dX1_giveBack_14 rfl (lv_at hl 1 rfl) ?_
  refine va_get (D := (dC, dI)) (ci := 1) (v := .int (nI mo)) (C := RX1) (T := TX1) (N := 4) hx hb hts (fun _ h => List.mem_cons_of_mem _ (List.mem_append_left _ (List.mem_append_left _ (List.mem_append_left _ (List.mem_append_left _ (List.mem_append_right _ h)))))) hown hK hP 0 rfl rfl 3 (by decide) (hts (.fieldLink RX1 23 "JointAnnuity" "monthThatGoesOn" "I") (List.mem_of_getElem? (i := 4) rfl)) (fun _ h9 => h9) rfl dX1_giveBack_15 ?_
  refine j_cL_ (As := [.int (nI mo)]) (rest := []) ⟨hx, hb, hml, hown, hts⟩ (c_X0_debtAhead l dC dI cI cJ cZ cO aa an iv kp py mo hv hm) (cwV 1 hts gX1_giveBack_X0_debtAhead rfl rfl rfl (by decide +kernel) ⟨Nat.le_of_ble_eq_true rfl, Nat.le_of_ble_eq_true rfl⟩) (jR_V hK hP [3, 4, 5, 6, 7] rfl (ci := 0) (q0 := 3) rfl rfl rfl) rfl hl rfl (Nat.le_of_ble_eq_true rfl) dX1_giveBack_18 ⟨Nat.le_of_ble_eq_true rfl, Nat.le_of_ble_eq_true rfl⟩ (fun r_18 hr_18 => ?_)
  subst hr_18
  refine lv_lstore (lv' := [(4, .long (jmx (kp - lN (jU an iv mo)))), (3, .ref (aa 0)), (0, .ref (ax 0)), (1, .int (nI k)), (2, .int (nI v))]) hx hb dX1_giveBack_21 hl (by decide) rfl (fun ls hl => ?_)
  refine lv_lload hx hb dX1_giveBack_23 (lv_at hl 0 rfl) ?_
  refine lv_iload_n hx hb dX1_giveBack_25 rfl (lv_at hl 4 rfl) ?_
  refine lv_i2l (v := lN v) hx hb dX1_giveBack_26 (nI_l (by omega)) ?_
  refine W.lcmp hx hb dX1_giveBack_27 ?_
  refine lv_if_ge (tgt := 41) hx hb dX1_giveBack_28 (by decide) (fun c_28 => ?_) (fun c_28 => ?_)
  · exact absurd ho (Int64.not_lt.mpr ((lg_cmp_ge _ _).mp c_28))
  · exact j_throw (E := eS) hx hb hst hown (by decide +kernel) (by simp) (hts (.classLink RX1 31 "java/lang/IllegalStateException") (List.mem_of_getElem? (i := 1) rfl)) (hts (.initialized "java/lang/IllegalStateException") (List.mem_of_getElem? (i := 2) rfl)) (fun w h => hts w (List.mem_cons_of_mem _ (List.mem_append_left _ (List.mem_append_left _ (List.mem_append_right _ h))))) jgS jbS hX (List.mem_of_getElem? (i := 4) rfl) hl hml dX1_giveBack_31 dX1_giveBack_34 dX1_giveBack_35 dX1_giveBack_37 dX1_giveBack_40 htab (Nat.le_of_ble_eq_true rfl) (Nat.le_of_ble_eq_true rfl) (Nat.le_of_ble_eq_true rfl) (Nat.le_of_ble_eq_true rfl) hlocks
end
section
/-! worlds with any number of annuities: blocks, one of them taken out and put back -/
theorem j_nd {A : Nat → Prop} {ws : va_W} (h : va_D A ws) : (ws.map (·.1)).Nodup := by
  rw [List.nodup_iff_pairwise_ne, List.pairwise_iff_getElem]
  intro i j hi hj hij e
  rw [List.length_map] at hi hj
  rw [List.getElem_map, List.getElem_map] at e
  have := h.1 i j _ _ (List.getElem?_eq_getElem hi) (List.getElem?_eq_getElem hj) e
  omega
theorem j_ofnd {A : Nat → Prop} {ws : va_W} (h : (ws.map (·.1)).Nodup) (hA : ∀ q ∈ ws, A q.1) : va_D A ws := by
  refine ⟨fun i j p q hi hj e => ?_, fun k q hk => hA q (List.mem_of_getElem? hk)⟩
  have h1 : (ws.map (·.1))[i]? = some p.1 := by rw [List.getElem?_map, hi]; rfl
  have h2 : (ws.map (·.1))[j]? = some p.1 := by rw [List.getElem?_map, hj, e]; rfl
  obtain ⟨a1, b1⟩ := List.getElem?_eq_some_iff.mp h1
  obtain ⟨a2, b2⟩ := List.getElem?_eq_some_iff.mp h2
  rw [List.nodup_iff_pairwise_ne, List.pairwise_iff_getElem] at h
  rcases Nat.lt_trichotomy i j with q | q | q
  · exact absurd (b1.trans b2.symm) (h i j a1 a2 q)
  · exact q
  · exact absurd (b2.trans b1.symm) (h j i a2 a1 q)
theorem j_subP {D : va_G} {cl : List vw_C} {ws wc : va_W} {H : Heap} (h : va_P D cl ws H) (hs : wc.Sublist ws) : va_P D cl wc H := by
  intro k q hk
  obtain ⟨j, hj⟩ := List.getElem?_of_mem (hs.subset (List.mem_of_getElem? hk))
  exact h j q hj
theorem j_subD {A : Nat → Prop} {ws wc : va_W} (h : va_D A ws) (hs : wc.Sublist ws) : va_D A wc :=
  j_ofnd ((j_nd h).sublist (hs.map _)) (fun q hq => by
    obtain ⟨j, hj⟩ := List.getElem?_of_mem (hs.subset hq)
    exact h.2 j q hj)
theorem j_subA {A : Nat → Prop} {ws wc : va_W} (h : va_D A ws) (hs : wc.Sublist ws) : ∀ q, jA wc q → A q := by
  intro q ⟨k, e, hk⟩
  exact (j_subD h hs).2 k _ hk
theorem j_apart {A : Nat → Prop} {a b : va_W} (h : va_D A (a ++ b)) : ∀ x ∈ a, ∀ y ∈ b, x.1 ≠ y.1 := by
  have h1 := j_nd h
  rw [List.map_append, List.nodup_append] at h1
  intro x hx y hy
  exact h1.2.2 x.1 (List.mem_map.mpr ⟨x, hx, rfl⟩) y.1 (List.mem_map.mpr ⟨y, hy, rfl⟩)
/-- blocks, one behind the other -/
def jBl (blk : Nat → va_W) : Nat → va_W
  | 0 => []
  | n + 1 => jBl blk n ++ blk n
theorem jBl_mem {blk : Nat → va_W} {n : Nat} {q : Nat × va_E} : q ∈ jBl blk n ↔ ∃ k, k < n ∧ q ∈ blk k := by
  induction n with
  | zero => exact ⟨fun h => absurd h List.not_mem_nil, fun ⟨k, h, _⟩ => absurd h (Nat.not_lt_zero _)⟩
  | succ n ih =>
    show q ∈ jBl blk n ++ blk n ↔ _
    rw [List.mem_append, ih]
    constructor
    · rintro (⟨k, h1, h2⟩ | h)
      · exact ⟨k, by omega, h2⟩
      · exact ⟨n, by omega, h⟩
    · rintro ⟨k, h1, h2⟩
      by_cases h : k = n
      · subst h; exact Or.inr h2
      · exact Or.inl ⟨k, by omega, h2⟩
theorem jBl_sub {blk : Nat → va_W} {n k : Nat} (h : k < n) : (blk k).Sublist (jBl blk n) := by
  induction n with
  | zero => exact absurd h (Nat.not_lt_zero _)
  | succ n ih =>
    show (blk k).Sublist (jBl blk n ++ blk n)
    by_cases h1 : k = n
    · subst h1; exact List.sublist_append_right _ _
    · exact (ih (by omega)).trans (List.sublist_append_left _ _)
theorem jBl_congr {blk blk' : Nat → va_W} {n : Nat} (h : ∀ k, k < n → blk k = blk' k) : jBl blk n = jBl blk' n := by
  induction n with
  | zero => rfl
  | succ n ih =>
    show jBl blk n ++ blk n = jBl blk' n ++ blk' n
    rw [ih (fun k hk => h k (by omega)), h n (by omega)]
theorem jBl_adr {blk blk' : Nat → va_W} {n : Nat} (h : ∀ k, k < n → (blk k).map (·.1) = (blk' k).map (·.1)) : (jBl blk n).map (·.1) = (jBl blk' n).map (·.1) := by
  induction n with
  | zero => rfl
  | succ n ih =>
    show (jBl blk n ++ blk n).map (·.1) = (jBl blk' n ++ blk' n).map (·.1)
    rw [List.map_append, List.map_append, ih (fun k hk => h k (by omega)), h n (by omega)]
theorem jBl_apart {A : Nat → Prop} {blk : Nat → va_W} {n : Nat} (h : va_D A (jBl blk n)) : ∀ j k, j < n → k < n → j ≠ k → ∀ x ∈ blk j, ∀ y ∈ blk k, x.1 ≠ y.1 := by
  induction n with
  | zero => intro j k h; exact absurd h (Nat.not_lt_zero _)
  | succ n ih =>
    intro j k hj hk hn x hx y hy
    have h0 : va_D A (jBl blk n ++ blk n) := h
    by_cases h1 : j = n
    · subst h1
      exact fun e => j_apart h0 y (jBl_mem.mpr ⟨k, by omega, hy⟩) x hx e.symm
    · by_cases h2 : k = n
      · subst h2
        exact j_apart h0 x (jBl_mem.mpr ⟨j, by omega, hx⟩) y hy
      · exact ih (j_subD h0 (List.sublist_append_left _ _)) j k (by omega) (by omega) hn x hx y hy
/-- block k changed, all else as it was -/
def jSet {α : Type} (f : Nat → α) (k : Nat) (v : α) : Nat → α := fun j => if j = k then v else f j
theorem jSet_s {α : Type} (f : Nat → α) (k : Nat) (v : α) : jSet f k v k = v := if_pos rfl
theorem jSet_n {α : Type} (f : Nat → α) {k j : Nat} (v : α) (h : j ≠ k) : jSet f k v j = f j := if_neg h
/-- behind a call on X, block k and part of Z: all is put back -/
theorem j_back {A : Nat → Prop} {D : va_G} {cl : List vw_C} {X X' Zc Zc' Zr : va_W} {blk blk' : Nat → va_W} {n k : Nat} {H H1 : Heap} (hk : k < n)
    (hP : va_P D cl (X ++ (jBl blk n ++ (Zc ++ Zr))) H) (hD : va_D A (X ++ (jBl blk n ++ (Zc ++ Zr)))) (haX : X.map (·.1) = X'.map (·.1)) (haB : (blk k).map (·.1) = (blk' k).map (·.1)) (haZ : Zc.map (·.1) = Zc'.map (·.1)) (hb : ∀ j, j < n → j ≠ k → blk' j = blk j)
    (hkk : ∀ q : Nat, q < H.size → ¬ jA (X ++ (blk k ++ Zc)) q → H1[q]? = H[q]?) (hP1 : va_P D cl (X' ++ (blk' k ++ Zc')) H1) : va_P D cl (X' ++ (jBl blk' n ++ (Zc' ++ Zr))) H1 ∧ va_D A (X' ++ (jBl blk' n ++ (Zc' ++ Zr))) := by
  refine j_wu hP hD ?_ hkk hP1 ?_
  · rw [List.map_append, List.map_append, List.map_append, List.map_append, List.map_append, List.map_append, haX, haZ, jBl_adr (blk := blk) (blk' := blk') fun j hj => ?_]
    by_cases h : j = k
    · subst h; exact haB
    · rw [hb j hj h]
  · intro q hq
    have hD2 := j_subD hD (List.sublist_append_right _ _)
    have hD3 := j_subD hD2 (List.sublist_append_left _ _)
    have hD4 := j_subD hD2 (List.sublist_append_right _ _)
    rcases List.mem_append.mp hq with h1 | h1
    · exact Or.inl (List.mem_append_left _ h1)
    · rcases List.mem_append.mp h1 with h2 | h2
      · obtain ⟨j, hj, h3⟩ := jBl_mem.mp h2
        by_cases h : j = k
        · subst h; exact Or.inl (List.mem_append_right _ (List.mem_append_left _ h3))
        · rw [hb j hj h] at h3
          have h4 : q ∈ jBl blk n := jBl_mem.mpr ⟨j, hj, h3⟩
          refine Or.inr ⟨List.mem_append_right _ (List.mem_append_left _ h4), fun z hz => ?_⟩
          rcases List.mem_append.mp hz with g1 | g1
          · exact j_apart hD z g1 q (List.mem_append_left _ h4)
          · rcases List.mem_append.mp g1 with g2 | g2
            · exact jBl_apart hD3 k j hk hj (fun e => h e.symm) z g2 q h3
            · exact fun e => j_apart hD2 q h4 z (List.mem_append_left _ g2) e.symm
      · rcases List.mem_append.mp h2 with h3 | h3
        · exact Or.inl (List.mem_append_right _ (List.mem_append_right _ h3))
        · refine Or.inr ⟨List.mem_append_right _ (List.mem_append_right _ (List.mem_append_right _ h3)), fun z hz => ?_⟩
          rcases List.mem_append.mp hz with g1 | g1
          · exact j_apart hD z g1 q (List.mem_append_right _ (List.mem_append_right _ h3))
          · rcases List.mem_append.mp g1 with g2 | g2
            · exact j_apart hD2 z (jBl_mem.mpr ⟨k, hk, g2⟩) q (List.mem_append_right _ h3)
            · exact j_apart hD4 z g2 q h3
theorem j_focus {X Zc Zr : va_W} {blk : Nat → va_W} {n k : Nat} (hk : k < n) : (X ++ (blk k ++ Zc)).Sublist (X ++ (jBl blk n ++ (Zc ++ Zr))) :=
  (List.Sublist.refl X).append ((jBl_sub hk).append (List.sublist_append_left _ _))
/-- all annuities of the desk: aa k their addresses, an k their numbers -/
abbrev jao (aa : Nat → Nat → Nat) (n : Nat) : Nat → Option Nat := fun j => if j < n then some (aa j 0) else none
abbrev jbk (cI cJ : ClassId) (aa an : Nat → Nat → Nat) (iv : Nat → Int32) (kp : Nat → Int64) (py : Nat → Nat → Int64) : Nat → va_W := fun k => jAW cI cJ (aa k) (an k) iv (kp k) (py k)
abbrev jX3 (cI cO : ClassId) (ax : Nat → Nat) (ao : Nat → Option Nat) (n mo : Nat) (iv : Nat → Int32) : va_W := [jXo ax n mo, jXa cO ax ao, jXi cI ax iv]
section JG
variable {p : Program} {l : Launch} {e : Env} {R : Room} {s : State} {m : MethodId} {args : Array Value} {below : List Frame} {meth : Method} {c : Code} {H : Heap} {locs : List Loc} {cells slots : Nat} {Q : State → Prop}
variable {pc : Nat} {ls : Array Slot} {rest st0 As : List Value} {lv : List (Nat × Value)}
variable {y : MethodName} {bytes cc : ByteArray} {maxL nL n index : Nat} {ret : Option FieldType} {ws' : List Cond} {rm : Room} {Ts : List Cond} {own C : String} {b : Addr} {Pc : Array Value → State → Prop}
variable {A0 : Nat → Prop} {H0 : Heap} {D : va_G} {wc : va_W}
/-- a writer called on a part of a larger world: what it leaves and what it keeps -/
theorem j_gL {S : Type} {post : Int64 → S → Prop} {w1 : S → va_W} (Sx : CallFix p m c cc nL s args Ts own) (hM : Met l y ws' rm Pc (va_Ql post (fun u t => va_P D vwCl (w1 u) t.heap) (jA wc)) 0 0 (jA wc)) (cw : CallW R s args own C index y bytes maxL ret ws' rm 0 0 n) (hp : PreV s H C b Pc As) (hn : As.length = n) (hl : lv_has ls nL lv) (hst : st0 = As.reverse ++ .ref b :: rest) (hro : (rest.map fun v => v.category).sum ≤ 8) (hdg : decode cc pc = .ok (.invokevirtual index, 3)) (hf : cells ≤ R.cells ∧ slots ≤ R.slots)
    (hS : va_S A0 H0 H locs) (hA : ∀ q, jA wc q → A0 q)
    (kk : ∀ (r : Int64) (u : S) (H1 : Heap) (locs1 : List Loc), post r u → va_P D vwCl (w1 u) H1 → (∀ q : Nat, q < H.size → ¬ jA wc q → H1[q]? = H[q]?) → va_S A0 H0 H1 locs1 → W p l e R s m args below meth c H1 locs1 cells slots Q (F0 m (pc + 3) ls (.long r :: rest))) : W p l e R s m args below meth c H locs cells slots Q (F0 m pc ls st0) :=
  va_calll (va_runV Sx hM cw hp rfl hn hl.1 hst (lv_room hro) hdg hf) hS (fun q _ h => hA q h) (fun q h => hA q h) (fun r u t H1 locs1 ht _ hw hB _ hk hS1 => kk r u H1 locs1 hw (by rw [← ht]; exact hB) hk hS1)
theorem j_gI {S : Type} {post : Int32 → S → Prop} {w1 : S → va_W} (Sx : CallFix p m c cc nL s args Ts own) (hM : Met l y ws' rm Pc (va_Qi post (fun u t => va_P D vwCl (w1 u) t.heap) (jA wc)) 0 0 (jA wc)) (cw : CallW R s args own C index y bytes maxL ret ws' rm 0 0 n) (hp : PreV s H C b Pc As) (hn : As.length = n) (hl : lv_has ls nL lv) (hst : st0 = As.reverse ++ .ref b :: rest) (hro : (rest.map fun v => v.category).sum ≤ 8) (hdg : decode cc pc = .ok (.invokevirtual index, 3)) (hf : cells ≤ R.cells ∧ slots ≤ R.slots)
    (hS : va_S A0 H0 H locs) (hA : ∀ q, jA wc q → A0 q)
    (kk : ∀ (r : Int32) (u : S) (H1 : Heap) (locs1 : List Loc), post r u → va_P D vwCl (w1 u) H1 → (∀ q : Nat, q < H.size → ¬ jA wc q → H1[q]? = H[q]?) → va_S A0 H0 H1 locs1 → W p l e R s m args below meth c H1 locs1 cells slots Q (F0 m (pc + 3) ls (.int r :: rest))) : W p l e R s m args below meth c H locs cells slots Q (F0 m pc ls st0) :=
  va_calli (va_runV Sx hM cw hp rfl hn hl.1 hst (lv_room hro) hdg hf) hS (fun q _ h => hA q h) (fun q h => hA q h) (fun r u t H1 locs1 ht _ hw hB _ hk hS1 => kk r u H1 locs1 hw (by rw [← ht]; exact hB) hk hS1)
theorem j_gV {S : Type} {post : S → Prop} {w1 : S → va_W} (Sx : CallFix p m c cc nL s args Ts own) (hM : Met l y ws' rm Pc (va_Qv post (fun u t => va_P D vwCl (w1 u) t.heap) (jA wc)) 0 0 (jA wc)) (cw : CallW R s args own C index y bytes maxL ret ws' rm 0 0 n) (hp : PreV s H C b Pc As) (hn : As.length = n) (hl : lv_has ls nL lv) (hst : st0 = As.reverse ++ .ref b :: rest) (hro : (rest.map fun v => v.category).sum ≤ 8) (hdg : decode cc pc = .ok (.invokevirtual index, 3)) (hf : cells ≤ R.cells ∧ slots ≤ R.slots)
    (hS : va_S A0 H0 H locs) (hA : ∀ q, jA wc q → A0 q)
    (kk : ∀ (u : S) (H1 : Heap) (locs1 : List Loc), post u → va_P D vwCl (w1 u) H1 → (∀ q : Nat, q < H.size → ¬ jA wc q → H1[q]? = H[q]?) → va_S A0 H0 H1 locs1 → W p l e R s m args below meth c H1 locs1 cells slots Q (F0 m (pc + 3) ls rest)) : W p l e R s m args below meth c H locs cells slots Q (F0 m pc ls st0) :=
  va_callv (va_runV Sx hM cw hp rfl hn hl.1 hst (lv_room hro) hdg hf) hS (fun q _ h => hA q h) (fun q h => hA q h) (fun u t H1 locs1 ht _ hw hB _ hk hS1 => kk u H1 locs1 hw (by rw [← ht]; exact hB) hk hS1)
end JG
def jSum (Z : Nat → Int64) : Nat → Int64
  | 0 => 0
  | i + 1 => jSum Z i + Z i
theorem jVN {s am g : Nat} (h0 : s < 240) (h1 : am ≤ 100000) (h2 : g ≤ 240) : jV (jN s am g) := ⟨h0, h1, h2, Nat.le_refl 100, Nat.zero_le 1, Nat.zero_le 200, Nat.zero_le 10000000, Nat.zero_le 100, Nat.le_refl 240, Nat.le_refl 240⟩
theorem j_focus0 {X : va_W} {blk : Nat → va_W} {n k : Nat} (hk : k < n) : (X ++ blk k).Sublist (X ++ jBl blk n) := (List.Sublist.refl X).append (jBl_sub hk)
/-- behind a call on a part of X and block k -/
theorem j_backm {A : Nat → Prop} {D : va_G} {cl : List vw_C} {X F F' wc w1 : va_W} {blk blk' : Nat → va_W} {n k : Nat} {H H1 : Heap} (hk : k < n) (hP : va_P D cl (X ++ jBl blk n) H) (hD : va_D A (X ++ jBl blk n)) (hF : F = X ++ blk k)
    (is ir : List Nat) (hC : is.map (fun i => F[i]?) = wc.map some) (hN : is.map (fun i => F'[i]?) = w1.map some) (ads : List Nat) (ha1 : F.map (·.1) = ads) (ha2 : F'.map (·.1) = ads) (wr : va_W) (hR1 : ir.map (fun i => F[i]?) = wr.map some) (hR2 : ir.map (fun i => F'[i]?) = wr.map some) (hcov : ∀ i, i < F'.length → i ∈ is ∨ i ∈ ir)
    (hkk : ∀ q : Nat, q < H.size → ¬ jA wc q → H1[q]? = H[q]?) (hP1 : va_P D cl w1 H1) (hF' : F' = X ++ blk' k) (hb : ∀ j, j ≠ k → blk' j = blk j) : va_P D cl (X ++ jBl blk' n) H1 ∧ va_D A (X ++ jBl blk' n) := by
  have hPf : va_P D cl F H := by rw [hF]; exact j_subP hP (j_focus0 hk)
  have hDf : va_D A F := by rw [hF]; exact j_subD hD (j_focus0 hk)
  obtain ⟨g1, -⟩ := j_merge hPf hDf is ir hC hN (ha1.trans ha2.symm) (hR2.trans hR1.symm) hcov hkk hP1
  have hk2 : ∀ q : Nat, q < H.size → ¬ jA F q → H1[q]? = H[q]? := fun q h1 h2 => hkk q h1 (fun h3 => h2 (jA_sub hDf.jA is hC q h3))
  have ha : F.map (·.1) = F'.map (·.1) := ha1.trans ha2.symm
  have e := j_back (X := X) (X' := X) (Zc := []) (Zc' := []) (Zr := []) (blk := blk) (blk' := blk') (n := n) (k := k) (H := H) (H1 := H1) hk (by simpa using hP) (by simpa using hD) rfl (by
    rw [hF, hF', List.map_append, List.map_append] at ha
    exact List.append_cancel_left ha) rfl (fun j _ h => hb j h) (by rw [hF] at hk2; simpa using hk2) (by rw [hF'] at g1; simpa using g1)
  simpa using e
abbrev jbi (cI cJ : ClassId) (aa an : Nat → Nat → Nat) (iv iv2 : Nat → Int32) (kp : Nat → Int64) (py : Nat → Nat → Int64) (i : Nat) : Nat → va_W := fun k => jAW cI cJ (aa k) (an k) (if k < i then iv2 else iv) (kp k) (py k)
theorem jbi_a (cI cJ : ClassId) (aa an : Nat → Nat → Nat) (iv iv2 : Nat → Int32) (kp : Nat → Int64) (py : Nat → Nat → Int64) {i k : Nat} (h : i ≤ k) : jbi cI cJ aa an iv iv2 kp py i k = jbk cI cJ aa an iv kp py k := by
  show jAW cI cJ (aa k) (an k) (if k < i then iv2 else iv) (kp k) (py k) = _
  rw [if_neg (by omega)]
theorem jbi_b (cI cJ : ClassId) (aa an : Nat → Nat → Nat) (iv iv2 : Nat → Int32) (kp : Nat → Int64) (py : Nat → Nat → Int64) {i k : Nat} (h : k < i) : jbi cI cJ aa an iv iv2 kp py i k = jbk cI cJ aa an iv2 kp py k := by
  show jAW cI cJ (aa k) (an k) (if k < i then iv2 else iv) (kp k) (py k) = _
  rw [if_pos h]
theorem jbi_n (cI cJ : ClassId) (aa an : Nat → Nat → Nat) (iv iv2 : Nat → Int32) (kp : Nat → Int64) (py : Nat → Nat → Int64) {i k : Nat} (h : k ≠ i) : jbi cI cJ aa an iv iv2 kp py (i + 1) k = jbi cI cJ aa an iv iv2 kp py i k := by
  by_cases h1 : k < i
  · rw [jbi_b _ _ _ _ _ _ _ _ h1, jbi_b _ _ _ _ _ _ _ _ (by omega)]
  · rw [jbi_a _ _ _ _ _ _ _ _ (by omega), jbi_a _ _ _ _ _ _ _ _ (by omega)]
/-- what an annuity is paid when month mo is run -/
def jZ (an : Nat → Nat → Nat) (iv : Nat → Int32) (mo : Nat) (kp : Nat → Int64) (j : Nat) : Int64 := jmx (lN (jU (an j) iv (mo + 1)) - kp j)
def jki (kp Z : Nat → Int64) (i : Nat) : Nat → Int64 := fun j => if j < i then kp j + Z j else kp j
def jpi (py : Nat → Nat → Int64) (Z : Nat → Int64) (mo i : Nat) : Nat → Nat → Int64 := fun j => if j < i then vp_updL (py j) mo (Z j) else py j
theorem jki_a (kp Z : Nat → Int64) {i j : Nat} (h : i ≤ j) : jki kp Z i j = kp j := if_neg (by omega)
theorem jki_b (kp Z : Nat → Int64) {i j : Nat} (h : j < i) : jki kp Z i j = kp j + Z j := if_pos h
theorem jki_n (kp Z : Nat → Int64) {i j : Nat} (h : j ≠ i) : jki kp Z (i + 1) j = jki kp Z i j := by
  by_cases h1 : j < i
  · rw [jki_b _ _ h1, jki_b _ _ (by omega)]
  · rw [jki_a _ _ (by omega), jki_a _ _ (by omega)]
theorem jpi_a (py : Nat → Nat → Int64) (Z : Nat → Int64) (mo : Nat) {i j : Nat} (h : i ≤ j) : jpi py Z mo i j = py j := if_neg (by omega)
theorem jpi_b (py : Nat → Nat → Int64) (Z : Nat → Int64) (mo : Nat) {i j : Nat} (h : j < i) : jpi py Z mo i j = vp_updL (py j) mo (Z j) := if_pos h
theorem jpi_n (py : Nat → Nat → Int64) (Z : Nat → Int64) (mo : Nat) {i j : Nat} (h : j ≠ i) : jpi py Z mo (i + 1) j = jpi py Z mo i j := by
  by_cases h1 : j < i
  · rw [jpi_b _ _ _ h1, jpi_b _ _ _ (by omega)]
  · rw [jpi_a _ _ _ (by omega), jpi_a _ _ _ (by omega)]
theorem jbk_adr (cI cJ : ClassId) (aa an : Nat → Nat → Nat) (iv : Nat → Int32) (kp : Nat → Int64) (py : Nat → Nat → Int64) (k : Nat) : (jbk cI cJ aa an iv kp py k).map (·.1) = [aa k 0, aa k 1, aa k 2, aa k 3, aa k 4] := rfl
/-- behind a call on the left part, or on the right part -/
theorem j_left {A : Nat → Prop} {D : va_G} {cl : List vw_C} {a a' b : va_W} {H H1 : Heap} (hP : va_P D cl (a ++ b) H) (hD : va_D A (a ++ b)) (ha : a.map (·.1) = a'.map (·.1)) (hk : ∀ q : Nat, q < H.size → ¬ jA a q → H1[q]? = H[q]?) (hP1 : va_P D cl a' H1) : va_P D cl (a' ++ b) H1 ∧ va_D A (a' ++ b) :=
  j_wu hP hD (by rw [List.map_append, List.map_append, ha]) hk hP1 (fun q hq => (List.mem_append.mp hq).elim Or.inl (fun h => Or.inr ⟨List.mem_append_right _ h, fun z hz => j_apart hD z hz q h⟩))
theorem j_right {A : Nat → Prop} {D : va_G} {cl : List vw_C} {a b b' : va_W} {H H1 : Heap} (hP : va_P D cl (a ++ b) H) (hD : va_D A (a ++ b)) (hb : b.map (·.1) = b'.map (·.1)) (hk : ∀ q : Nat, q < H.size → ¬ jA b q → H1[q]? = H[q]?) (hP1 : va_P D cl b' H1) : va_P D cl (a ++ b') H1 ∧ va_D A (a ++ b') :=
  j_wu hP hD (by rw [List.map_append, List.map_append, hb]) hk hP1 (fun q hq => (List.mem_append.mp hq).elim (fun h => Or.inr ⟨List.mem_append_left _ h, fun z hz => fun e => j_apart hD q h z hz e.symm⟩) Or.inl)
theorem jW_V0 {s : State} {H : Heap} {D : va_G} {tys : List (ClassId × FieldType)} {ws : va_W} {A : Nat → Prop} {C : String} {b ci q0 : Nat} {r : vw_C} {fs As : List Value} (hK : va_K D vwCl tys s) (hP : va_P D vwCl ws H) (hD : va_D A ws) (hc : vwCl[ci]? = some r) (he : ws[q0]? = some (b, .inr (ci, fs))) (hn : r.1 = C) : PreV s H C b (va_Pc (.ref b :: As) (jW D tys ws)) As :=
  ⟨jW_bl, by rw [← hn]; exact va_recv hK hP hc he, fun U hU hW => ⟨rfl, by rw [hU]; exact hP, va_K.moved hW.alike hK, hD.weaken (fun _ _ _ _ => trivial)⟩⟩
theorem jW_S0 {s : State} {H : Heap} {D : va_G} {tys : List (ClassId × FieldType)} {ws : va_W} {A : Nat → Prop} {As : List Value} (hK : va_K D vwCl tys s) (hP : va_P D vwCl ws H) (hD : va_D A ws) : PreS s H (va_Pc As (jW D tys ws)) As :=
  ⟨jW_bl, fun U hU hW => ⟨rfl, by rw [hU]; exact hP, va_K.moved hW.alike hK, hD.weaken (fun _ _ _ _ => trivial)⟩⟩
end
section
/-! the contracts of the desk: made, an annuity added, the inflation told, a month run -/
set_option maxHeartbeats 4000000 in
set_option maxRecDepth 100000 in
/-- a new desk -/
theorem c_X1_init (l : Launch) (dC : Nat → ClassId) (dI : Nat → Nat → Nat) (h0 sz : Nat)  : Met l yX1_init wsX1_init ({ frames := 1, cells := 2, slots := 40, locals := 12 }) (va_Pc [.ref h0] (fun U => (U.heap.size = sz ∧ va_P (dC, dI) vwCl [(h0, .inr (1, [.null, .null, .int 0, .int 0]))] U.heap ∧ va_K (dC, dI) vwCl [] U ∧ va_D (fun _ => True) [(h0, .inr (1, [.null, .null, .int 0, .int 0]))]) ∧ va_AO "JointAnnuity$Annuity" U)) (va_Qv (fun u : ClassId × ClassId × (Nat → Nat) => u.2.2 0 = h0) (fun u t => va_P (dC, dI) vwCl [(u.2.2 0, .inr (1, [.ref (u.2.2 1), .ref (u.2.2 2), .int (nI 0), .int (nI 0)])), ((u.2.2 1), .inl (u.2.1, 20, .inr (.inr (.inr (.inr (fun _ => none)))))), ((u.2.2 2), .inl (u.1, 20, .inl (fun _ => 0)))] t.heap ∧ va_K (dC, dI) vwCl [(u.2.1, .object "JointAnnuity$Annuity"), (u.1, .int)] t ∧ va_D (va_A [(h0, .inr (1, [.null, .null, .int 0, .int 0]))] sz) [(u.2.2 0, .inr (1, [.ref (u.2.2 1), .ref (u.2.2 2), .int (nI 0), .int (nI 0)])), ((u.2.2 1), .inl (u.2.1, 20, .inr (.inr (.inr (.inr (fun _ => none)))))), ((u.2.2 2), .inl (u.1, 20, .inl (fun _ => 0)))]) (va_A [(h0, .inr (1, [.null, .null, .int 0, .int 0]))] sz)) 2 40 (va_A [(h0, .inr (1, [.null, .null, .int 0, .int 0]))] sz) := by
  refine j_of (cc := cX1_init) (maxL := 1) (ret := none) (by decide) rfl (Nat.le_of_ble_eq_true rfl) ?_
  intro p e s m below meth c ls hx hb hr hml hts hown hlocks hnm hl hpre
  have hown : s.vm.findClass RX1 = some m.cls := hown
  have hl : lv_has ls 1 [(0, .ref h0)] := hl
  have hin : meth.name = "<init>" := hnm
  obtain ⟨⟨hsz, hP, hK, hD0⟩, hao⟩ := hpre
  subst hsz
  have hD := hD0.self (sz := s.heap.size)
  generalize hAe : va_A [(h0, .inr (1, [.null, .null, .int 0, .int 0]))] s.heap.size = A at hD ⊢
  have hA : ∀ q : Nat, s.heap.size ≤ q → A q := fun q h => by rw [← hAe]; exact Or.inr h
  have hS : va_S A s.heap s.heap [] := va_S.rf
  refine lv_aload_n hx hb dX1_init_0 rfl (lv_at hl 0 rfl) ?_
  refine W.objInit hx hb hown (hts (.methodLink RX1 3 objectInit) (List.mem_of_getElem? (i := 1) rfl)) (hts (.instanceMethod objectInit) (List.mem_of_getElem? (i := 2) rfl)) (hts _ (List.mem_of_getElem? (i := 3) rfl)) rfl (by rw [hml]; exact hl.1) rfl dX1_init_1 (Nat.le_of_ble_eq_true rfl) (Nat.le_of_ble_eq_true rfl) ?_
  refine W.eq (g2 := F0 m 4 ls []) rfl ?_
  refine lv_aload_n hx hb dX1_init_4 rfl (lv_at hl 0 rfl) ?_
  refine lv_bipush (v := nI 20) hx hb dX1_init_5 (by decide) ?_
  refine va_newq (own := RX1) (C := "JointAnnuity$Annuity") (N' := 20) hx hb hown (hts (.classLink RX1 9 RX0) (List.mem_of_getElem? (i := 4) rfl)) hao hK hP hD hS hA (nI_pos (by omega)) (nI_clamp (by omega)) (by decide) (Nat.le_of_ble_eq_true rfl) (Nat.le_of_ble_eq_true rfl) dX1_init_7 (fun q7 cO H hK hP hD hS => ?_)
  have hP : va_P (dC, dI) vwCl [(h0, .inr (1, [.null, .null, .int 0, .int 0])), (q7, .inl (cO, 20, .inr (.inr (.inr (.inr (fun _ => none))))))] H := hP
  have hD : va_D A [(h0, .inr (1, [.null, .null, .int 0, .int 0])), (q7, .inl (cO, 20, .inr (.inr (.inr (.inr (fun _ => none))))))] := hD
  refine va_putF (D := (dC, dI)) (ci := 1) (v := .ref q7) (ty := .array (.object "JointAnnuity$Annuity")) (C := RX1) (T := TX1) (N := 4) hx hb hts (fun _ h => List.mem_cons_of_mem _ (List.mem_append_right _ h)) tyX1 tyX1_ok nmX1 hown hK hP hD hS 0 rfl rfl 0 (by decide) (hts (.fieldLink RX1 11 "JointAnnuity" "annuities" "[LJointAnnuity$Annuity;") (List.mem_of_getElem? (i := 5) rfl)) (fun _ h9 => h9) rfl hin rfl (by decide +kernel) rfl rfl (Nat.le_of_ble_eq_true rfl) dX1_init_10 (fun H locs hP hD hS => ?_)
  have hP : va_P (dC, dI) vwCl [(h0, .inr (1, [.ref q7, .null, .int 0, .int 0])), (q7, .inl (cO, 20, .inr (.inr (.inr (.inr (fun _ => none))))))] H := hP
  have hD : va_D A [(h0, .inr (1, [.ref q7, .null, .int 0, .int 0])), (q7, .inl (cO, 20, .inr (.inr (.inr (.inr (fun _ => none))))))] := hD
  refine lv_aload_n hx hb dX1_init_13 rfl (lv_at hl 0 rfl) ?_
  refine lv_bipush (v := nI 20) hx hb dX1_init_14 (by decide) ?_
  refine va_newa (atype := .int) (ty := .int) (N' := 20) (a0 := (20, .inl (fun _ => 0))) hx hb (hts (.arrayClass .int) (List.mem_of_getElem? (i := 6) rfl)) rfl hK hP hD hS hA (fun _ => rfl) (nI_pos (by omega)) (nI_clamp (by omega)) (by decide) (Nat.le_of_ble_eq_true rfl) (Nat.le_of_ble_eq_true rfl) dX1_init_16 (fun q16 cI H hK hP hD hS => ?_)
  have hP : va_P (dC, dI) vwCl [(h0, .inr (1, [.ref q7, .null, .int 0, .int 0])), (q7, .inl (cO, 20, .inr (.inr (.inr (.inr (fun _ => none)))))), (q16, .inl (cI, 20, .inl (fun _ => 0)))] H := hP
  have hD : va_D A [(h0, .inr (1, [.ref q7, .null, .int 0, .int 0])), (q7, .inl (cO, 20, .inr (.inr (.inr (.inr (fun _ => none)))))), (q16, .inl (cI, 20, .inl (fun _ => 0)))] := hD
  refine va_putF (D := (dC, dI)) (ci := 1) (v := .ref q16) (ty := .array .int) (C := RX1) (T := TX1) (N := 4) hx hb hts (fun _ h => List.mem_cons_of_mem _ (List.mem_append_right _ h)) tyX1 tyX1_ok nmX1 hown hK hP hD hS 0 rfl rfl 1 (by decide) (hts (.fieldLink RX1 15 "JointAnnuity" "inflation" "[I") (List.mem_of_getElem? (i := 7) rfl)) (fun _ h9 => h9) rfl hin rfl (by decide +kernel) rfl rfl (Nat.le_of_ble_eq_true rfl) dX1_init_18 (fun H locs hP hD hS => ?_)
  have hP : va_P (dC, dI) vwCl [(h0, .inr (1, [.ref q7, .ref q16, .int 0, .int 0])), (q7, .inl (cO, 20, .inr (.inr (.inr (.inr (fun _ => none)))))), (q16, .inl (cI, 20, .inl (fun _ => 0)))] H := hP
  have hD : va_D A [(h0, .inr (1, [.ref q7, .ref q16, .int 0, .int 0])), (q7, .inl (cO, 20, .inr (.inr (.inr (.inr (fun _ => none)))))), (q16, .inl (cI, 20, .inl (fun _ => 0)))] := hD
  refine lv_aload_n hx hb dX1_init_21 rfl (lv_at hl 0 rfl) ?_
  refine lv_iconst (v := nI 0) hx hb dX1_init_22 (by decide) ?_
  refine va_put (D := (dC, dI)) (ci := 1) (v := .int (nI 0)) (ty := .int) (C := RX1) (T := TX1) (N := 4) hx hb hts (fun _ h => List.mem_cons_of_mem _ (List.mem_append_right _ h)) tyX1 tyX1_ok nmX1 hown hK hP hD hS 0 rfl rfl 2 (by decide) (hts (.fieldLink RX1 19 "JointAnnuity" "count" "I") (List.mem_of_getElem? (i := 8) rfl)) (fun _ h9 => h9) rfl (by decide +kernel) rfl rfl (Nat.le_of_ble_eq_true rfl) dX1_init_23 (fun H locs hP hD hS => ?_)
  have hP : va_P (dC, dI) vwCl [(h0, .inr (1, [.ref q7, .ref q16, .int (nI 0), .int 0])), (q7, .inl (cO, 20, .inr (.inr (.inr (.inr (fun _ => none)))))), (q16, .inl (cI, 20, .inl (fun _ => 0)))] H := hP
  have hD : va_D A [(h0, .inr (1, [.ref q7, .ref q16, .int (nI 0), .int 0])), (q7, .inl (cO, 20, .inr (.inr (.inr (.inr (fun _ => none)))))), (q16, .inl (cI, 20, .inl (fun _ => 0)))] := hD
  refine lv_aload_n hx hb dX1_init_26 rfl (lv_at hl 0 rfl) ?_
  refine lv_iconst (v := nI 0) hx hb dX1_init_27 (by decide) ?_
  refine va_put (D := (dC, dI)) (ci := 1) (v := .int (nI 0)) (ty := .int) (C := RX1) (T := TX1) (N := 4) hx hb hts (fun _ h => List.mem_cons_of_mem _ (List.mem_append_right _ h)) tyX1 tyX1_ok nmX1 hown hK hP hD hS 0 rfl rfl 3 (by decide) (hts (.fieldLink RX1 23 "JointAnnuity" "monthThatGoesOn" "I") (List.mem_of_getElem? (i := 9) rfl)) (fun _ h9 => h9) rfl (by decide +kernel) rfl rfl (Nat.le_of_ble_eq_true rfl) dX1_init_28 (fun H locs hP hD hS => ?_)
  have hP : va_P (dC, dI) vwCl [(h0, .inr (1, [.ref q7, .ref q16, .int (nI 0), .int (nI 0)])), (q7, .inl (cO, 20, .inr (.inr (.inr (.inr (fun _ => none)))))), (q16, .inl (cI, 20, .inl (fun _ => 0)))] H := hP
  have hD : va_D A [(h0, .inr (1, [.ref q7, .ref q16, .int (nI 0), .int (nI 0)])), (q7, .inl (cO, 20, .inr (.inr (.inr (.inr (fun _ => none)))))), (q16, .inl (cI, 20, .inl (fun _ => 0)))] := hD
  have hP : va_P (dC, dI) vwCl [(h0, .inr (1, [.ref q7, .ref q16, .int (nI 0), .int (nI 0)])), (q7, .inl (cO, 20, .inr (.inr (.inr (.inr (fun _ => none)))))), (q16, .inl (cI, 20, .inl (fun _ => 0)))] H := hP
  have hD : va_D A [(h0, .inr (1, [.ref q7, .ref q16, .int (nI 0), .int (nI 0)])), (q7, .inl (cO, 20, .inr (.inr (.inr (.inr (fun _ => none)))))), (q16, .inl (cI, 20, .inl (fun _ => 0)))] := hD.addr rfl
  exact W.vret hx hb hr (fun t ht hW => ⟨⟨(cI, cO, fun i => match i with | 0 => h0 | 1 => q7 | _ => q16), rfl, rfl, by rw [ht]; exact hP, va_K.moved hW.alike hK, hD⟩, hS.F ht⟩) hS.2.2 dX1_init_31
set_option maxHeartbeats 4000000 in
set_option maxRecDepth 100000 in
/-- an annuity is added -/
theorem c_X1_add (l : Launch) (dC : Nat → ClassId) (dI : Nat → Nat → Nat) (cI cJ cZ cO : ClassId) (ax : Nat → Nat) (ao : Nat → Option Nat) (n mo : Nat) (iv : Nat → Int32) (sz sa ma ga : Nat) (hn : n < 20) (hs1 : mo ≤ sa) (hs2 : sa < 240) (h0 : 1 ≤ ma) (h1 : ma ≤ 100000) (h2 : ga ≤ 240) : Met l yX1_add wsX1_add ({ frames := 2, cells := 5, slots := 295, locals := 41 }) (va_Pc [.ref (ax 0), .int (nI sa), .int (nI ma), .int (nI ga)] (fun U => U.heap.size = sz ∧ va_P (dC, dI) vwCl (jX3 cI cO ax ao n mo iv) U.heap ∧ va_K (dC, dI) vwCl (jTY cI cJ cZ cO) U ∧ va_D (fun _ => True) (jX3 cI cO ax ao n mo iv))) (va_Qi (fun r (_ : Nat → Nat) => r = nI n) (fun u t => va_P (dC, dI) vwCl (jFW cI cJ cO ax (va_up ao n (some (u 0))) (n + 1) mo iv u (jN sa ma ga) 0 (fun _ => 0)) t.heap ∧ va_D (va_A (jX3 cI cO ax ao n mo iv) sz) (jFW cI cJ cO ax (va_up ao n (some (u 0))) (n + 1) mo iv u (jN sa ma ga) 0 (fun _ => 0))) (va_A (jX3 cI cO ax ao n mo iv) sz)) 5 295 (va_A (jX3 cI cO ax ao n mo iv) sz) := by
  refine j_of (cc := cX1_add) (maxL := 5) (ret := (some .int)) (by decide) rfl (Nat.le_of_ble_eq_true rfl) ?_
  intro p e s m below meth c ls hx hb hr hml hts hown hlocks hnm hl hpre
  have hown : s.vm.findClass RX1 = some m.cls := hown
  have hl : lv_has ls 5 [(0, .ref (ax 0)), (1, .int (nI sa)), (2, .int (nI ma)), (3, .int (nI ga))] := hl
  obtain ⟨hsz, hP, hK, hD0⟩ := hpre
  subst hsz
  have hD := hD0.self (sz := s.heap.size)
  generalize hAe : va_A (jX3 cI cO ax ao n mo iv) s.heap.size = A at hD ⊢
  have hA : ∀ q : Nat, s.heap.size ≤ q → A q := fun q h => by rw [← hAe]; exact Or.inr h
  have hS : va_S A s.heap s.heap [] := va_S.rf
  refine lv_iload_n hx hb dX1_add_0 rfl (lv_at hl 1 rfl) ?_
  refine lv_aload_n hx hb dX1_add_1 rfl (lv_at hl 0 rfl) ?_
  refine va_get (D := (dC, dI)) (ci := 1) (v := .int (nI mo)) (C := RX1) (T := TX1) (N := 4) hx hb hts (fun _ h => List.mem_cons_of_mem _ (List.mem_append_left _ (List.mem_append_left _ (List.mem_append_left _ (List.mem_append_right _ h))))) hown hK hP 0 rfl rfl 3 (by decide) (hts (.fieldLink RX1 23 "JointAnnuity" "monthThatGoesOn" "I") (List.mem_of_getElem? (i := 3) rfl)) (fun _ h9 => h9) rfl dX1_add_2 ?_
  refine lv_sipush (v := nI 239) hx hb dX1_add_5 (by decide) ?_
  refine j_sV (As := [.int (nI sa), .int (nI mo), .int (nI 239)]) (rest := []) ⟨hx, hb, hml, hown, hts⟩ (c_X1_requireRange l dC dI (nI sa) (nI mo) (nI 239) (nI_nlt (by omega) (by omega)) (nI_nlt (by omega) (by omega))) (cwS 3 hts gX1_add_X1_requireRange rfl rfl rfl (by decide +kernel) ⟨Nat.le_of_ble_eq_true rfl, Nat.le_of_ble_eq_true rfl⟩) rfl hl rfl (Nat.le_of_ble_eq_true rfl) dX1_add_8 ⟨Nat.le_of_ble_eq_true rfl, Nat.le_of_ble_eq_true rfl⟩ ?_
  refine lv_iload_n hx hb dX1_add_11 rfl (lv_at hl 2 rfl) ?_
  refine lv_iconst (v := nI 1) hx hb dX1_add_12 (by decide) ?_
  refine lv_ldc hx hb hown (hts (.constant RX1 30 (100000)) (List.mem_of_getElem? (i := 4) rfl)) dX1_add_13 ?_
  refine j_i (y := nI 100000) (by decide +kernel) ?_
  refine j_sV (As := [.int (nI ma), .int (nI 1), .int (nI 100000)]) (rest := []) ⟨hx, hb, hml, hown, hts⟩ (c_X1_requireRange l dC dI (nI ma) (nI 1) (nI 100000) (nI_nlt (by omega) (by omega)) (nI_nlt (by omega) (by omega))) (cwS 3 hts gX1_add_X1_requireRange rfl rfl rfl (by decide +kernel) ⟨Nat.le_of_ble_eq_true rfl, Nat.le_of_ble_eq_true rfl⟩) rfl hl rfl (Nat.le_of_ble_eq_true rfl) dX1_add_15 ⟨Nat.le_of_ble_eq_true rfl, Nat.le_of_ble_eq_true rfl⟩ ?_
  refine lv_iload_n hx hb dX1_add_18 rfl (lv_at hl 3 rfl) ?_
  refine lv_iconst (v := nI 0) hx hb dX1_add_19 (by decide) ?_
  refine lv_sipush (v := nI 240) hx hb dX1_add_20 (by decide) ?_
  refine j_sV (As := [.int (nI ga), .int (nI 0), .int (nI 240)]) (rest := []) ⟨hx, hb, hml, hown, hts⟩ (c_X1_requireRange l dC dI (nI ga) (nI 0) (nI 240) (nI_nlt (by omega) (by omega)) (nI_nlt (by omega) (by omega))) (cwS 3 hts gX1_add_X1_requireRange rfl rfl rfl (by decide +kernel) ⟨Nat.le_of_ble_eq_true rfl, Nat.le_of_ble_eq_true rfl⟩) rfl hl rfl (Nat.le_of_ble_eq_true rfl) dX1_add_23 ⟨Nat.le_of_ble_eq_true rfl, Nat.le_of_ble_eq_true rfl⟩ ?_
  refine lv_aload_n hx hb dX1_add_26 rfl (lv_at hl 0 rfl) ?_
  refine va_get (D := (dC, dI)) (ci := 1) (v := .int (nI n)) (C := RX1) (T := TX1) (N := 4) hx hb hts (fun _ h => List.mem_cons_of_mem _ (List.mem_append_left _ (List.mem_append_left _ (List.mem_append_left _ (List.mem_append_right _ h))))) hown hK hP 0 rfl rfl 2 (by decide) (hts (.fieldLink RX1 19 "JointAnnuity" "count" "I") (List.mem_of_getElem? (i := 5) rfl)) (fun _ h9 => h9) rfl dX1_add_27 ?_
  refine lv_aload_n hx hb dX1_add_30 rfl (lv_at hl 0 rfl) ?_
  refine va_get (D := (dC, dI)) (ci := 1) (v := .ref (ax 1)) (C := RX1) (T := TX1) (N := 4) hx hb hts (fun _ h => List.mem_cons_of_mem _ (List.mem_append_left _ (List.mem_append_left _ (List.mem_append_left _ (List.mem_append_right _ h))))) hown hK hP 0 rfl rfl 0 (by decide) (hts (.fieldLink RX1 11 "JointAnnuity" "annuities" "[LJointAnnuity$Annuity;") (List.mem_of_getElem? (i := 6) rfl)) (fun _ h9 => h9) rfl dX1_add_31 ?_
  refine va_alen hx hb hK hP 1 3 (v := nI 20) rfl rfl rfl dX1_add_34 ?_
  refine lv_icmp_lt (tgt := 48) hx hb dX1_add_35 (by decide) (fun c_35 => ?_) (fun c_35 => ?_)
  · have c_35 : n < 20 := (nI_ltI (a := n) (b := 20) (by omega) (by omega)).mp c_35
    refine va_new (ci := 0) (fs := [.int 0, .int 0, .int 0, .int 0, .int 0, .int 0, .int 0, .int 0, .null, .null, .null, .null, .long 0]) (C := RX0) (T := TX0) (N := 13) hx hb hts (fun _ h => List.mem_cons_of_mem _ (List.mem_append_left _ (List.mem_append_left _ (List.mem_append_right _ h)))) tyX0 tyX0_ok hown (hts (.classLink RX1 9 RX0) (List.mem_of_getElem? (i := 7) rfl)) (hts (.instantiable RX0 13) (List.mem_of_getElem? (i := 8) rfl)) (hts (.initialized RX0) (List.mem_of_getElem? (i := 9) rfl)) hK hP hD hS hA rfl (fun j hj => match j, hj with
      | 0, _ => rfl
      | 1, _ => rfl
      | 2, _ => rfl
      | 3, _ => rfl
      | 4, _ => rfl
      | 5, _ => rfl
      | 6, _ => rfl
      | 7, _ => rfl
      | 8, _ => rfl
      | 9, _ => rfl
      | 10, _ => rfl
      | 11, _ => rfl
      | 12, _ => rfl
      | _ + 13, h => absurd h (Nat.not_lt.mpr (Nat.le_add_left _ _))) (Nat.le_of_ble_eq_true rfl) (Nat.le_of_ble_eq_true rfl) dX1_add_48 (fun q48 H hP hD hS => ?_)
    have hP : va_P (dC, dI) vwCl [((ax 0), .inr (1, [.ref (ax 1), .ref (ax 2), .int (nI n), .int (nI mo)])), ((ax 1), .inl (cO, 20, .inr (.inr (.inr (.inr (ao)))))), ((ax 2), .inl (cI, 20, .inl (iv))), (q48, .inr (0, [.int 0, .int 0, .int 0, .int 0, .int 0, .int 0, .int 0, .int 0, .null, .null, .null, .null, .long 0]))] H := hP
    have hD : va_D A [((ax 0), .inr (1, [.ref (ax 1), .ref (ax 2), .int (nI n), .int (nI mo)])), ((ax 1), .inl (cO, 20, .inr (.inr (.inr (.inr (ao)))))), ((ax 2), .inl (cI, 20, .inl (iv))), (q48, .inr (0, [.int 0, .int 0, .int 0, .int 0, .int 0, .int 0, .int 0, .int 0, .null, .null, .null, .null, .long 0]))] := hD
    refine lv_dup hx hb dX1_add_51 rfl ?_
    refine lv_iload_n hx hb dX1_add_52 rfl (lv_at hl 1 rfl) ?_
    refine lv_iload_n hx hb dX1_add_53 rfl (lv_at hl 2 rfl) ?_
    refine lv_iload_n hx hb dX1_add_54 rfl (lv_at hl 3 rfl) ?_
    have hPc := hP.sub (ws' := [(q48, .inr (0, [.int 0, .int 0, .int 0, .int 0, .int 0, .int 0, .int 0, .int 0, .null, .null, .null, .null, .long 0]))]) [3] rfl
    have hDc := hD.sub (ws' := [(q48, .inr (0, [.int 0, .int 0, .int 0, .int 0, .int 0, .int 0, .int 0, .int 0, .null, .null, .null, .null, .long 0]))]) [3] (by decide) rfl
    have hFc := va_free (wc := [(q48, .inr (0, [.int 0, .int 0, .int 0, .int 0, .int 0, .int 0, .int 0, .int 0, .null, .null, .null, .null, .long 0]))]) hD hS hA [3] rfl
    refine va_callv (va_runI (As := [.int (nI sa), .int (nI ma), .int (nI ga)]) (rest := [.ref q48]) ⟨hx, hb, hml, hown, hts⟩ (c_X0_init l dC dI cI cJ cZ cO q48 H.size sa ma ga) (cwI 3 hts gX1_add_X0_init rfl rfl rfl (hts (.initialized RX0) (List.mem_of_getElem? (i := 9) rfl)) (hts (.methodLink RX1 38 yX0_init) (List.mem_of_getElem? (i := 17) rfl)) (hts (.instanceMethod yX0_init) (List.mem_of_getElem? (i := 18) rfl)) rfl (by decide +kernel) ⟨Nat.le_of_ble_eq_true rfl, Nat.le_of_ble_eq_true rfl⟩) ⟨fun a U g mk q => ⟨q.1, q.2.1, q.2.2.1, j_calls q.2.2.2.1, q.2.2.2.2⟩, fun U hU hW => ⟨rfl, by rw [hU], by rw [hU]; exact hPc, va_K.moved hW.alike hK, hDc.weaken (fun _ _ _ _ => trivial)⟩⟩ rfl rfl hl.1 rfl (lv_room (Nat.le_of_ble_eq_true rfl)) dX1_add_55 ⟨Nat.le_of_ble_eq_true rfl, Nat.le_of_ble_eq_true rfl⟩) hS (fun q _ h => hFc q h) hFc (fun u t H1 locs ht hvm hw hB hz1 hk1 hS => ?_)
    obtain ⟨hP1, hD1⟩ := hB
    rw [ht] at hP1
    try dsimp only at hw
    subst hw
    obtain ⟨hP, hD⟩ := va_join (wr := [((ax 0), .inr (1, [.ref (ax 1), .ref (ax 2), .int (nI n), .int (nI mo)])), ((ax 1), .inl (cO, 20, .inr (.inr (.inr (.inr (ao)))))), ((ax 2), .inl (cI, 20, .inl (iv)))]) (w1 := [((u 0), .inr (0, [.int (nI ((jN sa ma ga) 0)), .int (nI ((jN sa ma ga) 1)), .int (nI ((jN sa ma ga) 0 + (jN sa ma ga) 2)), .int (nI ((jN sa ma ga) 3)), .int (nI ((jN sa ma ga) 4)), .int (nI ((jN sa ma ga) 5)), .int (nI ((jN sa ma ga) 6)), .int (nI ((jN sa ma ga) 7)), .ref (u 1), .ref (u 2), .ref (u 3), .ref (u 4), .long 0])), ((u 1), .inl (cI, 2, .inl (fun j => nI (if j = 0 then (jN sa ma ga) 8 else (jN sa ma ga) 9)))), ((u 2), .inl (cI, 20, .inl (fun _ => 0))), ((u 3), .inl (cI, 20, .inl (fun _ => 0))), ((u 4), .inl (cJ, 240, .inr (.inl (fun _ => 0))))]) hP hD [3] [0, 1, 2] rfl rfl (by decide) (by decide) hk1 hFc hP1 hD1
    generalize H1 = H at hP hS ⊢
    have hP : va_P (dC, dI) vwCl [((ax 0), .inr (1, [.ref (ax 1), .ref (ax 2), .int (nI n), .int (nI mo)])), ((ax 1), .inl (cO, 20, .inr (.inr (.inr (.inr (ao)))))), ((ax 2), .inl (cI, 20, .inl (iv))), ((u 0), .inr (0, [.int (nI ((jN sa ma ga) 0)), .int (nI ((jN sa ma ga) 1)), .int (nI ((jN sa ma ga) 0 + (jN sa ma ga) 2)), .int (nI ((jN sa ma ga) 3)), .int (nI ((jN sa ma ga) 4)), .int (nI ((jN sa ma ga) 5)), .int (nI ((jN sa ma ga) 6)), .int (nI ((jN sa ma ga) 7)), .ref (u 1), .ref (u 2), .ref (u 3), .ref (u 4), .long 0])), ((u 1), .inl (cI, 2, .inl (fun j => nI (if j = 0 then (jN sa ma ga) 8 else (jN sa ma ga) 9)))), ((u 2), .inl (cI, 20, .inl (fun _ => 0))), ((u 3), .inl (cI, 20, .inl (fun _ => 0))), ((u 4), .inl (cJ, 240, .inr (.inl (fun _ => 0))))] H := hP
    have hD : va_D A [((ax 0), .inr (1, [.ref (ax 1), .ref (ax 2), .int (nI n), .int (nI mo)])), ((ax 1), .inl (cO, 20, .inr (.inr (.inr (.inr (ao)))))), ((ax 2), .inl (cI, 20, .inl (iv))), ((u 0), .inr (0, [.int (nI ((jN sa ma ga) 0)), .int (nI ((jN sa ma ga) 1)), .int (nI ((jN sa ma ga) 0 + (jN sa ma ga) 2)), .int (nI ((jN sa ma ga) 3)), .int (nI ((jN sa ma ga) 4)), .int (nI ((jN sa ma ga) 5)), .int (nI ((jN sa ma ga) 6)), .int (nI ((jN sa ma ga) 7)), .ref (u 1), .ref (u 2), .ref (u 3), .ref (u 4), .long 0])), ((u 1), .inl (cI, 2, .inl (fun j => nI (if j = 0 then (jN sa ma ga) 8 else (jN sa ma ga) 9)))), ((u 2), .inl (cI, 20, .inl (fun _ => 0))), ((u 3), .inl (cI, 20, .inl (fun _ => 0))), ((u 4), .inl (cJ, 240, .inr (.inl (fun _ => 0))))] := hD
    refine lv_astore (lv' := [(4, .ref (u 0)), (0, .ref (ax 0)), (1, .int (nI sa)), (2, .int (nI ma)), (3, .int (nI ga))]) hx hb dX1_add_58 hl (by decide) rfl (fun ls hl => ?_)
    refine lv_aload hx hb dX1_add_60 (lv_at hl 0 rfl) ?_
    refine lv_aload_n hx hb dX1_add_62 rfl (lv_at hl 1 rfl) ?_
    refine va_get (D := (dC, dI)) (ci := 1) (v := .ref (ax 2)) (C := RX1) (T := TX1) (N := 4) hx hb hts (fun _ h => List.mem_cons_of_mem _ (List.mem_append_left _ (List.mem_append_left _ (List.mem_append_left _ (List.mem_append_right _ h))))) hown hK hP 0 rfl rfl 1 (by decide) (hts (.fieldLink RX1 15 "JointAnnuity" "inflation" "[I") (List.mem_of_getElem? (i := 10) rfl)) (fun _ h9 => h9) rfl dX1_add_63 ?_
    refine j_wV (As := [.ref (ax 2)]) (rest := []) ⟨hx, hb, hml, hown, hts⟩ (c_X0_growBy l dC dI cI cJ cZ cO u (jN sa ma ga) iv 0 (ax 2) (fun _ => 0) (fun _ => 0) (jVN hs2 h1 h2)) (cwV 1 hts gX1_add_X0_growBy rfl rfl rfl (by decide +kernel) ⟨Nat.le_of_ble_eq_true rfl, Nat.le_of_ble_eq_true rfl⟩) (jW_V hK hP hD [3, 5, 6, 2] (by decide) rfl (ci := 0) (q0 := 3) rfl rfl rfl) rfl hl rfl (Nat.le_of_ble_eq_true rfl) dX1_add_66 ⟨Nat.le_of_ble_eq_true rfl, Nat.le_of_ble_eq_true rfl⟩ hP hD hS [3, 5, 6, 2] [0, 1, 4, 7] rfl (fun _ : Unit => [((ax 0), .inr (1, [.ref (ax 1), .ref (ax 2), .int (nI n), .int (nI mo)])), ((ax 1), .inl (cO, 20, .inr (.inr (.inr (.inr (ao)))))), ((ax 2), .inl (cI, 20, .inl (iv))), ((u 0), .inr (0, [.int (nI ((jN sa ma ga) 0)), .int (nI ((jN sa ma ga) 1)), .int (nI ((jN sa ma ga) 0 + (jN sa ma ga) 2)), .int (nI ((jN sa ma ga) 3)), .int (nI ((jN sa ma ga) 4)), .int (nI ((jN sa ma ga) 5)), .int (nI ((jN sa ma ga) 6)), .int (nI ((jN sa ma ga) 7)), .ref (u 1), .ref (u 2), .ref (u 3), .ref (u 4), .long 0])), ((u 1), .inl (cI, 2, .inl (fun j => nI (if j = 0 then (jN sa ma ga) 8 else (jN sa ma ga) 9)))), ((u 2), .inl (cI, 20, .inl (fun j => nI (jF (jN sa ma ga) iv j)))), ((u 3), .inl (cI, 20, .inl (fun j => jC (jN sa ma ga) iv j))), ((u 4), .inl (cJ, 240, .inr (.inl (fun _ => 0))))]) (fun _ => rfl) [(ax 0), (ax 1), (ax 2), (u 0), (u 1), (u 2), (u 3), (u 4)] rfl (fun _ => rfl) [((ax 0), .inr (1, [.ref (ax 1), .ref (ax 2), .int (nI n), .int (nI mo)])), ((ax 1), .inl (cO, 20, .inr (.inr (.inr (.inr (ao)))))), ((u 1), .inl (cI, 2, .inl (fun j => nI (if j = 0 then (jN sa ma ga) 8 else (jN sa ma ga) 9)))), ((u 4), .inl (cJ, 240, .inr (.inl (fun _ => 0))))] rfl (fun _ => rfl) (fun _ i hi => j_cov _ _ 8 (by decide) i hi) (fun _ H locs hr_66 hP hD hS => ?_)
    have hP : va_P (dC, dI) vwCl [((ax 0), .inr (1, [.ref (ax 1), .ref (ax 2), .int (nI n), .int (nI mo)])), ((ax 1), .inl (cO, 20, .inr (.inr (.inr (.inr (ao)))))), ((ax 2), .inl (cI, 20, .inl (iv))), ((u 0), .inr (0, [.int (nI ((jN sa ma ga) 0)), .int (nI ((jN sa ma ga) 1)), .int (nI ((jN sa ma ga) 0 + (jN sa ma ga) 2)), .int (nI ((jN sa ma ga) 3)), .int (nI ((jN sa ma ga) 4)), .int (nI ((jN sa ma ga) 5)), .int (nI ((jN sa ma ga) 6)), .int (nI ((jN sa ma ga) 7)), .ref (u 1), .ref (u 2), .ref (u 3), .ref (u 4), .long 0])), ((u 1), .inl (cI, 2, .inl (fun j => nI (if j = 0 then (jN sa ma ga) 8 else (jN sa ma ga) 9)))), ((u 2), .inl (cI, 20, .inl (fun j => nI (jF (jN sa ma ga) iv j)))), ((u 3), .inl (cI, 20, .inl (fun j => jC (jN sa ma ga) iv j))), ((u 4), .inl (cJ, 240, .inr (.inl (fun _ => 0))))] H := hP
    have hD : va_D A [((ax 0), .inr (1, [.ref (ax 1), .ref (ax 2), .int (nI n), .int (nI mo)])), ((ax 1), .inl (cO, 20, .inr (.inr (.inr (.inr (ao)))))), ((ax 2), .inl (cI, 20, .inl (iv))), ((u 0), .inr (0, [.int (nI ((jN sa ma ga) 0)), .int (nI ((jN sa ma ga) 1)), .int (nI ((jN sa ma ga) 0 + (jN sa ma ga) 2)), .int (nI ((jN sa ma ga) 3)), .int (nI ((jN sa ma ga) 4)), .int (nI ((jN sa ma ga) 5)), .int (nI ((jN sa ma ga) 6)), .int (nI ((jN sa ma ga) 7)), .ref (u 1), .ref (u 2), .ref (u 3), .ref (u 4), .long 0])), ((u 1), .inl (cI, 2, .inl (fun j => nI (if j = 0 then (jN sa ma ga) 8 else (jN sa ma ga) 9)))), ((u 2), .inl (cI, 20, .inl (fun j => nI (jF (jN sa ma ga) iv j)))), ((u 3), .inl (cI, 20, .inl (fun j => jC (jN sa ma ga) iv j))), ((u 4), .inl (cJ, 240, .inr (.inl (fun _ => 0))))] := hD
    refine lv_aload_n hx hb dX1_add_69 rfl (lv_at hl 1 rfl) ?_
    refine va_get (D := (dC, dI)) (ci := 1) (v := .ref (ax 1)) (C := RX1) (T := TX1) (N := 4) hx hb hts (fun _ h => List.mem_cons_of_mem _ (List.mem_append_left _ (List.mem_append_left _ (List.mem_append_left _ (List.mem_append_right _ h))))) hown hK hP 0 rfl rfl 0 (by decide) (hts (.fieldLink RX1 11 "JointAnnuity" "annuities" "[LJointAnnuity$Annuity;") (List.mem_of_getElem? (i := 6) rfl)) (fun _ h9 => h9) rfl dX1_add_70 ?_
    refine lv_aload_n hx hb dX1_add_73 rfl (lv_at hl 1 rfl) ?_
    refine va_get (D := (dC, dI)) (ci := 1) (v := .int (nI n)) (C := RX1) (T := TX1) (N := 4) hx hb hts (fun _ h => List.mem_cons_of_mem _ (List.mem_append_left _ (List.mem_append_left _ (List.mem_append_left _ (List.mem_append_right _ h))))) hown hK hP 0 rfl rfl 2 (by decide) (hts (.fieldLink RX1 19 "JointAnnuity" "count" "I") (List.mem_of_getElem? (i := 5) rfl)) (fun _ h9 => h9) rfl dX1_add_74 ?_
    refine lv_aload hx hb dX1_add_77 (lv_at hl 0 rfl) ?_
    refine va_astq hx hb hK hP hD hS 1 3 3 0 (f := ao) rfl rfl rfl rfl (vp_in_nI (n := n) (N := 20) (by omega) (by omega)) dX1_add_79 (fun H locs hP hD hS => ?_)
    rw [nI_clamp (show n < 2 ^ 31 by omega)] at hP hD
    have hP : va_P (dC, dI) vwCl [((ax 0), .inr (1, [.ref (ax 1), .ref (ax 2), .int (nI n), .int (nI mo)])), ((ax 1), .inl (cO, 20, .inr (.inr (.inr (.inr (va_up ao n (some (u 0)))))))), ((ax 2), .inl (cI, 20, .inl (iv))), ((u 0), .inr (0, [.int (nI ((jN sa ma ga) 0)), .int (nI ((jN sa ma ga) 1)), .int (nI ((jN sa ma ga) 0 + (jN sa ma ga) 2)), .int (nI ((jN sa ma ga) 3)), .int (nI ((jN sa ma ga) 4)), .int (nI ((jN sa ma ga) 5)), .int (nI ((jN sa ma ga) 6)), .int (nI ((jN sa ma ga) 7)), .ref (u 1), .ref (u 2), .ref (u 3), .ref (u 4), .long 0])), ((u 1), .inl (cI, 2, .inl (fun j => nI (if j = 0 then (jN sa ma ga) 8 else (jN sa ma ga) 9)))), ((u 2), .inl (cI, 20, .inl (fun j => nI (jF (jN sa ma ga) iv j)))), ((u 3), .inl (cI, 20, .inl (fun j => jC (jN sa ma ga) iv j))), ((u 4), .inl (cJ, 240, .inr (.inl (fun _ => 0))))] H := hP
    have hD : va_D A [((ax 0), .inr (1, [.ref (ax 1), .ref (ax 2), .int (nI n), .int (nI mo)])), ((ax 1), .inl (cO, 20, .inr (.inr (.inr (.inr (va_up ao n (some (u 0)))))))), ((ax 2), .inl (cI, 20, .inl (iv))), ((u 0), .inr (0, [.int (nI ((jN sa ma ga) 0)), .int (nI ((jN sa ma ga) 1)), .int (nI ((jN sa ma ga) 0 + (jN sa ma ga) 2)), .int (nI ((jN sa ma ga) 3)), .int (nI ((jN sa ma ga) 4)), .int (nI ((jN sa ma ga) 5)), .int (nI ((jN sa ma ga) 6)), .int (nI ((jN sa ma ga) 7)), .ref (u 1), .ref (u 2), .ref (u 3), .ref (u 4), .long 0])), ((u 1), .inl (cI, 2, .inl (fun j => nI (if j = 0 then (jN sa ma ga) 8 else (jN sa ma ga) 9)))), ((u 2), .inl (cI, 20, .inl (fun j => nI (jF (jN sa ma ga) iv j)))), ((u 3), .inl (cI, 20, .inl (fun j => jC (jN sa ma ga) iv j))), ((u 4), .inl (cJ, 240, .inr (.inl (fun _ => 0))))] := hD
    refine lv_aload_n hx hb dX1_add_80 rfl (lv_at hl 1 rfl) ?_
    refine lv_dup hx hb dX1_add_81 rfl ?_
    refine va_get (D := (dC, dI)) (ci := 1) (v := .int (nI n)) (C := RX1) (T := TX1) (N := 4) hx hb hts (fun _ h => List.mem_cons_of_mem _ (List.mem_append_left _ (List.mem_append_left _ (List.mem_append_left _ (List.mem_append_right _ h))))) hown hK hP 0 rfl rfl 2 (by decide) (hts (.fieldLink RX1 19 "JointAnnuity" "count" "I") (List.mem_of_getElem? (i := 5) rfl)) (fun _ h9 => h9) rfl dX1_add_82 ?_
    refine lv_iconst (v := nI 1) hx hb dX1_add_85 (by decide) ?_
    refine lv_iadd hx hb dX1_add_86 ?_
    refine j_i (y := nI (n + 1)) (nI_add _ _) ?_
    refine va_put (D := (dC, dI)) (ci := 1) (v := .int (nI (n + 1))) (ty := .int) (C := RX1) (T := TX1) (N := 4) hx hb hts (fun _ h => List.mem_cons_of_mem _ (List.mem_append_left _ (List.mem_append_left _ (List.mem_append_left _ (List.mem_append_right _ h))))) tyX1 tyX1_ok nmX1 hown hK hP hD hS 0 rfl rfl 2 (by decide) (hts (.fieldLink RX1 19 "JointAnnuity" "count" "I") (List.mem_of_getElem? (i := 5) rfl)) (fun _ h9 => h9) rfl (by decide +kernel) rfl rfl (Nat.le_of_ble_eq_true rfl) dX1_add_87 (fun H locs hP hD hS => ?_)
    have hP : va_P (dC, dI) vwCl [((ax 0), .inr (1, [.ref (ax 1), .ref (ax 2), .int (nI (n + 1)), .int (nI mo)])), ((ax 1), .inl (cO, 20, .inr (.inr (.inr (.inr (va_up ao n (some (u 0)))))))), ((ax 2), .inl (cI, 20, .inl (iv))), ((u 0), .inr (0, [.int (nI ((jN sa ma ga) 0)), .int (nI ((jN sa ma ga) 1)), .int (nI ((jN sa ma ga) 0 + (jN sa ma ga) 2)), .int (nI ((jN sa ma ga) 3)), .int (nI ((jN sa ma ga) 4)), .int (nI ((jN sa ma ga) 5)), .int (nI ((jN sa ma ga) 6)), .int (nI ((jN sa ma ga) 7)), .ref (u 1), .ref (u 2), .ref (u 3), .ref (u 4), .long 0])), ((u 1), .inl (cI, 2, .inl (fun j => nI (if j = 0 then (jN sa ma ga) 8 else (jN sa ma ga) 9)))), ((u 2), .inl (cI, 20, .inl (fun j => nI (jF (jN sa ma ga) iv j)))), ((u 3), .inl (cI, 20, .inl (fun j => jC (jN sa ma ga) iv j))), ((u 4), .inl (cJ, 240, .inr (.inl (fun _ => 0))))] H := hP
    have hD : va_D A [((ax 0), .inr (1, [.ref (ax 1), .ref (ax 2), .int (nI (n + 1)), .int (nI mo)])), ((ax 1), .inl (cO, 20, .inr (.inr (.inr (.inr (va_up ao n (some (u 0)))))))), ((ax 2), .inl (cI, 20, .inl (iv))), ((u 0), .inr (0, [.int (nI ((jN sa ma ga) 0)), .int (nI ((jN sa ma ga) 1)), .int (nI ((jN sa ma ga) 0 + (jN sa ma ga) 2)), .int (nI ((jN sa ma ga) 3)), .int (nI ((jN sa ma ga) 4)), .int (nI ((jN sa ma ga) 5)), .int (nI ((jN sa ma ga) 6)), .int (nI ((jN sa ma ga) 7)), .ref (u 1), .ref (u 2), .ref (u 3), .ref (u 4), .long 0])), ((u 1), .inl (cI, 2, .inl (fun j => nI (if j = 0 then (jN sa ma ga) 8 else (jN sa ma ga) 9)))), ((u 2), .inl (cI, 20, .inl (fun j => nI (jF (jN sa ma ga) iv j)))), ((u 3), .inl (cI, 20, .inl (fun j => jC (jN sa ma ga) iv j))), ((u 4), .inl (cJ, 240, .inr (.inl (fun _ => 0))))] := hD
    refine lv_aload_n hx hb dX1_add_90 rfl (lv_at hl 1 rfl) ?_
    refine va_get (D := (dC, dI)) (ci := 1) (v := .int (nI (n + 1))) (C := RX1) (T := TX1) (N := 4) hx hb hts (fun _ h => List.mem_cons_of_mem _ (List.mem_append_left _ (List.mem_append_left _ (List.mem_append_left _ (List.mem_append_right _ h))))) hown hK hP 0 rfl rfl 2 (by decide) (hts (.fieldLink RX1 19 "JointAnnuity" "count" "I") (List.mem_of_getElem? (i := 5) rfl)) (fun _ h9 => h9) rfl dX1_add_91 ?_
    refine lv_iconst (v := nI 1) hx hb dX1_add_94 (by decide) ?_
    refine lv_isub hx hb dX1_add_95 ?_
    refine j_i (y := nI ((n + 1) - 1)) (pk_sub (by omega)) ?_
    refine j_i (y := nI n) (congrArg nI (by omega)) ?_
    refine W.widen (k := 5) (n := 295) (by decide) (by decide) ?_
    exact W.iret (v := nI n) hx hb hr (fun t ht hW => ⟨⟨_, u, rfl, rfl, by rw [ht]; exact hP, hD⟩, hS.F ht⟩) hS.2.2 dX1_add_96
  · have c_35 : ¬ (n < 20) := fun h => c_35 ((nI_ltI (a := n) (b := 20) (by omega) (by omega)).mpr h)
    omega
set_option maxHeartbeats 4000000 in
set_option maxRecDepth 100000 in
/-- add refuses -/
theorem x1_X1_add (l : Launch) (dC : Nat → ClassId) (dI : Nat → Nat → Nat) (cI cJ cZ cO : ClassId) (ax : Nat → Nat) (ao : Nat → Option Nat) (n mo : Nat) (p0 p1 p2 : Int32) (hst : l.stackTraces = false) (hm : mo ≤ 240) (h : p0 < nI mo ∨ nI 239 < p0) : vx_Met l yX1_add wsX1_add ({ frames := 7, cells := 1, slots := 6, locals := 104 }) (va_Pc [.ref (ax 0), .int p0, .int p1, .int p2] (jRX (dC, dI) (jTY cI cJ cZ cO) [jXo ax n mo, jXa cO ax ao])) (jFQ) (jXC eA) 1 6 (fun _ => False) := by
  refine j_ofx (cc := cX1_add) (maxL := 5) (ret := (some .int)) (by decide) rfl (Nat.le_of_ble_eq_true rfl) ?_
  intro p e s m below meth c ls hx hb hr hml hts hown hlocks htab hl hpre
  have hown : s.vm.findClass RX1 = some m.cls := hown
  have hl : lv_has ls 5 [(0, .ref (ax 0)), (1, .int p0), (2, .int p1), (3, .int p2)] := hl
  obtain ⟨⟨hP, hK⟩, hX⟩ := hpre
  refine lv_iload_n hx hb dX1_add_0 rfl (lv_at hl 1 rfl) ?_
  refine lv_aload_n hx hb dX1_add_1 rfl (lv_at hl 0 rfl) ?_
  refine va_get (D := (dC, dI)) (ci := 1) (v := .int (nI mo)) (C := RX1) (T := TX1) (N := 4) hx hb hts (fun _ h => List.mem_cons_of_mem _ (List.mem_append_left _ (List.mem_append_left _ (List.mem_append_left _ (List.mem_append_right _ h))))) hown hK hP 0 rfl rfl 3 (by decide) (hts (.fieldLink RX1 23 "JointAnnuity" "monthThatGoesOn" "I") (List.mem_of_getElem? (i := 3) rfl)) (fun _ h9 => h9) rfl dX1_add_2 ?_
  refine lv_sipush (v := nI 239) hx hb dX1_add_5 (by decide) ?_
  exact j_bxS (As := [.int p0, .int (nI mo), .int (nI 239)]) (rest := []) ⟨hx, hb, hml, hown, hts⟩ (x_X1_requireRange l dC dI p0 (nI mo) (nI 239) hst h) (cwS 3 hts gX1_add_X1_requireRange rfl rfl rfl (by decide +kernel) ⟨Nat.le_of_ble_eq_true rfl, Nat.le_of_ble_eq_true rfl⟩) (jX_S hX) rfl hl rfl (Nat.le_of_ble_eq_true rfl) dX1_add_8 ⟨Nat.le_of_ble_eq_true rfl, Nat.le_of_ble_eq_true rfl⟩ htab hlocks
set_option maxHeartbeats 4000000 in
set_option maxRecDepth 100000 in
/-- add refuses -/
theorem x2_X1_add (l : Launch) (dC : Nat → ClassId) (dI : Nat → Nat → Nat) (cI cJ cZ cO : ClassId) (ax : Nat → Nat) (ao : Nat → Option Nat) (n mo : Nat) (p0 p1 p2 : Int32) (hst : l.stackTraces = false) (hm : mo ≤ 240) (h1 : ¬ p0 < nI mo) (h2 : ¬ nI 239 < p0) (h : p1 < nI 1 ∨ nI 100000 < p1) : vx_Met l yX1_add wsX1_add ({ frames := 7, cells := 1, slots := 6, locals := 104 }) (va_Pc [.ref (ax 0), .int p0, .int p1, .int p2] (jRX (dC, dI) (jTY cI cJ cZ cO) [jXo ax n mo, jXa cO ax ao])) (jFQ) (jXC eA) 1 6 (fun _ => False) := by
  refine j_ofx (cc := cX1_add) (maxL := 5) (ret := (some .int)) (by decide) rfl (Nat.le_of_ble_eq_true rfl) ?_
  intro p e s m below meth c ls hx hb hr hml hts hown hlocks htab hl hpre
  have hown : s.vm.findClass RX1 = some m.cls := hown
  have hl : lv_has ls 5 [(0, .ref (ax 0)), (1, .int p0), (2, .int p1), (3, .int p2)] := hl
  obtain ⟨⟨hP, hK⟩, hX⟩ := hpre
  refine lv_iload_n hx hb dX1_add_0 rfl (lv_at hl 1 rfl) ?_
  refine lv_aload_n hx hb dX1_add_1 rfl (lv_at hl 0 rfl) ?_
  refine va_get (D := (dC, dI)) (ci := 1) (v := .int (nI mo)) (C := RX1) (T := TX1) (N := 4) hx hb hts (fun _ h => List.mem_cons_of_mem _ (List.mem_append_left _ (List.mem_append_left _ (List.mem_append_left _ (List.mem_append_right _ h))))) hown hK hP 0 rfl rfl 3 (by decide) (hts (.fieldLink RX1 23 "JointAnnuity" "monthThatGoesOn" "I") (List.mem_of_getElem? (i := 3) rfl)) (fun _ h9 => h9) rfl dX1_add_2 ?_
  refine lv_sipush (v := nI 239) hx hb dX1_add_5 (by decide) ?_
  refine j_sV (As := [.int p0, .int (nI mo), .int (nI 239)]) (rest := []) ⟨hx, hb, hml, hown, hts⟩ (c_X1_requireRange l dC dI p0 (nI mo) (nI 239) h1 h2) (cwS 3 hts gX1_add_X1_requireRange rfl rfl rfl (by decide +kernel) ⟨Nat.le_of_ble_eq_true rfl, Nat.le_of_ble_eq_true rfl⟩) rfl hl rfl (Nat.le_of_ble_eq_true rfl) dX1_add_8 ⟨Nat.le_of_ble_eq_true rfl, Nat.le_of_ble_eq_true rfl⟩ ?_
  refine lv_iload_n hx hb dX1_add_11 rfl (lv_at hl 2 rfl) ?_
  refine lv_iconst (v := nI 1) hx hb dX1_add_12 (by decide) ?_
  refine lv_ldc hx hb hown (hts (.constant RX1 30 (100000)) (List.mem_of_getElem? (i := 4) rfl)) dX1_add_13 ?_
  refine j_i (y := nI 100000) (by decide +kernel) ?_
  exact j_bxS (As := [.int p1, .int (nI 1), .int (nI 100000)]) (rest := []) ⟨hx, hb, hml, hown, hts⟩ (x_X1_requireRange l dC dI p1 (nI 1) (nI 100000) hst h) (cwS 3 hts gX1_add_X1_requireRange rfl rfl rfl (by decide +kernel) ⟨Nat.le_of_ble_eq_true rfl, Nat.le_of_ble_eq_true rfl⟩) (jX_S hX) rfl hl rfl (Nat.le_of_ble_eq_true rfl) dX1_add_15 ⟨Nat.le_of_ble_eq_true rfl, Nat.le_of_ble_eq_true rfl⟩ htab hlocks
set_option maxHeartbeats 4000000 in
set_option maxRecDepth 100000 in
/-- add refuses -/
theorem x3_X1_add (l : Launch) (dC : Nat → ClassId) (dI : Nat → Nat → Nat) (cI cJ cZ cO : ClassId) (ax : Nat → Nat) (ao : Nat → Option Nat) (n mo : Nat) (p0 p1 p2 : Int32) (hst : l.stackTraces = false) (hm : mo ≤ 240) (h1 : ¬ p0 < nI mo) (h2 : ¬ nI 239 < p0) (h3 : ¬ p1 < nI 1) (h4 : ¬ nI 100000 < p1) (h : p2 < nI 0 ∨ nI 240 < p2) : vx_Met l yX1_add wsX1_add ({ frames := 7, cells := 1, slots := 6, locals := 104 }) (va_Pc [.ref (ax 0), .int p0, .int p1, .int p2] (jRX (dC, dI) (jTY cI cJ cZ cO) [jXo ax n mo, jXa cO ax ao])) (jFQ) (jXC eA) 1 6 (fun _ => False) := by
  refine j_ofx (cc := cX1_add) (maxL := 5) (ret := (some .int)) (by decide) rfl (Nat.le_of_ble_eq_true rfl) ?_
  intro p e s m below meth c ls hx hb hr hml hts hown hlocks htab hl hpre
  have hown : s.vm.findClass RX1 = some m.cls := hown
  have hl : lv_has ls 5 [(0, .ref (ax 0)), (1, .int p0), (2, .int p1), (3, .int p2)] := hl
  obtain ⟨⟨hP, hK⟩, hX⟩ := hpre
  refine lv_iload_n hx hb dX1_add_0 rfl (lv_at hl 1 rfl) ?_
  refine lv_aload_n hx hb dX1_add_1 rfl (lv_at hl 0 rfl) ?_
  refine va_get (D := (dC, dI)) (ci := 1) (v := .int (nI mo)) (C := RX1) (T := TX1) (N := 4) hx hb hts (fun _ h => List.mem_cons_of_mem _ (List.mem_append_left _ (List.mem_append_left _ (List.mem_append_left _ (List.mem_append_right _ h))))) hown hK hP 0 rfl rfl 3 (by decide) (hts (.fieldLink RX1 23 "JointAnnuity" "monthThatGoesOn" "I") (List.mem_of_getElem? (i := 3) rfl)) (fun _ h9 => h9) rfl dX1_add_2 ?_
  refine lv_sipush (v := nI 239) hx hb dX1_add_5 (by decide) ?_
  refine j_sV (As := [.int p0, .int (nI mo), .int (nI 239)]) (rest := []) ⟨hx, hb, hml, hown, hts⟩ (c_X1_requireRange l dC dI p0 (nI mo) (nI 239) h1 h2) (cwS 3 hts gX1_add_X1_requireRange rfl rfl rfl (by decide +kernel) ⟨Nat.le_of_ble_eq_true rfl, Nat.le_of_ble_eq_true rfl⟩) rfl hl rfl (Nat.le_of_ble_eq_true rfl) dX1_add_8 ⟨Nat.le_of_ble_eq_true rfl, Nat.le_of_ble_eq_true rfl⟩ ?_
  refine lv_iload_n hx hb dX1_add_11 rfl (lv_at hl 2 rfl) ?_
  refine lv_iconst (v := nI 1) hx hb dX1_add_12 (by decide) ?_
  refine lv_ldc hx hb hown (hts (.constant RX1 30 (100000)) (List.mem_of_getElem? (i := 4) rfl)) dX1_add_13 ?_
  refine j_i (y := nI 100000) (by decide +kernel) ?_
  refine j_sV (As := [.int p1, .int (nI 1), .int (nI 100000)]) (rest := []) ⟨hx, hb, hml, hown, hts⟩ (c_X1_requireRange l dC dI p1 (nI 1) (nI 100000) h3 h4) (cwS 3 hts gX1_add_X1_requireRange rfl rfl rfl (by decide +kernel) ⟨Nat.le_of_ble_eq_true rfl, Nat.le_of_ble_eq_true rfl⟩) rfl hl rfl (Nat.le_of_ble_eq_true rfl) dX1_add_15 ⟨Nat.le_of_ble_eq_true rfl, Nat.le_of_ble_eq_true rfl⟩ ?_
  refine lv_iload_n hx hb dX1_add_18 rfl (lv_at hl 3 rfl) ?_
  refine lv_iconst (v := nI 0) hx hb dX1_add_19 (by decide) ?_
  refine lv_sipush (v := nI 240) hx hb dX1_add_20 (by decide) ?_
  exact j_bxS (As := [.int p2, .int (nI 0), .int (nI 240)]) (rest := []) ⟨hx, hb, hml, hown, hts⟩ (x_X1_requireRange l dC dI p2 (nI 0) (nI 240) hst h) (cwS 3 hts gX1_add_X1_requireRange rfl rfl rfl (by decide +kernel) ⟨Nat.le_of_ble_eq_true rfl, Nat.le_of_ble_eq_true rfl⟩) (jX_S hX) rfl hl rfl (Nat.le_of_ble_eq_true rfl) dX1_add_23 ⟨Nat.le_of_ble_eq_true rfl, Nat.le_of_ble_eq_true rfl⟩ htab hlocks
set_option maxHeartbeats 4000000 in
set_option maxRecDepth 100000 in
/-- add refuses -/
theorem x4_X1_add (l : Launch) (dC : Nat → ClassId) (dI : Nat → Nat → Nat) (cI cJ cZ cO : ClassId) (ax : Nat → Nat) (ao : Nat → Option Nat) (n mo : Nat) (p0 p1 p2 : Int32) (hst : l.stackTraces = false) (hm : mo ≤ 240) (h1 : ¬ p0 < nI mo) (h2 : ¬ nI 239 < p0) (h3 : ¬ p1 < nI 1) (h4 : ¬ nI 100000 < p1) (h5 : ¬ p2 < nI 0) (h6 : ¬ nI 240 < p2) (hn : n = 20) : vx_Met l yX1_add wsX1_add ({ frames := 6, cells := 1, slots := 6, locals := 82 }) (va_Pc [.ref (ax 0), .int p0, .int p1, .int p2] (jRX (dC, dI) (jTY cI cJ cZ cO) [jXo ax n mo, jXa cO ax ao])) (jFQ) (jXC eS) 1 6 (fun _ => False) := by
  refine j_ofx (cc := cX1_add) (maxL := 5) (ret := (some .int)) (by decide) rfl (Nat.le_of_ble_eq_true rfl) ?_
  intro p e s m below meth c ls hx hb hr hml hts hown hlocks htab hl hpre
  have hown : s.vm.findClass RX1 = some m.cls := hown
  have hl : lv_has ls 5 [(0, .ref (ax 0)), (1, .int p0), (2, .int p1), (3, .int p2)] := hl
  obtain ⟨⟨hP, hK⟩, hX⟩ := hpre
  refine lv_iload_n hx hb dX1_add_0 rfl (lv_at hl 1 rfl) ?_
  refine lv_aload_n hx hb dX1_add_1 rfl (lv_at hl 0 rfl) ?_
  refine va_get (D := (dC, dI)) (ci := 1) (v := .int (nI mo)) (C := RX1) (T := TX1) (N := 4) hx hb hts (fun _ h => List.mem_cons_of_mem _ (List.mem_append_left _ (List.mem_append_left _ (List.mem_append_left _ (List.mem_append_right _ h))))) hown hK hP 0 rfl rfl 3 (by decide) (hts (.fieldLink RX1 23 "JointAnnuity" "monthThatGoesOn" "I") (List.mem_of_getElem? (i := 3) rfl)) (fun _ h9 => h9) rfl dX1_add_2 ?_
  refine lv_sipush (v := nI 239) hx hb dX1_add_5 (by decide) ?_
  refine j_sV (As := [.int p0, .int (nI mo), .int (nI 239)]) (rest := []) ⟨hx, hb, hml, hown, hts⟩ (c_X1_requireRange l dC dI p0 (nI mo) (nI 239) h1 h2) (cwS 3 hts gX1_add_X1_requireRange rfl rfl rfl (by decide +kernel) ⟨Nat.le_of_ble_eq_true rfl, Nat.le_of_ble_eq_true rfl⟩) rfl hl rfl (Nat.le_of_ble_eq_true rfl) dX1_add_8 ⟨Nat.le_of_ble_eq_true rfl, Nat.le_of_ble_eq_true rfl⟩ ?_
  refine lv_iload_n hx hb dX1_add_11 rfl (lv_at hl 2 rfl) ?_
  refine lv_iconst (v := nI 1) hx hb dX1_add_12 (by decide) ?_
  refine lv_ldc hx hb hown (hts (.constant RX1 30 (100000)) (List.mem_of_getElem? (i := 4) rfl)) dX1_add_13 ?_
  refine j_i (y := nI 100000) (by decide +kernel) ?_
  refine j_sV (As := [.int p1, .int (nI 1), .int (nI 100000)]) (rest := []) ⟨hx, hb, hml, hown, hts⟩ (c_X1_requireRange l dC dI p1 (nI 1) (nI 100000) h3 h4) (cwS 3 hts gX1_add_X1_requireRange rfl rfl rfl (by decide +kernel) ⟨Nat.le_of_ble_eq_true rfl, Nat.le_of_ble_eq_true rfl⟩) rfl hl rfl (Nat.le_of_ble_eq_true rfl) dX1_add_15 ⟨Nat.le_of_ble_eq_true rfl, Nat.le_of_ble_eq_true rfl⟩ ?_
  refine lv_iload_n hx hb dX1_add_18 rfl (lv_at hl 3 rfl) ?_
  refine lv_iconst (v := nI 0) hx hb dX1_add_19 (by decide) ?_
  refine lv_sipush (v := nI 240) hx hb dX1_add_20 (by decide) ?_
  refine j_sV (As := [.int p2, .int (nI 0), .int (nI 240)]) (rest := []) ⟨hx, hb, hml, hown, hts⟩ (c_X1_requireRange l dC dI p2 (nI 0) (nI 240) h5 h6) (cwS 3 hts gX1_add_X1_requireRange rfl rfl rfl (by decide +kernel) ⟨Nat.le_of_ble_eq_true rfl, Nat.le_of_ble_eq_true rfl⟩) rfl hl rfl (Nat.le_of_ble_eq_true rfl) dX1_add_23 ⟨Nat.le_of_ble_eq_true rfl, Nat.le_of_ble_eq_true rfl⟩ ?_
  refine lv_aload_n hx hb dX1_add_26 rfl (lv_at hl 0 rfl) ?_
  refine va_get (D := (dC, dI)) (ci := 1) (v := .int (nI n)) (C := RX1) (T := TX1) (N := 4) hx hb hts (fun _ h => List.mem_cons_of_mem _ (List.mem_append_left _ (List.mem_append_left _ (List.mem_append_left _ (List.mem_append_right _ h))))) hown hK hP 0 rfl rfl 2 (by decide) (hts (.fieldLink RX1 19 "JointAnnuity" "count" "I") (List.mem_of_getElem? (i := 5) rfl)) (fun _ h9 => h9) rfl dX1_add_27 ?_
  refine lv_aload_n hx hb dX1_add_30 rfl (lv_at hl 0 rfl) ?_
  refine va_get (D := (dC, dI)) (ci := 1) (v := .ref (ax 1)) (C := RX1) (T := TX1) (N := 4) hx hb hts (fun _ h => List.mem_cons_of_mem _ (List.mem_append_left _ (List.mem_append_left _ (List.mem_append_left _ (List.mem_append_right _ h))))) hown hK hP 0 rfl rfl 0 (by decide) (hts (.fieldLink RX1 11 "JointAnnuity" "annuities" "[LJointAnnuity$Annuity;") (List.mem_of_getElem? (i := 6) rfl)) (fun _ h9 => h9) rfl dX1_add_31 ?_
  refine va_alen hx hb hK hP 1 3 (v := nI 20) rfl rfl rfl dX1_add_34 ?_
  refine lv_icmp_lt (tgt := 48) hx hb dX1_add_35 (by decide) (fun c_35 => ?_) (fun c_35 => ?_)
  · have c_35 : n < 20 := (nI_ltI (a := n) (b := 20) (by omega) (by omega)).mp c_35
    omega
  · have c_35 : ¬ (n < 20) := fun h => c_35 ((nI_ltI (a := n) (b := 20) (by omega) (by omega)).mpr h)
    exact j_throw (E := eS) hx hb hst hown (by decide +kernel) (by simp) (hts (.classLink RX1 31 "java/lang/IllegalStateException") (List.mem_of_getElem? (i := 1) rfl)) (hts (.initialized "java/lang/IllegalStateException") (List.mem_of_getElem? (i := 2) rfl)) (fun w h => hts w (List.mem_cons_of_mem _ (List.mem_append_left _ (List.mem_append_right _ h)))) jgS jbS hX (List.mem_of_getElem? (i := 0) rfl) hl hml dX1_add_38 dX1_add_41 dX1_add_42 dX1_add_44 dX1_add_47 htab (Nat.le_of_ble_eq_true rfl) (Nat.le_of_ble_eq_true rfl) (Nat.le_of_ble_eq_true rfl) (Nat.le_of_ble_eq_true rfl) hlocks
set_option maxHeartbeats 4000000 in
set_option maxRecDepth 100000 in
/-- setInflation refuses -/
theorem x1_X1_setInflation (l : Launch) (dC : Nat → ClassId) (dI : Nat → Nat → Nat) (cI cJ cZ cO : ClassId) (ax : Nat → Nat) (ao : Nat → Option Nat) (n mo : Nat) (p0 p1 : Int32) (hst : l.stackTraces = false) (h : p0 < nI 0 ∨ nI 19 < p0) : vx_Met l yX1_setInflation wsX1_setInflation ({ frames := 7, cells := 1, slots := 6, locals := 104 }) (va_Pc [.ref (ax 0), .int p0, .int p1] (jRX (dC, dI) (jTY cI cJ cZ cO) [jXo ax n mo, jXa cO ax ao])) (jFQ) (jXC eA) 1 6 (fun _ => False) := by
  refine j_ofx (cc := cX1_setInflation) (maxL := 8) (ret := (some .int)) (by decide) rfl (Nat.le_of_ble_eq_true rfl) ?_
  intro p e s m below meth c ls hx hb hr hml hts hown hlocks htab hl hpre
  have hown : s.vm.findClass RX1 = some m.cls := hown
  have hl : lv_has ls 8 [(0, .ref (ax 0)), (1, .int p0), (2, .int p1)] := hl
  obtain ⟨⟨hP, hK⟩, hX⟩ := hpre
  refine lv_iload_n hx hb dX1_setInflation_0 rfl (lv_at hl 1 rfl) ?_
  refine lv_iconst (v := nI 0) hx hb dX1_setInflation_1 (by decide) ?_
  refine lv_bipush (v := nI 19) hx hb dX1_setInflation_2 (by decide) ?_
  exact j_bxS (As := [.int p0, .int (nI 0), .int (nI 19)]) (rest := []) ⟨hx, hb, hml, hown, hts⟩ (x_X1_requireRange l dC dI p0 (nI 0) (nI 19) hst h) (cwS 3 hts gX1_setInflation_X1_requireRange rfl rfl rfl (by decide +kernel) ⟨Nat.le_of_ble_eq_true rfl, Nat.le_of_ble_eq_true rfl⟩) (jX_S hX) rfl hl rfl (Nat.le_of_ble_eq_true rfl) dX1_setInflation_4 ⟨Nat.le_of_ble_eq_true rfl, Nat.le_of_ble_eq_true rfl⟩ htab hlocks
set_option maxHeartbeats 4000000 in
set_option maxRecDepth 100000 in
/-- setInflation refuses -/
theorem x2_X1_setInflation (l : Launch) (dC : Nat → ClassId) (dI : Nat → Nat → Nat) (cI cJ cZ cO : ClassId) (ax : Nat → Nat) (ao : Nat → Option Nat) (n mo : Nat) (p0 p1 : Int32) (hst : l.stackTraces = false) (h1 : ¬ p0 < nI 0) (h2 : ¬ nI 19 < p0) (h : p1 < (-100) ∨ nI 300 < p1) : vx_Met l yX1_setInflation wsX1_setInflation ({ frames := 7, cells := 1, slots := 6, locals := 104 }) (va_Pc [.ref (ax 0), .int p0, .int p1] (jRX (dC, dI) (jTY cI cJ cZ cO) [jXo ax n mo, jXa cO ax ao])) (jFQ) (jXC eA) 1 6 (fun _ => False) := by
  refine j_ofx (cc := cX1_setInflation) (maxL := 8) (ret := (some .int)) (by decide) rfl (Nat.le_of_ble_eq_true rfl) ?_
  intro p e s m below meth c ls hx hb hr hml hts hown hlocks htab hl hpre
  have hown : s.vm.findClass RX1 = some m.cls := hown
  have hl : lv_has ls 8 [(0, .ref (ax 0)), (1, .int p0), (2, .int p1)] := hl
  obtain ⟨⟨hP, hK⟩, hX⟩ := hpre
  refine lv_iload_n hx hb dX1_setInflation_0 rfl (lv_at hl 1 rfl) ?_
  refine lv_iconst (v := nI 0) hx hb dX1_setInflation_1 (by decide) ?_
  refine lv_bipush (v := nI 19) hx hb dX1_setInflation_2 (by decide) ?_
  refine j_sV (As := [.int p0, .int (nI 0), .int (nI 19)]) (rest := []) ⟨hx, hb, hml, hown, hts⟩ (c_X1_requireRange l dC dI p0 (nI 0) (nI 19) h1 h2) (cwS 3 hts gX1_setInflation_X1_requireRange rfl rfl rfl (by decide +kernel) ⟨Nat.le_of_ble_eq_true rfl, Nat.le_of_ble_eq_true rfl⟩) rfl hl rfl (Nat.le_of_ble_eq_true rfl) dX1_setInflation_4 ⟨Nat.le_of_ble_eq_true rfl, Nat.le_of_ble_eq_true rfl⟩ ?_
  refine lv_iload_n hx hb dX1_setInflation_7 rfl (lv_at hl 2 rfl) ?_
  refine lv_bipush (v := (-100)) hx hb dX1_setInflation_8 (by decide) ?_
  refine lv_sipush (v := nI 300) hx hb dX1_setInflation_10 (by decide) ?_
  exact j_bxS (As := [.int p1, .int (-100), .int (nI 300)]) (rest := []) ⟨hx, hb, hml, hown, hts⟩ (x_X1_requireRange l dC dI p1 (-100) (nI 300) hst h) (cwS 3 hts gX1_setInflation_X1_requireRange rfl rfl rfl (by decide +kernel) ⟨Nat.le_of_ble_eq_true rfl, Nat.le_of_ble_eq_true rfl⟩) (jX_S hX) rfl hl rfl (Nat.le_of_ble_eq_true rfl) dX1_setInflation_13 ⟨Nat.le_of_ble_eq_true rfl, Nat.le_of_ble_eq_true rfl⟩ htab hlocks
set_option maxHeartbeats 4000000 in
set_option maxRecDepth 100000 in
/-- the inflation of a year is told -/
theorem c_X1_setInflation (l : Launch) (dC : Nat → ClassId) (dI : Nat → Nat → Nat) (cI cJ cZ cO : ClassId) (ax : Nat → Nat) (n mo : Nat) (iv : Nat → Int32) (aa an : Nat → Nat → Nat) (kp : Nat → Int64) (py : Nat → Nat → Int64) (yy : Nat) (v : Int32) (hv : ∀ k, k < n → jV (an k)) (hn : n ≤ 20) (hy : yy < 20) (hv1 : ¬ v < (-100)) (hv2 : ¬ nI 300 < v) : Met l yX1_setInflation wsX1_setInflation ({ frames := 2, cells := 0, slots := 0, locals := 41 }) (va_Pc [.ref (ax 0), .int (nI yy), .int v] (jW (dC, dI) (jTY cI cJ cZ cO) (jX3 cI cO ax (jao aa n) n mo iv ++ jBl (jbk cI cJ aa an iv kp py) n))) (va_Qi (fun r (_ : Unit) => r = iv yy) (fun _ t => va_P (dC, dI) vwCl (jX3 cI cO ax (jao aa n) n mo (upd iv yy v) ++ jBl (jbk cI cJ aa an (upd iv yy v) kp py) n) t.heap) (jA (jX3 cI cO ax (jao aa n) n mo iv ++ jBl (jbk cI cJ aa an iv kp py) n))) 0 0 (jA (jX3 cI cO ax (jao aa n) n mo iv ++ jBl (jbk cI cJ aa an iv kp py) n)) := by
  refine j_of (cc := cX1_setInflation) (maxL := 8) (ret := (some .int)) (by decide) rfl (Nat.le_of_ble_eq_true rfl) ?_
  intro p e s m below meth c ls hx hb hr hml hts hown hlocks hnm hl hpre
  have hown : s.vm.findClass RX1 = some m.cls := hown
  have hl : lv_has ls 8 [(0, .ref (ax 0)), (1, .int (nI yy)), (2, .int v)] := hl
  obtain ⟨hP, hK, hD0⟩ := hpre
  have hD := hD0.jA
  generalize hAe : jA (jX3 cI cO ax (jao aa n) n mo iv ++ jBl (jbk cI cJ aa an iv kp py) n) = A at hD ⊢
  have hS : va_S A s.heap s.heap [] := va_S.rf
  refine lv_iload_n hx hb dX1_setInflation_0 rfl (lv_at hl 1 rfl) ?_
  refine lv_iconst (v := nI 0) hx hb dX1_setInflation_1 (by decide) ?_
  refine lv_bipush (v := nI 19) hx hb dX1_setInflation_2 (by decide) ?_
  refine j_sV (As := [.int (nI yy), .int (nI 0), .int (nI 19)]) (rest := []) ⟨hx, hb, hml, hown, hts⟩ (c_X1_requireRange l dC dI (nI yy) (nI 0) (nI 19) (nI_nlt (by omega) (by omega)) (nI_nlt (by omega) (by omega))) (cwS 3 hts gX1_setInflation_X1_requireRange rfl rfl rfl (by decide +kernel) ⟨Nat.le_of_ble_eq_true rfl, Nat.le_of_ble_eq_true rfl⟩) rfl hl rfl (Nat.le_of_ble_eq_true rfl) dX1_setInflation_4 ⟨Nat.le_of_ble_eq_true rfl, Nat.le_of_ble_eq_true rfl⟩ ?_
  refine lv_iload_n hx hb dX1_setInflation_7 rfl (lv_at hl 2 rfl) ?_
  refine lv_bipush (v := (-100)) hx hb dX1_setInflation_8 (by decide) ?_
  refine lv_sipush (v := nI 300) hx hb dX1_setInflation_10 (by decide) ?_
  refine j_sV (As := [.int v, .int (-100), .int (nI 300)]) (rest := []) ⟨hx, hb, hml, hown, hts⟩ (c_X1_requireRange l dC dI v (-100) (nI 300) hv1 hv2) (cwS 3 hts gX1_setInflation_X1_requireRange rfl rfl rfl (by decide +kernel) ⟨Nat.le_of_ble_eq_true rfl, Nat.le_of_ble_eq_true rfl⟩) rfl hl rfl (Nat.le_of_ble_eq_true rfl) dX1_setInflation_13 ⟨Nat.le_of_ble_eq_true rfl, Nat.le_of_ble_eq_true rfl⟩ ?_
  refine lv_aload_n hx hb dX1_setInflation_16 rfl (lv_at hl 0 rfl) ?_
  refine va_get (D := (dC, dI)) (ci := 1) (v := .ref (ax 2)) (C := RX1) (T := TX1) (N := 4) hx hb hts (fun _ h => List.mem_cons_of_mem _ (List.mem_append_left _ (List.mem_append_left _ (List.mem_append_right _ h)))) hown hK hP 0 rfl rfl 1 (by decide) (hts (.fieldLink RX1 15 "JointAnnuity" "inflation" "[I") (List.mem_of_getElem? (i := 1) rfl)) (fun _ h9 => h9) rfl dX1_setInflation_17 ?_
  refine lv_iload_n hx hb dX1_setInflation_20 rfl (lv_at hl 1 rfl) ?_
  refine va_iald hx hb hK hP 2 0 (f := iv) rfl rfl (vp_in_nI (n := yy) (N := 20) (by omega) (by omega)) dX1_setInflation_21 ?_
  refine j_i (y := iv yy) (by rw [nI_clamp (by omega)]) ?_
  refine lv_istore_n (lv' := [(3, .int (iv yy)), (0, .ref (ax 0)), (1, .int (nI yy)), (2, .int v)]) hx hb dX1_setInflation_22 rfl hl (by decide) rfl (fun ls hl => ?_)
  refine lv_aload_n hx hb dX1_setInflation_23 rfl (lv_at hl 1 rfl) ?_
  refine va_get (D := (dC, dI)) (ci := 1) (v := .ref (ax 2)) (C := RX1) (T := TX1) (N := 4) hx hb hts (fun _ h => List.mem_cons_of_mem _ (List.mem_append_left _ (List.mem_append_left _ (List.mem_append_right _ h)))) hown hK hP 0 rfl rfl 1 (by decide) (hts (.fieldLink RX1 15 "JointAnnuity" "inflation" "[I") (List.mem_of_getElem? (i := 1) rfl)) (fun _ h9 => h9) rfl dX1_setInflation_24 ?_
  refine lv_iload_n hx hb dX1_setInflation_27 rfl (lv_at hl 2 rfl) ?_
  refine lv_iload_n hx hb dX1_setInflation_28 rfl (lv_at hl 3 rfl) ?_
  refine va_iast hx hb hK hP hD hS 2 0 (f := iv) (x := v) rfl rfl (vp_in_nI (n := yy) (N := 20) (by omega) (by omega)) dX1_setInflation_29 (fun H locs hP hD hS => ?_)
  rw [nI_clamp (show yy < 2 ^ 31 by omega)] at hP hD
  have hP : va_P (dC, dI) vwCl ([((ax 0), .inr (1, [.ref (ax 1), .ref (ax 2), .int (nI n), .int (nI mo)])), ((ax 1), .inl (cO, 20, .inr (.inr (.inr (.inr (jao aa n)))))), ((ax 2), .inl (cI, 20, .inl (upd iv yy v)))] ++ jBl (jbk cI cJ aa an iv kp py) n) H := hP
  have hD : va_D A ([((ax 0), .inr (1, [.ref (ax 1), .ref (ax 2), .int (nI n), .int (nI mo)])), ((ax 1), .inl (cO, 20, .inr (.inr (.inr (.inr (jao aa n)))))), ((ax 2), .inl (cI, 20, .inl (upd iv yy v)))] ++ jBl (jbk cI cJ aa an iv kp py) n) := hD
  refine lv_aload_n hx hb dX1_setInflation_30 rfl (lv_at hl 1 rfl) ?_
  refine va_get (D := (dC, dI)) (ci := 1) (v := .ref (ax 1)) (C := RX1) (T := TX1) (N := 4) hx hb hts (fun _ h => List.mem_cons_of_mem _ (List.mem_append_left _ (List.mem_append_left _ (List.mem_append_right _ h)))) hown hK hP 0 rfl rfl 0 (by decide) (hts (.fieldLink RX1 11 "JointAnnuity" "annuities" "[LJointAnnuity$Annuity;") (List.mem_of_getElem? (i := 2) rfl)) (fun _ h9 => h9) rfl dX1_setInflation_31 ?_
  refine lv_astore (lv' := [(4, .ref (ax 1)), (3, .int (iv yy)), (0, .ref (ax 0)), (1, .int (nI yy)), (2, .int v)]) hx hb dX1_setInflation_34 hl (by decide) rfl (fun ls hl => ?_)
  refine lv_aload hx hb dX1_setInflation_36 (lv_at hl 0 rfl) ?_
  refine va_alen hx hb hK hP 1 3 (v := nI 20) rfl rfl rfl dX1_setInflation_38 ?_
  refine lv_istore (lv' := [(5, .int (nI 20)), (4, .ref (ax 1)), (3, .int (iv yy)), (0, .ref (ax 0)), (1, .int (nI yy)), (2, .int v)]) hx hb dX1_setInflation_39 hl (by decide) rfl (fun ls hl => ?_)
  refine lv_iconst (v := nI 0) hx hb dX1_setInflation_41 (by decide) ?_
  refine lv_istore (lv' := [(6, .int (nI 0)), (5, .int (nI 20)), (4, .ref (ax 1)), (3, .int (iv yy)), (0, .ref (ax 0)), (1, .int (nI yy)), (2, .int v)]) hx hb dX1_setInflation_42 hl (by decide) rfl (fun ls hl => ?_)
  have e0 : jBl (jbk cI cJ aa an iv kp py) n = jBl (jbi cI cJ aa an iv (upd iv yy v) kp py 0) n := jBl_congr (fun j hj => (jbi_a cI cJ aa an iv (upd iv yy v) kp py (Nat.zero_le j)).symm)
  rw [e0] at hP hD
  have hP : va_P (dC, dI) vwCl ([((ax 0), .inr (1, [.ref (ax 1), .ref (ax 2), .int (nI n), .int (nI mo)])), ((ax 1), .inl (cO, 20, .inr (.inr (.inr (.inr (jao aa n)))))), ((ax 2), .inl (cI, 20, .inl (upd iv yy v)))] ++ jBl (jbi cI cJ aa an iv (upd iv yy v) kp py 0) n) H := hP
  have hD : va_D A ([((ax 0), .inr (1, [.ref (ax 1), .ref (ax 2), .int (nI n), .int (nI mo)])), ((ax 1), .inl (cO, 20, .inr (.inr (.inr (.inr (jao aa n)))))), ((ax 2), .inl (cI, 20, .inl (upd iv yy v)))] ++ jBl (jbi cI cJ aa an iv (upd iv yy v) kp py 0) n) := hD
  refine j_loopW (I := fun i : Nat => i ≤ 20) (μ := fun i => 20 - i) (lv := fun i => [(0, .ref (ax 0)), (1, .int (nI yy)), (2, .int v), (3, .int (iv yy)), (4, .ref (ax 1)), (5, .int (nI 20)), (6, .int (nI i))]) (w := fun i => ([((ax 0), .inr (1, [.ref (ax 1), .ref (ax 2), .int (nI n), .int (nI mo)])), ((ax 1), .inl (cO, 20, .inr (.inr (.inr (.inr (jao aa n)))))), ((ax 2), .inl (cI, 20, .inl (upd iv yy v)))] ++ jBl (jbi cI cJ aa an iv (upd iv yy v) kp py i) n)) 0 (Nat.zero_le _) (lv_sub hl [4, 5, 6, 3, 2, 1, 0] rfl) hP hD hS ?_
  intro i H locs ls hI hP hD hS hl IH
  have hl : lv_has ls 8 [(0, .ref (ax 0)), (1, .int (nI yy)), (2, .int v), (3, .int (iv yy)), (4, .ref (ax 1)), (5, .int (nI 20)), (6, .int (nI i))] := hl
  have hP : va_P (dC, dI) vwCl ([((ax 0), .inr (1, [.ref (ax 1), .ref (ax 2), .int (nI n), .int (nI mo)])), ((ax 1), .inl (cO, 20, .inr (.inr (.inr (.inr (jao aa n)))))), ((ax 2), .inl (cI, 20, .inl (upd iv yy v)))] ++ jBl (jbi cI cJ aa an iv (upd iv yy v) kp py i) n) H := hP
  have hD : va_D A ([((ax 0), .inr (1, [.ref (ax 1), .ref (ax 2), .int (nI n), .int (nI mo)])), ((ax 1), .inl (cO, 20, .inr (.inr (.inr (.inr (jao aa n)))))), ((ax 2), .inl (cI, 20, .inl (upd iv yy v)))] ++ jBl (jbi cI cJ aa an iv (upd iv yy v) kp py i) n) := hD
  have hI : i ≤ 20 := hI
  refine lv_iload hx hb dX1_setInflation_44 (lv_at hl 6 rfl) ?_
  refine lv_iload hx hb dX1_setInflation_46 (lv_at hl 5 rfl) ?_
  refine lv_icmp_ge (tgt := 78) hx hb dX1_setInflation_48 (by decide) (fun c_48 => ?_) (fun c_48 => ?_)
  · have c_48 : 20 ≤ i := (nI_leI (a := 20) (b := i) (by omega) (by omega)).mp c_48
    refine lv_iload_n hx hb dX1_setInflation_78 rfl (lv_at hl 3 rfl) ?_
    have e9 : jBl (jbi cI cJ aa an iv (upd iv yy v) kp py i) n = jBl (jbk cI cJ aa an (upd iv yy v) kp py) n := jBl_congr (fun j hj => jbi_b cI cJ aa an iv (upd iv yy v) kp py (by omega))
    rw [e9] at hP hD
    exact W.iret (v := iv yy) hx hb hr (fun t ht hW => ⟨⟨_, (), rfl, rfl, j_h ht hP⟩, hS.F ht⟩) hS.2.2 dX1_setInflation_79
  · have c_48 : ¬ (20 ≤ i) := fun h => c_48 ((nI_leI (a := 20) (b := i) (by omega) (by omega)).mpr h)
    refine lv_aload hx hb dX1_setInflation_51 (lv_at hl 4 rfl) ?_
    refine lv_iload hx hb dX1_setInflation_53 (lv_at hl 6 rfl) ?_
    refine va_aldq hx hb hK hP 1 3 (f := jao aa n) rfl rfl (vp_in_nI (n := i) (N := 20) (by omega) (by omega)) dX1_setInflation_55 ?_
    by_cases hi : i < n
    · refine j_v (y := .ref (aa i 0)) (by rw [nI_clamp (by omega), show jao aa n i = some (aa i 0) from if_pos hi]; rfl) ?_
      refine lv_astore (lv' := [(7, .ref (aa i 0)), (0, .ref (ax 0)), (1, .int (nI yy)), (2, .int v), (3, .int (iv yy)), (4, .ref (ax 1)), (5, .int (nI 20)), (6, .int (nI i))]) hx hb dX1_setInflation_56 hl (by decide) rfl (fun ls hl => ?_)
      refine lv_aload hx hb dX1_setInflation_58 (lv_at hl 0 rfl) ?_
      refine lv_ifnull hx hb dX1_setInflation_60 ?_
      refine lv_aload hx hb dX1_setInflation_63 (lv_at hl 0 rfl) ?_
      refine lv_aload_n hx hb dX1_setInflation_65 rfl (lv_at hl 1 rfl) ?_
      refine va_get (D := (dC, dI)) (ci := 1) (v := .ref (ax 2)) (C := RX1) (T := TX1) (N := 4) hx hb hts (fun _ h => List.mem_cons_of_mem _ (List.mem_append_left _ (List.mem_append_left _ (List.mem_append_right _ h)))) hown hK hP 0 rfl rfl 1 (by decide) (hts (.fieldLink RX1 15 "JointAnnuity" "inflation" "[I") (List.mem_of_getElem? (i := 1) rfl)) (fun _ h9 => h9) rfl dX1_setInflation_66 ?_
      have hPf : va_P (dC, dI) vwCl [((ax 0), .inr (1, [.ref (ax 1), .ref (ax 2), .int (nI n), .int (nI mo)])), ((ax 1), .inl (cO, 20, .inr (.inr (.inr (.inr (jao aa n)))))), ((ax 2), .inl (cI, 20, .inl (upd iv yy v))), ((aa i 0), .inr (0, [.int (nI (an i 0)), .int (nI (an i 1)), .int (nI (an i 0 + an i 2)), .int (nI (an i 3)), .int (nI (an i 4)), .int (nI (an i 5)), .int (nI (an i 6)), .int (nI (an i 7)), .ref (aa i 1), .ref (aa i 2), .ref (aa i 3), .ref (aa i 4), .long (kp i)])), ((aa i 1), .inl (cI, 2, .inl (fun j => nI (if j = 0 then an i 8 else an i 9)))), ((aa i 2), .inl (cI, 20, .inl (fun j => nI (jF (an i) iv j)))), ((aa i 3), .inl (cI, 20, .inl (fun j => jC (an i) iv j))), ((aa i 4), .inl (cJ, 240, .inr (.inl (py i))))] H := by
        have h := j_subP hP (j_focus0 hi)
        rw [jbi_a cI cJ aa an iv (upd iv yy v) kp py (Nat.le_refl i)] at h
        exact h
      have hDf : va_D A [((ax 0), .inr (1, [.ref (ax 1), .ref (ax 2), .int (nI n), .int (nI mo)])), ((ax 1), .inl (cO, 20, .inr (.inr (.inr (.inr (jao aa n)))))), ((ax 2), .inl (cI, 20, .inl (upd iv yy v))), ((aa i 0), .inr (0, [.int (nI (an i 0)), .int (nI (an i 1)), .int (nI (an i 0 + an i 2)), .int (nI (an i 3)), .int (nI (an i 4)), .int (nI (an i 5)), .int (nI (an i 6)), .int (nI (an i 7)), .ref (aa i 1), .ref (aa i 2), .ref (aa i 3), .ref (aa i 4), .long (kp i)])), ((aa i 1), .inl (cI, 2, .inl (fun j => nI (if j = 0 then an i 8 else an i 9)))), ((aa i 2), .inl (cI, 20, .inl (fun j => nI (jF (an i) iv j)))), ((aa i 3), .inl (cI, 20, .inl (fun j => jC (an i) iv j))), ((aa i 4), .inl (cJ, 240, .inr (.inl (py i))))] := by
        have h := j_subD hD (j_focus0 hi)
        rw [jbi_a cI cJ aa an iv (upd iv yy v) kp py (Nat.le_refl i)] at h
        exact h
      refine j_gV (As := [.ref (ax 2)]) (rest := []) ⟨hx, hb, hml, hown, hts⟩ (c_X0_growBy l dC dI cI cJ cZ cO (aa i) (an i) (upd iv yy v) (kp i) (ax 2) (fun j => nI (jF (an i) iv j)) (fun j => jC (an i) iv j) (hv i hi)) (cwV 1 hts gX1_setInflation_X0_growBy rfl rfl rfl (by decide +kernel) ⟨Nat.le_of_ble_eq_true rfl, Nat.le_of_ble_eq_true rfl⟩) (jW_V hK hPf hDf [3, 5, 6, 2] (by decide) rfl (ci := 0) (q0 := 3) rfl rfl rfl) rfl hl rfl (Nat.le_of_ble_eq_true rfl) dX1_setInflation_69 ⟨Nat.le_of_ble_eq_true rfl, Nat.le_of_ble_eq_true rfl⟩ hS (fun q h => jA_sub hDf [3, 5, 6, 2] rfl q h) (fun u H2 locs hu hP1 hk2 hS => ?_)
      obtain ⟨hP, hD⟩ := j_backm (X := [((ax 0), .inr (1, [.ref (ax 1), .ref (ax 2), .int (nI n), .int (nI mo)])), ((ax 1), .inl (cO, 20, .inr (.inr (.inr (.inr (jao aa n)))))), ((ax 2), .inl (cI, 20, .inl (upd iv yy v)))]) (blk := jbi cI cJ aa an iv (upd iv yy v) kp py i) (blk' := jbi cI cJ aa an iv (upd iv yy v) kp py (i + 1)) (F := [((ax 0), .inr (1, [.ref (ax 1), .ref (ax 2), .int (nI n), .int (nI mo)])), ((ax 1), .inl (cO, 20, .inr (.inr (.inr (.inr (jao aa n)))))), ((ax 2), .inl (cI, 20, .inl (upd iv yy v))), ((aa i 0), .inr (0, [.int (nI (an i 0)), .int (nI (an i 1)), .int (nI (an i 0 + an i 2)), .int (nI (an i 3)), .int (nI (an i 4)), .int (nI (an i 5)), .int (nI (an i 6)), .int (nI (an i 7)), .ref (aa i 1), .ref (aa i 2), .ref (aa i 3), .ref (aa i 4), .long (kp i)])), ((aa i 1), .inl (cI, 2, .inl (fun j => nI (if j = 0 then an i 8 else an i 9)))), ((aa i 2), .inl (cI, 20, .inl (fun j => nI (jF (an i) iv j)))), ((aa i 3), .inl (cI, 20, .inl (fun j => jC (an i) iv j))), ((aa i 4), .inl (cJ, 240, .inr (.inl (py i))))]) (F' := [((ax 0), .inr (1, [.ref (ax 1), .ref (ax 2), .int (nI n), .int (nI mo)])), ((ax 1), .inl (cO, 20, .inr (.inr (.inr (.inr (jao aa n)))))), ((ax 2), .inl (cI, 20, .inl (upd iv yy v))), ((aa i 0), .inr (0, [.int (nI (an i 0)), .int (nI (an i 1)), .int (nI (an i 0 + an i 2)), .int (nI (an i 3)), .int (nI (an i 4)), .int (nI (an i 5)), .int (nI (an i 6)), .int (nI (an i 7)), .ref (aa i 1), .ref (aa i 2), .ref (aa i 3), .ref (aa i 4), .long (kp i)])), ((aa i 1), .inl (cI, 2, .inl (fun j => nI (if j = 0 then an i 8 else an i 9)))), ((aa i 2), .inl (cI, 20, .inl (fun j => nI (jF (an i) (upd iv yy v) j)))), ((aa i 3), .inl (cI, 20, .inl (fun j => jC (an i) (upd iv yy v) j))), ((aa i 4), .inl (cJ, 240, .inr (.inl (py i))))]) hi hP hD (by rw [jbi_a cI cJ aa an iv (upd iv yy v) kp py (Nat.le_refl i)]; rfl) [3, 5, 6, 2] [0, 1, 4, 7] rfl rfl [(ax 0), (ax 1), (ax 2), (aa i 0), (aa i 1), (aa i 2), (aa i 3), (aa i 4)] rfl rfl [((ax 0), .inr (1, [.ref (ax 1), .ref (ax 2), .int (nI n), .int (nI mo)])), ((ax 1), .inl (cO, 20, .inr (.inr (.inr (.inr (jao aa n)))))), ((aa i 1), .inl (cI, 2, .inl (fun j => nI (if j = 0 then an i 8 else an i 9)))), ((aa i 4), .inl (cJ, 240, .inr (.inl (py i))))] rfl rfl (fun j hj => j_cov _ _ 8 (by decide) j hj) hk2 hP1 (by rw [jbi_b cI cJ aa an iv (upd iv yy v) kp py (Nat.lt_succ_self i)]; rfl) (fun j hj => jbi_n cI cJ aa an iv (upd iv yy v) kp py hj)
      generalize H2 = H at hP hS ⊢
      have hP : va_P (dC, dI) vwCl ([((ax 0), .inr (1, [.ref (ax 1), .ref (ax 2), .int (nI n), .int (nI mo)])), ((ax 1), .inl (cO, 20, .inr (.inr (.inr (.inr (jao aa n)))))), ((ax 2), .inl (cI, 20, .inl (upd iv yy v)))] ++ jBl (jbi cI cJ aa an iv (upd iv yy v) kp py (i + 1)) n) H := hP
      have hD : va_D A ([((ax 0), .inr (1, [.ref (ax 1), .ref (ax 2), .int (nI n), .int (nI mo)])), ((ax 1), .inl (cO, 20, .inr (.inr (.inr (.inr (jao aa n)))))), ((ax 2), .inl (cI, 20, .inl (upd iv yy v)))] ++ jBl (jbi cI cJ aa an iv (upd iv yy v) kp py (i + 1)) n) := hD
      refine lv_iinc (v := nI (i + 1)) (lv' := [(6, .int (nI (i + 1))), (7, .ref (aa i 0)), (0, .ref (ax 0)), (1, .int (nI yy)), (2, .int v), (3, .int (iv yy)), (4, .ref (ax 1)), (5, .int (nI 20))]) hx hb dX1_setInflation_72 hl (k := 7) rfl (by exact nI_add _ 1) (by decide) rfl (fun ls hl => ?_)
      refine lv_goto (tgt := 44) hx hb dX1_setInflation_75 (by decide) ?_
      exact IH (i + 1) H locs ls (show i + 1 ≤ 20 by omega) (show 20 - (i + 1) < 20 - i by omega) hP hD hS (lv_sub hl [2, 3, 4, 5, 6, 7, 0] rfl)
    · refine j_v (y := .null) (by rw [nI_clamp (by omega), show jao aa n i = none from if_neg hi]; rfl) ?_
      refine lv_astoreN (lv' := [(7, .null), (0, .ref (ax 0)), (1, .int (nI yy)), (2, .int v), (3, .int (iv yy)), (4, .ref (ax 1)), (5, .int (nI 20)), (6, .int (nI i))]) hx hb dX1_setInflation_56 hl (by decide) rfl (fun ls hl => ?_)
      refine lv_aloadN hx hb dX1_setInflation_58 (lv_at hl 0 rfl) ?_
      refine lv_ifnullN (tgt := 72) hx hb dX1_setInflation_60 (by decide) ?_
      have e9 : jBl (jbi cI cJ aa an iv (upd iv yy v) kp py i) n = jBl (jbi cI cJ aa an iv (upd iv yy v) kp py (i + 1)) n := jBl_congr (fun j hj => (jbi_n cI cJ aa an iv (upd iv yy v) kp py (show j ≠ i by omega)).symm)
      rw [e9] at hP hD
      have hP : va_P (dC, dI) vwCl ([((ax 0), .inr (1, [.ref (ax 1), .ref (ax 2), .int (nI n), .int (nI mo)])), ((ax 1), .inl (cO, 20, .inr (.inr (.inr (.inr (jao aa n)))))), ((ax 2), .inl (cI, 20, .inl (upd iv yy v)))] ++ jBl (jbi cI cJ aa an iv (upd iv yy v) kp py (i + 1)) n) H := hP
      have hD : va_D A ([((ax 0), .inr (1, [.ref (ax 1), .ref (ax 2), .int (nI n), .int (nI mo)])), ((ax 1), .inl (cO, 20, .inr (.inr (.inr (.inr (jao aa n)))))), ((ax 2), .inl (cI, 20, .inl (upd iv yy v)))] ++ jBl (jbi cI cJ aa an iv (upd iv yy v) kp py (i + 1)) n) := hD
      refine lv_iinc (v := nI (i + 1)) (lv' := [(6, .int (nI (i + 1))), (7, .null), (0, .ref (ax 0)), (1, .int (nI yy)), (2, .int v), (3, .int (iv yy)), (4, .ref (ax 1)), (5, .int (nI 20))]) hx hb dX1_setInflation_72 hl (k := 7) rfl (by exact nI_add _ 1) (by decide) rfl (fun ls hl => ?_)
      refine lv_goto (tgt := 44) hx hb dX1_setInflation_75 (by decide) ?_
      exact IH (i + 1) H locs ls (show i + 1 ≤ 20 by omega) (show 20 - (i + 1) < 20 - i by omega) hP hD hS (lv_sub hl [2, 3, 4, 5, 6, 7, 0] rfl)
set_option maxHeartbeats 4000000 in
set_option maxRecDepth 100000 in
/-- all months have been run -/
theorem x1_X1_run (l : Launch) (dC : Nat → ClassId) (dI : Nat → Nat → Nat) (cI cJ cZ cO : ClassId) (ax : Nat → Nat) (n mo : Nat) (hst : l.stackTraces = false) (hm : mo = 240) : vx_Met l yX1_run wsX1_run ({ frames := 6, cells := 1, slots := 6, locals := 82 }) (va_Pc [.ref (ax 0)] (jRX (dC, dI) (jTY cI cJ cZ cO) [jXo ax n mo])) (jFQ) (jXC eS) 1 6 (fun _ => False) := by
  refine j_ofx (cc := cX1_run) (maxL := 7) (ret := (some .long)) (by decide) rfl (Nat.le_of_ble_eq_true rfl) ?_
  intro p e s m below meth c ls hx hb hr hml hts hown hlocks htab hl hpre
  have hown : s.vm.findClass RX1 = some m.cls := hown
  have hl : lv_has ls 7 [(0, .ref (ax 0))] := hl
  obtain ⟨⟨hP, hK⟩, hX⟩ := hpre
  refine lv_aload_n hx hb dX1_run_0 rfl (lv_at hl 0 rfl) ?_
  refine va_get (D := (dC, dI)) (ci := 1) (v := .int (nI mo)) (C := RX1) (T := TX1) (N := 4) hx hb hts (fun _ h => List.mem_cons_of_mem _ (List.mem_append_left _ (List.mem_append_left _ (List.mem_append_right _ h)))) hown hK hP 0 rfl rfl 3 (by decide) (hts (.fieldLink RX1 23 "JointAnnuity" "monthThatGoesOn" "I") (List.mem_of_getElem? (i := 3) rfl)) (fun _ h9 => h9) rfl dX1_run_1 ?_
  refine lv_sipush (v := nI 240) hx hb dX1_run_4 (by decide) ?_
  refine lv_icmp_lt (tgt := 20) hx hb dX1_run_7 (by decide) (fun c_7 => ?_) (fun c_7 => ?_)
  · have c_7 : mo < 240 := (nI_ltI (a := mo) (b := 240) (by omega) (by omega)).mp c_7
    omega
  · have c_7 : ¬ (mo < 240) := fun h => c_7 ((nI_ltI (a := mo) (b := 240) (by omega) (by omega)).mpr h)
    exact j_throw (E := eS) hx hb hst hown (by decide +kernel) (by simp) (hts (.classLink RX1 31 "java/lang/IllegalStateException") (List.mem_of_getElem? (i := 1) rfl)) (hts (.initialized "java/lang/IllegalStateException") (List.mem_of_getElem? (i := 2) rfl)) (fun w h => hts w (List.mem_cons_of_mem _ (List.mem_append_right _ h))) jgS jbS hX (List.mem_of_getElem? (i := 3) rfl) hl hml dX1_run_10 dX1_run_13 dX1_run_14 dX1_run_16 dX1_run_19 htab (Nat.le_of_ble_eq_true rfl) (Nat.le_of_ble_eq_true rfl) (Nat.le_of_ble_eq_true rfl) (Nat.le_of_ble_eq_true rfl) hlocks
set_option maxHeartbeats 4000000 in
set_option maxRecDepth 100000 in
/-- a month is run -/
theorem c_X1_run (l : Launch) (dC : Nat → ClassId) (dI : Nat → Nat → Nat) (cI cJ cZ cO : ClassId) (ax : Nat → Nat) (n mo : Nat) (iv : Nat → Int32) (aa an : Nat → Nat → Nat) (kp : Nat → Int64) (py : Nat → Nat → Int64) (hv : ∀ k, k < n → jV (an k)) (hn : n ≤ 20) (hm : mo < 240) : Met l yX1_run wsX1_run ({ frames := 6, cells := 0, slots := 0, locals := 139 }) (va_Pc [.ref (ax 0)] (jW (dC, dI) (jTY cI cJ cZ cO) (jX3 cI cO ax (jao aa n) n mo iv ++ jBl (jbk cI cJ aa an iv kp py) n))) (va_Ql (fun r (_ : Unit) => r = jSum (jZ an iv mo kp) n) (fun _ t => va_P (dC, dI) vwCl (jX3 cI cO ax (jao aa n) n (mo + 1) iv ++ jBl (jbk cI cJ aa an iv (fun j => kp j + jZ an iv mo kp j) (fun j => vp_updL (py j) mo (jZ an iv mo kp j))) n) t.heap) (jA (jX3 cI cO ax (jao aa n) n mo iv ++ jBl (jbk cI cJ aa an iv kp py) n))) 0 0 (jA (jX3 cI cO ax (jao aa n) n mo iv ++ jBl (jbk cI cJ aa an iv kp py) n)) := by
  refine j_of (cc := cX1_run) (maxL := 7) (ret := (some .long)) (by decide) rfl (Nat.le_of_ble_eq_true rfl) ?_
  intro p e s m below meth c ls hx hb hr hml hts hown hlocks hnm hl hpre
  have hown : s.vm.findClass RX1 = some m.cls := hown
  have hl : lv_has ls 7 [(0, .ref (ax 0))] := hl
  obtain ⟨hP, hK, hD0⟩ := hpre
  have hD := hD0.jA
  generalize hAe : jA (jX3 cI cO ax (jao aa n) n mo iv ++ jBl (jbk cI cJ aa an iv kp py) n) = A at hD ⊢
  have hS : va_S A s.heap s.heap [] := va_S.rf
  refine lv_aload_n hx hb dX1_run_0 rfl (lv_at hl 0 rfl) ?_
  refine va_get (D := (dC, dI)) (ci := 1) (v := .int (nI mo)) (C := RX1) (T := TX1) (N := 4) hx hb hts (fun _ h => List.mem_cons_of_mem _ (List.mem_append_left _ (List.mem_append_left _ (List.mem_append_right _ h)))) hown hK hP 0 rfl rfl 3 (by decide) (hts (.fieldLink RX1 23 "JointAnnuity" "monthThatGoesOn" "I") (List.mem_of_getElem? (i := 3) rfl)) (fun _ h9 => h9) rfl dX1_run_1 ?_
  refine lv_sipush (v := nI 240) hx hb dX1_run_4 (by decide) ?_
  refine lv_icmp_lt (tgt := 20) hx hb dX1_run_7 (by decide) (fun c_7 => ?_) (fun c_7 => ?_)
  · have c_7 : mo < 240 := (nI_ltI (a := mo) (b := 240) (by omega) (by omega)).mp c_7
    refine lv_lconst (v := lN 0) hx hb dX1_run_20 (by decide) ?_
    refine j_l (y := jSum (jZ an iv mo kp) (min 0 n)) (by rw [Nat.zero_min]; rfl) ?_
    refine lv_lstore_n (lv' := [(1, .long (jSum (jZ an iv mo kp) (min 0 n))), (0, .ref (ax 0))]) hx hb dX1_run_21 rfl hl (by decide) rfl (fun ls hl => ?_)
    refine lv_aload_n hx hb dX1_run_22 rfl (lv_at hl 1 rfl) ?_
    refine va_get (D := (dC, dI)) (ci := 1) (v := .ref (ax 1)) (C := RX1) (T := TX1) (N := 4) hx hb hts (fun _ h => List.mem_cons_of_mem _ (List.mem_append_left _ (List.mem_append_left _ (List.mem_append_right _ h)))) hown hK hP 0 rfl rfl 0 (by decide) (hts (.fieldLink RX1 11 "JointAnnuity" "annuities" "[LJointAnnuity$Annuity;") (List.mem_of_getElem? (i := 4) rfl)) (fun _ h9 => h9) rfl dX1_run_23 ?_
    refine lv_astore_n (lv' := [(3, .ref (ax 1)), (1, .long (jSum (jZ an iv mo kp) (min 0 n))), (0, .ref (ax 0))]) hx hb dX1_run_26 rfl hl (by decide) rfl (fun ls hl => ?_)
    refine lv_aload_n hx hb dX1_run_27 rfl (lv_at hl 0 rfl) ?_
    refine va_alen hx hb hK hP 1 3 (v := nI 20) rfl rfl rfl dX1_run_28 ?_
    refine lv_istore (lv' := [(4, .int (nI 20)), (3, .ref (ax 1)), (1, .long (jSum (jZ an iv mo kp) (min 0 n))), (0, .ref (ax 0))]) hx hb dX1_run_29 hl (by decide) rfl (fun ls hl => ?_)
    refine lv_iconst (v := nI 0) hx hb dX1_run_31 (by decide) ?_
    refine lv_istore (lv' := [(5, .int (nI 0)), (4, .int (nI 20)), (3, .ref (ax 1)), (1, .long (jSum (jZ an iv mo kp) (min 0 n))), (0, .ref (ax 0))]) hx hb dX1_run_32 hl (by decide) rfl (fun ls hl => ?_)
    have e0 : jBl (jbk cI cJ aa an iv kp py) n = jBl (jbk cI cJ aa an iv (jki kp (jZ an iv mo kp) 0) (jpi py (jZ an iv mo kp) mo 0)) n := jBl_congr (fun j hj => by dsimp only [jbk]; rw [jki_a kp _ (Nat.zero_le j), jpi_a py _ mo (Nat.zero_le j)])
    rw [e0] at hP hD
    have hP : va_P (dC, dI) vwCl ([((ax 0), .inr (1, [.ref (ax 1), .ref (ax 2), .int (nI n), .int (nI mo)])), ((ax 1), .inl (cO, 20, .inr (.inr (.inr (.inr (jao aa n)))))), ((ax 2), .inl (cI, 20, .inl (iv)))] ++ jBl (jbk cI cJ aa an iv (jki kp (jZ an iv mo kp) 0) (jpi py (jZ an iv mo kp) mo 0)) n) s.heap := hP
    have hD : va_D A ([((ax 0), .inr (1, [.ref (ax 1), .ref (ax 2), .int (nI n), .int (nI mo)])), ((ax 1), .inl (cO, 20, .inr (.inr (.inr (.inr (jao aa n)))))), ((ax 2), .inl (cI, 20, .inl (iv)))] ++ jBl (jbk cI cJ aa an iv (jki kp (jZ an iv mo kp) 0) (jpi py (jZ an iv mo kp) mo 0)) n) := hD
    refine j_loopW (I := fun i : Nat => i ≤ 20) (μ := fun i => 20 - i) (lv := fun i => [(0, .ref (ax 0)), (1, .long (jSum (jZ an iv mo kp) (min i n))), (3, .ref (ax 1)), (4, .int (nI 20)), (5, .int (nI i))]) (w := fun i => ([((ax 0), .inr (1, [.ref (ax 1), .ref (ax 2), .int (nI n), .int (nI mo)])), ((ax 1), .inl (cO, 20, .inr (.inr (.inr (.inr (jao aa n)))))), ((ax 2), .inl (cI, 20, .inl (iv)))] ++ jBl (jbk cI cJ aa an iv (jki kp (jZ an iv mo kp) i) (jpi py (jZ an iv mo kp) mo i)) n)) 0 (Nat.zero_le _) (lv_sub hl [4, 3, 2, 1, 0] rfl) hP hD hS ?_
    intro i H locs ls hI hP hD hS hl IH
    have hl : lv_has ls 7 [(0, .ref (ax 0)), (1, .long (jSum (jZ an iv mo kp) (min i n))), (3, .ref (ax 1)), (4, .int (nI 20)), (5, .int (nI i))] := hl
    have hP : va_P (dC, dI) vwCl ([((ax 0), .inr (1, [.ref (ax 1), .ref (ax 2), .int (nI n), .int (nI mo)])), ((ax 1), .inl (cO, 20, .inr (.inr (.inr (.inr (jao aa n)))))), ((ax 2), .inl (cI, 20, .inl (iv)))] ++ jBl (jbk cI cJ aa an iv (jki kp (jZ an iv mo kp) i) (jpi py (jZ an iv mo kp) mo i)) n) H := hP
    have hD : va_D A ([((ax 0), .inr (1, [.ref (ax 1), .ref (ax 2), .int (nI n), .int (nI mo)])), ((ax 1), .inl (cO, 20, .inr (.inr (.inr (.inr (jao aa n)))))), ((ax 2), .inl (cI, 20, .inl (iv)))] ++ jBl (jbk cI cJ aa an iv (jki kp (jZ an iv mo kp) i) (jpi py (jZ an iv mo kp) mo i)) n) := hD
    have hI : i ≤ 20 := hI
    refine lv_iload hx hb dX1_run_34 (lv_at hl 4 rfl) ?_
    refine lv_iload hx hb dX1_run_36 (lv_at hl 3 rfl) ?_
    refine lv_icmp_ge (tgt := 70) hx hb dX1_run_38 (by decide) (fun c_38 => ?_) (fun c_38 => ?_)
    · have c_38 : 20 ≤ i := (nI_leI (a := 20) (b := i) (by omega) (by omega)).mp c_38
      have hin : min i n = n := by omega
      have e9 : jBl (jbk cI cJ aa an iv (jki kp (jZ an iv mo kp) i) (jpi py (jZ an iv mo kp) mo i)) n = jBl (jbk cI cJ aa an iv (fun j => kp j + jZ an iv mo kp j) (fun j => vp_updL (py j) mo (jZ an iv mo kp j))) n := jBl_congr (fun j hj => by dsimp only [jbk]; rw [jki_b kp _ (show j < i by omega), jpi_b py _ mo (show j < i by omega)])
      rw [e9] at hP hD
      have hP : va_P (dC, dI) vwCl ([((ax 0), .inr (1, [.ref (ax 1), .ref (ax 2), .int (nI n), .int (nI mo)])), ((ax 1), .inl (cO, 20, .inr (.inr (.inr (.inr (jao aa n)))))), ((ax 2), .inl (cI, 20, .inl (iv)))] ++ jBl (jbk cI cJ aa an iv (fun j => kp j + jZ an iv mo kp j) (fun j => vp_updL (py j) mo (jZ an iv mo kp j))) n) H := hP
      have hD : va_D A ([((ax 0), .inr (1, [.ref (ax 1), .ref (ax 2), .int (nI n), .int (nI mo)])), ((ax 1), .inl (cO, 20, .inr (.inr (.inr (.inr (jao aa n)))))), ((ax 2), .inl (cI, 20, .inl (iv)))] ++ jBl (jbk cI cJ aa an iv (fun j => kp j + jZ an iv mo kp j) (fun j => vp_updL (py j) mo (jZ an iv mo kp j))) n) := hD
      refine lv_aload_n hx hb dX1_run_70 rfl (lv_at hl 0 rfl) ?_
      refine lv_dup hx hb dX1_run_71 rfl ?_
      refine va_get (D := (dC, dI)) (ci := 1) (v := .int (nI mo)) (C := RX1) (T := TX1) (N := 4) hx hb hts (fun _ h => List.mem_cons_of_mem _ (List.mem_append_left _ (List.mem_append_left _ (List.mem_append_right _ h)))) hown hK hP 0 rfl rfl 3 (by decide) (hts (.fieldLink RX1 23 "JointAnnuity" "monthThatGoesOn" "I") (List.mem_of_getElem? (i := 3) rfl)) (fun _ h9 => h9) rfl dX1_run_72 ?_
      refine lv_iconst (v := nI 1) hx hb dX1_run_75 (by decide) ?_
      refine lv_iadd hx hb dX1_run_76 ?_
      refine j_i (y := nI (mo + 1)) (nI_add _ _) ?_
      refine va_put (D := (dC, dI)) (ci := 1) (v := .int (nI (mo + 1))) (ty := .int) (C := RX1) (T := TX1) (N := 4) hx hb hts (fun _ h => List.mem_cons_of_mem _ (List.mem_append_left _ (List.mem_append_left _ (List.mem_append_right _ h)))) tyX1 tyX1_ok nmX1 hown hK hP hD hS 0 rfl rfl 3 (by decide) (hts (.fieldLink RX1 23 "JointAnnuity" "monthThatGoesOn" "I") (List.mem_of_getElem? (i := 3) rfl)) (fun _ h9 => h9) rfl (by decide +kernel) rfl rfl (Nat.le_of_ble_eq_true rfl) dX1_run_77 (fun H locs hP hD hS => ?_)
      have hP : va_P (dC, dI) vwCl ([((ax 0), .inr (1, [.ref (ax 1), .ref (ax 2), .int (nI n), .int (nI (mo + 1))])), ((ax 1), .inl (cO, 20, .inr (.inr (.inr (.inr (jao aa n)))))), ((ax 2), .inl (cI, 20, .inl (iv)))] ++ jBl (jbk cI cJ aa an iv (fun j => kp j + jZ an iv mo kp j) (fun j => vp_updL (py j) mo (jZ an iv mo kp j))) n) H := hP
      have hD : va_D A ([((ax 0), .inr (1, [.ref (ax 1), .ref (ax 2), .int (nI n), .int (nI (mo + 1))])), ((ax 1), .inl (cO, 20, .inr (.inr (.inr (.inr (jao aa n)))))), ((ax 2), .inl (cI, 20, .inl (iv)))] ++ jBl (jbk cI cJ aa an iv (fun j => kp j + jZ an iv mo kp j) (fun j => vp_updL (py j) mo (jZ an iv mo kp j))) n) := hD
      refine lv_lload_n hx hb dX1_run_80 rfl (lv_at hl 1 rfl) ?_
      exact W.lret (v := jSum (jZ an iv mo kp) (min i n)) hx hb hr (fun t ht hW => ⟨⟨_, (), rfl, by rw [hin], j_h ht hP⟩, hS.F ht⟩) hS.2.2 dX1_run_81
    · have c_38 : ¬ (20 ≤ i) := fun h => c_38 ((nI_leI (a := 20) (b := i) (by omega) (by omega)).mpr h)
      refine lv_aload_n hx hb dX1_run_41 rfl (lv_at hl 2 rfl) ?_
      refine lv_iload hx hb dX1_run_42 (lv_at hl 4 rfl) ?_
      refine va_aldq hx hb hK hP 1 3 (f := jao aa n) rfl rfl (vp_in_nI (n := i) (N := 20) (by omega) (by omega)) dX1_run_44 ?_
      by_cases hi : i < n
      · refine j_v (y := .ref (aa i 0)) (by rw [nI_clamp (by omega), show jao aa n i = some (aa i 0) from if_pos hi]; rfl) ?_
        refine lv_astore (lv' := [(6, .ref (aa i 0)), (0, .ref (ax 0)), (1, .long (jSum (jZ an iv mo kp) (min i n))), (3, .ref (ax 1)), (4, .int (nI 20)), (5, .int (nI i))]) hx hb dX1_run_45 hl (by decide) rfl (fun ls hl => ?_)
        refine lv_aload hx hb dX1_run_47 (lv_at hl 0 rfl) ?_
        refine lv_ifnull hx hb dX1_run_49 ?_
        refine lv_lload_n hx hb dX1_run_52 rfl (lv_at hl 2 rfl) ?_
        refine lv_aload hx hb dX1_run_53 (lv_at hl 0 rfl) ?_
        refine lv_aload_n hx hb dX1_run_55 rfl (lv_at hl 1 rfl) ?_
        refine va_get (D := (dC, dI)) (ci := 1) (v := .int (nI mo)) (C := RX1) (T := TX1) (N := 4) hx hb hts (fun _ h => List.mem_cons_of_mem _ (List.mem_append_left _ (List.mem_append_left _ (List.mem_append_right _ h)))) hown hK hP 0 rfl rfl 3 (by decide) (hts (.fieldLink RX1 23 "JointAnnuity" "monthThatGoesOn" "I") (List.mem_of_getElem? (i := 3) rfl)) (fun _ h9 => h9) rfl dX1_run_56 ?_
        have hPf : va_P (dC, dI) vwCl [((ax 0), .inr (1, [.ref (ax 1), .ref (ax 2), .int (nI n), .int (nI mo)])), ((ax 1), .inl (cO, 20, .inr (.inr (.inr (.inr (jao aa n)))))), ((ax 2), .inl (cI, 20, .inl (iv))), ((aa i 0), .inr (0, [.int (nI (an i 0)), .int (nI (an i 1)), .int (nI (an i 0 + an i 2)), .int (nI (an i 3)), .int (nI (an i 4)), .int (nI (an i 5)), .int (nI (an i 6)), .int (nI (an i 7)), .ref (aa i 1), .ref (aa i 2), .ref (aa i 3), .ref (aa i 4), .long (kp i)])), ((aa i 1), .inl (cI, 2, .inl (fun j => nI (if j = 0 then an i 8 else an i 9)))), ((aa i 2), .inl (cI, 20, .inl (fun j => nI (jF (an i) iv j)))), ((aa i 3), .inl (cI, 20, .inl (fun j => jC (an i) iv j))), ((aa i 4), .inl (cJ, 240, .inr (.inl (py i))))] H := by
          have h := j_subP hP (j_focus0 hi)
          dsimp only [jbk] at h
          rw [jki_a kp _ (Nat.le_refl i), jpi_a py _ mo (Nat.le_refl i)] at h
          exact h
        have hDf : va_D A [((ax 0), .inr (1, [.ref (ax 1), .ref (ax 2), .int (nI n), .int (nI mo)])), ((ax 1), .inl (cO, 20, .inr (.inr (.inr (.inr (jao aa n)))))), ((ax 2), .inl (cI, 20, .inl (iv))), ((aa i 0), .inr (0, [.int (nI (an i 0)), .int (nI (an i 1)), .int (nI (an i 0 + an i 2)), .int (nI (an i 3)), .int (nI (an i 4)), .int (nI (an i 5)), .int (nI (an i 6)), .int (nI (an i 7)), .ref (aa i 1), .ref (aa i 2), .ref (aa i 3), .ref (aa i 4), .long (kp i)])), ((aa i 1), .inl (cI, 2, .inl (fun j => nI (if j = 0 then an i 8 else an i 9)))), ((aa i 2), .inl (cI, 20, .inl (fun j => nI (jF (an i) iv j)))), ((aa i 3), .inl (cI, 20, .inl (fun j => jC (an i) iv j))), ((aa i 4), .inl (cJ, 240, .inr (.inl (py i))))] := by
          have h := j_subD hD (j_focus0 hi)
          dsimp only [jbk] at h
          rw [jki_a kp _ (Nat.le_refl i), jpi_a py _ mo (Nat.le_refl i)] at h
          exact h
        refine j_gL (As := [.int (nI mo)]) (rest := [.long (jSum (jZ an iv mo kp) (min i n))]) ⟨hx, hb, hml, hown, hts⟩ (c_X0_payIn l dC dI cI cJ cZ cO (aa i) (an i) iv (kp i) (py i) mo (hv i hi) hm) (cwV 1 hts gX1_run_X0_payIn rfl rfl rfl (by decide +kernel) ⟨Nat.le_of_ble_eq_true rfl, Nat.le_of_ble_eq_true rfl⟩) (jW_V hK hPf hDf [3, 4, 5, 6, 7] (by decide) rfl (ci := 0) (q0 := 3) rfl rfl rfl) rfl hl rfl (Nat.le_of_ble_eq_true rfl) dX1_run_59 ⟨Nat.le_of_ble_eq_true rfl, Nat.le_of_ble_eq_true rfl⟩ hS (fun q h => jA_sub hDf [3, 4, 5, 6, 7] rfl q h) (fun r u H2 locs hu hP1 hk2 hS => ?_)
        obtain ⟨hP, hD⟩ := j_backm (X := [((ax 0), .inr (1, [.ref (ax 1), .ref (ax 2), .int (nI n), .int (nI mo)])), ((ax 1), .inl (cO, 20, .inr (.inr (.inr (.inr (jao aa n)))))), ((ax 2), .inl (cI, 20, .inl (iv)))]) (blk := jbk cI cJ aa an iv (jki kp (jZ an iv mo kp) i) (jpi py (jZ an iv mo kp) mo i)) (blk' := jbk cI cJ aa an iv (jki kp (jZ an iv mo kp) (i + 1)) (jpi py (jZ an iv mo kp) mo (i + 1))) (F := [((ax 0), .inr (1, [.ref (ax 1), .ref (ax 2), .int (nI n), .int (nI mo)])), ((ax 1), .inl (cO, 20, .inr (.inr (.inr (.inr (jao aa n)))))), ((ax 2), .inl (cI, 20, .inl (iv))), ((aa i 0), .inr (0, [.int (nI (an i 0)), .int (nI (an i 1)), .int (nI (an i 0 + an i 2)), .int (nI (an i 3)), .int (nI (an i 4)), .int (nI (an i 5)), .int (nI (an i 6)), .int (nI (an i 7)), .ref (aa i 1), .ref (aa i 2), .ref (aa i 3), .ref (aa i 4), .long (kp i)])), ((aa i 1), .inl (cI, 2, .inl (fun j => nI (if j = 0 then an i 8 else an i 9)))), ((aa i 2), .inl (cI, 20, .inl (fun j => nI (jF (an i) iv j)))), ((aa i 3), .inl (cI, 20, .inl (fun j => jC (an i) iv j))), ((aa i 4), .inl (cJ, 240, .inr (.inl (py i))))]) (F' := [((ax 0), .inr (1, [.ref (ax 1), .ref (ax 2), .int (nI n), .int (nI mo)])), ((ax 1), .inl (cO, 20, .inr (.inr (.inr (.inr (jao aa n)))))), ((ax 2), .inl (cI, 20, .inl (iv))), ((aa i 0), .inr (0, [.int (nI (an i 0)), .int (nI (an i 1)), .int (nI (an i 0 + an i 2)), .int (nI (an i 3)), .int (nI (an i 4)), .int (nI (an i 5)), .int (nI (an i 6)), .int (nI (an i 7)), .ref (aa i 1), .ref (aa i 2), .ref (aa i 3), .ref (aa i 4), .long (kp i + jZ an iv mo kp i)])), ((aa i 1), .inl (cI, 2, .inl (fun j => nI (if j = 0 then an i 8 else an i 9)))), ((aa i 2), .inl (cI, 20, .inl (fun j => nI (jF (an i) iv j)))), ((aa i 3), .inl (cI, 20, .inl (fun j => jC (an i) iv j))), ((aa i 4), .inl (cJ, 240, .inr (.inl (vp_updL (py i) mo (jZ an iv mo kp i)))))]) hi hP hD (by dsimp only [jbk]; rw [jki_a kp _ (Nat.le_refl i), jpi_a py _ mo (Nat.le_refl i)]; rfl) [3, 4, 5, 6, 7] [0, 1, 2] rfl rfl [(ax 0), (ax 1), (ax 2), (aa i 0), (aa i 1), (aa i 2), (aa i 3), (aa i 4)] rfl rfl [((ax 0), .inr (1, [.ref (ax 1), .ref (ax 2), .int (nI n), .int (nI mo)])), ((ax 1), .inl (cO, 20, .inr (.inr (.inr (.inr (jao aa n)))))), ((ax 2), .inl (cI, 20, .inl (iv)))] rfl rfl (fun j hj => j_cov _ _ 8 (by decide) j hj) hk2 hP1 (by dsimp only [jbk]; rw [jki_b kp _ (Nat.lt_succ_self i), jpi_b py _ mo (Nat.lt_succ_self i)]; rfl) (fun j hj => by dsimp only [jbk]; rw [jki_n kp _ hj, jpi_n py _ mo hj])
        generalize H2 = H at hP hS ⊢
        subst hu
        refine j_l (y := jZ an iv mo kp i) rfl ?_
        have hP : va_P (dC, dI) vwCl ([((ax 0), .inr (1, [.ref (ax 1), .ref (ax 2), .int (nI n), .int (nI mo)])), ((ax 1), .inl (cO, 20, .inr (.inr (.inr (.inr (jao aa n)))))), ((ax 2), .inl (cI, 20, .inl (iv)))] ++ jBl (jbk cI cJ aa an iv (jki kp (jZ an iv mo kp) (i + 1)) (jpi py (jZ an iv mo kp) mo (i + 1))) n) H := hP
        have hD : va_D A ([((ax 0), .inr (1, [.ref (ax 1), .ref (ax 2), .int (nI n), .int (nI mo)])), ((ax 1), .inl (cO, 20, .inr (.inr (.inr (.inr (jao aa n)))))), ((ax 2), .inl (cI, 20, .inl (iv)))] ++ jBl (jbk cI cJ aa an iv (jki kp (jZ an iv mo kp) (i + 1)) (jpi py (jZ an iv mo kp) mo (i + 1))) n) := hD
        refine lv_ladd hx hb dX1_run_62 ?_
        refine j_l (y := jSum (jZ an iv mo kp) (min (i + 1) n)) (by rw [show min (i + 1) n = i + 1 by omega, show min i n = i by omega]; rfl) ?_
        refine lv_lstore_n (lv' := [(1, .long (jSum (jZ an iv mo kp) (min (i + 1) n))), (6, .ref (aa i 0)), (0, .ref (ax 0)), (3, .ref (ax 1)), (4, .int (nI 20)), (5, .int (nI i))]) hx hb dX1_run_63 rfl hl (by decide) rfl (fun ls hl => ?_)
        refine lv_iinc (v := nI (i + 1)) (lv' := [(5, .int (nI (i + 1))), (1, .long (jSum (jZ an iv mo kp) (min (i + 1) n))), (6, .ref (aa i 0)), (0, .ref (ax 0)), (3, .ref (ax 1)), (4, .int (nI 20))]) hx hb dX1_run_64 hl (k := 5) rfl (by exact nI_add _ 1) (by decide) rfl (fun ls hl => ?_)
        refine lv_goto (tgt := 34) hx hb dX1_run_67 (by decide) ?_
        exact IH (i + 1) H locs ls (show i + 1 ≤ 20 by omega) (show 20 - (i + 1) < 20 - i by omega) hP hD hS (lv_sub hl [3, 1, 4, 5, 0] rfl)
      · refine j_v (y := .null) (by rw [nI_clamp (by omega), show jao aa n i = none from if_neg hi]; rfl) ?_
        refine lv_astoreN (lv' := [(6, .null), (0, .ref (ax 0)), (1, .long (jSum (jZ an iv mo kp) (min i n))), (3, .ref (ax 1)), (4, .int (nI 20)), (5, .int (nI i))]) hx hb dX1_run_45 hl (by decide) rfl (fun ls hl => ?_)
        refine lv_aloadN hx hb dX1_run_47 (lv_at hl 0 rfl) ?_
        refine lv_ifnullN (tgt := 64) hx hb dX1_run_49 (by decide) ?_
        have e9 : jBl (jbk cI cJ aa an iv (jki kp (jZ an iv mo kp) i) (jpi py (jZ an iv mo kp) mo i)) n = jBl (jbk cI cJ aa an iv (jki kp (jZ an iv mo kp) (i + 1)) (jpi py (jZ an iv mo kp) mo (i + 1))) n := jBl_congr (fun j hj => by dsimp only [jbk]; rw [jki_n kp _ (show j ≠ i by omega), jpi_n py _ mo (show j ≠ i by omega)])
        rw [e9] at hP hD
        have hP : va_P (dC, dI) vwCl ([((ax 0), .inr (1, [.ref (ax 1), .ref (ax 2), .int (nI n), .int (nI mo)])), ((ax 1), .inl (cO, 20, .inr (.inr (.inr (.inr (jao aa n)))))), ((ax 2), .inl (cI, 20, .inl (iv)))] ++ jBl (jbk cI cJ aa an iv (jki kp (jZ an iv mo kp) (i + 1)) (jpi py (jZ an iv mo kp) mo (i + 1))) n) H := hP
        have hD : va_D A ([((ax 0), .inr (1, [.ref (ax 1), .ref (ax 2), .int (nI n), .int (nI mo)])), ((ax 1), .inl (cO, 20, .inr (.inr (.inr (.inr (jao aa n)))))), ((ax 2), .inl (cI, 20, .inl (iv)))] ++ jBl (jbk cI cJ aa an iv (jki kp (jZ an iv mo kp) (i + 1)) (jpi py (jZ an iv mo kp) mo (i + 1))) n) := hD
        have hl : lv_has ls 7 [(6, .null), (0, .ref (ax 0)), (1, .long (jSum (jZ an iv mo kp) (min (i + 1) n))), (3, .ref (ax 1)), (4, .int (nI 20)), (5, .int (nI i))] := by rw [show min (i + 1) n = min i n by omega]; exact hl
        refine lv_iinc (v := nI (i + 1)) (lv' := [(5, .int (nI (i + 1))), (6, .null), (0, .ref (ax 0)), (1, .long (jSum (jZ an iv mo kp) (min (i + 1) n))), (3, .ref (ax 1)), (4, .int (nI 20))]) hx hb dX1_run_64 hl (k := 5) rfl (by exact nI_add _ 1) (by decide) rfl (fun ls hl => ?_)
        refine lv_goto (tgt := 34) hx hb dX1_run_67 (by decide) ?_
        exact IH (i + 1) H locs ls (show i + 1 ≤ 20 by omega) (show 20 - (i + 1) < 20 - i by omega) hP hD hS (lv_sub hl [2, 3, 4, 5, 0] rfl)
  · have c_7 : ¬ (mo < 240) := fun h => c_7 ((nI_ltI (a := mo) (b := 240) (by omega) (by omega)).mpr h)
    omega
end
