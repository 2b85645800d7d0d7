section
-- ===== PART A: goes FIRST, ahead of the names: the tables' words, and 'selects' of the private methods out of them =====
/-- a private method of a class that the tables say can be made, by its rows of tables_1 -/
def lw_okq (q : MethodName × Nat) : Prop := (q.1.cls ≠ "java/lang/invoke/MethodHandle" ∧ q.1.cls ≠ "java/lang/invoke/VarHandle") ∧ Cond.instantiable q.1.cls q.2 ∈ tables_1 ∧ Cond.privateMethod q.1 ∈ tables_1 ∧ Cond.instanceMethod q.1 ∈ tables_1
theorem lw_p0 : lw_okq (⟨"java/lang/Throwable", "fillInStackTrace", "(I)Ljava/lang/Throwable;"⟩, 6) := ⟨⟨by decide +kernel, by decide +kernel⟩, List.mem_of_getElem? (i := 90) (by decide +kernel), List.mem_of_getElem? (i := 88) (by decide +kernel), List.mem_of_getElem? (i := 89) (by decide +kernel)⟩
theorem lw_p1 : lw_okq (⟨"JointAnnuity", "find", "(I)LJointAnnuity$Annuity;"⟩, 4) := ⟨⟨by decide +kernel, by decide +kernel⟩, List.mem_of_getElem? (i := 12) (by decide +kernel), List.mem_of_getElem? (i := 210) (by decide +kernel), List.mem_of_getElem? (i := 211) (by decide +kernel)⟩
theorem lw_p2 : lw_okq (⟨"JointAnnuity", "requireStartNotRun", "(LJointAnnuity$Annuity;)V"⟩, 4) := ⟨⟨by decide +kernel, by decide +kernel⟩, List.mem_of_getElem? (i := 12) (by decide +kernel), List.mem_of_getElem? (i := 230) (by decide +kernel), List.mem_of_getElem? (i := 231) (by decide +kernel)⟩
theorem lw_p3 : lw_okq (⟨"JointAnnuity$Annuity", "sharesAhead", "(I)J"⟩, 13) := ⟨⟨by decide +kernel, by decide +kernel⟩, List.mem_of_getElem? (i := 136) (by decide +kernel), List.mem_of_getElem? (i := 290) (by decide +kernel), List.mem_of_getElem? (i := 291) (by decide +kernel)⟩
theorem lw_p4 : lw_okq (⟨"JointAnnuity$Annuity", "shareIn", "(I)J"⟩, 13) := ⟨⟨by decide +kernel, by decide +kernel⟩, List.mem_of_getElem? (i := 136) (by decide +kernel), List.mem_of_getElem? (i := 294) (by decide +kernel), List.mem_of_getElem? (i := 295) (by decide +kernel)⟩
theorem lw_p5 : lw_okq (⟨"JointAnnuity$Annuity", "protectionMonth", "()I"⟩, 13) := ⟨⟨by decide +kernel, by decide +kernel⟩, List.mem_of_getElem? (i := 136) (by decide +kernel), List.mem_of_getElem? (i := 303) (by decide +kernel), List.mem_of_getElem? (i := 304) (by decide +kernel)⟩
theorem lw_p6 : lw_okq (⟨"JointAnnuityModel", "goes", "(ZZZ)Z"⟩, 18) := ⟨⟨by decide +kernel, by decide +kernel⟩, List.mem_of_getElem? (i := 397) (by decide +kernel), List.mem_of_getElem? (i := 471) (by decide +kernel), List.mem_of_getElem? (i := 472) (by decide +kernel)⟩
theorem lw_p7 : lw_okq (⟨"JointAnnuityModel", "isOne", "(I)Z"⟩, 18) := ⟨⟨by decide +kernel, by decide +kernel⟩, List.mem_of_getElem? (i := 397) (by decide +kernel), List.mem_of_getElem? (i := 479) (by decide +kernel), List.mem_of_getElem? (i := 480) (by decide +kernel)⟩
theorem lw_p8 : lw_okq (⟨"JointAnnuityModel", "isAhead", "(I)Z"⟩, 18) := ⟨⟨by decide +kernel, by decide +kernel⟩, List.mem_of_getElem? (i := 397) (by decide +kernel), List.mem_of_getElem? (i := 483) (by decide +kernel), List.mem_of_getElem? (i := 484) (by decide +kernel)⟩
theorem lw_p9 : lw_okq (⟨"JointAnnuityModel", "stands", "(II)Z"⟩, 18) := ⟨⟨by decide +kernel, by decide +kernel⟩, List.mem_of_getElem? (i := 397) (by decide +kernel), List.mem_of_getElem? (i := 515) (by decide +kernel), List.mem_of_getElem? (i := 516) (by decide +kernel)⟩
theorem lw_p10 : lw_okq (⟨"JointAnnuityModel", "begins", "(I)V"⟩, 18) := ⟨⟨by decide +kernel, by decide +kernel⟩, List.mem_of_getElem? (i := 397) (by decide +kernel), List.mem_of_getElem? (i := 519) (by decide +kernel), List.mem_of_getElem? (i := 520) (by decide +kernel)⟩
theorem lw_p11 : lw_okq (⟨"JointAnnuityModel", "grows", "(II)V"⟩, 18) := ⟨⟨by decide +kernel, by decide +kernel⟩, List.mem_of_getElem? (i := 397) (by decide +kernel), List.mem_of_getElem? (i := 523) (by decide +kernel), List.mem_of_getElem? (i := 524) (by decide +kernel)⟩
theorem lw_p12 : lw_okq (⟨"JointAnnuityModel", "upTo", "(II)J"⟩, 18) := ⟨⟨by decide +kernel, by decide +kernel⟩, List.mem_of_getElem? (i := 397) (by decide +kernel), List.mem_of_getElem? (i := 535) (by decide +kernel), List.mem_of_getElem? (i := 536) (by decide +kernel)⟩
theorem lw_p13 : lw_okq (⟨"JointAnnuityModel", "protectedAt", "(I)I"⟩, 18) := ⟨⟨by decide +kernel, by decide +kernel⟩, List.mem_of_getElem? (i := 397) (by decide +kernel), List.mem_of_getElem? (i := 539) (by decide +kernel), List.mem_of_getElem? (i := 540) (by decide +kernel)⟩
theorem lw_p14 : lw_okq (⟨"JointAnnuityModel", "share", "(II)I"⟩, 18) := ⟨⟨by decide +kernel, by decide +kernel⟩, List.mem_of_getElem? (i := 397) (by decide +kernel), List.mem_of_getElem? (i := 543) (by decide +kernel), List.mem_of_getElem? (i := 544) (by decide +kernel)⟩
theorem lw_p15 : lw_okq (⟨"JointAnnuityModel", "isAlive", "(III)Z"⟩, 18) := ⟨⟨by decide +kernel, by decide +kernel⟩, List.mem_of_getElem? (i := 397) (by decide +kernel), List.mem_of_getElem? (i := 547) (by decide +kernel), List.mem_of_getElem? (i := 548) (by decide +kernel)⟩
def lw_privs_1 : List (MethodName × Nat) := [(⟨"java/lang/Throwable", "fillInStackTrace", "(I)Ljava/lang/Throwable;"⟩, 6), (⟨"JointAnnuity", "find", "(I)LJointAnnuity$Annuity;"⟩, 4), (⟨"JointAnnuity", "requireStartNotRun", "(LJointAnnuity$Annuity;)V"⟩, 4), (⟨"JointAnnuity$Annuity", "sharesAhead", "(I)J"⟩, 13), (⟨"JointAnnuity$Annuity", "shareIn", "(I)J"⟩, 13), (⟨"JointAnnuity$Annuity", "protectionMonth", "()I"⟩, 13), (⟨"JointAnnuityModel", "goes", "(ZZZ)Z"⟩, 18), (⟨"JointAnnuityModel", "isOne", "(I)Z"⟩, 18), (⟨"JointAnnuityModel", "isAhead", "(I)Z"⟩, 18), (⟨"JointAnnuityModel", "stands", "(II)Z"⟩, 18), (⟨"JointAnnuityModel", "begins", "(I)V"⟩, 18), (⟨"JointAnnuityModel", "grows", "(II)V"⟩, 18), (⟨"JointAnnuityModel", "upTo", "(II)J"⟩, 18), (⟨"JointAnnuityModel", "protectedAt", "(I)I"⟩, 18), (⟨"JointAnnuityModel", "share", "(II)I"⟩, 18), (⟨"JointAnnuityModel", "isAlive", "(III)Z"⟩, 18)]
theorem lw_r1 : ∀ q ∈ lw_privs_1, lw_okq q := List.forall_mem_cons.mpr ⟨lw_p0, List.forall_mem_cons.mpr ⟨lw_p1, List.forall_mem_cons.mpr ⟨lw_p2, List.forall_mem_cons.mpr ⟨lw_p3, List.forall_mem_cons.mpr ⟨lw_p4, List.forall_mem_cons.mpr ⟨lw_p5, List.forall_mem_cons.mpr ⟨lw_p6, List.forall_mem_cons.mpr ⟨lw_p7, List.forall_mem_cons.mpr ⟨lw_p8, List.forall_mem_cons.mpr ⟨lw_p9, List.forall_mem_cons.mpr ⟨lw_p10, List.forall_mem_cons.mpr ⟨lw_p11, List.forall_mem_cons.mpr ⟨lw_p12, List.forall_mem_cons.mpr ⟨lw_p13, List.forall_mem_cons.mpr ⟨lw_p14, List.forall_mem_cons.mpr ⟨lw_p15, fun _ h => absurd h List.not_mem_nil⟩⟩⟩⟩⟩⟩⟩⟩⟩⟩⟩⟩⟩⟩⟩⟩
theorem lw_p16 : lw_okq (⟨"JointAnnuityModel", "owed", "(I)J"⟩, 18) := ⟨⟨by decide +kernel, by decide +kernel⟩, List.mem_of_getElem? (i := 397) (by decide +kernel), List.mem_of_getElem? (i := 572) (by decide +kernel), List.mem_of_getElem? (i := 573) (by decide +kernel)⟩
def lw_privs_2 : List (MethodName × Nat) := [(⟨"JointAnnuityModel", "owed", "(I)J"⟩, 18)]
theorem lw_r2 : ∀ q ∈ lw_privs_2, lw_okq q := List.forall_mem_cons.mpr ⟨lw_p16, fun _ h => absurd h List.not_mem_nil⟩
def lw_privs : List (MethodName × Nat) := lw_privs_1 ++ (lw_privs_2)
def lw_tbl : List Cond := k2_sels lw_privs ++ tables_1
theorem lw_privs_ok : ∀ q ∈ lw_privs, lw_okq q := by
  show ∀ q ∈ lw_privs_1 ++ (lw_privs_2), lw_okq q
  exact List.forall_mem_append.mpr ⟨lw_r1, lw_r2⟩
-- ===== end of PART A; then your names; then what follows =====
end
section
/-! ===== BEGIN words of one list among another's, by their places ===== -/
theorem goodIn_r {big : List Cond} (ws : List Cond) (ps : List Nat) (hp : ws = ps.filterMap (fun i => big[i]?)) (h : ws.all goodWord = true) : GoodIn big ws := by
  intro w hw
  have h1 := List.all_eq_true.mp h w hw
  rw [hp] at hw
  obtain ⟨i, -, hi⟩ := List.mem_filterMap.mp hw
  have hm : w ∈ big := by first | exact List.mem_of_getElem? hi | exact List.getElem?_mem hi
  exact ⟨hm, good_of_word h1⟩
theorem goodIn_app {big a b : List Cond} (ha : GoodIn big a) (hb : GoodIn big b) : GoodIn big (a ++ b) := fun w h => (List.mem_append.mp h).elim (ha w) (hb w)
theorem goodIn_ca {big a b : List Cond} {c : Cond} (ha : GoodIn big (c :: a)) (hb : GoodIn big b) : GoodIn big (c :: (a ++ b)) := fun w h => (List.mem_cons.mp h).elim (fun e => ha w (List.mem_cons.mpr (Or.inl e))) (fun h => (List.mem_append.mp h).elim (fun h => ha w (List.mem_cons.mpr (Or.inr h))) (hb w))
theorem goodIn_sub {big ws : List Cond} (hm : ∀ w ∈ ws, w ∈ big) (h : ws.all goodWord = true) : GoodIn big ws := fun w hw => ⟨hm w hw, good_of_word (List.all_eq_true.mp h w hw)⟩
/-! ===== END ===== -/

/-! ===== BEGIN exceptions that leave a method, and their catching by the caller (launches without stack traces) ===== -/
section VXA
/-! The laws vx_back, vx_callV, vx_callS, vx_callSW, vx_throw0, vx_throwS follow proofs of the library, with one case more: JvmDerived/Free/Laws.lean (Back.of_free), Shelf42/LK1.lean (callV, callS), Shelf/KitTraced.lean (throwNew0V, throwNewS). -/
/-- where a method has thrown q: the class by its name, the cell, what was written, the world -/
def vx_T (XC : String → State → State → Prop) (st : State) (q : Addr) (t : State) (mc ms : Nat) (free : Addr → Prop) : Prop :=
  ∃ (E : String) (ce : Cell) (L : List Loc), XC E st t ∧ t.heap[q]? = some ce ∧ ce.vm = .none ∧ st.vm.findClass E = some ce.cls ∧ st.WarmedH t.vm ∧ st.sameButNew ({ t with vm := st.vm } : State) L mc ms ∧ ∀ z ∈ L, free z.base
def vx_Q (Qc : Array Value → State → Outcome → State → Prop) (XC : String → State → State → Prop) (mc ms : Nat) (free : Addr → Prop) : Array Value → State → Outcome → State → Prop := fun a st o t =>
  (Qc a st o t ∧ ∃ L, FrameEnd st o t L mc ms ∧ ∀ q ∈ L, free q.base) ∨ ∃ q, o = .threw q ∧ vx_T XC st q t mc ms free
/-- a callee that returns or throws -/
def vx_Met (l : Launch) (y : MethodName) (ws : List Cond) (rm : Room) (Pc : Array Value → State → Prop) (Qc : Array Value → State → Outcome → State → Prop) (XC : String → State → State → Prop) (mc ms : Nat) (free : Addr → Prop) : Prop :=
  MetFree l y (headSpec ws rm) Pc (fun _ _ _ _ _ => True) (vx_Q Qc XC mc ms free)
def vx_Post (XC : String → State → State → Prop) (mc ms : Nat) (free : Addr → Prop) : Pt → Array Value → Addr → Pt → Prop := fun A a q B =>
  ∃ (g : JFrame) (mk : MethodId) (t : State) (L : List Loc) (E : String) (ce : Cell), B.U.heap = t.heap ∧ B.U.vm = t.vm ∧ XC E (A.U.calling g mk a) t ∧ t.heap[q]? = some ce ∧ ce.vm = .none ∧ A.U.vm.findClass E = some ce.cls ∧ B.locs = A.locs ++ L ∧ (∀ z ∈ L, free z.base) ∧ B.cells = A.cells + mc ∧ B.slots = A.slots + ms
def vx_Back (l : Launch) (R : Room) (p : Program) (e : Env) (below : List Frame) (s : State) (sargs : Array Value) (y : MethodName) (len W9 : Nat)
    (Pre : Pt → Array Value → Prop) (Post : Pt → Array Value → Option Value → Pt → Prop) (PostX : Pt → Array Value → Addr → Pt → Prop) : Prop :=
  ∀ (m : MethodId) (meth : Method) (c : Code) (A : Pt) (g : JFrame) (ig : Instr) (mk : MethodId) (a : Array Value),
    Stand p l e R s m sargs below meth c A.U A.locs A.cells A.slots → g.method = m → g.locals.size = c.maxLocals → decode c.code g.pc = .ok (ig, len) →
    2 * g.monitorRoom + (g.stack.map fun v => v.category).sum ≤ W9 → A.U.methodNamed? y = some mk → Pre A a →
    (∃ (v : Option Value) (B : Pt), Stand p l e R s m sargs below meth c B.U B.locs B.cells B.slots ∧ Post A a v B ∧
      Steps p.tables e below (doInvoke e (A.U.setTop g) [] mk a).1 (B.U.setTop { g with pc := g.pc + len, stack := v.toList ++ g.stack })) ∨
    (∃ (q : Addr) (B : Pt), Stand p l e R s m sargs below meth c B.U B.locs B.cells B.slots ∧ PostX A a q B ∧
      Steps p.tables e below (doInvoke e (A.U.setTop g) [] mk a).1 ((B.U.setTop g).pushFrame (.throwing q)))
section Payer
variable {l : Launch} {R : Room} {p : Program} {e : Env} {below : List Frame} {s : State} {sargs : Array Value} {y : MethodName} {len W9 : Nat}
theorem vx_back {ws : List Cond} {rm : Room} {Pc : Array Value → State → Prop} {Qc : Array Value → State → Outcome → State → Prop} {XC : String → State → State → Prop} {mc ms : Nat} {free : Addr → Prop} {bytes : ByteArray} {maxL : Nat} {ret : Option FieldType}
    (hM : vx_Met l y ws rm Pc Qc XC mc ms free) (hblind : FrameBlind Pc) (hrc : rm.cells = mc) (hrs : rm.slots = ms)
    (hframes : rm.frames + 1 ≤ R.frames) (hlocals : W9 + (maxL + 11) + rm.locals ≤ R.locals)
    (hws : ∀ w ∈ ws, ∀ a' U, s.WarmedH U.vm → w.before a' U = true) (hcode : Cond.code y bytes maxL ret ∈ ws) (hinit : ∀ a' U, s.WarmedH U.vm → (Cond.initialized y.cls).before a' U = true) :
    vx_Back l R p e below s sargs y len W9 (PreOf R mc ms Pc) (PostOf Qc mc ms free) (vx_Post XC mc ms free) := by
  intro m meth c A g ig mk a X hg hsize hdg hW hn hp
  have h1 : (headSpec ws rm).pre.before a A.U = true := atoms_intro fun w hw => hws w hw _ _ X.warmed
  have h2 : (Cond.code y bytes maxL ret).before a A.U = true := hws _ hcode _ _ X.warmed
  have h3 : (Cond.initialized y.cls).before a A.U = true := hinit _ _ X.warmed
  have h4 : A.cells + (headSpec ws rm).room.cells ≤ R.cells := by rw [show (headSpec ws rm).room.cells = mc from hrc]; exact hp.1
  have h5 : A.slots + (headSpec ws rm).room.slots ≤ R.slots := by rw [show (headSpec ws rm).room.slots = ms from hrs]; exact hp.2.1
  have hPc : Pc a (A.U.calling g mk a) := hblind _ _ _ _ hp.2.2
  obtain ⟨U, Ls, c0, s0⟩ := A
  dsimp only [Pt.U, Pt.locs, Pt.cells, Pt.slots] at h1 h2 h3 h4 h5 X hn hPc ⊢
  obtain ⟨methY, cY, hmY, hcY, -, hlY, -, -, -, -⟩ := Cond.code_spec hn h2
  obtain ⟨kY, hkY, -⟩ := className_of_methodNamed hn
  have hinitY : kY.init = .initialized := Cond.initialized_spec (findClass_of_methodNamed hn) hkY h3
  have h : At U g.method c below := by rw [hg]; exact X.here
  have hlocals9 : W9 + (maxL + 11) + (headSpec ws rm).room.locals ≤ R.locals := hlocals
  have happ : (headSpec ws rm).appliesLoose y e.platform (U.calling g mk a) = true :=
    Spec.appliesLoose_calling (g := g) h hdg hn hkY hinitY
      (X.room_calling (g := g) (R' := (headSpec ws rm).room) hsize hmY hcY hframes (by rw [hlY]; omega) h4 h5) h1
  obtain ⟨mid, hmid⟩ := h.above
  have hfr : (U.setTop g).frames = (.java g :: mid) ++ below := by rw [State.frames_setTop' g h.top, hmid]; rfl
  obtain ⟨o, s₂, hsteps, -, hend, hq⟩ := Steps.callFree hM p X.admits X.cas X.clock (acts := []) hfr happ hPc trivial
  have hq' : vx_Q Qc XC mc ms free a (U.calling g mk a) o s₂ := hq
  rw [State.frames_setTop' g h.top] at hend
  obtain ⟨g₀, hg0⟩ := Option.isSome_iff_exists.mp h.top
  obtain ⟨r, hr⟩ := State.topJava?_eq_some.mp hg0
  have hr' : (({ U with heap := s₂.heap, slotsUsed := s₂.slotsUsed } : State).setVm s₂.vm).frames = .java g₀ :: r := hr
  rcases hq' with ⟨hqc, L, hfe, hL⟩ | ⟨q, rfl, E, ce, L, hx, hce, hcv, hcl, hW₂, hsm, hL⟩
  · obtain ⟨⟨v, rfl⟩, hW₂, e2, q2, q3, q4, q5, q6⟩ := id hfe
    have e3 : s₂ = ({ (U.calling g mk a).setFrames s₂.frames with heap := s₂.heap, slotsUsed := s₂.slotsUsed } : State).setVm s₂.vm := by
      have : s₂ = ({ s₂ with vm := (U.calling g mk a).vm } : State).setVm s₂.vm := rfl
      rw [e2] at this
      exact this
    obtain ⟨c₂, i₂, len₂, hc₂, hd₂, hf₂⟩ := hend
    have hW' : U.WarmedH s₂.vm := hW₂
    have hcc : c₂ = c := by
      have h1 : s₂.code? g.method = U.code? g.method := by
        rw [State.code?_eq, State.code?_eq, hW'.alike.method?]
      exact Option.some.inj (hc₂.symm.trans (h1.trans h.code))
    subst hcc
    have hlen : len₂ = len := by rw [hdg] at hd₂; cases hd₂; rfl
    subst hlen
    have hs₂ : s₂ = (({ U with heap := s₂.heap, slotsUsed := s₂.slotsUsed } : State).setVm s₂.vm).setTop { g with pc := g.pc + len₂, stack := v.toList ++ g.stack } := by
      refine e3.trans ?_
      rw [hf₂, State.calling_eq h.top, State.setFrames_setFrames, State.setTop_of_frames _ hr', hr]
      rfl
    have hsame : U.sameButNew ({ U with heap := s₂.heap, slotsUsed := s₂.slotsUsed } : State) L mc ms := by
      refine ⟨?_, q2, q3, q4, q5, q6⟩
      obtain ⟨t, ht, -⟩ := State.frames_cons hr
      show ({ U with heap := s₂.heap, slotsUsed := s₂.slotsUsed } : State) = { U.setFrames U.frames with heap := s₂.heap, slotsUsed := s₂.slotsUsed }
      rw [State.setFrames_self ht]
    subst hg
    refine Or.inl ⟨v, ⟨(({ U with heap := s₂.heap, slotsUsed := s₂.slotsUsed } : State).setVm s₂.vm), Ls ++ L, c0 + mc, s0 + ms⟩,
      ⟨X.admits, X.cas, X.clock, X.frames, X.room, X.hears, X.method, X.code, (X.here.setHeapUsed s₂.heap s₂.slotsUsed).setVm hW'.alike, X.tail, State.WarmedH.trans X.warmed hW', X.limits, X.bytes, X.same.trans (hsame.setVm s.vm)⟩,
      ⟨g, mk, s₂, L, rfl, rfl, hqc, rfl, hL, rfl, rfl⟩, ?_⟩
    show Steps p.tables e below _ ((({ U with heap := s₂.heap, slotsUsed := s₂.slotsUsed } : State).setVm s₂.vm).setTop { g with pc := g.pc + len₂, stack := v.toList ++ g.stack })
    rw [← hs₂]
    exact hsteps
  · obtain ⟨e2, q2, q3, q4, q5, q6⟩ := id hsm
    have e3 : s₂ = ({ (U.calling g mk a).setFrames s₂.frames with heap := s₂.heap, slotsUsed := s₂.slotsUsed } : State).setVm s₂.vm := by
      have : s₂ = ({ s₂ with vm := (U.calling g mk a).vm } : State).setVm s₂.vm := rfl
      rw [e2] at this
      exact this
    have hf₂ : s₂.frames = .throwing q :: .java g :: U.frames.tail := hend
    have hW' : U.WarmedH s₂.vm := hW₂
    have hs₂ : s₂ = ((({ U with heap := s₂.heap, slotsUsed := s₂.slotsUsed } : State).setVm s₂.vm).setTop g).pushFrame (.throwing q) := by
      refine e3.trans ?_
      rw [hf₂, State.calling_eq h.top, State.setFrames_setFrames, State.pushFrame, State.frames_setTop _ hr', State.setTop_of_frames _ hr', State.setFrames_setFrames, hr]
      rfl
    have hsame : U.sameButNew ({ U with heap := s₂.heap, slotsUsed := s₂.slotsUsed } : State) L mc ms := by
      refine ⟨?_, q2, q3, q4, q5, q6⟩
      obtain ⟨t, ht, -⟩ := State.frames_cons hr
      show ({ U with heap := s₂.heap, slotsUsed := s₂.slotsUsed } : State) = { U.setFrames U.frames with heap := s₂.heap, slotsUsed := s₂.slotsUsed }
      rw [State.setFrames_self ht]
    subst hg
    refine Or.inr ⟨q, ⟨(({ U with heap := s₂.heap, slotsUsed := s₂.slotsUsed } : State).setVm s₂.vm), Ls ++ L, c0 + mc, s0 + ms⟩,
      ⟨X.admits, X.cas, X.clock, X.frames, X.room, X.hears, X.method, X.code, (X.here.setHeapUsed s₂.heap s₂.slotsUsed).setVm hW'.alike, X.tail, State.WarmedH.trans X.warmed hW', X.limits, X.bytes, X.same.trans (hsame.setVm s.vm)⟩,
      ⟨g, mk, s₂, L, E, ce, rfl, rfl, hx, hce, hcv, hcl, rfl, hL, rfl, rfl⟩, ?_⟩
    show Steps p.tables e below _ (((({ U with heap := s₂.heap, slotsUsed := s₂.slotsUsed } : State).setVm s₂.vm).setTop g).pushFrame (.throwing q))
    rw [← hs₂]
    exact hsteps
end Payer
section Calls
variable {p : Program} {l : Launch} {e : Env} {R : Room} {s : State} {m : MethodId} {args : Array Value} {below : List Frame} {meth : Method} {c : Code} {T : State} {locs : List Loc} {cells slots : Nat}
theorem vx_callV (X : Stand p l e R s m args below meth c T locs cells slots) (hexec : p.tables.exec = Jvm.exec) {own C : String} {index : Nat} {y : MethodName} {bytes : ByteArray} {maxL : Nat} {ret : Option FieldType}
    (hown : s.vm.findClass own = some m.cls) (hlink : (Cond.methodLink own index y).before args s = true) (hinst : (Cond.instanceMethod y).before args s = true) (hsel : (Cond.selects C y y).before args s = true)
    (hcode : (Cond.code y bytes maxL ret).before args s = true) (hy : y.cls ≠ "java/lang/invoke/MethodHandle" ∧ y.cls ≠ "java/lang/invoke/VarHandle")
    {W9 : Nat} {Pre : Pt → Array Value → Prop} {Post : Pt → Array Value → Option Value → Pt → Prop} {PostX : Pt → Array Value → Addr → Pt → Prop} (hK : vx_Back l R p e below s args y 3 W9 Pre Post PostX)
    {b : Addr} {cellB : Cell} (hcell : T.heap[b]? = some cellB) (hobj : cellB.vm.isStatics = false) (hcls : s.vm.findClass C = some cellB.cls)
    {g : JFrame} (hg : g.method = m) (hsize : g.locals.size = c.maxLocals) {argsL rest : List Value} (hlen : ∀ sig, parseMethodDescriptor y.desc = some sig → argsL.length = sig.parameters.length)
    (hstack : g.stack = argsL.reverse ++ .ref b :: rest) (hW : 2 * g.monitorRoom + (rest.map fun v => v.category).sum ≤ W9) (hdg : decode c.code g.pc = .ok (.invokevirtual index, 3))
    (hpre : ∀ vm₁, s.WarmedH vm₁ → Pre ⟨T.setVm vm₁, locs, cells, slots⟩ (Value.ref b :: argsL).toArray) :
    (∃ (v : Option Value) (vm₁ : Vm) (B : Pt), s.WarmedH vm₁ ∧ Stand p l e R s m args below meth c B.U B.locs B.cells B.slots ∧ Post ⟨T.setVm vm₁, locs, cells, slots⟩ (Value.ref b :: argsL).toArray v B ∧
      ∀ target, Steps p.tables e below (B.U.setTop { g with pc := g.pc + 3, stack := v.toList ++ rest }) target → Steps p.tables e below (T.setTop g) target) ∨
    (∃ (q : Addr) (vm₁ : Vm) (B : Pt), s.WarmedH vm₁ ∧ Stand p l e R s m args below meth c B.U B.locs B.cells B.slots ∧ PostX ⟨T.setVm vm₁, locs, cells, slots⟩ (Value.ref b :: argsL).toArray q B ∧
      Steps p.tables e below (T.setTop g) ((B.U.setTop { g with stack := rest }).pushFrame (.throwing q))) := by
  obtain ⟨mk, methM, hnamed, hmethM, hstM, habM⟩ := Cond.instanceMethod_spec hinst
  obtain ⟨methM', cM, hmethM', -, -, -, -, -, -, hsigM⟩ := Cond.code_spec hnamed hcode
  cases hmethM.symm.trans hmethM'
  obtain ⟨c2, r2, m2, q1, q2, q3, q4, kP, hkP, hkPi⟩ := Cond.selects_spec hsel
  cases hcls.symm.trans q1
  cases (State.methodFound?_of_named hnamed hy).symm.trans q2
  cases hnamed.symm.trans q3
  have hselP : selectMethod e.platform s.vm cellB.cls mk = .method mk := by rw [Launch.admits_selectMethod X.admits]; exact q4
  obtain ⟨vm₁, X₁, hstep₁⟩ := X.invokevirtual hexec hown hlink hnamed hmethM hstM hkP hkPi hy (a := b) (cell := cellB) hcell
    (fun z h => by rw [h] at hobj; cases hobj) hselP hmethM habM hkP hkPi (g := g) hg (argsL := argsL) (rest := rest) (hlen _ hsigM) hstack hdg
  rcases hK m meth c ⟨T.setVm vm₁, locs, cells, slots⟩ { g with stack := rest } (.invokevirtual index) mk (Value.ref b :: argsL).toArray X₁ hg hsize hdg hW (X₁.named hnamed) (hpre vm₁ X₁.warmed) with ⟨v, B, X', hpost, hsteps⟩ | ⟨q, B, X', hpost, hsteps⟩
  · exact Or.inl ⟨v, vm₁, B, X₁.warmed, X', hpost, fun target h => hstep₁ _ fun acts => by rw [doInvoke_state]; exact hsteps.trans h⟩
  · exact Or.inr ⟨q, vm₁, B, X₁.warmed, X', hpost, hstep₁ _ fun acts => by rw [doInvoke_state]; exact hsteps⟩
theorem vx_callS (X : Stand p l e R s m args below meth c T locs cells slots) (hexec : p.tables.exec = Jvm.exec) {own : String} {index : Nat} {y : MethodName} {bytes : ByteArray} {maxL : Nat} {ret : Option FieldType}
    (hown : s.vm.findClass own = some m.cls) (hlink : (Cond.methodLink own index y).before args s = true) (hstat : (Cond.static y).before args s = true) (hinit : (Cond.initialized y.cls).before args s = true)
    (hcode : (Cond.code y bytes maxL ret).before args s = true) (hy : y.cls ≠ "java/lang/invoke/MethodHandle" ∧ y.cls ≠ "java/lang/invoke/VarHandle")
    {W9 : Nat} {Pre : Pt → Array Value → Prop} {Post : Pt → Array Value → Option Value → Pt → Prop} {PostX : Pt → Array Value → Addr → Pt → Prop} (hK : vx_Back l R p e below s args y 3 W9 Pre Post PostX)
    {g : JFrame} (hg : g.method = m) (hsize : g.locals.size = c.maxLocals) {argsL rest : List Value} (hlen : ∀ sig, parseMethodDescriptor y.desc = some sig → argsL.length = sig.parameters.length)
    (hstack : g.stack = argsL.reverse ++ rest) (hW : 2 * g.monitorRoom + (rest.map fun v => v.category).sum ≤ W9) (hdg : decode c.code g.pc = .ok (.invokestatic index, 3))
    (hpre : ∀ vm₁, s.WarmedH vm₁ → Pre ⟨T.setVm vm₁, locs, cells, slots⟩ argsL.toArray) :
    (∃ (v : Option Value) (vm₁ : Vm) (B : Pt), s.WarmedH vm₁ ∧ Stand p l e R s m args below meth c B.U B.locs B.cells B.slots ∧ Post ⟨T.setVm vm₁, locs, cells, slots⟩ argsL.toArray v B ∧
      ∀ target, Steps p.tables e below (B.U.setTop { g with pc := g.pc + 3, stack := v.toList ++ rest }) target → Steps p.tables e below (T.setTop g) target) ∨
    (∃ (q : Addr) (vm₁ : Vm) (B : Pt), s.WarmedH vm₁ ∧ Stand p l e R s m args below meth c B.U B.locs B.cells B.slots ∧ PostX ⟨T.setVm vm₁, locs, cells, slots⟩ argsL.toArray q B ∧
      Steps p.tables e below (T.setTop g) ((B.U.setTop { g with stack := rest }).pushFrame (.throwing q))) := by
  obtain ⟨mk, hnamed⟩ := Cond.code_named hcode
  obtain ⟨methM, cM, hmethM, -, -, -, -, -, -, hsigM⟩ := Cond.code_spec hnamed hcode
  have hstatic : methM.isStatic = true := Cond.static_spec hnamed hmethM hstat
  obtain ⟨kP, hkP, -⟩ := className_of_methodNamed hnamed
  have hinitP : kP.init = .initialized := Cond.initialized_spec (findClass_of_methodNamed hnamed) hkP hinit
  obtain ⟨vm₁, X₁, hstep₁⟩ := X.invokestatic hexec hown hlink hnamed hmethM hstatic hkP hinitP hy (g := g) hg (argsL := argsL) (rest := rest) (hlen _ hsigM) hstack hdg
  rcases hK m meth c ⟨T.setVm vm₁, locs, cells, slots⟩ { g with stack := rest } (.invokestatic index) mk argsL.toArray X₁ hg hsize hdg hW (X₁.named hnamed) (hpre vm₁ X₁.warmed) with ⟨v, B, X', hpost, hsteps⟩ | ⟨q, B, X', hpost, hsteps⟩
  · exact Or.inl ⟨v, vm₁, B, X₁.warmed, X', hpost, fun target h => hstep₁ _ fun acts => by rw [doInvoke_state]; exact hsteps.trans h⟩
  · exact Or.inr ⟨q, vm₁, B, X₁.warmed, X', hpost, hstep₁ _ fun acts => by rw [doInvoke_state]; exact hsteps⟩
end Calls
theorem vx_cls {s : State} {T : State} {vm₁ : Vm} {E : String} {k : ClassId} (hW : s.WarmedH vm₁) (h : (T.setVm vm₁).vm.findClass E = some k) : s.vm.findClass E = some k := by
  have h1 : vm₁.findClass E = some k := h
  rw [hW.alike.findClass] at h1
  exact h1
/-- the method's frame g, with q thrown over it -/
def vx_W (p : Program) (l : Launch) (e : Env) (R : Room) (s : State) (m : MethodId) (args : Array Value) (below : List Frame) (meth : Method) (c : Code) (H : Heap) (locs : List Loc) (cells slots : Nat) (Q : State → Prop) (g : JFrame) (q : Addr) : Prop :=
  ∀ T : State, T.heap = H → Stand p l e R s m args below meth c T locs cells slots → ∃ t, Steps p.tables e below ((T.setTop g).pushFrame (.throwing q)) t ∧ Q t
def vx_Run (p : Program) (l : Launch) (e : Env) (R : Room) (s : State) (m : MethodId) (args : Array Value) (below : List Frame) (meth : Method) (c : Code) (H : Heap) (locs : List Loc) (cells slots mc ms : Nat) (g : JFrame) (rest : List Value) (Qa : State → Outcome → State → Prop) (XC : String → State → State → Prop) (free : Addr → Prop) : Prop :=
  ∀ T : State, T.heap = H → Stand p l e R s m args below meth c T locs cells slots →
    (∃ (v : Option Value) (st₀ t T' : State) (L : List Loc), st₀.heap = H ∧ Stand p l e R s m args below meth c T' (locs ++ L) (cells + mc) (slots + ms) ∧ (∀ q ∈ L, free q.base) ∧ T'.heap = t.heap ∧ T'.vm = t.vm ∧ Qa st₀ (.returned v) t ∧
      Goes p e below T g T' { g with pc := g.pc + 3, stack := v.toList ++ rest }) ∨
    (∃ (q : Addr) (st₀ t T' : State) (L : List Loc) (E : String) (ce : Cell), st₀.heap = H ∧ Stand p l e R s m args below meth c T' (locs ++ L) (cells + mc) (slots + ms) ∧ (∀ z ∈ L, free z.base) ∧ T'.heap = t.heap ∧ T'.vm = t.vm ∧ XC E st₀ t ∧ t.heap[q]? = some ce ∧ ce.vm = .none ∧ s.vm.findClass E = some ce.cls ∧
      Steps p.tables e below (T.setTop g) ((T'.setTop { g with stack := rest }).pushFrame (.throwing q)))
def vx_X {S : Type} (px : S → Prop) (B : String → S → State → Prop) (A : Nat → Prop) : String → State → State → Prop := fun E st t => ∃ u : S, px u ∧ B E u t ∧ va_F A st t
section Runs
variable {p : Program} {l : Launch} {e : Env} {R : Room} {s : State} {m : MethodId} {args : Array Value} {below : List Frame} {meth : Method} {c : Code} {H : Heap} {locs : List Loc} {cells slots : Nat}
variable {y : MethodName} {bytes cc : ByteArray} {maxL nL mc ms n index : Nat} {ret : Option FieldType} {ws : List Cond} {rm : Room} {Pc : Array Value → State → Prop} {Qc : Array Value → State → Outcome → State → Prop} {XC : String → State → State → Prop} {free : Addr → Prop} {Ts : List Cond} {own C : String} {b : Addr} {As rest : List Value} {g : JFrame}
theorem vx_callBack (cb : CallB R s args own index y bytes maxL ret ws rm mc ms n) (hM : vx_Met l y ws rm Pc Qc XC mc ms free) (hbl : FrameBlind Pc) : vx_Back l R p e below s args y 3 8 (PreOf R mc ms Pc) (PostOf Qc mc ms free) (vx_Post XC mc ms free) := by
  obtain ⟨hrc, hrs, hfr, hlo, hws, hcw, -, hini, -⟩ := cb
  exact vx_back (bytes := bytes) (maxL := maxL) (ret := ret) hM hbl hrc hrs hfr hlo hws hcw (fun a' U hW => word_at hW (Or.inl (by first | rfl | simp [Cond.onTables, Cond.keeps, Cond.steady])) hini)
theorem vx_runV (S : CallFix p m c cc nL s args Ts own) (hM : vx_Met l y ws rm Pc Qc XC mc ms free) (cw : CallW R s args own C index y bytes maxL ret ws rm mc ms n) (hp : PreV s H C b Pc As)
    (hg : g.method = m) (hn : As.length = n) (hsize : g.locals.size = nL) (hstack : g.stack = As.reverse ++ .ref b :: rest) (hW : 2 * g.monitorRoom + (rest.map fun v => v.category).sum ≤ 8) (hdg : decode cc g.pc = .ok (.invokevirtual index, 3)) (hf : cells + mc ≤ R.cells ∧ slots + ms ≤ R.slots) :
    vx_Run p l e R s m args below meth c H locs cells slots mc ms g rest (Qc (Value.ref b :: As).toArray) XC free := by
  have hK : vx_Back l R p e below s args y 3 8 (PreOf R mc ms Pc) (PostOf Qc mc ms free) (vx_Post XC mc ms free) := vx_callBack cw.1 hM hp.1
  obtain ⟨⟨-, -, -, -, -, -, hcode, -, hy, hlen, hl⟩, hin, hse⟩ := cw
  obtain ⟨hx, hb, hml, ho, -⟩ := S
  obtain ⟨-, ⟨cellB, hcB, hoB, hclB⟩, hPc⟩ := hp
  intro T hT X
  rcases vx_callV X hx (C := C) (bytes := bytes) (maxL := maxL) (ret := ret) ho hl hin hse hcode hy hK (by rw [hT]; exact hcB) hoB hclB hg (hsize.trans hml.symm) (argsL := As) (rest := rest) (fun sig h => hn.trans (hlen sig h)) hstack hW (by rw [hb]; exact hdg)
    (fun vm₁ hW₁ => ⟨hf.1, hf.2, hPc (T.setVm vm₁) hT hW₁⟩) with ⟨v, vm₁, ⟨U', l2, c2, s2⟩, hW₁, X', ⟨g', mk, t, L, e1, e2, hq, h1, hL, h2, h3⟩, st⟩ | ⟨q, vm₁, ⟨U', l2, c2, s2⟩, hW₁, X', ⟨g', mk, t, L, E, ce, e1, e2, hq, hce, hcv, hcl, h1, hL, h2, h3⟩, st⟩
  · dsimp only [Pt.U, Pt.locs, Pt.cells, Pt.slots] at X' e1 e2 h1 h2 h3 st
    subst h1; subst h2; subst h3
    exact Or.inl ⟨v, (T.setVm vm₁).calling g' mk (Value.ref b :: As).toArray, t, U', L, hT, X', hL, e1, e2, hq, st⟩
  · dsimp only [Pt.U, Pt.locs, Pt.cells, Pt.slots] at X' e1 e2 h1 h2 h3 st hcl
    subst h1; subst h2; subst h3
    exact Or.inr ⟨q, (T.setVm vm₁).calling g' mk (Value.ref b :: As).toArray, t, U', L, E, ce, hT, X', hL, e1, e2, hq, hce, hcv, vx_cls hW₁ hcl, st⟩
theorem vx_runS (S : CallFix p m c cc nL s args Ts own) (hM : vx_Met l y ws rm Pc Qc XC mc ms free) (cw : CallB R s args own index y bytes maxL ret ws rm mc ms n ∧ (Cond.static y).before args s = true) (hp : PreS s H Pc As)
    (hg : g.method = m) (hn : As.length = n) (hsize : g.locals.size = nL) (hstack : g.stack = As.reverse ++ rest) (hW : 2 * g.monitorRoom + (rest.map fun v => v.category).sum ≤ 8) (hdg : decode cc g.pc = .ok (.invokestatic index, 3)) (hf : cells + mc ≤ R.cells ∧ slots + ms ≤ R.slots) :
    vx_Run p l e R s m args below meth c H locs cells slots mc ms g rest (Qc As.toArray) XC free := by
  have hK : vx_Back l R p e below s args y 3 8 (PreOf R mc ms Pc) (PostOf Qc mc ms free) (vx_Post XC mc ms free) := vx_callBack cw.1 hM hp.1
  obtain ⟨⟨-, -, -, -, -, -, hcode, hini, hy, hlen, hl⟩, hstt⟩ := cw
  obtain ⟨hx, hb, hml, ho, -⟩ := S
  intro T hT X
  rcases vx_callS X hx (bytes := bytes) (maxL := maxL) (ret := ret) ho hl hstt hini hcode hy hK hg (hsize.trans hml.symm) (argsL := As) (rest := rest) (fun sig h => hn.trans (hlen sig h)) hstack hW (by rw [hb]; exact hdg)
    (fun vm₁ hW₁ => ⟨hf.1, hf.2, hp.2 (T.setVm vm₁) hT hW₁⟩) with ⟨v, vm₁, ⟨U', l2, c2, s2⟩, hW₁, X', ⟨g', mk, t, L, e1, e2, hq, h1, hL, h2, h3⟩, st⟩ | ⟨q, vm₁, ⟨U', l2, c2, s2⟩, hW₁, X', ⟨g', mk, t, L, E, ce, e1, e2, hq, hce, hcv, hcl, h1, hL, h2, h3⟩, st⟩
  · dsimp only [Pt.U, Pt.locs, Pt.cells, Pt.slots] at X' e1 e2 h1 h2 h3 st
    subst h1; subst h2; subst h3
    exact Or.inl ⟨v, (T.setVm vm₁).calling g' mk As.toArray, t, U', L, hT, X', hL, e1, e2, hq, st⟩
  · dsimp only [Pt.U, Pt.locs, Pt.cells, Pt.slots] at X' e1 e2 h1 h2 h3 st hcl
    subst h1; subst h2; subst h3
    exact Or.inr ⟨q, (T.setVm vm₁).calling g' mk As.toArray, t, U', L, E, ce, hT, X', hL, e1, e2, hq, hce, hcv, vx_cls hW₁ hcl, st⟩
end Runs
section Rows
variable {p : Program} {l : Launch} {e : Env} {R : Room} {s : State} {m : MethodId} {args : Array Value} {below : List Frame} {meth : Method} {c : Code} {H : Heap} {locs : List Loc} {cells slots : Nat} {Q : State → Prop}
variable {mc ms : Nat} {free : Addr → Prop} {A0 A1 : Nat → Prop} {H0 : Heap} {a : Array Value} {pc : Nat} {ls : Array Slot} {st0 rest : List Value}
theorem vx_keep {st₀ t T' : State} {L : List Loc} (h0 : st₀.heap = H) (e1 : T'.heap = t.heap) (hS : va_S A0 H0 H locs) (hA : ∀ q, q < H.size → A1 q → A0 q) (hf : ∀ q, free q → A0 q) (hL : ∀ q ∈ L, free q.base) (hF : va_F A1 st₀ t) :
    H.size ≤ T'.heap.size ∧ (∀ q : Nat, q < H.size → ¬ A1 q → T'.heap[q]? = H[q]?) ∧ va_S A0 H0 T'.heap (locs ++ L) := by
  obtain ⟨hz, hk⟩ := hF
  rw [h0] at hz hk
  exact ⟨by rw [e1]; exact hz, fun q h1 h2 => by rw [e1]; exact hk q h1 h2,
    ⟨Nat.le_trans hS.1 (by rw [e1]; exact hz), fun q h1 h2 => by rw [e1, hk q (Nat.lt_of_lt_of_le h1 hS.1) (fun z => h2 (hA q (Nat.lt_of_lt_of_le h1 hS.1) z))]; exact hS.2.1 q h1 h2, fun q hq => by
      rcases List.mem_append.mp hq with h | h
      · exact hS.2.2 q h
      · exact hf _ (hL q h)⟩⟩
theorem vx_calli {S SX : Type} {post : Int32 → S → Prop} {px : SX → Prop} {B : S → State → Prop} {BX : String → SX → State → Prop} {AX : Nat → Prop} (hr : vx_Run p l e R s m args below meth c H locs cells slots mc ms (F0 m pc ls st0) rest (va_Qi post B A1 a) (vx_X px BX AX) free) (hS : va_S A0 H0 H locs) (hA : ∀ q, q < H.size → A1 q → A0 q) (hf : ∀ q, free q → A0 q) (hAX : ∀ q, q < H.size → AX q → A0 q)
    (kx : ∀ (E : String) (ce : Cell) (q9 : Addr) (u : SX) (t : State) (H1 : Heap) (locs1 : List Loc), t.heap = H1 → s.vm.Alike t.vm → px u → BX E u t → H.size ≤ H1.size → (∀ q : Nat, q < H.size → ¬ AX q → H1[q]? = H[q]?) → va_S A0 H0 H1 locs1 → H1[q9]? = some ce → ce.vm = .none → s.vm.findClass E = some ce.cls → vx_W p l e R s m args below meth c H1 locs1 (cells + mc) (slots + ms) Q (F0 m pc ls rest) q9)
    (kk : ∀ (r : Int32) (u : S) (t : State) (H1 : Heap) (locs1 : List Loc), t.heap = H1 → s.vm.Alike t.vm → post r u → B u t → H.size ≤ H1.size → (∀ q : Nat, q < H.size → ¬ A1 q → H1[q]? = H[q]?) → va_S A0 H0 H1 locs1 → W p l e R s m args below meth c H1 locs1 (cells + mc) (slots + ms) Q (F0 m (pc + 3) ls (.int r :: rest))) : W p l e R s m args below meth c H locs cells slots Q (F0 m pc ls st0) := by
  intro T hT X
  rcases hr T hT X with ⟨v, st₀, t, T', L, h0, X', hL, e1, e2, ⟨⟨r, u, hv, hp, hb⟩, hF⟩, st⟩ | ⟨q, st₀, t, T', L, E, ce, h0, X', hL, e1, e2, ⟨u, hp, hb, hF⟩, hce, hcv, hcl, st⟩
  · cases hv
    obtain ⟨k1, k2, k3⟩ := vx_keep h0 e1 hS hA hf hL hF
    obtain ⟨t2, a1, b1⟩ := kk r u t T'.heap (locs ++ L) e1.symm (by rw [← e2]; exact X'.warmed.alike) hp hb k1 k2 k3 T' rfl X'
    exact ⟨t2, st t2 a1, b1⟩
  · obtain ⟨k1, k2, k3⟩ := vx_keep h0 e1 hS hAX hf hL hF
    obtain ⟨t2, a1, b1⟩ := kx E ce q u t T'.heap (locs ++ L) e1.symm (by rw [← e2]; exact X'.warmed.alike) hp hb k1 k2 k3 (by rw [e1]; exact hce) hcv hcl T' rfl X'
    exact ⟨t2, st.trans a1, b1⟩
theorem vx_calll {S SX : Type} {post : Int64 → S → Prop} {px : SX → Prop} {B : S → State → Prop} {BX : String → SX → State → Prop} {AX : Nat → Prop} (hr : vx_Run p l e R s m args below meth c H locs cells slots mc ms (F0 m pc ls st0) rest (va_Ql post B A1 a) (vx_X px BX AX) free) (hS : va_S A0 H0 H locs) (hA : ∀ q, q < H.size → A1 q → A0 q) (hf : ∀ q, free q → A0 q) (hAX : ∀ q, q < H.size → AX q → A0 q)
    (kx : ∀ (E : String) (ce : Cell) (q9 : Addr) (u : SX) (t : State) (H1 : Heap) (locs1 : List Loc), t.heap = H1 → s.vm.Alike t.vm → px u → BX E u t → H.size ≤ H1.size → (∀ q : Nat, q < H.size → ¬ AX q → H1[q]? = H[q]?) → va_S A0 H0 H1 locs1 → H1[q9]? = some ce → ce.vm = .none → s.vm.findClass E = some ce.cls → vx_W p l e R s m args below meth c H1 locs1 (cells + mc) (slots + ms) Q (F0 m pc ls rest) q9)
    (kk : ∀ (r : Int64) (u : S) (t : State) (H1 : Heap) (locs1 : List Loc), t.heap = H1 → s.vm.Alike t.vm → post r u → B u t → H.size ≤ H1.size → (∀ q : Nat, q < H.size → ¬ A1 q → H1[q]? = H[q]?) → va_S A0 H0 H1 locs1 → W p l e R s m args below meth c H1 locs1 (cells + mc) (slots + ms) Q (F0 m (pc + 3) ls (.long r :: rest))) : W p l e R s m args below meth c H locs cells slots Q (F0 m pc ls st0) := by
  intro T hT X
  rcases hr T hT X with ⟨v, st₀, t, T', L, h0, X', hL, e1, e2, ⟨⟨r, u, hv, hp, hb⟩, hF⟩, st⟩ | ⟨q, st₀, t, T', L, E, ce, h0, X', hL, e1, e2, ⟨u, hp, hb, hF⟩, hce, hcv, hcl, st⟩
  · cases hv
    obtain ⟨k1, k2, k3⟩ := vx_keep h0 e1 hS hA hf hL hF
    obtain ⟨t2, a1, b1⟩ := kk r u t T'.heap (locs ++ L) e1.symm (by rw [← e2]; exact X'.warmed.alike) hp hb k1 k2 k3 T' rfl X'
    exact ⟨t2, st t2 a1, b1⟩
  · obtain ⟨k1, k2, k3⟩ := vx_keep h0 e1 hS hAX hf hL hF
    obtain ⟨t2, a1, b1⟩ := kx E ce q u t T'.heap (locs ++ L) e1.symm (by rw [← e2]; exact X'.warmed.alike) hp hb k1 k2 k3 (by rw [e1]; exact hce) hcv hcl T' rfl X'
    exact ⟨t2, st.trans a1, b1⟩
theorem vx_callf {S SX : Type} {post : UInt32 → S → Prop} {px : SX → Prop} {B : S → State → Prop} {BX : String → SX → State → Prop} {AX : Nat → Prop} (hr : vx_Run p l e R s m args below meth c H locs cells slots mc ms (F0 m pc ls st0) rest (va_Qf post B A1 a) (vx_X px BX AX) free) (hS : va_S A0 H0 H locs) (hA : ∀ q, q < H.size → A1 q → A0 q) (hf : ∀ q, free q → A0 q) (hAX : ∀ q, q < H.size → AX q → A0 q)
    (kx : ∀ (E : String) (ce : Cell) (q9 : Addr) (u : SX) (t : State) (H1 : Heap) (locs1 : List Loc), t.heap = H1 → s.vm.Alike t.vm → px u → BX E u t → H.size ≤ H1.size → (∀ q : Nat, q < H.size → ¬ AX q → H1[q]? = H[q]?) → va_S A0 H0 H1 locs1 → H1[q9]? = some ce → ce.vm = .none → s.vm.findClass E = some ce.cls → vx_W p l e R s m args below meth c H1 locs1 (cells + mc) (slots + ms) Q (F0 m pc ls rest) q9)
    (kk : ∀ (r : UInt32) (u : S) (t : State) (H1 : Heap) (locs1 : List Loc), t.heap = H1 → s.vm.Alike t.vm → post r u → B u t → H.size ≤ H1.size → (∀ q : Nat, q < H.size → ¬ A1 q → H1[q]? = H[q]?) → va_S A0 H0 H1 locs1 → W p l e R s m args below meth c H1 locs1 (cells + mc) (slots + ms) Q (F0 m (pc + 3) ls (.float r :: rest))) : W p l e R s m args below meth c H locs cells slots Q (F0 m pc ls st0) := by
  intro T hT X
  rcases hr T hT X with ⟨v, st₀, t, T', L, h0, X', hL, e1, e2, ⟨⟨r, u, hv, hp, hb⟩, hF⟩, st⟩ | ⟨q, st₀, t, T', L, E, ce, h0, X', hL, e1, e2, ⟨u, hp, hb, hF⟩, hce, hcv, hcl, st⟩
  · cases hv
    obtain ⟨k1, k2, k3⟩ := vx_keep h0 e1 hS hA hf hL hF
    obtain ⟨t2, a1, b1⟩ := kk r u t T'.heap (locs ++ L) e1.symm (by rw [← e2]; exact X'.warmed.alike) hp hb k1 k2 k3 T' rfl X'
    exact ⟨t2, st t2 a1, b1⟩
  · obtain ⟨k1, k2, k3⟩ := vx_keep h0 e1 hS hAX hf hL hF
    obtain ⟨t2, a1, b1⟩ := kx E ce q u t T'.heap (locs ++ L) e1.symm (by rw [← e2]; exact X'.warmed.alike) hp hb k1 k2 k3 (by rw [e1]; exact hce) hcv hcl T' rfl X'
    exact ⟨t2, st.trans a1, b1⟩
theorem vx_calld {S SX : Type} {post : UInt64 → S → Prop} {px : SX → Prop} {B : S → State → Prop} {BX : String → SX → State → Prop} {AX : Nat → Prop} (hr : vx_Run p l e R s m args below meth c H locs cells slots mc ms (F0 m pc ls st0) rest (va_Qd post B A1 a) (vx_X px BX AX) free) (hS : va_S A0 H0 H locs) (hA : ∀ q, q < H.size → A1 q → A0 q) (hf : ∀ q, free q → A0 q) (hAX : ∀ q, q < H.size → AX q → A0 q)
    (kx : ∀ (E : String) (ce : Cell) (q9 : Addr) (u : SX) (t : State) (H1 : Heap) (locs1 : List Loc), t.heap = H1 → s.vm.Alike t.vm → px u → BX E u t → H.size ≤ H1.size → (∀ q : Nat, q < H.size → ¬ AX q → H1[q]? = H[q]?) → va_S A0 H0 H1 locs1 → H1[q9]? = some ce → ce.vm = .none → s.vm.findClass E = some ce.cls → vx_W p l e R s m args below meth c H1 locs1 (cells + mc) (slots + ms) Q (F0 m pc ls rest) q9)
    (kk : ∀ (r : UInt64) (u : S) (t : State) (H1 : Heap) (locs1 : List Loc), t.heap = H1 → s.vm.Alike t.vm → post r u → B u t → H.size ≤ H1.size → (∀ q : Nat, q < H.size → ¬ A1 q → H1[q]? = H[q]?) → va_S A0 H0 H1 locs1 → W p l e R s m args below meth c H1 locs1 (cells + mc) (slots + ms) Q (F0 m (pc + 3) ls (.double r :: rest))) : W p l e R s m args below meth c H locs cells slots Q (F0 m pc ls st0) := by
  intro T hT X
  rcases hr T hT X with ⟨v, st₀, t, T', L, h0, X', hL, e1, e2, ⟨⟨r, u, hv, hp, hb⟩, hF⟩, st⟩ | ⟨q, st₀, t, T', L, E, ce, h0, X', hL, e1, e2, ⟨u, hp, hb, hF⟩, hce, hcv, hcl, st⟩
  · cases hv
    obtain ⟨k1, k2, k3⟩ := vx_keep h0 e1 hS hA hf hL hF
    obtain ⟨t2, a1, b1⟩ := kk r u t T'.heap (locs ++ L) e1.symm (by rw [← e2]; exact X'.warmed.alike) hp hb k1 k2 k3 T' rfl X'
    exact ⟨t2, st t2 a1, b1⟩
  · obtain ⟨k1, k2, k3⟩ := vx_keep h0 e1 hS hAX hf hL hF
    obtain ⟨t2, a1, b1⟩ := kx E ce q u t T'.heap (locs ++ L) e1.symm (by rw [← e2]; exact X'.warmed.alike) hp hb k1 k2 k3 (by rw [e1]; exact hce) hcv hcl T' rfl X'
    exact ⟨t2, st.trans a1, b1⟩
theorem vx_callv {S SX : Type} {post : S → Prop} {px : SX → Prop} {B : S → State → Prop} {BX : String → SX → State → Prop} {AX : Nat → Prop} (hr : vx_Run p l e R s m args below meth c H locs cells slots mc ms (F0 m pc ls st0) rest (va_Qv post B A1 a) (vx_X px BX AX) free) (hS : va_S A0 H0 H locs) (hA : ∀ q, q < H.size → A1 q → A0 q) (hf : ∀ q, free q → A0 q) (hAX : ∀ q, q < H.size → AX q → A0 q)
    (kx : ∀ (E : String) (ce : Cell) (q9 : Addr) (u : SX) (t : State) (H1 : Heap) (locs1 : List Loc), t.heap = H1 → s.vm.Alike t.vm → px u → BX E u t → H.size ≤ H1.size → (∀ q : Nat, q < H.size → ¬ AX q → H1[q]? = H[q]?) → va_S A0 H0 H1 locs1 → H1[q9]? = some ce → ce.vm = .none → s.vm.findClass E = some ce.cls → vx_W p l e R s m args below meth c H1 locs1 (cells + mc) (slots + ms) Q (F0 m pc ls rest) q9)
    (kk : ∀ (u : S) (t : State) (H1 : Heap) (locs1 : List Loc), t.heap = H1 → s.vm.Alike t.vm → post u → B u t → H.size ≤ H1.size → (∀ q : Nat, q < H.size → ¬ A1 q → H1[q]? = H[q]?) → va_S A0 H0 H1 locs1 → W p l e R s m args below meth c H1 locs1 (cells + mc) (slots + ms) Q (F0 m (pc + 3) ls (rest))) : W p l e R s m args below meth c H locs cells slots Q (F0 m pc ls st0) := by
  intro T hT X
  rcases hr T hT X with ⟨v, st₀, t, T', L, h0, X', hL, e1, e2, ⟨⟨u, hv, hp, hb⟩, hF⟩, st⟩ | ⟨q, st₀, t, T', L, E, ce, h0, X', hL, e1, e2, ⟨u, hp, hb, hF⟩, hce, hcv, hcl, st⟩
  · cases hv
    obtain ⟨k1, k2, k3⟩ := vx_keep h0 e1 hS hA hf hL hF
    obtain ⟨t2, a1, b1⟩ := kk u t T'.heap (locs ++ L) e1.symm (by rw [← e2]; exact X'.warmed.alike) hp hb k1 k2 k3 T' rfl X'
    exact ⟨t2, st t2 a1, b1⟩
  · obtain ⟨k1, k2, k3⟩ := vx_keep h0 e1 hS hAX hf hL hF
    obtain ⟨t2, a1, b1⟩ := kx E ce q u t T'.heap (locs ++ L) e1.symm (by rw [← e2]; exact X'.warmed.alike) hp hb k1 k2 k3 (by rw [e1]; exact hce) hcv hcl T' rfl X'
    exact ⟨t2, st.trans a1, b1⟩
/-- caught by the row x of this method's table; the rows ahead don't take it -/
theorem vx_catch {own name : String} {E : String} {ce : Cell} {q : Addr} (hown : s.vm.findClass own = some m.cls) (pre : List ExceptionTableEntry) (x : ExceptionTableEntry) (suf : List ExceptionTableEntry) (hsplit : c.exceptionTable.toList = pre ++ x :: suf)
    (hpass : ∀ z ∈ pre, covers z pc = false ∨ (z.catchType ≠ 0 ∧ ∃ nm : String, (Cond.classLink own z.catchType nm).before args s = true ∧ va_Nc E nm s)) (hx : covers x pc = true) (h0 : x.catchType ≠ 0)
    (hlink : (Cond.classLink own x.catchType name).before args s = true) (hcast : (Cond.castable E name).before args s = true) (hcell : H[q]? = some ce) (hv : ce.vm = .none) (hcl : s.vm.findClass E = some ce.cls)
    (kk : W p l e R s m args below meth c H locs cells slots Q (F0 m x.handlerPc ls [.ref q])) : vx_W p l e R s m args below meth c H locs cells slots Q (F0 m pc ls rest) q := by
  intro T hT X
  have hpl : e.platform.magicAccessors = ({} : Platform).magicAccessors := by rw [X.admits.platform]
  obtain ⟨c3, c4, hc3, hc4, hasg⟩ := Cond.castable_spec hcast
  cases Option.some.inj (hc3.symm.trans hcl)
  obtain ⟨c5, hc5, hcl5⟩ := Cond.classLink_spec hown hlink e.platform hpl
  cases Option.some.inj (hc4.symm.trans hc5)
  obtain ⟨vm', X', st⟩ := X.thenCaughtThrough q (g := F0 m pc ls rest) rfl (Steps.refl _) (by rw [hT]; exact hcell) (by rw [hv]; rfl) (by obtain ⟨k9, h9, -⟩ := Vm.findClass_spec hcl; exact ⟨k9, h9⟩) pre x suf hsplit
    (fun z hz => by
      rcases hpass z hz with h | ⟨hz0, nm, hl1, hn1⟩
      · exact Or.inl h
      · obtain ⟨c6, hc6, hcl6⟩ := Cond.classLink_spec hown hl1 e.platform hpl
        obtain ⟨a8, b8, h1, h2, h3⟩ := hn1
        cases Option.some.inj (h1.symm.trans hcl)
        cases Option.some.inj (h2.symm.trans hc6)
        exact Or.inr ⟨hz0, _, hcl6, h3⟩) hx (Or.inr ⟨h0, c4, hcl5, hasg⟩)
  obtain ⟨t, a1, b1⟩ := kk (T.setVm vm') hT X'
  exact ⟨t, st.trans a1, b1⟩
end Rows
section Ends
variable {p : Program} {l : Launch} {e : Env} {R : Room} {s : State} {m : MethodId} {args : Array Value} {below : List Frame} {meth : Method} {c : Code} {H : Heap} {locs : List Loc} {cells slots : Nat} {Q : State → Prop}
variable {mc ms : Nat} {free : Addr → Prop} {A0 A1 : Nat → Prop} {H0 : Heap} {a : Array Value} {ls : Array Slot} {st0 rest : List Value}
variable {Qc : Array Value → State → Outcome → State → Prop} {XC : String → State → State → Prop}
/-- what a body that may throw owes at its end -/
def vx_MQ (below : List Frame) (Qc : Array Value → State → Outcome → State → Prop) (XC : String → State → State → Prop) (a : Array Value) (s : State) (mc ms : Nat) (free : Addr → Prop) : State → Prop := fun t =>
  ∃ o, t.status = .running ∧ Ended t below o ∧ vx_Q Qc XC mc ms free a s o t
theorem vx_ret {g : JFrame} {mc ms : Nat} (k : W p l e R s m args below meth c H locs cells slots (MQ below Qc args s mc ms free) g) : W p l e R s m args below meth c H locs cells slots (vx_MQ below Qc XC args s mc ms free) g := by
  intro T hT X
  obtain ⟨t, a1, o, b1, b2, b3, b4⟩ := k T hT X
  exact ⟨t, a1, o, b1, b2, Or.inl ⟨b3, b4⟩⟩
/-- not caught here: it goes on to the caller -/
theorem vx_widen {g : JFrame} {q : Addr} {k n : Nat} (h1 : cells ≤ k) (h2 : slots ≤ n) (kk : vx_W p l e R s m args below meth c H locs k n Q g q) : vx_W p l e R s m args below meth c H locs cells slots Q g q := fun T hT X => kk T hT (stand_widen X h1 h2)
theorem vx_out {pc : Nat} {E : String} {ce : Cell} {q : Addr} {mc ms : Nat} (hout : ∀ x ∈ c.exceptionTable.toList, covers x pc = false) (hlocks : meth.locks = false) (hcell : H[q]? = some ce) (hv : ce.vm = .none) (hcl : s.vm.findClass E = some ce.cls)
    (hx : ∀ t : State, t.heap = H → s.vm.Alike t.vm → XC E s t) (hf : ∀ z ∈ locs, free z.base) (hc : cells ≤ mc) (hs : slots ≤ ms) :
    vx_W p l e R s m args below meth c H locs cells slots (vx_MQ below Qc XC args s mc ms free) (F0 m pc ls rest) q := by
  intro T hT X
  obtain ⟨st1, hrun, hend, hW, hsm⟩ := X.leaveThrown q (g := F0 m pc ls rest) rfl rfl rfl hout hlocks
  have hcell9 : (T.setFrames (.throwing q :: below)).heap[q]? = some ce := by
    show T.heap[q]? = some ce
    rw [hT]; exact hcell
  exact ⟨_, st1, .threw q, hrun, hend, Or.inr ⟨q, rfl, E, ce, locs, hx _ hT hW.alike, hcell9, hv, hcl, hW, hsm.mono hc hs, hf⟩⟩
theorem vx_frame {U : State} {k n : Nat} (h : s.sameButNew ({ U with vm := s.vm } : State) locs k n) : s.heap.size ≤ U.heap.size ∧ ∀ q : Nat, q < s.heap.size → (∀ z ∈ locs, z.base ≠ q) → U.heap[q]? = s.heap[q]? := by
  obtain ⟨-, h2, -, -, -, h6⟩ := h
  refine ⟨h2, fun q hq hz => ?_⟩
  obtain ⟨c9, e1, e2, e3, e4⟩ := h6 q _ (Array.getElem?_eq_getElem hq)
  have hs : c9.slots = (s.heap[q]).slots := Array.ext_getElem? fun i => e4 i fun hm => hz _ hm rfl
  have h9 : c9 = s.heap[q] := by
    rw [hs] at e2
    exact e2
  have e5 : U.heap[q]? = some c9 := e1
  rw [e5, h9, Array.getElem?_eq_getElem hq]
/-- the words of a throw but the four that speak of the heap -/
def vx_no (w : Cond) : Bool := decide (w ≠ .isRef (.static Bundle.tN "UNASSIGNED_STACK" Bundle.steD)) && decide (w ≠ .isRef (.static Bundle.tN "SUPPRESSED_SENTINEL" Bundle.listD)) && decide (w ≠ .laysStatic Bundle.tN "UNASSIGNED_STACK" Bundle.steD) && decide (w ≠ .laysStatic Bundle.tN "SUPPRESSED_SENTINEL" Bundle.listD)
def vx_at0 (own : String) (ic : Nat) (X : String) (names : List String) : List Cond := (Bundle.ownAtoms0 own ic X names).filter vx_no
def vx_atS (own : String) (ic : Nat) (X : String) (names : List String) : List Cond := (Bundle.ownAtoms own ic X names).filter vx_no
/-- a word that the tables alone decide, or a good one -/
def vx_ot (w : Cond) : Bool := w.onTables || goodWord w
theorem vx_ot_at {args a' : Array Value} {s U : State} {w : Cond} (hW : s.WarmedH U.vm) (hvm : s.vm = U.vm) (hg : vx_ot w = true) (h : w.before args s = true) : w.before a' U = true := by
  simp only [vx_ot, Bool.or_eq_true] at hg
  rcases hg with hg | hg
  · exact va_tabs hg hvm h
  · exact word_at hW (good_of_word hg) h
/-- a list's words: the good ones out of the method's own list, the others by premises of their own -/
theorem vx_hat {args : Array Value} {s : State} {L B : List Cond} (h1 : ∀ w ∈ L.filter goodWord, w.before args s = true) (h2 : ∀ w ∈ L.filter (fun w => !goodWord w), w ∈ B) (h3 : ∀ w ∈ B, w.before args s = true) : ∀ w ∈ L, w.before args s = true := by
  intro w hw
  by_cases g : goodWord w = true
  · exact h1 w (List.mem_filter.mpr ⟨hw, g⟩)
  · refine h3 w (h2 w (List.mem_filter.mpr ⟨hw, ?_⟩))
    show (!goodWord w) = true
    cases hgw : goodWord w
    · rfl
    · exact absurd hgw g
theorem vx_c {args : Array Value} {s : State} {w : Cond} {B : List Cond} (h : w.before args s = true) (t : ∀ w ∈ B, w.before args s = true) : ∀ w' ∈ w :: B, w'.before args s = true := fun w' h' => (List.mem_cons.mp h').elim (fun e => by rw [e]; exact h) (t w')
theorem vx_n {args : Array Value} {s : State} : ∀ w ∈ ([] : List Cond), w.before args s = true := fun _ h => nomatch h
theorem vx_own {args : Array Value} {s : State} {L : List Cond} (h1 : ∀ w ∈ L.filter vx_no, w.before args s = true)
    (hU : (Cond.isRef (.static Bundle.tN "UNASSIGNED_STACK" Bundle.steD)).before args s = true) (hN : (Cond.isRef (.static Bundle.tN "SUPPRESSED_SENTINEL" Bundle.listD)).before args s = true)
    (lU : (Cond.laysStatic Bundle.tN "UNASSIGNED_STACK" Bundle.steD).before args s = true) (lN : (Cond.laysStatic Bundle.tN "SUPPRESSED_SENTINEL" Bundle.listD).before args s = true) : ∀ w ∈ L, w.before args s = true := by
  intro w hw
  by_cases e1 : w = .isRef (.static Bundle.tN "UNASSIGNED_STACK" Bundle.steD)
  · rw [e1]; exact hU
  · by_cases e2 : w = .isRef (.static Bundle.tN "SUPPRESSED_SENTINEL" Bundle.listD)
    · rw [e2]; exact hN
    · by_cases e3 : w = .laysStatic Bundle.tN "UNASSIGNED_STACK" Bundle.steD
      · rw [e3]; exact lU
      · by_cases e4 : w = .laysStatic Bundle.tN "SUPPRESSED_SENTINEL" Bundle.listD
        · rw [e4]; exact lN
        · exact h1 w (List.mem_filter.mpr ⟨hw, by unfold vx_no; rw [decide_eq_true e1, decide_eq_true e2, decide_eq_true e3, decide_eq_true e4]; rfl⟩)
/-- where a static field lies, its class's statics cell in H -/
def vx_L (C n d : String) (A : Nat → Prop) (U : State) (H : Heap) : Prop := ∃ (c : ClassId) (k : Class) (i : Nat) (f : Field) (a : Nat) (cell : Cell), U.vm.findClass C = some c ∧ U.fieldFound? C n d = some (c, k, i, f) ∧ f.isStatic = true ∧ k.statics = some a ∧ H[a]? = some cell ∧ cell.vm.isStatics = true ∧ cell.cls = c ∧ f.slot < cell.slots.size ∧ k.staticTypes[f.slot]? = some f.type ∧ ¬ A a
theorem vx_L.moved {C n d : String} {A : Nat → Prop} {u U : State} {H : Heap} (hvm : u.vm.Alike U.vm) (h : vx_L C n d A u H) : vx_L C n d A U H := by
  obtain ⟨c, k, i, f, a, cell, h1, h2, h3, h4, h5, h6, h7, h8, h9, h10⟩ := h
  obtain ⟨k', hi', he⟩ := State.fieldFound?_setVm hvm h2
  exact ⟨c, k', i, f, a, cell, by rw [hvm.findClass]; exact h1, hi', h3, by rw [he]; exact h4, h5, h6, h7, h8, by rw [he]; exact h9, h10⟩
theorem vx_L.kept {C n d : String} {A : Nat → Prop} {U : State} {H H1 : Heap} (h : vx_L C n d A U H) (hq : ∀ a : Nat, a < H.size → ¬ A a → H1[a]? = H[a]?) : vx_L C n d A U H1 := by
  obtain ⟨c, k, i, f, a, cell, h1, h2, h3, h4, h5, h6, h7, h8, h9, h10⟩ := h
  exact ⟨c, k, i, f, a, cell, h1, h2, h3, h4, by rw [hq a (Array.getElem?_eq_some_iff.mp h5).1 h10]; exact h5, h6, h7, h8, h9, h10⟩
theorem vx_L.narrow {C n d : String} {A B : Nat → Prop} {U : State} {H : Heap} (h : vx_L C n d A U H) (hAB : ∀ q, B q → A q) : vx_L C n d B U H := by
  obtain ⟨c, k, i, f, a, cell, h1, h2, h3, h4, h5, h6, h7, h8, h9, h10⟩ := h
  exact ⟨c, k, i, f, a, cell, h1, h2, h3, h4, h5, h6, h7, h8, h9, fun z => h10 (hAB _ z)⟩
theorem vx_L.word {C n d : String} {A : Nat → Prop} {s : State} {args : Array Value} (h : vx_L C n d A s s.heap) : (Cond.laysStatic C n d).before args s = true := by
  obtain ⟨c, k, i, f, a, cell, h1, h2, h3, h4, h5, h6, h7, h8, h9, -⟩ := h
  show (Cond.laysStatic C n d).holds args s none s [] = true
  exact Cond.laysStatic_of h1 h2 h3 h4 h5 h6 h7 h8 h9
/-- .. and what it holds: null or some reference -/
def vx_Zq (C n d : String) (A : Nat → Prop) (U : State) (H : Heap) : Prop := va_Zq C n d A U H ∧ vx_L C n d A U H
theorem vx_Zq.moved {C n d : String} {A : Nat → Prop} {u U : State} {H : Heap} (hvm : u.vm.Alike U.vm) (h : vx_Zq C n d A u H) : vx_Zq C n d A U H := ⟨va_Zq.moved hvm h.1, vx_L.moved hvm h.2⟩
theorem vx_Zq.kept {C n d : String} {A : Nat → Prop} {U : State} {H H1 : Heap} (h : vx_Zq C n d A U H) (hq : ∀ a : Nat, a < H.size → ¬ A a → H1[a]? = H[a]?) : vx_Zq C n d A U H1 := ⟨va_Zq.kept h.1 hq, vx_L.kept h.2 hq⟩
theorem vx_Zq.narrow {C n d : String} {A B : Nat → Prop} {U : State} {H : Heap} (h : vx_Zq C n d A U H) (hAB : ∀ q, B q → A q) : vx_Zq C n d B U H := ⟨va_Zq.narrow h.1 hAB, vx_L.narrow h.2 hAB⟩
theorem vx_Zqof {args : Array Value} {s : State} {C n d : String} {A : Nat → Prop} (hl : (Cond.laysStatic C n d).before args s = true) (hini : (Cond.initialized C).before args s = true) (h : (Cond.isRef (.static C n d)).before args s = true) (hA : ∀ a : Nat, a < s.heap.size → ¬ A a) : vx_Zq C n d A s s.heap := by
  refine ⟨va_Zqof hl hini h hA, ?_⟩
  obtain ⟨c, k, i, f, a, cell, h1, h2, h3, h4, h5, h6, h7, h8, h9⟩ := Cond.laysStatic_spec hl
  exact ⟨c, k, i, f, a, cell, h1, h2, h3, h4, h5, h6, h7, h8, h9, hA a (Array.getElem?_eq_some_iff.mp h5).1⟩
theorem vx_isRef {C n d : String} {v : Value} {A : Nat → Prop} {s : State} {args : Array Value} (h : va_Z C n d v A s s.heap) (hv : v.isRef = true) : (Cond.isRef (.static C n d)).before args s = true := by
  obtain ⟨cf, kf, fi, f, a, cell, h1, h2, h3, h4, h5, h6, h7, -⟩ := h
  have he : (Term.static C n d).eval args s none [] s = some v := by
    simp [Term.eval, State.fieldNamed?, h1, h2, h4, h5, h6, h7]
  simp only [Cond.before, Cond.holds, Cond.value, he]
  cases v <;> simp_all [Value.isRef]
theorem vx_isRefq {C n d : String} {A : Nat → Prop} {s : State} {args : Array Value} (h : va_Zq C n d A s s.heap) : (Cond.isRef (.static C n d)).before args s = true := by
  rcases h with h | ⟨t, h⟩
  · exact vx_isRef h rfl
  · exact vx_isRef h rfl
/-- the same frame, seen from here: as if the method were called anew in this heap -/
theorem vx_rebase {T : State} (X : Stand p l e R s m args below meth c T locs cells slots) {R' : Room} (hf : R'.frames ≤ R.frames) (hl : R'.locals ≤ R.locals) (hc : cells + R'.cells ≤ R.cells) (hs : slots + R'.slots ≤ R.slots) :
    Stand p l e R' ((T.setVm s.vm).setFrames (.invoking m args :: below)) m args below meth c T [] 0 0 := by
  have htop : (T.setVm s.vm).topJava?.isSome := X.here.top
  have hF : ((T.setVm s.vm).setFrames (.invoking m args :: below)).frames = .invoking m args :: below := State.frames_setFrames _ (State.cur_lt_of_top htop)
  obtain ⟨g₀, hg0⟩ := Option.isSome_iff_exists.mp htop
  obtain ⟨r, hr⟩ := State.topJava?_eq_some.mp hg0
  have hl9 : e.platform.stackLimits (T.setVm s.vm).me = e.platform.stackLimits s.me := X.limits
  have hb9 : (T.setVm s.vm).me.stackBytes = s.me.stackBytes := X.bytes
  refine ⟨X.admits, X.cas, X.clock, hF, ?_, X.hears, X.method, X.code, X.here, X.tail, X.warmed, ?_, ?_, ?_⟩
  · have h := X.room
    have hU : ((T.setVm s.vm).setFrames (.invoking m args :: below)).localsInUse = s.localsInUse := by
      rw [State.localsInUse_invoking hF (meth := meth) (c := c) X.method X.code, State.localsInUse_invoking X.frames X.method X.code]
    simp only [State.hasRoom, Bool.and_eq_true, decide_eq_true_eq] at h ⊢
    obtain ⟨⟨⟨⟨h1, h2, h3, h4, h5, h6⟩, h7⟩, h8⟩, h9⟩ := h
    rw [X.frames, List.length_cons] at h2 h3
    have q1 := X.heapSize
    have q2 := X.used
    simp only [hF, hU, List.length_cons, State.stackLimits_setFrames, State.stackBytes_setFrames, hl9, hb9]
    refine ⟨⟨⟨⟨by omega, by omega, by omega, by omega, by omega, h6⟩, ?_⟩, ?_⟩, X.book⟩
    · show T.heap.size + R'.cells ≤ e.platform.maxCells
      omega
    · show T.slotsUsed + R'.slots ≤ e.platform.maxSlots
      omega
  · rw [State.stackLimits_setFrames]; rfl
  · rw [State.stackBytes_setFrames]; rfl
  · refine ⟨?_, Nat.le_refl _, Nat.le_refl _, ?_, ?_, fun a c9 h9 => ⟨c9, h9, rfl, rfl, fun _ _ => rfl⟩⟩
    · obtain ⟨t, ht, -⟩ := State.frames_cons hr
      show T.setVm s.vm = { ((T.setVm s.vm).setFrames (.invoking m args :: below)).setFrames (T.setVm s.vm).frames with heap := T.heap, slotsUsed := T.slotsUsed }
      rw [State.setFrames_setFrames, State.setFrames_self ht]
      rfl
    · show T.slotsUsed = T.slotsUsed + ((T.heap.toList.drop T.heap.size).map (·.slots.size)).sum
      rw [List.drop_eq_nil_of_le (Nat.le_of_eq Array.length_toList)]
      rfl
    · show ((T.heap.toList.drop T.heap.size).map (·.slots.size)).sum ≤ 0
      rw [List.drop_eq_nil_of_le (Nat.le_of_eq Array.length_toList)]
      exact Nat.le_refl _
/-- 'throw new E()': new; dup; invokespecial; athrow -/
theorem vx_throw0 {cc : ByteArray} {pc : Nat} (hexec : p.tables.exec = Jvm.exec) (hb : c.code = cc) (hl : l.stackTraces = false) {own cls : String} {names : List String} {ik ic mc ms : Nat} {A : Nat → Prop}
    (hown : s.vm.findClass own = some m.cls) (hcls : Bundle.fit cls = true) (hnames : ∀ n ∈ names, Bundle.fit n = true)
    (hk : (Cond.classLink own ik cls).before args s = true) (hini : (Cond.initialized cls).before args s = true) (hat : ∀ w ∈ vx_at0 own ic cls names, w.before args s = true)
    (hgood : ∀ w ∈ Cond.classLink own ik cls :: Cond.initialized cls :: vx_at0 own ic cls names, vx_ot w = true)
    (hU : vx_Zq Bundle.tN "UNASSIGNED_STACK" Bundle.steD A s s.heap) (hN : vx_Zq Bundle.tN "SUPPRESSED_SENTINEL" Bundle.listD A s s.heap) (hS : va_S A s.heap H locs) (hsize : ls.size = c.maxLocals)
    (d0 : decode cc pc = .ok (.new ik, 3)) (d3 : decode cc (pc + 3) = .ok (.dup, 1)) (d4 : decode cc (pc + 4) = .ok (.invokespecial ic, 3)) (d7 : decode cc (pc + 7) = .ok (.athrow, 1))
    (hout : ∀ x ∈ c.exceptionTable.toList, covers x (pc + 7) = false)
    (hRframes : names.length + 3 < R.frames) (hRlocals : (rest.map fun v => v.category).sum + (13 * (names.length + 1) + 42) ≤ R.locals) (hRcells : cells + 1 ≤ R.cells) (hRslots : slots + 6 ≤ R.slots) (hlocks : meth.locks = false)
    (hx : ∀ t : State, s.vm.Alike t.vm → H.size ≤ t.heap.size → (∀ q : Nat, q < H.size → t.heap[q]? = H[q]?) → XC cls s t)
    (hf : ∀ z ∈ locs, free z.base) (hc : cells + 1 ≤ mc) (hs : slots + 6 ≤ ms) :
    W p l e R s m args below meth c H locs cells slots (vx_MQ below Qc XC args s mc ms free) (F0 m pc ls rest) := by
  intro T hT X
  have htr : e.platform.stackTraces = false := (show e.platform.stackTraces = l.stackTraces by rw [X.admits.platform]).trans hl
  have Y := vx_rebase X (R' := { frames := R.frames, locals := R.locals, cells := 1, slots := 6 }) (Nat.le_refl _) (Nat.le_refl _) hRcells hRslots
  obtain ⟨s', hA⟩ : ∃ z, z = (T.setVm s.vm).setFrames (.invoking m args :: below) := ⟨_, rfl⟩
  rw [← hA] at Y
  have hvm : s'.vm = s.vm := by rw [hA]; rfl
  have hhp : s'.heap = H := by rw [hA]; exact hT
  have hW0 : s.WarmedH s'.vm := by rw [hvm]; exact State.WarmedH.refl s
  have hat' : ∀ w ∈ vx_at0 own ic cls names, w.before args s' = true := fun w hw => vx_ot_at hW0 hvm.symm (hgood w (List.mem_cons_of_mem _ (List.mem_cons_of_mem _ hw))) (hat w hw)
  have hk' : (Cond.classLink own ik cls).before args s' = true := vx_ot_at hW0 hvm.symm (hgood _ List.mem_cons_self) hk
  have hini' : (Cond.initialized cls).before args s' = true := vx_ot_at hW0 hvm.symm (hgood _ (List.mem_cons_of_mem _ List.mem_cons_self)) hini
  have hU' : vx_Zq Bundle.tN "UNASSIGNED_STACK" Bundle.steD A s' s'.heap := by rw [hhp]; exact vx_Zq.moved hW0.alike (hU.kept hS.2.1)
  have hN' : vx_Zq Bundle.tN "SUPPRESSED_SENTINEL" Bundle.listD A s' s'.heap := by rw [hhp]; exact vx_Zq.moved hW0.alike (hN.kept hS.2.1)
  have h : ∀ w ∈ Bundle.ownAtoms0 own ic cls names, w.before args s' = true := vx_own hat' (vx_isRefq hU'.1) (vx_isRefq hN'.1) hU'.2.word hN'.2.word
  have hown' : s'.vm.findClass own = some m.cls := by rw [hvm]; exact hown
  have hins : (Cond.instantiable cls 6).before args s' = true := h _ (by simp [Bundle.ownAtoms0])
  obtain ⟨vm₁, cX, kX, hfX, hkX, -, -, X₁, st1⟩ := Y.newCold hexec (own := own) (C := cls) (index := ik) (n := 6) hown' hk' hins hini'
    (g := F0 m pc ls rest) rfl (by rw [hb]; exact d0) (Nat.le_refl _) (Nat.le_refl _)
  generalize hT1 : (T.setVm vm₁).pushCell { cls := cX, slots := kX.instanceTypes.map defaultValue, vm := .none } = T1 at X₁ st1
  have hcat : (Value.ref T.heap.size).category = 1 := rfl
  have hcellA : T1.heap[T.heap.size]? = some (freshCell cX kX) := by rw [← hT1]; exact State.heap_pushCell_size _ _
  have d3' : decode c.code (pc + 3) = .ok (.dup, 1) := by rw [hb]; exact d3
  obtain ⟨U, hsteps, hrun, hend, hW, hsame, ce, hce, hO⟩ := X₁.ctorThrow0 hexec htr (own := own) (cls := cls) (names := names) (ic := ic) hown' hcls hnames h (fun x hx => nomatch hx) hfX hkX hcellA (by rw [hhp, hT]; exact Nat.le_refl _)
    (g := { method := m, pc := pc + 4, locals := ls, stack := .ref T.heap.size :: .ref T.heap.size :: rest, locked := none }) rfl hsize rfl rfl (rest := rest) rfl
    (by rw [hb]; exact d4) (by rw [hb]; exact d7) hout hRframes (by simp only [List.map_cons, List.sum_cons, hcat]; omega) hlocks
  obtain ⟨f1, f2⟩ := vx_frame hsame
  rw [hhp] at f1 f2
  have hWs : s.WarmedH U.vm := State.WarmedH.trans hW0 hW
  have hcl : s.vm.findClass cls = some ce.cls := by
    have h9 := hO.cls
    rw [hvm] at h9
    exact h9
  have hall : s.sameButNew ({ U with vm := s.vm } : State) locs mc ms := by
    subst hA
    obtain ⟨e1, e2⟩ := hsame
    rw [State.setFrames_setFrames] at e1
    have h2 : (T.setVm s.vm).sameButNew ({ U with vm := s.vm } : State) [] (0 + 1) (0 + 6) := ⟨e1, e2⟩
    have h3 := X.same.trans h2
    rw [List.append_nil] at h3
    exact h3.mono hc hs
  refine ⟨U, ?_, .threw T.heap.size, hrun, hend, Or.inr ⟨T.heap.size, rfl, cls, ce, locs, hx U hWs.alike f1 (fun q hq => f2 q hq (fun z hz => nomatch hz)), hce, hO.vm, hcl, hWs, hall, hf⟩⟩
  refine st1 _ ?_
  show Steps p.tables e below (T1.setTop { method := m, pc := pc + 3, locals := ls, stack := .ref T.heap.size :: rest, locked := none }) _
  jvm_step X₁.here [X₁.here.top, hexec, d3', Value.category]
  exact hsteps
/-- 'throw new E("text")': new; dup; ldc; invokespecial; athrow -/
theorem vx_throwS {cc : ByteArray} {pc : Nat} (hexec : p.tables.exec = Jvm.exec) (hb : c.code = cc) (hl : l.stackTraces = false) {own cls text : String} {names : List String} {ik is ic mc ms sa : Nat} {A : Nat → Prop}
    (hown : s.vm.findClass own = some m.cls) (hcls : Bundle.fit cls = true) (hnames : ∀ n ∈ names, Bundle.fit n = true)
    (hk : (Cond.classLink own ik cls).before args s = true) (hini : (Cond.initialized cls).before args s = true) (hstr : vk_R own is text sa s) (hat : ∀ w ∈ vx_atS own ic cls names, w.before args s = true)
    (hgood : ∀ w ∈ Cond.classLink own ik cls :: Cond.initialized cls :: vx_atS own ic cls names, vx_ot w = true)
    (hU : vx_Zq Bundle.tN "UNASSIGNED_STACK" Bundle.steD A s s.heap) (hN : vx_Zq Bundle.tN "SUPPRESSED_SENTINEL" Bundle.listD A s s.heap) (hS : va_S A s.heap H locs) (hsize : ls.size = c.maxLocals)
    (d0 : decode cc pc = .ok (.new ik, 3)) (d3 : decode cc (pc + 3) = .ok (.dup, 1)) (d4 : decode cc (pc + 4) = .ok (.ldc is, 2)) (d6 : decode cc (pc + 6) = .ok (.invokespecial ic, 3)) (d9 : decode cc (pc + 9) = .ok (.athrow, 1))
    (hout : ∀ x ∈ c.exceptionTable.toList, covers x (pc + 9) = false)
    (hRframes : names.length + 3 < R.frames) (hRlocals : (rest.map fun v => v.category).sum + (13 * (names.length + 1) + 43) ≤ R.locals) (hRcells : cells + 1 ≤ R.cells) (hRslots : slots + 6 ≤ R.slots) (hlocks : meth.locks = false)
    (hx : ∀ t : State, s.vm.Alike t.vm → H.size ≤ t.heap.size → (∀ q : Nat, q < H.size → t.heap[q]? = H[q]?) → XC cls s t)
    (hf : ∀ z ∈ locs, free z.base) (hc : cells + 1 ≤ mc) (hs : slots + 6 ≤ ms) :
    W p l e R s m args below meth c H locs cells slots (vx_MQ below Qc XC args s mc ms free) (F0 m pc ls rest) := by
  intro T hT X
  have htr : e.platform.stackTraces = false := (show e.platform.stackTraces = l.stackTraces by rw [X.admits.platform]).trans hl
  have Y := vx_rebase X (R' := { frames := R.frames, locals := R.locals, cells := 1, slots := 6 }) (Nat.le_refl _) (Nat.le_refl _) hRcells hRslots
  obtain ⟨s', hA⟩ : ∃ z, z = (T.setVm s.vm).setFrames (.invoking m args :: below) := ⟨_, rfl⟩
  rw [← hA] at Y
  have hvm : s'.vm = s.vm := by rw [hA]; rfl
  have hhp : s'.heap = H := by rw [hA]; exact hT
  have hW0 : s.WarmedH s'.vm := by rw [hvm]; exact State.WarmedH.refl s
  have hat' : ∀ w ∈ vx_atS own ic cls names, w.before args s' = true := fun w hw => vx_ot_at hW0 hvm.symm (hgood w (List.mem_cons_of_mem _ (List.mem_cons_of_mem _ hw))) (hat w hw)
  have hk' : (Cond.classLink own ik cls).before args s' = true := vx_ot_at hW0 hvm.symm (hgood _ List.mem_cons_self) hk
  have hini' : (Cond.initialized cls).before args s' = true := vx_ot_at hW0 hvm.symm (hgood _ (List.mem_cons_of_mem _ List.mem_cons_self)) hini
  have hU' : vx_Zq Bundle.tN "UNASSIGNED_STACK" Bundle.steD A s' s'.heap := by rw [hhp]; exact vx_Zq.moved hW0.alike (hU.kept hS.2.1)
  have hN' : vx_Zq Bundle.tN "SUPPRESSED_SENTINEL" Bundle.listD A s' s'.heap := by rw [hhp]; exact vx_Zq.moved hW0.alike (hN.kept hS.2.1)
  have h : ∀ w ∈ Bundle.ownAtoms own ic cls names, w.before args s' = true := vx_own hat' (vx_isRefq hU'.1) (vx_isRefq hN'.1) hU'.2.word hN'.2.word
  have hown' : s'.vm.findClass own = some m.cls := by rw [hvm]; exact hown
  have hins : (Cond.instantiable cls 6).before args s' = true := h _ (by simp [Bundle.ownAtoms])
  obtain ⟨vm₁, cX, kX, hfX, hkX, -, -, X₁, st1⟩ := Y.newCold hexec (own := own) (C := cls) (index := ik) (n := 6) hown' hk' hins hini'
    (g := F0 m pc ls rest) rfl (by rw [hb]; exact d0) (Nat.le_refl _) (Nat.le_refl _)
  generalize hT1 : (T.setVm vm₁).pushCell { cls := cX, slots := kX.instanceTypes.map defaultValue, vm := .none } = T1 at X₁ st1
  have hcat : (Value.ref T.heap.size).category = 1 := rfl
  have hcellA : T1.heap[T.heap.size]? = some (freshCell cX kX) := by rw [← hT1]; exact State.heap_pushCell_size _ _
  have d3' : decode c.code (pc + 3) = .ok (.dup, 1) := by rw [hb]; exact d3
  have d4' : decode c.code (pc + 4) = .ok (.ldc is, 2) := by rw [hb]; exact d4
  have hstr' : vk_R own is text sa s' := vk_R.warm hW0 hstr
  obtain ⟨U, hsteps, hrun, hend, hW, hsame, ce, hce, hO⟩ := X₁.ctorThrowS hexec htr (own := own) (cls := cls) (names := names) (ic := ic) hown' hcls hnames h (fun x hx => nomatch hx) hfX hkX hcellA (by rw [hhp, hT]; exact Nat.le_refl _) (msg := .ref sa) rfl
    (g := { method := m, pc := pc + 6, locals := ls, stack := .ref sa :: .ref T.heap.size :: .ref T.heap.size :: rest, locked := none }) rfl hsize rfl rfl (rest := rest) rfl
    (by rw [hb]; exact d6) (by rw [hb]; exact d9) hout hRframes (by simp only [List.map_cons, List.sum_cons, hcat]; omega) hlocks
  obtain ⟨f1, f2⟩ := vx_frame hsame
  rw [hhp] at f1 f2
  have hWs : s.WarmedH U.vm := State.WarmedH.trans hW0 hW
  have hcl : s.vm.findClass cls = some ce.cls := by
    have h9 := hO.cls
    rw [hvm] at h9
    exact h9
  have hall : s.sameButNew ({ U with vm := s.vm } : State) locs mc ms := by
    subst hA
    obtain ⟨e1, e2⟩ := hsame
    rw [State.setFrames_setFrames] at e1
    have h2 : (T.setVm s.vm).sameButNew ({ U with vm := s.vm } : State) [] (0 + 1) (0 + 6) := ⟨e1, e2⟩
    have h3 := X.same.trans h2
    rw [List.append_nil] at h3
    exact h3.mono hc hs
  refine ⟨U, ?_, .threw T.heap.size, hrun, hend, Or.inr ⟨T.heap.size, rfl, cls, ce, locs, hx U hWs.alike f1 (fun q hq => f2 q hq (fun z hz => nomatch hz)), hce, hO.vm, hcl, hWs, hall, hf⟩⟩
  refine st1 _ ?_
  show Steps p.tables e below (T1.setTop { method := m, pc := pc + 3, locals := ls, stack := .ref T.heap.size :: rest, locked := none }) _
  jvm_step X₁.here [X₁.here.top, hexec, d3', Value.category]
  exact X₁.ldcString hexec (own := own) (text := text) (index := is) (a := sa) hown' hstr'.1 hstr'.2
    (g := { method := m, pc := pc + 4, locals := ls, stack := .ref T.heap.size :: .ref T.heap.size :: rest, locked := none }) rfl d4' _ hsteps
/-- 'throw new E("text")', the text by a wide index -/
theorem vx_throwSW {cc : ByteArray} {pc : Nat} (hexec : p.tables.exec = Jvm.exec) (hb : c.code = cc) (hl : l.stackTraces = false) {own cls text : String} {names : List String} {ik is ic mc ms sa : Nat} {A : Nat → Prop}
    (hown : s.vm.findClass own = some m.cls) (hcls : Bundle.fit cls = true) (hnames : ∀ n ∈ names, Bundle.fit n = true)
    (hk : (Cond.classLink own ik cls).before args s = true) (hini : (Cond.initialized cls).before args s = true) (hstr : vk_R own is text sa s) (hat : ∀ w ∈ vx_atS own ic cls names, w.before args s = true)
    (hgood : ∀ w ∈ Cond.classLink own ik cls :: Cond.initialized cls :: vx_atS own ic cls names, vx_ot w = true)
    (hU : vx_Zq Bundle.tN "UNASSIGNED_STACK" Bundle.steD A s s.heap) (hN : vx_Zq Bundle.tN "SUPPRESSED_SENTINEL" Bundle.listD A s s.heap) (hS : va_S A s.heap H locs) (hsize : ls.size = c.maxLocals)
    (d0 : decode cc pc = .ok (.new ik, 3)) (d3 : decode cc (pc + 3) = .ok (.dup, 1)) (d4 : decode cc (pc + 4) = .ok (.ldc_w is, 3)) (d7 : decode cc (pc + 7) = .ok (.invokespecial ic, 3)) (d10 : decode cc (pc + 10) = .ok (.athrow, 1))
    (hout : ∀ x ∈ c.exceptionTable.toList, covers x (pc + 10) = false)
    (hRframes : names.length + 3 < R.frames) (hRlocals : (rest.map fun v => v.category).sum + (13 * (names.length + 1) + 43) ≤ R.locals) (hRcells : cells + 1 ≤ R.cells) (hRslots : slots + 6 ≤ R.slots) (hlocks : meth.locks = false)
    (hx : ∀ t : State, s.vm.Alike t.vm → H.size ≤ t.heap.size → (∀ q : Nat, q < H.size → t.heap[q]? = H[q]?) → XC cls s t)
    (hf : ∀ z ∈ locs, free z.base) (hc : cells + 1 ≤ mc) (hs : slots + 6 ≤ ms) :
    W p l e R s m args below meth c H locs cells slots (vx_MQ below Qc XC args s mc ms free) (F0 m pc ls rest) := by
  intro T hT X
  have htr : e.platform.stackTraces = false := (show e.platform.stackTraces = l.stackTraces by rw [X.admits.platform]).trans hl
  have Y := vx_rebase X (R' := { frames := R.frames, locals := R.locals, cells := 1, slots := 6 }) (Nat.le_refl _) (Nat.le_refl _) hRcells hRslots
  obtain ⟨s', hA⟩ : ∃ z, z = (T.setVm s.vm).setFrames (.invoking m args :: below) := ⟨_, rfl⟩
  rw [← hA] at Y
  have hvm : s'.vm = s.vm := by rw [hA]; rfl
  have hhp : s'.heap = H := by rw [hA]; exact hT
  have hW0 : s.WarmedH s'.vm := by rw [hvm]; exact State.WarmedH.refl s
  have hat' : ∀ w ∈ vx_atS own ic cls names, w.before args s' = true := fun w hw => vx_ot_at hW0 hvm.symm (hgood w (List.mem_cons_of_mem _ (List.mem_cons_of_mem _ hw))) (hat w hw)
  have hk' : (Cond.classLink own ik cls).before args s' = true := vx_ot_at hW0 hvm.symm (hgood _ List.mem_cons_self) hk
  have hini' : (Cond.initialized cls).before args s' = true := vx_ot_at hW0 hvm.symm (hgood _ (List.mem_cons_of_mem _ List.mem_cons_self)) hini
  have hU' : vx_Zq Bundle.tN "UNASSIGNED_STACK" Bundle.steD A s' s'.heap := by rw [hhp]; exact vx_Zq.moved hW0.alike (hU.kept hS.2.1)
  have hN' : vx_Zq Bundle.tN "SUPPRESSED_SENTINEL" Bundle.listD A s' s'.heap := by rw [hhp]; exact vx_Zq.moved hW0.alike (hN.kept hS.2.1)
  have h : ∀ w ∈ Bundle.ownAtoms own ic cls names, w.before args s' = true := vx_own hat' (vx_isRefq hU'.1) (vx_isRefq hN'.1) hU'.2.word hN'.2.word
  have hown' : s'.vm.findClass own = some m.cls := by rw [hvm]; exact hown
  have hins : (Cond.instantiable cls 6).before args s' = true := h _ (by simp [Bundle.ownAtoms])
  obtain ⟨vm₁, cX, kX, hfX, hkX, -, -, X₁, st1⟩ := Y.newCold hexec (own := own) (C := cls) (index := ik) (n := 6) hown' hk' hins hini'
    (g := F0 m pc ls rest) rfl (by rw [hb]; exact d0) (Nat.le_refl _) (Nat.le_refl _)
  generalize hT1 : (T.setVm vm₁).pushCell { cls := cX, slots := kX.instanceTypes.map defaultValue, vm := .none } = T1 at X₁ st1
  have hcat : (Value.ref T.heap.size).category = 1 := rfl
  have hcellA : T1.heap[T.heap.size]? = some (freshCell cX kX) := by rw [← hT1]; exact State.heap_pushCell_size _ _
  have d3' : decode c.code (pc + 3) = .ok (.dup, 1) := by rw [hb]; exact d3
  have d4' : decode c.code (pc + 4) = .ok (.ldc_w is, 3) := by rw [hb]; exact d4
  have hstr' : vk_R own is text sa s' := vk_R.warm hW0 hstr
  obtain ⟨U, hsteps, hrun, hend, hW, hsame, ce, hce, hO⟩ := X₁.ctorThrowS hexec htr (own := own) (cls := cls) (names := names) (ic := ic) hown' hcls hnames h (fun x hx => nomatch hx) hfX hkX hcellA (by rw [hhp, hT]; exact Nat.le_refl _) (msg := .ref sa) rfl
    (g := { method := m, pc := pc + 7, locals := ls, stack := .ref sa :: .ref T.heap.size :: .ref T.heap.size :: rest, locked := none }) rfl hsize rfl rfl (rest := rest) rfl
    (by rw [hb]; exact d7) (by rw [hb]; exact d10) hout hRframes (by simp only [List.map_cons, List.sum_cons, hcat]; omega) hlocks
  obtain ⟨f1, f2⟩ := vx_frame hsame
  rw [hhp] at f1 f2
  have hWs : s.WarmedH U.vm := State.WarmedH.trans hW0 hW
  have hcl : s.vm.findClass cls = some ce.cls := by
    have h9 := hO.cls
    rw [hvm] at h9
    exact h9
  have hall : s.sameButNew ({ U with vm := s.vm } : State) locs mc ms := by
    subst hA
    obtain ⟨e1, e2⟩ := hsame
    rw [State.setFrames_setFrames] at e1
    have h2 : (T.setVm s.vm).sameButNew ({ U with vm := s.vm } : State) [] (0 + 1) (0 + 6) := ⟨e1, e2⟩
    have h3 := X.same.trans h2
    rw [List.append_nil] at h3
    exact h3.mono hc hs
  refine ⟨U, ?_, .threw T.heap.size, hrun, hend, Or.inr ⟨T.heap.size, rfl, cls, ce, locs, hx U hWs.alike f1 (fun q hq => f2 q hq (fun z hz => nomatch hz)), hce, hO.vm, hcl, hWs, hall, hf⟩⟩
  refine st1 _ ?_
  show Steps p.tables e below (T1.setTop { method := m, pc := pc + 3, locals := ls, stack := .ref T.heap.size :: rest, locked := none }) _
  jvm_step X₁.here [X₁.here.top, hexec, d3', Value.category]
  exact X₁.ldcStringW hexec (own := own) (text := text) (index := is) (a := sa) hown' hstr'.1 hstr'.2
    (g := { method := m, pc := pc + 4, locals := ls, stack := .ref T.heap.size :: .ref T.heap.size :: rest, locked := none }) rfl d4' _ hsteps
end Ends
section Bodies
variable {l : Launch}
theorem vx_ofW {y : MethodName} {ws ws' : List Cond} {rm : Room} {Pc : Array Value → State → Prop} {Qc : Array Value → State → Outcome → State → Prop} {XC : String → State → State → Prop} {mc ms : Nat} {free : Addr → Prop} {cc : ByteArray} {maxL : Nat} {ret : Option FieldType}
    (hy : plainName y.cls = true) (hw : ws = Cond.code y cc maxL ret :: ws')
    (body : ∀ p e s m args below meth c s₁, BodyLoose p l y (headSpec ws rm) cc maxL ret e s m args below meth c s₁ → c.maxLocals = maxL → (∀ x ∈ c.exceptionTable.toList, False) → Pc args s →
      W p l e (headSpec ws rm).room s m args below meth c s.heap [] 0 0 (vx_MQ below Qc XC args s mc ms free) (entryFrame m args maxL)) : vx_Met l y ws rm Pc Qc XC mc ms free := by
  refine MetFree.of_bodyS (code := cc) (maxLocals := maxL) (ret := ret) hy ?_ ?_
  · intro args s m h hn
    obtain ⟨meth, c, h1, h2, h3, h4, h5, h6, -, -⟩ := Cond.code_spec hn (atoms_spec (ws := ws) h _ (by rw [hw]; exact List.mem_cons_self))
    exact ⟨meth, c, h1, h2, h3, h4, h5, h6⟩
  · intro p e s m args below meth c s₁ B hml hP _
    have hh0 : s₁.heap = s.heap := by rw [B.state]; rfl
    have ht : ∀ x ∈ c.exceptionTable.toList, False := by
      obtain ⟨meth9, c9, h1, h2, -, -, -, -, h7, -⟩ := Cond.code_spec B.named (atoms_spec (ws := ws) B.pre _ (by rw [hw]; exact List.mem_cons_self))
      cases Option.some.inj (h1.symm.trans B.method)
      cases Option.some.inj (h2.symm.trans (Stand.of_body B).code)
      intro x hx
      rw [Array.isEmpty_iff.mp h7] at hx
      cases hx
    obtain ⟨t, a1, o, b1, b2, b3⟩ := body p e s m args below meth c s₁ B hml ht hP s₁ hh0 (Stand.of_body B)
    exact ⟨t, o, a1, b1, b2, b3⟩
/-- the table of a body with handlers -/
theorem vx_table {p : Program} {x y : MethodName} {S : Spec} {cc bytes : ByteArray} {maxL maxL' : Nat} {ret ret' : Option FieldType} {e : Env} {s s₁ : State} {m : MethodId} {args : Array Value} {below : List Frame} {meth : Method} {c : Code} {hh : List (Nat × Nat × Nat × Nat)}
    (B : BodyLoose p l y S cc maxL ret e s m args below meth c s₁) (h : (Cond.codeWith y bytes maxL' ret' hh).before args s = true) : c.exceptionTable.toList = tableOf hh := by
  obtain ⟨m9, meth9, c9, hn9, h1, h2, -, -, h6, -⟩ := Cond.codeWith_spec h
  cases Option.some.inj (hn9.symm.trans B.named)
  cases Option.some.inj (h1.symm.trans B.method)
  cases Option.some.inj (h2.symm.trans (Stand.of_body B).code)
  rw [← h6, table_eq]
end Bodies
end VXA
/-! ===== END ===== -/
/-! ===== BEGIN a static call of a method with an exception table ===== -/
section VXS
variable {p : Program} {l : Launch} {e : Env} {R : Room} {s : State} {m : MethodId} {args : Array Value} {below : List Frame} {meth : Method} {c : Code} {T : State} {H : Heap} {locs : List Loc} {cells slots : Nat}
abbrev vx_CSW (R : Room) (s : State) (args : Array Value) (own : String) (index : Nat) (y : MethodName) (bytes : ByteArray) (maxL : Nat) (ret : Option FieldType) (hh : List (Nat × Nat × Nat × Nat)) (ws : List Cond) (rm : Room) (mc ms n : Nat) : Prop :=
  (rm.cells = mc ∧ rm.slots = ms ∧ rm.frames + 1 ≤ R.frames ∧ 8 + (maxL + 11) + rm.locals ≤ R.locals ∧ (∀ w ∈ ws, ∀ (a' : Array Value) (U : State), s.WarmedH U.vm → w.before a' U = true) ∧ Cond.codeWith y bytes maxL ret hh ∈ ws) ∧
  (Cond.codeWith y bytes maxL ret hh).before args s = true ∧ (Cond.initialized y.cls).before args s = true ∧ (y.cls ≠ "java/lang/invoke/MethodHandle" ∧ y.cls ≠ "java/lang/invoke/VarHandle") ∧
  (∀ sig, parseMethodDescriptor y.desc = some sig → n = sig.parameters.length) ∧ (Cond.methodLink own index y).before args s = true ∧ (Cond.static y).before args s = true
theorem vx_cwSW {own : String} {index maxL mc ms : Nat} {y : MethodName} {bytes : ByteArray} {ret : Option FieldType} {hh : List (Nat × Nat × Nat × Nat)} {Ts ws ws' : List Cond} {rm : Room} (n : Nat) (ht : ∀ w ∈ Ts, w.before args s = true) (hT : GoodIn Ts (va_wsS own index y ws)) (hw : ws = Cond.codeWith y bytes maxL ret hh :: ws') (hrc : rm.cells = mc) (hrs : rm.slots = ms)
    (hd : y.cls ≠ "java/lang/invoke/MethodHandle" ∧ y.cls ≠ "java/lang/invoke/VarHandle" ∧ (parseMethodDescriptor y.desc).map (fun d => d.parameters.length) = some n) (hR : rm.frames + 1 ≤ R.frames ∧ 8 + (maxL + 11) + rm.locals ≤ R.locals) :
    vx_CSW R s args own index y bytes maxL ret hh ws rm mc ms n := by
  have ok : ∀ w ∈ va_wsS own index y ws, w.before args s = true := fun w h => ht w (hT w h).1
  have hG : GoodIn Ts ws := fun w h => hT w (by unfold va_wsS; exact List.mem_append_right _ h)
  have hc : Cond.codeWith y bytes maxL ret hh ∈ ws := by rw [hw]; exact List.mem_cons_self
  refine ⟨⟨hrc, hrs, hR.1, hR.2, pay_in ht hG, hc⟩, ht _ (hG _ hc).1, ok _ (by simp [va_wsS]), ⟨hd.1, hd.2.1⟩, fun sig h => ?_, ok _ (by simp [va_wsS]), ok _ (by simp [va_wsS])⟩
  have h2 := hd.2.2
  rw [h] at h2
  exact (Option.some.inj h2).symm
theorem vx_callSW (X : Stand p l e R s m args below meth c T locs cells slots) (hexec : p.tables.exec = Jvm.exec) {own : String} {index : Nat} {y : MethodName} {bytes : ByteArray} {maxL : Nat} {ret : Option FieldType} {hh : List (Nat × Nat × Nat × Nat)}
    (hown : s.vm.findClass own = some m.cls) (hlink : (Cond.methodLink own index y).before args s = true) (hstat : (Cond.static y).before args s = true) (hinit : (Cond.initialized y.cls).before args s = true)
    (hcode : (Cond.codeWith y bytes maxL ret hh).before args s = true) (hy : y.cls ≠ "java/lang/invoke/MethodHandle" ∧ y.cls ≠ "java/lang/invoke/VarHandle")
    {W9 : Nat} {Pre : Pt → Array Value → Prop} {Post : Pt → Array Value → Option Value → Pt → Prop} (hK : Back l R p e below s args y 3 W9 Pre Post)
    {g : JFrame} (hg : g.method = m) (hsize : g.locals.size = c.maxLocals) {argsL rest : List Value} (hlen : ∀ sig, parseMethodDescriptor y.desc = some sig → argsL.length = sig.parameters.length)
    (hstack : g.stack = argsL.reverse ++ rest) (hW : 2 * g.monitorRoom + (rest.map fun v => v.category).sum ≤ W9) (hdg : decode c.code g.pc = .ok (.invokestatic index, 3))
    (hpre : ∀ vm₁, s.WarmedH vm₁ → Pre ⟨T.setVm vm₁, locs, cells, slots⟩ argsL.toArray) :
    ∃ (v : Option Value) (vm₁ : Vm) (B : Pt), s.WarmedH vm₁ ∧ Stand p l e R s m args below meth c B.U B.locs B.cells B.slots ∧ Post ⟨T.setVm vm₁, locs, cells, slots⟩ argsL.toArray v B ∧
      ∀ target, Steps p.tables e below (B.U.setTop { g with pc := g.pc + 3, stack := v.toList ++ rest }) target → Steps p.tables e below (T.setTop g) target := by
  obtain ⟨mk, methM, cM, hnamed, hmethM, -, -, -, -, -, -, hsigM⟩ := Cond.codeWith_spec hcode
  have hstatic : methM.isStatic = true := Cond.static_spec hnamed hmethM hstat
  obtain ⟨kP, hkP, -⟩ := className_of_methodNamed hnamed
  have hinitP : kP.init = .initialized := Cond.initialized_spec (findClass_of_methodNamed hnamed) hkP hinit
  obtain ⟨vm₁, X₁, hstep₁⟩ := X.invokestatic hexec hown hlink hnamed hmethM hstatic hkP hinitP hy (g := g) hg (argsL := argsL) (rest := rest) (hlen _ hsigM) hstack hdg
  obtain ⟨v, B, X', hpost, hsteps⟩ := hK m meth c ⟨T.setVm vm₁, locs, cells, slots⟩ { g with stack := rest } (.invokestatic index) mk argsL.toArray X₁ hg hsize hdg hW (X₁.named hnamed) (hpre vm₁ X₁.warmed)
  exact ⟨v, vm₁, B, X₁.warmed, X', hpost, fun target h => hstep₁ _ fun acts => by rw [doInvoke_state]; exact hsteps.trans h⟩
theorem vx_runSW {y : MethodName} {bytes cc : ByteArray} {maxL nL mc ms n index : Nat} {ret : Option FieldType} {hh : List (Nat × Nat × Nat × Nat)} {ws : List Cond} {rm : Room} {Pc : Array Value → State → Prop} {Qc : Array Value → State → Outcome → State → Prop} {free : Addr → Prop} {Ts : List Cond} {own : String} {As rest : List Value} {g : JFrame}
    (S : CallFix p m c cc nL s args Ts own) (hM : Met l y ws rm Pc Qc mc ms free) (cw : vx_CSW R s args own index y bytes maxL ret hh ws rm mc ms n) (hp : PreS s H Pc As)
    (hg : g.method = m) (hn : As.length = n) (hsize : g.locals.size = nL) (hstack : g.stack = As.reverse ++ rest) (hW : 2 * g.monitorRoom + (rest.map fun v => v.category).sum ≤ 8) (hdg : decode cc g.pc = .ok (.invokestatic index, 3)) (hf : cells + mc ≤ R.cells ∧ slots + ms ≤ R.slots) :
    va_Run p l e R s m args below meth c H locs cells slots mc ms g rest (Qc As.toArray) (free) := by
  obtain ⟨⟨hrc, hrs, hfr, hlo, hws, hcw⟩, hcode, hini, hy, hlen, hl, hstt⟩ := cw
  have hK : Back l R p e below s args y 3 8 (PreOf R mc ms Pc) (PostOf Qc mc ms free) := va_backW (hh := hh) (bytes := bytes) (maxL := maxL) (ret := ret) hM hp.1 hrc hrs hfr hlo hws hcw (fun a' U hW => word_at hW (Or.inl (by first | rfl | simp [Cond.onTables, Cond.keeps, Cond.steady])) hini)
  obtain ⟨hx, hb, hml, ho, -⟩ := S
  intro T hT X
  obtain ⟨v, vm₁, ⟨U', l2, c2, s2⟩, hW₁, X', ⟨g', mk, t, L, e1, e2, hq, h1, hL, h2, h3⟩, st⟩ := vx_callSW X hx (hh := hh) (bytes := bytes) (maxL := maxL) (ret := ret) ho hl hstt hini hcode hy hK hg (hsize.trans hml.symm) (argsL := As) (rest := rest) (fun sig h => hn.trans (hlen sig h)) hstack hW (by rw [hb]; exact hdg)
    (fun vm₁ hW₁ => ⟨hf.1, hf.2, hp.2 (T.setVm vm₁) hT hW₁⟩)
  dsimp only [Pt.U, Pt.locs, Pt.cells, Pt.slots] at X' e1 e2 h1 h2 h3 st
  subst h1; subst h2; subst h3
  exact ⟨v, (T.setVm vm₁).calling g' mk As.toArray, t, U', L, hT, X', hL, e1, e2, hq, st⟩
/-- not caught here, past rows that name other classes: it goes on to the caller -/
theorem vx_outP {p : Program} {l : Launch} {e : Env} {R : Room} {s : State} {m : MethodId} {args : Array Value} {below : List Frame} {meth : Method} {c : Code} {H : Heap} {locs : List Loc} {cells slots : Nat} {free : Addr → Prop} {ls : Array Slot} {rest : List Value} {Qc : Array Value → State → Outcome → State → Prop} {XC : String → State → State → Prop}
    {pc : Nat} {own E : String} {ce : Cell} {q : Addr} {mc ms : Nat} (hown : s.vm.findClass own = some m.cls) (hlocks : meth.locks = false)
    (hpass : ∀ z ∈ c.exceptionTable.toList, covers z pc = false ∨ (z.catchType ≠ 0 ∧ ∃ nm : String, (Cond.classLink own z.catchType nm).before args s = true ∧ va_Nc E nm s)) (hcell : H[q]? = some ce) (hv : ce.vm = .none) (hcl : s.vm.findClass E = some ce.cls)
    (hx : ∀ t : State, t.heap = H → s.vm.Alike t.vm → XC E s t) (hf : ∀ z ∈ locs, free z.base) (hc : cells ≤ mc) (hs : slots ≤ ms) :
    vx_W p l e R s m args below meth c H locs cells slots (vx_MQ below Qc XC args s mc ms free) (F0 m pc ls rest) q := by
  intro T hT X
  have hpl : e.platform.magicAccessors = ({} : Platform).magicAccessors := by rw [X.admits.platform]
  obtain ⟨vm', hW', X', st⟩ := X.outThrough hlocks q (g := F0 m pc ls rest) rfl rfl rfl (cell := ce) (by rw [hT]; exact hcell) (by rw [hv]; rfl)
    (by obtain ⟨k9, h9, -⟩ := Vm.findClass_spec hcl; exact ⟨k9, h9⟩) (fun z hz => by
      rcases hpass z hz with h | ⟨hz0, nm, hl1, hn1⟩
      · exact Or.inl h
      · obtain ⟨c6, hc6, hcl6⟩ := Cond.classLink_spec hown hl1 e.platform hpl
        obtain ⟨a8, b8, h1, h2, h3⟩ := hn1
        cases Option.some.inj (h1.symm.trans hcl)
        cases Option.some.inj (h2.symm.trans hc6)
        exact Or.inr ⟨hz0, _, hcl6, h3⟩)
  obtain ⟨g₀, hfr⟩ := X'.frames_eq
  have hcell9 : ((T.setVm vm').setFrames (.throwing q :: below)).heap[q]? = some ce := by
    show T.heap[q]? = some ce
    rw [hT]; exact hcell
  have hend : Ended ((T.setVm vm').setFrames (.throwing q :: below)) below (.threw q) := State.frames_setFrames _ (State.cur_lt_of_frames hfr)
  refine ⟨(T.setVm vm').setFrames (.throwing q :: below), ?_, .threw q, X'.here.running, hend, Or.inr ⟨q, rfl, E, ce, locs, hx _ hT (X'.ends _).1.alike, hcell9, hv, hcl, (X'.ends _).1, (X'.ends _).2.mono hc hs, hf⟩⟩
  rw [X.pushThrowing_eq]
  exact st
/-- a thing of a world lies in the heap -/
theorem vx_lt {D : va_G} {cl : List vw_C} {ws : va_W} {H1 : Heap} (h : va_P D cl ws H1) {k : Nat} {q : Nat × va_E} (hk : ws[k]? = some q) : q.1 < H1.size := (h k q hk).lt
end VXS
/-! ===== END ===== -/
/-! ===== BEGIN methods with a table of their own: called by a name, returning or throwing ===== -/
section VXH
/-! vx_backW, vx_callVX, vx_callSX, vx_callVW, vx_runVW, vx_runVX, vx_runSX, vx_ofWH follow the same proofs as their sisters above (Free/Laws.lean, Shelf42/LK1.lean); vx_outP calls Shelf42/NT130.lean (outThrough). -/
section
variable {l : Launch} {R : Room} {p : Program} {e : Env} {below : List Frame} {s : State} {sargs : Array Value} {y : MethodName} {len W9 : Nat}
theorem vx_backW {ws : List Cond} {rm : Room} {Pc : Array Value → State → Prop} {Qc : Array Value → State → Outcome → State → Prop} {XC : String → State → State → Prop} {mc ms : Nat} {free : Addr → Prop} {bytes : ByteArray} {maxL : Nat} {ret : Option FieldType} {hh : List (Nat × Nat × Nat × Nat)}
    (hM : vx_Met l y ws rm Pc Qc XC mc ms free) (hblind : FrameBlind Pc) (hrc : rm.cells = mc) (hrs : rm.slots = ms)
    (hframes : rm.frames + 1 ≤ R.frames) (hlocals : W9 + (maxL + 11) + rm.locals ≤ R.locals)
    (hws : ∀ w ∈ ws, ∀ a' U, s.WarmedH U.vm → w.before a' U = true) (hcode : Cond.codeWith y bytes maxL ret hh ∈ ws) (hinit : ∀ a' U, s.WarmedH U.vm → (Cond.initialized y.cls).before a' U = true) :
    vx_Back l R p e below s sargs y len W9 (PreOf R mc ms Pc) (PostOf Qc mc ms free) (vx_Post XC mc ms free) := by
  intro m meth c A g ig mk a X hg hsize hdg hW hn hp
  have h1 : (headSpec ws rm).pre.before a A.U = true := atoms_intro fun w hw => hws w hw _ _ X.warmed
  have h2 : (Cond.codeWith y bytes maxL ret hh).before a A.U = true := hws _ hcode _ _ X.warmed
  have h3 : (Cond.initialized y.cls).before a A.U = true := hinit _ _ X.warmed
  have h4 : A.cells + (headSpec ws rm).room.cells ≤ R.cells := by rw [show (headSpec ws rm).room.cells = mc from hrc]; exact hp.1
  have h5 : A.slots + (headSpec ws rm).room.slots ≤ R.slots := by rw [show (headSpec ws rm).room.slots = ms from hrs]; exact hp.2.1
  have hPc : Pc a (A.U.calling g mk a) := hblind _ _ _ _ hp.2.2
  obtain ⟨U, Ls, c0, s0⟩ := A
  dsimp only [Pt.U, Pt.locs, Pt.cells, Pt.slots] at h1 h2 h3 h4 h5 X hn hPc ⊢
  obtain ⟨m9, methY, cY, hn9, hmY, hcY, -, hlY, -⟩ := Cond.codeWith_spec h2
  cases Option.some.inj (hn9.symm.trans hn)
  obtain ⟨kY, hkY, -⟩ := className_of_methodNamed hn
  have hinitY : kY.init = .initialized := Cond.initialized_spec (findClass_of_methodNamed hn) hkY h3
  have h : At U g.method c below := by rw [hg]; exact X.here
  have hlocals9 : W9 + (maxL + 11) + (headSpec ws rm).room.locals ≤ R.locals := hlocals
  have happ : (headSpec ws rm).appliesLoose y e.platform (U.calling g mk a) = true :=
    Spec.appliesLoose_calling (g := g) h hdg hn hkY hinitY
      (X.room_calling (g := g) (R' := (headSpec ws rm).room) hsize hmY hcY hframes (by rw [hlY]; omega) h4 h5) h1
  obtain ⟨mid, hmid⟩ := h.above
  have hfr : (U.setTop g).frames = (.java g :: mid) ++ below := by rw [State.frames_setTop' g h.top, hmid]; rfl
  obtain ⟨o, s₂, hsteps, -, hend, hq⟩ := Steps.callFree hM p X.admits X.cas X.clock (acts := []) hfr happ hPc trivial
  have hq' : vx_Q Qc XC mc ms free a (U.calling g mk a) o s₂ := hq
  rw [State.frames_setTop' g h.top] at hend
  obtain ⟨g₀, hg0⟩ := Option.isSome_iff_exists.mp h.top
  obtain ⟨r, hr⟩ := State.topJava?_eq_some.mp hg0
  have hr' : (({ U with heap := s₂.heap, slotsUsed := s₂.slotsUsed } : State).setVm s₂.vm).frames = .java g₀ :: r := hr
  rcases hq' with ⟨hqc, L, hfe, hL⟩ | ⟨q, rfl, E, ce, L, hx, hce, hcv, hcl, hW₂, hsm, hL⟩
  · obtain ⟨⟨v, rfl⟩, hW₂, e2, q2, q3, q4, q5, q6⟩ := id hfe
    have e3 : s₂ = ({ (U.calling g mk a).setFrames s₂.frames with heap := s₂.heap, slotsUsed := s₂.slotsUsed } : State).setVm s₂.vm := by
      have : s₂ = ({ s₂ with vm := (U.calling g mk a).vm } : State).setVm s₂.vm := rfl
      rw [e2] at this
      exact this
    obtain ⟨c₂, i₂, len₂, hc₂, hd₂, hf₂⟩ := hend
    have hW' : U.WarmedH s₂.vm := hW₂
    have hcc : c₂ = c := by
      have h1 : s₂.code? g.method = U.code? g.method := by
        rw [State.code?_eq, State.code?_eq, hW'.alike.method?]
      exact Option.some.inj (hc₂.symm.trans (h1.trans h.code))
    subst hcc
    have hlen : len₂ = len := by rw [hdg] at hd₂; cases hd₂; rfl
    subst hlen
    have hs₂ : s₂ = (({ U with heap := s₂.heap, slotsUsed := s₂.slotsUsed } : State).setVm s₂.vm).setTop { g with pc := g.pc + len₂, stack := v.toList ++ g.stack } := by
      refine e3.trans ?_
      rw [hf₂, State.calling_eq h.top, State.setFrames_setFrames, State.setTop_of_frames _ hr', hr]
      rfl
    have hsame : U.sameButNew ({ U with heap := s₂.heap, slotsUsed := s₂.slotsUsed } : State) L mc ms := by
      refine ⟨?_, q2, q3, q4, q5, q6⟩
      obtain ⟨t, ht, -⟩ := State.frames_cons hr
      show ({ U with heap := s₂.heap, slotsUsed := s₂.slotsUsed } : State) = { U.setFrames U.frames with heap := s₂.heap, slotsUsed := s₂.slotsUsed }
      rw [State.setFrames_self ht]
    subst hg
    refine Or.inl ⟨v, ⟨(({ U with heap := s₂.heap, slotsUsed := s₂.slotsUsed } : State).setVm s₂.vm), Ls ++ L, c0 + mc, s0 + ms⟩,
      ⟨X.admits, X.cas, X.clock, X.frames, X.room, X.hears, X.method, X.code, (X.here.setHeapUsed s₂.heap s₂.slotsUsed).setVm hW'.alike, X.tail, State.WarmedH.trans X.warmed hW', X.limits, X.bytes, X.same.trans (hsame.setVm s.vm)⟩,
      ⟨g, mk, s₂, L, rfl, rfl, hqc, rfl, hL, rfl, rfl⟩, ?_⟩
    show Steps p.tables e below _ ((({ U with heap := s₂.heap, slotsUsed := s₂.slotsUsed } : State).setVm s₂.vm).setTop { g with pc := g.pc + len₂, stack := v.toList ++ g.stack })
    rw [← hs₂]
    exact hsteps
  · obtain ⟨e2, q2, q3, q4, q5, q6⟩ := id hsm
    have e3 : s₂ = ({ (U.calling g mk a).setFrames s₂.frames with heap := s₂.heap, slotsUsed := s₂.slotsUsed } : State).setVm s₂.vm := by
      have : s₂ = ({ s₂ with vm := (U.calling g mk a).vm } : State).setVm s₂.vm := rfl
      rw [e2] at this
      exact this
    have hf₂ : s₂.frames = .throwing q :: .java g :: U.frames.tail := hend
    have hW' : U.WarmedH s₂.vm := hW₂
    have hs₂ : s₂ = ((({ U with heap := s₂.heap, slotsUsed := s₂.slotsUsed } : State).setVm s₂.vm).setTop g).pushFrame (.throwing q) := by
      refine e3.trans ?_
      rw [hf₂, State.calling_eq h.top, State.setFrames_setFrames, State.pushFrame, State.frames_setTop _ hr', State.setTop_of_frames _ hr', State.setFrames_setFrames, hr]
      rfl
    have hsame : U.sameButNew ({ U with heap := s₂.heap, slotsUsed := s₂.slotsUsed } : State) L mc ms := by
      refine ⟨?_, q2, q3, q4, q5, q6⟩
      obtain ⟨t, ht, -⟩ := State.frames_cons hr
      show ({ U with heap := s₂.heap, slotsUsed := s₂.slotsUsed } : State) = { U.setFrames U.frames with heap := s₂.heap, slotsUsed := s₂.slotsUsed }
      rw [State.setFrames_self ht]
    subst hg
    refine Or.inr ⟨q, ⟨(({ U with heap := s₂.heap, slotsUsed := s₂.slotsUsed } : State).setVm s₂.vm), Ls ++ L, c0 + mc, s0 + ms⟩,
      ⟨X.admits, X.cas, X.clock, X.frames, X.room, X.hears, X.method, X.code, (X.here.setHeapUsed s₂.heap s₂.slotsUsed).setVm hW'.alike, X.tail, State.WarmedH.trans X.warmed hW', X.limits, X.bytes, X.same.trans (hsame.setVm s.vm)⟩,
      ⟨g, mk, s₂, L, E, ce, rfl, rfl, hx, hce, hcv, hcl, rfl, hL, rfl, rfl⟩, ?_⟩
    show Steps p.tables e below _ (((({ U with heap := s₂.heap, slotsUsed := s₂.slotsUsed } : State).setVm s₂.vm).setTop g).pushFrame (.throwing q))
    rw [← hs₂]
    exact hsteps
end
variable {p : Program} {l : Launch} {e : Env} {R : Room} {s : State} {m : MethodId} {args : Array Value} {below : List Frame} {meth : Method} {c : Code} {T : State} {H : Heap} {locs : List Loc} {cells slots : Nat}
theorem vx_callVX (X : Stand p l e R s m args below meth c T locs cells slots) (hexec : p.tables.exec = Jvm.exec) {own C : String} {index : Nat} {y : MethodName} {bytes : ByteArray} {maxL : Nat} {ret : Option FieldType} {hh : List (Nat × Nat × Nat × Nat)}
    (hown : s.vm.findClass own = some m.cls) (hlink : (Cond.methodLink own index y).before args s = true) (hinst : (Cond.instanceMethod y).before args s = true) (hsel : (Cond.selects C y y).before args s = true)
    (hcode : (Cond.codeWith y bytes maxL ret hh).before args s = true) (hy : y.cls ≠ "java/lang/invoke/MethodHandle" ∧ y.cls ≠ "java/lang/invoke/VarHandle")
    {W9 : Nat} {Pre : Pt → Array Value → Prop} {Post : Pt → Array Value → Option Value → Pt → Prop} {PostX : Pt → Array Value → Addr → Pt → Prop} (hK : vx_Back l R p e below s args y 3 W9 Pre Post PostX)
    {b : Addr} {cellB : Cell} (hcell : T.heap[b]? = some cellB) (hobj : cellB.vm.isStatics = false) (hcls : s.vm.findClass C = some cellB.cls)
    {g : JFrame} (hg : g.method = m) (hsize : g.locals.size = c.maxLocals) {argsL rest : List Value} (hlen : ∀ sig, parseMethodDescriptor y.desc = some sig → argsL.length = sig.parameters.length)
    (hstack : g.stack = argsL.reverse ++ .ref b :: rest) (hW : 2 * g.monitorRoom + (rest.map fun v => v.category).sum ≤ W9) (hdg : decode c.code g.pc = .ok (.invokevirtual index, 3))
    (hpre : ∀ vm₁, s.WarmedH vm₁ → Pre ⟨T.setVm vm₁, locs, cells, slots⟩ (Value.ref b :: argsL).toArray) :
    (∃ (v : Option Value) (vm₁ : Vm) (B : Pt), s.WarmedH vm₁ ∧ Stand p l e R s m args below meth c B.U B.locs B.cells B.slots ∧ Post ⟨T.setVm vm₁, locs, cells, slots⟩ (Value.ref b :: argsL).toArray v B ∧
      ∀ target, Steps p.tables e below (B.U.setTop { g with pc := g.pc + 3, stack := v.toList ++ rest }) target → Steps p.tables e below (T.setTop g) target) ∨
    (∃ (q : Addr) (vm₁ : Vm) (B : Pt), s.WarmedH vm₁ ∧ Stand p l e R s m args below meth c B.U B.locs B.cells B.slots ∧ PostX ⟨T.setVm vm₁, locs, cells, slots⟩ (Value.ref b :: argsL).toArray q B ∧
      Steps p.tables e below (T.setTop g) ((B.U.setTop { g with stack := rest }).pushFrame (.throwing q))) := by
  obtain ⟨mk, methM, hnamed, hmethM, hstM, habM⟩ := Cond.instanceMethod_spec hinst
  obtain ⟨m8, methM', cM, hn8, hmethM', -, -, -, -, -, -, hsigM⟩ := Cond.codeWith_spec hcode
  cases Option.some.inj (hn8.symm.trans hnamed)
  cases hmethM.symm.trans hmethM'
  obtain ⟨c2, r2, m2, q1, q2, q3, q4, kP, hkP, hkPi⟩ := Cond.selects_spec hsel
  cases hcls.symm.trans q1
  cases (State.methodFound?_of_named hnamed hy).symm.trans q2
  cases hnamed.symm.trans q3
  have hselP : selectMethod e.platform s.vm cellB.cls mk = .method mk := by rw [Launch.admits_selectMethod X.admits]; exact q4
  obtain ⟨vm₁, X₁, hstep₁⟩ := X.invokevirtual hexec hown hlink hnamed hmethM hstM hkP hkPi hy (a := b) (cell := cellB) hcell
    (fun z h => by rw [h] at hobj; cases hobj) hselP hmethM habM hkP hkPi (g := g) hg (argsL := argsL) (rest := rest) (hlen _ hsigM) hstack hdg
  rcases hK m meth c ⟨T.setVm vm₁, locs, cells, slots⟩ { g with stack := rest } (.invokevirtual index) mk (Value.ref b :: argsL).toArray X₁ hg hsize hdg hW (X₁.named hnamed) (hpre vm₁ X₁.warmed) with ⟨v, B, X', hpost, hsteps⟩ | ⟨q, B, X', hpost, hsteps⟩
  · exact Or.inl ⟨v, vm₁, B, X₁.warmed, X', hpost, fun target h => hstep₁ _ fun acts => by rw [doInvoke_state]; exact hsteps.trans h⟩
  · exact Or.inr ⟨q, vm₁, B, X₁.warmed, X', hpost, hstep₁ _ fun acts => by rw [doInvoke_state]; exact hsteps⟩
theorem vx_callSX (X : Stand p l e R s m args below meth c T locs cells slots) (hexec : p.tables.exec = Jvm.exec) {own : String} {index : Nat} {y : MethodName} {bytes : ByteArray} {maxL : Nat} {ret : Option FieldType} {hh : List (Nat × Nat × Nat × Nat)}
    (hown : s.vm.findClass own = some m.cls) (hlink : (Cond.methodLink own index y).before args s = true) (hstat : (Cond.static y).before args s = true) (hinit : (Cond.initialized y.cls).before args s = true)
    (hcode : (Cond.codeWith y bytes maxL ret hh).before args s = true) (hy : y.cls ≠ "java/lang/invoke/MethodHandle" ∧ y.cls ≠ "java/lang/invoke/VarHandle")
    {W9 : Nat} {Pre : Pt → Array Value → Prop} {Post : Pt → Array Value → Option Value → Pt → Prop} {PostX : Pt → Array Value → Addr → Pt → Prop} (hK : vx_Back l R p e below s args y 3 W9 Pre Post PostX)
    {g : JFrame} (hg : g.method = m) (hsize : g.locals.size = c.maxLocals) {argsL rest : List Value} (hlen : ∀ sig, parseMethodDescriptor y.desc = some sig → argsL.length = sig.parameters.length)
    (hstack : g.stack = argsL.reverse ++ rest) (hW : 2 * g.monitorRoom + (rest.map fun v => v.category).sum ≤ W9) (hdg : decode c.code g.pc = .ok (.invokestatic index, 3))
    (hpre : ∀ vm₁, s.WarmedH vm₁ → Pre ⟨T.setVm vm₁, locs, cells, slots⟩ argsL.toArray) :
    (∃ (v : Option Value) (vm₁ : Vm) (B : Pt), s.WarmedH vm₁ ∧ Stand p l e R s m args below meth c B.U B.locs B.cells B.slots ∧ Post ⟨T.setVm vm₁, locs, cells, slots⟩ argsL.toArray v B ∧
      ∀ target, Steps p.tables e below (B.U.setTop { g with pc := g.pc + 3, stack := v.toList ++ rest }) target → Steps p.tables e below (T.setTop g) target) ∨
    (∃ (q : Addr) (vm₁ : Vm) (B : Pt), s.WarmedH vm₁ ∧ Stand p l e R s m args below meth c B.U B.locs B.cells B.slots ∧ PostX ⟨T.setVm vm₁, locs, cells, slots⟩ argsL.toArray q B ∧
      Steps p.tables e below (T.setTop g) ((B.U.setTop { g with stack := rest }).pushFrame (.throwing q))) := by
  obtain ⟨mk, methM, cM, hnamed, hmethM, -, -, -, -, -, -, hsigM⟩ := Cond.codeWith_spec hcode
  have hstatic : methM.isStatic = true := Cond.static_spec hnamed hmethM hstat
  obtain ⟨kP, hkP, -⟩ := className_of_methodNamed hnamed
  have hinitP : kP.init = .initialized := Cond.initialized_spec (findClass_of_methodNamed hnamed) hkP hinit
  obtain ⟨vm₁, X₁, hstep₁⟩ := X.invokestatic hexec hown hlink hnamed hmethM hstatic hkP hinitP hy (g := g) hg (argsL := argsL) (rest := rest) (hlen _ hsigM) hstack hdg
  rcases hK m meth c ⟨T.setVm vm₁, locs, cells, slots⟩ { g with stack := rest } (.invokestatic index) mk argsL.toArray X₁ hg hsize hdg hW (X₁.named hnamed) (hpre vm₁ X₁.warmed) with ⟨v, B, X', hpost, hsteps⟩ | ⟨q, B, X', hpost, hsteps⟩
  · exact Or.inl ⟨v, vm₁, B, X₁.warmed, X', hpost, fun target h => hstep₁ _ fun acts => by rw [doInvoke_state]; exact hsteps.trans h⟩
  · exact Or.inr ⟨q, vm₁, B, X₁.warmed, X', hpost, hstep₁ _ fun acts => by rw [doInvoke_state]; exact hsteps⟩
theorem vx_callVW (X : Stand p l e R s m args below meth c T locs cells slots) (hexec : p.tables.exec = Jvm.exec) {own C : String} {index : Nat} {y : MethodName} {bytes : ByteArray} {maxL : Nat} {ret : Option FieldType} {hh : List (Nat × Nat × Nat × Nat)}
    (hown : s.vm.findClass own = some m.cls) (hlink : (Cond.methodLink own index y).before args s = true) (hinst : (Cond.instanceMethod y).before args s = true) (hsel : (Cond.selects C y y).before args s = true)
    (hcode : (Cond.codeWith y bytes maxL ret hh).before args s = true) (hy : y.cls ≠ "java/lang/invoke/MethodHandle" ∧ y.cls ≠ "java/lang/invoke/VarHandle")
    {W9 : Nat} {Pre : Pt → Array Value → Prop} {Post : Pt → Array Value → Option Value → Pt → Prop} (hK : Back l R p e below s args y 3 W9 Pre Post)
    {b : Addr} {cellB : Cell} (hcell : T.heap[b]? = some cellB) (hobj : cellB.vm.isStatics = false) (hcls : s.vm.findClass C = some cellB.cls)
    {g : JFrame} (hg : g.method = m) (hsize : g.locals.size = c.maxLocals) {argsL rest : List Value} (hlen : ∀ sig, parseMethodDescriptor y.desc = some sig → argsL.length = sig.parameters.length)
    (hstack : g.stack = argsL.reverse ++ .ref b :: rest) (hW : 2 * g.monitorRoom + (rest.map fun v => v.category).sum ≤ W9) (hdg : decode c.code g.pc = .ok (.invokevirtual index, 3))
    (hpre : ∀ vm₁, s.WarmedH vm₁ → Pre ⟨T.setVm vm₁, locs, cells, slots⟩ (Value.ref b :: argsL).toArray) :
    ∃ (v : Option Value) (vm₁ : Vm) (B : Pt), s.WarmedH vm₁ ∧ Stand p l e R s m args below meth c B.U B.locs B.cells B.slots ∧ Post ⟨T.setVm vm₁, locs, cells, slots⟩ (Value.ref b :: argsL).toArray v B ∧
      ∀ target, Steps p.tables e below (B.U.setTop { g with pc := g.pc + 3, stack := v.toList ++ rest }) target → Steps p.tables e below (T.setTop g) target := by
  obtain ⟨mk, methM, hnamed, hmethM, hstM, habM⟩ := Cond.instanceMethod_spec hinst
  obtain ⟨m8, methM', cM, hn8, hmethM', -, -, -, -, -, -, hsigM⟩ := Cond.codeWith_spec hcode
  cases Option.some.inj (hn8.symm.trans hnamed)
  cases hmethM.symm.trans hmethM'
  obtain ⟨c2, r2, m2, q1, q2, q3, q4, kP, hkP, hkPi⟩ := Cond.selects_spec hsel
  cases hcls.symm.trans q1
  cases (State.methodFound?_of_named hnamed hy).symm.trans q2
  cases hnamed.symm.trans q3
  have hselP : selectMethod e.platform s.vm cellB.cls mk = .method mk := by rw [Launch.admits_selectMethod X.admits]; exact q4
  obtain ⟨vm₁, X₁, hstep₁⟩ := X.invokevirtual hexec hown hlink hnamed hmethM hstM hkP hkPi hy (a := b) (cell := cellB) hcell
    (fun z h => by rw [h] at hobj; cases hobj) hselP hmethM habM hkP hkPi (g := g) hg (argsL := argsL) (rest := rest) (hlen _ hsigM) hstack hdg
  obtain ⟨v, B, X', hpost, hsteps⟩ := hK m meth c ⟨T.setVm vm₁, locs, cells, slots⟩ { g with stack := rest } (.invokevirtual index) mk (Value.ref b :: argsL).toArray X₁ hg hsize hdg hW (X₁.named hnamed) (hpre vm₁ X₁.warmed)
  exact ⟨v, vm₁, B, X₁.warmed, X', hpost, fun target h => hstep₁ _ fun acts => by rw [doInvoke_state]; exact hsteps.trans h⟩
abbrev vx_CVW (R : Room) (s : State) (args : Array Value) (own C : String) (index : Nat) (y : MethodName) (bytes : ByteArray) (maxL : Nat) (ret : Option FieldType) (hh : List (Nat × Nat × Nat × Nat)) (ws : List Cond) (rm : Room) (mc ms n : Nat) : Prop :=
  (rm.cells = mc ∧ rm.slots = ms ∧ rm.frames + 1 ≤ R.frames ∧ 8 + (maxL + 11) + rm.locals ≤ R.locals ∧ (∀ w ∈ ws, ∀ (a' : Array Value) (U : State), s.WarmedH U.vm → w.before a' U = true) ∧ Cond.codeWith y bytes maxL ret hh ∈ ws) ∧
  (Cond.codeWith y bytes maxL ret hh).before args s = true ∧ (Cond.initialized y.cls).before args s = true ∧ (y.cls ≠ "java/lang/invoke/MethodHandle" ∧ y.cls ≠ "java/lang/invoke/VarHandle") ∧
  (∀ sig, parseMethodDescriptor y.desc = some sig → n = sig.parameters.length) ∧ (Cond.methodLink own index y).before args s = true ∧ (Cond.instanceMethod y).before args s = true ∧ (Cond.selects C y y).before args s = true
theorem vx_cwVW {own C : String} {index maxL mc ms : Nat} {y : MethodName} {bytes : ByteArray} {ret : Option FieldType} {hh : List (Nat × Nat × Nat × Nat)} {Ts ws ws' : List Cond} {rm : Room} (n : Nat) (ht : ∀ w ∈ Ts, w.before args s = true) (hT : GoodIn Ts (wsV own index C y ws)) (hw : ws = Cond.codeWith y bytes maxL ret hh :: ws') (hrc : rm.cells = mc) (hrs : rm.slots = ms)
    (hd : y.cls = C ∧ y.cls ≠ "java/lang/invoke/MethodHandle" ∧ y.cls ≠ "java/lang/invoke/VarHandle" ∧ (parseMethodDescriptor y.desc).map (fun d => d.parameters.length) = some n) (hR : rm.frames + 1 ≤ R.frames ∧ 8 + (maxL + 11) + rm.locals ≤ R.locals) :
    vx_CVW R s args own C index y bytes maxL ret hh ws rm mc ms n := by
  obtain ⟨hC, hd⟩ := hd
  subst hC
  have ok : ∀ w ∈ wsV own index y.cls y ws, w.before args s = true := fun w h => ht w (hT w h).1
  have hG : GoodIn Ts ws := fun w h => hT w (by unfold wsV; exact List.mem_append_right _ h)
  have hc : Cond.codeWith y bytes maxL ret hh ∈ ws := by rw [hw]; exact List.mem_cons_self
  refine ⟨⟨hrc, hrs, hR.1, hR.2, pay_in ht hG, hc⟩, ht _ (hG _ hc).1, ok _ (by simp [wsV]), ⟨hd.1, hd.2.1⟩, fun sig h => ?_, ok _ (by simp [wsV]), ok _ (by simp [wsV]), ok _ (by simp [wsV])⟩
  have h2 := hd.2.2
  rw [h] at h2
  exact (Option.some.inj h2).symm
theorem vx_runVW {y : MethodName} {bytes cc : ByteArray} {maxL nL mc ms n index : Nat} {ret : Option FieldType} {hh : List (Nat × Nat × Nat × Nat)} {ws : List Cond} {rm : Room} {Pc : Array Value → State → Prop} {Qc : Array Value → State → Outcome → State → Prop} {free : Addr → Prop} {Ts : List Cond} {own C : String} {b : Addr} {As rest : List Value} {g : JFrame}
    (S : CallFix p m c cc nL s args Ts own) (hM : Met l y ws rm Pc Qc mc ms free) (cw : vx_CVW R s args own C index y bytes maxL ret hh ws rm mc ms n) (hp : PreV s H C b Pc As)
    (hg : g.method = m) (hn : As.length = n) (hsize : g.locals.size = nL) (hstack : g.stack = As.reverse ++ .ref b :: rest) (hW : 2 * g.monitorRoom + (rest.map fun v => v.category).sum ≤ 8) (hdg : decode cc g.pc = .ok (.invokevirtual index, 3)) (hf : cells + mc ≤ R.cells ∧ slots + ms ≤ R.slots) :
    va_Run p l e R s m args below meth c H locs cells slots mc ms g rest (Qc (Value.ref b :: As).toArray) free := by
  obtain ⟨⟨hrc, hrs, hfr, hlo, hws, hcw⟩, hcode, hini, hy, hlen, hl, hin, hse⟩ := cw
  have hK : Back l R p e below s args y 3 8 (PreOf R mc ms Pc) (PostOf Qc mc ms free) := va_backW (hh := hh) (bytes := bytes) (maxL := maxL) (ret := ret) hM hp.1 hrc hrs hfr hlo hws hcw (fun a' U hW => word_at hW (Or.inl (by first | rfl | simp [Cond.onTables, Cond.keeps, Cond.steady])) hini)
  obtain ⟨hx, hb, hml, ho, -⟩ := S
  obtain ⟨-, ⟨cellB, hcB, hoB, hclB⟩, hPc⟩ := hp
  intro T hT X
  obtain ⟨v, vm₁, ⟨U', l2, c2, s2⟩, hW₁, X', ⟨g', mk, t, L, e1, e2, hq, h1, hL, h2, h3⟩, st⟩ := vx_callVW X hx (C := C) (hh := hh) (bytes := bytes) (maxL := maxL) (ret := ret) ho hl hin hse hcode hy hK (by rw [hT]; exact hcB) hoB hclB hg (hsize.trans hml.symm) (argsL := As) (rest := rest) (fun sig h => hn.trans (hlen sig h)) hstack hW (by rw [hb]; exact hdg)
    (fun vm₁ hW₁ => ⟨hf.1, hf.2, hPc (T.setVm vm₁) hT hW₁⟩)
  dsimp only [Pt.U, Pt.locs, Pt.cells, Pt.slots] at X' e1 e2 h1 h2 h3 st
  subst h1; subst h2; subst h3
  exact ⟨v, (T.setVm vm₁).calling g' mk (Value.ref b :: As).toArray, t, U', L, hT, X', hL, e1, e2, hq, st⟩
section
variable {y : MethodName} {bytes cc : ByteArray} {maxL nL mc ms n index : Nat} {ret : Option FieldType} {ws : List Cond} {rm : Room} {Pc : Array Value → State → Prop} {Qc : Array Value → State → Outcome → State → Prop} {XC : String → State → State → Prop} {free : Addr → Prop} {Ts : List Cond} {own C : String} {b : Addr} {As rest : List Value} {g : JFrame}
theorem vx_runVX {hh : List (Nat × Nat × Nat × Nat)} (S : CallFix p m c cc nL s args Ts own) (hM : vx_Met l y ws rm Pc Qc XC mc ms free) (cw : vx_CVW R s args own C index y bytes maxL ret hh ws rm mc ms n) (hp : PreV s H C b Pc As)
    (hg : g.method = m) (hn : As.length = n) (hsize : g.locals.size = nL) (hstack : g.stack = As.reverse ++ .ref b :: rest) (hW : 2 * g.monitorRoom + (rest.map fun v => v.category).sum ≤ 8) (hdg : decode cc g.pc = .ok (.invokevirtual index, 3)) (hf : cells + mc ≤ R.cells ∧ slots + ms ≤ R.slots) :
    vx_Run p l e R s m args below meth c H locs cells slots mc ms g rest (Qc (Value.ref b :: As).toArray) XC free := by
  obtain ⟨⟨hrc, hrs, hfr, hlo, hws, hcw⟩, hcode, hini, hy, hlen, hl, hin, hse⟩ := cw
  have hK : vx_Back l R p e below s args y 3 8 (PreOf R mc ms Pc) (PostOf Qc mc ms free) (vx_Post XC mc ms free) := vx_backW (hh := hh) (bytes := bytes) (maxL := maxL) (ret := ret) hM hp.1 hrc hrs hfr hlo hws hcw (fun a' U hW => word_at hW (Or.inl (by first | rfl | simp [Cond.onTables, Cond.keeps, Cond.steady])) hini)
  obtain ⟨hx, hb, hml, ho, -⟩ := S
  obtain ⟨-, ⟨cellB, hcB, hoB, hclB⟩, hPc⟩ := hp
  intro T hT X
  rcases vx_callVX X hx (C := C) (hh := hh) (bytes := bytes) (maxL := maxL) (ret := ret) ho hl hin hse hcode hy hK (by rw [hT]; exact hcB) hoB hclB hg (hsize.trans hml.symm) (argsL := As) (rest := rest) (fun sig h => hn.trans (hlen sig h)) hstack hW (by rw [hb]; exact hdg)
    (fun vm₁ hW₁ => ⟨hf.1, hf.2, hPc (T.setVm vm₁) hT hW₁⟩) with ⟨v, vm₁, ⟨U', l2, c2, s2⟩, hW₁, X', ⟨g', mk, t, L, e1, e2, hq, h1, hL, h2, h3⟩, st⟩ | ⟨q, vm₁, ⟨U', l2, c2, s2⟩, hW₁, X', ⟨g', mk, t, L, E, ce, e1, e2, hq, hce, hcv, hcl, h1, hL, h2, h3⟩, st⟩
  · dsimp only [Pt.U, Pt.locs, Pt.cells, Pt.slots] at X' e1 e2 h1 h2 h3 st
    subst h1; subst h2; subst h3
    exact Or.inl ⟨v, (T.setVm vm₁).calling g' mk (Value.ref b :: As).toArray, t, U', L, hT, X', hL, e1, e2, hq, st⟩
  · dsimp only [Pt.U, Pt.locs, Pt.cells, Pt.slots] at X' e1 e2 h1 h2 h3 st hcl
    subst h1; subst h2; subst h3
    exact Or.inr ⟨q, (T.setVm vm₁).calling g' mk (Value.ref b :: As).toArray, t, U', L, E, ce, hT, X', hL, e1, e2, hq, hce, hcv, vx_cls hW₁ hcl, st⟩
theorem vx_runSX {hh : List (Nat × Nat × Nat × Nat)} (S : CallFix p m c cc nL s args Ts own) (hM : vx_Met l y ws rm Pc Qc XC mc ms free) (cw : vx_CSW R s args own index y bytes maxL ret hh ws rm mc ms n) (hp : PreS s H Pc As)
    (hg : g.method = m) (hn : As.length = n) (hsize : g.locals.size = nL) (hstack : g.stack = As.reverse ++ rest) (hW : 2 * g.monitorRoom + (rest.map fun v => v.category).sum ≤ 8) (hdg : decode cc g.pc = .ok (.invokestatic index, 3)) (hf : cells + mc ≤ R.cells ∧ slots + ms ≤ R.slots) :
    vx_Run p l e R s m args below meth c H locs cells slots mc ms g rest (Qc As.toArray) XC free := by
  obtain ⟨⟨hrc, hrs, hfr, hlo, hws, hcw⟩, hcode, hini, hy, hlen, hl, hstt⟩ := cw
  have hK : vx_Back l R p e below s args y 3 8 (PreOf R mc ms Pc) (PostOf Qc mc ms free) (vx_Post XC mc ms free) := vx_backW (hh := hh) (bytes := bytes) (maxL := maxL) (ret := ret) hM hp.1 hrc hrs hfr hlo hws hcw (fun a' U hW => word_at hW (Or.inl (by first | rfl | simp [Cond.onTables, Cond.keeps, Cond.steady])) hini)
  obtain ⟨hx, hb, hml, ho, -⟩ := S
  intro T hT X
  rcases vx_callSX X hx (hh := hh) (bytes := bytes) (maxL := maxL) (ret := ret) ho hl hstt hini hcode hy hK hg (hsize.trans hml.symm) (argsL := As) (rest := rest) (fun sig h => hn.trans (hlen sig h)) hstack hW (by rw [hb]; exact hdg)
    (fun vm₁ hW₁ => ⟨hf.1, hf.2, hp.2 (T.setVm vm₁) hT hW₁⟩) with ⟨v, vm₁, ⟨U', l2, c2, s2⟩, hW₁, X', ⟨g', mk, t, L, e1, e2, hq, h1, hL, h2, h3⟩, st⟩ | ⟨q, vm₁, ⟨U', l2, c2, s2⟩, hW₁, X', ⟨g', mk, t, L, E, ce, e1, e2, hq, hce, hcv, hcl, h1, hL, h2, h3⟩, st⟩
  · dsimp only [Pt.U, Pt.locs, Pt.cells, Pt.slots] at X' e1 e2 h1 h2 h3 st
    subst h1; subst h2; subst h3
    exact Or.inl ⟨v, (T.setVm vm₁).calling g' mk As.toArray, t, U', L, hT, X', hL, e1, e2, hq, st⟩
  · dsimp only [Pt.U, Pt.locs, Pt.cells, Pt.slots] at X' e1 e2 h1 h2 h3 st hcl
    subst h1; subst h2; subst h3
    exact Or.inr ⟨q, (T.setVm vm₁).calling g' mk As.toArray, t, U', L, E, ce, hT, X', hL, e1, e2, hq, hce, hcv, vx_cls hW₁ hcl, st⟩
end
end VXH
theorem vx_ofWH {l : Launch} {y : MethodName} {ws ws' : List Cond} {rm : Room} {Pc : Array Value → State → Prop} {Qc : Array Value → State → Outcome → State → Prop} {XC : String → State → State → Prop} {mc ms : Nat} {free : Addr → Prop} {cc : ByteArray} {maxL : Nat} {ret : Option FieldType} {hh : List (Nat × Nat × Nat × Nat)}
    (hy : plainName y.cls = true) (hw : ws = Cond.codeWith y cc maxL ret hh :: ws')
    (body : ∀ p e s m args below meth c s₁, BodyLoose p l y (headSpec ws rm) cc maxL ret e s m args below meth c s₁ → c.maxLocals = maxL → Pc args s →
      W p l e (headSpec ws rm).room s m args below meth c s.heap [] 0 0 (vx_MQ below Qc XC args s mc ms free) (entryFrame m args maxL)) : vx_Met l y ws rm Pc Qc XC mc ms free := by
  refine MetFree.of_bodyS (code := cc) (maxLocals := maxL) (ret := ret) hy ?_ ?_
  · intro args s m h hn
    obtain ⟨m9, meth, c, hn9, h1, h2, h3, h4, -, h5, h6, -⟩ := Cond.codeWith_spec (atoms_spec (ws := ws) h _ (by rw [hw]; exact List.mem_cons_self))
    cases hn.symm.trans hn9
    exact ⟨meth, c, h1, h2, h3, h4, h5, h6⟩
  · intro p e s m args below meth c s₁ B hml hP _
    have hh0 : s₁.heap = s.heap := by rw [B.state]; rfl
    obtain ⟨t, a1, o, b1, b2, b3⟩ := body p e s m args below meth c s₁ B hml hP s₁ hh0 (Stand.of_body B)
    exact ⟨t, o, a1, b1, b2, b3⟩
/-! ===== END ===== -/
end
section
/-! ===== BEGIN printed: names, fields, word lists, decode rows ===== -/
def RX0 : String := "JointAnnuity$Annuity"
def TX0 : u_T := fun k => match k with
  | 0 => ("JointAnnuity$Annuity", "start", "I", true)
  | 1 => ("JointAnnuity$Annuity", "amount", "I", true)
  | 2 => ("JointAnnuity$Annuity", "guaranteeEnd", "I", true)
  | 3 => ("JointAnnuity$Annuity", "survivorPercent", "I", false)
  | 4 => ("JointAnnuity$Annuity", "stepsOnFirst", "Z", false)
  | 5 => ("JointAnnuity$Annuity", "cap", "I", false)
  | 6 => ("JointAnnuity$Annuity", "price", "I", false)
  | 7 => ("JointAnnuity$Annuity", "protectedPercent", "I", false)
  | 8 => ("JointAnnuity$Annuity", "deaths", "[I", true)
  | 9 => ("JointAnnuity$Annuity", "fullAmounts", "[I", true)
  | 10 => ("JointAnnuity$Annuity", "carries", "[I", true)
  | 11 => ("JointAnnuity$Annuity", "payments", "[J", true)
  | _ => ("JointAnnuity$Annuity", "keptInAll", "J", false)
def tyX0 : Nat → FieldType := fun k => match k with
  | 0 => .int
  | 1 => .int
  | 2 => .int
  | 3 => .int
  | 4 => .boolean
  | 5 => .int
  | 6 => .int
  | 7 => .int
  | 8 => .array .int
  | 9 => .array .int
  | 10 => .array .int
  | 11 => .array .long
  | _ => .long
abbrev wsX00 : List Cond := u_ws RX0 TX0 13
theorem nmX0 : ∀ a, a < 13 → ∀ b, b < 13 → a ≠ b → (TX0 a).2.1 ≠ (TX0 b).2.1 := by decide +kernel
theorem tyX0_ok : ∀ k, k < 13 → parseFieldDescriptor (TX0 k).2.2.1 = some (tyX0 k) := by decide +kernel
abbrev cX0_init : ByteArray := prog_2_method_1_code
def yX0_init : MethodName := ⟨RX0, "<init>", "(III)V"⟩
abbrev cX0_growBy : ByteArray := prog_2_method_2_code
def yX0_growBy : MethodName := ⟨RX0, "growBy", "([I)V"⟩
abbrev cX0_fullIn : ByteArray := prog_2_method_3_code
def yX0_fullIn : MethodName := ⟨RX0, "fullIn", "(I)I"⟩
abbrev cX0_carryIn : ByteArray := prog_2_method_4_code
def yX0_carryIn : MethodName := ⟨RX0, "carryIn", "(I)I"⟩
abbrev cX0_shareIn : ByteArray := prog_2_method_5_code
def yX0_shareIn : MethodName := ⟨RX0, "shareIn", "(I)J"⟩
abbrev cX0_sharesAhead : ByteArray := prog_2_method_6_code
def yX0_sharesAhead : MethodName := ⟨RX0, "sharesAhead", "(I)J"⟩
abbrev cX0_protectionMonth : ByteArray := prog_2_method_7_code
def yX0_protectionMonth : MethodName := ⟨RX0, "protectionMonth", "()I"⟩
abbrev cX0_protectionSum : ByteArray := prog_2_method_8_code
def yX0_protectionSum : MethodName := ⟨RX0, "protectionSum", "()J"⟩
abbrev cX0_dueIn : ByteArray := prog_2_method_9_code
def yX0_dueIn : MethodName := ⟨RX0, "dueIn", "(I)J"⟩
abbrev cX0_dueAhead : ByteArray := prog_2_method_10_code
def yX0_dueAhead : MethodName := ⟨RX0, "dueAhead", "(I)J"⟩
abbrev cX0_payIn : ByteArray := prog_2_method_11_code
def yX0_payIn : MethodName := ⟨RX0, "payIn", "(I)J"⟩
abbrev cX0_debtAhead : ByteArray := prog_2_method_12_code
def yX0_debtAhead : MethodName := ⟨RX0, "debtAhead", "(I)J"⟩
def RX1 : String := "JointAnnuity"
def TX1 : u_T := fun k => match k with
  | 0 => ("JointAnnuity", "annuities", "[LJointAnnuity$Annuity;", true)
  | 1 => ("JointAnnuity", "inflation", "[I", true)
  | 2 => ("JointAnnuity", "count", "I", false)
  | _ => ("JointAnnuity", "monthThatGoesOn", "I", false)
def tyX1 : Nat → FieldType := fun k => match k with
  | 0 => .array (.object "JointAnnuity$Annuity")
  | 1 => .array .int
  | 2 => .int
  | _ => .int
abbrev wsX10 : List Cond := u_ws RX1 TX1 4
theorem nmX1 : ∀ a, a < 4 → ∀ b, b < 4 → a ≠ b → (TX1 a).2.1 ≠ (TX1 b).2.1 := by decide +kernel
theorem tyX1_ok : ∀ k, k < 4 → parseFieldDescriptor (TX1 k).2.2.1 = some (tyX1 k) := by decide +kernel
abbrev cX1_init : ByteArray := prog_1_method_1_code
def yX1_init : MethodName := ⟨RX1, "<init>", "()V"⟩
abbrev cX1_add : ByteArray := prog_1_method_2_code
def yX1_add : MethodName := ⟨RX1, "add", "(III)I"⟩
abbrev cX1_setSurvivor : ByteArray := prog_1_method_3_code
def yX1_setSurvivor : MethodName := ⟨RX1, "setSurvivor", "(IIZ)V"⟩
abbrev cX1_setCap : ByteArray := prog_1_method_4_code
def yX1_setCap : MethodName := ⟨RX1, "setCap", "(II)V"⟩
abbrev cX1_protect : ByteArray := prog_1_method_5_code
def yX1_protect : MethodName := ⟨RX1, "protect", "(III)V"⟩
abbrev cX1_setInflation : ByteArray := prog_1_method_6_code
def yX1_setInflation : MethodName := ⟨RX1, "setInflation", "(II)I"⟩
abbrev cX1_die : ByteArray := prog_1_method_7_code
def yX1_die : MethodName := ⟨RX1, "die", "(III)V"⟩
abbrev cX1_takeBack : ByteArray := prog_1_method_8_code
def yX1_takeBack : MethodName := ⟨RX1, "takeBack", "(II)I"⟩
abbrev cX1_run : ByteArray := prog_1_method_9_code
def yX1_run : MethodName := ⟨RX1, "run", "()J"⟩
abbrev cX1_month : ByteArray := prog_1_method_10_code
def yX1_month : MethodName := ⟨RX1, "month", "()I"⟩
abbrev cX1_giveBack : ByteArray := prog_1_method_11_code
def yX1_giveBack : MethodName := ⟨RX1, "giveBack", "(II)J"⟩
abbrev cX1_paid : ByteArray := prog_1_method_12_code
def yX1_paid : MethodName := ⟨RX1, "paid", "(II)J"⟩
abbrev cX1_paidInAll : ByteArray := prog_1_method_13_code
def yX1_paidInAll : MethodName := ⟨RX1, "paidInAll", "(I)J"⟩
abbrev cX1_owes : ByteArray := prog_1_method_14_code
def yX1_owes : MethodName := ⟨RX1, "owes", "(I)J"⟩
abbrev cX1_fullAmount : ByteArray := prog_1_method_15_code
def yX1_fullAmount : MethodName := ⟨RX1, "fullAmount", "(II)I"⟩
abbrev cX1_carry : ByteArray := prog_1_method_16_code
def yX1_carry : MethodName := ⟨RX1, "carry", "(II)I"⟩
abbrev cX1_entitled : ByteArray := prog_1_method_17_code
def yX1_entitled : MethodName := ⟨RX1, "entitled", "(II)J"⟩
abbrev cX1_entitledUpTo : ByteArray := prog_1_method_18_code
def yX1_entitledUpTo : MethodName := ⟨RX1, "entitledUpTo", "(II)J"⟩
abbrev cX1_protection : ByteArray := prog_1_method_19_code
def yX1_protection : MethodName := ⟨RX1, "protection", "(I)J"⟩
abbrev cX1_find : ByteArray := prog_1_method_20_code
def yX1_find : MethodName := ⟨RX1, "find", "(I)LJointAnnuity$Annuity;"⟩
abbrev cX1_requireStartNotRun : ByteArray := prog_1_method_21_code
def yX1_requireStartNotRun : MethodName := ⟨RX1, "requireStartNotRun", "(LJointAnnuity$Annuity;)V"⟩
abbrev cX1_requireMonth : ByteArray := prog_1_method_22_code
def yX1_requireMonth : MethodName := ⟨RX1, "requireMonth", "(I)V"⟩
abbrev cX1_requireRange : ByteArray := prog_1_method_23_code
def yX1_requireRange : MethodName := ⟨RX1, "requireRange", "(III)V"⟩
def RX2 : String := "JointAnnuityModel"
def TX2 : u_T := fun k => match k with
  | 0 => ("JointAnnuityModel", "start", "[I", true)
  | 1 => ("JointAnnuityModel", "amount", "[I", true)
  | 2 => ("JointAnnuityModel", "guarantee", "[I", true)
  | 3 => ("JointAnnuityModel", "percent", "[I", true)
  | 4 => ("JointAnnuityModel", "isOnFirst", "[Z", true)
  | 5 => ("JointAnnuityModel", "cap", "[I", true)
  | 6 => ("JointAnnuityModel", "price", "[I", true)
  | 7 => ("JointAnnuityModel", "share", "[I", true)
  | 8 => ("JointAnnuityModel", "death", "[I", true)
  | 9 => ("JointAnnuityModel", "total", "[J", true)
  | 10 => ("JointAnnuityModel", "back", "[J", true)
  | 11 => ("JointAnnuityModel", "paid", "[J", true)
  | 12 => ("JointAnnuityModel", "inflation", "[I", true)
  | 13 => ("JointAnnuityModel", "many", "I", false)
  | 14 => ("JointAnnuityModel", "month", "I", false)
  | 15 => ("JointAnnuityModel", "full", "I", false)
  | 16 => ("JointAnnuityModel", "carry", "I", false)
  | _ => ("JointAnnuityModel", "thrown", "I", false)
def tyX2 : Nat → FieldType := fun k => match k with
  | 0 => .array .int
  | 1 => .array .int
  | 2 => .array .int
  | 3 => .array .int
  | 4 => .array .boolean
  | 5 => .array .int
  | 6 => .array .int
  | 7 => .array .int
  | 8 => .array .int
  | 9 => .array .long
  | 10 => .array .long
  | 11 => .array .long
  | 12 => .array .int
  | 13 => .int
  | 14 => .int
  | 15 => .int
  | 16 => .int
  | _ => .int
abbrev wsX20 : List Cond := u_ws RX2 TX2 18
theorem nmX2 : ∀ a, a < 18 → ∀ b, b < 18 → a ≠ b → (TX2 a).2.1 ≠ (TX2 b).2.1 := by decide +kernel
theorem tyX2_ok : ∀ k, k < 18 → parseFieldDescriptor (TX2 k).2.2.1 = some (tyX2 k) := by decide +kernel
abbrev cX2_init : ByteArray := prog_4_method_1_code
def yX2_init : MethodName := ⟨RX2, "<init>", "()V"⟩
abbrev cX2_thrown : ByteArray := prog_4_method_2_code
def yX2_thrown : MethodName := ⟨RX2, "thrown", "()I"⟩
abbrev cX2_goes : ByteArray := prog_4_method_3_code
def yX2_goes : MethodName := ⟨RX2, "goes", "(ZZZ)Z"⟩
abbrev cX2_isOne : ByteArray := prog_4_method_4_code
def yX2_isOne : MethodName := ⟨RX2, "isOne", "(I)Z"⟩
abbrev cX2_isWithin : ByteArray := prog_4_method_5_code
def yX2_isWithin : MethodName := ⟨RX2, "isWithin", "(III)Z"⟩
abbrev cX2_add : ByteArray := prog_4_method_6_code
def yX2_add : MethodName := ⟨RX2, "add", "(III)I"⟩
abbrev cX2_isAhead : ByteArray := prog_4_method_7_code
def yX2_isAhead : MethodName := ⟨RX2, "isAhead", "(I)Z"⟩
abbrev cX2_setSurvivor : ByteArray := prog_4_method_8_code
def yX2_setSurvivor : MethodName := ⟨RX2, "setSurvivor", "(IIZ)V"⟩
abbrev cX2_setCap : ByteArray := prog_4_method_9_code
def yX2_setCap : MethodName := ⟨RX2, "setCap", "(II)V"⟩
abbrev cX2_protect : ByteArray := prog_4_method_10_code
def yX2_protect : MethodName := ⟨RX2, "protect", "(III)V"⟩
abbrev cX2_setInflation : ByteArray := prog_4_method_11_code
def yX2_setInflation : MethodName := ⟨RX2, "setInflation", "(II)I"⟩
abbrev cX2_isLife : ByteArray := prog_4_method_12_code
def yX2_isLife : MethodName := ⟨RX2, "isLife", "(I)Z"⟩
abbrev cX2_die : ByteArray := prog_4_method_13_code
def yX2_die : MethodName := ⟨RX2, "die", "(III)V"⟩
abbrev cX2_takeBack : ByteArray := prog_4_method_14_code
def yX2_takeBack : MethodName := ⟨RX2, "takeBack", "(II)I"⟩
abbrev cX2_begins : ByteArray := prog_4_method_15_code
def yX2_begins : MethodName := ⟨RX2, "begins", "(I)V"⟩
abbrev cX2_grows : ByteArray := prog_4_method_16_code
def yX2_grows : MethodName := ⟨RX2, "grows", "(II)V"⟩
abbrev cX2_stands : ByteArray := prog_4_method_17_code
def yX2_stands : MethodName := ⟨RX2, "stands", "(II)Z"⟩
abbrev cX2_fullAmount : ByteArray := prog_4_method_18_code
def yX2_fullAmount : MethodName := ⟨RX2, "fullAmount", "(II)I"⟩
abbrev cX2_carry : ByteArray := prog_4_method_19_code
def yX2_carry : MethodName := ⟨RX2, "carry", "(II)I"⟩
abbrev cX2_isAlive : ByteArray := prog_4_method_20_code
def yX2_isAlive : MethodName := ⟨RX2, "isAlive", "(III)Z"⟩
abbrev cX2_share : ByteArray := prog_4_method_21_code
def yX2_share : MethodName := ⟨RX2, "share", "(II)I"⟩
abbrev cX2_protectedAt : ByteArray := prog_4_method_22_code
def yX2_protectedAt : MethodName := ⟨RX2, "protectedAt", "(I)I"⟩
abbrev cX2_upTo : ByteArray := prog_4_method_23_code
def yX2_upTo : MethodName := ⟨RX2, "upTo", "(II)J"⟩
abbrev cX2_entitled : ByteArray := prog_4_method_24_code
def yX2_entitled : MethodName := ⟨RX2, "entitled", "(II)J"⟩
abbrev cX2_entitledUpTo : ByteArray := prog_4_method_25_code
def yX2_entitledUpTo : MethodName := ⟨RX2, "entitledUpTo", "(II)J"⟩
abbrev cX2_protection : ByteArray := prog_4_method_26_code
def yX2_protection : MethodName := ⟨RX2, "protection", "(I)J"⟩
abbrev cX2_run : ByteArray := prog_4_method_27_code
def yX2_run : MethodName := ⟨RX2, "run", "()J"⟩
abbrev cX2_month : ByteArray := prog_4_method_28_code
def yX2_month : MethodName := ⟨RX2, "month", "()I"⟩
abbrev cX2_owed : ByteArray := prog_4_method_29_code
def yX2_owed : MethodName := ⟨RX2, "owed", "(I)J"⟩
abbrev cX2_giveBack : ByteArray := prog_4_method_30_code
def yX2_giveBack : MethodName := ⟨RX2, "giveBack", "(II)J"⟩
abbrev cX2_paid : ByteArray := prog_4_method_31_code
def yX2_paid : MethodName := ⟨RX2, "paid", "(II)J"⟩
abbrev cX2_paidInAll : ByteArray := prog_4_method_32_code
def yX2_paidInAll : MethodName := ⟨RX2, "paidInAll", "(I)J"⟩
abbrev cX2_owes : ByteArray := prog_4_method_33_code
def yX2_owes : MethodName := ⟨RX2, "owes", "(I)J"⟩
def RJ9 : String := "java/lang/Math"
def TJ9 : u_T := fun k => match k with
  | _ => ("", "", "", false)
def tyJ9 : Nat → FieldType := fun k => match k with
  | _ => .int
abbrev wsJ90 : List Cond := u_ws RJ9 TJ9 0
theorem nmJ9 : ∀ a, a < 0 → ∀ b, b < 0 → a ≠ b → (TJ9 a).2.1 ≠ (TJ9 b).2.1 := by decide +kernel
theorem tyJ9_ok : ∀ k, k < 0 → parseFieldDescriptor (TJ9 k).2.2.1 = some (tyJ9 k) := by decide +kernel
abbrev cJ9_max_7cf53 : ByteArray := prog_9_method_65_code
def yJ9_max_7cf53 : MethodName := ⟨RJ9, "max", "(II)I"⟩
abbrev cJ9_max_f86c9 : ByteArray := prog_9_method_66_code
def yJ9_max_f86c9 : MethodName := ⟨RJ9, "max", "(JJ)J"⟩
abbrev cJ9_min_7cf53 : ByteArray := prog_9_method_69_code
def yJ9_min_7cf53 : MethodName := ⟨RJ9, "min", "(II)I"⟩
def RJ0 : String := "java/lang/String"
def TJ0 : u_T := fun k => match k with
  | _ => ("", "", "", false)
def tyJ0 : Nat → FieldType := fun k => match k with
  | _ => .int
abbrev wsJ00 : List Cond := u_ws RJ0 TJ0 0
theorem nmJ0 : ∀ a, a < 0 → ∀ b, b < 0 → a ≠ b → (TJ0 a).2.1 ≠ (TJ0 b).2.1 := by decide +kernel
theorem tyJ0_ok : ∀ k, k < 0 → parseFieldDescriptor (TJ0 k).2.2.1 = some (tyJ0 k) := by decide +kernel
def RL : String := "JointAnnuityLaw"
abbrev cL_add : ByteArray := method_3_code
def yL_add : MethodName := ⟨RL, "add", "(LJointAnnuity;III[J)I"⟩
abbrev cL_setSurvivor : ByteArray := method_4_code
def yL_setSurvivor : MethodName := ⟨RL, "setSurvivor", "(LJointAnnuity;IIZ)I"⟩
abbrev cL_setCap : ByteArray := method_5_code
def yL_setCap : MethodName := ⟨RL, "setCap", "(LJointAnnuity;II)I"⟩
abbrev cL_protect : ByteArray := method_6_code
def yL_protect : MethodName := ⟨RL, "protect", "(LJointAnnuity;III)I"⟩
abbrev cL_setInflation : ByteArray := method_7_code
def yL_setInflation : MethodName := ⟨RL, "setInflation", "(LJointAnnuity;II[J)I"⟩
abbrev cL_die : ByteArray := method_8_code
def yL_die : MethodName := ⟨RL, "die", "(LJointAnnuity;III)I"⟩
abbrev cL_takeBack : ByteArray := method_9_code
def yL_takeBack : MethodName := ⟨RL, "takeBack", "(LJointAnnuity;II[J)I"⟩
abbrev cL_run : ByteArray := method_10_code
def yL_run : MethodName := ⟨RL, "run", "(LJointAnnuity;[J)I"⟩
abbrev cL_giveBack : ByteArray := method_11_code
def yL_giveBack : MethodName := ⟨RL, "giveBack", "(LJointAnnuity;II[J)I"⟩
abbrev cL_paid : ByteArray := method_12_code
def yL_paid : MethodName := ⟨RL, "paid", "(LJointAnnuity;II[J)I"⟩
abbrev cL_paidInAll : ByteArray := method_13_code
def yL_paidInAll : MethodName := ⟨RL, "paidInAll", "(LJointAnnuity;I[J)I"⟩
abbrev cL_owes : ByteArray := method_14_code
def yL_owes : MethodName := ⟨RL, "owes", "(LJointAnnuity;I[J)I"⟩
abbrev cL_fullAmount : ByteArray := method_15_code
def yL_fullAmount : MethodName := ⟨RL, "fullAmount", "(LJointAnnuity;II[J)I"⟩
abbrev cL_carry : ByteArray := method_16_code
def yL_carry : MethodName := ⟨RL, "carry", "(LJointAnnuity;II[J)I"⟩
abbrev cL_entitled : ByteArray := method_17_code
def yL_entitled : MethodName := ⟨RL, "entitled", "(LJointAnnuity;II[J)I"⟩
abbrev cL_entitledUpTo : ByteArray := method_18_code
def yL_entitledUpTo : MethodName := ⟨RL, "entitledUpTo", "(LJointAnnuity;II[J)I"⟩
abbrev cL_protection : ByteArray := method_19_code
def yL_protection : MethodName := ⟨RL, "protection", "(LJointAnnuity;I[J)I"⟩
abbrev cL_law : ByteArray := code
def yL_law : MethodName := ⟨RL, "law", "([I)Z"⟩
def wsX0_init : List Cond := .code yX0_init cX0_init 4 none :: ([.methodLink RX0 3 objectInit, .instanceMethod objectInit, .code objectInit ⟨#[0xb1]⟩ 1 none, .fieldLink RX0 9 "JointAnnuity$Annuity" "start" "I", .fieldLink RX0 15 "JointAnnuity$Annuity" "amount" "I", .fieldLink RX0 18 "JointAnnuity$Annuity" "guaranteeEnd" "I", .fieldLink RX0 21 "JointAnnuity$Annuity" "survivorPercent" "I", .fieldLink RX0 24 "JointAnnuity$Annuity" "stepsOnFirst" "Z", .fieldLink RX0 28 "JointAnnuity$Annuity" "cap" "I", .fieldLink RX0 31 "JointAnnuity$Annuity" "price" "I", .fieldLink RX0 34 "JointAnnuity$Annuity" "protectedPercent" "I", .arrayClass .int, .fieldLink RX0 37 "JointAnnuity$Annuity" "deaths" "[I", .fieldLink RX0 41 "JointAnnuity$Annuity" "fullAmounts" "[I", .fieldLink RX0 44 "JointAnnuity$Annuity" "carries" "[I", .arrayClass .long, .fieldLink RX0 47 "JointAnnuity$Annuity" "payments" "[J", .fieldLink RX0 51 "JointAnnuity$Annuity" "keptInAll" "J"] ++ wsX00)
def wsX0_growBy : List Cond := .code yX0_growBy cX0_growBy 8 none :: ([.fieldLink RX0 15 "JointAnnuity$Annuity" "amount" "I", .fieldLink RX0 41 "JointAnnuity$Annuity" "fullAmounts" "[I", .fieldLink RX0 44 "JointAnnuity$Annuity" "carries" "[I", .fieldLink RX0 9 "JointAnnuity$Annuity" "start" "I", .fieldLink RX0 28 "JointAnnuity$Annuity" "cap" "I", .methodLink RX0 55 Lib.Math.min.name, .static Lib.Math.min.name, .initialized "java/lang/Math", .code Lib.Math.min.name Lib.Math.min.code 2 (some .int), .methodLink RX0 61 Lib.Math.max.name, .static Lib.Math.max.name, .code Lib.Math.max.name Lib.Math.max.code 2 (some .int)] ++ wsX00)
def wsX0_fullIn : List Cond := .code yX0_fullIn cX0_fullIn 2 (some .int) :: ([.fieldLink RX0 9 "JointAnnuity$Annuity" "start" "I", .fieldLink RX0 41 "JointAnnuity$Annuity" "fullAmounts" "[I"] ++ wsX00)
def wsX0_carryIn : List Cond := .code yX0_carryIn cX0_carryIn 2 (some .int) :: ([.fieldLink RX0 9 "JointAnnuity$Annuity" "start" "I", .fieldLink RX0 44 "JointAnnuity$Annuity" "carries" "[I"] ++ wsX00)
def wsX0_shareIn : List Cond := .code yX0_shareIn cX0_shareIn 6 (some .long) :: ([.fieldLink RX0 9 "JointAnnuity$Annuity" "start" "I", .fieldLink RX0 37 "JointAnnuity$Annuity" "deaths" "[I", .fieldLink RX0 18 "JointAnnuity$Annuity" "guaranteeEnd" "I", .fieldLink RX0 24 "JointAnnuity$Annuity" "stepsOnFirst" "Z", .fieldLink RX0 21 "JointAnnuity$Annuity" "survivorPercent" "I", .constantLong RX0 68 (100), .methodLink RX0 64 yX0_fullIn, .instanceMethod yX0_fullIn, .selects RX0 yX0_fullIn yX0_fullIn, .initialized RX0, .code yX0_fullIn cX0_fullIn 2 (some .int), .fieldLink RX0 41 "JointAnnuity$Annuity" "fullAmounts" "[I"] ++ wsX00)
def wsX0_sharesAhead : List Cond := .code yX0_sharesAhead cX0_sharesAhead 5 (some .long) :: ([.fieldLink RX0 9 "JointAnnuity$Annuity" "start" "I", .methodLink RX0 70 yX0_shareIn, .instanceMethod yX0_shareIn, .selects RX0 yX0_shareIn yX0_shareIn, .initialized RX0, .code yX0_shareIn cX0_shareIn 6 (some .long), .fieldLink RX0 37 "JointAnnuity$Annuity" "deaths" "[I", .fieldLink RX0 18 "JointAnnuity$Annuity" "guaranteeEnd" "I", .fieldLink RX0 24 "JointAnnuity$Annuity" "stepsOnFirst" "Z", .fieldLink RX0 21 "JointAnnuity$Annuity" "survivorPercent" "I", .constantLong RX0 68 (100), .methodLink RX0 64 yX0_fullIn, .instanceMethod yX0_fullIn, .selects RX0 yX0_fullIn yX0_fullIn, .code yX0_fullIn cX0_fullIn 2 (some .int), .fieldLink RX0 41 "JointAnnuity$Annuity" "fullAmounts" "[I"] ++ wsX00)
def wsX0_protectionMonth : List Cond := .code yX0_protectionMonth cX0_protectionMonth 2 (some .int) :: ([.fieldLink RX0 37 "JointAnnuity$Annuity" "deaths" "[I", .methodLink RX0 61 Lib.Math.max.name, .static Lib.Math.max.name, .initialized "java/lang/Math", .code Lib.Math.max.name Lib.Math.max.code 2 (some .int), .fieldLink RX0 18 "JointAnnuity$Annuity" "guaranteeEnd" "I", .methodLink RX0 55 Lib.Math.min.name, .static Lib.Math.min.name, .code Lib.Math.min.name Lib.Math.min.code 2 (some .int)] ++ wsX00)
def wsX0_protectionSum_r1 : List Cond := [Cond.fieldLink RX0 31 "JointAnnuity$Annuity" "price" "I", Cond.fieldLink RX0 34 "JointAnnuity$Annuity" "protectedPercent" "I", Cond.constantLong RX0 68 (100), Cond.methodLink RX0 81 Lib.MathLoose.max_long.x, Cond.static Lib.MathLoose.max_long.x, Cond.initialized "java/lang/Math", Cond.code Lib.MathLoose.max_long.x Lib.MathLoose.max_long.code 4 (some .long), Cond.methodLink RX0 74 yX0_protectionMonth, Cond.instanceMethod yX0_protectionMonth, Cond.selects RX0 yX0_protectionMonth yX0_protectionMonth, Cond.initialized RX0, Cond.code yX0_protectionMonth cX0_protectionMonth 2 (some .int), Cond.fieldLink RX0 37 "JointAnnuity$Annuity" "deaths" "[I", Cond.methodLink RX0 61 Lib.Math.max.name, Cond.static Lib.Math.max.name, Cond.code Lib.Math.max.name Lib.Math.max.code 2 (some .int), Cond.fieldLink RX0 18 "JointAnnuity$Annuity" "guaranteeEnd" "I", Cond.methodLink RX0 55 Lib.Math.min.name, Cond.static Lib.Math.min.name, Cond.code Lib.Math.min.name Lib.Math.min.code 2 (some .int), Cond.methodLink RX0 78 yX0_sharesAhead, Cond.instanceMethod yX0_sharesAhead, Cond.selects RX0 yX0_sharesAhead yX0_sharesAhead, Cond.code yX0_sharesAhead cX0_sharesAhead 5 (some .long)]
def wsX0_protectionSum_r2 : List Cond := [Cond.fieldLink RX0 9 "JointAnnuity$Annuity" "start" "I", Cond.methodLink RX0 70 yX0_shareIn, Cond.instanceMethod yX0_shareIn, Cond.selects RX0 yX0_shareIn yX0_shareIn, Cond.code yX0_shareIn cX0_shareIn 6 (some .long), Cond.fieldLink RX0 24 "JointAnnuity$Annuity" "stepsOnFirst" "Z", Cond.fieldLink RX0 21 "JointAnnuity$Annuity" "survivorPercent" "I", Cond.methodLink RX0 64 yX0_fullIn, Cond.instanceMethod yX0_fullIn, Cond.selects RX0 yX0_fullIn yX0_fullIn, Cond.code yX0_fullIn cX0_fullIn 2 (some .int), Cond.fieldLink RX0 41 "JointAnnuity$Annuity" "fullAmounts" "[I"]
def wsX0_protectionSum : List Cond := .code yX0_protectionSum cX0_protectionSum 4 (some .long) :: ((wsX0_protectionSum_r1 ++ wsX0_protectionSum_r2) ++ wsX00)
def wsX0_dueIn_r1 : List Cond := [Cond.methodLink RX0 70 yX0_shareIn, Cond.instanceMethod yX0_shareIn, Cond.selects RX0 yX0_shareIn yX0_shareIn, Cond.initialized RX0, Cond.code yX0_shareIn cX0_shareIn 6 (some .long), Cond.fieldLink RX0 9 "JointAnnuity$Annuity" "start" "I", Cond.fieldLink RX0 37 "JointAnnuity$Annuity" "deaths" "[I", Cond.fieldLink RX0 18 "JointAnnuity$Annuity" "guaranteeEnd" "I", Cond.fieldLink RX0 24 "JointAnnuity$Annuity" "stepsOnFirst" "Z", Cond.fieldLink RX0 21 "JointAnnuity$Annuity" "survivorPercent" "I", Cond.constantLong RX0 68 (100), Cond.methodLink RX0 64 yX0_fullIn, Cond.instanceMethod yX0_fullIn, Cond.selects RX0 yX0_fullIn yX0_fullIn, Cond.code yX0_fullIn cX0_fullIn 2 (some .int), Cond.fieldLink RX0 41 "JointAnnuity$Annuity" "fullAmounts" "[I", Cond.methodLink RX0 74 yX0_protectionMonth, Cond.instanceMethod yX0_protectionMonth, Cond.selects RX0 yX0_protectionMonth yX0_protectionMonth, Cond.code yX0_protectionMonth cX0_protectionMonth 2 (some .int), Cond.methodLink RX0 61 Lib.Math.max.name, Cond.static Lib.Math.max.name, Cond.initialized "java/lang/Math", Cond.code Lib.Math.max.name Lib.Math.max.code 2 (some .int)]
def wsX0_dueIn_r2 : List Cond := [Cond.methodLink RX0 55 Lib.Math.min.name, Cond.static Lib.Math.min.name, Cond.code Lib.Math.min.name Lib.Math.min.code 2 (some .int), Cond.methodLink RX0 84 yX0_protectionSum, Cond.instanceMethod yX0_protectionSum, Cond.selects RX0 yX0_protectionSum yX0_protectionSum, Cond.code yX0_protectionSum cX0_protectionSum 4 (some .long), Cond.fieldLink RX0 31 "JointAnnuity$Annuity" "price" "I", Cond.fieldLink RX0 34 "JointAnnuity$Annuity" "protectedPercent" "I", Cond.methodLink RX0 81 Lib.MathLoose.max_long.x, Cond.static Lib.MathLoose.max_long.x, Cond.code Lib.MathLoose.max_long.x Lib.MathLoose.max_long.code 4 (some .long), Cond.methodLink RX0 78 yX0_sharesAhead, Cond.instanceMethod yX0_sharesAhead, Cond.selects RX0 yX0_sharesAhead yX0_sharesAhead, Cond.code yX0_sharesAhead cX0_sharesAhead 5 (some .long)]
def wsX0_dueIn : List Cond := .code yX0_dueIn cX0_dueIn 4 (some .long) :: ((wsX0_dueIn_r1 ++ wsX0_dueIn_r2) ++ wsX00)
def wsX0_dueAhead_r1 : List Cond := [Cond.methodLink RX0 78 yX0_sharesAhead, Cond.instanceMethod yX0_sharesAhead, Cond.selects RX0 yX0_sharesAhead yX0_sharesAhead, Cond.initialized RX0, Cond.code yX0_sharesAhead cX0_sharesAhead 5 (some .long), Cond.fieldLink RX0 9 "JointAnnuity$Annuity" "start" "I", Cond.methodLink RX0 70 yX0_shareIn, Cond.instanceMethod yX0_shareIn, Cond.selects RX0 yX0_shareIn yX0_shareIn, Cond.code yX0_shareIn cX0_shareIn 6 (some .long), Cond.fieldLink RX0 37 "JointAnnuity$Annuity" "deaths" "[I", Cond.fieldLink RX0 18 "JointAnnuity$Annuity" "guaranteeEnd" "I", Cond.fieldLink RX0 24 "JointAnnuity$Annuity" "stepsOnFirst" "Z", Cond.fieldLink RX0 21 "JointAnnuity$Annuity" "survivorPercent" "I", Cond.constantLong RX0 68 (100), Cond.methodLink RX0 64 yX0_fullIn, Cond.instanceMethod yX0_fullIn, Cond.selects RX0 yX0_fullIn yX0_fullIn, Cond.code yX0_fullIn cX0_fullIn 2 (some .int), Cond.fieldLink RX0 41 "JointAnnuity$Annuity" "fullAmounts" "[I", Cond.methodLink RX0 74 yX0_protectionMonth, Cond.instanceMethod yX0_protectionMonth, Cond.selects RX0 yX0_protectionMonth yX0_protectionMonth, Cond.code yX0_protectionMonth cX0_protectionMonth 2 (some .int)]
def wsX0_dueAhead_r2 : List Cond := [Cond.methodLink RX0 61 Lib.Math.max.name, Cond.static Lib.Math.max.name, Cond.initialized "java/lang/Math", Cond.code Lib.Math.max.name Lib.Math.max.code 2 (some .int), Cond.methodLink RX0 55 Lib.Math.min.name, Cond.static Lib.Math.min.name, Cond.code Lib.Math.min.name Lib.Math.min.code 2 (some .int), Cond.methodLink RX0 84 yX0_protectionSum, Cond.instanceMethod yX0_protectionSum, Cond.selects RX0 yX0_protectionSum yX0_protectionSum, Cond.code yX0_protectionSum cX0_protectionSum 4 (some .long), Cond.fieldLink RX0 31 "JointAnnuity$Annuity" "price" "I", Cond.fieldLink RX0 34 "JointAnnuity$Annuity" "protectedPercent" "I", Cond.methodLink RX0 81 Lib.MathLoose.max_long.x, Cond.static Lib.MathLoose.max_long.x, Cond.code Lib.MathLoose.max_long.x Lib.MathLoose.max_long.code 4 (some .long)]
def wsX0_dueAhead : List Cond := .code yX0_dueAhead cX0_dueAhead 4 (some .long) :: ((wsX0_dueAhead_r1 ++ wsX0_dueAhead_r2) ++ wsX00)
def wsX0_payIn_r1 : List Cond := [Cond.fieldLink RX0 51 "JointAnnuity$Annuity" "keptInAll" "J", Cond.methodLink RX0 81 Lib.MathLoose.max_long.x, Cond.static Lib.MathLoose.max_long.x, Cond.initialized "java/lang/Math", Cond.code Lib.MathLoose.max_long.x Lib.MathLoose.max_long.code 4 (some .long), Cond.fieldLink RX0 47 "JointAnnuity$Annuity" "payments" "[J", Cond.methodLink RX0 88 yX0_dueAhead, Cond.instanceMethod yX0_dueAhead, Cond.selects RX0 yX0_dueAhead yX0_dueAhead, Cond.initialized RX0, Cond.code yX0_dueAhead cX0_dueAhead 4 (some .long), Cond.methodLink RX0 78 yX0_sharesAhead, Cond.instanceMethod yX0_sharesAhead, Cond.selects RX0 yX0_sharesAhead yX0_sharesAhead, Cond.code yX0_sharesAhead cX0_sharesAhead 5 (some .long), Cond.fieldLink RX0 9 "JointAnnuity$Annuity" "start" "I", Cond.methodLink RX0 70 yX0_shareIn, Cond.instanceMethod yX0_shareIn, Cond.selects RX0 yX0_shareIn yX0_shareIn, Cond.code yX0_shareIn cX0_shareIn 6 (some .long), Cond.fieldLink RX0 37 "JointAnnuity$Annuity" "deaths" "[I", Cond.fieldLink RX0 18 "JointAnnuity$Annuity" "guaranteeEnd" "I", Cond.fieldLink RX0 24 "JointAnnuity$Annuity" "stepsOnFirst" "Z", Cond.fieldLink RX0 21 "JointAnnuity$Annuity" "survivorPercent" "I"]
def wsX0_payIn_r2 : List Cond := [Cond.constantLong RX0 68 (100), Cond.methodLink RX0 64 yX0_fullIn, Cond.instanceMethod yX0_fullIn, Cond.selects RX0 yX0_fullIn yX0_fullIn, Cond.code yX0_fullIn cX0_fullIn 2 (some .int), Cond.fieldLink RX0 41 "JointAnnuity$Annuity" "fullAmounts" "[I", Cond.methodLink RX0 74 yX0_protectionMonth, Cond.instanceMethod yX0_protectionMonth, Cond.selects RX0 yX0_protectionMonth yX0_protectionMonth, Cond.code yX0_protectionMonth cX0_protectionMonth 2 (some .int), Cond.methodLink RX0 61 Lib.Math.max.name, Cond.static Lib.Math.max.name, Cond.code Lib.Math.max.name Lib.Math.max.code 2 (some .int), Cond.methodLink RX0 55 Lib.Math.min.name, Cond.static Lib.Math.min.name, Cond.code Lib.Math.min.name Lib.Math.min.code 2 (some .int), Cond.methodLink RX0 84 yX0_protectionSum, Cond.instanceMethod yX0_protectionSum, Cond.selects RX0 yX0_protectionSum yX0_protectionSum, Cond.code yX0_protectionSum cX0_protectionSum 4 (some .long), Cond.fieldLink RX0 31 "JointAnnuity$Annuity" "price" "I", Cond.fieldLink RX0 34 "JointAnnuity$Annuity" "protectedPercent" "I"]
def wsX0_payIn : List Cond := .code yX0_payIn cX0_payIn 4 (some .long) :: ((wsX0_payIn_r1 ++ wsX0_payIn_r2) ++ wsX00)
def wsX0_debtAhead_r1 : List Cond := [Cond.fieldLink RX0 51 "JointAnnuity$Annuity" "keptInAll" "J", Cond.methodLink RX0 81 Lib.MathLoose.max_long.x, Cond.static Lib.MathLoose.max_long.x, Cond.initialized "java/lang/Math", Cond.code Lib.MathLoose.max_long.x Lib.MathLoose.max_long.code 4 (some .long), Cond.methodLink RX0 88 yX0_dueAhead, Cond.instanceMethod yX0_dueAhead, Cond.selects RX0 yX0_dueAhead yX0_dueAhead, Cond.initialized RX0, Cond.code yX0_dueAhead cX0_dueAhead 4 (some .long), Cond.methodLink RX0 78 yX0_sharesAhead, Cond.instanceMethod yX0_sharesAhead, Cond.selects RX0 yX0_sharesAhead yX0_sharesAhead, Cond.code yX0_sharesAhead cX0_sharesAhead 5 (some .long), Cond.fieldLink RX0 9 "JointAnnuity$Annuity" "start" "I", Cond.methodLink RX0 70 yX0_shareIn, Cond.instanceMethod yX0_shareIn, Cond.selects RX0 yX0_shareIn yX0_shareIn, Cond.code yX0_shareIn cX0_shareIn 6 (some .long), Cond.fieldLink RX0 37 "JointAnnuity$Annuity" "deaths" "[I", Cond.fieldLink RX0 18 "JointAnnuity$Annuity" "guaranteeEnd" "I", Cond.fieldLink RX0 24 "JointAnnuity$Annuity" "stepsOnFirst" "Z", Cond.fieldLink RX0 21 "JointAnnuity$Annuity" "survivorPercent" "I", Cond.constantLong RX0 68 (100)]
def wsX0_debtAhead_r2 : List Cond := [Cond.methodLink RX0 64 yX0_fullIn, Cond.instanceMethod yX0_fullIn, Cond.selects RX0 yX0_fullIn yX0_fullIn, Cond.code yX0_fullIn cX0_fullIn 2 (some .int), Cond.fieldLink RX0 41 "JointAnnuity$Annuity" "fullAmounts" "[I", Cond.methodLink RX0 74 yX0_protectionMonth, Cond.instanceMethod yX0_protectionMonth, Cond.selects RX0 yX0_protectionMonth yX0_protectionMonth, Cond.code yX0_protectionMonth cX0_protectionMonth 2 (some .int), Cond.methodLink RX0 61 Lib.Math.max.name, Cond.static Lib.Math.max.name, Cond.code Lib.Math.max.name Lib.Math.max.code 2 (some .int), Cond.methodLink RX0 55 Lib.Math.min.name, Cond.static Lib.Math.min.name, Cond.code Lib.Math.min.name Lib.Math.min.code 2 (some .int), Cond.methodLink RX0 84 yX0_protectionSum, Cond.instanceMethod yX0_protectionSum, Cond.selects RX0 yX0_protectionSum yX0_protectionSum, Cond.code yX0_protectionSum cX0_protectionSum 4 (some .long), Cond.fieldLink RX0 31 "JointAnnuity$Annuity" "price" "I", Cond.fieldLink RX0 34 "JointAnnuity$Annuity" "protectedPercent" "I"]
def wsX0_debtAhead : List Cond := .code yX0_debtAhead cX0_debtAhead 2 (some .long) :: ((wsX0_debtAhead_r1 ++ wsX0_debtAhead_r2) ++ wsX00)
def wsX1_init : List Cond := .code yX1_init cX1_init 1 none :: ([.methodLink RX1 3 objectInit, .instanceMethod objectInit, .code objectInit ⟨#[0xb1]⟩ 1 none, .classLink RX1 9 RX0, .fieldLink RX1 11 "JointAnnuity" "annuities" "[LJointAnnuity$Annuity;", .arrayClass .int, .fieldLink RX1 15 "JointAnnuity" "inflation" "[I", .fieldLink RX1 19 "JointAnnuity" "count" "I", .fieldLink RX1 23 "JointAnnuity" "monthThatGoesOn" "I"] ++ wsX10)
def wsX1_requireRange : List Cond := .code yX1_requireRange cX1_requireRange 3 none :: ([.classLink RX1 133 "java/lang/IllegalArgumentException", .initialized "java/lang/IllegalArgumentException"] ++ (vx_atS RX1 137 "java/lang/IllegalArgumentException" ["java/lang/RuntimeException", "java/lang/Exception"]).filter goodWord)
def wsX1_add_r1 : List Cond := [Cond.classLink RX1 31 "java/lang/IllegalStateException", Cond.initialized "java/lang/IllegalStateException", Cond.fieldLink RX1 23 "JointAnnuity" "monthThatGoesOn" "I", Cond.constant RX1 30 (100000), Cond.fieldLink RX1 19 "JointAnnuity" "count" "I", Cond.fieldLink RX1 11 "JointAnnuity" "annuities" "[LJointAnnuity$Annuity;", Cond.classLink RX1 9 RX0, Cond.instantiable RX0 13, Cond.initialized RX0, Cond.fieldLink RX1 15 "JointAnnuity" "inflation" "[I", Cond.methodLink RX1 26 yX1_requireRange, Cond.static yX1_requireRange, Cond.initialized RX1, Cond.code yX1_requireRange cX1_requireRange 3 none, Cond.classLink RX1 133 "java/lang/IllegalArgumentException", Cond.initialized "java/lang/IllegalArgumentException", Cond.methodLink RX1 38 yX0_init, Cond.instanceMethod yX0_init, Cond.code yX0_init cX0_init 4 none, Cond.methodLink RX0 3 objectInit, Cond.instanceMethod objectInit, Cond.code objectInit ⟨#[0xb1]⟩ 1 none, Cond.fieldLink RX0 9 "JointAnnuity$Annuity" "start" "I", Cond.fieldLink RX0 15 "JointAnnuity$Annuity" "amount" "I"]
def wsX1_add_r2 : List Cond := [Cond.fieldLink RX0 18 "JointAnnuity$Annuity" "guaranteeEnd" "I", Cond.fieldLink RX0 21 "JointAnnuity$Annuity" "survivorPercent" "I", Cond.fieldLink RX0 24 "JointAnnuity$Annuity" "stepsOnFirst" "Z", Cond.fieldLink RX0 28 "JointAnnuity$Annuity" "cap" "I", Cond.fieldLink RX0 31 "JointAnnuity$Annuity" "price" "I", Cond.fieldLink RX0 34 "JointAnnuity$Annuity" "protectedPercent" "I", Cond.arrayClass .int, Cond.fieldLink RX0 37 "JointAnnuity$Annuity" "deaths" "[I", Cond.fieldLink RX0 41 "JointAnnuity$Annuity" "fullAmounts" "[I", Cond.fieldLink RX0 44 "JointAnnuity$Annuity" "carries" "[I", Cond.arrayClass .long, Cond.fieldLink RX0 47 "JointAnnuity$Annuity" "payments" "[J", Cond.fieldLink RX0 51 "JointAnnuity$Annuity" "keptInAll" "J", Cond.methodLink RX1 40 yX0_growBy, Cond.instanceMethod yX0_growBy, Cond.selects RX0 yX0_growBy yX0_growBy, Cond.code yX0_growBy cX0_growBy 8 none, Cond.methodLink RX0 55 Lib.Math.min.name, Cond.static Lib.Math.min.name, Cond.initialized "java/lang/Math", Cond.code Lib.Math.min.name Lib.Math.min.code 2 (some .int), Cond.methodLink RX0 61 Lib.Math.max.name, Cond.static Lib.Math.max.name, Cond.code Lib.Math.max.name Lib.Math.max.code 2 (some .int)]
def wsX1_add : List Cond := .code yX1_add cX1_add 5 (some .int) :: ((wsX1_add_r1 ++ wsX1_add_r2) ++ wsX10 ++ wsX00 ++ (vx_atS RX1 35 "java/lang/IllegalStateException" ["java/lang/RuntimeException", "java/lang/Exception"]).filter goodWord ++ (vx_atS RX1 137 "java/lang/IllegalArgumentException" ["java/lang/RuntimeException", "java/lang/Exception"]).filter goodWord)
def wsX1_find : List Cond := .code yX1_find cX1_find 3 (some (.object "JointAnnuity$Annuity")) :: ([.classLink RX1 123 "java/lang/IndexOutOfBoundsException", .initialized "java/lang/IndexOutOfBoundsException", .fieldLink RX1 11 "JointAnnuity" "annuities" "[LJointAnnuity$Annuity;"] ++ wsX10 ++ (vx_atS RX1 127 "java/lang/IndexOutOfBoundsException" ["java/lang/RuntimeException", "java/lang/Exception"]).filter goodWord)
def wsX1_requireStartNotRun : List Cond := .code yX1_requireStartNotRun cX1_requireStartNotRun 2 none :: ([.classLink RX1 31 "java/lang/IllegalStateException", .initialized "java/lang/IllegalStateException", .fieldLink RX1 128 "JointAnnuity$Annuity" "start" "I", .fieldLink RX1 23 "JointAnnuity" "monthThatGoesOn" "I"] ++ wsX00 ++ wsX10 ++ (vx_atS RX1 35 "java/lang/IllegalStateException" ["java/lang/RuntimeException", "java/lang/Exception"]).filter goodWord)
def wsX1_setSurvivor : List Cond := .code yX1_setSurvivor cX1_setSurvivor 5 none :: ([.fieldLink RX1 52 "JointAnnuity$Annuity" "survivorPercent" "I", .fieldLink RX1 55 "JointAnnuity$Annuity" "stepsOnFirst" "Z", .methodLink RX1 44 yX1_find, .instanceMethod yX1_find, .selects RX1 yX1_find yX1_find, .initialized RX1, .code yX1_find cX1_find 3 (some (.object "JointAnnuity$Annuity")), .classLink RX1 123 "java/lang/IndexOutOfBoundsException", .initialized "java/lang/IndexOutOfBoundsException", .fieldLink RX1 11 "JointAnnuity" "annuities" "[LJointAnnuity$Annuity;", .methodLink RX1 26 yX1_requireRange, .static yX1_requireRange, .code yX1_requireRange cX1_requireRange 3 none, .classLink RX1 133 "java/lang/IllegalArgumentException", .initialized "java/lang/IllegalArgumentException", .methodLink RX1 48 yX1_requireStartNotRun, .instanceMethod yX1_requireStartNotRun, .selects RX1 yX1_requireStartNotRun yX1_requireStartNotRun, .code yX1_requireStartNotRun cX1_requireStartNotRun 2 none, .classLink RX1 31 "java/lang/IllegalStateException", .initialized "java/lang/IllegalStateException", .fieldLink RX1 128 "JointAnnuity$Annuity" "start" "I", .fieldLink RX1 23 "JointAnnuity" "monthThatGoesOn" "I"] ++ wsX00 ++ wsX10 ++ (vx_atS RX1 127 "java/lang/IndexOutOfBoundsException" ["java/lang/RuntimeException", "java/lang/Exception"]).filter goodWord ++ (vx_atS RX1 137 "java/lang/IllegalArgumentException" ["java/lang/RuntimeException", "java/lang/Exception"]).filter goodWord ++ (vx_atS RX1 35 "java/lang/IllegalStateException" ["java/lang/RuntimeException", "java/lang/Exception"]).filter goodWord)
def wsX1_setCap_r1 : List Cond := [Cond.fieldLink RX1 59 "JointAnnuity$Annuity" "cap" "I", Cond.fieldLink RX1 15 "JointAnnuity" "inflation" "[I", Cond.methodLink RX1 44 yX1_find, Cond.instanceMethod yX1_find, Cond.selects RX1 yX1_find yX1_find, Cond.initialized RX1, Cond.code yX1_find cX1_find 3 (some (.object "JointAnnuity$Annuity")), Cond.classLink RX1 123 "java/lang/IndexOutOfBoundsException", Cond.initialized "java/lang/IndexOutOfBoundsException", Cond.fieldLink RX1 11 "JointAnnuity" "annuities" "[LJointAnnuity$Annuity;", Cond.methodLink RX1 26 yX1_requireRange, Cond.static yX1_requireRange, Cond.code yX1_requireRange cX1_requireRange 3 none, Cond.classLink RX1 133 "java/lang/IllegalArgumentException", Cond.initialized "java/lang/IllegalArgumentException", Cond.methodLink RX1 48 yX1_requireStartNotRun, Cond.instanceMethod yX1_requireStartNotRun, Cond.selects RX1 yX1_requireStartNotRun yX1_requireStartNotRun, Cond.code yX1_requireStartNotRun cX1_requireStartNotRun 2 none, Cond.classLink RX1 31 "java/lang/IllegalStateException", Cond.initialized "java/lang/IllegalStateException", Cond.fieldLink RX1 128 "JointAnnuity$Annuity" "start" "I", Cond.fieldLink RX1 23 "JointAnnuity" "monthThatGoesOn" "I", Cond.methodLink RX1 40 yX0_growBy]
def wsX1_setCap_r2 : List Cond := [Cond.instanceMethod yX0_growBy, Cond.selects RX0 yX0_growBy yX0_growBy, Cond.initialized RX0, Cond.code yX0_growBy cX0_growBy 8 none, Cond.fieldLink RX0 15 "JointAnnuity$Annuity" "amount" "I", Cond.fieldLink RX0 41 "JointAnnuity$Annuity" "fullAmounts" "[I", Cond.fieldLink RX0 44 "JointAnnuity$Annuity" "carries" "[I", Cond.fieldLink RX0 9 "JointAnnuity$Annuity" "start" "I", Cond.fieldLink RX0 28 "JointAnnuity$Annuity" "cap" "I", Cond.methodLink RX0 55 Lib.Math.min.name, Cond.static Lib.Math.min.name, Cond.initialized "java/lang/Math", Cond.code Lib.Math.min.name Lib.Math.min.code 2 (some .int), Cond.methodLink RX0 61 Lib.Math.max.name, Cond.static Lib.Math.max.name, Cond.code Lib.Math.max.name Lib.Math.max.code 2 (some .int)]
def wsX1_setCap : List Cond := .code yX1_setCap cX1_setCap 4 none :: ((wsX1_setCap_r1 ++ wsX1_setCap_r2) ++ wsX00 ++ wsX10 ++ (vx_atS RX1 127 "java/lang/IndexOutOfBoundsException" ["java/lang/RuntimeException", "java/lang/Exception"]).filter goodWord ++ (vx_atS RX1 137 "java/lang/IllegalArgumentException" ["java/lang/RuntimeException", "java/lang/Exception"]).filter goodWord ++ (vx_atS RX1 35 "java/lang/IllegalStateException" ["java/lang/RuntimeException", "java/lang/Exception"]).filter goodWord)
def wsX1_protect : List Cond := .code yX1_protect cX1_protect 5 none :: ([.constant RX1 62 (10000000), .fieldLink RX1 63 "JointAnnuity$Annuity" "price" "I", .fieldLink RX1 66 "JointAnnuity$Annuity" "protectedPercent" "I", .methodLink RX1 44 yX1_find, .instanceMethod yX1_find, .selects RX1 yX1_find yX1_find, .initialized RX1, .code yX1_find cX1_find 3 (some (.object "JointAnnuity$Annuity")), .classLink RX1 123 "java/lang/IndexOutOfBoundsException", .initialized "java/lang/IndexOutOfBoundsException", .fieldLink RX1 11 "JointAnnuity" "annuities" "[LJointAnnuity$Annuity;", .methodLink RX1 26 yX1_requireRange, .static yX1_requireRange, .code yX1_requireRange cX1_requireRange 3 none, .classLink RX1 133 "java/lang/IllegalArgumentException", .initialized "java/lang/IllegalArgumentException", .methodLink RX1 48 yX1_requireStartNotRun, .instanceMethod yX1_requireStartNotRun, .selects RX1 yX1_requireStartNotRun yX1_requireStartNotRun, .code yX1_requireStartNotRun cX1_requireStartNotRun 2 none, .classLink RX1 31 "java/lang/IllegalStateException", .initialized "java/lang/IllegalStateException", .fieldLink RX1 128 "JointAnnuity$Annuity" "start" "I", .fieldLink RX1 23 "JointAnnuity" "monthThatGoesOn" "I"] ++ wsX00 ++ wsX10 ++ (vx_atS RX1 127 "java/lang/IndexOutOfBoundsException" ["java/lang/RuntimeException", "java/lang/Exception"]).filter goodWord ++ (vx_atS RX1 137 "java/lang/IllegalArgumentException" ["java/lang/RuntimeException", "java/lang/Exception"]).filter goodWord ++ (vx_atS RX1 35 "java/lang/IllegalStateException" ["java/lang/RuntimeException", "java/lang/Exception"]).filter goodWord)
def wsX1_setInflation_r1 : List Cond := [Cond.fieldLink RX1 15 "JointAnnuity" "inflation" "[I", Cond.fieldLink RX1 11 "JointAnnuity" "annuities" "[LJointAnnuity$Annuity;", Cond.methodLink RX1 26 yX1_requireRange, Cond.static yX1_requireRange, Cond.initialized RX1, Cond.code yX1_requireRange cX1_requireRange 3 none, Cond.classLink RX1 133 "java/lang/IllegalArgumentException", Cond.initialized "java/lang/IllegalArgumentException", Cond.methodLink RX1 40 yX0_growBy, Cond.instanceMethod yX0_growBy, Cond.selects RX0 yX0_growBy yX0_growBy, Cond.initialized RX0, Cond.code yX0_growBy cX0_growBy 8 none, Cond.fieldLink RX0 15 "JointAnnuity$Annuity" "amount" "I", Cond.fieldLink RX0 41 "JointAnnuity$Annuity" "fullAmounts" "[I", Cond.fieldLink RX0 44 "JointAnnuity$Annuity" "carries" "[I", Cond.fieldLink RX0 9 "JointAnnuity$Annuity" "start" "I", Cond.fieldLink RX0 28 "JointAnnuity$Annuity" "cap" "I", Cond.methodLink RX0 55 Lib.Math.min.name, Cond.static Lib.Math.min.name, Cond.initialized "java/lang/Math", Cond.code Lib.Math.min.name Lib.Math.min.code 2 (some .int), Cond.methodLink RX0 61 Lib.Math.max.name, Cond.static Lib.Math.max.name]
def wsX1_setInflation_r2 : List Cond := [Cond.code Lib.Math.max.name Lib.Math.max.code 2 (some .int)]
def wsX1_setInflation : List Cond := .code yX1_setInflation cX1_setInflation 8 (some .int) :: ((wsX1_setInflation_r1 ++ wsX1_setInflation_r2) ++ wsX10 ++ wsX00 ++ (vx_atS RX1 137 "java/lang/IllegalArgumentException" ["java/lang/RuntimeException", "java/lang/Exception"]).filter goodWord)
def wsX1_die : List Cond := .code yX1_die cX1_die 5 none :: ([.classLink RX1 31 "java/lang/IllegalStateException", .initialized "java/lang/IllegalStateException", .fieldLink RX1 23 "JointAnnuity" "monthThatGoesOn" "I", .methodLink RX1 69 Lib.Math.min.name, .static Lib.Math.min.name, .initialized "java/lang/Math", .code Lib.Math.min.name Lib.Math.min.code 2 (some .int), .fieldLink RX1 75 "JointAnnuity$Annuity" "deaths" "[I", .methodLink RX1 44 yX1_find, .instanceMethod yX1_find, .selects RX1 yX1_find yX1_find, .initialized RX1, .code yX1_find cX1_find 3 (some (.object "JointAnnuity$Annuity")), .classLink RX1 123 "java/lang/IndexOutOfBoundsException", .initialized "java/lang/IndexOutOfBoundsException", .fieldLink RX1 11 "JointAnnuity" "annuities" "[LJointAnnuity$Annuity;", .methodLink RX1 26 yX1_requireRange, .static yX1_requireRange, .code yX1_requireRange cX1_requireRange 3 none, .classLink RX1 133 "java/lang/IllegalArgumentException", .initialized "java/lang/IllegalArgumentException"] ++ wsX10 ++ wsX00 ++ (vx_atS RX1 35 "java/lang/IllegalStateException" ["java/lang/RuntimeException", "java/lang/Exception"]).filter goodWord ++ (vx_atS RX1 127 "java/lang/IndexOutOfBoundsException" ["java/lang/RuntimeException", "java/lang/Exception"]).filter goodWord ++ (vx_atS RX1 137 "java/lang/IllegalArgumentException" ["java/lang/RuntimeException", "java/lang/Exception"]).filter goodWord)
def wsX1_takeBack : List Cond := .code yX1_takeBack cX1_takeBack 5 (some .int) :: ([.classLink RX1 31 "java/lang/IllegalStateException", .initialized "java/lang/IllegalStateException", .fieldLink RX1 75 "JointAnnuity$Annuity" "deaths" "[I", .methodLink RX1 44 yX1_find, .instanceMethod yX1_find, .selects RX1 yX1_find yX1_find, .initialized RX1, .code yX1_find cX1_find 3 (some (.object "JointAnnuity$Annuity")), .classLink RX1 123 "java/lang/IndexOutOfBoundsException", .initialized "java/lang/IndexOutOfBoundsException", .fieldLink RX1 11 "JointAnnuity" "annuities" "[LJointAnnuity$Annuity;", .methodLink RX1 26 yX1_requireRange, .static yX1_requireRange, .code yX1_requireRange cX1_requireRange 3 none, .classLink RX1 133 "java/lang/IllegalArgumentException", .initialized "java/lang/IllegalArgumentException"] ++ wsX00 ++ wsX10 ++ (vx_atS RX1 35 "java/lang/IllegalStateException" ["java/lang/RuntimeException", "java/lang/Exception"]).filter goodWord ++ (vx_atS RX1 127 "java/lang/IndexOutOfBoundsException" ["java/lang/RuntimeException", "java/lang/Exception"]).filter goodWord ++ (vx_atS RX1 137 "java/lang/IllegalArgumentException" ["java/lang/RuntimeException", "java/lang/Exception"]).filter goodWord)
def wsX1_run_r1 : List Cond := [Cond.classLink RX1 31 "java/lang/IllegalStateException", Cond.initialized "java/lang/IllegalStateException", Cond.fieldLink RX1 23 "JointAnnuity" "monthThatGoesOn" "I", Cond.fieldLink RX1 11 "JointAnnuity" "annuities" "[LJointAnnuity$Annuity;", Cond.methodLink RX1 84 yX0_payIn, Cond.instanceMethod yX0_payIn, Cond.selects RX0 yX0_payIn yX0_payIn, Cond.initialized RX0, Cond.code yX0_payIn cX0_payIn 4 (some .long), Cond.fieldLink RX0 51 "JointAnnuity$Annuity" "keptInAll" "J", Cond.methodLink RX0 81 Lib.MathLoose.max_long.x, Cond.static Lib.MathLoose.max_long.x, Cond.initialized "java/lang/Math", Cond.code Lib.MathLoose.max_long.x Lib.MathLoose.max_long.code 4 (some .long), Cond.fieldLink RX0 47 "JointAnnuity$Annuity" "payments" "[J", Cond.methodLink RX0 88 yX0_dueAhead, Cond.instanceMethod yX0_dueAhead, Cond.selects RX0 yX0_dueAhead yX0_dueAhead, Cond.code yX0_dueAhead cX0_dueAhead 4 (some .long), Cond.methodLink RX0 78 yX0_sharesAhead, Cond.instanceMethod yX0_sharesAhead, Cond.selects RX0 yX0_sharesAhead yX0_sharesAhead, Cond.code yX0_sharesAhead cX0_sharesAhead 5 (some .long), Cond.fieldLink RX0 9 "JointAnnuity$Annuity" "start" "I"]
def wsX1_run_r2 : List Cond := [Cond.methodLink RX0 70 yX0_shareIn, Cond.instanceMethod yX0_shareIn, Cond.selects RX0 yX0_shareIn yX0_shareIn, Cond.code yX0_shareIn cX0_shareIn 6 (some .long), Cond.fieldLink RX0 37 "JointAnnuity$Annuity" "deaths" "[I", Cond.fieldLink RX0 18 "JointAnnuity$Annuity" "guaranteeEnd" "I", Cond.fieldLink RX0 24 "JointAnnuity$Annuity" "stepsOnFirst" "Z", Cond.fieldLink RX0 21 "JointAnnuity$Annuity" "survivorPercent" "I", Cond.constantLong RX0 68 (100), Cond.methodLink RX0 64 yX0_fullIn, Cond.instanceMethod yX0_fullIn, Cond.selects RX0 yX0_fullIn yX0_fullIn, Cond.code yX0_fullIn cX0_fullIn 2 (some .int), Cond.fieldLink RX0 41 "JointAnnuity$Annuity" "fullAmounts" "[I", Cond.methodLink RX0 74 yX0_protectionMonth, Cond.instanceMethod yX0_protectionMonth, Cond.selects RX0 yX0_protectionMonth yX0_protectionMonth, Cond.code yX0_protectionMonth cX0_protectionMonth 2 (some .int), Cond.methodLink RX0 61 Lib.Math.max.name, Cond.static Lib.Math.max.name, Cond.code Lib.Math.max.name Lib.Math.max.code 2 (some .int), Cond.methodLink RX0 55 Lib.Math.min.name, Cond.static Lib.Math.min.name, Cond.code Lib.Math.min.name Lib.Math.min.code 2 (some .int)]
def wsX1_run_r3 : List Cond := [Cond.methodLink RX0 84 yX0_protectionSum, Cond.instanceMethod yX0_protectionSum, Cond.selects RX0 yX0_protectionSum yX0_protectionSum, Cond.code yX0_protectionSum cX0_protectionSum 4 (some .long), Cond.fieldLink RX0 31 "JointAnnuity$Annuity" "price" "I", Cond.fieldLink RX0 34 "JointAnnuity$Annuity" "protectedPercent" "I"]
def wsX1_run : List Cond := .code yX1_run cX1_run 7 (some .long) :: ((wsX1_run_r1 ++ (wsX1_run_r2 ++ wsX1_run_r3)) ++ wsX10 ++ wsX00 ++ (vx_atS RX1 35 "java/lang/IllegalStateException" ["java/lang/RuntimeException", "java/lang/Exception"]).filter goodWord)
def wsX1_month : List Cond := .code yX1_month cX1_month 1 (some .int) :: ([.fieldLink RX1 23 "JointAnnuity" "monthThatGoesOn" "I"] ++ wsX10)
def wsX1_giveBack_r1 : List Cond := [Cond.classLink RX1 31 "java/lang/IllegalStateException", Cond.initialized "java/lang/IllegalStateException", Cond.constant RX1 88 (100000000), Cond.fieldLink RX1 23 "JointAnnuity" "monthThatGoesOn" "I", Cond.fieldLink RX1 94 "JointAnnuity$Annuity" "keptInAll" "J", Cond.methodLink RX1 44 yX1_find, Cond.instanceMethod yX1_find, Cond.selects RX1 yX1_find yX1_find, Cond.initialized RX1, Cond.code yX1_find cX1_find 3 (some (.object "JointAnnuity$Annuity")), Cond.classLink RX1 123 "java/lang/IndexOutOfBoundsException", Cond.initialized "java/lang/IndexOutOfBoundsException", Cond.fieldLink RX1 11 "JointAnnuity" "annuities" "[LJointAnnuity$Annuity;", Cond.methodLink RX1 26 yX1_requireRange, Cond.static yX1_requireRange, Cond.code yX1_requireRange cX1_requireRange 3 none, Cond.classLink RX1 133 "java/lang/IllegalArgumentException", Cond.initialized "java/lang/IllegalArgumentException", Cond.methodLink RX1 89 yX0_debtAhead, Cond.instanceMethod yX0_debtAhead, Cond.selects RX0 yX0_debtAhead yX0_debtAhead, Cond.initialized RX0, Cond.code yX0_debtAhead cX0_debtAhead 2 (some .long), Cond.fieldLink RX0 51 "JointAnnuity$Annuity" "keptInAll" "J"]
def wsX1_giveBack_r2 : List Cond := [Cond.methodLink RX0 81 Lib.MathLoose.max_long.x, Cond.static Lib.MathLoose.max_long.x, Cond.initialized "java/lang/Math", Cond.code Lib.MathLoose.max_long.x Lib.MathLoose.max_long.code 4 (some .long), Cond.methodLink RX0 88 yX0_dueAhead, Cond.instanceMethod yX0_dueAhead, Cond.selects RX0 yX0_dueAhead yX0_dueAhead, Cond.code yX0_dueAhead cX0_dueAhead 4 (some .long), Cond.methodLink RX0 78 yX0_sharesAhead, Cond.instanceMethod yX0_sharesAhead, Cond.selects RX0 yX0_sharesAhead yX0_sharesAhead, Cond.code yX0_sharesAhead cX0_sharesAhead 5 (some .long), Cond.fieldLink RX0 9 "JointAnnuity$Annuity" "start" "I", Cond.methodLink RX0 70 yX0_shareIn, Cond.instanceMethod yX0_shareIn, Cond.selects RX0 yX0_shareIn yX0_shareIn, Cond.code yX0_shareIn cX0_shareIn 6 (some .long), Cond.fieldLink RX0 37 "JointAnnuity$Annuity" "deaths" "[I", Cond.fieldLink RX0 18 "JointAnnuity$Annuity" "guaranteeEnd" "I", Cond.fieldLink RX0 24 "JointAnnuity$Annuity" "stepsOnFirst" "Z", Cond.fieldLink RX0 21 "JointAnnuity$Annuity" "survivorPercent" "I", Cond.constantLong RX0 68 (100), Cond.methodLink RX0 64 yX0_fullIn, Cond.instanceMethod yX0_fullIn]
def wsX1_giveBack_r3 : List Cond := [Cond.selects RX0 yX0_fullIn yX0_fullIn, Cond.code yX0_fullIn cX0_fullIn 2 (some .int), Cond.fieldLink RX0 41 "JointAnnuity$Annuity" "fullAmounts" "[I", Cond.methodLink RX0 74 yX0_protectionMonth, Cond.instanceMethod yX0_protectionMonth, Cond.selects RX0 yX0_protectionMonth yX0_protectionMonth, Cond.code yX0_protectionMonth cX0_protectionMonth 2 (some .int), Cond.methodLink RX0 61 Lib.Math.max.name, Cond.static Lib.Math.max.name, Cond.code Lib.Math.max.name Lib.Math.max.code 2 (some .int), Cond.methodLink RX0 55 Lib.Math.min.name, Cond.static Lib.Math.min.name, Cond.code Lib.Math.min.name Lib.Math.min.code 2 (some .int), Cond.methodLink RX0 84 yX0_protectionSum, Cond.instanceMethod yX0_protectionSum, Cond.selects RX0 yX0_protectionSum yX0_protectionSum, Cond.code yX0_protectionSum cX0_protectionSum 4 (some .long), Cond.fieldLink RX0 31 "JointAnnuity$Annuity" "price" "I", Cond.fieldLink RX0 34 "JointAnnuity$Annuity" "protectedPercent" "I"]
def wsX1_giveBack : List Cond := .code yX1_giveBack cX1_giveBack 6 (some .long) :: ((wsX1_giveBack_r1 ++ (wsX1_giveBack_r2 ++ wsX1_giveBack_r3)) ++ wsX10 ++ wsX00 ++ (vx_atS RX1 35 "java/lang/IllegalStateException" ["java/lang/RuntimeException", "java/lang/Exception"]).filter goodWord ++ (vx_atS RX1 127 "java/lang/IndexOutOfBoundsException" ["java/lang/RuntimeException", "java/lang/Exception"]).filter goodWord ++ (vx_atS RX1 137 "java/lang/IllegalArgumentException" ["java/lang/RuntimeException", "java/lang/Exception"]).filter goodWord)
def wsX1_paid : List Cond := .code yX1_paid cX1_paid 4 (some .long) :: ([.fieldLink RX1 23 "JointAnnuity" "monthThatGoesOn" "I", .fieldLink RX1 98 "JointAnnuity$Annuity" "payments" "[J", .methodLink RX1 44 yX1_find, .instanceMethod yX1_find, .selects RX1 yX1_find yX1_find, .initialized RX1, .code yX1_find cX1_find 3 (some (.object "JointAnnuity$Annuity")), .classLink RX1 123 "java/lang/IndexOutOfBoundsException", .initialized "java/lang/IndexOutOfBoundsException", .fieldLink RX1 11 "JointAnnuity" "annuities" "[LJointAnnuity$Annuity;", .methodLink RX1 26 yX1_requireRange, .static yX1_requireRange, .code yX1_requireRange cX1_requireRange 3 none, .classLink RX1 133 "java/lang/IllegalArgumentException", .initialized "java/lang/IllegalArgumentException"] ++ wsX10 ++ wsX00 ++ (vx_atS RX1 127 "java/lang/IndexOutOfBoundsException" ["java/lang/RuntimeException", "java/lang/Exception"]).filter goodWord ++ (vx_atS RX1 137 "java/lang/IllegalArgumentException" ["java/lang/RuntimeException", "java/lang/Exception"]).filter goodWord)
def wsX1_paidInAll : List Cond := .code yX1_paidInAll cX1_paidInAll 2 (some .long) :: ([.fieldLink RX1 94 "JointAnnuity$Annuity" "keptInAll" "J", .methodLink RX1 44 yX1_find, .instanceMethod yX1_find, .selects RX1 yX1_find yX1_find, .initialized RX1, .code yX1_find cX1_find 3 (some (.object "JointAnnuity$Annuity")), .classLink RX1 123 "java/lang/IndexOutOfBoundsException", .initialized "java/lang/IndexOutOfBoundsException", .fieldLink RX1 11 "JointAnnuity" "annuities" "[LJointAnnuity$Annuity;"] ++ wsX00 ++ wsX10 ++ (vx_atS RX1 127 "java/lang/IndexOutOfBoundsException" ["java/lang/RuntimeException", "java/lang/Exception"]).filter goodWord)
def wsX1_owes_r1 : List Cond := [Cond.fieldLink RX1 23 "JointAnnuity" "monthThatGoesOn" "I", Cond.methodLink RX1 44 yX1_find, Cond.instanceMethod yX1_find, Cond.selects RX1 yX1_find yX1_find, Cond.initialized RX1, Cond.code yX1_find cX1_find 3 (some (.object "JointAnnuity$Annuity")), Cond.classLink RX1 123 "java/lang/IndexOutOfBoundsException", Cond.initialized "java/lang/IndexOutOfBoundsException", Cond.fieldLink RX1 11 "JointAnnuity" "annuities" "[LJointAnnuity$Annuity;", Cond.methodLink RX1 89 yX0_debtAhead, Cond.instanceMethod yX0_debtAhead, Cond.selects RX0 yX0_debtAhead yX0_debtAhead, Cond.initialized RX0, Cond.code yX0_debtAhead cX0_debtAhead 2 (some .long), Cond.fieldLink RX0 51 "JointAnnuity$Annuity" "keptInAll" "J", Cond.methodLink RX0 81 Lib.MathLoose.max_long.x, Cond.static Lib.MathLoose.max_long.x, Cond.initialized "java/lang/Math", Cond.code Lib.MathLoose.max_long.x Lib.MathLoose.max_long.code 4 (some .long), Cond.methodLink RX0 88 yX0_dueAhead, Cond.instanceMethod yX0_dueAhead, Cond.selects RX0 yX0_dueAhead yX0_dueAhead, Cond.code yX0_dueAhead cX0_dueAhead 4 (some .long), Cond.methodLink RX0 78 yX0_sharesAhead]
def wsX1_owes_r2 : List Cond := [Cond.instanceMethod yX0_sharesAhead, Cond.selects RX0 yX0_sharesAhead yX0_sharesAhead, Cond.code yX0_sharesAhead cX0_sharesAhead 5 (some .long), Cond.fieldLink RX0 9 "JointAnnuity$Annuity" "start" "I", Cond.methodLink RX0 70 yX0_shareIn, Cond.instanceMethod yX0_shareIn, Cond.selects RX0 yX0_shareIn yX0_shareIn, Cond.code yX0_shareIn cX0_shareIn 6 (some .long), Cond.fieldLink RX0 37 "JointAnnuity$Annuity" "deaths" "[I", Cond.fieldLink RX0 18 "JointAnnuity$Annuity" "guaranteeEnd" "I", Cond.fieldLink RX0 24 "JointAnnuity$Annuity" "stepsOnFirst" "Z", Cond.fieldLink RX0 21 "JointAnnuity$Annuity" "survivorPercent" "I", Cond.constantLong RX0 68 (100), Cond.methodLink RX0 64 yX0_fullIn, Cond.instanceMethod yX0_fullIn, Cond.selects RX0 yX0_fullIn yX0_fullIn, Cond.code yX0_fullIn cX0_fullIn 2 (some .int), Cond.fieldLink RX0 41 "JointAnnuity$Annuity" "fullAmounts" "[I", Cond.methodLink RX0 74 yX0_protectionMonth, Cond.instanceMethod yX0_protectionMonth, Cond.selects RX0 yX0_protectionMonth yX0_protectionMonth, Cond.code yX0_protectionMonth cX0_protectionMonth 2 (some .int), Cond.methodLink RX0 61 Lib.Math.max.name, Cond.static Lib.Math.max.name]
def wsX1_owes_r3 : List Cond := [Cond.code Lib.Math.max.name Lib.Math.max.code 2 (some .int), Cond.methodLink RX0 55 Lib.Math.min.name, Cond.static Lib.Math.min.name, Cond.code Lib.Math.min.name Lib.Math.min.code 2 (some .int), Cond.methodLink RX0 84 yX0_protectionSum, Cond.instanceMethod yX0_protectionSum, Cond.selects RX0 yX0_protectionSum yX0_protectionSum, Cond.code yX0_protectionSum cX0_protectionSum 4 (some .long), Cond.fieldLink RX0 31 "JointAnnuity$Annuity" "price" "I", Cond.fieldLink RX0 34 "JointAnnuity$Annuity" "protectedPercent" "I"]
def wsX1_owes : List Cond := .code yX1_owes cX1_owes 2 (some .long) :: ((wsX1_owes_r1 ++ (wsX1_owes_r2 ++ wsX1_owes_r3)) ++ wsX10 ++ wsX00 ++ (vx_atS RX1 127 "java/lang/IndexOutOfBoundsException" ["java/lang/RuntimeException", "java/lang/Exception"]).filter goodWord)
def wsX1_requireMonth : List Cond := .code yX1_requireMonth cX1_requireMonth 1 none :: ([.methodLink RX1 26 yX1_requireRange, .static yX1_requireRange, .initialized RX1, .code yX1_requireRange cX1_requireRange 3 none, .classLink RX1 133 "java/lang/IllegalArgumentException", .initialized "java/lang/IllegalArgumentException"] ++ (vx_atS RX1 137 "java/lang/IllegalArgumentException" ["java/lang/RuntimeException", "java/lang/Exception"]).filter goodWord)
def wsX1_fullAmount : List Cond := .code yX1_fullAmount cX1_fullAmount 4 (some .int) :: ([.methodLink RX1 44 yX1_find, .instanceMethod yX1_find, .selects RX1 yX1_find yX1_find, .initialized RX1, .code yX1_find cX1_find 3 (some (.object "JointAnnuity$Annuity")), .classLink RX1 123 "java/lang/IndexOutOfBoundsException", .initialized "java/lang/IndexOutOfBoundsException", .fieldLink RX1 11 "JointAnnuity" "annuities" "[LJointAnnuity$Annuity;", .methodLink RX1 102 yX1_requireMonth, .static yX1_requireMonth, .code yX1_requireMonth cX1_requireMonth 1 none, .methodLink RX1 26 yX1_requireRange, .static yX1_requireRange, .code yX1_requireRange cX1_requireRange 3 none, .classLink RX1 133 "java/lang/IllegalArgumentException", .initialized "java/lang/IllegalArgumentException", .methodLink RX1 106 yX0_fullIn, .instanceMethod yX0_fullIn, .selects RX0 yX0_fullIn yX0_fullIn, .initialized RX0, .code yX0_fullIn cX0_fullIn 2 (some .int), .fieldLink RX0 9 "JointAnnuity$Annuity" "start" "I", .fieldLink RX0 41 "JointAnnuity$Annuity" "fullAmounts" "[I"] ++ wsX10 ++ wsX00 ++ (vx_atS RX1 127 "java/lang/IndexOutOfBoundsException" ["java/lang/RuntimeException", "java/lang/Exception"]).filter goodWord ++ (vx_atS RX1 137 "java/lang/IllegalArgumentException" ["java/lang/RuntimeException", "java/lang/Exception"]).filter goodWord)
def wsX1_carry : List Cond := .code yX1_carry cX1_carry 4 (some .int) :: ([.methodLink RX1 44 yX1_find, .instanceMethod yX1_find, .selects RX1 yX1_find yX1_find, .initialized RX1, .code yX1_find cX1_find 3 (some (.object "JointAnnuity$Annuity")), .classLink RX1 123 "java/lang/IndexOutOfBoundsException", .initialized "java/lang/IndexOutOfBoundsException", .fieldLink RX1 11 "JointAnnuity" "annuities" "[LJointAnnuity$Annuity;", .methodLink RX1 102 yX1_requireMonth, .static yX1_requireMonth, .code yX1_requireMonth cX1_requireMonth 1 none, .methodLink RX1 26 yX1_requireRange, .static yX1_requireRange, .code yX1_requireRange cX1_requireRange 3 none, .classLink RX1 133 "java/lang/IllegalArgumentException", .initialized "java/lang/IllegalArgumentException", .methodLink RX1 110 yX0_carryIn, .instanceMethod yX0_carryIn, .selects RX0 yX0_carryIn yX0_carryIn, .initialized RX0, .code yX0_carryIn cX0_carryIn 2 (some .int), .fieldLink RX0 9 "JointAnnuity$Annuity" "start" "I", .fieldLink RX0 44 "JointAnnuity$Annuity" "carries" "[I"] ++ wsX10 ++ wsX00 ++ (vx_atS RX1 127 "java/lang/IndexOutOfBoundsException" ["java/lang/RuntimeException", "java/lang/Exception"]).filter goodWord ++ (vx_atS RX1 137 "java/lang/IllegalArgumentException" ["java/lang/RuntimeException", "java/lang/Exception"]).filter goodWord)
def wsX1_entitled_r1 : List Cond := [Cond.methodLink RX1 44 yX1_find, Cond.instanceMethod yX1_find, Cond.selects RX1 yX1_find yX1_find, Cond.initialized RX1, Cond.code yX1_find cX1_find 3 (some (.object "JointAnnuity$Annuity")), Cond.classLink RX1 123 "java/lang/IndexOutOfBoundsException", Cond.initialized "java/lang/IndexOutOfBoundsException", Cond.fieldLink RX1 11 "JointAnnuity" "annuities" "[LJointAnnuity$Annuity;", Cond.methodLink RX1 102 yX1_requireMonth, Cond.static yX1_requireMonth, Cond.code yX1_requireMonth cX1_requireMonth 1 none, Cond.methodLink RX1 26 yX1_requireRange, Cond.static yX1_requireRange, Cond.code yX1_requireRange cX1_requireRange 3 none, Cond.classLink RX1 133 "java/lang/IllegalArgumentException", Cond.initialized "java/lang/IllegalArgumentException", Cond.methodLink RX1 113 yX0_dueIn, Cond.instanceMethod yX0_dueIn, Cond.selects RX0 yX0_dueIn yX0_dueIn, Cond.initialized RX0, Cond.code yX0_dueIn cX0_dueIn 4 (some .long), Cond.methodLink RX0 70 yX0_shareIn, Cond.instanceMethod yX0_shareIn, Cond.selects RX0 yX0_shareIn yX0_shareIn]
def wsX1_entitled_r2 : List Cond := [Cond.code yX0_shareIn cX0_shareIn 6 (some .long), Cond.fieldLink RX0 9 "JointAnnuity$Annuity" "start" "I", Cond.fieldLink RX0 37 "JointAnnuity$Annuity" "deaths" "[I", Cond.fieldLink RX0 18 "JointAnnuity$Annuity" "guaranteeEnd" "I", Cond.fieldLink RX0 24 "JointAnnuity$Annuity" "stepsOnFirst" "Z", Cond.fieldLink RX0 21 "JointAnnuity$Annuity" "survivorPercent" "I", Cond.constantLong RX0 68 (100), Cond.methodLink RX0 64 yX0_fullIn, Cond.instanceMethod yX0_fullIn, Cond.selects RX0 yX0_fullIn yX0_fullIn, Cond.code yX0_fullIn cX0_fullIn 2 (some .int), Cond.fieldLink RX0 41 "JointAnnuity$Annuity" "fullAmounts" "[I", Cond.methodLink RX0 74 yX0_protectionMonth, Cond.instanceMethod yX0_protectionMonth, Cond.selects RX0 yX0_protectionMonth yX0_protectionMonth, Cond.code yX0_protectionMonth cX0_protectionMonth 2 (some .int), Cond.methodLink RX0 61 Lib.Math.max.name, Cond.static Lib.Math.max.name, Cond.initialized "java/lang/Math", Cond.code Lib.Math.max.name Lib.Math.max.code 2 (some .int), Cond.methodLink RX0 55 Lib.Math.min.name, Cond.static Lib.Math.min.name, Cond.code Lib.Math.min.name Lib.Math.min.code 2 (some .int), Cond.methodLink RX0 84 yX0_protectionSum]
def wsX1_entitled_r3 : List Cond := [Cond.instanceMethod yX0_protectionSum, Cond.selects RX0 yX0_protectionSum yX0_protectionSum, Cond.code yX0_protectionSum cX0_protectionSum 4 (some .long), Cond.fieldLink RX0 31 "JointAnnuity$Annuity" "price" "I", Cond.fieldLink RX0 34 "JointAnnuity$Annuity" "protectedPercent" "I", Cond.methodLink RX0 81 Lib.MathLoose.max_long.x, Cond.static Lib.MathLoose.max_long.x, Cond.code Lib.MathLoose.max_long.x Lib.MathLoose.max_long.code 4 (some .long), Cond.methodLink RX0 78 yX0_sharesAhead, Cond.instanceMethod yX0_sharesAhead, Cond.selects RX0 yX0_sharesAhead yX0_sharesAhead, Cond.code yX0_sharesAhead cX0_sharesAhead 5 (some .long)]
def wsX1_entitled : List Cond := .code yX1_entitled cX1_entitled 4 (some .long) :: ((wsX1_entitled_r1 ++ (wsX1_entitled_r2 ++ wsX1_entitled_r3)) ++ wsX10 ++ wsX00 ++ (vx_atS RX1 127 "java/lang/IndexOutOfBoundsException" ["java/lang/RuntimeException", "java/lang/Exception"]).filter goodWord ++ (vx_atS RX1 137 "java/lang/IllegalArgumentException" ["java/lang/RuntimeException", "java/lang/Exception"]).filter goodWord)
def wsX1_entitledUpTo_r1 : List Cond := [Cond.methodLink RX1 44 yX1_find, Cond.instanceMethod yX1_find, Cond.selects RX1 yX1_find yX1_find, Cond.initialized RX1, Cond.code yX1_find cX1_find 3 (some (.object "JointAnnuity$Annuity")), Cond.classLink RX1 123 "java/lang/IndexOutOfBoundsException", Cond.initialized "java/lang/IndexOutOfBoundsException", Cond.fieldLink RX1 11 "JointAnnuity" "annuities" "[LJointAnnuity$Annuity;", Cond.methodLink RX1 102 yX1_requireMonth, Cond.static yX1_requireMonth, Cond.code yX1_requireMonth cX1_requireMonth 1 none, Cond.methodLink RX1 26 yX1_requireRange, Cond.static yX1_requireRange, Cond.code yX1_requireRange cX1_requireRange 3 none, Cond.classLink RX1 133 "java/lang/IllegalArgumentException", Cond.initialized "java/lang/IllegalArgumentException", Cond.methodLink RX1 116 yX0_dueAhead, Cond.instanceMethod yX0_dueAhead, Cond.selects RX0 yX0_dueAhead yX0_dueAhead, Cond.initialized RX0, Cond.code yX0_dueAhead cX0_dueAhead 4 (some .long), Cond.methodLink RX0 78 yX0_sharesAhead, Cond.instanceMethod yX0_sharesAhead, Cond.selects RX0 yX0_sharesAhead yX0_sharesAhead]
def wsX1_entitledUpTo_r2 : List Cond := [Cond.code yX0_sharesAhead cX0_sharesAhead 5 (some .long), Cond.fieldLink RX0 9 "JointAnnuity$Annuity" "start" "I", Cond.methodLink RX0 70 yX0_shareIn, Cond.instanceMethod yX0_shareIn, Cond.selects RX0 yX0_shareIn yX0_shareIn, Cond.code yX0_shareIn cX0_shareIn 6 (some .long), Cond.fieldLink RX0 37 "JointAnnuity$Annuity" "deaths" "[I", Cond.fieldLink RX0 18 "JointAnnuity$Annuity" "guaranteeEnd" "I", Cond.fieldLink RX0 24 "JointAnnuity$Annuity" "stepsOnFirst" "Z", Cond.fieldLink RX0 21 "JointAnnuity$Annuity" "survivorPercent" "I", Cond.constantLong RX0 68 (100), Cond.methodLink RX0 64 yX0_fullIn, Cond.instanceMethod yX0_fullIn, Cond.selects RX0 yX0_fullIn yX0_fullIn, Cond.code yX0_fullIn cX0_fullIn 2 (some .int), Cond.fieldLink RX0 41 "JointAnnuity$Annuity" "fullAmounts" "[I", Cond.methodLink RX0 74 yX0_protectionMonth, Cond.instanceMethod yX0_protectionMonth, Cond.selects RX0 yX0_protectionMonth yX0_protectionMonth, Cond.code yX0_protectionMonth cX0_protectionMonth 2 (some .int), Cond.methodLink RX0 61 Lib.Math.max.name, Cond.static Lib.Math.max.name, Cond.initialized "java/lang/Math", Cond.code Lib.Math.max.name Lib.Math.max.code 2 (some .int)]
def wsX1_entitledUpTo_r3 : List Cond := [Cond.methodLink RX0 55 Lib.Math.min.name, Cond.static Lib.Math.min.name, Cond.code Lib.Math.min.name Lib.Math.min.code 2 (some .int), Cond.methodLink RX0 84 yX0_protectionSum, Cond.instanceMethod yX0_protectionSum, Cond.selects RX0 yX0_protectionSum yX0_protectionSum, Cond.code yX0_protectionSum cX0_protectionSum 4 (some .long), Cond.fieldLink RX0 31 "JointAnnuity$Annuity" "price" "I", Cond.fieldLink RX0 34 "JointAnnuity$Annuity" "protectedPercent" "I", Cond.methodLink RX0 81 Lib.MathLoose.max_long.x, Cond.static Lib.MathLoose.max_long.x, Cond.code Lib.MathLoose.max_long.x Lib.MathLoose.max_long.code 4 (some .long)]
def wsX1_entitledUpTo : List Cond := .code yX1_entitledUpTo cX1_entitledUpTo 4 (some .long) :: ((wsX1_entitledUpTo_r1 ++ (wsX1_entitledUpTo_r2 ++ wsX1_entitledUpTo_r3)) ++ wsX10 ++ wsX00 ++ (vx_atS RX1 127 "java/lang/IndexOutOfBoundsException" ["java/lang/RuntimeException", "java/lang/Exception"]).filter goodWord ++ (vx_atS RX1 137 "java/lang/IllegalArgumentException" ["java/lang/RuntimeException", "java/lang/Exception"]).filter goodWord)
def wsX1_protection_r1 : List Cond := [Cond.methodLink RX1 44 yX1_find, Cond.instanceMethod yX1_find, Cond.selects RX1 yX1_find yX1_find, Cond.initialized RX1, Cond.code yX1_find cX1_find 3 (some (.object "JointAnnuity$Annuity")), Cond.classLink RX1 123 "java/lang/IndexOutOfBoundsException", Cond.initialized "java/lang/IndexOutOfBoundsException", Cond.fieldLink RX1 11 "JointAnnuity" "annuities" "[LJointAnnuity$Annuity;", Cond.methodLink RX1 119 yX0_protectionSum, Cond.instanceMethod yX0_protectionSum, Cond.selects RX0 yX0_protectionSum yX0_protectionSum, Cond.initialized RX0, Cond.code yX0_protectionSum cX0_protectionSum 4 (some .long), Cond.fieldLink RX0 31 "JointAnnuity$Annuity" "price" "I", Cond.fieldLink RX0 34 "JointAnnuity$Annuity" "protectedPercent" "I", Cond.constantLong RX0 68 (100), Cond.methodLink RX0 81 Lib.MathLoose.max_long.x, Cond.static Lib.MathLoose.max_long.x, Cond.initialized "java/lang/Math", Cond.code Lib.MathLoose.max_long.x Lib.MathLoose.max_long.code 4 (some .long), Cond.methodLink RX0 74 yX0_protectionMonth, Cond.instanceMethod yX0_protectionMonth, Cond.selects RX0 yX0_protectionMonth yX0_protectionMonth, Cond.code yX0_protectionMonth cX0_protectionMonth 2 (some .int)]
def wsX1_protection_r2 : List Cond := [Cond.fieldLink RX0 37 "JointAnnuity$Annuity" "deaths" "[I", Cond.methodLink RX0 61 Lib.Math.max.name, Cond.static Lib.Math.max.name, Cond.code Lib.Math.max.name Lib.Math.max.code 2 (some .int), Cond.fieldLink RX0 18 "JointAnnuity$Annuity" "guaranteeEnd" "I", Cond.methodLink RX0 55 Lib.Math.min.name, Cond.static Lib.Math.min.name, Cond.code Lib.Math.min.name Lib.Math.min.code 2 (some .int), Cond.methodLink RX0 78 yX0_sharesAhead, Cond.instanceMethod yX0_sharesAhead, Cond.selects RX0 yX0_sharesAhead yX0_sharesAhead, Cond.code yX0_sharesAhead cX0_sharesAhead 5 (some .long), Cond.fieldLink RX0 9 "JointAnnuity$Annuity" "start" "I", Cond.methodLink RX0 70 yX0_shareIn, Cond.instanceMethod yX0_shareIn, Cond.selects RX0 yX0_shareIn yX0_shareIn, Cond.code yX0_shareIn cX0_shareIn 6 (some .long), Cond.fieldLink RX0 24 "JointAnnuity$Annuity" "stepsOnFirst" "Z", Cond.fieldLink RX0 21 "JointAnnuity$Annuity" "survivorPercent" "I", Cond.methodLink RX0 64 yX0_fullIn, Cond.instanceMethod yX0_fullIn, Cond.selects RX0 yX0_fullIn yX0_fullIn, Cond.code yX0_fullIn cX0_fullIn 2 (some .int), Cond.fieldLink RX0 41 "JointAnnuity$Annuity" "fullAmounts" "[I"]
def wsX1_protection : List Cond := .code yX1_protection cX1_protection 2 (some .long) :: ((wsX1_protection_r1 ++ wsX1_protection_r2) ++ wsX10 ++ wsX00 ++ (vx_atS RX1 127 "java/lang/IndexOutOfBoundsException" ["java/lang/RuntimeException", "java/lang/Exception"]).filter goodWord)
def wsX2_init : List Cond := .code yX2_init cX2_init 1 none :: ([.methodLink RX2 1 objectInit, .instanceMethod objectInit, .code objectInit ⟨#[0xb1]⟩ 1 none, .arrayClass .int, .fieldLink RX2 7 "JointAnnuityModel" "start" "[I", .fieldLink RX2 13 "JointAnnuityModel" "amount" "[I", .fieldLink RX2 16 "JointAnnuityModel" "guarantee" "[I", .fieldLink RX2 19 "JointAnnuityModel" "percent" "[I", .arrayClass .boolean, .fieldLink RX2 22 "JointAnnuityModel" "isOnFirst" "[Z", .fieldLink RX2 26 "JointAnnuityModel" "cap" "[I", .fieldLink RX2 29 "JointAnnuityModel" "price" "[I", .fieldLink RX2 32 "JointAnnuityModel" "share" "[I", .fieldLink RX2 35 "JointAnnuityModel" "death" "[I", .arrayClass .long, .fieldLink RX2 38 "JointAnnuityModel" "total" "[J", .fieldLink RX2 42 "JointAnnuityModel" "back" "[J", .fieldLink RX2 45 "JointAnnuityModel" "paid" "[J", .fieldLink RX2 48 "JointAnnuityModel" "inflation" "[I"] ++ wsX20)
def wsX2_thrown : List Cond := .code yX2_thrown cX2_thrown 1 (some .int) :: ([.fieldLink RX2 51 "JointAnnuityModel" "thrown" "I"] ++ wsX20)
def wsX2_goes : List Cond := .code yX2_goes cX2_goes 4 (some .boolean) :: ([.fieldLink RX2 51 "JointAnnuityModel" "thrown" "I"] ++ wsX20)
def wsX2_isOne : List Cond := .code yX2_isOne cX2_isOne 2 (some .boolean) :: ([.fieldLink RX2 55 "JointAnnuityModel" "many" "I"] ++ wsX20)
def wsX2_isWithin : List Cond := .code yX2_isWithin cX2_isWithin 3 (some .boolean) :: ([])
def wsX2_add : List Cond := .code yX2_add cX2_add 5 (some .int) :: ([.fieldLink RX2 58 "JointAnnuityModel" "month" "I", .constant RX2 65 (100000), .fieldLink RX2 55 "JointAnnuityModel" "many" "I", .fieldLink RX2 7 "JointAnnuityModel" "start" "[I", .fieldLink RX2 13 "JointAnnuityModel" "amount" "[I", .fieldLink RX2 16 "JointAnnuityModel" "guarantee" "[I", .fieldLink RX2 19 "JointAnnuityModel" "percent" "[I", .fieldLink RX2 35 "JointAnnuityModel" "death" "[I", .methodLink RX2 61 yX2_isWithin, .static yX2_isWithin, .initialized RX2, .code yX2_isWithin cX2_isWithin 3 (some .boolean), .methodLink RX2 66 yX2_goes, .instanceMethod yX2_goes, .selects RX2 yX2_goes yX2_goes, .code yX2_goes cX2_goes 4 (some .boolean), .fieldLink RX2 51 "JointAnnuityModel" "thrown" "I"] ++ wsX20)
def wsX2_isAhead : List Cond := .code yX2_isAhead cX2_isAhead 2 (some .boolean) :: ([.fieldLink RX2 58 "JointAnnuityModel" "month" "I", .fieldLink RX2 7 "JointAnnuityModel" "start" "[I", .methodLink RX2 70 yX2_isOne, .instanceMethod yX2_isOne, .selects RX2 yX2_isOne yX2_isOne, .initialized RX2, .code yX2_isOne cX2_isOne 2 (some .boolean), .fieldLink RX2 55 "JointAnnuityModel" "many" "I"] ++ wsX20)
def wsX2_setSurvivor : List Cond := .code yX2_setSurvivor cX2_setSurvivor 4 none :: ([.fieldLink RX2 19 "JointAnnuityModel" "percent" "[I", .fieldLink RX2 22 "JointAnnuityModel" "isOnFirst" "[Z", .methodLink RX2 70 yX2_isOne, .instanceMethod yX2_isOne, .selects RX2 yX2_isOne yX2_isOne, .initialized RX2, .code yX2_isOne cX2_isOne 2 (some .boolean), .fieldLink RX2 55 "JointAnnuityModel" "many" "I", .methodLink RX2 61 yX2_isWithin, .static yX2_isWithin, .code yX2_isWithin cX2_isWithin 3 (some .boolean), .methodLink RX2 74 yX2_isAhead, .instanceMethod yX2_isAhead, .selects RX2 yX2_isAhead yX2_isAhead, .code yX2_isAhead cX2_isAhead 2 (some .boolean), .fieldLink RX2 58 "JointAnnuityModel" "month" "I", .fieldLink RX2 7 "JointAnnuityModel" "start" "[I", .methodLink RX2 66 yX2_goes, .instanceMethod yX2_goes, .selects RX2 yX2_goes yX2_goes, .code yX2_goes cX2_goes 4 (some .boolean), .fieldLink RX2 51 "JointAnnuityModel" "thrown" "I"] ++ wsX20)
def wsX2_setCap : List Cond := .code yX2_setCap cX2_setCap 3 none :: ([.fieldLink RX2 26 "JointAnnuityModel" "cap" "[I", .methodLink RX2 70 yX2_isOne, .instanceMethod yX2_isOne, .selects RX2 yX2_isOne yX2_isOne, .initialized RX2, .code yX2_isOne cX2_isOne 2 (some .boolean), .fieldLink RX2 55 "JointAnnuityModel" "many" "I", .methodLink RX2 61 yX2_isWithin, .static yX2_isWithin, .code yX2_isWithin cX2_isWithin 3 (some .boolean), .methodLink RX2 74 yX2_isAhead, .instanceMethod yX2_isAhead, .selects RX2 yX2_isAhead yX2_isAhead, .code yX2_isAhead cX2_isAhead 2 (some .boolean), .fieldLink RX2 58 "JointAnnuityModel" "month" "I", .fieldLink RX2 7 "JointAnnuityModel" "start" "[I", .methodLink RX2 66 yX2_goes, .instanceMethod yX2_goes, .selects RX2 yX2_goes yX2_goes, .code yX2_goes cX2_goes 4 (some .boolean), .fieldLink RX2 51 "JointAnnuityModel" "thrown" "I"] ++ wsX20)
def wsX2_protect : List Cond := .code yX2_protect cX2_protect 4 none :: ([.constant RX2 77 (10000000), .fieldLink RX2 29 "JointAnnuityModel" "price" "[I", .fieldLink RX2 32 "JointAnnuityModel" "share" "[I", .methodLink RX2 70 yX2_isOne, .instanceMethod yX2_isOne, .selects RX2 yX2_isOne yX2_isOne, .initialized RX2, .code yX2_isOne cX2_isOne 2 (some .boolean), .fieldLink RX2 55 "JointAnnuityModel" "many" "I", .methodLink RX2 61 yX2_isWithin, .static yX2_isWithin, .code yX2_isWithin cX2_isWithin 3 (some .boolean), .methodLink RX2 74 yX2_isAhead, .instanceMethod yX2_isAhead, .selects RX2 yX2_isAhead yX2_isAhead, .code yX2_isAhead cX2_isAhead 2 (some .boolean), .fieldLink RX2 58 "JointAnnuityModel" "month" "I", .fieldLink RX2 7 "JointAnnuityModel" "start" "[I", .methodLink RX2 66 yX2_goes, .instanceMethod yX2_goes, .selects RX2 yX2_goes yX2_goes, .code yX2_goes cX2_goes 4 (some .boolean), .fieldLink RX2 51 "JointAnnuityModel" "thrown" "I"] ++ wsX20)
def wsX2_setInflation : List Cond := .code yX2_setInflation cX2_setInflation 4 (some .int) :: ([.fieldLink RX2 48 "JointAnnuityModel" "inflation" "[I", .methodLink RX2 61 yX2_isWithin, .static yX2_isWithin, .initialized RX2, .code yX2_isWithin cX2_isWithin 3 (some .boolean), .methodLink RX2 66 yX2_goes, .instanceMethod yX2_goes, .selects RX2 yX2_goes yX2_goes, .code yX2_goes cX2_goes 4 (some .boolean), .fieldLink RX2 51 "JointAnnuityModel" "thrown" "I"] ++ wsX20)
def wsX2_isLife : List Cond := .code yX2_isLife cX2_isLife 1 (some .boolean) :: ([])
def wsX2_die : List Cond := .code yX2_die cX2_die 6 none :: ([.fieldLink RX2 58 "JointAnnuityModel" "month" "I", .fieldLink RX2 35 "JointAnnuityModel" "death" "[I", .methodLink RX2 70 yX2_isOne, .instanceMethod yX2_isOne, .selects RX2 yX2_isOne yX2_isOne, .initialized RX2, .code yX2_isOne cX2_isOne 2 (some .boolean), .fieldLink RX2 55 "JointAnnuityModel" "many" "I", .methodLink RX2 78 yX2_isLife, .static yX2_isLife, .code yX2_isLife cX2_isLife 1 (some .boolean), .methodLink RX2 61 yX2_isWithin, .static yX2_isWithin, .code yX2_isWithin cX2_isWithin 3 (some .boolean), .methodLink RX2 66 yX2_goes, .instanceMethod yX2_goes, .selects RX2 yX2_goes yX2_goes, .code yX2_goes cX2_goes 4 (some .boolean), .fieldLink RX2 51 "JointAnnuityModel" "thrown" "I"] ++ wsX20)
def wsX2_takeBack : List Cond := .code yX2_takeBack cX2_takeBack 5 (some .int) :: ([.fieldLink RX2 35 "JointAnnuityModel" "death" "[I", .methodLink RX2 70 yX2_isOne, .instanceMethod yX2_isOne, .selects RX2 yX2_isOne yX2_isOne, .initialized RX2, .code yX2_isOne cX2_isOne 2 (some .boolean), .fieldLink RX2 55 "JointAnnuityModel" "many" "I", .methodLink RX2 78 yX2_isLife, .static yX2_isLife, .code yX2_isLife cX2_isLife 1 (some .boolean), .methodLink RX2 66 yX2_goes, .instanceMethod yX2_goes, .selects RX2 yX2_goes yX2_goes, .code yX2_goes cX2_goes 4 (some .boolean), .fieldLink RX2 51 "JointAnnuityModel" "thrown" "I"] ++ wsX20)
def wsX2_begins : List Cond := .code yX2_begins cX2_begins 2 none :: ([.fieldLink RX2 13 "JointAnnuityModel" "amount" "[I", .fieldLink RX2 81 "JointAnnuityModel" "full" "I", .fieldLink RX2 84 "JointAnnuityModel" "carry" "I"] ++ wsX20)
def wsX2_grows : List Cond := .code yX2_grows cX2_grows 5 none :: ([.fieldLink RX2 7 "JointAnnuityModel" "start" "[I", .fieldLink RX2 84 "JointAnnuityModel" "carry" "I", .fieldLink RX2 48 "JointAnnuityModel" "inflation" "[I", .fieldLink RX2 26 "JointAnnuityModel" "cap" "[I", .fieldLink RX2 81 "JointAnnuityModel" "full" "I"] ++ wsX20)
def wsX2_stands : List Cond := .code yX2_stands cX2_stands 4 (some .boolean) :: ([.fieldLink RX2 7 "JointAnnuityModel" "start" "[I", .methodLink RX2 87 yX2_begins, .instanceMethod yX2_begins, .selects RX2 yX2_begins yX2_begins, .initialized RX2, .code yX2_begins cX2_begins 2 none, .fieldLink RX2 13 "JointAnnuityModel" "amount" "[I", .fieldLink RX2 81 "JointAnnuityModel" "full" "I", .fieldLink RX2 84 "JointAnnuityModel" "carry" "I", .methodLink RX2 91 yX2_grows, .instanceMethod yX2_grows, .selects RX2 yX2_grows yX2_grows, .code yX2_grows cX2_grows 5 none, .fieldLink RX2 48 "JointAnnuityModel" "inflation" "[I", .fieldLink RX2 26 "JointAnnuityModel" "cap" "[I"] ++ wsX20)
def wsX2_fullAmount_r1 : List Cond := [Cond.fieldLink RX2 81 "JointAnnuityModel" "full" "I", Cond.methodLink RX2 70 yX2_isOne, Cond.instanceMethod yX2_isOne, Cond.selects RX2 yX2_isOne yX2_isOne, Cond.initialized RX2, Cond.code yX2_isOne cX2_isOne 2 (some .boolean), Cond.fieldLink RX2 55 "JointAnnuityModel" "many" "I", Cond.methodLink RX2 61 yX2_isWithin, Cond.static yX2_isWithin, Cond.code yX2_isWithin cX2_isWithin 3 (some .boolean), Cond.methodLink RX2 66 yX2_goes, Cond.instanceMethod yX2_goes, Cond.selects RX2 yX2_goes yX2_goes, Cond.code yX2_goes cX2_goes 4 (some .boolean), Cond.fieldLink RX2 51 "JointAnnuityModel" "thrown" "I", Cond.methodLink RX2 95 yX2_stands, Cond.instanceMethod yX2_stands, Cond.selects RX2 yX2_stands yX2_stands, Cond.code yX2_stands cX2_stands 4 (some .boolean), Cond.fieldLink RX2 7 "JointAnnuityModel" "start" "[I", Cond.methodLink RX2 87 yX2_begins, Cond.instanceMethod yX2_begins, Cond.selects RX2 yX2_begins yX2_begins, Cond.code yX2_begins cX2_begins 2 none]
def wsX2_fullAmount_r2 : List Cond := [Cond.fieldLink RX2 13 "JointAnnuityModel" "amount" "[I", Cond.fieldLink RX2 84 "JointAnnuityModel" "carry" "I", Cond.methodLink RX2 91 yX2_grows, Cond.instanceMethod yX2_grows, Cond.selects RX2 yX2_grows yX2_grows, Cond.code yX2_grows cX2_grows 5 none, Cond.fieldLink RX2 48 "JointAnnuityModel" "inflation" "[I", Cond.fieldLink RX2 26 "JointAnnuityModel" "cap" "[I"]
def wsX2_fullAmount : List Cond := .code yX2_fullAmount cX2_fullAmount 4 (some .int) :: ((wsX2_fullAmount_r1 ++ wsX2_fullAmount_r2) ++ wsX20)
def wsX2_carry_r1 : List Cond := [Cond.fieldLink RX2 84 "JointAnnuityModel" "carry" "I", Cond.methodLink RX2 70 yX2_isOne, Cond.instanceMethod yX2_isOne, Cond.selects RX2 yX2_isOne yX2_isOne, Cond.initialized RX2, Cond.code yX2_isOne cX2_isOne 2 (some .boolean), Cond.fieldLink RX2 55 "JointAnnuityModel" "many" "I", Cond.methodLink RX2 61 yX2_isWithin, Cond.static yX2_isWithin, Cond.code yX2_isWithin cX2_isWithin 3 (some .boolean), Cond.methodLink RX2 66 yX2_goes, Cond.instanceMethod yX2_goes, Cond.selects RX2 yX2_goes yX2_goes, Cond.code yX2_goes cX2_goes 4 (some .boolean), Cond.fieldLink RX2 51 "JointAnnuityModel" "thrown" "I", Cond.methodLink RX2 95 yX2_stands, Cond.instanceMethod yX2_stands, Cond.selects RX2 yX2_stands yX2_stands, Cond.code yX2_stands cX2_stands 4 (some .boolean), Cond.fieldLink RX2 7 "JointAnnuityModel" "start" "[I", Cond.methodLink RX2 87 yX2_begins, Cond.instanceMethod yX2_begins, Cond.selects RX2 yX2_begins yX2_begins, Cond.code yX2_begins cX2_begins 2 none]
def wsX2_carry_r2 : List Cond := [Cond.fieldLink RX2 13 "JointAnnuityModel" "amount" "[I", Cond.fieldLink RX2 81 "JointAnnuityModel" "full" "I", Cond.methodLink RX2 91 yX2_grows, Cond.instanceMethod yX2_grows, Cond.selects RX2 yX2_grows yX2_grows, Cond.code yX2_grows cX2_grows 5 none, Cond.fieldLink RX2 48 "JointAnnuityModel" "inflation" "[I", Cond.fieldLink RX2 26 "JointAnnuityModel" "cap" "[I"]
def wsX2_carry : List Cond := .code yX2_carry cX2_carry 4 (some .int) :: ((wsX2_carry_r1 ++ wsX2_carry_r2) ++ wsX20)
def wsX2_isAlive : List Cond := .code yX2_isAlive cX2_isAlive 4 (some .boolean) :: ([.fieldLink RX2 35 "JointAnnuityModel" "death" "[I"] ++ wsX20)
def wsX2_share : List Cond := .code yX2_share cX2_share 5 (some .int) :: ([.fieldLink RX2 7 "JointAnnuityModel" "start" "[I", .fieldLink RX2 16 "JointAnnuityModel" "guarantee" "[I", .fieldLink RX2 22 "JointAnnuityModel" "isOnFirst" "[Z", .fieldLink RX2 81 "JointAnnuityModel" "full" "I", .fieldLink RX2 19 "JointAnnuityModel" "percent" "[I", .methodLink RX2 99 yX2_isAlive, .instanceMethod yX2_isAlive, .selects RX2 yX2_isAlive yX2_isAlive, .initialized RX2, .code yX2_isAlive cX2_isAlive 4 (some .boolean), .fieldLink RX2 35 "JointAnnuityModel" "death" "[I"] ++ wsX20)
def wsX2_protectedAt : List Cond := .code yX2_protectedAt cX2_protectedAt 6 (some .int) :: ([.fieldLink RX2 35 "JointAnnuityModel" "death" "[I", .fieldLink RX2 7 "JointAnnuityModel" "start" "[I", .fieldLink RX2 16 "JointAnnuityModel" "guarantee" "[I"] ++ wsX20)
def wsX2_upTo_r1 : List Cond := [Cond.fieldLink RX2 7 "JointAnnuityModel" "start" "[I", Cond.fieldLink RX2 29 "JointAnnuityModel" "price" "[I", Cond.fieldLink RX2 32 "JointAnnuityModel" "share" "[I", Cond.methodLink RX2 102 yX2_protectedAt, Cond.instanceMethod yX2_protectedAt, Cond.selects RX2 yX2_protectedAt yX2_protectedAt, Cond.initialized RX2, Cond.code yX2_protectedAt cX2_protectedAt 6 (some .int), Cond.fieldLink RX2 35 "JointAnnuityModel" "death" "[I", Cond.fieldLink RX2 16 "JointAnnuityModel" "guarantee" "[I", Cond.methodLink RX2 87 yX2_begins, Cond.instanceMethod yX2_begins, Cond.selects RX2 yX2_begins yX2_begins, Cond.code yX2_begins cX2_begins 2 none, Cond.fieldLink RX2 13 "JointAnnuityModel" "amount" "[I", Cond.fieldLink RX2 81 "JointAnnuityModel" "full" "I", Cond.fieldLink RX2 84 "JointAnnuityModel" "carry" "I", Cond.methodLink RX2 91 yX2_grows, Cond.instanceMethod yX2_grows, Cond.selects RX2 yX2_grows yX2_grows, Cond.code yX2_grows cX2_grows 5 none, Cond.fieldLink RX2 48 "JointAnnuityModel" "inflation" "[I", Cond.fieldLink RX2 26 "JointAnnuityModel" "cap" "[I", Cond.methodLink RX2 106 yX2_share]
def wsX2_upTo_r2 : List Cond := [Cond.instanceMethod yX2_share, Cond.selects RX2 yX2_share yX2_share, Cond.code yX2_share cX2_share 5 (some .int), Cond.fieldLink RX2 22 "JointAnnuityModel" "isOnFirst" "[Z", Cond.fieldLink RX2 19 "JointAnnuityModel" "percent" "[I", Cond.methodLink RX2 99 yX2_isAlive, Cond.instanceMethod yX2_isAlive, Cond.selects RX2 yX2_isAlive yX2_isAlive, Cond.code yX2_isAlive cX2_isAlive 4 (some .boolean)]
def wsX2_upTo : List Cond := .code yX2_upTo cX2_upTo 9 (some .long) :: ((wsX2_upTo_r1 ++ wsX2_upTo_r2) ++ wsX20)
def wsX2_entitled_r1 : List Cond := [Cond.methodLink RX2 70 yX2_isOne, Cond.instanceMethod yX2_isOne, Cond.selects RX2 yX2_isOne yX2_isOne, Cond.initialized RX2, Cond.code yX2_isOne cX2_isOne 2 (some .boolean), Cond.fieldLink RX2 55 "JointAnnuityModel" "many" "I", Cond.methodLink RX2 61 yX2_isWithin, Cond.static yX2_isWithin, Cond.code yX2_isWithin cX2_isWithin 3 (some .boolean), Cond.methodLink RX2 66 yX2_goes, Cond.instanceMethod yX2_goes, Cond.selects RX2 yX2_goes yX2_goes, Cond.code yX2_goes cX2_goes 4 (some .boolean), Cond.fieldLink RX2 51 "JointAnnuityModel" "thrown" "I", Cond.methodLink RX2 109 yX2_upTo, Cond.instanceMethod yX2_upTo, Cond.selects RX2 yX2_upTo yX2_upTo, Cond.code yX2_upTo cX2_upTo 9 (some .long), Cond.fieldLink RX2 7 "JointAnnuityModel" "start" "[I", Cond.fieldLink RX2 29 "JointAnnuityModel" "price" "[I", Cond.fieldLink RX2 32 "JointAnnuityModel" "share" "[I", Cond.methodLink RX2 102 yX2_protectedAt, Cond.instanceMethod yX2_protectedAt, Cond.selects RX2 yX2_protectedAt yX2_protectedAt]
def wsX2_entitled_r2 : List Cond := [Cond.code yX2_protectedAt cX2_protectedAt 6 (some .int), Cond.fieldLink RX2 35 "JointAnnuityModel" "death" "[I", Cond.fieldLink RX2 16 "JointAnnuityModel" "guarantee" "[I", Cond.methodLink RX2 87 yX2_begins, Cond.instanceMethod yX2_begins, Cond.selects RX2 yX2_begins yX2_begins, Cond.code yX2_begins cX2_begins 2 none, Cond.fieldLink RX2 13 "JointAnnuityModel" "amount" "[I", Cond.fieldLink RX2 81 "JointAnnuityModel" "full" "I", Cond.fieldLink RX2 84 "JointAnnuityModel" "carry" "I", Cond.methodLink RX2 91 yX2_grows, Cond.instanceMethod yX2_grows, Cond.selects RX2 yX2_grows yX2_grows, Cond.code yX2_grows cX2_grows 5 none, Cond.fieldLink RX2 48 "JointAnnuityModel" "inflation" "[I", Cond.fieldLink RX2 26 "JointAnnuityModel" "cap" "[I", Cond.methodLink RX2 106 yX2_share, Cond.instanceMethod yX2_share, Cond.selects RX2 yX2_share yX2_share, Cond.code yX2_share cX2_share 5 (some .int), Cond.fieldLink RX2 22 "JointAnnuityModel" "isOnFirst" "[Z", Cond.fieldLink RX2 19 "JointAnnuityModel" "percent" "[I", Cond.methodLink RX2 99 yX2_isAlive, Cond.instanceMethod yX2_isAlive]
def wsX2_entitled_r3 : List Cond := [Cond.selects RX2 yX2_isAlive yX2_isAlive, Cond.code yX2_isAlive cX2_isAlive 4 (some .boolean)]
def wsX2_entitled : List Cond := .code yX2_entitled cX2_entitled 4 (some .long) :: ((wsX2_entitled_r1 ++ (wsX2_entitled_r2 ++ wsX2_entitled_r3)) ++ wsX20)
def wsX2_entitledUpTo_r1 : List Cond := [Cond.methodLink RX2 70 yX2_isOne, Cond.instanceMethod yX2_isOne, Cond.selects RX2 yX2_isOne yX2_isOne, Cond.initialized RX2, Cond.code yX2_isOne cX2_isOne 2 (some .boolean), Cond.fieldLink RX2 55 "JointAnnuityModel" "many" "I", Cond.methodLink RX2 61 yX2_isWithin, Cond.static yX2_isWithin, Cond.code yX2_isWithin cX2_isWithin 3 (some .boolean), Cond.methodLink RX2 66 yX2_goes, Cond.instanceMethod yX2_goes, Cond.selects RX2 yX2_goes yX2_goes, Cond.code yX2_goes cX2_goes 4 (some .boolean), Cond.fieldLink RX2 51 "JointAnnuityModel" "thrown" "I", Cond.methodLink RX2 109 yX2_upTo, Cond.instanceMethod yX2_upTo, Cond.selects RX2 yX2_upTo yX2_upTo, Cond.code yX2_upTo cX2_upTo 9 (some .long), Cond.fieldLink RX2 7 "JointAnnuityModel" "start" "[I", Cond.fieldLink RX2 29 "JointAnnuityModel" "price" "[I", Cond.fieldLink RX2 32 "JointAnnuityModel" "share" "[I", Cond.methodLink RX2 102 yX2_protectedAt, Cond.instanceMethod yX2_protectedAt, Cond.selects RX2 yX2_protectedAt yX2_protectedAt]
def wsX2_entitledUpTo_r2 : List Cond := [Cond.code yX2_protectedAt cX2_protectedAt 6 (some .int), Cond.fieldLink RX2 35 "JointAnnuityModel" "death" "[I", Cond.fieldLink RX2 16 "JointAnnuityModel" "guarantee" "[I", Cond.methodLink RX2 87 yX2_begins, Cond.instanceMethod yX2_begins, Cond.selects RX2 yX2_begins yX2_begins, Cond.code yX2_begins cX2_begins 2 none, Cond.fieldLink RX2 13 "JointAnnuityModel" "amount" "[I", Cond.fieldLink RX2 81 "JointAnnuityModel" "full" "I", Cond.fieldLink RX2 84 "JointAnnuityModel" "carry" "I", Cond.methodLink RX2 91 yX2_grows, Cond.instanceMethod yX2_grows, Cond.selects RX2 yX2_grows yX2_grows, Cond.code yX2_grows cX2_grows 5 none, Cond.fieldLink RX2 48 "JointAnnuityModel" "inflation" "[I", Cond.fieldLink RX2 26 "JointAnnuityModel" "cap" "[I", Cond.methodLink RX2 106 yX2_share, Cond.instanceMethod yX2_share, Cond.selects RX2 yX2_share yX2_share, Cond.code yX2_share cX2_share 5 (some .int), Cond.fieldLink RX2 22 "JointAnnuityModel" "isOnFirst" "[Z", Cond.fieldLink RX2 19 "JointAnnuityModel" "percent" "[I", Cond.methodLink RX2 99 yX2_isAlive, Cond.instanceMethod yX2_isAlive]
def wsX2_entitledUpTo_r3 : List Cond := [Cond.selects RX2 yX2_isAlive yX2_isAlive, Cond.code yX2_isAlive cX2_isAlive 4 (some .boolean)]
def wsX2_entitledUpTo : List Cond := .code yX2_entitledUpTo cX2_entitledUpTo 4 (some .long) :: ((wsX2_entitledUpTo_r1 ++ (wsX2_entitledUpTo_r2 ++ wsX2_entitledUpTo_r3)) ++ wsX20)
def wsX2_protection_r1 : List Cond := [Cond.fieldLink RX2 29 "JointAnnuityModel" "price" "[I", Cond.fieldLink RX2 32 "JointAnnuityModel" "share" "[I", Cond.methodLink RX2 70 yX2_isOne, Cond.instanceMethod yX2_isOne, Cond.selects RX2 yX2_isOne yX2_isOne, Cond.initialized RX2, Cond.code yX2_isOne cX2_isOne 2 (some .boolean), Cond.fieldLink RX2 55 "JointAnnuityModel" "many" "I", Cond.methodLink RX2 66 yX2_goes, Cond.instanceMethod yX2_goes, Cond.selects RX2 yX2_goes yX2_goes, Cond.code yX2_goes cX2_goes 4 (some .boolean), Cond.fieldLink RX2 51 "JointAnnuityModel" "thrown" "I", Cond.methodLink RX2 102 yX2_protectedAt, Cond.instanceMethod yX2_protectedAt, Cond.selects RX2 yX2_protectedAt yX2_protectedAt, Cond.code yX2_protectedAt cX2_protectedAt 6 (some .int), Cond.fieldLink RX2 35 "JointAnnuityModel" "death" "[I", Cond.fieldLink RX2 7 "JointAnnuityModel" "start" "[I", Cond.fieldLink RX2 16 "JointAnnuityModel" "guarantee" "[I", Cond.methodLink RX2 109 yX2_upTo, Cond.instanceMethod yX2_upTo, Cond.selects RX2 yX2_upTo yX2_upTo, Cond.code yX2_upTo cX2_upTo 9 (some .long)]
def wsX2_protection_r2 : List Cond := [Cond.methodLink RX2 87 yX2_begins, Cond.instanceMethod yX2_begins, Cond.selects RX2 yX2_begins yX2_begins, Cond.code yX2_begins cX2_begins 2 none, Cond.fieldLink RX2 13 "JointAnnuityModel" "amount" "[I", Cond.fieldLink RX2 81 "JointAnnuityModel" "full" "I", Cond.fieldLink RX2 84 "JointAnnuityModel" "carry" "I", Cond.methodLink RX2 91 yX2_grows, Cond.instanceMethod yX2_grows, Cond.selects RX2 yX2_grows yX2_grows, Cond.code yX2_grows cX2_grows 5 none, Cond.fieldLink RX2 48 "JointAnnuityModel" "inflation" "[I", Cond.fieldLink RX2 26 "JointAnnuityModel" "cap" "[I", Cond.methodLink RX2 106 yX2_share, Cond.instanceMethod yX2_share, Cond.selects RX2 yX2_share yX2_share, Cond.code yX2_share cX2_share 5 (some .int), Cond.fieldLink RX2 22 "JointAnnuityModel" "isOnFirst" "[Z", Cond.fieldLink RX2 19 "JointAnnuityModel" "percent" "[I", Cond.methodLink RX2 99 yX2_isAlive, Cond.instanceMethod yX2_isAlive, Cond.selects RX2 yX2_isAlive yX2_isAlive, Cond.code yX2_isAlive cX2_isAlive 4 (some .boolean)]
def wsX2_protection : List Cond := .code yX2_protection cX2_protection 7 (some .long) :: ((wsX2_protection_r1 ++ wsX2_protection_r2) ++ wsX20)
def wsX2_run_r1 : List Cond := [Cond.fieldLink RX2 58 "JointAnnuityModel" "month" "I", Cond.fieldLink RX2 55 "JointAnnuityModel" "many" "I", Cond.fieldLink RX2 38 "JointAnnuityModel" "total" "[J", Cond.fieldLink RX2 42 "JointAnnuityModel" "back" "[J", Cond.fieldLink RX2 45 "JointAnnuityModel" "paid" "[J", Cond.methodLink RX2 66 yX2_goes, Cond.instanceMethod yX2_goes, Cond.selects RX2 yX2_goes yX2_goes, Cond.initialized RX2, Cond.code yX2_goes cX2_goes 4 (some .boolean), Cond.fieldLink RX2 51 "JointAnnuityModel" "thrown" "I", Cond.methodLink RX2 109 yX2_upTo, Cond.instanceMethod yX2_upTo, Cond.selects RX2 yX2_upTo yX2_upTo, Cond.code yX2_upTo cX2_upTo 9 (some .long), Cond.fieldLink RX2 7 "JointAnnuityModel" "start" "[I", Cond.fieldLink RX2 29 "JointAnnuityModel" "price" "[I", Cond.fieldLink RX2 32 "JointAnnuityModel" "share" "[I", Cond.methodLink RX2 102 yX2_protectedAt, Cond.instanceMethod yX2_protectedAt, Cond.selects RX2 yX2_protectedAt yX2_protectedAt, Cond.code yX2_protectedAt cX2_protectedAt 6 (some .int), Cond.fieldLink RX2 35 "JointAnnuityModel" "death" "[I", Cond.fieldLink RX2 16 "JointAnnuityModel" "guarantee" "[I"]
def wsX2_run_r2 : List Cond := [Cond.methodLink RX2 87 yX2_begins, Cond.instanceMethod yX2_begins, Cond.selects RX2 yX2_begins yX2_begins, Cond.code yX2_begins cX2_begins 2 none, Cond.fieldLink RX2 13 "JointAnnuityModel" "amount" "[I", Cond.fieldLink RX2 81 "JointAnnuityModel" "full" "I", Cond.fieldLink RX2 84 "JointAnnuityModel" "carry" "I", Cond.methodLink RX2 91 yX2_grows, Cond.instanceMethod yX2_grows, Cond.selects RX2 yX2_grows yX2_grows, Cond.code yX2_grows cX2_grows 5 none, Cond.fieldLink RX2 48 "JointAnnuityModel" "inflation" "[I", Cond.fieldLink RX2 26 "JointAnnuityModel" "cap" "[I", Cond.methodLink RX2 106 yX2_share, Cond.instanceMethod yX2_share, Cond.selects RX2 yX2_share yX2_share, Cond.code yX2_share cX2_share 5 (some .int), Cond.fieldLink RX2 22 "JointAnnuityModel" "isOnFirst" "[Z", Cond.fieldLink RX2 19 "JointAnnuityModel" "percent" "[I", Cond.methodLink RX2 99 yX2_isAlive, Cond.instanceMethod yX2_isAlive, Cond.selects RX2 yX2_isAlive yX2_isAlive, Cond.code yX2_isAlive cX2_isAlive 4 (some .boolean)]
def wsX2_run : List Cond := .code yX2_run cX2_run 6 (some .long) :: ((wsX2_run_r1 ++ wsX2_run_r2) ++ wsX20)
def wsX2_month : List Cond := .code yX2_month cX2_month 1 (some .int) :: ([.fieldLink RX2 51 "JointAnnuityModel" "thrown" "I", .fieldLink RX2 58 "JointAnnuityModel" "month" "I"] ++ wsX20)
def wsX2_owed_r1 : List Cond := [Cond.fieldLink RX2 38 "JointAnnuityModel" "total" "[J", Cond.fieldLink RX2 42 "JointAnnuityModel" "back" "[J", Cond.fieldLink RX2 58 "JointAnnuityModel" "month" "I", Cond.methodLink RX2 109 yX2_upTo, Cond.instanceMethod yX2_upTo, Cond.selects RX2 yX2_upTo yX2_upTo, Cond.initialized RX2, Cond.code yX2_upTo cX2_upTo 9 (some .long), Cond.fieldLink RX2 7 "JointAnnuityModel" "start" "[I", Cond.fieldLink RX2 29 "JointAnnuityModel" "price" "[I", Cond.fieldLink RX2 32 "JointAnnuityModel" "share" "[I", Cond.methodLink RX2 102 yX2_protectedAt, Cond.instanceMethod yX2_protectedAt, Cond.selects RX2 yX2_protectedAt yX2_protectedAt, Cond.code yX2_protectedAt cX2_protectedAt 6 (some .int), Cond.fieldLink RX2 35 "JointAnnuityModel" "death" "[I", Cond.fieldLink RX2 16 "JointAnnuityModel" "guarantee" "[I", Cond.methodLink RX2 87 yX2_begins, Cond.instanceMethod yX2_begins, Cond.selects RX2 yX2_begins yX2_begins, Cond.code yX2_begins cX2_begins 2 none, Cond.fieldLink RX2 13 "JointAnnuityModel" "amount" "[I", Cond.fieldLink RX2 81 "JointAnnuityModel" "full" "I", Cond.fieldLink RX2 84 "JointAnnuityModel" "carry" "I"]
def wsX2_owed_r2 : List Cond := [Cond.methodLink RX2 91 yX2_grows, Cond.instanceMethod yX2_grows, Cond.selects RX2 yX2_grows yX2_grows, Cond.code yX2_grows cX2_grows 5 none, Cond.fieldLink RX2 48 "JointAnnuityModel" "inflation" "[I", Cond.fieldLink RX2 26 "JointAnnuityModel" "cap" "[I", Cond.methodLink RX2 106 yX2_share, Cond.instanceMethod yX2_share, Cond.selects RX2 yX2_share yX2_share, Cond.code yX2_share cX2_share 5 (some .int), Cond.fieldLink RX2 22 "JointAnnuityModel" "isOnFirst" "[Z", Cond.fieldLink RX2 19 "JointAnnuityModel" "percent" "[I", Cond.methodLink RX2 99 yX2_isAlive, Cond.instanceMethod yX2_isAlive, Cond.selects RX2 yX2_isAlive yX2_isAlive, Cond.code yX2_isAlive cX2_isAlive 4 (some .boolean)]
def wsX2_owed : List Cond := .code yX2_owed cX2_owed 4 (some .long) :: ((wsX2_owed_r1 ++ wsX2_owed_r2) ++ wsX20)
def wsX2_giveBack_r1 : List Cond := [Cond.constant RX2 113 (100000000), Cond.fieldLink RX2 42 "JointAnnuityModel" "back" "[J", Cond.methodLink RX2 70 yX2_isOne, Cond.instanceMethod yX2_isOne, Cond.selects RX2 yX2_isOne yX2_isOne, Cond.initialized RX2, Cond.code yX2_isOne cX2_isOne 2 (some .boolean), Cond.fieldLink RX2 55 "JointAnnuityModel" "many" "I", Cond.methodLink RX2 61 yX2_isWithin, Cond.static yX2_isWithin, Cond.code yX2_isWithin cX2_isWithin 3 (some .boolean), Cond.methodLink RX2 114 yX2_owed, Cond.instanceMethod yX2_owed, Cond.selects RX2 yX2_owed yX2_owed, Cond.code yX2_owed cX2_owed 4 (some .long), Cond.fieldLink RX2 38 "JointAnnuityModel" "total" "[J", Cond.fieldLink RX2 58 "JointAnnuityModel" "month" "I", Cond.methodLink RX2 109 yX2_upTo, Cond.instanceMethod yX2_upTo, Cond.selects RX2 yX2_upTo yX2_upTo, Cond.code yX2_upTo cX2_upTo 9 (some .long), Cond.fieldLink RX2 7 "JointAnnuityModel" "start" "[I", Cond.fieldLink RX2 29 "JointAnnuityModel" "price" "[I", Cond.fieldLink RX2 32 "JointAnnuityModel" "share" "[I"]
def wsX2_giveBack_r2 : List Cond := [Cond.methodLink RX2 102 yX2_protectedAt, Cond.instanceMethod yX2_protectedAt, Cond.selects RX2 yX2_protectedAt yX2_protectedAt, Cond.code yX2_protectedAt cX2_protectedAt 6 (some .int), Cond.fieldLink RX2 35 "JointAnnuityModel" "death" "[I", Cond.fieldLink RX2 16 "JointAnnuityModel" "guarantee" "[I", Cond.methodLink RX2 87 yX2_begins, Cond.instanceMethod yX2_begins, Cond.selects RX2 yX2_begins yX2_begins, Cond.code yX2_begins cX2_begins 2 none, Cond.fieldLink RX2 13 "JointAnnuityModel" "amount" "[I", Cond.fieldLink RX2 81 "JointAnnuityModel" "full" "I", Cond.fieldLink RX2 84 "JointAnnuityModel" "carry" "I", Cond.methodLink RX2 91 yX2_grows, Cond.instanceMethod yX2_grows, Cond.selects RX2 yX2_grows yX2_grows, Cond.code yX2_grows cX2_grows 5 none, Cond.fieldLink RX2 48 "JointAnnuityModel" "inflation" "[I", Cond.fieldLink RX2 26 "JointAnnuityModel" "cap" "[I", Cond.methodLink RX2 106 yX2_share, Cond.instanceMethod yX2_share, Cond.selects RX2 yX2_share yX2_share, Cond.code yX2_share cX2_share 5 (some .int), Cond.fieldLink RX2 22 "JointAnnuityModel" "isOnFirst" "[Z"]
def wsX2_giveBack_r3 : List Cond := [Cond.fieldLink RX2 19 "JointAnnuityModel" "percent" "[I", Cond.methodLink RX2 99 yX2_isAlive, Cond.instanceMethod yX2_isAlive, Cond.selects RX2 yX2_isAlive yX2_isAlive, Cond.code yX2_isAlive cX2_isAlive 4 (some .boolean), Cond.methodLink RX2 66 yX2_goes, Cond.instanceMethod yX2_goes, Cond.selects RX2 yX2_goes yX2_goes, Cond.code yX2_goes cX2_goes 4 (some .boolean), Cond.fieldLink RX2 51 "JointAnnuityModel" "thrown" "I"]
def wsX2_giveBack : List Cond := .code yX2_giveBack cX2_giveBack 5 (some .long) :: ((wsX2_giveBack_r1 ++ (wsX2_giveBack_r2 ++ wsX2_giveBack_r3)) ++ wsX20)
def wsX2_paid : List Cond := .code yX2_paid cX2_paid 3 (some .long) :: ([.fieldLink RX2 58 "JointAnnuityModel" "month" "I", .fieldLink RX2 45 "JointAnnuityModel" "paid" "[J", .methodLink RX2 70 yX2_isOne, .instanceMethod yX2_isOne, .selects RX2 yX2_isOne yX2_isOne, .initialized RX2, .code yX2_isOne cX2_isOne 2 (some .boolean), .fieldLink RX2 55 "JointAnnuityModel" "many" "I", .methodLink RX2 61 yX2_isWithin, .static yX2_isWithin, .code yX2_isWithin cX2_isWithin 3 (some .boolean), .methodLink RX2 66 yX2_goes, .instanceMethod yX2_goes, .selects RX2 yX2_goes yX2_goes, .code yX2_goes cX2_goes 4 (some .boolean), .fieldLink RX2 51 "JointAnnuityModel" "thrown" "I"] ++ wsX20)
def wsX2_paidInAll : List Cond := .code yX2_paidInAll cX2_paidInAll 2 (some .long) :: ([.fieldLink RX2 38 "JointAnnuityModel" "total" "[J", .fieldLink RX2 42 "JointAnnuityModel" "back" "[J", .methodLink RX2 70 yX2_isOne, .instanceMethod yX2_isOne, .selects RX2 yX2_isOne yX2_isOne, .initialized RX2, .code yX2_isOne cX2_isOne 2 (some .boolean), .fieldLink RX2 55 "JointAnnuityModel" "many" "I", .methodLink RX2 66 yX2_goes, .instanceMethod yX2_goes, .selects RX2 yX2_goes yX2_goes, .code yX2_goes cX2_goes 4 (some .boolean), .fieldLink RX2 51 "JointAnnuityModel" "thrown" "I"] ++ wsX20)
def wsX2_owes_r1 : List Cond := [Cond.methodLink RX2 70 yX2_isOne, Cond.instanceMethod yX2_isOne, Cond.selects RX2 yX2_isOne yX2_isOne, Cond.initialized RX2, Cond.code yX2_isOne cX2_isOne 2 (some .boolean), Cond.fieldLink RX2 55 "JointAnnuityModel" "many" "I", Cond.methodLink RX2 66 yX2_goes, Cond.instanceMethod yX2_goes, Cond.selects RX2 yX2_goes yX2_goes, Cond.code yX2_goes cX2_goes 4 (some .boolean), Cond.fieldLink RX2 51 "JointAnnuityModel" "thrown" "I", Cond.methodLink RX2 114 yX2_owed, Cond.instanceMethod yX2_owed, Cond.selects RX2 yX2_owed yX2_owed, Cond.code yX2_owed cX2_owed 4 (some .long), Cond.fieldLink RX2 38 "JointAnnuityModel" "total" "[J", Cond.fieldLink RX2 42 "JointAnnuityModel" "back" "[J", Cond.fieldLink RX2 58 "JointAnnuityModel" "month" "I", Cond.methodLink RX2 109 yX2_upTo, Cond.instanceMethod yX2_upTo, Cond.selects RX2 yX2_upTo yX2_upTo, Cond.code yX2_upTo cX2_upTo 9 (some .long), Cond.fieldLink RX2 7 "JointAnnuityModel" "start" "[I", Cond.fieldLink RX2 29 "JointAnnuityModel" "price" "[I"]
def wsX2_owes_r2 : List Cond := [Cond.fieldLink RX2 32 "JointAnnuityModel" "share" "[I", Cond.methodLink RX2 102 yX2_protectedAt, Cond.instanceMethod yX2_protectedAt, Cond.selects RX2 yX2_protectedAt yX2_protectedAt, Cond.code yX2_protectedAt cX2_protectedAt 6 (some .int), Cond.fieldLink RX2 35 "JointAnnuityModel" "death" "[I", Cond.fieldLink RX2 16 "JointAnnuityModel" "guarantee" "[I", Cond.methodLink RX2 87 yX2_begins, Cond.instanceMethod yX2_begins, Cond.selects RX2 yX2_begins yX2_begins, Cond.code yX2_begins cX2_begins 2 none, Cond.fieldLink RX2 13 "JointAnnuityModel" "amount" "[I", Cond.fieldLink RX2 81 "JointAnnuityModel" "full" "I", Cond.fieldLink RX2 84 "JointAnnuityModel" "carry" "I", Cond.methodLink RX2 91 yX2_grows, Cond.instanceMethod yX2_grows, Cond.selects RX2 yX2_grows yX2_grows, Cond.code yX2_grows cX2_grows 5 none, Cond.fieldLink RX2 48 "JointAnnuityModel" "inflation" "[I", Cond.fieldLink RX2 26 "JointAnnuityModel" "cap" "[I", Cond.methodLink RX2 106 yX2_share, Cond.instanceMethod yX2_share, Cond.selects RX2 yX2_share yX2_share, Cond.code yX2_share cX2_share 5 (some .int)]
def wsX2_owes_r3 : List Cond := [Cond.fieldLink RX2 22 "JointAnnuityModel" "isOnFirst" "[Z", Cond.fieldLink RX2 19 "JointAnnuityModel" "percent" "[I", Cond.methodLink RX2 99 yX2_isAlive, Cond.instanceMethod yX2_isAlive, Cond.selects RX2 yX2_isAlive yX2_isAlive, Cond.code yX2_isAlive cX2_isAlive 4 (some .boolean)]
def wsX2_owes : List Cond := .code yX2_owes cX2_owes 2 (some .long) :: ((wsX2_owes_r1 ++ (wsX2_owes_r2 ++ wsX2_owes_r3)) ++ wsX20)
def wsJ9_max_7cf53 : List Cond := .code yJ9_max_7cf53 cJ9_max_7cf53 2 (some .int) :: ([])
def wsJ9_max_f86c9 : List Cond := .code yJ9_max_f86c9 cJ9_max_f86c9 4 (some .long) :: ([])
def wsJ9_min_7cf53 : List Cond := .code yJ9_min_7cf53 cJ9_min_7cf53 2 (some .int) :: ([])
def wsL_add_r1 : List Cond := [Cond.classLink RL 13 "java/lang/IllegalArgumentException", Cond.classLink RL 15 "java/lang/IllegalStateException", Cond.methodLink RL 7 yX1_add, Cond.instanceMethod yX1_add, Cond.selects RX1 yX1_add yX1_add, Cond.initialized RX1, Cond.code yX1_add cX1_add 5 (some .int), Cond.classLink RX1 31 "java/lang/IllegalStateException", Cond.initialized "java/lang/IllegalStateException", Cond.fieldLink RX1 23 "JointAnnuity" "monthThatGoesOn" "I", Cond.constant RX1 30 (100000), Cond.fieldLink RX1 19 "JointAnnuity" "count" "I", Cond.fieldLink RX1 11 "JointAnnuity" "annuities" "[LJointAnnuity$Annuity;", Cond.classLink RX1 9 RX0, Cond.instantiable RX0 13, Cond.initialized RX0, Cond.fieldLink RX1 15 "JointAnnuity" "inflation" "[I", Cond.methodLink RX1 26 yX1_requireRange, Cond.static yX1_requireRange, Cond.code yX1_requireRange cX1_requireRange 3 none, Cond.classLink RX1 133 "java/lang/IllegalArgumentException", Cond.initialized "java/lang/IllegalArgumentException", Cond.methodLink RX1 38 yX0_init, Cond.instanceMethod yX0_init]
def wsL_add_r2 : List Cond := [Cond.code yX0_init cX0_init 4 none, Cond.methodLink RX0 3 objectInit, Cond.instanceMethod objectInit, Cond.code objectInit ⟨#[0xb1]⟩ 1 none, Cond.fieldLink RX0 9 "JointAnnuity$Annuity" "start" "I", Cond.fieldLink RX0 15 "JointAnnuity$Annuity" "amount" "I", Cond.fieldLink RX0 18 "JointAnnuity$Annuity" "guaranteeEnd" "I", Cond.fieldLink RX0 21 "JointAnnuity$Annuity" "survivorPercent" "I", Cond.fieldLink RX0 24 "JointAnnuity$Annuity" "stepsOnFirst" "Z", Cond.fieldLink RX0 28 "JointAnnuity$Annuity" "cap" "I", Cond.fieldLink RX0 31 "JointAnnuity$Annuity" "price" "I", Cond.fieldLink RX0 34 "JointAnnuity$Annuity" "protectedPercent" "I", Cond.arrayClass .int, Cond.fieldLink RX0 37 "JointAnnuity$Annuity" "deaths" "[I", Cond.fieldLink RX0 41 "JointAnnuity$Annuity" "fullAmounts" "[I", Cond.fieldLink RX0 44 "JointAnnuity$Annuity" "carries" "[I", Cond.arrayClass .long, Cond.fieldLink RX0 47 "JointAnnuity$Annuity" "payments" "[J", Cond.fieldLink RX0 51 "JointAnnuity$Annuity" "keptInAll" "J", Cond.methodLink RX1 40 yX0_growBy, Cond.instanceMethod yX0_growBy, Cond.selects RX0 yX0_growBy yX0_growBy, Cond.code yX0_growBy cX0_growBy 8 none, Cond.methodLink RX0 55 Lib.Math.min.name]
def wsL_add_r3 : List Cond := [Cond.static Lib.Math.min.name, Cond.initialized "java/lang/Math", Cond.code Lib.Math.min.name Lib.Math.min.code 2 (some .int), Cond.methodLink RX0 61 Lib.Math.max.name, Cond.static Lib.Math.max.name, Cond.code Lib.Math.max.name Lib.Math.max.code 2 (some .int)]
def wsL_add : List Cond := .codeWith yL_add cL_add 6 (some .int) [(0, 12, 15, 13), (0, 12, 19, 15)] :: ((wsL_add_r1 ++ (wsL_add_r2 ++ wsL_add_r3)) ++ wsX10 ++ wsX00 ++ (vx_atS RX1 35 "java/lang/IllegalStateException" ["java/lang/RuntimeException", "java/lang/Exception"]).filter goodWord ++ (vx_atS RX1 137 "java/lang/IllegalArgumentException" ["java/lang/RuntimeException", "java/lang/Exception"]).filter goodWord)
def wsL_setSurvivor_r1 : List Cond := [Cond.classLink RL 21 "java/lang/IndexOutOfBoundsException", Cond.classLink RL 13 "java/lang/IllegalArgumentException", Cond.classLink RL 15 "java/lang/IllegalStateException", Cond.methodLink RL 17 yX1_setSurvivor, Cond.instanceMethod yX1_setSurvivor, Cond.selects RX1 yX1_setSurvivor yX1_setSurvivor, Cond.initialized RX1, Cond.code yX1_setSurvivor cX1_setSurvivor 5 none, Cond.fieldLink RX1 52 "JointAnnuity$Annuity" "survivorPercent" "I", Cond.fieldLink RX1 55 "JointAnnuity$Annuity" "stepsOnFirst" "Z", Cond.methodLink RX1 44 yX1_find, Cond.instanceMethod yX1_find, Cond.selects RX1 yX1_find yX1_find, Cond.code yX1_find cX1_find 3 (some (.object "JointAnnuity$Annuity")), Cond.classLink RX1 123 "java/lang/IndexOutOfBoundsException", Cond.initialized "java/lang/IndexOutOfBoundsException", Cond.fieldLink RX1 11 "JointAnnuity" "annuities" "[LJointAnnuity$Annuity;", Cond.methodLink RX1 26 yX1_requireRange, Cond.static yX1_requireRange, Cond.code yX1_requireRange cX1_requireRange 3 none, Cond.classLink RX1 133 "java/lang/IllegalArgumentException", Cond.initialized "java/lang/IllegalArgumentException", Cond.methodLink RX1 48 yX1_requireStartNotRun, Cond.instanceMethod yX1_requireStartNotRun]
def wsL_setSurvivor_r2 : List Cond := [Cond.selects RX1 yX1_requireStartNotRun yX1_requireStartNotRun, Cond.code yX1_requireStartNotRun cX1_requireStartNotRun 2 none, Cond.classLink RX1 31 "java/lang/IllegalStateException", Cond.initialized "java/lang/IllegalStateException", Cond.fieldLink RX1 128 "JointAnnuity$Annuity" "start" "I", Cond.fieldLink RX1 23 "JointAnnuity" "monthThatGoesOn" "I"]
def wsL_setSurvivor : List Cond := .codeWith yL_setSurvivor cL_setSurvivor 5 (some .int) [(0, 7, 10, 21), (0, 7, 14, 13), (0, 7, 18, 15)] :: ((wsL_setSurvivor_r1 ++ wsL_setSurvivor_r2) ++ wsX00 ++ wsX10 ++ (vx_atS RX1 127 "java/lang/IndexOutOfBoundsException" ["java/lang/RuntimeException", "java/lang/Exception"]).filter goodWord ++ (vx_atS RX1 137 "java/lang/IllegalArgumentException" ["java/lang/RuntimeException", "java/lang/Exception"]).filter goodWord ++ (vx_atS RX1 35 "java/lang/IllegalStateException" ["java/lang/RuntimeException", "java/lang/Exception"]).filter goodWord)
def wsL_setCap_r1 : List Cond := [Cond.classLink RL 21 "java/lang/IndexOutOfBoundsException", Cond.classLink RL 13 "java/lang/IllegalArgumentException", Cond.classLink RL 15 "java/lang/IllegalStateException", Cond.methodLink RL 23 yX1_setCap, Cond.instanceMethod yX1_setCap, Cond.selects RX1 yX1_setCap yX1_setCap, Cond.initialized RX1, Cond.code yX1_setCap cX1_setCap 4 none, Cond.fieldLink RX1 59 "JointAnnuity$Annuity" "cap" "I", Cond.fieldLink RX1 15 "JointAnnuity" "inflation" "[I", Cond.methodLink RX1 44 yX1_find, Cond.instanceMethod yX1_find, Cond.selects RX1 yX1_find yX1_find, Cond.code yX1_find cX1_find 3 (some (.object "JointAnnuity$Annuity")), Cond.classLink RX1 123 "java/lang/IndexOutOfBoundsException", Cond.initialized "java/lang/IndexOutOfBoundsException", Cond.fieldLink RX1 11 "JointAnnuity" "annuities" "[LJointAnnuity$Annuity;", Cond.methodLink RX1 26 yX1_requireRange, Cond.static yX1_requireRange, Cond.code yX1_requireRange cX1_requireRange 3 none, Cond.classLink RX1 133 "java/lang/IllegalArgumentException", Cond.initialized "java/lang/IllegalArgumentException", Cond.methodLink RX1 48 yX1_requireStartNotRun, Cond.instanceMethod yX1_requireStartNotRun]
def wsL_setCap_r2 : List Cond := [Cond.selects RX1 yX1_requireStartNotRun yX1_requireStartNotRun, Cond.code yX1_requireStartNotRun cX1_requireStartNotRun 2 none, Cond.classLink RX1 31 "java/lang/IllegalStateException", Cond.initialized "java/lang/IllegalStateException", Cond.fieldLink RX1 128 "JointAnnuity$Annuity" "start" "I", Cond.fieldLink RX1 23 "JointAnnuity" "monthThatGoesOn" "I", Cond.methodLink RX1 40 yX0_growBy, Cond.instanceMethod yX0_growBy, Cond.selects RX0 yX0_growBy yX0_growBy, Cond.initialized RX0, Cond.code yX0_growBy cX0_growBy 8 none, Cond.fieldLink RX0 15 "JointAnnuity$Annuity" "amount" "I", Cond.fieldLink RX0 41 "JointAnnuity$Annuity" "fullAmounts" "[I", Cond.fieldLink RX0 44 "JointAnnuity$Annuity" "carries" "[I", Cond.fieldLink RX0 9 "JointAnnuity$Annuity" "start" "I", Cond.fieldLink RX0 28 "JointAnnuity$Annuity" "cap" "I", Cond.methodLink RX0 55 Lib.Math.min.name, Cond.static Lib.Math.min.name, Cond.initialized "java/lang/Math", Cond.code Lib.Math.min.name Lib.Math.min.code 2 (some .int), Cond.methodLink RX0 61 Lib.Math.max.name, Cond.static Lib.Math.max.name, Cond.code Lib.Math.max.name Lib.Math.max.code 2 (some .int)]
def wsL_setCap : List Cond := .codeWith yL_setCap cL_setCap 4 (some .int) [(0, 6, 9, 21), (0, 6, 12, 13), (0, 6, 15, 15)] :: ((wsL_setCap_r1 ++ wsL_setCap_r2) ++ wsX00 ++ wsX10 ++ (vx_atS RX1 127 "java/lang/IndexOutOfBoundsException" ["java/lang/RuntimeException", "java/lang/Exception"]).filter goodWord ++ (vx_atS RX1 137 "java/lang/IllegalArgumentException" ["java/lang/RuntimeException", "java/lang/Exception"]).filter goodWord ++ (vx_atS RX1 35 "java/lang/IllegalStateException" ["java/lang/RuntimeException", "java/lang/Exception"]).filter goodWord)
def wsL_protect_r1 : List Cond := [Cond.classLink RL 21 "java/lang/IndexOutOfBoundsException", Cond.classLink RL 13 "java/lang/IllegalArgumentException", Cond.classLink RL 15 "java/lang/IllegalStateException", Cond.methodLink RL 27 yX1_protect, Cond.instanceMethod yX1_protect, Cond.selects RX1 yX1_protect yX1_protect, Cond.initialized RX1, Cond.code yX1_protect cX1_protect 5 none, Cond.constant RX1 62 (10000000), Cond.fieldLink RX1 63 "JointAnnuity$Annuity" "price" "I", Cond.fieldLink RX1 66 "JointAnnuity$Annuity" "protectedPercent" "I", Cond.methodLink RX1 44 yX1_find, Cond.instanceMethod yX1_find, Cond.selects RX1 yX1_find yX1_find, Cond.code yX1_find cX1_find 3 (some (.object "JointAnnuity$Annuity")), Cond.classLink RX1 123 "java/lang/IndexOutOfBoundsException", Cond.initialized "java/lang/IndexOutOfBoundsException", Cond.fieldLink RX1 11 "JointAnnuity" "annuities" "[LJointAnnuity$Annuity;", Cond.methodLink RX1 26 yX1_requireRange, Cond.static yX1_requireRange, Cond.code yX1_requireRange cX1_requireRange 3 none, Cond.classLink RX1 133 "java/lang/IllegalArgumentException", Cond.initialized "java/lang/IllegalArgumentException", Cond.methodLink RX1 48 yX1_requireStartNotRun]
def wsL_protect_r2 : List Cond := [Cond.instanceMethod yX1_requireStartNotRun, Cond.selects RX1 yX1_requireStartNotRun yX1_requireStartNotRun, Cond.code yX1_requireStartNotRun cX1_requireStartNotRun 2 none, Cond.classLink RX1 31 "java/lang/IllegalStateException", Cond.initialized "java/lang/IllegalStateException", Cond.fieldLink RX1 128 "JointAnnuity$Annuity" "start" "I", Cond.fieldLink RX1 23 "JointAnnuity" "monthThatGoesOn" "I"]
def wsL_protect : List Cond := .codeWith yL_protect cL_protect 5 (some .int) [(0, 7, 10, 21), (0, 7, 14, 13), (0, 7, 18, 15)] :: ((wsL_protect_r1 ++ wsL_protect_r2) ++ wsX00 ++ wsX10 ++ (vx_atS RX1 127 "java/lang/IndexOutOfBoundsException" ["java/lang/RuntimeException", "java/lang/Exception"]).filter goodWord ++ (vx_atS RX1 137 "java/lang/IllegalArgumentException" ["java/lang/RuntimeException", "java/lang/Exception"]).filter goodWord ++ (vx_atS RX1 35 "java/lang/IllegalStateException" ["java/lang/RuntimeException", "java/lang/Exception"]).filter goodWord)
def wsL_setInflation_r1 : List Cond := [Cond.classLink RL 13 "java/lang/IllegalArgumentException", Cond.methodLink RL 31 yX1_setInflation, Cond.instanceMethod yX1_setInflation, Cond.selects RX1 yX1_setInflation yX1_setInflation, Cond.initialized RX1, Cond.code yX1_setInflation cX1_setInflation 8 (some .int), Cond.fieldLink RX1 15 "JointAnnuity" "inflation" "[I", Cond.fieldLink RX1 11 "JointAnnuity" "annuities" "[LJointAnnuity$Annuity;", Cond.methodLink RX1 26 yX1_requireRange, Cond.static yX1_requireRange, Cond.code yX1_requireRange cX1_requireRange 3 none, Cond.classLink RX1 133 "java/lang/IllegalArgumentException", Cond.initialized "java/lang/IllegalArgumentException", Cond.methodLink RX1 40 yX0_growBy, Cond.instanceMethod yX0_growBy, Cond.selects RX0 yX0_growBy yX0_growBy, Cond.initialized RX0, Cond.code yX0_growBy cX0_growBy 8 none, Cond.fieldLink RX0 15 "JointAnnuity$Annuity" "amount" "I", Cond.fieldLink RX0 41 "JointAnnuity$Annuity" "fullAmounts" "[I", Cond.fieldLink RX0 44 "JointAnnuity$Annuity" "carries" "[I", Cond.fieldLink RX0 9 "JointAnnuity$Annuity" "start" "I", Cond.fieldLink RX0 28 "JointAnnuity$Annuity" "cap" "I", Cond.methodLink RX0 55 Lib.Math.min.name]
def wsL_setInflation_r2 : List Cond := [Cond.static Lib.Math.min.name, Cond.initialized "java/lang/Math", Cond.code Lib.Math.min.name Lib.Math.min.code 2 (some .int), Cond.methodLink RX0 61 Lib.Math.max.name, Cond.static Lib.Math.max.name, Cond.code Lib.Math.max.name Lib.Math.max.code 2 (some .int)]
def wsL_setInflation : List Cond := .codeWith yL_setInflation cL_setInflation 5 (some .int) [(0, 10, 13, 13)] :: ((wsL_setInflation_r1 ++ wsL_setInflation_r2) ++ wsX10 ++ wsX00 ++ (vx_atS RX1 137 "java/lang/IllegalArgumentException" ["java/lang/RuntimeException", "java/lang/Exception"]).filter goodWord)
def wsL_die_r1 : List Cond := [Cond.classLink RL 21 "java/lang/IndexOutOfBoundsException", Cond.classLink RL 13 "java/lang/IllegalArgumentException", Cond.classLink RL 15 "java/lang/IllegalStateException", Cond.methodLink RL 35 yX1_die, Cond.instanceMethod yX1_die, Cond.selects RX1 yX1_die yX1_die, Cond.initialized RX1, Cond.code yX1_die cX1_die 5 none, Cond.classLink RX1 31 "java/lang/IllegalStateException", Cond.initialized "java/lang/IllegalStateException", Cond.fieldLink RX1 23 "JointAnnuity" "monthThatGoesOn" "I", Cond.methodLink RX1 69 Lib.Math.min.name, Cond.static Lib.Math.min.name, Cond.initialized "java/lang/Math", Cond.code Lib.Math.min.name Lib.Math.min.code 2 (some .int), Cond.fieldLink RX1 75 "JointAnnuity$Annuity" "deaths" "[I", Cond.methodLink RX1 44 yX1_find, Cond.instanceMethod yX1_find, Cond.selects RX1 yX1_find yX1_find, Cond.code yX1_find cX1_find 3 (some (.object "JointAnnuity$Annuity")), Cond.classLink RX1 123 "java/lang/IndexOutOfBoundsException", Cond.initialized "java/lang/IndexOutOfBoundsException", Cond.fieldLink RX1 11 "JointAnnuity" "annuities" "[LJointAnnuity$Annuity;", Cond.methodLink RX1 26 yX1_requireRange]
def wsL_die_r2 : List Cond := [Cond.static yX1_requireRange, Cond.code yX1_requireRange cX1_requireRange 3 none, Cond.classLink RX1 133 "java/lang/IllegalArgumentException", Cond.initialized "java/lang/IllegalArgumentException"]
def wsL_die : List Cond := .codeWith yL_die cL_die 5 (some .int) [(0, 7, 10, 21), (0, 7, 14, 13), (0, 7, 18, 15)] :: ((wsL_die_r1 ++ wsL_die_r2) ++ wsX10 ++ wsX00 ++ (vx_atS RX1 35 "java/lang/IllegalStateException" ["java/lang/RuntimeException", "java/lang/Exception"]).filter goodWord ++ (vx_atS RX1 127 "java/lang/IndexOutOfBoundsException" ["java/lang/RuntimeException", "java/lang/Exception"]).filter goodWord ++ (vx_atS RX1 137 "java/lang/IllegalArgumentException" ["java/lang/RuntimeException", "java/lang/Exception"]).filter goodWord)
def wsL_takeBack : List Cond := .codeWith yL_takeBack cL_takeBack 5 (some .int) [(0, 10, 13, 21), (0, 10, 17, 13), (0, 10, 21, 15)] :: ([.classLink RL 21 "java/lang/IndexOutOfBoundsException", .classLink RL 13 "java/lang/IllegalArgumentException", .classLink RL 15 "java/lang/IllegalStateException", .methodLink RL 38 yX1_takeBack, .instanceMethod yX1_takeBack, .selects RX1 yX1_takeBack yX1_takeBack, .initialized RX1, .code yX1_takeBack cX1_takeBack 5 (some .int), .classLink RX1 31 "java/lang/IllegalStateException", .initialized "java/lang/IllegalStateException", .fieldLink RX1 75 "JointAnnuity$Annuity" "deaths" "[I", .methodLink RX1 44 yX1_find, .instanceMethod yX1_find, .selects RX1 yX1_find yX1_find, .code yX1_find cX1_find 3 (some (.object "JointAnnuity$Annuity")), .classLink RX1 123 "java/lang/IndexOutOfBoundsException", .initialized "java/lang/IndexOutOfBoundsException", .fieldLink RX1 11 "JointAnnuity" "annuities" "[LJointAnnuity$Annuity;", .methodLink RX1 26 yX1_requireRange, .static yX1_requireRange, .code yX1_requireRange cX1_requireRange 3 none, .classLink RX1 133 "java/lang/IllegalArgumentException", .initialized "java/lang/IllegalArgumentException"] ++ wsX00 ++ wsX10 ++ (vx_atS RX1 35 "java/lang/IllegalStateException" ["java/lang/RuntimeException", "java/lang/Exception"]).filter goodWord ++ (vx_atS RX1 127 "java/lang/IndexOutOfBoundsException" ["java/lang/RuntimeException", "java/lang/Exception"]).filter goodWord ++ (vx_atS RX1 137 "java/lang/IllegalArgumentException" ["java/lang/RuntimeException", "java/lang/Exception"]).filter goodWord)
def wsL_run_r1 : List Cond := [Cond.classLink RL 15 "java/lang/IllegalStateException", Cond.methodLink RL 41 yX1_run, Cond.instanceMethod yX1_run, Cond.selects RX1 yX1_run yX1_run, Cond.initialized RX1, Cond.code yX1_run cX1_run 7 (some .long), Cond.classLink RX1 31 "java/lang/IllegalStateException", Cond.initialized "java/lang/IllegalStateException", Cond.fieldLink RX1 23 "JointAnnuity" "monthThatGoesOn" "I", Cond.fieldLink RX1 11 "JointAnnuity" "annuities" "[LJointAnnuity$Annuity;", Cond.methodLink RX1 84 yX0_payIn, Cond.instanceMethod yX0_payIn, Cond.selects RX0 yX0_payIn yX0_payIn, Cond.initialized RX0, Cond.code yX0_payIn cX0_payIn 4 (some .long), Cond.fieldLink RX0 51 "JointAnnuity$Annuity" "keptInAll" "J", Cond.methodLink RX0 81 Lib.MathLoose.max_long.x, Cond.static Lib.MathLoose.max_long.x, Cond.initialized "java/lang/Math", Cond.code Lib.MathLoose.max_long.x Lib.MathLoose.max_long.code 4 (some .long), Cond.fieldLink RX0 47 "JointAnnuity$Annuity" "payments" "[J", Cond.methodLink RX0 88 yX0_dueAhead, Cond.instanceMethod yX0_dueAhead, Cond.selects RX0 yX0_dueAhead yX0_dueAhead]
def wsL_run_r2 : List Cond := [Cond.code yX0_dueAhead cX0_dueAhead 4 (some .long), Cond.methodLink RX0 78 yX0_sharesAhead, Cond.instanceMethod yX0_sharesAhead, Cond.selects RX0 yX0_sharesAhead yX0_sharesAhead, Cond.code yX0_sharesAhead cX0_sharesAhead 5 (some .long), Cond.fieldLink RX0 9 "JointAnnuity$Annuity" "start" "I", Cond.methodLink RX0 70 yX0_shareIn, Cond.instanceMethod yX0_shareIn, Cond.selects RX0 yX0_shareIn yX0_shareIn, Cond.code yX0_shareIn cX0_shareIn 6 (some .long), Cond.fieldLink RX0 37 "JointAnnuity$Annuity" "deaths" "[I", Cond.fieldLink RX0 18 "JointAnnuity$Annuity" "guaranteeEnd" "I", Cond.fieldLink RX0 24 "JointAnnuity$Annuity" "stepsOnFirst" "Z", Cond.fieldLink RX0 21 "JointAnnuity$Annuity" "survivorPercent" "I", Cond.constantLong RX0 68 (100), Cond.methodLink RX0 64 yX0_fullIn, Cond.instanceMethod yX0_fullIn, Cond.selects RX0 yX0_fullIn yX0_fullIn, Cond.code yX0_fullIn cX0_fullIn 2 (some .int), Cond.fieldLink RX0 41 "JointAnnuity$Annuity" "fullAmounts" "[I", Cond.methodLink RX0 74 yX0_protectionMonth, Cond.instanceMethod yX0_protectionMonth, Cond.selects RX0 yX0_protectionMonth yX0_protectionMonth, Cond.code yX0_protectionMonth cX0_protectionMonth 2 (some .int)]
def wsL_run_r3 : List Cond := [Cond.methodLink RX0 61 Lib.Math.max.name, Cond.static Lib.Math.max.name, Cond.code Lib.Math.max.name Lib.Math.max.code 2 (some .int), Cond.methodLink RX0 55 Lib.Math.min.name, Cond.static Lib.Math.min.name, Cond.code Lib.Math.min.name Lib.Math.min.code 2 (some .int), Cond.methodLink RX0 84 yX0_protectionSum, Cond.instanceMethod yX0_protectionSum, Cond.selects RX0 yX0_protectionSum yX0_protectionSum, Cond.code yX0_protectionSum cX0_protectionSum 4 (some .long), Cond.fieldLink RX0 31 "JointAnnuity$Annuity" "price" "I", Cond.fieldLink RX0 34 "JointAnnuity$Annuity" "protectedPercent" "I"]
def wsL_run : List Cond := .codeWith yL_run cL_run 3 (some .int) [(0, 7, 10, 15)] :: ((wsL_run_r1 ++ (wsL_run_r2 ++ wsL_run_r3)) ++ wsX10 ++ wsX00 ++ (vx_atS RX1 35 "java/lang/IllegalStateException" ["java/lang/RuntimeException", "java/lang/Exception"]).filter goodWord)
def wsL_giveBack_r1 : List Cond := [Cond.classLink RL 21 "java/lang/IndexOutOfBoundsException", Cond.classLink RL 13 "java/lang/IllegalArgumentException", Cond.classLink RL 15 "java/lang/IllegalStateException", Cond.methodLink RL 45 yX1_giveBack, Cond.instanceMethod yX1_giveBack, Cond.selects RX1 yX1_giveBack yX1_giveBack, Cond.initialized RX1, Cond.code yX1_giveBack cX1_giveBack 6 (some .long), Cond.classLink RX1 31 "java/lang/IllegalStateException", Cond.initialized "java/lang/IllegalStateException", Cond.constant RX1 88 (100000000), Cond.fieldLink RX1 23 "JointAnnuity" "monthThatGoesOn" "I", Cond.fieldLink RX1 94 "JointAnnuity$Annuity" "keptInAll" "J", Cond.methodLink RX1 44 yX1_find, Cond.instanceMethod yX1_find, Cond.selects RX1 yX1_find yX1_find, Cond.code yX1_find cX1_find 3 (some (.object "JointAnnuity$Annuity")), Cond.classLink RX1 123 "java/lang/IndexOutOfBoundsException", Cond.initialized "java/lang/IndexOutOfBoundsException", Cond.fieldLink RX1 11 "JointAnnuity" "annuities" "[LJointAnnuity$Annuity;", Cond.methodLink RX1 26 yX1_requireRange, Cond.static yX1_requireRange, Cond.code yX1_requireRange cX1_requireRange 3 none, Cond.classLink RX1 133 "java/lang/IllegalArgumentException"]
def wsL_giveBack_r2 : List Cond := [Cond.initialized "java/lang/IllegalArgumentException", Cond.methodLink RX1 89 yX0_debtAhead, Cond.instanceMethod yX0_debtAhead, Cond.selects RX0 yX0_debtAhead yX0_debtAhead, Cond.initialized RX0, Cond.code yX0_debtAhead cX0_debtAhead 2 (some .long), Cond.fieldLink RX0 51 "JointAnnuity$Annuity" "keptInAll" "J", Cond.methodLink RX0 81 Lib.MathLoose.max_long.x, Cond.static Lib.MathLoose.max_long.x, Cond.initialized "java/lang/Math", Cond.code Lib.MathLoose.max_long.x Lib.MathLoose.max_long.code 4 (some .long), Cond.methodLink RX0 88 yX0_dueAhead, Cond.instanceMethod yX0_dueAhead, Cond.selects RX0 yX0_dueAhead yX0_dueAhead, Cond.code yX0_dueAhead cX0_dueAhead 4 (some .long), Cond.methodLink RX0 78 yX0_sharesAhead, Cond.instanceMethod yX0_sharesAhead, Cond.selects RX0 yX0_sharesAhead yX0_sharesAhead, Cond.code yX0_sharesAhead cX0_sharesAhead 5 (some .long), Cond.fieldLink RX0 9 "JointAnnuity$Annuity" "start" "I", Cond.methodLink RX0 70 yX0_shareIn, Cond.instanceMethod yX0_shareIn, Cond.selects RX0 yX0_shareIn yX0_shareIn, Cond.code yX0_shareIn cX0_shareIn 6 (some .long)]
def wsL_giveBack_r3 : List Cond := [Cond.fieldLink RX0 37 "JointAnnuity$Annuity" "deaths" "[I", Cond.fieldLink RX0 18 "JointAnnuity$Annuity" "guaranteeEnd" "I", Cond.fieldLink RX0 24 "JointAnnuity$Annuity" "stepsOnFirst" "Z", Cond.fieldLink RX0 21 "JointAnnuity$Annuity" "survivorPercent" "I", Cond.constantLong RX0 68 (100), Cond.methodLink RX0 64 yX0_fullIn, Cond.instanceMethod yX0_fullIn, Cond.selects RX0 yX0_fullIn yX0_fullIn, Cond.code yX0_fullIn cX0_fullIn 2 (some .int), Cond.fieldLink RX0 41 "JointAnnuity$Annuity" "fullAmounts" "[I", Cond.methodLink RX0 74 yX0_protectionMonth, Cond.instanceMethod yX0_protectionMonth, Cond.selects RX0 yX0_protectionMonth yX0_protectionMonth, Cond.code yX0_protectionMonth cX0_protectionMonth 2 (some .int), Cond.methodLink RX0 61 Lib.Math.max.name, Cond.static Lib.Math.max.name, Cond.code Lib.Math.max.name Lib.Math.max.code 2 (some .int), Cond.methodLink RX0 55 Lib.Math.min.name, Cond.static Lib.Math.min.name, Cond.code Lib.Math.min.name Lib.Math.min.code 2 (some .int), Cond.methodLink RX0 84 yX0_protectionSum, Cond.instanceMethod yX0_protectionSum, Cond.selects RX0 yX0_protectionSum yX0_protectionSum, Cond.code yX0_protectionSum cX0_protectionSum 4 (some .long)]
def wsL_giveBack_r4 : List Cond := [Cond.fieldLink RX0 31 "JointAnnuity$Annuity" "price" "I", Cond.fieldLink RX0 34 "JointAnnuity$Annuity" "protectedPercent" "I"]
def wsL_giveBack : List Cond := .codeWith yL_giveBack cL_giveBack 5 (some .int) [(0, 9, 12, 21), (0, 9, 16, 13), (0, 9, 20, 15)] :: ((wsL_giveBack_r1 ++ (wsL_giveBack_r2 ++ (wsL_giveBack_r3 ++ wsL_giveBack_r4))) ++ wsX10 ++ wsX00 ++ (vx_atS RX1 35 "java/lang/IllegalStateException" ["java/lang/RuntimeException", "java/lang/Exception"]).filter goodWord ++ (vx_atS RX1 127 "java/lang/IndexOutOfBoundsException" ["java/lang/RuntimeException", "java/lang/Exception"]).filter goodWord ++ (vx_atS RX1 137 "java/lang/IllegalArgumentException" ["java/lang/RuntimeException", "java/lang/Exception"]).filter goodWord)
def wsL_paid : List Cond := .codeWith yL_paid cL_paid 5 (some .int) [(0, 9, 12, 21), (0, 9, 16, 13)] :: ([.classLink RL 21 "java/lang/IndexOutOfBoundsException", .classLink RL 13 "java/lang/IllegalArgumentException", .methodLink RL 49 yX1_paid, .instanceMethod yX1_paid, .selects RX1 yX1_paid yX1_paid, .initialized RX1, .code yX1_paid cX1_paid 4 (some .long), .fieldLink RX1 23 "JointAnnuity" "monthThatGoesOn" "I", .fieldLink RX1 98 "JointAnnuity$Annuity" "payments" "[J", .methodLink RX1 44 yX1_find, .instanceMethod yX1_find, .selects RX1 yX1_find yX1_find, .code yX1_find cX1_find 3 (some (.object "JointAnnuity$Annuity")), .classLink RX1 123 "java/lang/IndexOutOfBoundsException", .initialized "java/lang/IndexOutOfBoundsException", .fieldLink RX1 11 "JointAnnuity" "annuities" "[LJointAnnuity$Annuity;", .methodLink RX1 26 yX1_requireRange, .static yX1_requireRange, .code yX1_requireRange cX1_requireRange 3 none, .classLink RX1 133 "java/lang/IllegalArgumentException", .initialized "java/lang/IllegalArgumentException"] ++ wsX10 ++ wsX00 ++ (vx_atS RX1 127 "java/lang/IndexOutOfBoundsException" ["java/lang/RuntimeException", "java/lang/Exception"]).filter goodWord ++ (vx_atS RX1 137 "java/lang/IllegalArgumentException" ["java/lang/RuntimeException", "java/lang/Exception"]).filter goodWord)
def wsL_paidInAll : List Cond := .codeWith yL_paidInAll cL_paidInAll 4 (some .int) [(0, 8, 11, 21)] :: ([.classLink RL 21 "java/lang/IndexOutOfBoundsException", .methodLink RL 52 yX1_paidInAll, .instanceMethod yX1_paidInAll, .selects RX1 yX1_paidInAll yX1_paidInAll, .initialized RX1, .code yX1_paidInAll cX1_paidInAll 2 (some .long), .fieldLink RX1 94 "JointAnnuity$Annuity" "keptInAll" "J", .methodLink RX1 44 yX1_find, .instanceMethod yX1_find, .selects RX1 yX1_find yX1_find, .code yX1_find cX1_find 3 (some (.object "JointAnnuity$Annuity")), .classLink RX1 123 "java/lang/IndexOutOfBoundsException", .initialized "java/lang/IndexOutOfBoundsException", .fieldLink RX1 11 "JointAnnuity" "annuities" "[LJointAnnuity$Annuity;"] ++ wsX00 ++ wsX10 ++ (vx_atS RX1 127 "java/lang/IndexOutOfBoundsException" ["java/lang/RuntimeException", "java/lang/Exception"]).filter goodWord)
def wsL_owes_r1 : List Cond := [Cond.classLink RL 21 "java/lang/IndexOutOfBoundsException", Cond.methodLink RL 56 yX1_owes, Cond.instanceMethod yX1_owes, Cond.selects RX1 yX1_owes yX1_owes, Cond.initialized RX1, Cond.code yX1_owes cX1_owes 2 (some .long), Cond.fieldLink RX1 23 "JointAnnuity" "monthThatGoesOn" "I", Cond.methodLink RX1 44 yX1_find, Cond.instanceMethod yX1_find, Cond.selects RX1 yX1_find yX1_find, Cond.code yX1_find cX1_find 3 (some (.object "JointAnnuity$Annuity")), Cond.classLink RX1 123 "java/lang/IndexOutOfBoundsException", Cond.initialized "java/lang/IndexOutOfBoundsException", Cond.fieldLink RX1 11 "JointAnnuity" "annuities" "[LJointAnnuity$Annuity;", Cond.methodLink RX1 89 yX0_debtAhead, Cond.instanceMethod yX0_debtAhead, Cond.selects RX0 yX0_debtAhead yX0_debtAhead, Cond.initialized RX0, Cond.code yX0_debtAhead cX0_debtAhead 2 (some .long), Cond.fieldLink RX0 51 "JointAnnuity$Annuity" "keptInAll" "J", Cond.methodLink RX0 81 Lib.MathLoose.max_long.x, Cond.static Lib.MathLoose.max_long.x, Cond.initialized "java/lang/Math", Cond.code Lib.MathLoose.max_long.x Lib.MathLoose.max_long.code 4 (some .long)]
def wsL_owes_r2 : List Cond := [Cond.methodLink RX0 88 yX0_dueAhead, Cond.instanceMethod yX0_dueAhead, Cond.selects RX0 yX0_dueAhead yX0_dueAhead, Cond.code yX0_dueAhead cX0_dueAhead 4 (some .long), Cond.methodLink RX0 78 yX0_sharesAhead, Cond.instanceMethod yX0_sharesAhead, Cond.selects RX0 yX0_sharesAhead yX0_sharesAhead, Cond.code yX0_sharesAhead cX0_sharesAhead 5 (some .long), Cond.fieldLink RX0 9 "JointAnnuity$Annuity" "start" "I", Cond.methodLink RX0 70 yX0_shareIn, Cond.instanceMethod yX0_shareIn, Cond.selects RX0 yX0_shareIn yX0_shareIn, Cond.code yX0_shareIn cX0_shareIn 6 (some .long), Cond.fieldLink RX0 37 "JointAnnuity$Annuity" "deaths" "[I", Cond.fieldLink RX0 18 "JointAnnuity$Annuity" "guaranteeEnd" "I", Cond.fieldLink RX0 24 "JointAnnuity$Annuity" "stepsOnFirst" "Z", Cond.fieldLink RX0 21 "JointAnnuity$Annuity" "survivorPercent" "I", Cond.constantLong RX0 68 (100), Cond.methodLink RX0 64 yX0_fullIn, Cond.instanceMethod yX0_fullIn, Cond.selects RX0 yX0_fullIn yX0_fullIn, Cond.code yX0_fullIn cX0_fullIn 2 (some .int), Cond.fieldLink RX0 41 "JointAnnuity$Annuity" "fullAmounts" "[I", Cond.methodLink RX0 74 yX0_protectionMonth]
def wsL_owes_r3 : List Cond := [Cond.instanceMethod yX0_protectionMonth, Cond.selects RX0 yX0_protectionMonth yX0_protectionMonth, Cond.code yX0_protectionMonth cX0_protectionMonth 2 (some .int), Cond.methodLink RX0 61 Lib.Math.max.name, Cond.static Lib.Math.max.name, Cond.code Lib.Math.max.name Lib.Math.max.code 2 (some .int), Cond.methodLink RX0 55 Lib.Math.min.name, Cond.static Lib.Math.min.name, Cond.code Lib.Math.min.name Lib.Math.min.code 2 (some .int), Cond.methodLink RX0 84 yX0_protectionSum, Cond.instanceMethod yX0_protectionSum, Cond.selects RX0 yX0_protectionSum yX0_protectionSum, Cond.code yX0_protectionSum cX0_protectionSum 4 (some .long), Cond.fieldLink RX0 31 "JointAnnuity$Annuity" "price" "I", Cond.fieldLink RX0 34 "JointAnnuity$Annuity" "protectedPercent" "I"]
def wsL_owes : List Cond := .codeWith yL_owes cL_owes 4 (some .int) [(0, 8, 11, 21)] :: ((wsL_owes_r1 ++ (wsL_owes_r2 ++ wsL_owes_r3)) ++ wsX10 ++ wsX00 ++ (vx_atS RX1 127 "java/lang/IndexOutOfBoundsException" ["java/lang/RuntimeException", "java/lang/Exception"]).filter goodWord)
def wsL_fullAmount_r1 : List Cond := [Cond.classLink RL 21 "java/lang/IndexOutOfBoundsException", Cond.classLink RL 13 "java/lang/IllegalArgumentException", Cond.methodLink RL 59 yX1_fullAmount, Cond.instanceMethod yX1_fullAmount, Cond.selects RX1 yX1_fullAmount yX1_fullAmount, Cond.initialized RX1, Cond.code yX1_fullAmount cX1_fullAmount 4 (some .int), Cond.methodLink RX1 44 yX1_find, Cond.instanceMethod yX1_find, Cond.selects RX1 yX1_find yX1_find, Cond.code yX1_find cX1_find 3 (some (.object "JointAnnuity$Annuity")), Cond.classLink RX1 123 "java/lang/IndexOutOfBoundsException", Cond.initialized "java/lang/IndexOutOfBoundsException", Cond.fieldLink RX1 11 "JointAnnuity" "annuities" "[LJointAnnuity$Annuity;", Cond.methodLink RX1 102 yX1_requireMonth, Cond.static yX1_requireMonth, Cond.code yX1_requireMonth cX1_requireMonth 1 none, Cond.methodLink RX1 26 yX1_requireRange, Cond.static yX1_requireRange, Cond.code yX1_requireRange cX1_requireRange 3 none, Cond.classLink RX1 133 "java/lang/IllegalArgumentException", Cond.initialized "java/lang/IllegalArgumentException", Cond.methodLink RX1 106 yX0_fullIn, Cond.instanceMethod yX0_fullIn]
def wsL_fullAmount_r2 : List Cond := [Cond.selects RX0 yX0_fullIn yX0_fullIn, Cond.initialized RX0, Cond.code yX0_fullIn cX0_fullIn 2 (some .int), Cond.fieldLink RX0 9 "JointAnnuity$Annuity" "start" "I", Cond.fieldLink RX0 41 "JointAnnuity$Annuity" "fullAmounts" "[I"]
def wsL_fullAmount : List Cond := .codeWith yL_fullAmount cL_fullAmount 5 (some .int) [(0, 10, 13, 21), (0, 10, 17, 13)] :: ((wsL_fullAmount_r1 ++ wsL_fullAmount_r2) ++ wsX10 ++ wsX00 ++ (vx_atS RX1 127 "java/lang/IndexOutOfBoundsException" ["java/lang/RuntimeException", "java/lang/Exception"]).filter goodWord ++ (vx_atS RX1 137 "java/lang/IllegalArgumentException" ["java/lang/RuntimeException", "java/lang/Exception"]).filter goodWord)
def wsL_carry_r1 : List Cond := [Cond.classLink RL 21 "java/lang/IndexOutOfBoundsException", Cond.classLink RL 13 "java/lang/IllegalArgumentException", Cond.methodLink RL 62 yX1_carry, Cond.instanceMethod yX1_carry, Cond.selects RX1 yX1_carry yX1_carry, Cond.initialized RX1, Cond.code yX1_carry cX1_carry 4 (some .int), Cond.methodLink RX1 44 yX1_find, Cond.instanceMethod yX1_find, Cond.selects RX1 yX1_find yX1_find, Cond.code yX1_find cX1_find 3 (some (.object "JointAnnuity$Annuity")), Cond.classLink RX1 123 "java/lang/IndexOutOfBoundsException", Cond.initialized "java/lang/IndexOutOfBoundsException", Cond.fieldLink RX1 11 "JointAnnuity" "annuities" "[LJointAnnuity$Annuity;", Cond.methodLink RX1 102 yX1_requireMonth, Cond.static yX1_requireMonth, Cond.code yX1_requireMonth cX1_requireMonth 1 none, Cond.methodLink RX1 26 yX1_requireRange, Cond.static yX1_requireRange, Cond.code yX1_requireRange cX1_requireRange 3 none, Cond.classLink RX1 133 "java/lang/IllegalArgumentException", Cond.initialized "java/lang/IllegalArgumentException", Cond.methodLink RX1 110 yX0_carryIn, Cond.instanceMethod yX0_carryIn]
def wsL_carry_r2 : List Cond := [Cond.selects RX0 yX0_carryIn yX0_carryIn, Cond.initialized RX0, Cond.code yX0_carryIn cX0_carryIn 2 (some .int), Cond.fieldLink RX0 9 "JointAnnuity$Annuity" "start" "I", Cond.fieldLink RX0 44 "JointAnnuity$Annuity" "carries" "[I"]
def wsL_carry : List Cond := .codeWith yL_carry cL_carry 5 (some .int) [(0, 10, 13, 21), (0, 10, 17, 13)] :: ((wsL_carry_r1 ++ wsL_carry_r2) ++ wsX10 ++ wsX00 ++ (vx_atS RX1 127 "java/lang/IndexOutOfBoundsException" ["java/lang/RuntimeException", "java/lang/Exception"]).filter goodWord ++ (vx_atS RX1 137 "java/lang/IllegalArgumentException" ["java/lang/RuntimeException", "java/lang/Exception"]).filter goodWord)
def wsL_entitled_r1 : List Cond := [Cond.classLink RL 21 "java/lang/IndexOutOfBoundsException", Cond.classLink RL 13 "java/lang/IllegalArgumentException", Cond.methodLink RL 65 yX1_entitled, Cond.instanceMethod yX1_entitled, Cond.selects RX1 yX1_entitled yX1_entitled, Cond.initialized RX1, Cond.code yX1_entitled cX1_entitled 4 (some .long), Cond.methodLink RX1 44 yX1_find, Cond.instanceMethod yX1_find, Cond.selects RX1 yX1_find yX1_find, Cond.code yX1_find cX1_find 3 (some (.object "JointAnnuity$Annuity")), Cond.classLink RX1 123 "java/lang/IndexOutOfBoundsException", Cond.initialized "java/lang/IndexOutOfBoundsException", Cond.fieldLink RX1 11 "JointAnnuity" "annuities" "[LJointAnnuity$Annuity;", Cond.methodLink RX1 102 yX1_requireMonth, Cond.static yX1_requireMonth, Cond.code yX1_requireMonth cX1_requireMonth 1 none, Cond.methodLink RX1 26 yX1_requireRange, Cond.static yX1_requireRange, Cond.code yX1_requireRange cX1_requireRange 3 none, Cond.classLink RX1 133 "java/lang/IllegalArgumentException", Cond.initialized "java/lang/IllegalArgumentException", Cond.methodLink RX1 113 yX0_dueIn, Cond.instanceMethod yX0_dueIn]
def wsL_entitled_r2 : List Cond := [Cond.selects RX0 yX0_dueIn yX0_dueIn, Cond.initialized RX0, Cond.code yX0_dueIn cX0_dueIn 4 (some .long), Cond.methodLink RX0 70 yX0_shareIn, Cond.instanceMethod yX0_shareIn, Cond.selects RX0 yX0_shareIn yX0_shareIn, Cond.code yX0_shareIn cX0_shareIn 6 (some .long), Cond.fieldLink RX0 9 "JointAnnuity$Annuity" "start" "I", Cond.fieldLink RX0 37 "JointAnnuity$Annuity" "deaths" "[I", Cond.fieldLink RX0 18 "JointAnnuity$Annuity" "guaranteeEnd" "I", Cond.fieldLink RX0 24 "JointAnnuity$Annuity" "stepsOnFirst" "Z", Cond.fieldLink RX0 21 "JointAnnuity$Annuity" "survivorPercent" "I", Cond.constantLong RX0 68 (100), Cond.methodLink RX0 64 yX0_fullIn, Cond.instanceMethod yX0_fullIn, Cond.selects RX0 yX0_fullIn yX0_fullIn, Cond.code yX0_fullIn cX0_fullIn 2 (some .int), Cond.fieldLink RX0 41 "JointAnnuity$Annuity" "fullAmounts" "[I", Cond.methodLink RX0 74 yX0_protectionMonth, Cond.instanceMethod yX0_protectionMonth, Cond.selects RX0 yX0_protectionMonth yX0_protectionMonth, Cond.code yX0_protectionMonth cX0_protectionMonth 2 (some .int), Cond.methodLink RX0 61 Lib.Math.max.name, Cond.static Lib.Math.max.name]
def wsL_entitled_r3 : List Cond := [Cond.initialized "java/lang/Math", Cond.code Lib.Math.max.name Lib.Math.max.code 2 (some .int), Cond.methodLink RX0 55 Lib.Math.min.name, Cond.static Lib.Math.min.name, Cond.code Lib.Math.min.name Lib.Math.min.code 2 (some .int), Cond.methodLink RX0 84 yX0_protectionSum, Cond.instanceMethod yX0_protectionSum, Cond.selects RX0 yX0_protectionSum yX0_protectionSum, Cond.code yX0_protectionSum cX0_protectionSum 4 (some .long), Cond.fieldLink RX0 31 "JointAnnuity$Annuity" "price" "I", Cond.fieldLink RX0 34 "JointAnnuity$Annuity" "protectedPercent" "I", Cond.methodLink RX0 81 Lib.MathLoose.max_long.x, Cond.static Lib.MathLoose.max_long.x, Cond.code Lib.MathLoose.max_long.x Lib.MathLoose.max_long.code 4 (some .long), Cond.methodLink RX0 78 yX0_sharesAhead, Cond.instanceMethod yX0_sharesAhead, Cond.selects RX0 yX0_sharesAhead yX0_sharesAhead, Cond.code yX0_sharesAhead cX0_sharesAhead 5 (some .long)]
def wsL_entitled : List Cond := .codeWith yL_entitled cL_entitled 5 (some .int) [(0, 9, 12, 21), (0, 9, 16, 13)] :: ((wsL_entitled_r1 ++ (wsL_entitled_r2 ++ wsL_entitled_r3)) ++ wsX10 ++ wsX00 ++ (vx_atS RX1 127 "java/lang/IndexOutOfBoundsException" ["java/lang/RuntimeException", "java/lang/Exception"]).filter goodWord ++ (vx_atS RX1 137 "java/lang/IllegalArgumentException" ["java/lang/RuntimeException", "java/lang/Exception"]).filter goodWord)
def wsL_entitledUpTo_r1 : List Cond := [Cond.classLink RL 21 "java/lang/IndexOutOfBoundsException", Cond.classLink RL 13 "java/lang/IllegalArgumentException", Cond.methodLink RL 68 yX1_entitledUpTo, Cond.instanceMethod yX1_entitledUpTo, Cond.selects RX1 yX1_entitledUpTo yX1_entitledUpTo, Cond.initialized RX1, Cond.code yX1_entitledUpTo cX1_entitledUpTo 4 (some .long), Cond.methodLink RX1 44 yX1_find, Cond.instanceMethod yX1_find, Cond.selects RX1 yX1_find yX1_find, Cond.code yX1_find cX1_find 3 (some (.object "JointAnnuity$Annuity")), Cond.classLink RX1 123 "java/lang/IndexOutOfBoundsException", Cond.initialized "java/lang/IndexOutOfBoundsException", Cond.fieldLink RX1 11 "JointAnnuity" "annuities" "[LJointAnnuity$Annuity;", Cond.methodLink RX1 102 yX1_requireMonth, Cond.static yX1_requireMonth, Cond.code yX1_requireMonth cX1_requireMonth 1 none, Cond.methodLink RX1 26 yX1_requireRange, Cond.static yX1_requireRange, Cond.code yX1_requireRange cX1_requireRange 3 none, Cond.classLink RX1 133 "java/lang/IllegalArgumentException", Cond.initialized "java/lang/IllegalArgumentException", Cond.methodLink RX1 116 yX0_dueAhead, Cond.instanceMethod yX0_dueAhead]
def wsL_entitledUpTo_r2 : List Cond := [Cond.selects RX0 yX0_dueAhead yX0_dueAhead, Cond.initialized RX0, Cond.code yX0_dueAhead cX0_dueAhead 4 (some .long), Cond.methodLink RX0 78 yX0_sharesAhead, Cond.instanceMethod yX0_sharesAhead, Cond.selects RX0 yX0_sharesAhead yX0_sharesAhead, Cond.code yX0_sharesAhead cX0_sharesAhead 5 (some .long), Cond.fieldLink RX0 9 "JointAnnuity$Annuity" "start" "I", Cond.methodLink RX0 70 yX0_shareIn, Cond.instanceMethod yX0_shareIn, Cond.selects RX0 yX0_shareIn yX0_shareIn, Cond.code yX0_shareIn cX0_shareIn 6 (some .long), Cond.fieldLink RX0 37 "JointAnnuity$Annuity" "deaths" "[I", Cond.fieldLink RX0 18 "JointAnnuity$Annuity" "guaranteeEnd" "I", Cond.fieldLink RX0 24 "JointAnnuity$Annuity" "stepsOnFirst" "Z", Cond.fieldLink RX0 21 "JointAnnuity$Annuity" "survivorPercent" "I", Cond.constantLong RX0 68 (100), Cond.methodLink RX0 64 yX0_fullIn, Cond.instanceMethod yX0_fullIn, Cond.selects RX0 yX0_fullIn yX0_fullIn, Cond.code yX0_fullIn cX0_fullIn 2 (some .int), Cond.fieldLink RX0 41 "JointAnnuity$Annuity" "fullAmounts" "[I", Cond.methodLink RX0 74 yX0_protectionMonth, Cond.instanceMethod yX0_protectionMonth]
def wsL_entitledUpTo_r3 : List Cond := [Cond.selects RX0 yX0_protectionMonth yX0_protectionMonth, Cond.code yX0_protectionMonth cX0_protectionMonth 2 (some .int), Cond.methodLink RX0 61 Lib.Math.max.name, Cond.static Lib.Math.max.name, Cond.initialized "java/lang/Math", Cond.code Lib.Math.max.name Lib.Math.max.code 2 (some .int), Cond.methodLink RX0 55 Lib.Math.min.name, Cond.static Lib.Math.min.name, Cond.code Lib.Math.min.name Lib.Math.min.code 2 (some .int), Cond.methodLink RX0 84 yX0_protectionSum, Cond.instanceMethod yX0_protectionSum, Cond.selects RX0 yX0_protectionSum yX0_protectionSum, Cond.code yX0_protectionSum cX0_protectionSum 4 (some .long), Cond.fieldLink RX0 31 "JointAnnuity$Annuity" "price" "I", Cond.fieldLink RX0 34 "JointAnnuity$Annuity" "protectedPercent" "I", Cond.methodLink RX0 81 Lib.MathLoose.max_long.x, Cond.static Lib.MathLoose.max_long.x, Cond.code Lib.MathLoose.max_long.x Lib.MathLoose.max_long.code 4 (some .long)]
def wsL_entitledUpTo : List Cond := .codeWith yL_entitledUpTo cL_entitledUpTo 5 (some .int) [(0, 9, 12, 21), (0, 9, 16, 13)] :: ((wsL_entitledUpTo_r1 ++ (wsL_entitledUpTo_r2 ++ wsL_entitledUpTo_r3)) ++ wsX10 ++ wsX00 ++ (vx_atS RX1 127 "java/lang/IndexOutOfBoundsException" ["java/lang/RuntimeException", "java/lang/Exception"]).filter goodWord ++ (vx_atS RX1 137 "java/lang/IllegalArgumentException" ["java/lang/RuntimeException", "java/lang/Exception"]).filter goodWord)
def wsL_protection_r1 : List Cond := [Cond.classLink RL 21 "java/lang/IndexOutOfBoundsException", Cond.methodLink RL 71 yX1_protection, Cond.instanceMethod yX1_protection, Cond.selects RX1 yX1_protection yX1_protection, Cond.initialized RX1, Cond.code yX1_protection cX1_protection 2 (some .long), Cond.methodLink RX1 44 yX1_find, Cond.instanceMethod yX1_find, Cond.selects RX1 yX1_find yX1_find, Cond.code yX1_find cX1_find 3 (some (.object "JointAnnuity$Annuity")), Cond.classLink RX1 123 "java/lang/IndexOutOfBoundsException", Cond.initialized "java/lang/IndexOutOfBoundsException", Cond.fieldLink RX1 11 "JointAnnuity" "annuities" "[LJointAnnuity$Annuity;", Cond.methodLink RX1 119 yX0_protectionSum, Cond.instanceMethod yX0_protectionSum, Cond.selects RX0 yX0_protectionSum yX0_protectionSum, Cond.initialized RX0, Cond.code yX0_protectionSum cX0_protectionSum 4 (some .long), Cond.fieldLink RX0 31 "JointAnnuity$Annuity" "price" "I", Cond.fieldLink RX0 34 "JointAnnuity$Annuity" "protectedPercent" "I", Cond.constantLong RX0 68 (100), Cond.methodLink RX0 81 Lib.MathLoose.max_long.x, Cond.static Lib.MathLoose.max_long.x, Cond.initialized "java/lang/Math"]
def wsL_protection_r2 : List Cond := [Cond.code Lib.MathLoose.max_long.x Lib.MathLoose.max_long.code 4 (some .long), Cond.methodLink RX0 74 yX0_protectionMonth, Cond.instanceMethod yX0_protectionMonth, Cond.selects RX0 yX0_protectionMonth yX0_protectionMonth, Cond.code yX0_protectionMonth cX0_protectionMonth 2 (some .int), Cond.fieldLink RX0 37 "JointAnnuity$Annuity" "deaths" "[I", Cond.methodLink RX0 61 Lib.Math.max.name, Cond.static Lib.Math.max.name, Cond.code Lib.Math.max.name Lib.Math.max.code 2 (some .int), Cond.fieldLink RX0 18 "JointAnnuity$Annuity" "guaranteeEnd" "I", Cond.methodLink RX0 55 Lib.Math.min.name, Cond.static Lib.Math.min.name, Cond.code Lib.Math.min.name Lib.Math.min.code 2 (some .int), Cond.methodLink RX0 78 yX0_sharesAhead, Cond.instanceMethod yX0_sharesAhead, Cond.selects RX0 yX0_sharesAhead yX0_sharesAhead, Cond.code yX0_sharesAhead cX0_sharesAhead 5 (some .long), Cond.fieldLink RX0 9 "JointAnnuity$Annuity" "start" "I", Cond.methodLink RX0 70 yX0_shareIn, Cond.instanceMethod yX0_shareIn, Cond.selects RX0 yX0_shareIn yX0_shareIn, Cond.code yX0_shareIn cX0_shareIn 6 (some .long), Cond.fieldLink RX0 24 "JointAnnuity$Annuity" "stepsOnFirst" "Z", Cond.fieldLink RX0 21 "JointAnnuity$Annuity" "survivorPercent" "I"]
def wsL_protection_r3 : List Cond := [Cond.methodLink RX0 64 yX0_fullIn, Cond.instanceMethod yX0_fullIn, Cond.selects RX0 yX0_fullIn yX0_fullIn, Cond.code yX0_fullIn cX0_fullIn 2 (some .int), Cond.fieldLink RX0 41 "JointAnnuity$Annuity" "fullAmounts" "[I"]
def wsL_protection : List Cond := .codeWith yL_protection cL_protection 4 (some .int) [(0, 8, 11, 21)] :: ((wsL_protection_r1 ++ (wsL_protection_r2 ++ wsL_protection_r3)) ++ wsX10 ++ wsX00 ++ (vx_atS RX1 127 "java/lang/IndexOutOfBoundsException" ["java/lang/RuntimeException", "java/lang/Exception"]).filter goodWord)
def wsL_law0_r1 : List Cond := [Cond.classLink RL 8 RX1, Cond.instantiable RX1 4, Cond.initialized RX1, Cond.classLink RL 75 RX2, Cond.instantiable RX2 18, Cond.initialized RX2, Cond.arrayClass .long, Cond.methodLink RL 74 yX1_init, Cond.instanceMethod yX1_init, Cond.code yX1_init cX1_init 1 none, Cond.methodLink RX1 3 objectInit, Cond.instanceMethod objectInit, Cond.code objectInit ⟨#[0xb1]⟩ 1 none, Cond.classLink RX1 9 RX0, Cond.fieldLink RX1 11 "JointAnnuity" "annuities" "[LJointAnnuity$Annuity;", Cond.arrayClass .int, Cond.fieldLink RX1 15 "JointAnnuity" "inflation" "[I", Cond.fieldLink RX1 19 "JointAnnuity" "count" "I", Cond.fieldLink RX1 23 "JointAnnuity" "monthThatGoesOn" "I", Cond.methodLink RL 77 yX2_init, Cond.instanceMethod yX2_init, Cond.code yX2_init cX2_init 1 none, Cond.methodLink RX2 1 objectInit, Cond.fieldLink RX2 7 "JointAnnuityModel" "start" "[I"]
def wsL_law0_r2 : List Cond := [Cond.fieldLink RX2 13 "JointAnnuityModel" "amount" "[I", Cond.fieldLink RX2 16 "JointAnnuityModel" "guarantee" "[I", Cond.fieldLink RX2 19 "JointAnnuityModel" "percent" "[I", Cond.arrayClass .boolean, Cond.fieldLink RX2 22 "JointAnnuityModel" "isOnFirst" "[Z", Cond.fieldLink RX2 26 "JointAnnuityModel" "cap" "[I", Cond.fieldLink RX2 29 "JointAnnuityModel" "price" "[I", Cond.fieldLink RX2 32 "JointAnnuityModel" "share" "[I", Cond.fieldLink RX2 35 "JointAnnuityModel" "death" "[I", Cond.fieldLink RX2 38 "JointAnnuityModel" "total" "[J", Cond.fieldLink RX2 42 "JointAnnuityModel" "back" "[J", Cond.fieldLink RX2 45 "JointAnnuityModel" "paid" "[J", Cond.fieldLink RX2 48 "JointAnnuityModel" "inflation" "[I", Cond.methodLink RL 78 yL_add, Cond.static yL_add, Cond.initialized RL, Cond.codeWith yL_add cL_add 6 (some .int) [(0, 12, 15, 13), (0, 12, 19, 15)], Cond.classLink RL 13 "java/lang/IllegalArgumentException", Cond.classLink RL 15 "java/lang/IllegalStateException", Cond.methodLink RL 7 yX1_add, Cond.instanceMethod yX1_add, Cond.selects RX1 yX1_add yX1_add, Cond.code yX1_add cX1_add 5 (some .int), Cond.classLink RX1 31 "java/lang/IllegalStateException"]
def wsL_law0_r3 : List Cond := [Cond.initialized "java/lang/IllegalStateException", Cond.constant RX1 30 (100000), Cond.instantiable RX0 13, Cond.initialized RX0, Cond.methodLink RX1 26 yX1_requireRange, Cond.static yX1_requireRange, Cond.code yX1_requireRange cX1_requireRange 3 none, Cond.classLink RX1 133 "java/lang/IllegalArgumentException", Cond.initialized "java/lang/IllegalArgumentException", Cond.methodLink RX1 38 yX0_init, Cond.instanceMethod yX0_init, Cond.code yX0_init cX0_init 4 none, Cond.methodLink RX0 3 objectInit, Cond.fieldLink RX0 9 "JointAnnuity$Annuity" "start" "I", Cond.fieldLink RX0 15 "JointAnnuity$Annuity" "amount" "I", Cond.fieldLink RX0 18 "JointAnnuity$Annuity" "guaranteeEnd" "I", Cond.fieldLink RX0 21 "JointAnnuity$Annuity" "survivorPercent" "I", Cond.fieldLink RX0 24 "JointAnnuity$Annuity" "stepsOnFirst" "Z", Cond.fieldLink RX0 28 "JointAnnuity$Annuity" "cap" "I", Cond.fieldLink RX0 31 "JointAnnuity$Annuity" "price" "I", Cond.fieldLink RX0 34 "JointAnnuity$Annuity" "protectedPercent" "I", Cond.fieldLink RX0 37 "JointAnnuity$Annuity" "deaths" "[I", Cond.fieldLink RX0 41 "JointAnnuity$Annuity" "fullAmounts" "[I", Cond.fieldLink RX0 44 "JointAnnuity$Annuity" "carries" "[I"]
def wsL_law0_r4 : List Cond := [Cond.fieldLink RX0 47 "JointAnnuity$Annuity" "payments" "[J", Cond.fieldLink RX0 51 "JointAnnuity$Annuity" "keptInAll" "J", Cond.methodLink RX1 40 yX0_growBy, Cond.instanceMethod yX0_growBy, Cond.selects RX0 yX0_growBy yX0_growBy, Cond.code yX0_growBy cX0_growBy 8 none, Cond.methodLink RX0 55 Lib.Math.min.name, Cond.static Lib.Math.min.name, Cond.initialized "java/lang/Math", Cond.code Lib.Math.min.name Lib.Math.min.code 2 (some .int), Cond.methodLink RX0 61 Lib.Math.max.name, Cond.static Lib.Math.max.name, Cond.code Lib.Math.max.name Lib.Math.max.code 2 (some .int), Cond.methodLink RL 83 yX2_add, Cond.instanceMethod yX2_add, Cond.selects RX2 yX2_add yX2_add, Cond.code yX2_add cX2_add 5 (some .int), Cond.fieldLink RX2 58 "JointAnnuityModel" "month" "I", Cond.constant RX2 65 (100000), Cond.fieldLink RX2 55 "JointAnnuityModel" "many" "I", Cond.methodLink RX2 61 yX2_isWithin, Cond.static yX2_isWithin, Cond.code yX2_isWithin cX2_isWithin 3 (some .boolean), Cond.methodLink RX2 66 yX2_goes]
def wsL_law0_r5 : List Cond := [Cond.instanceMethod yX2_goes, Cond.selects RX2 yX2_goes yX2_goes, Cond.code yX2_goes cX2_goes 4 (some .boolean), Cond.fieldLink RX2 51 "JointAnnuityModel" "thrown" "I", Cond.methodLink RL 84 yX2_thrown, Cond.instanceMethod yX2_thrown, Cond.selects RX2 yX2_thrown yX2_thrown, Cond.code yX2_thrown cX2_thrown 1 (some .int), Cond.methodLink RL 88 yL_setSurvivor, Cond.static yL_setSurvivor, Cond.codeWith yL_setSurvivor cL_setSurvivor 5 (some .int) [(0, 7, 10, 21), (0, 7, 14, 13), (0, 7, 18, 15)], Cond.classLink RL 21 "java/lang/IndexOutOfBoundsException", Cond.methodLink RL 17 yX1_setSurvivor, Cond.instanceMethod yX1_setSurvivor, Cond.selects RX1 yX1_setSurvivor yX1_setSurvivor, Cond.code yX1_setSurvivor cX1_setSurvivor 5 none, Cond.fieldLink RX1 52 "JointAnnuity$Annuity" "survivorPercent" "I", Cond.fieldLink RX1 55 "JointAnnuity$Annuity" "stepsOnFirst" "Z", Cond.methodLink RX1 44 yX1_find, Cond.instanceMethod yX1_find, Cond.selects RX1 yX1_find yX1_find, Cond.code yX1_find cX1_find 3 (some (.object "JointAnnuity$Annuity")), Cond.classLink RX1 123 "java/lang/IndexOutOfBoundsException", Cond.initialized "java/lang/IndexOutOfBoundsException"]
def wsL_law0_r6 : List Cond := [Cond.methodLink RX1 48 yX1_requireStartNotRun, Cond.instanceMethod yX1_requireStartNotRun, Cond.selects RX1 yX1_requireStartNotRun yX1_requireStartNotRun, Cond.code yX1_requireStartNotRun cX1_requireStartNotRun 2 none, Cond.fieldLink RX1 128 "JointAnnuity$Annuity" "start" "I", Cond.methodLink RL 91 yX2_setSurvivor, Cond.instanceMethod yX2_setSurvivor, Cond.selects RX2 yX2_setSurvivor yX2_setSurvivor, Cond.code yX2_setSurvivor cX2_setSurvivor 4 none, Cond.methodLink RX2 70 yX2_isOne, Cond.instanceMethod yX2_isOne, Cond.selects RX2 yX2_isOne yX2_isOne, Cond.code yX2_isOne cX2_isOne 2 (some .boolean), Cond.methodLink RX2 74 yX2_isAhead, Cond.instanceMethod yX2_isAhead, Cond.selects RX2 yX2_isAhead yX2_isAhead, Cond.code yX2_isAhead cX2_isAhead 2 (some .boolean), Cond.methodLink RL 92 yL_setCap, Cond.static yL_setCap, Cond.codeWith yL_setCap cL_setCap 4 (some .int) [(0, 6, 9, 21), (0, 6, 12, 13), (0, 6, 15, 15)], Cond.methodLink RL 23 yX1_setCap, Cond.instanceMethod yX1_setCap, Cond.selects RX1 yX1_setCap yX1_setCap, Cond.code yX1_setCap cX1_setCap 4 none]
def wsL_law0_r7 : List Cond := [Cond.fieldLink RX1 59 "JointAnnuity$Annuity" "cap" "I", Cond.methodLink RL 95 yX2_setCap, Cond.instanceMethod yX2_setCap, Cond.selects RX2 yX2_setCap yX2_setCap, Cond.code yX2_setCap cX2_setCap 3 none, Cond.methodLink RL 96 yL_protect, Cond.static yL_protect, Cond.codeWith yL_protect cL_protect 5 (some .int) [(0, 7, 10, 21), (0, 7, 14, 13), (0, 7, 18, 15)], Cond.methodLink RL 27 yX1_protect, Cond.instanceMethod yX1_protect, Cond.selects RX1 yX1_protect yX1_protect, Cond.code yX1_protect cX1_protect 5 none, Cond.constant RX1 62 (10000000), Cond.fieldLink RX1 63 "JointAnnuity$Annuity" "price" "I", Cond.fieldLink RX1 66 "JointAnnuity$Annuity" "protectedPercent" "I", Cond.methodLink RL 99 yX2_protect, Cond.instanceMethod yX2_protect, Cond.selects RX2 yX2_protect yX2_protect, Cond.code yX2_protect cX2_protect 4 none, Cond.constant RX2 77 (10000000), Cond.methodLink RL 100 yL_setInflation, Cond.static yL_setInflation, Cond.codeWith yL_setInflation cL_setInflation 5 (some .int) [(0, 10, 13, 13)], Cond.methodLink RL 31 yX1_setInflation]
def wsL_law0_r8 : List Cond := [Cond.instanceMethod yX1_setInflation, Cond.selects RX1 yX1_setInflation yX1_setInflation, Cond.code yX1_setInflation cX1_setInflation 8 (some .int), Cond.methodLink RL 103 yX2_setInflation, Cond.instanceMethod yX2_setInflation, Cond.selects RX2 yX2_setInflation yX2_setInflation, Cond.code yX2_setInflation cX2_setInflation 4 (some .int), Cond.methodLink RL 104 yL_die, Cond.static yL_die, Cond.codeWith yL_die cL_die 5 (some .int) [(0, 7, 10, 21), (0, 7, 14, 13), (0, 7, 18, 15)], Cond.methodLink RL 35 yX1_die, Cond.instanceMethod yX1_die, Cond.selects RX1 yX1_die yX1_die, Cond.code yX1_die cX1_die 5 none, Cond.methodLink RX1 69 Lib.Math.min.name, Cond.fieldLink RX1 75 "JointAnnuity$Annuity" "deaths" "[I", Cond.methodLink RL 106 yX2_die, Cond.instanceMethod yX2_die, Cond.selects RX2 yX2_die yX2_die, Cond.code yX2_die cX2_die 6 none, Cond.methodLink RX2 78 yX2_isLife, Cond.static yX2_isLife, Cond.code yX2_isLife cX2_isLife 1 (some .boolean), Cond.methodLink RL 107 yL_takeBack]
def wsL_law0_r9 : List Cond := [Cond.static yL_takeBack, Cond.codeWith yL_takeBack cL_takeBack 5 (some .int) [(0, 10, 13, 21), (0, 10, 17, 13), (0, 10, 21, 15)], Cond.methodLink RL 38 yX1_takeBack, Cond.instanceMethod yX1_takeBack, Cond.selects RX1 yX1_takeBack yX1_takeBack, Cond.code yX1_takeBack cX1_takeBack 5 (some .int), Cond.methodLink RL 109 yX2_takeBack, Cond.instanceMethod yX2_takeBack, Cond.selects RX2 yX2_takeBack yX2_takeBack, Cond.code yX2_takeBack cX2_takeBack 5 (some .int), Cond.methodLink RL 110 yL_run, Cond.static yL_run, Cond.codeWith yL_run cL_run 3 (some .int) [(0, 7, 10, 15)], Cond.methodLink RL 41 yX1_run, Cond.instanceMethod yX1_run, Cond.selects RX1 yX1_run yX1_run, Cond.code yX1_run cX1_run 7 (some .long), Cond.methodLink RX1 84 yX0_payIn, Cond.instanceMethod yX0_payIn, Cond.selects RX0 yX0_payIn yX0_payIn, Cond.code yX0_payIn cX0_payIn 4 (some .long), Cond.methodLink RX0 81 Lib.MathLoose.max_long.x, Cond.static Lib.MathLoose.max_long.x, Cond.code Lib.MathLoose.max_long.x Lib.MathLoose.max_long.code 4 (some .long)]
def wsL_law0_r10 : List Cond := [Cond.methodLink RX0 88 yX0_dueAhead, Cond.instanceMethod yX0_dueAhead, Cond.selects RX0 yX0_dueAhead yX0_dueAhead, Cond.code yX0_dueAhead cX0_dueAhead 4 (some .long), Cond.methodLink RX0 78 yX0_sharesAhead, Cond.instanceMethod yX0_sharesAhead, Cond.selects RX0 yX0_sharesAhead yX0_sharesAhead, Cond.code yX0_sharesAhead cX0_sharesAhead 5 (some .long), Cond.methodLink RX0 70 yX0_shareIn, Cond.instanceMethod yX0_shareIn, Cond.selects RX0 yX0_shareIn yX0_shareIn, Cond.code yX0_shareIn cX0_shareIn 6 (some .long), Cond.constantLong RX0 68 (100), Cond.methodLink RX0 64 yX0_fullIn, Cond.instanceMethod yX0_fullIn, Cond.selects RX0 yX0_fullIn yX0_fullIn, Cond.code yX0_fullIn cX0_fullIn 2 (some .int), Cond.methodLink RX0 74 yX0_protectionMonth, Cond.instanceMethod yX0_protectionMonth, Cond.selects RX0 yX0_protectionMonth yX0_protectionMonth, Cond.code yX0_protectionMonth cX0_protectionMonth 2 (some .int), Cond.methodLink RX0 84 yX0_protectionSum, Cond.instanceMethod yX0_protectionSum, Cond.selects RX0 yX0_protectionSum yX0_protectionSum]
def wsL_law0_r11 : List Cond := [Cond.code yX0_protectionSum cX0_protectionSum 4 (some .long), Cond.methodLink RL 113 yX2_run, Cond.instanceMethod yX2_run, Cond.selects RX2 yX2_run yX2_run, Cond.code yX2_run cX2_run 6 (some .long), Cond.methodLink RX2 109 yX2_upTo, Cond.instanceMethod yX2_upTo, Cond.selects RX2 yX2_upTo yX2_upTo, Cond.code yX2_upTo cX2_upTo 9 (some .long), Cond.methodLink RX2 102 yX2_protectedAt, Cond.instanceMethod yX2_protectedAt, Cond.selects RX2 yX2_protectedAt yX2_protectedAt, Cond.code yX2_protectedAt cX2_protectedAt 6 (some .int), Cond.methodLink RX2 87 yX2_begins, Cond.instanceMethod yX2_begins, Cond.selects RX2 yX2_begins yX2_begins, Cond.code yX2_begins cX2_begins 2 none, Cond.fieldLink RX2 81 "JointAnnuityModel" "full" "I", Cond.fieldLink RX2 84 "JointAnnuityModel" "carry" "I", Cond.methodLink RX2 91 yX2_grows, Cond.instanceMethod yX2_grows, Cond.selects RX2 yX2_grows yX2_grows, Cond.code yX2_grows cX2_grows 5 none, Cond.methodLink RX2 106 yX2_share]
def wsL_law0_r12 : List Cond := [Cond.instanceMethod yX2_share, Cond.selects RX2 yX2_share yX2_share, Cond.code yX2_share cX2_share 5 (some .int), Cond.methodLink RX2 99 yX2_isAlive, Cond.instanceMethod yX2_isAlive, Cond.selects RX2 yX2_isAlive yX2_isAlive, Cond.code yX2_isAlive cX2_isAlive 4 (some .boolean), Cond.methodLink RL 114 yX1_month, Cond.instanceMethod yX1_month, Cond.selects RX1 yX1_month yX1_month, Cond.code yX1_month cX1_month 1 (some .int), Cond.methodLink RL 117 yX2_month, Cond.instanceMethod yX2_month, Cond.selects RX2 yX2_month yX2_month, Cond.code yX2_month cX2_month 1 (some .int), Cond.methodLink RL 118 yL_giveBack, Cond.static yL_giveBack, Cond.codeWith yL_giveBack cL_giveBack 5 (some .int) [(0, 9, 12, 21), (0, 9, 16, 13), (0, 9, 20, 15)], Cond.methodLink RL 45 yX1_giveBack, Cond.instanceMethod yX1_giveBack, Cond.selects RX1 yX1_giveBack yX1_giveBack, Cond.code yX1_giveBack cX1_giveBack 6 (some .long), Cond.constant RX1 88 (100000000), Cond.fieldLink RX1 94 "JointAnnuity$Annuity" "keptInAll" "J"]
def wsL_law0_r13 : List Cond := [Cond.methodLink RX1 89 yX0_debtAhead, Cond.instanceMethod yX0_debtAhead, Cond.selects RX0 yX0_debtAhead yX0_debtAhead, Cond.code yX0_debtAhead cX0_debtAhead 2 (some .long), Cond.methodLink RL 120 yX2_giveBack, Cond.instanceMethod yX2_giveBack, Cond.selects RX2 yX2_giveBack yX2_giveBack, Cond.code yX2_giveBack cX2_giveBack 5 (some .long), Cond.constant RX2 113 (100000000), Cond.methodLink RX2 114 yX2_owed, Cond.instanceMethod yX2_owed, Cond.selects RX2 yX2_owed yX2_owed, Cond.code yX2_owed cX2_owed 4 (some .long), Cond.methodLink RL 121 yL_paid, Cond.static yL_paid, Cond.codeWith yL_paid cL_paid 5 (some .int) [(0, 9, 12, 21), (0, 9, 16, 13)], Cond.methodLink RL 49 yX1_paid, Cond.instanceMethod yX1_paid, Cond.selects RX1 yX1_paid yX1_paid, Cond.code yX1_paid cX1_paid 4 (some .long), Cond.fieldLink RX1 98 "JointAnnuity$Annuity" "payments" "[J", Cond.methodLink RL 123 yX2_paid, Cond.instanceMethod yX2_paid, Cond.selects RX2 yX2_paid yX2_paid]
def wsL_law0_r14 : List Cond := [Cond.code yX2_paid cX2_paid 3 (some .long), Cond.methodLink RL 124 yL_paidInAll, Cond.static yL_paidInAll, Cond.codeWith yL_paidInAll cL_paidInAll 4 (some .int) [(0, 8, 11, 21)], Cond.methodLink RL 52 yX1_paidInAll, Cond.instanceMethod yX1_paidInAll, Cond.selects RX1 yX1_paidInAll yX1_paidInAll, Cond.code yX1_paidInAll cX1_paidInAll 2 (some .long), Cond.methodLink RL 127 yX2_paidInAll, Cond.instanceMethod yX2_paidInAll, Cond.selects RX2 yX2_paidInAll yX2_paidInAll, Cond.code yX2_paidInAll cX2_paidInAll 2 (some .long), Cond.methodLink RL 128 yL_owes, Cond.static yL_owes, Cond.codeWith yL_owes cL_owes 4 (some .int) [(0, 8, 11, 21)], Cond.methodLink RL 56 yX1_owes, Cond.instanceMethod yX1_owes, Cond.selects RX1 yX1_owes yX1_owes, Cond.code yX1_owes cX1_owes 2 (some .long), Cond.methodLink RL 130 yX2_owes, Cond.instanceMethod yX2_owes, Cond.selects RX2 yX2_owes yX2_owes, Cond.code yX2_owes cX2_owes 2 (some .long), Cond.methodLink RL 131 yL_fullAmount]
def wsL_law0_r15 : List Cond := [Cond.static yL_fullAmount, Cond.codeWith yL_fullAmount cL_fullAmount 5 (some .int) [(0, 10, 13, 21), (0, 10, 17, 13)], Cond.methodLink RL 59 yX1_fullAmount, Cond.instanceMethod yX1_fullAmount, Cond.selects RX1 yX1_fullAmount yX1_fullAmount, Cond.code yX1_fullAmount cX1_fullAmount 4 (some .int), Cond.methodLink RX1 102 yX1_requireMonth, Cond.static yX1_requireMonth, Cond.code yX1_requireMonth cX1_requireMonth 1 none, Cond.methodLink RX1 106 yX0_fullIn, Cond.methodLink RL 133 yX2_fullAmount, Cond.instanceMethod yX2_fullAmount, Cond.selects RX2 yX2_fullAmount yX2_fullAmount, Cond.code yX2_fullAmount cX2_fullAmount 4 (some .int), Cond.methodLink RX2 95 yX2_stands, Cond.instanceMethod yX2_stands, Cond.selects RX2 yX2_stands yX2_stands, Cond.code yX2_stands cX2_stands 4 (some .boolean), Cond.methodLink RL 134 yL_carry, Cond.static yL_carry, Cond.codeWith yL_carry cL_carry 5 (some .int) [(0, 10, 13, 21), (0, 10, 17, 13)], Cond.methodLink RL 62 yX1_carry, Cond.instanceMethod yX1_carry, Cond.selects RX1 yX1_carry yX1_carry]
def wsL_law0_r16 : List Cond := [Cond.code yX1_carry cX1_carry 4 (some .int), Cond.methodLink RX1 110 yX0_carryIn, Cond.instanceMethod yX0_carryIn, Cond.selects RX0 yX0_carryIn yX0_carryIn, Cond.code yX0_carryIn cX0_carryIn 2 (some .int), Cond.methodLink RL 136 yX2_carry, Cond.instanceMethod yX2_carry, Cond.selects RX2 yX2_carry yX2_carry, Cond.code yX2_carry cX2_carry 4 (some .int), Cond.methodLink RL 137 yL_entitled, Cond.static yL_entitled, Cond.codeWith yL_entitled cL_entitled 5 (some .int) [(0, 9, 12, 21), (0, 9, 16, 13)], Cond.methodLink RL 65 yX1_entitled, Cond.instanceMethod yX1_entitled, Cond.selects RX1 yX1_entitled yX1_entitled, Cond.code yX1_entitled cX1_entitled 4 (some .long), Cond.methodLink RX1 113 yX0_dueIn, Cond.instanceMethod yX0_dueIn, Cond.selects RX0 yX0_dueIn yX0_dueIn, Cond.code yX0_dueIn cX0_dueIn 4 (some .long), Cond.methodLink RL 139 yX2_entitled, Cond.instanceMethod yX2_entitled, Cond.selects RX2 yX2_entitled yX2_entitled, Cond.code yX2_entitled cX2_entitled 4 (some .long)]
def wsL_law0_r17 : List Cond := [Cond.methodLink RL 140 yL_entitledUpTo, Cond.static yL_entitledUpTo, Cond.codeWith yL_entitledUpTo cL_entitledUpTo 5 (some .int) [(0, 9, 12, 21), (0, 9, 16, 13)], Cond.methodLink RL 68 yX1_entitledUpTo, Cond.instanceMethod yX1_entitledUpTo, Cond.selects RX1 yX1_entitledUpTo yX1_entitledUpTo, Cond.code yX1_entitledUpTo cX1_entitledUpTo 4 (some .long), Cond.methodLink RX1 116 yX0_dueAhead, Cond.methodLink RL 142 yX2_entitledUpTo, Cond.instanceMethod yX2_entitledUpTo, Cond.selects RX2 yX2_entitledUpTo yX2_entitledUpTo, Cond.code yX2_entitledUpTo cX2_entitledUpTo 4 (some .long), Cond.methodLink RL 143 yL_protection, Cond.static yL_protection, Cond.codeWith yL_protection cL_protection 4 (some .int) [(0, 8, 11, 21)], Cond.methodLink RL 71 yX1_protection, Cond.instanceMethod yX1_protection, Cond.selects RX1 yX1_protection yX1_protection, Cond.code yX1_protection cX1_protection 2 (some .long), Cond.methodLink RX1 119 yX0_protectionSum, Cond.methodLink RL 145 yX2_protection, Cond.instanceMethod yX2_protection, Cond.selects RX2 yX2_protection yX2_protection, Cond.code yX2_protection cX2_protection 7 (some .long)]
def wsL_law0 : List Cond := (wsL_law0_r1 ++ (wsL_law0_r2 ++ (wsL_law0_r3 ++ (wsL_law0_r4 ++ (wsL_law0_r5 ++ (wsL_law0_r6 ++ (wsL_law0_r7 ++ (wsL_law0_r8 ++ (wsL_law0_r9 ++ (wsL_law0_r10 ++ (wsL_law0_r11 ++ (wsL_law0_r12 ++ (wsL_law0_r13 ++ (wsL_law0_r14 ++ (wsL_law0_r15 ++ (wsL_law0_r16 ++ wsL_law0_r17)))))))))))))))) ++ wsX10 ++ wsX20 ++ wsX00 ++ ([] : List Cond)
def wsL_law : List Cond := wsL_law0 ++ (vx_atS RX1 35 "java/lang/IllegalStateException" ["java/lang/RuntimeException", "java/lang/Exception"]).filter goodWord ++ (vx_atS RX1 137 "java/lang/IllegalArgumentException" ["java/lang/RuntimeException", "java/lang/Exception"]).filter goodWord ++ (vx_atS RX1 127 "java/lang/IndexOutOfBoundsException" ["java/lang/RuntimeException", "java/lang/Exception"]).filter goodWord
end
section
set_option maxRecDepth 20000 in
theorem in_wsL_law0_r1 : ∀ w ∈ wsL_law0_r1, w ∈ lw_tbl := fun w h => (goodIn_p wsL_law0_r1 [32, 35, 417] (by decide +kernel) (by decide +kernel) w h).1
set_option maxRecDepth 20000 in
theorem in_wsL_law0_r2 : ∀ w ∈ wsL_law0_r2, w ∈ lw_tbl := fun w h => (goodIn_p wsL_law0_r2 [64] (by decide +kernel) (by decide +kernel) w h).1
set_option maxRecDepth 20000 in
theorem in_wsL_law0_r3 : ∀ w ∈ wsL_law0_r3, w ∈ lw_tbl := fun w h => (goodIn_p wsL_law0_r3 [67, 156] (by decide +kernel) (by decide +kernel) w h).1
set_option maxRecDepth 20000 in
theorem in_wsL_law0_r4 : ∀ w ∈ wsL_law0_r4, w ∈ lw_tbl := fun w h => (goodIn_p wsL_law0_r4 [211, 214, 217, 482, 485] (by decide +kernel) (by decide +kernel) w h).1
set_option maxRecDepth 20000 in
theorem in_wsL_law0_r5 : ∀ w ∈ wsL_law0_r5, w ∈ lw_tbl := fun w h => (goodIn_p wsL_law0_r5 [490, 478, 225, 229] (by decide +kernel) (by decide +kernel) w h).1
set_option maxRecDepth 20000 in
theorem in_wsL_law0_r6 : ∀ w ∈ wsL_law0_r6, w ∈ lw_tbl := fun w h => (goodIn_p wsL_law0_r6 [249, 494, 498, 502, 257] (by decide +kernel) (by decide +kernel) w h).1
set_option maxRecDepth 20000 in
theorem in_wsL_law0_r7 : ∀ w ∈ wsL_law0_r7, w ∈ lw_tbl := fun w h => (goodIn_p wsL_law0_r7 [506, 264, 510] (by decide +kernel) (by decide +kernel) w h).1
set_option maxRecDepth 20000 in
theorem in_wsL_law0_r8 : ∀ w ∈ wsL_law0_r8, w ∈ lw_tbl := fun w h => (goodIn_p wsL_law0_r8 [272, 515, 279, 519, 522] (by decide +kernel) (by decide +kernel) w h).1
set_option maxRecDepth 20000 in
theorem in_wsL_law0_r9 : ∀ w ∈ wsL_law0_r9, w ∈ lw_tbl := fun w h => (goodIn_p wsL_law0_r9 [288, 526, 296, 301, 329] (by decide +kernel) (by decide +kernel) w h).1
set_option maxRecDepth 20000 in
theorem in_wsL_law0_r10 : ∀ w ∈ wsL_law0_r10, w ∈ lw_tbl := fun w h => (goodIn_p wsL_law0_r10 [305, 309, 313, 317, 322] (by decide +kernel) (by decide +kernel) w h).1
set_option maxRecDepth 20000 in
theorem in_wsL_law0_r11 : ∀ w ∈ wsL_law0_r11, w ∈ lw_tbl := fun w h => (goodIn_p wsL_law0_r11 [326, 578, 554, 558, 538, 542] (by decide +kernel) (by decide +kernel) w h).1
set_option maxRecDepth 20000 in
theorem in_wsL_law0_r12 : ∀ w ∈ wsL_law0_r12, w ∈ lw_tbl := fun w h => (goodIn_p wsL_law0_r12 [562, 566, 55, 582, 336] (by decide +kernel) (by decide +kernel) w h).1
set_option maxRecDepth 20000 in
theorem in_wsL_law0_r13 : ∀ w ∈ wsL_law0_r13, w ∈ lw_tbl := fun w h => (goodIn_p wsL_law0_r13 [341, 586, 591, 349] (by decide +kernel) (by decide +kernel) w h).1
set_option maxRecDepth 20000 in
theorem in_wsL_law0_r14 : ∀ w ∈ wsL_law0_r14, w ∈ lw_tbl := fun w h => (goodIn_p wsL_law0_r14 [595, 356, 599, 363, 603] (by decide +kernel) (by decide +kernel) w h).1
set_option maxRecDepth 20000 in
theorem in_wsL_law0_r15 : ∀ w ∈ wsL_law0_r15, w ∈ lw_tbl := fun w h => (goodIn_p wsL_law0_r15 [370, 373, 530, 534] (by decide +kernel) (by decide +kernel) w h).1
set_option maxRecDepth 20000 in
theorem in_wsL_law0_r16 : ∀ w ∈ wsL_law0_r16, w ∈ lw_tbl := fun w h => (goodIn_p wsL_law0_r16 [381, 385, 546, 392, 396, 550] (by decide +kernel) (by decide +kernel) w h).1
set_option maxRecDepth 20000 in
theorem in_wsL_law0_r17 : ∀ w ∈ wsL_law0_r17, w ∈ lw_tbl := fun w h => (goodIn_p wsL_law0_r17 [403, 570, 411, 574] (by decide +kernel) (by decide +kernel) w h).1
set_option maxRecDepth 20000 in
theorem in_wsX10 : ∀ w ∈ wsX10, w ∈ lw_tbl := by decide +kernel
set_option maxRecDepth 20000 in
theorem in_wsX20 : ∀ w ∈ wsX20, w ∈ lw_tbl := by decide +kernel
set_option maxRecDepth 20000 in
theorem in_wsX00 : ∀ w ∈ wsX00, w ∈ lw_tbl := by decide +kernel
theorem in_app {a b c : List Cond} (h1 : ∀ w ∈ a, w ∈ c) (h2 : ∀ w ∈ b, w ∈ c) : ∀ w ∈ a ++ b, w ∈ c := fun w h => (List.mem_append.mp h).elim (h1 w) (h2 w)
theorem wsL_law_in0 : ∀ w ∈ wsL_law0, w ∈ lw_tbl := in_app (in_app (in_app (in_app (in_app in_wsL_law0_r1 (in_app in_wsL_law0_r2 (in_app in_wsL_law0_r3 (in_app in_wsL_law0_r4 (in_app in_wsL_law0_r5 (in_app in_wsL_law0_r6 (in_app in_wsL_law0_r7 (in_app in_wsL_law0_r8 (in_app in_wsL_law0_r9 (in_app in_wsL_law0_r10 (in_app in_wsL_law0_r11 (in_app in_wsL_law0_r12 (in_app in_wsL_law0_r13 (in_app in_wsL_law0_r14 (in_app in_wsL_law0_r15 (in_app in_wsL_law0_r16 (in_wsL_law0_r17))))))))))))))))) in_wsX10) in_wsX20) in_wsX00) (fun _ h => absurd h List.not_mem_nil)
theorem wsL_law_x0 : ∀ w ∈ (vx_atS RX1 35 "java/lang/IllegalStateException" ["java/lang/RuntimeException", "java/lang/Exception"]).filter goodWord, w ∈ lw_tbl := by decide +kernel
theorem wsL_law_x1 : ∀ w ∈ (vx_atS RX1 137 "java/lang/IllegalArgumentException" ["java/lang/RuntimeException", "java/lang/Exception"]).filter goodWord, w ∈ lw_tbl := by decide +kernel
theorem wsL_law_x2 : ∀ w ∈ (vx_atS RX1 127 "java/lang/IndexOutOfBoundsException" ["java/lang/RuntimeException", "java/lang/Exception"]).filter goodWord, w ∈ lw_tbl := by decide +kernel
theorem wsL_law_in : ∀ w ∈ wsL_law, w ∈ lw_tbl := fun w h => (List.mem_append.mp h).elim (fun h => (List.mem_append.mp h).elim (fun h => (List.mem_append.mp h).elim (fun h => wsL_law_in0 w h) (fun h => wsL_law_x0 w h)) (fun h => wsL_law_x1 w h)) (fun h => wsL_law_x2 w h)
theorem inlX0 : ∀ w ∈ wsX00, w ∈ wsL_law := fun _ h => List.mem_append_left _ (List.mem_append_left _ (List.mem_append_left _ (List.mem_append_left _ (List.mem_append_right _ h))))
theorem inX0 : ∀ w ∈ wsX00, w ∈ lw_tbl := fun w h => wsL_law_in w (inlX0 w h)
theorem inlX1 : ∀ w ∈ wsX10, w ∈ wsL_law := fun _ h => List.mem_append_left _ (List.mem_append_left _ (List.mem_append_left _ (List.mem_append_left _ (List.mem_append_left _ (List.mem_append_left _ (List.mem_append_right _ h))))))
theorem inX1 : ∀ w ∈ wsX10, w ∈ lw_tbl := fun w h => wsL_law_in w (inlX1 w h)
theorem inlX2 : ∀ w ∈ wsX20, w ∈ wsL_law := fun _ h => List.mem_append_left _ (List.mem_append_left _ (List.mem_append_left _ (List.mem_append_left _ (List.mem_append_left _ (List.mem_append_right _ h)))))
theorem inX2 : ∀ w ∈ wsX20, w ∈ lw_tbl := fun w h => wsL_law_in w (inlX2 w h)
theorem inJ9 : ∀ w ∈ wsJ90, w ∈ lw_tbl := by decide +kernel
end
section
theorem inJ0 : ∀ w ∈ wsJ00, w ∈ lw_tbl := by decide +kernel
theorem dX0_init_0 : decode cX0_init 0 = .ok (.aload_n 0, 1) := by decide +kernel
theorem dX0_init_1 : decode cX0_init 1 = .ok (.invokespecial 3, 3) := by decide +kernel
theorem dX0_init_4 : decode cX0_init 4 = .ok (.aload_n 0, 1) := by decide +kernel
theorem dX0_init_5 : decode cX0_init 5 = .ok (.iload_n 1, 1) := by decide +kernel
theorem dX0_init_6 : decode cX0_init 6 = .ok (.putfield 9, 3) := by decide +kernel
theorem dX0_init_9 : decode cX0_init 9 = .ok (.aload_n 0, 1) := by decide +kernel
theorem dX0_init_10 : decode cX0_init 10 = .ok (.iload_n 2, 1) := by decide +kernel
theorem dX0_init_11 : decode cX0_init 11 = .ok (.putfield 15, 3) := by decide +kernel
theorem dX0_init_14 : decode cX0_init 14 = .ok (.aload_n 0, 1) := by decide +kernel
theorem dX0_init_15 : decode cX0_init 15 = .ok (.iload_n 1, 1) := by decide +kernel
theorem dX0_init_16 : decode cX0_init 16 = .ok (.iload_n 3, 1) := by decide +kernel
theorem dX0_init_17 : decode cX0_init 17 = .ok (.iadd, 1) := by decide +kernel
theorem dX0_init_18 : decode cX0_init 18 = .ok (.putfield 18, 3) := by decide +kernel
theorem dX0_init_21 : decode cX0_init 21 = .ok (.aload_n 0, 1) := by decide +kernel
theorem dX0_init_22 : decode cX0_init 22 = .ok (.bipush 100, 2) := by decide +kernel
theorem dX0_init_24 : decode cX0_init 24 = .ok (.putfield 21, 3) := by decide +kernel
theorem dX0_init_27 : decode cX0_init 27 = .ok (.aload_n 0, 1) := by decide +kernel
theorem dX0_init_28 : decode cX0_init 28 = .ok (.iconst 0, 1) := by decide +kernel
theorem dX0_init_29 : decode cX0_init 29 = .ok (.putfield 24, 3) := by decide +kernel
theorem dX0_init_32 : decode cX0_init 32 = .ok (.aload_n 0, 1) := by decide +kernel
theorem dX0_init_33 : decode cX0_init 33 = .ok (.iconst 0, 1) := by decide +kernel
theorem dX0_init_34 : decode cX0_init 34 = .ok (.putfield 28, 3) := by decide +kernel
theorem dX0_init_37 : decode cX0_init 37 = .ok (.aload_n 0, 1) := by decide +kernel
theorem dX0_init_38 : decode cX0_init 38 = .ok (.iconst 0, 1) := by decide +kernel
theorem dX0_init_39 : decode cX0_init 39 = .ok (.putfield 31, 3) := by decide +kernel
theorem dX0_init_42 : decode cX0_init 42 = .ok (.aload_n 0, 1) := by decide +kernel
theorem dX0_init_43 : decode cX0_init 43 = .ok (.iconst 0, 1) := by decide +kernel
theorem dX0_init_44 : decode cX0_init 44 = .ok (.putfield 34, 3) := by decide +kernel
theorem dX0_init_47 : decode cX0_init 47 = .ok (.aload_n 0, 1) := by decide +kernel
theorem dX0_init_48 : decode cX0_init 48 = .ok (.iconst 2, 1) := by decide +kernel
theorem dX0_init_49 : decode cX0_init 49 = .ok (.newarray .int, 2) := by decide +kernel
theorem dX0_init_51 : decode cX0_init 51 = .ok (.dup, 1) := by decide +kernel
theorem dX0_init_52 : decode cX0_init 52 = .ok (.iconst 0, 1) := by decide +kernel
theorem dX0_init_53 : decode cX0_init 53 = .ok (.sipush 240, 3) := by decide +kernel
theorem dX0_init_56 : decode cX0_init 56 = .ok (.iastore, 1) := by decide +kernel
theorem dX0_init_57 : decode cX0_init 57 = .ok (.dup, 1) := by decide +kernel
theorem dX0_init_58 : decode cX0_init 58 = .ok (.iconst 1, 1) := by decide +kernel
theorem dX0_init_59 : decode cX0_init 59 = .ok (.sipush 240, 3) := by decide +kernel
theorem dX0_init_62 : decode cX0_init 62 = .ok (.iastore, 1) := by decide +kernel
theorem dX0_init_63 : decode cX0_init 63 = .ok (.putfield 37, 3) := by decide +kernel
theorem dX0_init_66 : decode cX0_init 66 = .ok (.aload_n 0, 1) := by decide +kernel
theorem dX0_init_67 : decode cX0_init 67 = .ok (.bipush 20, 2) := by decide +kernel
theorem dX0_init_69 : decode cX0_init 69 = .ok (.newarray .int, 2) := by decide +kernel
theorem dX0_init_71 : decode cX0_init 71 = .ok (.putfield 41, 3) := by decide +kernel
theorem dX0_init_74 : decode cX0_init 74 = .ok (.aload_n 0, 1) := by decide +kernel
theorem dX0_init_75 : decode cX0_init 75 = .ok (.bipush 20, 2) := by decide +kernel
theorem dX0_init_77 : decode cX0_init 77 = .ok (.newarray .int, 2) := by decide +kernel
theorem dX0_init_79 : decode cX0_init 79 = .ok (.putfield 44, 3) := by decide +kernel
theorem dX0_init_82 : decode cX0_init 82 = .ok (.aload_n 0, 1) := by decide +kernel
theorem dX0_init_83 : decode cX0_init 83 = .ok (.sipush 240, 3) := by decide +kernel
theorem dX0_init_86 : decode cX0_init 86 = .ok (.newarray .long, 2) := by decide +kernel
theorem dX0_init_88 : decode cX0_init 88 = .ok (.putfield 47, 3) := by decide +kernel
theorem dX0_init_91 : decode cX0_init 91 = .ok (.aload_n 0, 1) := by decide +kernel
theorem dX0_init_92 : decode cX0_init 92 = .ok (.lconst 0, 1) := by decide +kernel
theorem dX0_init_93 : decode cX0_init 93 = .ok (.putfield 51, 3) := by decide +kernel
theorem dX0_init_96 : decode cX0_init 96 = .ok (.return_, 1) := by decide +kernel
theorem dX0_growBy_0 : decode cX0_growBy 0 = .ok (.aload_n 0, 1) := by decide +kernel
theorem dX0_growBy_1 : decode cX0_growBy 1 = .ok (.getfield 15, 3) := by decide +kernel
theorem dX0_growBy_4 : decode cX0_growBy 4 = .ok (.istore_n 2, 1) := by decide +kernel
theorem dX0_growBy_5 : decode cX0_growBy 5 = .ok (.iconst 0, 1) := by decide +kernel
theorem dX0_growBy_6 : decode cX0_growBy 6 = .ok (.istore_n 3, 1) := by decide +kernel
theorem dX0_growBy_7 : decode cX0_growBy 7 = .ok (.aload_n 0, 1) := by decide +kernel
theorem dX0_growBy_8 : decode cX0_growBy 8 = .ok (.getfield 41, 3) := by decide +kernel
theorem dX0_growBy_11 : decode cX0_growBy 11 = .ok (.iconst 0, 1) := by decide +kernel
theorem dX0_growBy_12 : decode cX0_growBy 12 = .ok (.iload_n 2, 1) := by decide +kernel
theorem dX0_growBy_13 : decode cX0_growBy 13 = .ok (.iastore, 1) := by decide +kernel
theorem dX0_growBy_14 : decode cX0_growBy 14 = .ok (.aload_n 0, 1) := by decide +kernel
theorem dX0_growBy_15 : decode cX0_growBy 15 = .ok (.getfield 44, 3) := by decide +kernel
theorem dX0_growBy_18 : decode cX0_growBy 18 = .ok (.iconst 0, 1) := by decide +kernel
theorem dX0_growBy_19 : decode cX0_growBy 19 = .ok (.iload_n 3, 1) := by decide +kernel
theorem dX0_growBy_20 : decode cX0_growBy 20 = .ok (.iastore, 1) := by decide +kernel
theorem dX0_growBy_21 : decode cX0_growBy 21 = .ok (.iconst 1, 1) := by decide +kernel
theorem dX0_growBy_22 : decode cX0_growBy 22 = .ok (.istore 4, 2) := by decide +kernel
theorem dX0_growBy_24 : decode cX0_growBy 24 = .ok (.iload 4, 2) := by decide +kernel
theorem dX0_growBy_26 : decode cX0_growBy 26 = .ok (.bipush 20, 2) := by decide +kernel
theorem dX0_growBy_28 : decode cX0_growBy 28 = .ok (.if_icmp .ge 86, 3) := by decide +kernel
theorem dX0_growBy_31 : decode cX0_growBy 31 = .ok (.aload_n 0, 1) := by decide +kernel
theorem dX0_growBy_32 : decode cX0_growBy 32 = .ok (.getfield 9, 3) := by decide +kernel
theorem dX0_growBy_35 : decode cX0_growBy 35 = .ok (.bipush 12, 2) := by decide +kernel
theorem dX0_growBy_37 : decode cX0_growBy 37 = .ok (.idiv, 1) := by decide +kernel
theorem dX0_growBy_38 : decode cX0_growBy 38 = .ok (.iload 4, 2) := by decide +kernel
theorem dX0_growBy_40 : decode cX0_growBy 40 = .ok (.iadd, 1) := by decide +kernel
theorem dX0_growBy_41 : decode cX0_growBy 41 = .ok (.iconst 1, 1) := by decide +kernel
theorem dX0_growBy_42 : decode cX0_growBy 42 = .ok (.isub, 1) := by decide +kernel
theorem dX0_growBy_43 : decode cX0_growBy 43 = .ok (.istore 5, 2) := by decide +kernel
theorem dX0_growBy_45 : decode cX0_growBy 45 = .ok (.iload 5, 2) := by decide +kernel
theorem dX0_growBy_47 : decode cX0_growBy 47 = .ok (.aload_n 1, 1) := by decide +kernel
theorem dX0_growBy_48 : decode cX0_growBy 48 = .ok (.arraylength, 1) := by decide +kernel
theorem dX0_growBy_49 : decode cX0_growBy 49 = .ok (.if_icmp .ge 43, 3) := by decide +kernel
theorem dX0_growBy_52 : decode cX0_growBy 52 = .ok (.aload_n 1, 1) := by decide +kernel
theorem dX0_growBy_53 : decode cX0_growBy 53 = .ok (.iload 5, 2) := by decide +kernel
theorem dX0_growBy_55 : decode cX0_growBy 55 = .ok (.iaload, 1) := by decide +kernel
theorem dX0_growBy_56 : decode cX0_growBy 56 = .ok (.iload_n 3, 1) := by decide +kernel
theorem dX0_growBy_57 : decode cX0_growBy 57 = .ok (.iadd, 1) := by decide +kernel
theorem dX0_growBy_58 : decode cX0_growBy 58 = .ok (.istore 6, 2) := by decide +kernel
theorem dX0_growBy_60 : decode cX0_growBy 60 = .ok (.iconst 0, 1) := by decide +kernel
theorem dX0_growBy_61 : decode cX0_growBy 61 = .ok (.iload 6, 2) := by decide +kernel
theorem dX0_growBy_63 : decode cX0_growBy 63 = .ok (.aload_n 0, 1) := by decide +kernel
theorem dX0_growBy_64 : decode cX0_growBy 64 = .ok (.getfield 28, 3) := by decide +kernel
theorem dX0_growBy_67 : decode cX0_growBy 67 = .ok (.invokestatic 55, 3) := by decide +kernel
theorem dX0_growBy_70 : decode cX0_growBy 70 = .ok (.invokestatic 61, 3) := by decide +kernel
theorem dX0_growBy_73 : decode cX0_growBy 73 = .ok (.istore 7, 2) := by decide +kernel
theorem dX0_growBy_75 : decode cX0_growBy 75 = .ok (.iload 6, 2) := by decide +kernel
theorem dX0_growBy_77 : decode cX0_growBy 77 = .ok (.iload 7, 2) := by decide +kernel
theorem dX0_growBy_79 : decode cX0_growBy 79 = .ok (.isub, 1) := by decide +kernel
theorem dX0_growBy_80 : decode cX0_growBy 80 = .ok (.istore_n 3, 1) := by decide +kernel
theorem dX0_growBy_81 : decode cX0_growBy 81 = .ok (.iload_n 2, 1) := by decide +kernel
theorem dX0_growBy_82 : decode cX0_growBy 82 = .ok (.iload_n 2, 1) := by decide +kernel
theorem dX0_growBy_83 : decode cX0_growBy 83 = .ok (.iload 7, 2) := by decide +kernel
theorem dX0_growBy_85 : decode cX0_growBy 85 = .ok (.imul, 1) := by decide +kernel
theorem dX0_growBy_86 : decode cX0_growBy 86 = .ok (.sipush 1000, 3) := by decide +kernel
theorem dX0_growBy_89 : decode cX0_growBy 89 = .ok (.idiv, 1) := by decide +kernel
theorem dX0_growBy_90 : decode cX0_growBy 90 = .ok (.iadd, 1) := by decide +kernel
theorem dX0_growBy_91 : decode cX0_growBy 91 = .ok (.istore_n 2, 1) := by decide +kernel
theorem dX0_growBy_92 : decode cX0_growBy 92 = .ok (.aload_n 0, 1) := by decide +kernel
theorem dX0_growBy_93 : decode cX0_growBy 93 = .ok (.getfield 41, 3) := by decide +kernel
theorem dX0_growBy_96 : decode cX0_growBy 96 = .ok (.iload 4, 2) := by decide +kernel
theorem dX0_growBy_98 : decode cX0_growBy 98 = .ok (.iload_n 2, 1) := by decide +kernel
theorem dX0_growBy_99 : decode cX0_growBy 99 = .ok (.iastore, 1) := by decide +kernel
theorem dX0_growBy_100 : decode cX0_growBy 100 = .ok (.aload_n 0, 1) := by decide +kernel
theorem dX0_growBy_101 : decode cX0_growBy 101 = .ok (.getfield 44, 3) := by decide +kernel
theorem dX0_growBy_104 : decode cX0_growBy 104 = .ok (.iload 4, 2) := by decide +kernel
theorem dX0_growBy_106 : decode cX0_growBy 106 = .ok (.iload_n 3, 1) := by decide +kernel
theorem dX0_growBy_107 : decode cX0_growBy 107 = .ok (.iastore, 1) := by decide +kernel
theorem dX0_growBy_108 : decode cX0_growBy 108 = .ok (.iinc 4 1, 3) := by decide +kernel
theorem dX0_growBy_111 : decode cX0_growBy 111 = .ok (.goto (-87), 3) := by decide +kernel
theorem dX0_growBy_114 : decode cX0_growBy 114 = .ok (.return_, 1) := by decide +kernel
theorem dX0_fullIn_0 : decode cX0_fullIn 0 = .ok (.iload_n 1, 1) := by decide +kernel
theorem dX0_fullIn_1 : decode cX0_fullIn 1 = .ok (.aload_n 0, 1) := by decide +kernel
theorem dX0_fullIn_2 : decode cX0_fullIn 2 = .ok (.getfield 9, 3) := by decide +kernel
theorem dX0_fullIn_5 : decode cX0_fullIn 5 = .ok (.if_icmp .ge 7, 3) := by decide +kernel
theorem dX0_fullIn_8 : decode cX0_fullIn 8 = .ok (.iconst 0, 1) := by decide +kernel
theorem dX0_fullIn_9 : decode cX0_fullIn 9 = .ok (.goto 17, 3) := by decide +kernel
theorem dX0_fullIn_12 : decode cX0_fullIn 12 = .ok (.aload_n 0, 1) := by decide +kernel
theorem dX0_fullIn_13 : decode cX0_fullIn 13 = .ok (.getfield 41, 3) := by decide +kernel
theorem dX0_fullIn_16 : decode cX0_fullIn 16 = .ok (.iload_n 1, 1) := by decide +kernel
theorem dX0_fullIn_17 : decode cX0_fullIn 17 = .ok (.aload_n 0, 1) := by decide +kernel
theorem dX0_fullIn_18 : decode cX0_fullIn 18 = .ok (.getfield 9, 3) := by decide +kernel
theorem dX0_fullIn_21 : decode cX0_fullIn 21 = .ok (.isub, 1) := by decide +kernel
theorem dX0_fullIn_22 : decode cX0_fullIn 22 = .ok (.bipush 12, 2) := by decide +kernel
theorem dX0_fullIn_24 : decode cX0_fullIn 24 = .ok (.idiv, 1) := by decide +kernel
theorem dX0_fullIn_25 : decode cX0_fullIn 25 = .ok (.iaload, 1) := by decide +kernel
theorem dX0_fullIn_26 : decode cX0_fullIn 26 = .ok (.ireturn, 1) := by decide +kernel
theorem dX0_carryIn_0 : decode cX0_carryIn 0 = .ok (.iload_n 1, 1) := by decide +kernel
theorem dX0_carryIn_1 : decode cX0_carryIn 1 = .ok (.aload_n 0, 1) := by decide +kernel
theorem dX0_carryIn_2 : decode cX0_carryIn 2 = .ok (.getfield 9, 3) := by decide +kernel
theorem dX0_carryIn_5 : decode cX0_carryIn 5 = .ok (.if_icmp .ge 7, 3) := by decide +kernel
theorem dX0_carryIn_8 : decode cX0_carryIn 8 = .ok (.iconst 0, 1) := by decide +kernel
theorem dX0_carryIn_9 : decode cX0_carryIn 9 = .ok (.goto 17, 3) := by decide +kernel
theorem dX0_carryIn_12 : decode cX0_carryIn 12 = .ok (.aload_n 0, 1) := by decide +kernel
theorem dX0_carryIn_13 : decode cX0_carryIn 13 = .ok (.getfield 44, 3) := by decide +kernel
theorem dX0_carryIn_16 : decode cX0_carryIn 16 = .ok (.iload_n 1, 1) := by decide +kernel
theorem dX0_carryIn_17 : decode cX0_carryIn 17 = .ok (.aload_n 0, 1) := by decide +kernel
theorem dX0_carryIn_18 : decode cX0_carryIn 18 = .ok (.getfield 9, 3) := by decide +kernel
theorem dX0_carryIn_21 : decode cX0_carryIn 21 = .ok (.isub, 1) := by decide +kernel
theorem dX0_carryIn_22 : decode cX0_carryIn 22 = .ok (.bipush 12, 2) := by decide +kernel
theorem dX0_carryIn_24 : decode cX0_carryIn 24 = .ok (.idiv, 1) := by decide +kernel
theorem dX0_carryIn_25 : decode cX0_carryIn 25 = .ok (.iaload, 1) := by decide +kernel
theorem dX0_carryIn_26 : decode cX0_carryIn 26 = .ok (.ireturn, 1) := by decide +kernel
set_option maxRecDepth 20000 in
theorem ggX0_shareIn_X0_fullIn : GoodIn wsX0_shareIn wsX0_fullIn := goodIn_r _ [11, 1, 12, 13, 14, 15, 16, 17, 18, 19, 20, 21, 22, 23, 24, 25] (by decide +kernel) (by decide +kernel)
set_option maxRecDepth 20000 in
theorem gX0_shareIn_X0_fullIn : GoodIn wsX0_shareIn (wsV RX0 64 RX0 yX0_fullIn wsX0_fullIn) := goodIn_app (goodIn_of _ (by decide +kernel)) ggX0_shareIn_X0_fullIn
theorem dX0_shareIn_0 : decode cX0_shareIn 0 = .ok (.iload_n 1, 1) := by decide +kernel
theorem dX0_shareIn_1 : decode cX0_shareIn 1 = .ok (.aload_n 0, 1) := by decide +kernel
theorem dX0_shareIn_2 : decode cX0_shareIn 2 = .ok (.getfield 9, 3) := by decide +kernel
theorem dX0_shareIn_5 : decode cX0_shareIn 5 = .ok (.if_icmp .ge 5, 3) := by decide +kernel
theorem dX0_shareIn_8 : decode cX0_shareIn 8 = .ok (.lconst 0, 1) := by decide +kernel
theorem dX0_shareIn_9 : decode cX0_shareIn 9 = .ok (.lreturn, 1) := by decide +kernel
theorem dX0_shareIn_10 : decode cX0_shareIn 10 = .ok (.aload_n 0, 1) := by decide +kernel
theorem dX0_shareIn_11 : decode cX0_shareIn 11 = .ok (.iload_n 1, 1) := by decide +kernel
theorem dX0_shareIn_12 : decode cX0_shareIn 12 = .ok (.invokevirtual 64, 3) := by decide +kernel
theorem dX0_shareIn_15 : decode cX0_shareIn 15 = .ok (.i2l, 1) := by decide +kernel
theorem dX0_shareIn_16 : decode cX0_shareIn 16 = .ok (.lstore_n 2, 1) := by decide +kernel
theorem dX0_shareIn_17 : decode cX0_shareIn 17 = .ok (.iload_n 1, 1) := by decide +kernel
theorem dX0_shareIn_18 : decode cX0_shareIn 18 = .ok (.aload_n 0, 1) := by decide +kernel
theorem dX0_shareIn_19 : decode cX0_shareIn 19 = .ok (.getfield 37, 3) := by decide +kernel
theorem dX0_shareIn_22 : decode cX0_shareIn 22 = .ok (.iconst 0, 1) := by decide +kernel
theorem dX0_shareIn_23 : decode cX0_shareIn 23 = .ok (.iaload, 1) := by decide +kernel
theorem dX0_shareIn_24 : decode cX0_shareIn 24 = .ok (.if_icmp .gt 7, 3) := by decide +kernel
theorem dX0_shareIn_27 : decode cX0_shareIn 27 = .ok (.iconst 1, 1) := by decide +kernel
theorem dX0_shareIn_28 : decode cX0_shareIn 28 = .ok (.goto 4, 3) := by decide +kernel
theorem dX0_shareIn_31 : decode cX0_shareIn 31 = .ok (.iconst 0, 1) := by decide +kernel
theorem dX0_shareIn_32 : decode cX0_shareIn 32 = .ok (.istore 4, 2) := by decide +kernel
theorem dX0_shareIn_34 : decode cX0_shareIn 34 = .ok (.iload_n 1, 1) := by decide +kernel
theorem dX0_shareIn_35 : decode cX0_shareIn 35 = .ok (.aload_n 0, 1) := by decide +kernel
theorem dX0_shareIn_36 : decode cX0_shareIn 36 = .ok (.getfield 37, 3) := by decide +kernel
theorem dX0_shareIn_39 : decode cX0_shareIn 39 = .ok (.iconst 1, 1) := by decide +kernel
theorem dX0_shareIn_40 : decode cX0_shareIn 40 = .ok (.iaload, 1) := by decide +kernel
theorem dX0_shareIn_41 : decode cX0_shareIn 41 = .ok (.if_icmp .gt 7, 3) := by decide +kernel
theorem dX0_shareIn_44 : decode cX0_shareIn 44 = .ok (.iconst 1, 1) := by decide +kernel
theorem dX0_shareIn_45 : decode cX0_shareIn 45 = .ok (.goto 4, 3) := by decide +kernel
theorem dX0_shareIn_48 : decode cX0_shareIn 48 = .ok (.iconst 0, 1) := by decide +kernel
theorem dX0_shareIn_49 : decode cX0_shareIn 49 = .ok (.istore 5, 2) := by decide +kernel
theorem dX0_shareIn_51 : decode cX0_shareIn 51 = .ok (.iload_n 1, 1) := by decide +kernel
theorem dX0_shareIn_52 : decode cX0_shareIn 52 = .ok (.aload_n 0, 1) := by decide +kernel
theorem dX0_shareIn_53 : decode cX0_shareIn 53 = .ok (.getfield 18, 3) := by decide +kernel
theorem dX0_shareIn_56 : decode cX0_shareIn 56 = .ok (.if_icmp .lt 13, 3) := by decide +kernel
theorem dX0_shareIn_59 : decode cX0_shareIn 59 = .ok (.iload 4, 2) := by decide +kernel
theorem dX0_shareIn_61 : decode cX0_shareIn 61 = .ok (.ifCond .eq 10, 3) := by decide +kernel
theorem dX0_shareIn_64 : decode cX0_shareIn 64 = .ok (.iload 5, 2) := by decide +kernel
theorem dX0_shareIn_66 : decode cX0_shareIn 66 = .ok (.ifCond .eq 5, 3) := by decide +kernel
theorem dX0_shareIn_69 : decode cX0_shareIn 69 = .ok (.lload_n 2, 1) := by decide +kernel
theorem dX0_shareIn_70 : decode cX0_shareIn 70 = .ok (.lreturn, 1) := by decide +kernel
theorem dX0_shareIn_71 : decode cX0_shareIn 71 = .ok (.iload 4, 2) := by decide +kernel
theorem dX0_shareIn_73 : decode cX0_shareIn 73 = .ok (.ifCond .eq 12, 3) := by decide +kernel
theorem dX0_shareIn_76 : decode cX0_shareIn 76 = .ok (.aload_n 0, 1) := by decide +kernel
theorem dX0_shareIn_77 : decode cX0_shareIn 77 = .ok (.getfield 24, 3) := by decide +kernel
theorem dX0_shareIn_80 : decode cX0_shareIn 80 = .ok (.ifCond .ne 5, 3) := by decide +kernel
theorem dX0_shareIn_83 : decode cX0_shareIn 83 = .ok (.lload_n 2, 1) := by decide +kernel
theorem dX0_shareIn_84 : decode cX0_shareIn 84 = .ok (.lreturn, 1) := by decide +kernel
theorem dX0_shareIn_85 : decode cX0_shareIn 85 = .ok (.iload 4, 2) := by decide +kernel
theorem dX0_shareIn_87 : decode cX0_shareIn 87 = .ok (.ifCond .ne 8, 3) := by decide +kernel
theorem dX0_shareIn_90 : decode cX0_shareIn 90 = .ok (.iload 5, 2) := by decide +kernel
theorem dX0_shareIn_92 : decode cX0_shareIn 92 = .ok (.ifCond .eq 17, 3) := by decide +kernel
theorem dX0_shareIn_95 : decode cX0_shareIn 95 = .ok (.lload_n 2, 1) := by decide +kernel
theorem dX0_shareIn_96 : decode cX0_shareIn 96 = .ok (.aload_n 0, 1) := by decide +kernel
theorem dX0_shareIn_97 : decode cX0_shareIn 97 = .ok (.getfield 21, 3) := by decide +kernel
theorem dX0_shareIn_100 : decode cX0_shareIn 100 = .ok (.i2l, 1) := by decide +kernel
theorem dX0_shareIn_101 : decode cX0_shareIn 101 = .ok (.lmul, 1) := by decide +kernel
theorem dX0_shareIn_102 : decode cX0_shareIn 102 = .ok (.ldc2_w 68, 3) := by decide +kernel
theorem dX0_shareIn_105 : decode cX0_shareIn 105 = .ok (.ldiv, 1) := by decide +kernel
theorem dX0_shareIn_106 : decode cX0_shareIn 106 = .ok (.goto 4, 3) := by decide +kernel
theorem dX0_shareIn_109 : decode cX0_shareIn 109 = .ok (.lconst 0, 1) := by decide +kernel
theorem dX0_shareIn_110 : decode cX0_shareIn 110 = .ok (.lreturn, 1) := by decide +kernel
set_option maxRecDepth 20000 in
theorem ggX0_sharesAhead_X0_shareIn : GoodIn wsX0_sharesAhead wsX0_shareIn := goodIn_r _ [6, 1, 7, 8, 9, 10, 11, 12, 13, 14, 5, 15, 16, 17, 18, 19, 20, 21, 22, 23, 24, 25, 26, 27, 28, 29] (by decide +kernel) (by decide +kernel)
set_option maxRecDepth 20000 in
theorem gX0_sharesAhead_X0_shareIn : GoodIn wsX0_sharesAhead (wsV RX0 70 RX0 yX0_shareIn wsX0_shareIn) := goodIn_app (goodIn_of _ (by decide +kernel)) ggX0_sharesAhead_X0_shareIn
theorem dX0_sharesAhead_0 : decode cX0_sharesAhead 0 = .ok (.lconst 0, 1) := by decide +kernel
theorem dX0_sharesAhead_1 : decode cX0_sharesAhead 1 = .ok (.lstore_n 2, 1) := by decide +kernel
theorem dX0_sharesAhead_2 : decode cX0_sharesAhead 2 = .ok (.aload_n 0, 1) := by decide +kernel
theorem dX0_sharesAhead_3 : decode cX0_sharesAhead 3 = .ok (.getfield 9, 3) := by decide +kernel
theorem dX0_sharesAhead_6 : decode cX0_sharesAhead 6 = .ok (.istore 4, 2) := by decide +kernel
theorem dX0_sharesAhead_8 : decode cX0_sharesAhead 8 = .ok (.iload 4, 2) := by decide +kernel
theorem dX0_sharesAhead_10 : decode cX0_sharesAhead 10 = .ok (.iload_n 1, 1) := by decide +kernel
theorem dX0_sharesAhead_11 : decode cX0_sharesAhead 11 = .ok (.if_icmp .ge 18, 3) := by decide +kernel
theorem dX0_sharesAhead_14 : decode cX0_sharesAhead 14 = .ok (.lload_n 2, 1) := by decide +kernel
theorem dX0_sharesAhead_15 : decode cX0_sharesAhead 15 = .ok (.aload_n 0, 1) := by decide +kernel
theorem dX0_sharesAhead_16 : decode cX0_sharesAhead 16 = .ok (.iload 4, 2) := by decide +kernel
theorem dX0_sharesAhead_18 : decode cX0_sharesAhead 18 = .ok (.invokevirtual 70, 3) := by decide +kernel
theorem dX0_sharesAhead_21 : decode cX0_sharesAhead 21 = .ok (.ladd, 1) := by decide +kernel
theorem dX0_sharesAhead_22 : decode cX0_sharesAhead 22 = .ok (.lstore_n 2, 1) := by decide +kernel
theorem dX0_sharesAhead_23 : decode cX0_sharesAhead 23 = .ok (.iinc 4 1, 3) := by decide +kernel
theorem dX0_sharesAhead_26 : decode cX0_sharesAhead 26 = .ok (.goto (-18), 3) := by decide +kernel
theorem dX0_sharesAhead_29 : decode cX0_sharesAhead 29 = .ok (.lload_n 2, 1) := by decide +kernel
theorem dX0_sharesAhead_30 : decode cX0_sharesAhead 30 = .ok (.lreturn, 1) := by decide +kernel
theorem dX0_protectionMonth_0 : decode cX0_protectionMonth 0 = .ok (.aload_n 0, 1) := by decide +kernel
theorem dX0_protectionMonth_1 : decode cX0_protectionMonth 1 = .ok (.getfield 37, 3) := by decide +kernel
theorem dX0_protectionMonth_4 : decode cX0_protectionMonth 4 = .ok (.iconst 0, 1) := by decide +kernel
theorem dX0_protectionMonth_5 : decode cX0_protectionMonth 5 = .ok (.iaload, 1) := by decide +kernel
theorem dX0_protectionMonth_6 : decode cX0_protectionMonth 6 = .ok (.sipush 240, 3) := by decide +kernel
theorem dX0_protectionMonth_9 : decode cX0_protectionMonth 9 = .ok (.if_icmp .eq 15, 3) := by decide +kernel
theorem dX0_protectionMonth_12 : decode cX0_protectionMonth 12 = .ok (.aload_n 0, 1) := by decide +kernel
theorem dX0_protectionMonth_13 : decode cX0_protectionMonth 13 = .ok (.getfield 37, 3) := by decide +kernel
theorem dX0_protectionMonth_16 : decode cX0_protectionMonth 16 = .ok (.iconst 1, 1) := by decide +kernel
theorem dX0_protectionMonth_17 : decode cX0_protectionMonth 17 = .ok (.iaload, 1) := by decide +kernel
theorem dX0_protectionMonth_18 : decode cX0_protectionMonth 18 = .ok (.sipush 240, 3) := by decide +kernel
theorem dX0_protectionMonth_21 : decode cX0_protectionMonth 21 = .ok (.if_icmp .ne 7, 3) := by decide +kernel
theorem dX0_protectionMonth_24 : decode cX0_protectionMonth 24 = .ok (.sipush 240, 3) := by decide +kernel
theorem dX0_protectionMonth_27 : decode cX0_protectionMonth 27 = .ok (.ireturn, 1) := by decide +kernel
theorem dX0_protectionMonth_28 : decode cX0_protectionMonth 28 = .ok (.aload_n 0, 1) := by decide +kernel
theorem dX0_protectionMonth_29 : decode cX0_protectionMonth 29 = .ok (.getfield 37, 3) := by decide +kernel
theorem dX0_protectionMonth_32 : decode cX0_protectionMonth 32 = .ok (.iconst 0, 1) := by decide +kernel
theorem dX0_protectionMonth_33 : decode cX0_protectionMonth 33 = .ok (.iaload, 1) := by decide +kernel
theorem dX0_protectionMonth_34 : decode cX0_protectionMonth 34 = .ok (.aload_n 0, 1) := by decide +kernel
theorem dX0_protectionMonth_35 : decode cX0_protectionMonth 35 = .ok (.getfield 37, 3) := by decide +kernel
theorem dX0_protectionMonth_38 : decode cX0_protectionMonth 38 = .ok (.iconst 1, 1) := by decide +kernel
theorem dX0_protectionMonth_39 : decode cX0_protectionMonth 39 = .ok (.iaload, 1) := by decide +kernel
theorem dX0_protectionMonth_40 : decode cX0_protectionMonth 40 = .ok (.invokestatic 61, 3) := by decide +kernel
theorem dX0_protectionMonth_43 : decode cX0_protectionMonth 43 = .ok (.iconst 1, 1) := by decide +kernel
theorem dX0_protectionMonth_44 : decode cX0_protectionMonth 44 = .ok (.iadd, 1) := by decide +kernel
theorem dX0_protectionMonth_45 : decode cX0_protectionMonth 45 = .ok (.istore_n 1, 1) := by decide +kernel
theorem dX0_protectionMonth_46 : decode cX0_protectionMonth 46 = .ok (.iload_n 1, 1) := by decide +kernel
theorem dX0_protectionMonth_47 : decode cX0_protectionMonth 47 = .ok (.aload_n 0, 1) := by decide +kernel
theorem dX0_protectionMonth_48 : decode cX0_protectionMonth 48 = .ok (.getfield 18, 3) := by decide +kernel
theorem dX0_protectionMonth_51 : decode cX0_protectionMonth 51 = .ok (.invokestatic 61, 3) := by decide +kernel
theorem dX0_protectionMonth_54 : decode cX0_protectionMonth 54 = .ok (.sipush 240, 3) := by decide +kernel
theorem dX0_protectionMonth_57 : decode cX0_protectionMonth 57 = .ok (.invokestatic 55, 3) := by decide +kernel
theorem dX0_protectionMonth_60 : decode cX0_protectionMonth 60 = .ok (.ireturn, 1) := by decide +kernel
set_option maxRecDepth 20000 in
theorem ggX0_protectionSum_X0_protectionMonth : GoodIn wsX0_protectionSum wsX0_protectionMonth := goodIn_r _ [12, 13, 14, 15, 6, 16, 17, 18, 19, 20, 37, 38, 39, 40, 41, 42, 43, 44, 45, 46, 47, 48, 49] (by decide +kernel) (by decide +kernel)
set_option maxRecDepth 20000 in
theorem gX0_protectionSum_X0_protectionMonth : GoodIn wsX0_protectionSum (wsV RX0 74 RX0 yX0_protectionMonth wsX0_protectionMonth) := goodIn_app (goodIn_of _ (by decide +kernel)) ggX0_protectionSum_X0_protectionMonth
set_option maxRecDepth 20000 in
theorem ggX0_protectionSum_X0_sharesAhead : GoodIn wsX0_protectionSum wsX0_sharesAhead := goodIn_r _ [24, 25, 26, 27, 28, 11, 29, 13, 17, 30, 31, 3, 32, 33, 34, 35, 36, 37, 38, 39, 40, 41, 42, 43, 44, 45, 46, 47, 48, 49] (by decide +kernel) (by decide +kernel)
set_option maxRecDepth 20000 in
theorem gX0_protectionSum_X0_sharesAhead : GoodIn wsX0_protectionSum (wsV RX0 78 RX0 yX0_sharesAhead wsX0_sharesAhead) := goodIn_app (goodIn_of _ (by decide +kernel)) ggX0_protectionSum_X0_sharesAhead
theorem dX0_protectionSum_0 : decode cX0_protectionSum 0 = .ok (.aload_n 0, 1) := by decide +kernel
theorem dX0_protectionSum_1 : decode cX0_protectionSum 1 = .ok (.invokevirtual 74, 3) := by decide +kernel
theorem dX0_protectionSum_4 : decode cX0_protectionSum 4 = .ok (.istore_n 1, 1) := by decide +kernel
theorem dX0_protectionSum_5 : decode cX0_protectionSum 5 = .ok (.iload_n 1, 1) := by decide +kernel
theorem dX0_protectionSum_6 : decode cX0_protectionSum 6 = .ok (.sipush 240, 3) := by decide +kernel
theorem dX0_protectionSum_9 : decode cX0_protectionSum 9 = .ok (.if_icmp .ne 5, 3) := by decide +kernel
theorem dX0_protectionSum_12 : decode cX0_protectionSum 12 = .ok (.lconst 0, 1) := by decide +kernel
theorem dX0_protectionSum_13 : decode cX0_protectionSum 13 = .ok (.lreturn, 1) := by decide +kernel
theorem dX0_protectionSum_14 : decode cX0_protectionSum 14 = .ok (.aload_n 0, 1) := by decide +kernel
theorem dX0_protectionSum_15 : decode cX0_protectionSum 15 = .ok (.getfield 31, 3) := by decide +kernel
theorem dX0_protectionSum_18 : decode cX0_protectionSum 18 = .ok (.i2l, 1) := by decide +kernel
theorem dX0_protectionSum_19 : decode cX0_protectionSum 19 = .ok (.aload_n 0, 1) := by decide +kernel
theorem dX0_protectionSum_20 : decode cX0_protectionSum 20 = .ok (.getfield 34, 3) := by decide +kernel
theorem dX0_protectionSum_23 : decode cX0_protectionSum 23 = .ok (.i2l, 1) := by decide +kernel
theorem dX0_protectionSum_24 : decode cX0_protectionSum 24 = .ok (.lmul, 1) := by decide +kernel
theorem dX0_protectionSum_25 : decode cX0_protectionSum 25 = .ok (.ldc2_w 68, 3) := by decide +kernel
theorem dX0_protectionSum_28 : decode cX0_protectionSum 28 = .ok (.ldiv, 1) := by decide +kernel
theorem dX0_protectionSum_29 : decode cX0_protectionSum 29 = .ok (.lstore_n 2, 1) := by decide +kernel
theorem dX0_protectionSum_30 : decode cX0_protectionSum 30 = .ok (.lconst 0, 1) := by decide +kernel
theorem dX0_protectionSum_31 : decode cX0_protectionSum 31 = .ok (.lload_n 2, 1) := by decide +kernel
theorem dX0_protectionSum_32 : decode cX0_protectionSum 32 = .ok (.aload_n 0, 1) := by decide +kernel
theorem dX0_protectionSum_33 : decode cX0_protectionSum 33 = .ok (.iload_n 1, 1) := by decide +kernel
theorem dX0_protectionSum_34 : decode cX0_protectionSum 34 = .ok (.invokevirtual 78, 3) := by decide +kernel
theorem dX0_protectionSum_37 : decode cX0_protectionSum 37 = .ok (.lsub, 1) := by decide +kernel
theorem dX0_protectionSum_38 : decode cX0_protectionSum 38 = .ok (.invokestatic 81, 3) := by decide +kernel
theorem dX0_protectionSum_41 : decode cX0_protectionSum 41 = .ok (.lreturn, 1) := by decide +kernel
set_option maxRecDepth 20000 in
theorem ggX0_dueIn_X0_shareIn : GoodIn wsX0_dueIn wsX0_shareIn := goodIn_r _ [5, 6, 7, 8, 9, 10, 11, 12, 13, 14, 4, 15, 16, 41, 42, 43, 44, 45, 46, 47, 48, 49, 50, 51, 52, 53] (by decide +kernel) (by decide +kernel)
set_option maxRecDepth 20000 in
theorem gX0_dueIn_X0_shareIn : GoodIn wsX0_dueIn (wsV RX0 70 RX0 yX0_shareIn wsX0_shareIn) := goodIn_app (goodIn_of _ (by decide +kernel)) ggX0_dueIn_X0_shareIn
set_option maxRecDepth 20000 in
theorem ggX0_dueIn_X0_protectionMonth : GoodIn wsX0_dueIn wsX0_protectionMonth := goodIn_r _ [20, 7, 21, 22, 23, 24, 8, 25, 26, 27, 41, 42, 43, 44, 45, 46, 47, 48, 49, 50, 51, 52, 53] (by decide +kernel) (by decide +kernel)
set_option maxRecDepth 20000 in
theorem gX0_dueIn_X0_protectionMonth : GoodIn wsX0_dueIn (wsV RX0 74 RX0 yX0_protectionMonth wsX0_protectionMonth) := goodIn_app (goodIn_of _ (by decide +kernel)) ggX0_dueIn_X0_protectionMonth
set_option maxRecDepth 20000 in
theorem ggX0_dueIn_X0_protectionSum : GoodIn wsX0_dueIn wsX0_protectionSum := goodIn_r _ [31, 32, 33, 11, 34, 35, 23, 36, 17, 18, 19, 4, 20, 7, 21, 22, 24, 8, 25, 26, 27, 37, 38, 39, 40, 6, 1, 2, 3, 5, 9, 10, 12, 13, 14, 15, 16, 41, 42, 43, 44, 45, 46, 47, 48, 49, 50, 51, 52, 53] (by decide +kernel) (by decide +kernel)
set_option maxRecDepth 20000 in
theorem gX0_dueIn_X0_protectionSum : GoodIn wsX0_dueIn (wsV RX0 84 RX0 yX0_protectionSum wsX0_protectionSum) := goodIn_app (goodIn_of _ (by decide +kernel)) ggX0_dueIn_X0_protectionSum
theorem dX0_dueIn_0 : decode cX0_dueIn 0 = .ok (.aload_n 0, 1) := by decide +kernel
theorem dX0_dueIn_1 : decode cX0_dueIn 1 = .ok (.iload_n 1, 1) := by decide +kernel
theorem dX0_dueIn_2 : decode cX0_dueIn 2 = .ok (.invokevirtual 70, 3) := by decide +kernel
theorem dX0_dueIn_5 : decode cX0_dueIn 5 = .ok (.lstore_n 2, 1) := by decide +kernel
theorem dX0_dueIn_6 : decode cX0_dueIn 6 = .ok (.iload_n 1, 1) := by decide +kernel
theorem dX0_dueIn_7 : decode cX0_dueIn 7 = .ok (.aload_n 0, 1) := by decide +kernel
theorem dX0_dueIn_8 : decode cX0_dueIn 8 = .ok (.invokevirtual 74, 3) := by decide +kernel
theorem dX0_dueIn_11 : decode cX0_dueIn 11 = .ok (.if_icmp .ne 12, 3) := by decide +kernel
theorem dX0_dueIn_14 : decode cX0_dueIn 14 = .ok (.lload_n 2, 1) := by decide +kernel
theorem dX0_dueIn_15 : decode cX0_dueIn 15 = .ok (.aload_n 0, 1) := by decide +kernel
theorem dX0_dueIn_16 : decode cX0_dueIn 16 = .ok (.invokevirtual 84, 3) := by decide +kernel
theorem dX0_dueIn_19 : decode cX0_dueIn 19 = .ok (.ladd, 1) := by decide +kernel
theorem dX0_dueIn_20 : decode cX0_dueIn 20 = .ok (.goto 4, 3) := by decide +kernel
theorem dX0_dueIn_23 : decode cX0_dueIn 23 = .ok (.lload_n 2, 1) := by decide +kernel
theorem dX0_dueIn_24 : decode cX0_dueIn 24 = .ok (.lreturn, 1) := by decide +kernel
set_option maxRecDepth 20000 in
theorem ggX0_dueAhead_X0_sharesAhead : GoodIn wsX0_dueAhead wsX0_sharesAhead := goodIn_r _ [5, 6, 7, 8, 9, 4, 10, 11, 12, 13, 14, 15, 16, 17, 18, 19, 20, 41, 42, 43, 44, 45, 46, 47, 48, 49, 50, 51, 52, 53] (by decide +kernel) (by decide +kernel)
set_option maxRecDepth 20000 in
theorem gX0_dueAhead_X0_sharesAhead : GoodIn wsX0_dueAhead (wsV RX0 78 RX0 yX0_sharesAhead wsX0_sharesAhead) := goodIn_app (goodIn_of _ (by decide +kernel)) ggX0_dueAhead_X0_sharesAhead
set_option maxRecDepth 20000 in
theorem ggX0_dueAhead_X0_protectionMonth : GoodIn wsX0_dueAhead wsX0_protectionMonth := goodIn_r _ [24, 11, 25, 26, 27, 28, 12, 29, 30, 31, 41, 42, 43, 44, 45, 46, 47, 48, 49, 50, 51, 52, 53] (by decide +kernel) (by decide +kernel)
set_option maxRecDepth 20000 in
theorem gX0_dueAhead_X0_protectionMonth : GoodIn wsX0_dueAhead (wsV RX0 74 RX0 yX0_protectionMonth wsX0_protectionMonth) := goodIn_app (goodIn_of _ (by decide +kernel)) ggX0_dueAhead_X0_protectionMonth
set_option maxRecDepth 20000 in
theorem ggX0_dueAhead_X0_protectionSum : GoodIn wsX0_dueAhead wsX0_protectionSum := goodIn_r _ [35, 36, 37, 15, 38, 39, 27, 40, 21, 22, 23, 4, 24, 11, 25, 26, 28, 12, 29, 30, 31, 1, 2, 3, 5, 6, 7, 8, 9, 10, 13, 14, 16, 17, 18, 19, 20, 41, 42, 43, 44, 45, 46, 47, 48, 49, 50, 51, 52, 53] (by decide +kernel) (by decide +kernel)
set_option maxRecDepth 20000 in
theorem gX0_dueAhead_X0_protectionSum : GoodIn wsX0_dueAhead (wsV RX0 84 RX0 yX0_protectionSum wsX0_protectionSum) := goodIn_app (goodIn_of _ (by decide +kernel)) ggX0_dueAhead_X0_protectionSum
theorem dX0_dueAhead_0 : decode cX0_dueAhead 0 = .ok (.aload_n 0, 1) := by decide +kernel
theorem dX0_dueAhead_1 : decode cX0_dueAhead 1 = .ok (.iload_n 1, 1) := by decide +kernel
theorem dX0_dueAhead_2 : decode cX0_dueAhead 2 = .ok (.invokevirtual 78, 3) := by decide +kernel
theorem dX0_dueAhead_5 : decode cX0_dueAhead 5 = .ok (.lstore_n 2, 1) := by decide +kernel
theorem dX0_dueAhead_6 : decode cX0_dueAhead 6 = .ok (.aload_n 0, 1) := by decide +kernel
theorem dX0_dueAhead_7 : decode cX0_dueAhead 7 = .ok (.invokevirtual 74, 3) := by decide +kernel
theorem dX0_dueAhead_10 : decode cX0_dueAhead 10 = .ok (.iload_n 1, 1) := by decide +kernel
theorem dX0_dueAhead_11 : decode cX0_dueAhead 11 = .ok (.if_icmp .ge 12, 3) := by decide +kernel
theorem dX0_dueAhead_14 : decode cX0_dueAhead 14 = .ok (.lload_n 2, 1) := by decide +kernel
theorem dX0_dueAhead_15 : decode cX0_dueAhead 15 = .ok (.aload_n 0, 1) := by decide +kernel
theorem dX0_dueAhead_16 : decode cX0_dueAhead 16 = .ok (.invokevirtual 84, 3) := by decide +kernel
theorem dX0_dueAhead_19 : decode cX0_dueAhead 19 = .ok (.ladd, 1) := by decide +kernel
theorem dX0_dueAhead_20 : decode cX0_dueAhead 20 = .ok (.goto 4, 3) := by decide +kernel
theorem dX0_dueAhead_23 : decode cX0_dueAhead 23 = .ok (.lload_n 2, 1) := by decide +kernel
theorem dX0_dueAhead_24 : decode cX0_dueAhead 24 = .ok (.lreturn, 1) := by decide +kernel
set_option maxRecDepth 20000 in
theorem ggX0_payIn_X0_dueAhead : GoodIn wsX0_payIn wsX0_dueAhead := goodIn_r _ [11, 12, 13, 14, 10, 15, 16, 17, 18, 19, 20, 21, 22, 23, 24, 25, 26, 27, 28, 29, 30, 31, 32, 33, 34, 35, 36, 4, 37, 38, 39, 40, 41, 42, 43, 44, 45, 46, 2, 3, 5, 47, 48, 49, 50, 51, 52, 53, 54, 55, 56, 57, 58, 59] (by decide +kernel) (by decide +kernel)
set_option maxRecDepth 20000 in
theorem gX0_payIn_X0_dueAhead : GoodIn wsX0_payIn (wsV RX0 88 RX0 yX0_dueAhead wsX0_dueAhead) := goodIn_app (goodIn_of _ (by decide +kernel)) ggX0_payIn_X0_dueAhead
theorem dX0_payIn_0 : decode cX0_payIn 0 = .ok (.lconst 0, 1) := by decide +kernel
theorem dX0_payIn_1 : decode cX0_payIn 1 = .ok (.aload_n 0, 1) := by decide +kernel
theorem dX0_payIn_2 : decode cX0_payIn 2 = .ok (.iload_n 1, 1) := by decide +kernel
theorem dX0_payIn_3 : decode cX0_payIn 3 = .ok (.iconst 1, 1) := by decide +kernel
theorem dX0_payIn_4 : decode cX0_payIn 4 = .ok (.iadd, 1) := by decide +kernel
theorem dX0_payIn_5 : decode cX0_payIn 5 = .ok (.invokevirtual 88, 3) := by decide +kernel
theorem dX0_payIn_8 : decode cX0_payIn 8 = .ok (.aload_n 0, 1) := by decide +kernel
theorem dX0_payIn_9 : decode cX0_payIn 9 = .ok (.getfield 51, 3) := by decide +kernel
theorem dX0_payIn_12 : decode cX0_payIn 12 = .ok (.lsub, 1) := by decide +kernel
theorem dX0_payIn_13 : decode cX0_payIn 13 = .ok (.invokestatic 81, 3) := by decide +kernel
theorem dX0_payIn_16 : decode cX0_payIn 16 = .ok (.lstore_n 2, 1) := by decide +kernel
theorem dX0_payIn_17 : decode cX0_payIn 17 = .ok (.aload_n 0, 1) := by decide +kernel
theorem dX0_payIn_18 : decode cX0_payIn 18 = .ok (.getfield 47, 3) := by decide +kernel
theorem dX0_payIn_21 : decode cX0_payIn 21 = .ok (.iload_n 1, 1) := by decide +kernel
theorem dX0_payIn_22 : decode cX0_payIn 22 = .ok (.lload_n 2, 1) := by decide +kernel
theorem dX0_payIn_23 : decode cX0_payIn 23 = .ok (.lastore, 1) := by decide +kernel
theorem dX0_payIn_24 : decode cX0_payIn 24 = .ok (.aload_n 0, 1) := by decide +kernel
theorem dX0_payIn_25 : decode cX0_payIn 25 = .ok (.dup, 1) := by decide +kernel
theorem dX0_payIn_26 : decode cX0_payIn 26 = .ok (.getfield 51, 3) := by decide +kernel
theorem dX0_payIn_29 : decode cX0_payIn 29 = .ok (.lload_n 2, 1) := by decide +kernel
theorem dX0_payIn_30 : decode cX0_payIn 30 = .ok (.ladd, 1) := by decide +kernel
theorem dX0_payIn_31 : decode cX0_payIn 31 = .ok (.putfield 51, 3) := by decide +kernel
theorem dX0_payIn_34 : decode cX0_payIn 34 = .ok (.lload_n 2, 1) := by decide +kernel
theorem dX0_payIn_35 : decode cX0_payIn 35 = .ok (.lreturn, 1) := by decide +kernel
set_option maxRecDepth 20000 in
theorem ggX0_debtAhead_X0_dueAhead : GoodIn wsX0_debtAhead wsX0_dueAhead := goodIn_r _ [10, 11, 12, 13, 9, 14, 15, 16, 17, 18, 19, 20, 21, 22, 23, 24, 25, 26, 27, 28, 29, 30, 31, 32, 33, 34, 35, 4, 36, 37, 38, 39, 40, 41, 42, 43, 44, 45, 2, 3, 5, 46, 47, 48, 49, 50, 51, 52, 53, 54, 55, 56, 57, 58] (by decide +kernel) (by decide +kernel)
set_option maxRecDepth 20000 in
theorem gX0_debtAhead_X0_dueAhead : GoodIn wsX0_debtAhead (wsV RX0 88 RX0 yX0_dueAhead wsX0_dueAhead) := goodIn_app (goodIn_of _ (by decide +kernel)) ggX0_debtAhead_X0_dueAhead
theorem dX0_debtAhead_0 : decode cX0_debtAhead 0 = .ok (.lconst 0, 1) := by decide +kernel
theorem dX0_debtAhead_1 : decode cX0_debtAhead 1 = .ok (.aload_n 0, 1) := by decide +kernel
theorem dX0_debtAhead_2 : decode cX0_debtAhead 2 = .ok (.getfield 51, 3) := by decide +kernel
theorem dX0_debtAhead_5 : decode cX0_debtAhead 5 = .ok (.aload_n 0, 1) := by decide +kernel
theorem dX0_debtAhead_6 : decode cX0_debtAhead 6 = .ok (.iload_n 1, 1) := by decide +kernel
theorem dX0_debtAhead_7 : decode cX0_debtAhead 7 = .ok (.invokevirtual 88, 3) := by decide +kernel
theorem dX0_debtAhead_10 : decode cX0_debtAhead 10 = .ok (.lsub, 1) := by decide +kernel
theorem dX0_debtAhead_11 : decode cX0_debtAhead 11 = .ok (.invokestatic 81, 3) := by decide +kernel
theorem dX0_debtAhead_14 : decode cX0_debtAhead 14 = .ok (.lreturn, 1) := by decide +kernel
theorem dX1_init_0 : decode cX1_init 0 = .ok (.aload_n 0, 1) := by decide +kernel
theorem dX1_init_1 : decode cX1_init 1 = .ok (.invokespecial 3, 3) := by decide +kernel
theorem dX1_init_4 : decode cX1_init 4 = .ok (.aload_n 0, 1) := by decide +kernel
theorem dX1_init_5 : decode cX1_init 5 = .ok (.bipush 20, 2) := by decide +kernel
theorem dX1_init_7 : decode cX1_init 7 = .ok (.anewarray 9, 3) := by decide +kernel
theorem dX1_init_10 : decode cX1_init 10 = .ok (.putfield 11, 3) := by decide +kernel
theorem dX1_init_13 : decode cX1_init 13 = .ok (.aload_n 0, 1) := by decide +kernel
theorem dX1_init_14 : decode cX1_init 14 = .ok (.bipush 20, 2) := by decide +kernel
theorem dX1_init_16 : decode cX1_init 16 = .ok (.newarray .int, 2) := by decide +kernel
theorem dX1_init_18 : decode cX1_init 18 = .ok (.putfield 15, 3) := by decide +kernel
theorem dX1_init_21 : decode cX1_init 21 = .ok (.aload_n 0, 1) := by decide +kernel
theorem dX1_init_22 : decode cX1_init 22 = .ok (.iconst 0, 1) := by decide +kernel
theorem dX1_init_23 : decode cX1_init 23 = .ok (.putfield 19, 3) := by decide +kernel
theorem dX1_init_26 : decode cX1_init 26 = .ok (.aload_n 0, 1) := by decide +kernel
theorem dX1_init_27 : decode cX1_init 27 = .ok (.iconst 0, 1) := by decide +kernel
theorem dX1_init_28 : decode cX1_init 28 = .ok (.putfield 23, 3) := by decide +kernel
theorem dX1_init_31 : decode cX1_init 31 = .ok (.return_, 1) := by decide +kernel
set_option maxRecDepth 20000 in
theorem ggX1_add_X1_requireRange : GoodIn wsX1_add wsX1_requireRange := goodIn_ca (goodIn_r _ [14, 15, 16] (by decide +kernel) (by decide +kernel)) (goodIn_sub (fun _ h => List.mem_cons_of_mem _ (List.mem_append_right _ h)) (by decide +kernel))
set_option maxRecDepth 20000 in
theorem gX1_add_X1_requireRange : GoodIn wsX1_add (va_wsS RX1 26 yX1_requireRange wsX1_requireRange) := goodIn_app (goodIn_of _ (by decide +kernel)) ggX1_add_X1_requireRange
set_option maxRecDepth 20000 in
theorem ggX1_add_X0_init : GoodIn wsX1_add wsX0_init := goodIn_r _ [19, 20, 21, 22, 23, 24, 25, 26, 27, 28, 29, 30, 31, 32, 33, 34, 35, 36, 37, 53, 54, 55, 56, 57, 58, 59, 60, 61, 62, 63, 64, 65] (by decide +kernel) (by decide +kernel)
set_option maxRecDepth 20000 in
theorem gX1_add_X0_init : GoodIn wsX1_add (wsX0_init) := ggX1_add_X0_init
set_option maxRecDepth 20000 in
theorem ggX1_add_X0_growBy : GoodIn wsX1_add wsX0_growBy := goodIn_r _ [41, 24, 33, 34, 23, 28, 42, 43, 44, 45, 46, 47, 48, 53, 54, 55, 56, 57, 58, 59, 60, 61, 62, 63, 64, 65] (by decide +kernel) (by decide +kernel)
set_option maxRecDepth 20000 in
theorem gX1_add_X0_growBy : GoodIn wsX1_add (wsV RX1 40 RX0 yX0_growBy wsX0_growBy) := goodIn_app (goodIn_of _ (by decide +kernel)) ggX1_add_X0_growBy
theorem dX1_add_0 : decode cX1_add 0 = .ok (.iload_n 1, 1) := by decide +kernel
theorem dX1_add_1 : decode cX1_add 1 = .ok (.aload_n 0, 1) := by decide +kernel
theorem dX1_add_2 : decode cX1_add 2 = .ok (.getfield 23, 3) := by decide +kernel
theorem dX1_add_5 : decode cX1_add 5 = .ok (.sipush 239, 3) := by decide +kernel
theorem dX1_add_8 : decode cX1_add 8 = .ok (.invokestatic 26, 3) := by decide +kernel
theorem dX1_add_11 : decode cX1_add 11 = .ok (.iload_n 2, 1) := by decide +kernel
theorem dX1_add_12 : decode cX1_add 12 = .ok (.iconst 1, 1) := by decide +kernel
theorem dX1_add_13 : decode cX1_add 13 = .ok (.ldc 30, 2) := by decide +kernel
theorem dX1_add_15 : decode cX1_add 15 = .ok (.invokestatic 26, 3) := by decide +kernel
theorem dX1_add_18 : decode cX1_add 18 = .ok (.iload_n 3, 1) := by decide +kernel
theorem dX1_add_19 : decode cX1_add 19 = .ok (.iconst 0, 1) := by decide +kernel
theorem dX1_add_20 : decode cX1_add 20 = .ok (.sipush 240, 3) := by decide +kernel
theorem dX1_add_23 : decode cX1_add 23 = .ok (.invokestatic 26, 3) := by decide +kernel
theorem dX1_add_26 : decode cX1_add 26 = .ok (.aload_n 0, 1) := by decide +kernel
theorem dX1_add_27 : decode cX1_add 27 = .ok (.getfield 19, 3) := by decide +kernel
theorem dX1_add_30 : decode cX1_add 30 = .ok (.aload_n 0, 1) := by decide +kernel
theorem dX1_add_31 : decode cX1_add 31 = .ok (.getfield 11, 3) := by decide +kernel
theorem dX1_add_34 : decode cX1_add 34 = .ok (.arraylength, 1) := by decide +kernel
theorem dX1_add_35 : decode cX1_add 35 = .ok (.if_icmp .lt 13, 3) := by decide +kernel
theorem dX1_add_38 : decode cX1_add 38 = .ok (.new 31, 3) := by decide +kernel
theorem dX1_add_41 : decode cX1_add 41 = .ok (.dup, 1) := by decide +kernel
theorem dX1_add_42 : decode cX1_add 42 = .ok (.ldc 33, 2) := by decide +kernel
theorem dX1_add_44 : decode cX1_add 44 = .ok (.invokespecial 35, 3) := by decide +kernel
theorem dX1_add_47 : decode cX1_add 47 = .ok (.athrow, 1) := by decide +kernel
theorem dX1_add_48 : decode cX1_add 48 = .ok (.new 9, 3) := by decide +kernel
theorem dX1_add_51 : decode cX1_add 51 = .ok (.dup, 1) := by decide +kernel
theorem dX1_add_52 : decode cX1_add 52 = .ok (.iload_n 1, 1) := by decide +kernel
theorem dX1_add_53 : decode cX1_add 53 = .ok (.iload_n 2, 1) := by decide +kernel
theorem dX1_add_54 : decode cX1_add 54 = .ok (.iload_n 3, 1) := by decide +kernel
theorem dX1_add_55 : decode cX1_add 55 = .ok (.invokespecial 38, 3) := by decide +kernel
theorem dX1_add_58 : decode cX1_add 58 = .ok (.astore 4, 2) := by decide +kernel
theorem dX1_add_60 : decode cX1_add 60 = .ok (.aload 4, 2) := by decide +kernel
theorem dX1_add_62 : decode cX1_add 62 = .ok (.aload_n 0, 1) := by decide +kernel
theorem dX1_add_63 : decode cX1_add 63 = .ok (.getfield 15, 3) := by decide +kernel
theorem dX1_add_66 : decode cX1_add 66 = .ok (.invokevirtual 40, 3) := by decide +kernel
theorem dX1_add_69 : decode cX1_add 69 = .ok (.aload_n 0, 1) := by decide +kernel
theorem dX1_add_70 : decode cX1_add 70 = .ok (.getfield 11, 3) := by decide +kernel
theorem dX1_add_73 : decode cX1_add 73 = .ok (.aload_n 0, 1) := by decide +kernel
theorem dX1_add_74 : decode cX1_add 74 = .ok (.getfield 19, 3) := by decide +kernel
theorem dX1_add_77 : decode cX1_add 77 = .ok (.aload 4, 2) := by decide +kernel
theorem dX1_add_79 : decode cX1_add 79 = .ok (.aastore, 1) := by decide +kernel
theorem dX1_add_80 : decode cX1_add 80 = .ok (.aload_n 0, 1) := by decide +kernel
theorem dX1_add_81 : decode cX1_add 81 = .ok (.dup, 1) := by decide +kernel
theorem dX1_add_82 : decode cX1_add 82 = .ok (.getfield 19, 3) := by decide +kernel
theorem dX1_add_85 : decode cX1_add 85 = .ok (.iconst 1, 1) := by decide +kernel
theorem dX1_add_86 : decode cX1_add 86 = .ok (.iadd, 1) := by decide +kernel
theorem dX1_add_87 : decode cX1_add 87 = .ok (.putfield 19, 3) := by decide +kernel
theorem dX1_add_90 : decode cX1_add 90 = .ok (.aload_n 0, 1) := by decide +kernel
theorem dX1_add_91 : decode cX1_add 91 = .ok (.getfield 19, 3) := by decide +kernel
theorem dX1_add_94 : decode cX1_add 94 = .ok (.iconst 1, 1) := by decide +kernel
theorem dX1_add_95 : decode cX1_add 95 = .ok (.isub, 1) := by decide +kernel
theorem dX1_add_96 : decode cX1_add 96 = .ok (.ireturn, 1) := by decide +kernel
set_option maxRecDepth 20000 in
theorem ggX1_setSurvivor_X1_find : GoodIn wsX1_setSurvivor wsX1_find := goodIn_ca (goodIn_r _ [7, 8, 9, 10, 37, 38, 39, 40] (by decide +kernel) (by decide +kernel)) (goodIn_sub (fun _ h => List.mem_cons_of_mem _ (List.mem_append_left _ (List.mem_append_left _ (List.mem_append_right _ h)))) (by decide +kernel))
set_option maxRecDepth 20000 in
theorem gX1_setSurvivor_X1_find : GoodIn wsX1_setSurvivor (wsV RX1 44 RX1 yX1_find wsX1_find) := goodIn_app (goodIn_of _ (by decide +kernel)) ggX1_setSurvivor_X1_find
set_option maxRecDepth 20000 in
theorem ggX1_setSurvivor_X1_requireRange : GoodIn wsX1_setSurvivor wsX1_requireRange := goodIn_ca (goodIn_r _ [13, 14, 15] (by decide +kernel) (by decide +kernel)) (goodIn_sub (fun _ h => List.mem_cons_of_mem _ (List.mem_append_left _ (List.mem_append_right _ h))) (by decide +kernel))
set_option maxRecDepth 20000 in
theorem gX1_setSurvivor_X1_requireRange : GoodIn wsX1_setSurvivor (va_wsS RX1 26 yX1_requireRange wsX1_requireRange) := goodIn_app (goodIn_of _ (by decide +kernel)) ggX1_setSurvivor_X1_requireRange
set_option maxRecDepth 20000 in
theorem ggX1_setSurvivor_X1_requireStartNotRun : GoodIn wsX1_setSurvivor wsX1_requireStartNotRun := goodIn_ca (goodIn_r _ [19, 20, 21, 22, 23, 24, 25, 26, 27, 28, 29, 30, 31, 32, 33, 34, 35, 36, 37, 38, 39, 40] (by decide +kernel) (by decide +kernel)) (goodIn_sub (fun _ h => List.mem_cons_of_mem _ (List.mem_append_right _ h)) (by decide +kernel))
set_option maxRecDepth 20000 in
theorem gX1_setSurvivor_X1_requireStartNotRun : GoodIn wsX1_setSurvivor (wsV RX1 48 RX1 yX1_requireStartNotRun wsX1_requireStartNotRun) := goodIn_app (goodIn_of _ (by decide +kernel)) ggX1_setSurvivor_X1_requireStartNotRun
theorem dX1_setSurvivor_0 : decode cX1_setSurvivor 0 = .ok (.aload_n 0, 1) := by decide +kernel
theorem dX1_setSurvivor_1 : decode cX1_setSurvivor 1 = .ok (.iload_n 1, 1) := by decide +kernel
theorem dX1_setSurvivor_2 : decode cX1_setSurvivor 2 = .ok (.invokevirtual 44, 3) := by decide +kernel
theorem dX1_setSurvivor_5 : decode cX1_setSurvivor 5 = .ok (.astore 4, 2) := by decide +kernel
theorem dX1_setSurvivor_7 : decode cX1_setSurvivor 7 = .ok (.iload_n 2, 1) := by decide +kernel
theorem dX1_setSurvivor_8 : decode cX1_setSurvivor 8 = .ok (.iconst 0, 1) := by decide +kernel
theorem dX1_setSurvivor_9 : decode cX1_setSurvivor 9 = .ok (.bipush 100, 2) := by decide +kernel
theorem dX1_setSurvivor_11 : decode cX1_setSurvivor 11 = .ok (.invokestatic 26, 3) := by decide +kernel
theorem dX1_setSurvivor_14 : decode cX1_setSurvivor 14 = .ok (.aload_n 0, 1) := by decide +kernel
theorem dX1_setSurvivor_15 : decode cX1_setSurvivor 15 = .ok (.aload 4, 2) := by decide +kernel
theorem dX1_setSurvivor_17 : decode cX1_setSurvivor 17 = .ok (.invokevirtual 48, 3) := by decide +kernel
theorem dX1_setSurvivor_20 : decode cX1_setSurvivor 20 = .ok (.aload 4, 2) := by decide +kernel
theorem dX1_setSurvivor_22 : decode cX1_setSurvivor 22 = .ok (.iload_n 2, 1) := by decide +kernel
theorem dX1_setSurvivor_23 : decode cX1_setSurvivor 23 = .ok (.putfield 52, 3) := by decide +kernel
theorem dX1_setSurvivor_26 : decode cX1_setSurvivor 26 = .ok (.aload 4, 2) := by decide +kernel
theorem dX1_setSurvivor_28 : decode cX1_setSurvivor 28 = .ok (.iload_n 3, 1) := by decide +kernel
theorem dX1_setSurvivor_29 : decode cX1_setSurvivor 29 = .ok (.putfield 55, 3) := by decide +kernel
theorem dX1_setSurvivor_32 : decode cX1_setSurvivor 32 = .ok (.return_, 1) := by decide +kernel
set_option maxRecDepth 20000 in
theorem ggX1_setCap_X1_find : GoodIn wsX1_setCap wsX1_find := goodIn_ca (goodIn_r _ [7, 8, 9, 10, 54, 55, 56, 57] (by decide +kernel) (by decide +kernel)) (goodIn_sub (fun _ h => List.mem_cons_of_mem _ (List.mem_append_left _ (List.mem_append_left _ (List.mem_append_right _ h)))) (by decide +kernel))
set_option maxRecDepth 20000 in
theorem gX1_setCap_X1_find : GoodIn wsX1_setCap (wsV RX1 44 RX1 yX1_find wsX1_find) := goodIn_app (goodIn_of _ (by decide +kernel)) ggX1_setCap_X1_find
set_option maxRecDepth 20000 in
theorem ggX1_setCap_X1_requireRange : GoodIn wsX1_setCap wsX1_requireRange := goodIn_ca (goodIn_r _ [13, 14, 15] (by decide +kernel) (by decide +kernel)) (goodIn_sub (fun _ h => List.mem_cons_of_mem _ (List.mem_append_left _ (List.mem_append_right _ h))) (by decide +kernel))
set_option maxRecDepth 20000 in
theorem gX1_setCap_X1_requireRange : GoodIn wsX1_setCap (va_wsS RX1 26 yX1_requireRange wsX1_requireRange) := goodIn_app (goodIn_of _ (by decide +kernel)) ggX1_setCap_X1_requireRange
set_option maxRecDepth 20000 in
theorem ggX1_setCap_X1_requireStartNotRun : GoodIn wsX1_setCap wsX1_requireStartNotRun := goodIn_ca (goodIn_r _ [19, 20, 21, 22, 23, 41, 42, 43, 44, 45, 46, 47, 48, 49, 50, 51, 52, 53, 54, 55, 56, 57] (by decide +kernel) (by decide +kernel)) (goodIn_sub (fun _ h => List.mem_cons_of_mem _ (List.mem_append_right _ h)) (by decide +kernel))
set_option maxRecDepth 20000 in
theorem gX1_setCap_X1_requireStartNotRun : GoodIn wsX1_setCap (wsV RX1 48 RX1 yX1_requireStartNotRun wsX1_requireStartNotRun) := goodIn_app (goodIn_of _ (by decide +kernel)) ggX1_setCap_X1_requireStartNotRun
set_option maxRecDepth 20000 in
theorem ggX1_setCap_X0_growBy : GoodIn wsX1_setCap wsX0_growBy := goodIn_r _ [28, 29, 30, 31, 32, 33, 34, 35, 36, 37, 38, 39, 40, 41, 42, 43, 44, 45, 46, 47, 48, 49, 50, 51, 52, 53] (by decide +kernel) (by decide +kernel)
set_option maxRecDepth 20000 in
theorem gX1_setCap_X0_growBy : GoodIn wsX1_setCap (wsV RX1 40 RX0 yX0_growBy wsX0_growBy) := goodIn_app (goodIn_of _ (by decide +kernel)) ggX1_setCap_X0_growBy
theorem dX1_setCap_0 : decode cX1_setCap 0 = .ok (.aload_n 0, 1) := by decide +kernel
theorem dX1_setCap_1 : decode cX1_setCap 1 = .ok (.iload_n 1, 1) := by decide +kernel
theorem dX1_setCap_2 : decode cX1_setCap 2 = .ok (.invokevirtual 44, 3) := by decide +kernel
theorem dX1_setCap_5 : decode cX1_setCap 5 = .ok (.astore_n 3, 1) := by decide +kernel
theorem dX1_setCap_6 : decode cX1_setCap 6 = .ok (.iload_n 2, 1) := by decide +kernel
theorem dX1_setCap_7 : decode cX1_setCap 7 = .ok (.iconst 0, 1) := by decide +kernel
theorem dX1_setCap_8 : decode cX1_setCap 8 = .ok (.sipush 200, 3) := by decide +kernel
theorem dX1_setCap_11 : decode cX1_setCap 11 = .ok (.invokestatic 26, 3) := by decide +kernel
theorem dX1_setCap_14 : decode cX1_setCap 14 = .ok (.aload_n 0, 1) := by decide +kernel
theorem dX1_setCap_15 : decode cX1_setCap 15 = .ok (.aload_n 3, 1) := by decide +kernel
theorem dX1_setCap_16 : decode cX1_setCap 16 = .ok (.invokevirtual 48, 3) := by decide +kernel
theorem dX1_setCap_19 : decode cX1_setCap 19 = .ok (.aload_n 3, 1) := by decide +kernel
theorem dX1_setCap_20 : decode cX1_setCap 20 = .ok (.iload_n 2, 1) := by decide +kernel
theorem dX1_setCap_21 : decode cX1_setCap 21 = .ok (.putfield 59, 3) := by decide +kernel
theorem dX1_setCap_24 : decode cX1_setCap 24 = .ok (.aload_n 3, 1) := by decide +kernel
theorem dX1_setCap_25 : decode cX1_setCap 25 = .ok (.aload_n 0, 1) := by decide +kernel
theorem dX1_setCap_26 : decode cX1_setCap 26 = .ok (.getfield 15, 3) := by decide +kernel
theorem dX1_setCap_29 : decode cX1_setCap 29 = .ok (.invokevirtual 40, 3) := by decide +kernel
theorem dX1_setCap_32 : decode cX1_setCap 32 = .ok (.return_, 1) := by decide +kernel
set_option maxRecDepth 20000 in
theorem ggX1_protect_X1_find : GoodIn wsX1_protect wsX1_find := goodIn_ca (goodIn_r _ [8, 9, 10, 11, 38, 39, 40, 41] (by decide +kernel) (by decide +kernel)) (goodIn_sub (fun _ h => List.mem_cons_of_mem _ (List.mem_append_left _ (List.mem_append_left _ (List.mem_append_right _ h)))) (by decide +kernel))
set_option maxRecDepth 20000 in
theorem gX1_protect_X1_find : GoodIn wsX1_protect (wsV RX1 44 RX1 yX1_find wsX1_find) := goodIn_app (goodIn_of _ (by decide +kernel)) ggX1_protect_X1_find
set_option maxRecDepth 20000 in
theorem ggX1_protect_X1_requireRange : GoodIn wsX1_protect wsX1_requireRange := goodIn_ca (goodIn_r _ [14, 15, 16] (by decide +kernel) (by decide +kernel)) (goodIn_sub (fun _ h => List.mem_cons_of_mem _ (List.mem_append_left _ (List.mem_append_right _ h))) (by decide +kernel))
set_option maxRecDepth 20000 in
theorem gX1_protect_X1_requireRange : GoodIn wsX1_protect (va_wsS RX1 26 yX1_requireRange wsX1_requireRange) := goodIn_app (goodIn_of _ (by decide +kernel)) ggX1_protect_X1_requireRange
set_option maxRecDepth 20000 in
theorem ggX1_protect_X1_requireStartNotRun : GoodIn wsX1_protect wsX1_requireStartNotRun := goodIn_ca (goodIn_r _ [20, 21, 22, 23, 24, 25, 26, 27, 28, 29, 30, 31, 32, 33, 34, 35, 36, 37, 38, 39, 40, 41] (by decide +kernel) (by decide +kernel)) (goodIn_sub (fun _ h => List.mem_cons_of_mem _ (List.mem_append_right _ h)) (by decide +kernel))
set_option maxRecDepth 20000 in
theorem gX1_protect_X1_requireStartNotRun : GoodIn wsX1_protect (wsV RX1 48 RX1 yX1_requireStartNotRun wsX1_requireStartNotRun) := goodIn_app (goodIn_of _ (by decide +kernel)) ggX1_protect_X1_requireStartNotRun
theorem dX1_protect_0 : decode cX1_protect 0 = .ok (.aload_n 0, 1) := by decide +kernel
theorem dX1_protect_1 : decode cX1_protect 1 = .ok (.iload_n 1, 1) := by decide +kernel
theorem dX1_protect_2 : decode cX1_protect 2 = .ok (.invokevirtual 44, 3) := by decide +kernel
theorem dX1_protect_5 : decode cX1_protect 5 = .ok (.astore 4, 2) := by decide +kernel
theorem dX1_protect_7 : decode cX1_protect 7 = .ok (.iload_n 2, 1) := by decide +kernel
theorem dX1_protect_8 : decode cX1_protect 8 = .ok (.iconst 0, 1) := by decide +kernel
theorem dX1_protect_9 : decode cX1_protect 9 = .ok (.ldc 62, 2) := by decide +kernel
theorem dX1_protect_11 : decode cX1_protect 11 = .ok (.invokestatic 26, 3) := by decide +kernel
theorem dX1_protect_14 : decode cX1_protect 14 = .ok (.iload_n 3, 1) := by decide +kernel
theorem dX1_protect_15 : decode cX1_protect 15 = .ok (.iconst 0, 1) := by decide +kernel
theorem dX1_protect_16 : decode cX1_protect 16 = .ok (.bipush 100, 2) := by decide +kernel
theorem dX1_protect_18 : decode cX1_protect 18 = .ok (.invokestatic 26, 3) := by decide +kernel
theorem dX1_protect_21 : decode cX1_protect 21 = .ok (.aload_n 0, 1) := by decide +kernel
theorem dX1_protect_22 : decode cX1_protect 22 = .ok (.aload 4, 2) := by decide +kernel
theorem dX1_protect_24 : decode cX1_protect 24 = .ok (.invokevirtual 48, 3) := by decide +kernel
theorem dX1_protect_27 : decode cX1_protect 27 = .ok (.aload 4, 2) := by decide +kernel
theorem dX1_protect_29 : decode cX1_protect 29 = .ok (.iload_n 2, 1) := by decide +kernel
theorem dX1_protect_30 : decode cX1_protect 30 = .ok (.putfield 63, 3) := by decide +kernel
theorem dX1_protect_33 : decode cX1_protect 33 = .ok (.aload 4, 2) := by decide +kernel
theorem dX1_protect_35 : decode cX1_protect 35 = .ok (.iload_n 3, 1) := by decide +kernel
theorem dX1_protect_36 : decode cX1_protect 36 = .ok (.putfield 66, 3) := by decide +kernel
theorem dX1_protect_39 : decode cX1_protect 39 = .ok (.return_, 1) := by decide +kernel
set_option maxRecDepth 20000 in
theorem ggX1_setInflation_X1_requireRange : GoodIn wsX1_setInflation wsX1_requireRange := goodIn_ca (goodIn_r _ [6, 7, 8] (by decide +kernel) (by decide +kernel)) (goodIn_sub (fun _ h => List.mem_cons_of_mem _ (List.mem_append_right _ h)) (by decide +kernel))
set_option maxRecDepth 20000 in
theorem gX1_setInflation_X1_requireRange : GoodIn wsX1_setInflation (va_wsS RX1 26 yX1_requireRange wsX1_requireRange) := goodIn_app (goodIn_of _ (by decide +kernel)) ggX1_setInflation_X1_requireRange
set_option maxRecDepth 20000 in
theorem ggX1_setInflation_X0_growBy : GoodIn wsX1_setInflation wsX0_growBy := goodIn_r _ [13, 14, 15, 16, 17, 18, 19, 20, 21, 22, 23, 24, 25, 30, 31, 32, 33, 34, 35, 36, 37, 38, 39, 40, 41, 42] (by decide +kernel) (by decide +kernel)
set_option maxRecDepth 20000 in
theorem gX1_setInflation_X0_growBy : GoodIn wsX1_setInflation (wsV RX1 40 RX0 yX0_growBy wsX0_growBy) := goodIn_app (goodIn_of _ (by decide +kernel)) ggX1_setInflation_X0_growBy
theorem dX1_setInflation_0 : decode cX1_setInflation 0 = .ok (.iload_n 1, 1) := by decide +kernel
theorem dX1_setInflation_1 : decode cX1_setInflation 1 = .ok (.iconst 0, 1) := by decide +kernel
theorem dX1_setInflation_2 : decode cX1_setInflation 2 = .ok (.bipush 19, 2) := by decide +kernel
theorem dX1_setInflation_4 : decode cX1_setInflation 4 = .ok (.invokestatic 26, 3) := by decide +kernel
theorem dX1_setInflation_7 : decode cX1_setInflation 7 = .ok (.iload_n 2, 1) := by decide +kernel
theorem dX1_setInflation_8 : decode cX1_setInflation 8 = .ok (.bipush (-100), 2) := by decide +kernel
theorem dX1_setInflation_10 : decode cX1_setInflation 10 = .ok (.sipush 300, 3) := by decide +kernel
theorem dX1_setInflation_13 : decode cX1_setInflation 13 = .ok (.invokestatic 26, 3) := by decide +kernel
theorem dX1_setInflation_16 : decode cX1_setInflation 16 = .ok (.aload_n 0, 1) := by decide +kernel
theorem dX1_setInflation_17 : decode cX1_setInflation 17 = .ok (.getfield 15, 3) := by decide +kernel
theorem dX1_setInflation_20 : decode cX1_setInflation 20 = .ok (.iload_n 1, 1) := by decide +kernel
theorem dX1_setInflation_21 : decode cX1_setInflation 21 = .ok (.iaload, 1) := by decide +kernel
theorem dX1_setInflation_22 : decode cX1_setInflation 22 = .ok (.istore_n 3, 1) := by decide +kernel
theorem dX1_setInflation_23 : decode cX1_setInflation 23 = .ok (.aload_n 0, 1) := by decide +kernel
theorem dX1_setInflation_24 : decode cX1_setInflation 24 = .ok (.getfield 15, 3) := by decide +kernel
theorem dX1_setInflation_27 : decode cX1_setInflation 27 = .ok (.iload_n 1, 1) := by decide +kernel
theorem dX1_setInflation_28 : decode cX1_setInflation 28 = .ok (.iload_n 2, 1) := by decide +kernel
theorem dX1_setInflation_29 : decode cX1_setInflation 29 = .ok (.iastore, 1) := by decide +kernel
theorem dX1_setInflation_30 : decode cX1_setInflation 30 = .ok (.aload_n 0, 1) := by decide +kernel
theorem dX1_setInflation_31 : decode cX1_setInflation 31 = .ok (.getfield 11, 3) := by decide +kernel
theorem dX1_setInflation_34 : decode cX1_setInflation 34 = .ok (.astore 4, 2) := by decide +kernel
theorem dX1_setInflation_36 : decode cX1_setInflation 36 = .ok (.aload 4, 2) := by decide +kernel
theorem dX1_setInflation_38 : decode cX1_setInflation 38 = .ok (.arraylength, 1) := by decide +kernel
theorem dX1_setInflation_39 : decode cX1_setInflation 39 = .ok (.istore 5, 2) := by decide +kernel
theorem dX1_setInflation_41 : decode cX1_setInflation 41 = .ok (.iconst 0, 1) := by decide +kernel
theorem dX1_setInflation_42 : decode cX1_setInflation 42 = .ok (.istore 6, 2) := by decide +kernel
theorem dX1_setInflation_44 : decode cX1_setInflation 44 = .ok (.iload 6, 2) := by decide +kernel
theorem dX1_setInflation_46 : decode cX1_setInflation 46 = .ok (.iload 5, 2) := by decide +kernel
theorem dX1_setInflation_48 : decode cX1_setInflation 48 = .ok (.if_icmp .ge 30, 3) := by decide +kernel
theorem dX1_setInflation_51 : decode cX1_setInflation 51 = .ok (.aload 4, 2) := by decide +kernel
theorem dX1_setInflation_53 : decode cX1_setInflation 53 = .ok (.iload 6, 2) := by decide +kernel
theorem dX1_setInflation_55 : decode cX1_setInflation 55 = .ok (.aaload, 1) := by decide +kernel
theorem dX1_setInflation_56 : decode cX1_setInflation 56 = .ok (.astore 7, 2) := by decide +kernel
theorem dX1_setInflation_58 : decode cX1_setInflation 58 = .ok (.aload 7, 2) := by decide +kernel
theorem dX1_setInflation_60 : decode cX1_setInflation 60 = .ok (.ifnull 12, 3) := by decide +kernel
theorem dX1_setInflation_63 : decode cX1_setInflation 63 = .ok (.aload 7, 2) := by decide +kernel
theorem dX1_setInflation_65 : decode cX1_setInflation 65 = .ok (.aload_n 0, 1) := by decide +kernel
theorem dX1_setInflation_66 : decode cX1_setInflation 66 = .ok (.getfield 15, 3) := by decide +kernel
theorem dX1_setInflation_69 : decode cX1_setInflation 69 = .ok (.invokevirtual 40, 3) := by decide +kernel
theorem dX1_setInflation_72 : decode cX1_setInflation 72 = .ok (.iinc 6 1, 3) := by decide +kernel
theorem dX1_setInflation_75 : decode cX1_setInflation 75 = .ok (.goto (-31), 3) := by decide +kernel
theorem dX1_setInflation_78 : decode cX1_setInflation 78 = .ok (.iload_n 3, 1) := by decide +kernel
theorem dX1_setInflation_79 : decode cX1_setInflation 79 = .ok (.ireturn, 1) := by decide +kernel
set_option maxRecDepth 20000 in
theorem ggX1_die_X1_find : GoodIn wsX1_die wsX1_find := goodIn_ca (goodIn_r _ [13, 14, 15, 16, 22, 23, 24, 25] (by decide +kernel) (by decide +kernel)) (goodIn_sub (fun _ h => List.mem_cons_of_mem _ (List.mem_append_left _ (List.mem_append_right _ h))) (by decide +kernel))
set_option maxRecDepth 20000 in
theorem gX1_die_X1_find : GoodIn wsX1_die (wsV RX1 44 RX1 yX1_find wsX1_find) := goodIn_app (goodIn_of _ (by decide +kernel)) ggX1_die_X1_find
set_option maxRecDepth 20000 in
theorem ggX1_die_X1_requireRange : GoodIn wsX1_die wsX1_requireRange := goodIn_ca (goodIn_r _ [19, 20, 21] (by decide +kernel) (by decide +kernel)) (goodIn_sub (fun _ h => List.mem_cons_of_mem _ (List.mem_append_right _ h)) (by decide +kernel))
set_option maxRecDepth 20000 in
theorem gX1_die_X1_requireRange : GoodIn wsX1_die (va_wsS RX1 26 yX1_requireRange wsX1_requireRange) := goodIn_app (goodIn_of _ (by decide +kernel)) ggX1_die_X1_requireRange
theorem dX1_die_0 : decode cX1_die 0 = .ok (.aload_n 0, 1) := by decide +kernel
theorem dX1_die_1 : decode cX1_die 1 = .ok (.iload_n 1, 1) := by decide +kernel
theorem dX1_die_2 : decode cX1_die 2 = .ok (.invokevirtual 44, 3) := by decide +kernel
theorem dX1_die_5 : decode cX1_die 5 = .ok (.astore 4, 2) := by decide +kernel
theorem dX1_die_7 : decode cX1_die 7 = .ok (.iload_n 2, 1) := by decide +kernel
theorem dX1_die_8 : decode cX1_die 8 = .ok (.iconst 0, 1) := by decide +kernel
theorem dX1_die_9 : decode cX1_die 9 = .ok (.iconst 1, 1) := by decide +kernel
theorem dX1_die_10 : decode cX1_die 10 = .ok (.invokestatic 26, 3) := by decide +kernel
theorem dX1_die_13 : decode cX1_die 13 = .ok (.iload_n 3, 1) := by decide +kernel
theorem dX1_die_14 : decode cX1_die 14 = .ok (.iconst 0, 1) := by decide +kernel
theorem dX1_die_15 : decode cX1_die 15 = .ok (.aload_n 0, 1) := by decide +kernel
theorem dX1_die_16 : decode cX1_die 16 = .ok (.getfield 23, 3) := by decide +kernel
theorem dX1_die_19 : decode cX1_die 19 = .ok (.sipush 239, 3) := by decide +kernel
theorem dX1_die_22 : decode cX1_die 22 = .ok (.invokestatic 69, 3) := by decide +kernel
theorem dX1_die_25 : decode cX1_die 25 = .ok (.invokestatic 26, 3) := by decide +kernel
theorem dX1_die_28 : decode cX1_die 28 = .ok (.aload 4, 2) := by decide +kernel
theorem dX1_die_30 : decode cX1_die 30 = .ok (.getfield 75, 3) := by decide +kernel
theorem dX1_die_33 : decode cX1_die 33 = .ok (.iload_n 2, 1) := by decide +kernel
theorem dX1_die_34 : decode cX1_die 34 = .ok (.iaload, 1) := by decide +kernel
theorem dX1_die_35 : decode cX1_die 35 = .ok (.sipush 240, 3) := by decide +kernel
theorem dX1_die_38 : decode cX1_die 38 = .ok (.if_icmp .eq 13, 3) := by decide +kernel
theorem dX1_die_41 : decode cX1_die 41 = .ok (.new 31, 3) := by decide +kernel
theorem dX1_die_44 : decode cX1_die 44 = .ok (.dup, 1) := by decide +kernel
theorem dX1_die_45 : decode cX1_die 45 = .ok (.ldc 78, 2) := by decide +kernel
theorem dX1_die_47 : decode cX1_die 47 = .ok (.invokespecial 35, 3) := by decide +kernel
theorem dX1_die_50 : decode cX1_die 50 = .ok (.athrow, 1) := by decide +kernel
theorem dX1_die_51 : decode cX1_die 51 = .ok (.aload 4, 2) := by decide +kernel
theorem dX1_die_53 : decode cX1_die 53 = .ok (.getfield 75, 3) := by decide +kernel
theorem dX1_die_56 : decode cX1_die 56 = .ok (.iload_n 2, 1) := by decide +kernel
theorem dX1_die_57 : decode cX1_die 57 = .ok (.iload_n 3, 1) := by decide +kernel
theorem dX1_die_58 : decode cX1_die 58 = .ok (.iastore, 1) := by decide +kernel
theorem dX1_die_59 : decode cX1_die 59 = .ok (.return_, 1) := by decide +kernel
set_option maxRecDepth 20000 in
theorem ggX1_takeBack_X1_find : GoodIn wsX1_takeBack wsX1_find := goodIn_ca (goodIn_r _ [8, 9, 10, 11, 30, 31, 32, 33] (by decide +kernel) (by decide +kernel)) (goodIn_sub (fun _ h => List.mem_cons_of_mem _ (List.mem_append_left _ (List.mem_append_right _ h))) (by decide +kernel))
set_option maxRecDepth 20000 in
theorem gX1_takeBack_X1_find : GoodIn wsX1_takeBack (wsV RX1 44 RX1 yX1_find wsX1_find) := goodIn_app (goodIn_of _ (by decide +kernel)) ggX1_takeBack_X1_find
set_option maxRecDepth 20000 in
theorem ggX1_takeBack_X1_requireRange : GoodIn wsX1_takeBack wsX1_requireRange := goodIn_ca (goodIn_r _ [14, 15, 16] (by decide +kernel) (by decide +kernel)) (goodIn_sub (fun _ h => List.mem_cons_of_mem _ (List.mem_append_right _ h)) (by decide +kernel))
set_option maxRecDepth 20000 in
theorem gX1_takeBack_X1_requireRange : GoodIn wsX1_takeBack (va_wsS RX1 26 yX1_requireRange wsX1_requireRange) := goodIn_app (goodIn_of _ (by decide +kernel)) ggX1_takeBack_X1_requireRange
theorem dX1_takeBack_0 : decode cX1_takeBack 0 = .ok (.aload_n 0, 1) := by decide +kernel
theorem dX1_takeBack_1 : decode cX1_takeBack 1 = .ok (.iload_n 1, 1) := by decide +kernel
theorem dX1_takeBack_2 : decode cX1_takeBack 2 = .ok (.invokevirtual 44, 3) := by decide +kernel
theorem dX1_takeBack_5 : decode cX1_takeBack 5 = .ok (.astore_n 3, 1) := by decide +kernel
theorem dX1_takeBack_6 : decode cX1_takeBack 6 = .ok (.iload_n 2, 1) := by decide +kernel
theorem dX1_takeBack_7 : decode cX1_takeBack 7 = .ok (.iconst 0, 1) := by decide +kernel
theorem dX1_takeBack_8 : decode cX1_takeBack 8 = .ok (.iconst 1, 1) := by decide +kernel
theorem dX1_takeBack_9 : decode cX1_takeBack 9 = .ok (.invokestatic 26, 3) := by decide +kernel
theorem dX1_takeBack_12 : decode cX1_takeBack 12 = .ok (.aload_n 3, 1) := by decide +kernel
theorem dX1_takeBack_13 : decode cX1_takeBack 13 = .ok (.getfield 75, 3) := by decide +kernel
theorem dX1_takeBack_16 : decode cX1_takeBack 16 = .ok (.iload_n 2, 1) := by decide +kernel
theorem dX1_takeBack_17 : decode cX1_takeBack 17 = .ok (.iaload, 1) := by decide +kernel
theorem dX1_takeBack_18 : decode cX1_takeBack 18 = .ok (.istore 4, 2) := by decide +kernel
theorem dX1_takeBack_20 : decode cX1_takeBack 20 = .ok (.iload 4, 2) := by decide +kernel
theorem dX1_takeBack_22 : decode cX1_takeBack 22 = .ok (.sipush 240, 3) := by decide +kernel
theorem dX1_takeBack_25 : decode cX1_takeBack 25 = .ok (.if_icmp .ne 13, 3) := by decide +kernel
theorem dX1_takeBack_28 : decode cX1_takeBack 28 = .ok (.new 31, 3) := by decide +kernel
theorem dX1_takeBack_31 : decode cX1_takeBack 31 = .ok (.dup, 1) := by decide +kernel
theorem dX1_takeBack_32 : decode cX1_takeBack 32 = .ok (.ldc 80, 2) := by decide +kernel
theorem dX1_takeBack_34 : decode cX1_takeBack 34 = .ok (.invokespecial 35, 3) := by decide +kernel
theorem dX1_takeBack_37 : decode cX1_takeBack 37 = .ok (.athrow, 1) := by decide +kernel
theorem dX1_takeBack_38 : decode cX1_takeBack 38 = .ok (.aload_n 3, 1) := by decide +kernel
theorem dX1_takeBack_39 : decode cX1_takeBack 39 = .ok (.getfield 75, 3) := by decide +kernel
theorem dX1_takeBack_42 : decode cX1_takeBack 42 = .ok (.iload_n 2, 1) := by decide +kernel
theorem dX1_takeBack_43 : decode cX1_takeBack 43 = .ok (.sipush 240, 3) := by decide +kernel
theorem dX1_takeBack_46 : decode cX1_takeBack 46 = .ok (.iastore, 1) := by decide +kernel
theorem dX1_takeBack_47 : decode cX1_takeBack 47 = .ok (.iload 4, 2) := by decide +kernel
theorem dX1_takeBack_49 : decode cX1_takeBack 49 = .ok (.ireturn, 1) := by decide +kernel
set_option maxRecDepth 20000 in
theorem ggX1_run_X0_payIn : GoodIn wsX1_run wsX0_payIn := goodIn_r _ [9, 10, 11, 12, 13, 14, 15, 16, 17, 18, 8, 19, 20, 21, 22, 23, 24, 25, 26, 27, 28, 29, 30, 31, 32, 33, 34, 35, 36, 37, 38, 39, 40, 41, 42, 43, 44, 45, 46, 47, 48, 49, 50, 51, 52, 53, 54, 59, 60, 61, 62, 63, 64, 65, 66, 67, 68, 69, 70, 71] (by decide +kernel) (by decide +kernel)
set_option maxRecDepth 20000 in
theorem gX1_run_X0_payIn : GoodIn wsX1_run (wsV RX1 84 RX0 yX0_payIn wsX0_payIn) := goodIn_app (goodIn_of _ (by decide +kernel)) ggX1_run_X0_payIn
theorem dX1_run_0 : decode cX1_run 0 = .ok (.aload_n 0, 1) := by decide +kernel
theorem dX1_run_1 : decode cX1_run 1 = .ok (.getfield 23, 3) := by decide +kernel
theorem dX1_run_4 : decode cX1_run 4 = .ok (.sipush 240, 3) := by decide +kernel
theorem dX1_run_7 : decode cX1_run 7 = .ok (.if_icmp .lt 13, 3) := by decide +kernel
theorem dX1_run_10 : decode cX1_run 10 = .ok (.new 31, 3) := by decide +kernel
theorem dX1_run_13 : decode cX1_run 13 = .ok (.dup, 1) := by decide +kernel
theorem dX1_run_14 : decode cX1_run 14 = .ok (.ldc 82, 2) := by decide +kernel
theorem dX1_run_16 : decode cX1_run 16 = .ok (.invokespecial 35, 3) := by decide +kernel
theorem dX1_run_19 : decode cX1_run 19 = .ok (.athrow, 1) := by decide +kernel
theorem dX1_run_20 : decode cX1_run 20 = .ok (.lconst 0, 1) := by decide +kernel
theorem dX1_run_21 : decode cX1_run 21 = .ok (.lstore_n 1, 1) := by decide +kernel
theorem dX1_run_22 : decode cX1_run 22 = .ok (.aload_n 0, 1) := by decide +kernel
theorem dX1_run_23 : decode cX1_run 23 = .ok (.getfield 11, 3) := by decide +kernel
theorem dX1_run_26 : decode cX1_run 26 = .ok (.astore_n 3, 1) := by decide +kernel
theorem dX1_run_27 : decode cX1_run 27 = .ok (.aload_n 3, 1) := by decide +kernel
theorem dX1_run_28 : decode cX1_run 28 = .ok (.arraylength, 1) := by decide +kernel
theorem dX1_run_29 : decode cX1_run 29 = .ok (.istore 4, 2) := by decide +kernel
theorem dX1_run_31 : decode cX1_run 31 = .ok (.iconst 0, 1) := by decide +kernel
theorem dX1_run_32 : decode cX1_run 32 = .ok (.istore 5, 2) := by decide +kernel
theorem dX1_run_34 : decode cX1_run 34 = .ok (.iload 5, 2) := by decide +kernel
theorem dX1_run_36 : decode cX1_run 36 = .ok (.iload 4, 2) := by decide +kernel
theorem dX1_run_38 : decode cX1_run 38 = .ok (.if_icmp .ge 32, 3) := by decide +kernel
theorem dX1_run_41 : decode cX1_run 41 = .ok (.aload_n 3, 1) := by decide +kernel
theorem dX1_run_42 : decode cX1_run 42 = .ok (.iload 5, 2) := by decide +kernel
theorem dX1_run_44 : decode cX1_run 44 = .ok (.aaload, 1) := by decide +kernel
theorem dX1_run_45 : decode cX1_run 45 = .ok (.astore 6, 2) := by decide +kernel
theorem dX1_run_47 : decode cX1_run 47 = .ok (.aload 6, 2) := by decide +kernel
theorem dX1_run_49 : decode cX1_run 49 = .ok (.ifnull 15, 3) := by decide +kernel
theorem dX1_run_52 : decode cX1_run 52 = .ok (.lload_n 1, 1) := by decide +kernel
theorem dX1_run_53 : decode cX1_run 53 = .ok (.aload 6, 2) := by decide +kernel
theorem dX1_run_55 : decode cX1_run 55 = .ok (.aload_n 0, 1) := by decide +kernel
theorem dX1_run_56 : decode cX1_run 56 = .ok (.getfield 23, 3) := by decide +kernel
theorem dX1_run_59 : decode cX1_run 59 = .ok (.invokevirtual 84, 3) := by decide +kernel
theorem dX1_run_62 : decode cX1_run 62 = .ok (.ladd, 1) := by decide +kernel
theorem dX1_run_63 : decode cX1_run 63 = .ok (.lstore_n 1, 1) := by decide +kernel
theorem dX1_run_64 : decode cX1_run 64 = .ok (.iinc 5 1, 3) := by decide +kernel
theorem dX1_run_67 : decode cX1_run 67 = .ok (.goto (-33), 3) := by decide +kernel
theorem dX1_run_70 : decode cX1_run 70 = .ok (.aload_n 0, 1) := by decide +kernel
theorem dX1_run_71 : decode cX1_run 71 = .ok (.dup, 1) := by decide +kernel
theorem dX1_run_72 : decode cX1_run 72 = .ok (.getfield 23, 3) := by decide +kernel
theorem dX1_run_75 : decode cX1_run 75 = .ok (.iconst 1, 1) := by decide +kernel
theorem dX1_run_76 : decode cX1_run 76 = .ok (.iadd, 1) := by decide +kernel
theorem dX1_run_77 : decode cX1_run 77 = .ok (.putfield 23, 3) := by decide +kernel
theorem dX1_run_80 : decode cX1_run 80 = .ok (.lload_n 1, 1) := by decide +kernel
theorem dX1_run_81 : decode cX1_run 81 = .ok (.lreturn, 1) := by decide +kernel
theorem dX1_month_0 : decode cX1_month 0 = .ok (.aload_n 0, 1) := by decide +kernel
theorem dX1_month_1 : decode cX1_month 1 = .ok (.getfield 23, 3) := by decide +kernel
theorem dX1_month_4 : decode cX1_month 4 = .ok (.ireturn, 1) := by decide +kernel
set_option maxRecDepth 20000 in
theorem ggX1_giveBack_X1_find : GoodIn wsX1_giveBack wsX1_find := goodIn_ca (goodIn_r _ [10, 11, 12, 13, 68, 69, 70, 71] (by decide +kernel) (by decide +kernel)) (goodIn_sub (fun _ h => List.mem_cons_of_mem _ (List.mem_append_left _ (List.mem_append_right _ h))) (by decide +kernel))
set_option maxRecDepth 20000 in
theorem gX1_giveBack_X1_find : GoodIn wsX1_giveBack (wsV RX1 44 RX1 yX1_find wsX1_find) := goodIn_app (goodIn_of _ (by decide +kernel)) ggX1_giveBack_X1_find
set_option maxRecDepth 20000 in
theorem ggX1_giveBack_X1_requireRange : GoodIn wsX1_giveBack wsX1_requireRange := goodIn_ca (goodIn_r _ [16, 17, 18] (by decide +kernel) (by decide +kernel)) (goodIn_sub (fun _ h => List.mem_cons_of_mem _ (List.mem_append_right _ h)) (by decide +kernel))
set_option maxRecDepth 20000 in
theorem gX1_giveBack_X1_requireRange : GoodIn wsX1_giveBack (va_wsS RX1 26 yX1_requireRange wsX1_requireRange) := goodIn_app (goodIn_of _ (by decide +kernel)) ggX1_giveBack_X1_requireRange
set_option maxRecDepth 20000 in
theorem ggX1_giveBack_X0_debtAhead : GoodIn wsX1_giveBack wsX0_debtAhead := goodIn_r _ [23, 24, 25, 26, 27, 28, 29, 30, 31, 22, 32, 33, 34, 35, 36, 37, 38, 39, 40, 41, 42, 43, 44, 45, 46, 47, 48, 49, 50, 51, 52, 53, 54, 55, 56, 57, 58, 59, 60, 61, 62, 63, 64, 65, 66, 67, 72, 73, 74, 75, 76, 77, 78, 79, 80, 81, 82, 83, 84] (by decide +kernel) (by decide +kernel)
set_option maxRecDepth 20000 in
theorem gX1_giveBack_X0_debtAhead : GoodIn wsX1_giveBack (wsV RX1 89 RX0 yX0_debtAhead wsX0_debtAhead) := goodIn_app (goodIn_of _ (by decide +kernel)) ggX1_giveBack_X0_debtAhead
theorem dX1_giveBack_0 : decode cX1_giveBack 0 = .ok (.aload_n 0, 1) := by decide +kernel
theorem dX1_giveBack_1 : decode cX1_giveBack 1 = .ok (.iload_n 1, 1) := by decide +kernel
theorem dX1_giveBack_2 : decode cX1_giveBack 2 = .ok (.invokevirtual 44, 3) := by decide +kernel
theorem dX1_giveBack_5 : decode cX1_giveBack 5 = .ok (.astore_n 3, 1) := by decide +kernel
theorem dX1_giveBack_6 : decode cX1_giveBack 6 = .ok (.iload_n 2, 1) := by decide +kernel
theorem dX1_giveBack_7 : decode cX1_giveBack 7 = .ok (.iconst 1, 1) := by decide +kernel
theorem dX1_giveBack_8 : decode cX1_giveBack 8 = .ok (.ldc 88, 2) := by decide +kernel
theorem dX1_giveBack_10 : decode cX1_giveBack 10 = .ok (.invokestatic 26, 3) := by decide +kernel
theorem dX1_giveBack_13 : decode cX1_giveBack 13 = .ok (.aload_n 3, 1) := by decide +kernel
theorem dX1_giveBack_14 : decode cX1_giveBack 14 = .ok (.aload_n 0, 1) := by decide +kernel
theorem dX1_giveBack_15 : decode cX1_giveBack 15 = .ok (.getfield 23, 3) := by decide +kernel
theorem dX1_giveBack_18 : decode cX1_giveBack 18 = .ok (.invokevirtual 89, 3) := by decide +kernel
theorem dX1_giveBack_21 : decode cX1_giveBack 21 = .ok (.lstore 4, 2) := by decide +kernel
theorem dX1_giveBack_23 : decode cX1_giveBack 23 = .ok (.lload 4, 2) := by decide +kernel
theorem dX1_giveBack_25 : decode cX1_giveBack 25 = .ok (.iload_n 2, 1) := by decide +kernel
theorem dX1_giveBack_26 : decode cX1_giveBack 26 = .ok (.i2l, 1) := by decide +kernel
theorem dX1_giveBack_27 : decode cX1_giveBack 27 = .ok (.lcmp, 1) := by decide +kernel
theorem dX1_giveBack_28 : decode cX1_giveBack 28 = .ok (.ifCond .ge 13, 3) := by decide +kernel
theorem dX1_giveBack_31 : decode cX1_giveBack 31 = .ok (.new 31, 3) := by decide +kernel
theorem dX1_giveBack_34 : decode cX1_giveBack 34 = .ok (.dup, 1) := by decide +kernel
theorem dX1_giveBack_35 : decode cX1_giveBack 35 = .ok (.ldc 92, 2) := by decide +kernel
theorem dX1_giveBack_37 : decode cX1_giveBack 37 = .ok (.invokespecial 35, 3) := by decide +kernel
theorem dX1_giveBack_40 : decode cX1_giveBack 40 = .ok (.athrow, 1) := by decide +kernel
theorem dX1_giveBack_41 : decode cX1_giveBack 41 = .ok (.aload_n 3, 1) := by decide +kernel
theorem dX1_giveBack_42 : decode cX1_giveBack 42 = .ok (.dup, 1) := by decide +kernel
theorem dX1_giveBack_43 : decode cX1_giveBack 43 = .ok (.getfield 94, 3) := by decide +kernel
theorem dX1_giveBack_46 : decode cX1_giveBack 46 = .ok (.iload_n 2, 1) := by decide +kernel
theorem dX1_giveBack_47 : decode cX1_giveBack 47 = .ok (.i2l, 1) := by decide +kernel
theorem dX1_giveBack_48 : decode cX1_giveBack 48 = .ok (.lsub, 1) := by decide +kernel
theorem dX1_giveBack_49 : decode cX1_giveBack 49 = .ok (.putfield 94, 3) := by decide +kernel
theorem dX1_giveBack_52 : decode cX1_giveBack 52 = .ok (.lload 4, 2) := by decide +kernel
theorem dX1_giveBack_54 : decode cX1_giveBack 54 = .ok (.iload_n 2, 1) := by decide +kernel
theorem dX1_giveBack_55 : decode cX1_giveBack 55 = .ok (.i2l, 1) := by decide +kernel
theorem dX1_giveBack_56 : decode cX1_giveBack 56 = .ok (.lsub, 1) := by decide +kernel
theorem dX1_giveBack_57 : decode cX1_giveBack 57 = .ok (.lreturn, 1) := by decide +kernel
set_option maxRecDepth 20000 in
theorem ggX1_paid_X1_find : GoodIn wsX1_paid wsX1_find := goodIn_ca (goodIn_r _ [7, 8, 9, 10, 16, 17, 18, 19] (by decide +kernel) (by decide +kernel)) (goodIn_sub (fun _ h => List.mem_cons_of_mem _ (List.mem_append_left _ (List.mem_append_right _ h))) (by decide +kernel))
set_option maxRecDepth 20000 in
theorem gX1_paid_X1_find : GoodIn wsX1_paid (wsV RX1 44 RX1 yX1_find wsX1_find) := goodIn_app (goodIn_of _ (by decide +kernel)) ggX1_paid_X1_find
set_option maxRecDepth 20000 in
theorem ggX1_paid_X1_requireRange : GoodIn wsX1_paid wsX1_requireRange := goodIn_ca (goodIn_r _ [13, 14, 15] (by decide +kernel) (by decide +kernel)) (goodIn_sub (fun _ h => List.mem_cons_of_mem _ (List.mem_append_right _ h)) (by decide +kernel))
set_option maxRecDepth 20000 in
theorem gX1_paid_X1_requireRange : GoodIn wsX1_paid (va_wsS RX1 26 yX1_requireRange wsX1_requireRange) := goodIn_app (goodIn_of _ (by decide +kernel)) ggX1_paid_X1_requireRange
theorem dX1_paid_0 : decode cX1_paid 0 = .ok (.aload_n 0, 1) := by decide +kernel
theorem dX1_paid_1 : decode cX1_paid 1 = .ok (.iload_n 1, 1) := by decide +kernel
theorem dX1_paid_2 : decode cX1_paid 2 = .ok (.invokevirtual 44, 3) := by decide +kernel
theorem dX1_paid_5 : decode cX1_paid 5 = .ok (.astore_n 3, 1) := by decide +kernel
theorem dX1_paid_6 : decode cX1_paid 6 = .ok (.iload_n 2, 1) := by decide +kernel
theorem dX1_paid_7 : decode cX1_paid 7 = .ok (.iconst 0, 1) := by decide +kernel
theorem dX1_paid_8 : decode cX1_paid 8 = .ok (.aload_n 0, 1) := by decide +kernel
theorem dX1_paid_9 : decode cX1_paid 9 = .ok (.getfield 23, 3) := by decide +kernel
theorem dX1_paid_12 : decode cX1_paid 12 = .ok (.iconst 1, 1) := by decide +kernel
theorem dX1_paid_13 : decode cX1_paid 13 = .ok (.isub, 1) := by decide +kernel
theorem dX1_paid_14 : decode cX1_paid 14 = .ok (.invokestatic 26, 3) := by decide +kernel
theorem dX1_paid_17 : decode cX1_paid 17 = .ok (.aload_n 3, 1) := by decide +kernel
theorem dX1_paid_18 : decode cX1_paid 18 = .ok (.getfield 98, 3) := by decide +kernel
theorem dX1_paid_21 : decode cX1_paid 21 = .ok (.iload_n 2, 1) := by decide +kernel
theorem dX1_paid_22 : decode cX1_paid 22 = .ok (.laload, 1) := by decide +kernel
theorem dX1_paid_23 : decode cX1_paid 23 = .ok (.lreturn, 1) := by decide +kernel
set_option maxRecDepth 20000 in
theorem ggX1_paidInAll_X1_find : GoodIn wsX1_paidInAll wsX1_find := goodIn_ca (goodIn_r _ [6, 7, 8, 9, 23, 24, 25, 26] (by decide +kernel) (by decide +kernel)) (goodIn_sub (fun _ h => List.mem_cons_of_mem _ (List.mem_append_right _ h)) (by decide +kernel))
set_option maxRecDepth 20000 in
theorem gX1_paidInAll_X1_find : GoodIn wsX1_paidInAll (wsV RX1 44 RX1 yX1_find wsX1_find) := goodIn_app (goodIn_of _ (by decide +kernel)) ggX1_paidInAll_X1_find
theorem dX1_paidInAll_0 : decode cX1_paidInAll 0 = .ok (.aload_n 0, 1) := by decide +kernel
theorem dX1_paidInAll_1 : decode cX1_paidInAll 1 = .ok (.iload_n 1, 1) := by decide +kernel
theorem dX1_paidInAll_2 : decode cX1_paidInAll 2 = .ok (.invokevirtual 44, 3) := by decide +kernel
theorem dX1_paidInAll_5 : decode cX1_paidInAll 5 = .ok (.getfield 94, 3) := by decide +kernel
theorem dX1_paidInAll_8 : decode cX1_paidInAll 8 = .ok (.lreturn, 1) := by decide +kernel
set_option maxRecDepth 20000 in
theorem ggX1_owes_X1_find : GoodIn wsX1_owes wsX1_find := goodIn_ca (goodIn_r _ [6, 7, 8, 9, 59, 60, 61, 62] (by decide +kernel) (by decide +kernel)) (goodIn_sub (fun _ h => List.mem_cons_of_mem _ (List.mem_append_right _ h)) (by decide +kernel))
set_option maxRecDepth 20000 in
theorem gX1_owes_X1_find : GoodIn wsX1_owes (wsV RX1 44 RX1 yX1_find wsX1_find) := goodIn_app (goodIn_of _ (by decide +kernel)) ggX1_owes_X1_find
set_option maxRecDepth 20000 in
theorem ggX1_owes_X0_debtAhead : GoodIn wsX1_owes wsX0_debtAhead := goodIn_r _ [14, 15, 16, 17, 18, 19, 20, 21, 22, 13, 23, 24, 25, 26, 27, 28, 29, 30, 31, 32, 33, 34, 35, 36, 37, 38, 39, 40, 41, 42, 43, 44, 45, 46, 47, 48, 49, 50, 51, 52, 53, 54, 55, 56, 57, 58, 63, 64, 65, 66, 67, 68, 69, 70, 71, 72, 73, 74, 75] (by decide +kernel) (by decide +kernel)
set_option maxRecDepth 20000 in
theorem gX1_owes_X0_debtAhead : GoodIn wsX1_owes (wsV RX1 89 RX0 yX0_debtAhead wsX0_debtAhead) := goodIn_app (goodIn_of _ (by decide +kernel)) ggX1_owes_X0_debtAhead
theorem dX1_owes_0 : decode cX1_owes 0 = .ok (.aload_n 0, 1) := by decide +kernel
theorem dX1_owes_1 : decode cX1_owes 1 = .ok (.iload_n 1, 1) := by decide +kernel
theorem dX1_owes_2 : decode cX1_owes 2 = .ok (.invokevirtual 44, 3) := by decide +kernel
theorem dX1_owes_5 : decode cX1_owes 5 = .ok (.aload_n 0, 1) := by decide +kernel
theorem dX1_owes_6 : decode cX1_owes 6 = .ok (.getfield 23, 3) := by decide +kernel
theorem dX1_owes_9 : decode cX1_owes 9 = .ok (.invokevirtual 89, 3) := by decide +kernel
theorem dX1_owes_12 : decode cX1_owes 12 = .ok (.lreturn, 1) := by decide +kernel
set_option maxRecDepth 20000 in
theorem ggX1_fullAmount_X1_find : GoodIn wsX1_fullAmount wsX1_find := goodIn_ca (goodIn_r _ [5, 6, 7, 8, 24, 25, 26, 27] (by decide +kernel) (by decide +kernel)) (goodIn_sub (fun _ h => List.mem_cons_of_mem _ (List.mem_append_left _ (List.mem_append_right _ h))) (by decide +kernel))
set_option maxRecDepth 20000 in
theorem gX1_fullAmount_X1_find : GoodIn wsX1_fullAmount (wsV RX1 44 RX1 yX1_find wsX1_find) := goodIn_app (goodIn_of _ (by decide +kernel)) ggX1_fullAmount_X1_find
set_option maxRecDepth 20000 in
theorem ggX1_fullAmount_X1_requireMonth : GoodIn wsX1_fullAmount wsX1_requireMonth := goodIn_ca (goodIn_r _ [11, 12, 13, 4, 14, 15, 16] (by decide +kernel) (by decide +kernel)) (goodIn_sub (fun _ h => List.mem_cons_of_mem _ (List.mem_append_right _ h)) (by decide +kernel))
set_option maxRecDepth 20000 in
theorem gX1_fullAmount_X1_requireMonth : GoodIn wsX1_fullAmount (va_wsS RX1 102 yX1_requireMonth wsX1_requireMonth) := goodIn_app (goodIn_of _ (by decide +kernel)) ggX1_fullAmount_X1_requireMonth
set_option maxRecDepth 20000 in
theorem ggX1_fullAmount_X0_fullIn : GoodIn wsX1_fullAmount wsX0_fullIn := goodIn_r _ [21, 22, 23, 28, 29, 30, 31, 32, 33, 34, 35, 36, 37, 38, 39, 40] (by decide +kernel) (by decide +kernel)
set_option maxRecDepth 20000 in
theorem gX1_fullAmount_X0_fullIn : GoodIn wsX1_fullAmount (wsV RX1 106 RX0 yX0_fullIn wsX0_fullIn) := goodIn_app (goodIn_of _ (by decide +kernel)) ggX1_fullAmount_X0_fullIn
theorem dX1_fullAmount_0 : decode cX1_fullAmount 0 = .ok (.aload_n 0, 1) := by decide +kernel
theorem dX1_fullAmount_1 : decode cX1_fullAmount 1 = .ok (.iload_n 1, 1) := by decide +kernel
theorem dX1_fullAmount_2 : decode cX1_fullAmount 2 = .ok (.invokevirtual 44, 3) := by decide +kernel
theorem dX1_fullAmount_5 : decode cX1_fullAmount 5 = .ok (.astore_n 3, 1) := by decide +kernel
theorem dX1_fullAmount_6 : decode cX1_fullAmount 6 = .ok (.iload_n 2, 1) := by decide +kernel
theorem dX1_fullAmount_7 : decode cX1_fullAmount 7 = .ok (.invokestatic 102, 3) := by decide +kernel
theorem dX1_fullAmount_10 : decode cX1_fullAmount 10 = .ok (.aload_n 3, 1) := by decide +kernel
theorem dX1_fullAmount_11 : decode cX1_fullAmount 11 = .ok (.iload_n 2, 1) := by decide +kernel
theorem dX1_fullAmount_12 : decode cX1_fullAmount 12 = .ok (.invokevirtual 106, 3) := by decide +kernel
theorem dX1_fullAmount_15 : decode cX1_fullAmount 15 = .ok (.ireturn, 1) := by decide +kernel
set_option maxRecDepth 20000 in
theorem ggX1_carry_X1_find : GoodIn wsX1_carry wsX1_find := goodIn_ca (goodIn_r _ [5, 6, 7, 8, 24, 25, 26, 27] (by decide +kernel) (by decide +kernel)) (goodIn_sub (fun _ h => List.mem_cons_of_mem _ (List.mem_append_left _ (List.mem_append_right _ h))) (by decide +kernel))
set_option maxRecDepth 20000 in
theorem gX1_carry_X1_find : GoodIn wsX1_carry (wsV RX1 44 RX1 yX1_find wsX1_find) := goodIn_app (goodIn_of _ (by decide +kernel)) ggX1_carry_X1_find
set_option maxRecDepth 20000 in
theorem ggX1_carry_X1_requireMonth : GoodIn wsX1_carry wsX1_requireMonth := goodIn_ca (goodIn_r _ [11, 12, 13, 4, 14, 15, 16] (by decide +kernel) (by decide +kernel)) (goodIn_sub (fun _ h => List.mem_cons_of_mem _ (List.mem_append_right _ h)) (by decide +kernel))
set_option maxRecDepth 20000 in
theorem gX1_carry_X1_requireMonth : GoodIn wsX1_carry (va_wsS RX1 102 yX1_requireMonth wsX1_requireMonth) := goodIn_app (goodIn_of _ (by decide +kernel)) ggX1_carry_X1_requireMonth
set_option maxRecDepth 20000 in
theorem ggX1_carry_X0_carryIn : GoodIn wsX1_carry wsX0_carryIn := goodIn_r _ [21, 22, 23, 28, 29, 30, 31, 32, 33, 34, 35, 36, 37, 38, 39, 40] (by decide +kernel) (by decide +kernel)
set_option maxRecDepth 20000 in
theorem gX1_carry_X0_carryIn : GoodIn wsX1_carry (wsV RX1 110 RX0 yX0_carryIn wsX0_carryIn) := goodIn_app (goodIn_of _ (by decide +kernel)) ggX1_carry_X0_carryIn
theorem dX1_carry_0 : decode cX1_carry 0 = .ok (.aload_n 0, 1) := by decide +kernel
theorem dX1_carry_1 : decode cX1_carry 1 = .ok (.iload_n 1, 1) := by decide +kernel
theorem dX1_carry_2 : decode cX1_carry 2 = .ok (.invokevirtual 44, 3) := by decide +kernel
theorem dX1_carry_5 : decode cX1_carry 5 = .ok (.astore_n 3, 1) := by decide +kernel
theorem dX1_carry_6 : decode cX1_carry 6 = .ok (.iload_n 2, 1) := by decide +kernel
theorem dX1_carry_7 : decode cX1_carry 7 = .ok (.invokestatic 102, 3) := by decide +kernel
theorem dX1_carry_10 : decode cX1_carry 10 = .ok (.aload_n 3, 1) := by decide +kernel
theorem dX1_carry_11 : decode cX1_carry 11 = .ok (.iload_n 2, 1) := by decide +kernel
theorem dX1_carry_12 : decode cX1_carry 12 = .ok (.invokevirtual 110, 3) := by decide +kernel
theorem dX1_carry_15 : decode cX1_carry 15 = .ok (.ireturn, 1) := by decide +kernel
set_option maxRecDepth 20000 in
theorem ggX1_entitled_X1_find : GoodIn wsX1_entitled wsX1_find := goodIn_ca (goodIn_r _ [5, 6, 7, 8, 61, 62, 63, 64] (by decide +kernel) (by decide +kernel)) (goodIn_sub (fun _ h => List.mem_cons_of_mem _ (List.mem_append_left _ (List.mem_append_right _ h))) (by decide +kernel))
set_option maxRecDepth 20000 in
theorem gX1_entitled_X1_find : GoodIn wsX1_entitled (wsV RX1 44 RX1 yX1_find wsX1_find) := goodIn_app (goodIn_of _ (by decide +kernel)) ggX1_entitled_X1_find
set_option maxRecDepth 20000 in
theorem ggX1_entitled_X1_requireMonth : GoodIn wsX1_entitled wsX1_requireMonth := goodIn_ca (goodIn_r _ [11, 12, 13, 4, 14, 15, 16] (by decide +kernel) (by decide +kernel)) (goodIn_sub (fun _ h => List.mem_cons_of_mem _ (List.mem_append_right _ h)) (by decide +kernel))
set_option maxRecDepth 20000 in
theorem gX1_entitled_X1_requireMonth : GoodIn wsX1_entitled (va_wsS RX1 102 yX1_requireMonth wsX1_requireMonth) := goodIn_app (goodIn_of _ (by decide +kernel)) ggX1_entitled_X1_requireMonth
set_option maxRecDepth 20000 in
theorem ggX1_entitled_X0_dueIn : GoodIn wsX1_entitled wsX0_dueIn := goodIn_r _ [21, 22, 23, 24, 20, 25, 26, 27, 28, 29, 30, 31, 32, 33, 34, 35, 36, 37, 38, 39, 40, 41, 42, 43, 44, 45, 46, 47, 48, 49, 50, 51, 52, 53, 54, 55, 56, 57, 58, 59, 60, 65, 66, 67, 68, 69, 70, 71, 72, 73, 74, 75, 76, 77] (by decide +kernel) (by decide +kernel)
set_option maxRecDepth 20000 in
theorem gX1_entitled_X0_dueIn : GoodIn wsX1_entitled (wsV RX1 113 RX0 yX0_dueIn wsX0_dueIn) := goodIn_app (goodIn_of _ (by decide +kernel)) ggX1_entitled_X0_dueIn
theorem dX1_entitled_0 : decode cX1_entitled 0 = .ok (.aload_n 0, 1) := by decide +kernel
theorem dX1_entitled_1 : decode cX1_entitled 1 = .ok (.iload_n 1, 1) := by decide +kernel
theorem dX1_entitled_2 : decode cX1_entitled 2 = .ok (.invokevirtual 44, 3) := by decide +kernel
theorem dX1_entitled_5 : decode cX1_entitled 5 = .ok (.astore_n 3, 1) := by decide +kernel
theorem dX1_entitled_6 : decode cX1_entitled 6 = .ok (.iload_n 2, 1) := by decide +kernel
theorem dX1_entitled_7 : decode cX1_entitled 7 = .ok (.invokestatic 102, 3) := by decide +kernel
theorem dX1_entitled_10 : decode cX1_entitled 10 = .ok (.aload_n 3, 1) := by decide +kernel
theorem dX1_entitled_11 : decode cX1_entitled 11 = .ok (.iload_n 2, 1) := by decide +kernel
theorem dX1_entitled_12 : decode cX1_entitled 12 = .ok (.invokevirtual 113, 3) := by decide +kernel
theorem dX1_entitled_15 : decode cX1_entitled 15 = .ok (.lreturn, 1) := by decide +kernel
set_option maxRecDepth 20000 in
theorem ggX1_entitledUpTo_X1_find : GoodIn wsX1_entitledUpTo wsX1_find := goodIn_ca (goodIn_r _ [5, 6, 7, 8, 61, 62, 63, 64] (by decide +kernel) (by decide +kernel)) (goodIn_sub (fun _ h => List.mem_cons_of_mem _ (List.mem_append_left _ (List.mem_append_right _ h))) (by decide +kernel))
set_option maxRecDepth 20000 in
theorem gX1_entitledUpTo_X1_find : GoodIn wsX1_entitledUpTo (wsV RX1 44 RX1 yX1_find wsX1_find) := goodIn_app (goodIn_of _ (by decide +kernel)) ggX1_entitledUpTo_X1_find
set_option maxRecDepth 20000 in
theorem ggX1_entitledUpTo_X1_requireMonth : GoodIn wsX1_entitledUpTo wsX1_requireMonth := goodIn_ca (goodIn_r _ [11, 12, 13, 4, 14, 15, 16] (by decide +kernel) (by decide +kernel)) (goodIn_sub (fun _ h => List.mem_cons_of_mem _ (List.mem_append_right _ h)) (by decide +kernel))
set_option maxRecDepth 20000 in
theorem gX1_entitledUpTo_X1_requireMonth : GoodIn wsX1_entitledUpTo (va_wsS RX1 102 yX1_requireMonth wsX1_requireMonth) := goodIn_app (goodIn_of _ (by decide +kernel)) ggX1_entitledUpTo_X1_requireMonth
set_option maxRecDepth 20000 in
theorem ggX1_entitledUpTo_X0_dueAhead : GoodIn wsX1_entitledUpTo wsX0_dueAhead := goodIn_r _ [21, 22, 23, 24, 20, 25, 26, 27, 28, 29, 30, 31, 32, 33, 34, 35, 36, 37, 38, 39, 40, 41, 42, 43, 44, 45, 46, 47, 48, 49, 50, 51, 52, 53, 54, 55, 56, 57, 58, 59, 60, 65, 66, 67, 68, 69, 70, 71, 72, 73, 74, 75, 76, 77] (by decide +kernel) (by decide +kernel)
set_option maxRecDepth 20000 in
theorem gX1_entitledUpTo_X0_dueAhead : GoodIn wsX1_entitledUpTo (wsV RX1 116 RX0 yX0_dueAhead wsX0_dueAhead) := goodIn_app (goodIn_of _ (by decide +kernel)) ggX1_entitledUpTo_X0_dueAhead
theorem dX1_entitledUpTo_0 : decode cX1_entitledUpTo 0 = .ok (.aload_n 0, 1) := by decide +kernel
theorem dX1_entitledUpTo_1 : decode cX1_entitledUpTo 1 = .ok (.iload_n 1, 1) := by decide +kernel
theorem dX1_entitledUpTo_2 : decode cX1_entitledUpTo 2 = .ok (.invokevirtual 44, 3) := by decide +kernel
theorem dX1_entitledUpTo_5 : decode cX1_entitledUpTo 5 = .ok (.astore_n 3, 1) := by decide +kernel
theorem dX1_entitledUpTo_6 : decode cX1_entitledUpTo 6 = .ok (.iload_n 2, 1) := by decide +kernel
theorem dX1_entitledUpTo_7 : decode cX1_entitledUpTo 7 = .ok (.invokestatic 102, 3) := by decide +kernel
theorem dX1_entitledUpTo_10 : decode cX1_entitledUpTo 10 = .ok (.aload_n 3, 1) := by decide +kernel
theorem dX1_entitledUpTo_11 : decode cX1_entitledUpTo 11 = .ok (.iload_n 2, 1) := by decide +kernel
theorem dX1_entitledUpTo_12 : decode cX1_entitledUpTo 12 = .ok (.iconst 1, 1) := by decide +kernel
theorem dX1_entitledUpTo_13 : decode cX1_entitledUpTo 13 = .ok (.iadd, 1) := by decide +kernel
theorem dX1_entitledUpTo_14 : decode cX1_entitledUpTo 14 = .ok (.invokevirtual 116, 3) := by decide +kernel
theorem dX1_entitledUpTo_17 : decode cX1_entitledUpTo 17 = .ok (.lreturn, 1) := by decide +kernel
set_option maxRecDepth 20000 in
theorem ggX1_protection_X1_find : GoodIn wsX1_protection wsX1_find := goodIn_ca (goodIn_r _ [5, 6, 7, 8, 49, 50, 51, 52] (by decide +kernel) (by decide +kernel)) (goodIn_sub (fun _ h => List.mem_cons_of_mem _ (List.mem_append_right _ h)) (by decide +kernel))
set_option maxRecDepth 20000 in
theorem gX1_protection_X1_find : GoodIn wsX1_protection (wsV RX1 44 RX1 yX1_find wsX1_find) := goodIn_app (goodIn_of _ (by decide +kernel)) ggX1_protection_X1_find
set_option maxRecDepth 20000 in
theorem ggX1_protection_X0_protectionSum : GoodIn wsX1_protection wsX0_protectionSum := goodIn_r _ [13, 14, 15, 16, 17, 18, 19, 20, 21, 22, 23, 12, 24, 25, 26, 27, 28, 29, 30, 31, 32, 33, 34, 35, 36, 37, 38, 39, 40, 41, 42, 43, 44, 45, 46, 47, 48, 53, 54, 55, 56, 57, 58, 59, 60, 61, 62, 63, 64, 65] (by decide +kernel) (by decide +kernel)
set_option maxRecDepth 20000 in
theorem gX1_protection_X0_protectionSum : GoodIn wsX1_protection (wsV RX1 119 RX0 yX0_protectionSum wsX0_protectionSum) := goodIn_app (goodIn_of _ (by decide +kernel)) ggX1_protection_X0_protectionSum
theorem dX1_protection_0 : decode cX1_protection 0 = .ok (.aload_n 0, 1) := by decide +kernel
theorem dX1_protection_1 : decode cX1_protection 1 = .ok (.iload_n 1, 1) := by decide +kernel
theorem dX1_protection_2 : decode cX1_protection 2 = .ok (.invokevirtual 44, 3) := by decide +kernel
theorem dX1_protection_5 : decode cX1_protection 5 = .ok (.invokevirtual 119, 3) := by decide +kernel
theorem dX1_protection_8 : decode cX1_protection 8 = .ok (.lreturn, 1) := by decide +kernel
theorem dX1_find_0 : decode cX1_find 0 = .ok (.iload_n 1, 1) := by decide +kernel
theorem dX1_find_1 : decode cX1_find 1 = .ok (.ifCond .lt 21, 3) := by decide +kernel
theorem dX1_find_4 : decode cX1_find 4 = .ok (.iload_n 1, 1) := by decide +kernel
theorem dX1_find_5 : decode cX1_find 5 = .ok (.aload_n 0, 1) := by decide +kernel
theorem dX1_find_6 : decode cX1_find 6 = .ok (.getfield 11, 3) := by decide +kernel
theorem dX1_find_9 : decode cX1_find 9 = .ok (.arraylength, 1) := by decide +kernel
theorem dX1_find_10 : decode cX1_find 10 = .ok (.if_icmp .ge 12, 3) := by decide +kernel
theorem dX1_find_13 : decode cX1_find 13 = .ok (.aload_n 0, 1) := by decide +kernel
theorem dX1_find_14 : decode cX1_find 14 = .ok (.getfield 11, 3) := by decide +kernel
theorem dX1_find_17 : decode cX1_find 17 = .ok (.iload_n 1, 1) := by decide +kernel
theorem dX1_find_18 : decode cX1_find 18 = .ok (.aaload, 1) := by decide +kernel
theorem dX1_find_19 : decode cX1_find 19 = .ok (.goto 4, 3) := by decide +kernel
theorem dX1_find_22 : decode cX1_find 22 = .ok (.aconst_null, 1) := by decide +kernel
theorem dX1_find_23 : decode cX1_find 23 = .ok (.astore_n 2, 1) := by decide +kernel
theorem dX1_find_24 : decode cX1_find 24 = .ok (.aload_n 2, 1) := by decide +kernel
theorem dX1_find_25 : decode cX1_find 25 = .ok (.ifnonnull 13, 3) := by decide +kernel
theorem dX1_find_28 : decode cX1_find 28 = .ok (.new 123, 3) := by decide +kernel
theorem dX1_find_31 : decode cX1_find 31 = .ok (.dup, 1) := by decide +kernel
theorem dX1_find_32 : decode cX1_find 32 = .ok (.ldc 125, 2) := by decide +kernel
theorem dX1_find_34 : decode cX1_find 34 = .ok (.invokespecial 127, 3) := by decide +kernel
theorem dX1_find_37 : decode cX1_find 37 = .ok (.athrow, 1) := by decide +kernel
theorem dX1_find_38 : decode cX1_find 38 = .ok (.aload_n 2, 1) := by decide +kernel
theorem dX1_find_39 : decode cX1_find 39 = .ok (.areturn, 1) := by decide +kernel
theorem dX1_requireStartNotRun_0 : decode cX1_requireStartNotRun 0 = .ok (.aload_n 1, 1) := by decide +kernel
theorem dX1_requireStartNotRun_1 : decode cX1_requireStartNotRun 1 = .ok (.getfield 128, 3) := by decide +kernel
theorem dX1_requireStartNotRun_4 : decode cX1_requireStartNotRun 4 = .ok (.aload_n 0, 1) := by decide +kernel
theorem dX1_requireStartNotRun_5 : decode cX1_requireStartNotRun 5 = .ok (.getfield 23, 3) := by decide +kernel
theorem dX1_requireStartNotRun_8 : decode cX1_requireStartNotRun 8 = .ok (.if_icmp .ge 13, 3) := by decide +kernel
theorem dX1_requireStartNotRun_11 : decode cX1_requireStartNotRun 11 = .ok (.new 31, 3) := by decide +kernel
theorem dX1_requireStartNotRun_14 : decode cX1_requireStartNotRun 14 = .ok (.dup, 1) := by decide +kernel
theorem dX1_requireStartNotRun_15 : decode cX1_requireStartNotRun 15 = .ok (.ldc 131, 2) := by decide +kernel
theorem dX1_requireStartNotRun_17 : decode cX1_requireStartNotRun 17 = .ok (.invokespecial 35, 3) := by decide +kernel
theorem dX1_requireStartNotRun_20 : decode cX1_requireStartNotRun 20 = .ok (.athrow, 1) := by decide +kernel
theorem dX1_requireStartNotRun_21 : decode cX1_requireStartNotRun 21 = .ok (.return_, 1) := by decide +kernel
set_option maxRecDepth 20000 in
theorem ggX1_requireMonth_X1_requireRange : GoodIn wsX1_requireMonth wsX1_requireRange := goodIn_ca (goodIn_r _ [4, 5, 6] (by decide +kernel) (by decide +kernel)) (goodIn_sub (fun _ h => List.mem_cons_of_mem _ (List.mem_append_right _ h)) (by decide +kernel))
set_option maxRecDepth 20000 in
theorem gX1_requireMonth_X1_requireRange : GoodIn wsX1_requireMonth (va_wsS RX1 26 yX1_requireRange wsX1_requireRange) := goodIn_app (goodIn_of _ (by decide +kernel)) ggX1_requireMonth_X1_requireRange
theorem dX1_requireMonth_0 : decode cX1_requireMonth 0 = .ok (.iload_n 0, 1) := by decide +kernel
theorem dX1_requireMonth_1 : decode cX1_requireMonth 1 = .ok (.iconst 0, 1) := by decide +kernel
theorem dX1_requireMonth_2 : decode cX1_requireMonth 2 = .ok (.sipush 239, 3) := by decide +kernel
theorem dX1_requireMonth_5 : decode cX1_requireMonth 5 = .ok (.invokestatic 26, 3) := by decide +kernel
theorem dX1_requireMonth_8 : decode cX1_requireMonth 8 = .ok (.return_, 1) := by decide +kernel
theorem dX1_requireRange_0 : decode cX1_requireRange 0 = .ok (.iload_n 0, 1) := by decide +kernel
theorem dX1_requireRange_1 : decode cX1_requireRange 1 = .ok (.iload_n 1, 1) := by decide +kernel
theorem dX1_requireRange_2 : decode cX1_requireRange 2 = .ok (.if_icmp .lt 8, 3) := by decide +kernel
theorem dX1_requireRange_5 : decode cX1_requireRange 5 = .ok (.iload_n 0, 1) := by decide +kernel
theorem dX1_requireRange_6 : decode cX1_requireRange 6 = .ok (.iload_n 2, 1) := by decide +kernel
theorem dX1_requireRange_7 : decode cX1_requireRange 7 = .ok (.if_icmp .le 13, 3) := by decide +kernel
theorem dX1_requireRange_10 : decode cX1_requireRange 10 = .ok (.new 133, 3) := by decide +kernel
theorem dX1_requireRange_13 : decode cX1_requireRange 13 = .ok (.dup, 1) := by decide +kernel
theorem dX1_requireRange_14 : decode cX1_requireRange 14 = .ok (.ldc 135, 2) := by decide +kernel
theorem dX1_requireRange_16 : decode cX1_requireRange 16 = .ok (.invokespecial 137, 3) := by decide +kernel
theorem dX1_requireRange_19 : decode cX1_requireRange 19 = .ok (.athrow, 1) := by decide +kernel
theorem dX1_requireRange_20 : decode cX1_requireRange 20 = .ok (.return_, 1) := by decide +kernel
end
section
theorem dX2_init_0 : decode cX2_init 0 = .ok (.aload_n 0, 1) := by decide +kernel
theorem dX2_init_1 : decode cX2_init 1 = .ok (.invokespecial 1, 3) := by decide +kernel
theorem dX2_init_4 : decode cX2_init 4 = .ok (.aload_n 0, 1) := by decide +kernel
theorem dX2_init_5 : decode cX2_init 5 = .ok (.bipush 20, 2) := by decide +kernel
theorem dX2_init_7 : decode cX2_init 7 = .ok (.newarray .int, 2) := by decide +kernel
theorem dX2_init_9 : decode cX2_init 9 = .ok (.putfield 7, 3) := by decide +kernel
theorem dX2_init_12 : decode cX2_init 12 = .ok (.aload_n 0, 1) := by decide +kernel
theorem dX2_init_13 : decode cX2_init 13 = .ok (.bipush 20, 2) := by decide +kernel
theorem dX2_init_15 : decode cX2_init 15 = .ok (.newarray .int, 2) := by decide +kernel
theorem dX2_init_17 : decode cX2_init 17 = .ok (.putfield 13, 3) := by decide +kernel
theorem dX2_init_20 : decode cX2_init 20 = .ok (.aload_n 0, 1) := by decide +kernel
theorem dX2_init_21 : decode cX2_init 21 = .ok (.bipush 20, 2) := by decide +kernel
theorem dX2_init_23 : decode cX2_init 23 = .ok (.newarray .int, 2) := by decide +kernel
theorem dX2_init_25 : decode cX2_init 25 = .ok (.putfield 16, 3) := by decide +kernel
theorem dX2_init_28 : decode cX2_init 28 = .ok (.aload_n 0, 1) := by decide +kernel
theorem dX2_init_29 : decode cX2_init 29 = .ok (.bipush 20, 2) := by decide +kernel
theorem dX2_init_31 : decode cX2_init 31 = .ok (.newarray .int, 2) := by decide +kernel
theorem dX2_init_33 : decode cX2_init 33 = .ok (.putfield 19, 3) := by decide +kernel
theorem dX2_init_36 : decode cX2_init 36 = .ok (.aload_n 0, 1) := by decide +kernel
theorem dX2_init_37 : decode cX2_init 37 = .ok (.bipush 20, 2) := by decide +kernel
theorem dX2_init_39 : decode cX2_init 39 = .ok (.newarray .boolean, 2) := by decide +kernel
theorem dX2_init_41 : decode cX2_init 41 = .ok (.putfield 22, 3) := by decide +kernel
theorem dX2_init_44 : decode cX2_init 44 = .ok (.aload_n 0, 1) := by decide +kernel
theorem dX2_init_45 : decode cX2_init 45 = .ok (.bipush 20, 2) := by decide +kernel
theorem dX2_init_47 : decode cX2_init 47 = .ok (.newarray .int, 2) := by decide +kernel
theorem dX2_init_49 : decode cX2_init 49 = .ok (.putfield 26, 3) := by decide +kernel
theorem dX2_init_52 : decode cX2_init 52 = .ok (.aload_n 0, 1) := by decide +kernel
theorem dX2_init_53 : decode cX2_init 53 = .ok (.bipush 20, 2) := by decide +kernel
theorem dX2_init_55 : decode cX2_init 55 = .ok (.newarray .int, 2) := by decide +kernel
theorem dX2_init_57 : decode cX2_init 57 = .ok (.putfield 29, 3) := by decide +kernel
theorem dX2_init_60 : decode cX2_init 60 = .ok (.aload_n 0, 1) := by decide +kernel
theorem dX2_init_61 : decode cX2_init 61 = .ok (.bipush 20, 2) := by decide +kernel
theorem dX2_init_63 : decode cX2_init 63 = .ok (.newarray .int, 2) := by decide +kernel
theorem dX2_init_65 : decode cX2_init 65 = .ok (.putfield 32, 3) := by decide +kernel
theorem dX2_init_68 : decode cX2_init 68 = .ok (.aload_n 0, 1) := by decide +kernel
theorem dX2_init_69 : decode cX2_init 69 = .ok (.bipush 40, 2) := by decide +kernel
theorem dX2_init_71 : decode cX2_init 71 = .ok (.newarray .int, 2) := by decide +kernel
theorem dX2_init_73 : decode cX2_init 73 = .ok (.putfield 35, 3) := by decide +kernel
theorem dX2_init_76 : decode cX2_init 76 = .ok (.aload_n 0, 1) := by decide +kernel
theorem dX2_init_77 : decode cX2_init 77 = .ok (.bipush 20, 2) := by decide +kernel
theorem dX2_init_79 : decode cX2_init 79 = .ok (.newarray .long, 2) := by decide +kernel
theorem dX2_init_81 : decode cX2_init 81 = .ok (.putfield 38, 3) := by decide +kernel
theorem dX2_init_84 : decode cX2_init 84 = .ok (.aload_n 0, 1) := by decide +kernel
theorem dX2_init_85 : decode cX2_init 85 = .ok (.bipush 20, 2) := by decide +kernel
theorem dX2_init_87 : decode cX2_init 87 = .ok (.newarray .long, 2) := by decide +kernel
theorem dX2_init_89 : decode cX2_init 89 = .ok (.putfield 42, 3) := by decide +kernel
theorem dX2_init_92 : decode cX2_init 92 = .ok (.aload_n 0, 1) := by decide +kernel
theorem dX2_init_93 : decode cX2_init 93 = .ok (.sipush 4800, 3) := by decide +kernel
theorem dX2_init_96 : decode cX2_init 96 = .ok (.newarray .long, 2) := by decide +kernel
theorem dX2_init_98 : decode cX2_init 98 = .ok (.putfield 45, 3) := by decide +kernel
theorem dX2_init_101 : decode cX2_init 101 = .ok (.aload_n 0, 1) := by decide +kernel
theorem dX2_init_102 : decode cX2_init 102 = .ok (.bipush 20, 2) := by decide +kernel
theorem dX2_init_104 : decode cX2_init 104 = .ok (.newarray .int, 2) := by decide +kernel
theorem dX2_init_106 : decode cX2_init 106 = .ok (.putfield 48, 3) := by decide +kernel
theorem dX2_init_109 : decode cX2_init 109 = .ok (.return_, 1) := by decide +kernel
theorem dX2_thrown_0 : decode cX2_thrown 0 = .ok (.aload_n 0, 1) := by decide +kernel
theorem dX2_thrown_1 : decode cX2_thrown 1 = .ok (.getfield 51, 3) := by decide +kernel
theorem dX2_thrown_4 : decode cX2_thrown 4 = .ok (.ireturn, 1) := by decide +kernel
theorem dX2_goes_0 : decode cX2_goes 0 = .ok (.aload_n 0, 1) := by decide +kernel
theorem dX2_goes_1 : decode cX2_goes 1 = .ok (.iload_n 1, 1) := by decide +kernel
theorem dX2_goes_2 : decode cX2_goes 2 = .ok (.ifCond .ne 7, 3) := by decide +kernel
theorem dX2_goes_5 : decode cX2_goes 5 = .ok (.iconst 1, 1) := by decide +kernel
theorem dX2_goes_6 : decode cX2_goes 6 = .ok (.goto 20, 3) := by decide +kernel
theorem dX2_goes_9 : decode cX2_goes 9 = .ok (.iload_n 2, 1) := by decide +kernel
theorem dX2_goes_10 : decode cX2_goes 10 = .ok (.ifCond .ne 7, 3) := by decide +kernel
theorem dX2_goes_13 : decode cX2_goes 13 = .ok (.iconst 2, 1) := by decide +kernel
theorem dX2_goes_14 : decode cX2_goes 14 = .ok (.goto 12, 3) := by decide +kernel
theorem dX2_goes_17 : decode cX2_goes 17 = .ok (.iload_n 3, 1) := by decide +kernel
theorem dX2_goes_18 : decode cX2_goes 18 = .ok (.ifCond .ne 7, 3) := by decide +kernel
theorem dX2_goes_21 : decode cX2_goes 21 = .ok (.iconst 3, 1) := by decide +kernel
theorem dX2_goes_22 : decode cX2_goes 22 = .ok (.goto 4, 3) := by decide +kernel
theorem dX2_goes_25 : decode cX2_goes 25 = .ok (.iconst 0, 1) := by decide +kernel
theorem dX2_goes_26 : decode cX2_goes 26 = .ok (.putfield 51, 3) := by decide +kernel
theorem dX2_goes_29 : decode cX2_goes 29 = .ok (.aload_n 0, 1) := by decide +kernel
theorem dX2_goes_30 : decode cX2_goes 30 = .ok (.getfield 51, 3) := by decide +kernel
theorem dX2_goes_33 : decode cX2_goes 33 = .ok (.ifCond .ne 7, 3) := by decide +kernel
theorem dX2_goes_36 : decode cX2_goes 36 = .ok (.iconst 1, 1) := by decide +kernel
theorem dX2_goes_37 : decode cX2_goes 37 = .ok (.goto 4, 3) := by decide +kernel
theorem dX2_goes_40 : decode cX2_goes 40 = .ok (.iconst 0, 1) := by decide +kernel
theorem dX2_goes_41 : decode cX2_goes 41 = .ok (.ireturn, 1) := by decide +kernel
theorem dX2_isOne_0 : decode cX2_isOne 0 = .ok (.iload_n 1, 1) := by decide +kernel
theorem dX2_isOne_1 : decode cX2_isOne 1 = .ok (.ifCond .lt 15, 3) := by decide +kernel
theorem dX2_isOne_4 : decode cX2_isOne 4 = .ok (.iload_n 1, 1) := by decide +kernel
theorem dX2_isOne_5 : decode cX2_isOne 5 = .ok (.aload_n 0, 1) := by decide +kernel
theorem dX2_isOne_6 : decode cX2_isOne 6 = .ok (.getfield 55, 3) := by decide +kernel
theorem dX2_isOne_9 : decode cX2_isOne 9 = .ok (.if_icmp .ge 7, 3) := by decide +kernel
theorem dX2_isOne_12 : decode cX2_isOne 12 = .ok (.iconst 1, 1) := by decide +kernel
theorem dX2_isOne_13 : decode cX2_isOne 13 = .ok (.goto 4, 3) := by decide +kernel
theorem dX2_isOne_16 : decode cX2_isOne 16 = .ok (.iconst 0, 1) := by decide +kernel
theorem dX2_isOne_17 : decode cX2_isOne 17 = .ok (.ireturn, 1) := by decide +kernel
theorem dX2_isWithin_0 : decode cX2_isWithin 0 = .ok (.iload_n 0, 1) := by decide +kernel
theorem dX2_isWithin_1 : decode cX2_isWithin 1 = .ok (.iload_n 1, 1) := by decide +kernel
theorem dX2_isWithin_2 : decode cX2_isWithin 2 = .ok (.if_icmp .lt 12, 3) := by decide +kernel
theorem dX2_isWithin_5 : decode cX2_isWithin 5 = .ok (.iload_n 0, 1) := by decide +kernel
theorem dX2_isWithin_6 : decode cX2_isWithin 6 = .ok (.iload_n 2, 1) := by decide +kernel
theorem dX2_isWithin_7 : decode cX2_isWithin 7 = .ok (.if_icmp .gt 7, 3) := by decide +kernel
theorem dX2_isWithin_10 : decode cX2_isWithin 10 = .ok (.iconst 1, 1) := by decide +kernel
theorem dX2_isWithin_11 : decode cX2_isWithin 11 = .ok (.goto 4, 3) := by decide +kernel
theorem dX2_isWithin_14 : decode cX2_isWithin 14 = .ok (.iconst 0, 1) := by decide +kernel
theorem dX2_isWithin_15 : decode cX2_isWithin 15 = .ok (.ireturn, 1) := by decide +kernel
set_option maxRecDepth 20000 in
theorem ggX2_add_X2_isWithin : GoodIn wsX2_add wsX2_isWithin := goodIn_r _ [12] (by decide +kernel) (by decide +kernel)
set_option maxRecDepth 20000 in
theorem gX2_add_X2_isWithin : GoodIn wsX2_add (va_wsS RX2 61 yX2_isWithin wsX2_isWithin) := goodIn_app (goodIn_of _ (by decide +kernel)) ggX2_add_X2_isWithin
set_option maxRecDepth 20000 in
theorem ggX2_add_X2_goes : GoodIn wsX2_add wsX2_goes := goodIn_r _ [16, 17, 18, 19, 20, 21, 22, 23, 24, 25, 26, 27, 28, 29, 30, 31, 32, 33, 34, 35] (by decide +kernel) (by decide +kernel)
set_option maxRecDepth 20000 in
theorem gX2_add_X2_goes : GoodIn wsX2_add (wsV RX2 66 RX2 yX2_goes wsX2_goes) := goodIn_app (goodIn_of _ (by decide +kernel)) ggX2_add_X2_goes
theorem dX2_add_0 : decode cX2_add 0 = .ok (.iload_n 1, 1) := by decide +kernel
theorem dX2_add_1 : decode cX2_add 1 = .ok (.aload_n 0, 1) := by decide +kernel
theorem dX2_add_2 : decode cX2_add 2 = .ok (.getfield 58, 3) := by decide +kernel
theorem dX2_add_5 : decode cX2_add 5 = .ok (.sipush 239, 3) := by decide +kernel
theorem dX2_add_8 : decode cX2_add 8 = .ok (.invokestatic 61, 3) := by decide +kernel
theorem dX2_add_11 : decode cX2_add 11 = .ok (.ifCond .eq 28, 3) := by decide +kernel
theorem dX2_add_14 : decode cX2_add 14 = .ok (.iload_n 2, 1) := by decide +kernel
theorem dX2_add_15 : decode cX2_add 15 = .ok (.iconst 1, 1) := by decide +kernel
theorem dX2_add_16 : decode cX2_add 16 = .ok (.ldc 65, 2) := by decide +kernel
theorem dX2_add_18 : decode cX2_add 18 = .ok (.invokestatic 61, 3) := by decide +kernel
theorem dX2_add_21 : decode cX2_add 21 = .ok (.ifCond .eq 18, 3) := by decide +kernel
theorem dX2_add_24 : decode cX2_add 24 = .ok (.iload_n 3, 1) := by decide +kernel
theorem dX2_add_25 : decode cX2_add 25 = .ok (.iconst 0, 1) := by decide +kernel
theorem dX2_add_26 : decode cX2_add 26 = .ok (.sipush 240, 3) := by decide +kernel
theorem dX2_add_29 : decode cX2_add 29 = .ok (.invokestatic 61, 3) := by decide +kernel
theorem dX2_add_32 : decode cX2_add 32 = .ok (.ifCond .eq 7, 3) := by decide +kernel
theorem dX2_add_35 : decode cX2_add 35 = .ok (.iconst 1, 1) := by decide +kernel
theorem dX2_add_36 : decode cX2_add 36 = .ok (.goto 4, 3) := by decide +kernel
theorem dX2_add_39 : decode cX2_add 39 = .ok (.iconst 0, 1) := by decide +kernel
theorem dX2_add_40 : decode cX2_add 40 = .ok (.istore 4, 2) := by decide +kernel
theorem dX2_add_42 : decode cX2_add 42 = .ok (.aload_n 0, 1) := by decide +kernel
theorem dX2_add_43 : decode cX2_add 43 = .ok (.iload 4, 2) := by decide +kernel
theorem dX2_add_45 : decode cX2_add 45 = .ok (.aload_n 0, 1) := by decide +kernel
theorem dX2_add_46 : decode cX2_add 46 = .ok (.getfield 55, 3) := by decide +kernel
theorem dX2_add_49 : decode cX2_add 49 = .ok (.bipush 20, 2) := by decide +kernel
theorem dX2_add_51 : decode cX2_add 51 = .ok (.if_icmp .ge 7, 3) := by decide +kernel
theorem dX2_add_54 : decode cX2_add 54 = .ok (.iconst 1, 1) := by decide +kernel
theorem dX2_add_55 : decode cX2_add 55 = .ok (.goto 4, 3) := by decide +kernel
theorem dX2_add_58 : decode cX2_add 58 = .ok (.iconst 0, 1) := by decide +kernel
theorem dX2_add_59 : decode cX2_add 59 = .ok (.iconst 1, 1) := by decide +kernel
theorem dX2_add_60 : decode cX2_add 60 = .ok (.invokevirtual 66, 3) := by decide +kernel
theorem dX2_add_63 : decode cX2_add 63 = .ok (.ifCond .ne 5, 3) := by decide +kernel
theorem dX2_add_66 : decode cX2_add 66 = .ok (.iconst 0, 1) := by decide +kernel
theorem dX2_add_67 : decode cX2_add 67 = .ok (.ireturn, 1) := by decide +kernel
theorem dX2_add_68 : decode cX2_add 68 = .ok (.aload_n 0, 1) := by decide +kernel
theorem dX2_add_69 : decode cX2_add 69 = .ok (.getfield 7, 3) := by decide +kernel
theorem dX2_add_72 : decode cX2_add 72 = .ok (.aload_n 0, 1) := by decide +kernel
theorem dX2_add_73 : decode cX2_add 73 = .ok (.getfield 55, 3) := by decide +kernel
theorem dX2_add_76 : decode cX2_add 76 = .ok (.iload_n 1, 1) := by decide +kernel
theorem dX2_add_77 : decode cX2_add 77 = .ok (.iastore, 1) := by decide +kernel
theorem dX2_add_78 : decode cX2_add 78 = .ok (.aload_n 0, 1) := by decide +kernel
theorem dX2_add_79 : decode cX2_add 79 = .ok (.getfield 13, 3) := by decide +kernel
theorem dX2_add_82 : decode cX2_add 82 = .ok (.aload_n 0, 1) := by decide +kernel
theorem dX2_add_83 : decode cX2_add 83 = .ok (.getfield 55, 3) := by decide +kernel
theorem dX2_add_86 : decode cX2_add 86 = .ok (.iload_n 2, 1) := by decide +kernel
theorem dX2_add_87 : decode cX2_add 87 = .ok (.iastore, 1) := by decide +kernel
theorem dX2_add_88 : decode cX2_add 88 = .ok (.aload_n 0, 1) := by decide +kernel
theorem dX2_add_89 : decode cX2_add 89 = .ok (.getfield 16, 3) := by decide +kernel
theorem dX2_add_92 : decode cX2_add 92 = .ok (.aload_n 0, 1) := by decide +kernel
theorem dX2_add_93 : decode cX2_add 93 = .ok (.getfield 55, 3) := by decide +kernel
theorem dX2_add_96 : decode cX2_add 96 = .ok (.iload_n 3, 1) := by decide +kernel
theorem dX2_add_97 : decode cX2_add 97 = .ok (.iastore, 1) := by decide +kernel
theorem dX2_add_98 : decode cX2_add 98 = .ok (.aload_n 0, 1) := by decide +kernel
theorem dX2_add_99 : decode cX2_add 99 = .ok (.getfield 19, 3) := by decide +kernel
theorem dX2_add_102 : decode cX2_add 102 = .ok (.aload_n 0, 1) := by decide +kernel
theorem dX2_add_103 : decode cX2_add 103 = .ok (.getfield 55, 3) := by decide +kernel
theorem dX2_add_106 : decode cX2_add 106 = .ok (.bipush 100, 2) := by decide +kernel
theorem dX2_add_108 : decode cX2_add 108 = .ok (.iastore, 1) := by decide +kernel
theorem dX2_add_109 : decode cX2_add 109 = .ok (.aload_n 0, 1) := by decide +kernel
theorem dX2_add_110 : decode cX2_add 110 = .ok (.getfield 35, 3) := by decide +kernel
theorem dX2_add_113 : decode cX2_add 113 = .ok (.iconst 2, 1) := by decide +kernel
theorem dX2_add_114 : decode cX2_add 114 = .ok (.aload_n 0, 1) := by decide +kernel
theorem dX2_add_115 : decode cX2_add 115 = .ok (.getfield 55, 3) := by decide +kernel
theorem dX2_add_118 : decode cX2_add 118 = .ok (.imul, 1) := by decide +kernel
theorem dX2_add_119 : decode cX2_add 119 = .ok (.iconst (-1), 1) := by decide +kernel
theorem dX2_add_120 : decode cX2_add 120 = .ok (.iastore, 1) := by decide +kernel
theorem dX2_add_121 : decode cX2_add 121 = .ok (.aload_n 0, 1) := by decide +kernel
theorem dX2_add_122 : decode cX2_add 122 = .ok (.getfield 35, 3) := by decide +kernel
theorem dX2_add_125 : decode cX2_add 125 = .ok (.iconst 2, 1) := by decide +kernel
theorem dX2_add_126 : decode cX2_add 126 = .ok (.aload_n 0, 1) := by decide +kernel
theorem dX2_add_127 : decode cX2_add 127 = .ok (.getfield 55, 3) := by decide +kernel
theorem dX2_add_130 : decode cX2_add 130 = .ok (.imul, 1) := by decide +kernel
theorem dX2_add_131 : decode cX2_add 131 = .ok (.iconst 1, 1) := by decide +kernel
theorem dX2_add_132 : decode cX2_add 132 = .ok (.iadd, 1) := by decide +kernel
theorem dX2_add_133 : decode cX2_add 133 = .ok (.iconst (-1), 1) := by decide +kernel
theorem dX2_add_134 : decode cX2_add 134 = .ok (.iastore, 1) := by decide +kernel
theorem dX2_add_135 : decode cX2_add 135 = .ok (.aload_n 0, 1) := by decide +kernel
theorem dX2_add_136 : decode cX2_add 136 = .ok (.dup, 1) := by decide +kernel
theorem dX2_add_137 : decode cX2_add 137 = .ok (.getfield 55, 3) := by decide +kernel
theorem dX2_add_140 : decode cX2_add 140 = .ok (.iconst 1, 1) := by decide +kernel
theorem dX2_add_141 : decode cX2_add 141 = .ok (.iadd, 1) := by decide +kernel
theorem dX2_add_142 : decode cX2_add 142 = .ok (.putfield 55, 3) := by decide +kernel
theorem dX2_add_145 : decode cX2_add 145 = .ok (.aload_n 0, 1) := by decide +kernel
theorem dX2_add_146 : decode cX2_add 146 = .ok (.getfield 55, 3) := by decide +kernel
theorem dX2_add_149 : decode cX2_add 149 = .ok (.iconst 1, 1) := by decide +kernel
theorem dX2_add_150 : decode cX2_add 150 = .ok (.isub, 1) := by decide +kernel
theorem dX2_add_151 : decode cX2_add 151 = .ok (.ireturn, 1) := by decide +kernel
set_option maxRecDepth 20000 in
theorem ggX2_isAhead_X2_isOne : GoodIn wsX2_isAhead wsX2_isOne := goodIn_r _ [7, 8, 9, 10, 11, 12, 13, 14, 15, 16, 17, 18, 19, 20, 21, 22, 23, 24, 25, 26] (by decide +kernel) (by decide +kernel)
set_option maxRecDepth 20000 in
theorem gX2_isAhead_X2_isOne : GoodIn wsX2_isAhead (wsV RX2 70 RX2 yX2_isOne wsX2_isOne) := goodIn_app (goodIn_of _ (by decide +kernel)) ggX2_isAhead_X2_isOne
theorem dX2_isAhead_0 : decode cX2_isAhead 0 = .ok (.aload_n 0, 1) := by decide +kernel
theorem dX2_isAhead_1 : decode cX2_isAhead 1 = .ok (.iload_n 1, 1) := by decide +kernel
theorem dX2_isAhead_2 : decode cX2_isAhead 2 = .ok (.invokevirtual 70, 3) := by decide +kernel
theorem dX2_isAhead_5 : decode cX2_isAhead 5 = .ok (.ifCond .eq 20, 3) := by decide +kernel
theorem dX2_isAhead_8 : decode cX2_isAhead 8 = .ok (.aload_n 0, 1) := by decide +kernel
theorem dX2_isAhead_9 : decode cX2_isAhead 9 = .ok (.getfield 58, 3) := by decide +kernel
theorem dX2_isAhead_12 : decode cX2_isAhead 12 = .ok (.aload_n 0, 1) := by decide +kernel
theorem dX2_isAhead_13 : decode cX2_isAhead 13 = .ok (.getfield 7, 3) := by decide +kernel
theorem dX2_isAhead_16 : decode cX2_isAhead 16 = .ok (.iload_n 1, 1) := by decide +kernel
theorem dX2_isAhead_17 : decode cX2_isAhead 17 = .ok (.iaload, 1) := by decide +kernel
theorem dX2_isAhead_18 : decode cX2_isAhead 18 = .ok (.if_icmp .gt 7, 3) := by decide +kernel
theorem dX2_isAhead_21 : decode cX2_isAhead 21 = .ok (.iconst 1, 1) := by decide +kernel
theorem dX2_isAhead_22 : decode cX2_isAhead 22 = .ok (.goto 4, 3) := by decide +kernel
theorem dX2_isAhead_25 : decode cX2_isAhead 25 = .ok (.iconst 0, 1) := by decide +kernel
theorem dX2_isAhead_26 : decode cX2_isAhead 26 = .ok (.ireturn, 1) := by decide +kernel
set_option maxRecDepth 20000 in
theorem ggX2_setSurvivor_X2_isOne : GoodIn wsX2_setSurvivor wsX2_isOne := goodIn_r _ [7, 8, 23, 24, 25, 26, 27, 28, 29, 30, 31, 32, 33, 34, 35, 36, 37, 38, 39, 40] (by decide +kernel) (by decide +kernel)
set_option maxRecDepth 20000 in
theorem gX2_setSurvivor_X2_isOne : GoodIn wsX2_setSurvivor (wsV RX2 70 RX2 yX2_isOne wsX2_isOne) := goodIn_app (goodIn_of _ (by decide +kernel)) ggX2_setSurvivor_X2_isOne
set_option maxRecDepth 20000 in
theorem ggX2_setSurvivor_X2_isWithin : GoodIn wsX2_setSurvivor wsX2_isWithin := goodIn_r _ [11] (by decide +kernel) (by decide +kernel)
set_option maxRecDepth 20000 in
theorem gX2_setSurvivor_X2_isWithin : GoodIn wsX2_setSurvivor (va_wsS RX2 61 yX2_isWithin wsX2_isWithin) := goodIn_app (goodIn_of _ (by decide +kernel)) ggX2_setSurvivor_X2_isWithin
set_option maxRecDepth 20000 in
theorem ggX2_setSurvivor_X2_isAhead : GoodIn wsX2_setSurvivor wsX2_isAhead := goodIn_r _ [15, 16, 17, 3, 4, 5, 6, 7, 8, 23, 24, 25, 26, 27, 28, 29, 30, 31, 32, 33, 34, 35, 36, 37, 38, 39, 40] (by decide +kernel) (by decide +kernel)
set_option maxRecDepth 20000 in
theorem gX2_setSurvivor_X2_isAhead : GoodIn wsX2_setSurvivor (wsV RX2 74 RX2 yX2_isAhead wsX2_isAhead) := goodIn_app (goodIn_of _ (by decide +kernel)) ggX2_setSurvivor_X2_isAhead
set_option maxRecDepth 20000 in
theorem ggX2_setSurvivor_X2_goes : GoodIn wsX2_setSurvivor wsX2_goes := goodIn_r _ [21, 22, 23, 24, 25, 26, 27, 28, 29, 30, 31, 32, 33, 34, 35, 36, 37, 38, 39, 40] (by decide +kernel) (by decide +kernel)
set_option maxRecDepth 20000 in
theorem gX2_setSurvivor_X2_goes : GoodIn wsX2_setSurvivor (wsV RX2 66 RX2 yX2_goes wsX2_goes) := goodIn_app (goodIn_of _ (by decide +kernel)) ggX2_setSurvivor_X2_goes
theorem dX2_setSurvivor_0 : decode cX2_setSurvivor 0 = .ok (.aload_n 0, 1) := by decide +kernel
theorem dX2_setSurvivor_1 : decode cX2_setSurvivor 1 = .ok (.aload_n 0, 1) := by decide +kernel
theorem dX2_setSurvivor_2 : decode cX2_setSurvivor 2 = .ok (.iload_n 1, 1) := by decide +kernel
theorem dX2_setSurvivor_3 : decode cX2_setSurvivor 3 = .ok (.invokevirtual 70, 3) := by decide +kernel
theorem dX2_setSurvivor_6 : decode cX2_setSurvivor 6 = .ok (.iload_n 2, 1) := by decide +kernel
theorem dX2_setSurvivor_7 : decode cX2_setSurvivor 7 = .ok (.iconst 0, 1) := by decide +kernel
theorem dX2_setSurvivor_8 : decode cX2_setSurvivor 8 = .ok (.bipush 100, 2) := by decide +kernel
theorem dX2_setSurvivor_10 : decode cX2_setSurvivor 10 = .ok (.invokestatic 61, 3) := by decide +kernel
theorem dX2_setSurvivor_13 : decode cX2_setSurvivor 13 = .ok (.aload_n 0, 1) := by decide +kernel
theorem dX2_setSurvivor_14 : decode cX2_setSurvivor 14 = .ok (.iload_n 1, 1) := by decide +kernel
theorem dX2_setSurvivor_15 : decode cX2_setSurvivor 15 = .ok (.invokevirtual 74, 3) := by decide +kernel
theorem dX2_setSurvivor_18 : decode cX2_setSurvivor 18 = .ok (.invokevirtual 66, 3) := by decide +kernel
theorem dX2_setSurvivor_21 : decode cX2_setSurvivor 21 = .ok (.ifCond .eq 17, 3) := by decide +kernel
theorem dX2_setSurvivor_24 : decode cX2_setSurvivor 24 = .ok (.aload_n 0, 1) := by decide +kernel
theorem dX2_setSurvivor_25 : decode cX2_setSurvivor 25 = .ok (.getfield 19, 3) := by decide +kernel
theorem dX2_setSurvivor_28 : decode cX2_setSurvivor 28 = .ok (.iload_n 1, 1) := by decide +kernel
theorem dX2_setSurvivor_29 : decode cX2_setSurvivor 29 = .ok (.iload_n 2, 1) := by decide +kernel
theorem dX2_setSurvivor_30 : decode cX2_setSurvivor 30 = .ok (.iastore, 1) := by decide +kernel
theorem dX2_setSurvivor_31 : decode cX2_setSurvivor 31 = .ok (.aload_n 0, 1) := by decide +kernel
theorem dX2_setSurvivor_32 : decode cX2_setSurvivor 32 = .ok (.getfield 22, 3) := by decide +kernel
theorem dX2_setSurvivor_35 : decode cX2_setSurvivor 35 = .ok (.iload_n 1, 1) := by decide +kernel
theorem dX2_setSurvivor_36 : decode cX2_setSurvivor 36 = .ok (.iload_n 3, 1) := by decide +kernel
theorem dX2_setSurvivor_37 : decode cX2_setSurvivor 37 = .ok (.bastore, 1) := by decide +kernel
theorem dX2_setSurvivor_38 : decode cX2_setSurvivor 38 = .ok (.return_, 1) := by decide +kernel
set_option maxRecDepth 20000 in
theorem ggX2_setCap_X2_isOne : GoodIn wsX2_setCap wsX2_isOne := goodIn_r _ [6, 7, 22, 23, 24, 25, 26, 27, 28, 29, 30, 31, 32, 33, 34, 35, 36, 37, 38, 39] (by decide +kernel) (by decide +kernel)
set_option maxRecDepth 20000 in
theorem gX2_setCap_X2_isOne : GoodIn wsX2_setCap (wsV RX2 70 RX2 yX2_isOne wsX2_isOne) := goodIn_app (goodIn_of _ (by decide +kernel)) ggX2_setCap_X2_isOne
set_option maxRecDepth 20000 in
theorem ggX2_setCap_X2_isWithin : GoodIn wsX2_setCap wsX2_isWithin := goodIn_r _ [10] (by decide +kernel) (by decide +kernel)
set_option maxRecDepth 20000 in
theorem gX2_setCap_X2_isWithin : GoodIn wsX2_setCap (va_wsS RX2 61 yX2_isWithin wsX2_isWithin) := goodIn_app (goodIn_of _ (by decide +kernel)) ggX2_setCap_X2_isWithin
set_option maxRecDepth 20000 in
theorem ggX2_setCap_X2_isAhead : GoodIn wsX2_setCap wsX2_isAhead := goodIn_r _ [14, 15, 16, 2, 3, 4, 5, 6, 7, 22, 23, 24, 25, 26, 27, 28, 29, 30, 31, 32, 33, 34, 35, 36, 37, 38, 39] (by decide +kernel) (by decide +kernel)
set_option maxRecDepth 20000 in
theorem gX2_setCap_X2_isAhead : GoodIn wsX2_setCap (wsV RX2 74 RX2 yX2_isAhead wsX2_isAhead) := goodIn_app (goodIn_of _ (by decide +kernel)) ggX2_setCap_X2_isAhead
set_option maxRecDepth 20000 in
theorem ggX2_setCap_X2_goes : GoodIn wsX2_setCap wsX2_goes := goodIn_r _ [20, 21, 22, 23, 24, 25, 26, 27, 28, 29, 30, 31, 32, 33, 34, 35, 36, 37, 38, 39] (by decide +kernel) (by decide +kernel)
set_option maxRecDepth 20000 in
theorem gX2_setCap_X2_goes : GoodIn wsX2_setCap (wsV RX2 66 RX2 yX2_goes wsX2_goes) := goodIn_app (goodIn_of _ (by decide +kernel)) ggX2_setCap_X2_goes
theorem dX2_setCap_0 : decode cX2_setCap 0 = .ok (.aload_n 0, 1) := by decide +kernel
theorem dX2_setCap_1 : decode cX2_setCap 1 = .ok (.aload_n 0, 1) := by decide +kernel
theorem dX2_setCap_2 : decode cX2_setCap 2 = .ok (.iload_n 1, 1) := by decide +kernel
theorem dX2_setCap_3 : decode cX2_setCap 3 = .ok (.invokevirtual 70, 3) := by decide +kernel
theorem dX2_setCap_6 : decode cX2_setCap 6 = .ok (.iload_n 2, 1) := by decide +kernel
theorem dX2_setCap_7 : decode cX2_setCap 7 = .ok (.iconst 0, 1) := by decide +kernel
theorem dX2_setCap_8 : decode cX2_setCap 8 = .ok (.sipush 200, 3) := by decide +kernel
theorem dX2_setCap_11 : decode cX2_setCap 11 = .ok (.invokestatic 61, 3) := by decide +kernel
theorem dX2_setCap_14 : decode cX2_setCap 14 = .ok (.aload_n 0, 1) := by decide +kernel
theorem dX2_setCap_15 : decode cX2_setCap 15 = .ok (.iload_n 1, 1) := by decide +kernel
theorem dX2_setCap_16 : decode cX2_setCap 16 = .ok (.invokevirtual 74, 3) := by decide +kernel
theorem dX2_setCap_19 : decode cX2_setCap 19 = .ok (.invokevirtual 66, 3) := by decide +kernel
theorem dX2_setCap_22 : decode cX2_setCap 22 = .ok (.ifCond .eq 10, 3) := by decide +kernel
theorem dX2_setCap_25 : decode cX2_setCap 25 = .ok (.aload_n 0, 1) := by decide +kernel
theorem dX2_setCap_26 : decode cX2_setCap 26 = .ok (.getfield 26, 3) := by decide +kernel
theorem dX2_setCap_29 : decode cX2_setCap 29 = .ok (.iload_n 1, 1) := by decide +kernel
theorem dX2_setCap_30 : decode cX2_setCap 30 = .ok (.iload_n 2, 1) := by decide +kernel
theorem dX2_setCap_31 : decode cX2_setCap 31 = .ok (.iastore, 1) := by decide +kernel
theorem dX2_setCap_32 : decode cX2_setCap 32 = .ok (.return_, 1) := by decide +kernel
set_option maxRecDepth 20000 in
theorem ggX2_protect_X2_isOne : GoodIn wsX2_protect wsX2_isOne := goodIn_r _ [8, 9, 24, 25, 26, 27, 28, 29, 30, 31, 32, 33, 34, 35, 36, 37, 38, 39, 40, 41] (by decide +kernel) (by decide +kernel)
set_option maxRecDepth 20000 in
theorem gX2_protect_X2_isOne : GoodIn wsX2_protect (wsV RX2 70 RX2 yX2_isOne wsX2_isOne) := goodIn_app (goodIn_of _ (by decide +kernel)) ggX2_protect_X2_isOne
set_option maxRecDepth 20000 in
theorem ggX2_protect_X2_isWithin : GoodIn wsX2_protect wsX2_isWithin := goodIn_r _ [12] (by decide +kernel) (by decide +kernel)
set_option maxRecDepth 20000 in
theorem gX2_protect_X2_isWithin : GoodIn wsX2_protect (va_wsS RX2 61 yX2_isWithin wsX2_isWithin) := goodIn_app (goodIn_of _ (by decide +kernel)) ggX2_protect_X2_isWithin
set_option maxRecDepth 20000 in
theorem ggX2_protect_X2_isAhead : GoodIn wsX2_protect wsX2_isAhead := goodIn_r _ [16, 17, 18, 4, 5, 6, 7, 8, 9, 24, 25, 26, 27, 28, 29, 30, 31, 32, 33, 34, 35, 36, 37, 38, 39, 40, 41] (by decide +kernel) (by decide +kernel)
set_option maxRecDepth 20000 in
theorem gX2_protect_X2_isAhead : GoodIn wsX2_protect (wsV RX2 74 RX2 yX2_isAhead wsX2_isAhead) := goodIn_app (goodIn_of _ (by decide +kernel)) ggX2_protect_X2_isAhead
set_option maxRecDepth 20000 in
theorem ggX2_protect_X2_goes : GoodIn wsX2_protect wsX2_goes := goodIn_r _ [22, 23, 24, 25, 26, 27, 28, 29, 30, 31, 32, 33, 34, 35, 36, 37, 38, 39, 40, 41] (by decide +kernel) (by decide +kernel)
set_option maxRecDepth 20000 in
theorem gX2_protect_X2_goes : GoodIn wsX2_protect (wsV RX2 66 RX2 yX2_goes wsX2_goes) := goodIn_app (goodIn_of _ (by decide +kernel)) ggX2_protect_X2_goes
theorem dX2_protect_0 : decode cX2_protect 0 = .ok (.aload_n 0, 1) := by decide +kernel
theorem dX2_protect_1 : decode cX2_protect 1 = .ok (.aload_n 0, 1) := by decide +kernel
theorem dX2_protect_2 : decode cX2_protect 2 = .ok (.iload_n 1, 1) := by decide +kernel
theorem dX2_protect_3 : decode cX2_protect 3 = .ok (.invokevirtual 70, 3) := by decide +kernel
theorem dX2_protect_6 : decode cX2_protect 6 = .ok (.iload_n 2, 1) := by decide +kernel
theorem dX2_protect_7 : decode cX2_protect 7 = .ok (.iconst 0, 1) := by decide +kernel
theorem dX2_protect_8 : decode cX2_protect 8 = .ok (.ldc 77, 2) := by decide +kernel
theorem dX2_protect_10 : decode cX2_protect 10 = .ok (.invokestatic 61, 3) := by decide +kernel
theorem dX2_protect_13 : decode cX2_protect 13 = .ok (.ifCond .eq 17, 3) := by decide +kernel
theorem dX2_protect_16 : decode cX2_protect 16 = .ok (.iload_n 3, 1) := by decide +kernel
theorem dX2_protect_17 : decode cX2_protect 17 = .ok (.iconst 0, 1) := by decide +kernel
theorem dX2_protect_18 : decode cX2_protect 18 = .ok (.bipush 100, 2) := by decide +kernel
theorem dX2_protect_20 : decode cX2_protect 20 = .ok (.invokestatic 61, 3) := by decide +kernel
theorem dX2_protect_23 : decode cX2_protect 23 = .ok (.ifCond .eq 7, 3) := by decide +kernel
theorem dX2_protect_26 : decode cX2_protect 26 = .ok (.iconst 1, 1) := by decide +kernel
theorem dX2_protect_27 : decode cX2_protect 27 = .ok (.goto 4, 3) := by decide +kernel
theorem dX2_protect_30 : decode cX2_protect 30 = .ok (.iconst 0, 1) := by decide +kernel
theorem dX2_protect_31 : decode cX2_protect 31 = .ok (.aload_n 0, 1) := by decide +kernel
theorem dX2_protect_32 : decode cX2_protect 32 = .ok (.iload_n 1, 1) := by decide +kernel
theorem dX2_protect_33 : decode cX2_protect 33 = .ok (.invokevirtual 74, 3) := by decide +kernel
theorem dX2_protect_36 : decode cX2_protect 36 = .ok (.invokevirtual 66, 3) := by decide +kernel
theorem dX2_protect_39 : decode cX2_protect 39 = .ok (.ifCond .eq 17, 3) := by decide +kernel
theorem dX2_protect_42 : decode cX2_protect 42 = .ok (.aload_n 0, 1) := by decide +kernel
theorem dX2_protect_43 : decode cX2_protect 43 = .ok (.getfield 29, 3) := by decide +kernel
theorem dX2_protect_46 : decode cX2_protect 46 = .ok (.iload_n 1, 1) := by decide +kernel
theorem dX2_protect_47 : decode cX2_protect 47 = .ok (.iload_n 2, 1) := by decide +kernel
theorem dX2_protect_48 : decode cX2_protect 48 = .ok (.iastore, 1) := by decide +kernel
theorem dX2_protect_49 : decode cX2_protect 49 = .ok (.aload_n 0, 1) := by decide +kernel
theorem dX2_protect_50 : decode cX2_protect 50 = .ok (.getfield 32, 3) := by decide +kernel
theorem dX2_protect_53 : decode cX2_protect 53 = .ok (.iload_n 1, 1) := by decide +kernel
theorem dX2_protect_54 : decode cX2_protect 54 = .ok (.iload_n 3, 1) := by decide +kernel
theorem dX2_protect_55 : decode cX2_protect 55 = .ok (.iastore, 1) := by decide +kernel
theorem dX2_protect_56 : decode cX2_protect 56 = .ok (.return_, 1) := by decide +kernel
set_option maxRecDepth 20000 in
theorem ggX2_setInflation_X2_isWithin : GoodIn wsX2_setInflation wsX2_isWithin := goodIn_r _ [5] (by decide +kernel) (by decide +kernel)
set_option maxRecDepth 20000 in
theorem gX2_setInflation_X2_isWithin : GoodIn wsX2_setInflation (va_wsS RX2 61 yX2_isWithin wsX2_isWithin) := goodIn_app (goodIn_of _ (by decide +kernel)) ggX2_setInflation_X2_isWithin
set_option maxRecDepth 20000 in
theorem ggX2_setInflation_X2_goes : GoodIn wsX2_setInflation wsX2_goes := goodIn_r _ [9, 10, 11, 12, 13, 14, 15, 16, 17, 18, 19, 20, 21, 22, 23, 24, 25, 26, 27, 28] (by decide +kernel) (by decide +kernel)
set_option maxRecDepth 20000 in
theorem gX2_setInflation_X2_goes : GoodIn wsX2_setInflation (wsV RX2 66 RX2 yX2_goes wsX2_goes) := goodIn_app (goodIn_of _ (by decide +kernel)) ggX2_setInflation_X2_goes
theorem dX2_setInflation_0 : decode cX2_setInflation 0 = .ok (.aload_n 0, 1) := by decide +kernel
theorem dX2_setInflation_1 : decode cX2_setInflation 1 = .ok (.iload_n 1, 1) := by decide +kernel
theorem dX2_setInflation_2 : decode cX2_setInflation 2 = .ok (.iconst 0, 1) := by decide +kernel
theorem dX2_setInflation_3 : decode cX2_setInflation 3 = .ok (.bipush 19, 2) := by decide +kernel
theorem dX2_setInflation_5 : decode cX2_setInflation 5 = .ok (.invokestatic 61, 3) := by decide +kernel
theorem dX2_setInflation_8 : decode cX2_setInflation 8 = .ok (.ifCond .eq 19, 3) := by decide +kernel
theorem dX2_setInflation_11 : decode cX2_setInflation 11 = .ok (.iload_n 2, 1) := by decide +kernel
theorem dX2_setInflation_12 : decode cX2_setInflation 12 = .ok (.bipush (-100), 2) := by decide +kernel
theorem dX2_setInflation_14 : decode cX2_setInflation 14 = .ok (.sipush 300, 3) := by decide +kernel
theorem dX2_setInflation_17 : decode cX2_setInflation 17 = .ok (.invokestatic 61, 3) := by decide +kernel
theorem dX2_setInflation_20 : decode cX2_setInflation 20 = .ok (.ifCond .eq 7, 3) := by decide +kernel
theorem dX2_setInflation_23 : decode cX2_setInflation 23 = .ok (.iconst 1, 1) := by decide +kernel
theorem dX2_setInflation_24 : decode cX2_setInflation 24 = .ok (.goto 4, 3) := by decide +kernel
theorem dX2_setInflation_27 : decode cX2_setInflation 27 = .ok (.iconst 0, 1) := by decide +kernel
theorem dX2_setInflation_28 : decode cX2_setInflation 28 = .ok (.iconst 1, 1) := by decide +kernel
theorem dX2_setInflation_29 : decode cX2_setInflation 29 = .ok (.iconst 1, 1) := by decide +kernel
theorem dX2_setInflation_30 : decode cX2_setInflation 30 = .ok (.invokevirtual 66, 3) := by decide +kernel
theorem dX2_setInflation_33 : decode cX2_setInflation 33 = .ok (.ifCond .ne 5, 3) := by decide +kernel
theorem dX2_setInflation_36 : decode cX2_setInflation 36 = .ok (.iconst 0, 1) := by decide +kernel
theorem dX2_setInflation_37 : decode cX2_setInflation 37 = .ok (.ireturn, 1) := by decide +kernel
theorem dX2_setInflation_38 : decode cX2_setInflation 38 = .ok (.aload_n 0, 1) := by decide +kernel
theorem dX2_setInflation_39 : decode cX2_setInflation 39 = .ok (.getfield 48, 3) := by decide +kernel
theorem dX2_setInflation_42 : decode cX2_setInflation 42 = .ok (.iload_n 1, 1) := by decide +kernel
theorem dX2_setInflation_43 : decode cX2_setInflation 43 = .ok (.iaload, 1) := by decide +kernel
theorem dX2_setInflation_44 : decode cX2_setInflation 44 = .ok (.istore_n 3, 1) := by decide +kernel
theorem dX2_setInflation_45 : decode cX2_setInflation 45 = .ok (.aload_n 0, 1) := by decide +kernel
theorem dX2_setInflation_46 : decode cX2_setInflation 46 = .ok (.getfield 48, 3) := by decide +kernel
theorem dX2_setInflation_49 : decode cX2_setInflation 49 = .ok (.iload_n 1, 1) := by decide +kernel
theorem dX2_setInflation_50 : decode cX2_setInflation 50 = .ok (.iload_n 2, 1) := by decide +kernel
theorem dX2_setInflation_51 : decode cX2_setInflation 51 = .ok (.iastore, 1) := by decide +kernel
theorem dX2_setInflation_52 : decode cX2_setInflation 52 = .ok (.iload_n 3, 1) := by decide +kernel
theorem dX2_setInflation_53 : decode cX2_setInflation 53 = .ok (.ireturn, 1) := by decide +kernel
theorem dX2_isLife_0 : decode cX2_isLife 0 = .ok (.iload_n 0, 1) := by decide +kernel
theorem dX2_isLife_1 : decode cX2_isLife 1 = .ok (.ifCond .eq 8, 3) := by decide +kernel
theorem dX2_isLife_4 : decode cX2_isLife 4 = .ok (.iload_n 0, 1) := by decide +kernel
theorem dX2_isLife_5 : decode cX2_isLife 5 = .ok (.iconst 1, 1) := by decide +kernel
theorem dX2_isLife_6 : decode cX2_isLife 6 = .ok (.if_icmp .ne 7, 3) := by decide +kernel
theorem dX2_isLife_9 : decode cX2_isLife 9 = .ok (.iconst 1, 1) := by decide +kernel
theorem dX2_isLife_10 : decode cX2_isLife 10 = .ok (.goto 4, 3) := by decide +kernel
theorem dX2_isLife_13 : decode cX2_isLife 13 = .ok (.iconst 0, 1) := by decide +kernel
theorem dX2_isLife_14 : decode cX2_isLife 14 = .ok (.ireturn, 1) := by decide +kernel
set_option maxRecDepth 20000 in
theorem ggX2_die_X2_isOne : GoodIn wsX2_die wsX2_isOne := goodIn_r _ [7, 8, 20, 21, 22, 23, 24, 25, 26, 27, 28, 29, 30, 31, 32, 33, 34, 35, 36, 37] (by decide +kernel) (by decide +kernel)
set_option maxRecDepth 20000 in
theorem gX2_die_X2_isOne : GoodIn wsX2_die (wsV RX2 70 RX2 yX2_isOne wsX2_isOne) := goodIn_app (goodIn_of _ (by decide +kernel)) ggX2_die_X2_isOne
set_option maxRecDepth 20000 in
theorem ggX2_die_X2_isLife : GoodIn wsX2_die wsX2_isLife := goodIn_r _ [11] (by decide +kernel) (by decide +kernel)
set_option maxRecDepth 20000 in
theorem gX2_die_X2_isLife : GoodIn wsX2_die (va_wsS RX2 78 yX2_isLife wsX2_isLife) := goodIn_app (goodIn_of _ (by decide +kernel)) ggX2_die_X2_isLife
set_option maxRecDepth 20000 in
theorem ggX2_die_X2_isWithin : GoodIn wsX2_die wsX2_isWithin := goodIn_r _ [14] (by decide +kernel) (by decide +kernel)
set_option maxRecDepth 20000 in
theorem gX2_die_X2_isWithin : GoodIn wsX2_die (va_wsS RX2 61 yX2_isWithin wsX2_isWithin) := goodIn_app (goodIn_of _ (by decide +kernel)) ggX2_die_X2_isWithin
set_option maxRecDepth 20000 in
theorem ggX2_die_X2_goes : GoodIn wsX2_die wsX2_goes := goodIn_r _ [18, 19, 20, 21, 22, 23, 24, 25, 26, 27, 28, 29, 30, 31, 32, 33, 34, 35, 36, 37] (by decide +kernel) (by decide +kernel)
set_option maxRecDepth 20000 in
theorem gX2_die_X2_goes : GoodIn wsX2_die (wsV RX2 66 RX2 yX2_goes wsX2_goes) := goodIn_app (goodIn_of _ (by decide +kernel)) ggX2_die_X2_goes
theorem dX2_die_0 : decode cX2_die 0 = .ok (.aload_n 0, 1) := by decide +kernel
theorem dX2_die_1 : decode cX2_die 1 = .ok (.iload_n 1, 1) := by decide +kernel
theorem dX2_die_2 : decode cX2_die 2 = .ok (.invokevirtual 70, 3) := by decide +kernel
theorem dX2_die_5 : decode cX2_die 5 = .ok (.istore 4, 2) := by decide +kernel
theorem dX2_die_7 : decode cX2_die 7 = .ok (.iload_n 2, 1) := by decide +kernel
theorem dX2_die_8 : decode cX2_die 8 = .ok (.invokestatic 78, 3) := by decide +kernel
theorem dX2_die_11 : decode cX2_die 11 = .ok (.ifCond .eq 35, 3) := by decide +kernel
theorem dX2_die_14 : decode cX2_die 14 = .ok (.iload_n 3, 1) := by decide +kernel
theorem dX2_die_15 : decode cX2_die 15 = .ok (.iconst 0, 1) := by decide +kernel
theorem dX2_die_16 : decode cX2_die 16 = .ok (.aload_n 0, 1) := by decide +kernel
theorem dX2_die_17 : decode cX2_die 17 = .ok (.getfield 58, 3) := by decide +kernel
theorem dX2_die_20 : decode cX2_die 20 = .ok (.sipush 240, 3) := by decide +kernel
theorem dX2_die_23 : decode cX2_die 23 = .ok (.if_icmp .ge 10, 3) := by decide +kernel
theorem dX2_die_26 : decode cX2_die 26 = .ok (.aload_n 0, 1) := by decide +kernel
theorem dX2_die_27 : decode cX2_die 27 = .ok (.getfield 58, 3) := by decide +kernel
theorem dX2_die_30 : decode cX2_die 30 = .ok (.goto 6, 3) := by decide +kernel
theorem dX2_die_33 : decode cX2_die 33 = .ok (.sipush 239, 3) := by decide +kernel
theorem dX2_die_36 : decode cX2_die 36 = .ok (.invokestatic 61, 3) := by decide +kernel
theorem dX2_die_39 : decode cX2_die 39 = .ok (.ifCond .eq 7, 3) := by decide +kernel
theorem dX2_die_42 : decode cX2_die 42 = .ok (.iconst 1, 1) := by decide +kernel
theorem dX2_die_43 : decode cX2_die 43 = .ok (.goto 4, 3) := by decide +kernel
theorem dX2_die_46 : decode cX2_die 46 = .ok (.iconst 0, 1) := by decide +kernel
theorem dX2_die_47 : decode cX2_die 47 = .ok (.istore 5, 2) := by decide +kernel
theorem dX2_die_49 : decode cX2_die 49 = .ok (.aload_n 0, 1) := by decide +kernel
theorem dX2_die_50 : decode cX2_die 50 = .ok (.iload 4, 2) := by decide +kernel
theorem dX2_die_52 : decode cX2_die 52 = .ok (.iload 5, 2) := by decide +kernel
theorem dX2_die_54 : decode cX2_die 54 = .ok (.iload 4, 2) := by decide +kernel
theorem dX2_die_56 : decode cX2_die 56 = .ok (.ifCond .eq 25, 3) := by decide +kernel
theorem dX2_die_59 : decode cX2_die 59 = .ok (.iload 5, 2) := by decide +kernel
theorem dX2_die_61 : decode cX2_die 61 = .ok (.ifCond .eq 20, 3) := by decide +kernel
theorem dX2_die_64 : decode cX2_die 64 = .ok (.aload_n 0, 1) := by decide +kernel
theorem dX2_die_65 : decode cX2_die 65 = .ok (.getfield 35, 3) := by decide +kernel
theorem dX2_die_68 : decode cX2_die 68 = .ok (.iconst 2, 1) := by decide +kernel
theorem dX2_die_69 : decode cX2_die 69 = .ok (.iload_n 1, 1) := by decide +kernel
theorem dX2_die_70 : decode cX2_die 70 = .ok (.imul, 1) := by decide +kernel
theorem dX2_die_71 : decode cX2_die 71 = .ok (.iload_n 2, 1) := by decide +kernel
theorem dX2_die_72 : decode cX2_die 72 = .ok (.iadd, 1) := by decide +kernel
theorem dX2_die_73 : decode cX2_die 73 = .ok (.iaload, 1) := by decide +kernel
theorem dX2_die_74 : decode cX2_die 74 = .ok (.ifCond .ge 7, 3) := by decide +kernel
theorem dX2_die_77 : decode cX2_die 77 = .ok (.iconst 1, 1) := by decide +kernel
theorem dX2_die_78 : decode cX2_die 78 = .ok (.goto 4, 3) := by decide +kernel
theorem dX2_die_81 : decode cX2_die 81 = .ok (.iconst 0, 1) := by decide +kernel
theorem dX2_die_82 : decode cX2_die 82 = .ok (.invokevirtual 66, 3) := by decide +kernel
theorem dX2_die_85 : decode cX2_die 85 = .ok (.ifCond .eq 14, 3) := by decide +kernel
theorem dX2_die_88 : decode cX2_die 88 = .ok (.aload_n 0, 1) := by decide +kernel
theorem dX2_die_89 : decode cX2_die 89 = .ok (.getfield 35, 3) := by decide +kernel
theorem dX2_die_92 : decode cX2_die 92 = .ok (.iconst 2, 1) := by decide +kernel
theorem dX2_die_93 : decode cX2_die 93 = .ok (.iload_n 1, 1) := by decide +kernel
theorem dX2_die_94 : decode cX2_die 94 = .ok (.imul, 1) := by decide +kernel
theorem dX2_die_95 : decode cX2_die 95 = .ok (.iload_n 2, 1) := by decide +kernel
theorem dX2_die_96 : decode cX2_die 96 = .ok (.iadd, 1) := by decide +kernel
theorem dX2_die_97 : decode cX2_die 97 = .ok (.iload_n 3, 1) := by decide +kernel
theorem dX2_die_98 : decode cX2_die 98 = .ok (.iastore, 1) := by decide +kernel
theorem dX2_die_99 : decode cX2_die 99 = .ok (.return_, 1) := by decide +kernel
set_option maxRecDepth 20000 in
theorem ggX2_takeBack_X2_isOne : GoodIn wsX2_takeBack wsX2_isOne := goodIn_r _ [6, 7, 16, 17, 18, 19, 20, 21, 22, 23, 24, 25, 26, 27, 28, 29, 30, 31, 32, 33] (by decide +kernel) (by decide +kernel)
set_option maxRecDepth 20000 in
theorem gX2_takeBack_X2_isOne : GoodIn wsX2_takeBack (wsV RX2 70 RX2 yX2_isOne wsX2_isOne) := goodIn_app (goodIn_of _ (by decide +kernel)) ggX2_takeBack_X2_isOne
set_option maxRecDepth 20000 in
theorem ggX2_takeBack_X2_isLife : GoodIn wsX2_takeBack wsX2_isLife := goodIn_r _ [10] (by decide +kernel) (by decide +kernel)
set_option maxRecDepth 20000 in
theorem gX2_takeBack_X2_isLife : GoodIn wsX2_takeBack (va_wsS RX2 78 yX2_isLife wsX2_isLife) := goodIn_app (goodIn_of _ (by decide +kernel)) ggX2_takeBack_X2_isLife
set_option maxRecDepth 20000 in
theorem ggX2_takeBack_X2_goes : GoodIn wsX2_takeBack wsX2_goes := goodIn_r _ [14, 15, 16, 17, 18, 19, 20, 21, 22, 23, 24, 25, 26, 27, 28, 29, 30, 31, 32, 33] (by decide +kernel) (by decide +kernel)
set_option maxRecDepth 20000 in
theorem gX2_takeBack_X2_goes : GoodIn wsX2_takeBack (wsV RX2 66 RX2 yX2_goes wsX2_goes) := goodIn_app (goodIn_of _ (by decide +kernel)) ggX2_takeBack_X2_goes
theorem dX2_takeBack_0 : decode cX2_takeBack 0 = .ok (.aload_n 0, 1) := by decide +kernel
theorem dX2_takeBack_1 : decode cX2_takeBack 1 = .ok (.iload_n 1, 1) := by decide +kernel
theorem dX2_takeBack_2 : decode cX2_takeBack 2 = .ok (.invokevirtual 70, 3) := by decide +kernel
theorem dX2_takeBack_5 : decode cX2_takeBack 5 = .ok (.istore_n 3, 1) := by decide +kernel
theorem dX2_takeBack_6 : decode cX2_takeBack 6 = .ok (.aload_n 0, 1) := by decide +kernel
theorem dX2_takeBack_7 : decode cX2_takeBack 7 = .ok (.iload_n 3, 1) := by decide +kernel
theorem dX2_takeBack_8 : decode cX2_takeBack 8 = .ok (.iload_n 2, 1) := by decide +kernel
theorem dX2_takeBack_9 : decode cX2_takeBack 9 = .ok (.invokestatic 78, 3) := by decide +kernel
theorem dX2_takeBack_12 : decode cX2_takeBack 12 = .ok (.iload_n 3, 1) := by decide +kernel
theorem dX2_takeBack_13 : decode cX2_takeBack 13 = .ok (.ifCond .eq 27, 3) := by decide +kernel
theorem dX2_takeBack_16 : decode cX2_takeBack 16 = .ok (.iload_n 2, 1) := by decide +kernel
theorem dX2_takeBack_17 : decode cX2_takeBack 17 = .ok (.invokestatic 78, 3) := by decide +kernel
theorem dX2_takeBack_20 : decode cX2_takeBack 20 = .ok (.ifCond .eq 20, 3) := by decide +kernel
theorem dX2_takeBack_23 : decode cX2_takeBack 23 = .ok (.aload_n 0, 1) := by decide +kernel
theorem dX2_takeBack_24 : decode cX2_takeBack 24 = .ok (.getfield 35, 3) := by decide +kernel
theorem dX2_takeBack_27 : decode cX2_takeBack 27 = .ok (.iconst 2, 1) := by decide +kernel
theorem dX2_takeBack_28 : decode cX2_takeBack 28 = .ok (.iload_n 1, 1) := by decide +kernel
theorem dX2_takeBack_29 : decode cX2_takeBack 29 = .ok (.imul, 1) := by decide +kernel
theorem dX2_takeBack_30 : decode cX2_takeBack 30 = .ok (.iload_n 2, 1) := by decide +kernel
theorem dX2_takeBack_31 : decode cX2_takeBack 31 = .ok (.iadd, 1) := by decide +kernel
theorem dX2_takeBack_32 : decode cX2_takeBack 32 = .ok (.iaload, 1) := by decide +kernel
theorem dX2_takeBack_33 : decode cX2_takeBack 33 = .ok (.ifCond .lt 7, 3) := by decide +kernel
theorem dX2_takeBack_36 : decode cX2_takeBack 36 = .ok (.iconst 1, 1) := by decide +kernel
theorem dX2_takeBack_37 : decode cX2_takeBack 37 = .ok (.goto 4, 3) := by decide +kernel
theorem dX2_takeBack_40 : decode cX2_takeBack 40 = .ok (.iconst 0, 1) := by decide +kernel
theorem dX2_takeBack_41 : decode cX2_takeBack 41 = .ok (.invokevirtual 66, 3) := by decide +kernel
theorem dX2_takeBack_44 : decode cX2_takeBack 44 = .ok (.ifCond .ne 5, 3) := by decide +kernel
theorem dX2_takeBack_47 : decode cX2_takeBack 47 = .ok (.iconst 0, 1) := by decide +kernel
theorem dX2_takeBack_48 : decode cX2_takeBack 48 = .ok (.ireturn, 1) := by decide +kernel
theorem dX2_takeBack_49 : decode cX2_takeBack 49 = .ok (.aload_n 0, 1) := by decide +kernel
theorem dX2_takeBack_50 : decode cX2_takeBack 50 = .ok (.getfield 35, 3) := by decide +kernel
theorem dX2_takeBack_53 : decode cX2_takeBack 53 = .ok (.iconst 2, 1) := by decide +kernel
theorem dX2_takeBack_54 : decode cX2_takeBack 54 = .ok (.iload_n 1, 1) := by decide +kernel
theorem dX2_takeBack_55 : decode cX2_takeBack 55 = .ok (.imul, 1) := by decide +kernel
theorem dX2_takeBack_56 : decode cX2_takeBack 56 = .ok (.iload_n 2, 1) := by decide +kernel
theorem dX2_takeBack_57 : decode cX2_takeBack 57 = .ok (.iadd, 1) := by decide +kernel
theorem dX2_takeBack_58 : decode cX2_takeBack 58 = .ok (.iaload, 1) := by decide +kernel
theorem dX2_takeBack_59 : decode cX2_takeBack 59 = .ok (.istore 4, 2) := by decide +kernel
theorem dX2_takeBack_61 : decode cX2_takeBack 61 = .ok (.aload_n 0, 1) := by decide +kernel
theorem dX2_takeBack_62 : decode cX2_takeBack 62 = .ok (.getfield 35, 3) := by decide +kernel
theorem dX2_takeBack_65 : decode cX2_takeBack 65 = .ok (.iconst 2, 1) := by decide +kernel
theorem dX2_takeBack_66 : decode cX2_takeBack 66 = .ok (.iload_n 1, 1) := by decide +kernel
theorem dX2_takeBack_67 : decode cX2_takeBack 67 = .ok (.imul, 1) := by decide +kernel
theorem dX2_takeBack_68 : decode cX2_takeBack 68 = .ok (.iload_n 2, 1) := by decide +kernel
theorem dX2_takeBack_69 : decode cX2_takeBack 69 = .ok (.iadd, 1) := by decide +kernel
theorem dX2_takeBack_70 : decode cX2_takeBack 70 = .ok (.iconst (-1), 1) := by decide +kernel
theorem dX2_takeBack_71 : decode cX2_takeBack 71 = .ok (.iastore, 1) := by decide +kernel
theorem dX2_takeBack_72 : decode cX2_takeBack 72 = .ok (.iload 4, 2) := by decide +kernel
theorem dX2_takeBack_74 : decode cX2_takeBack 74 = .ok (.ireturn, 1) := by decide +kernel
theorem dX2_begins_0 : decode cX2_begins 0 = .ok (.aload_n 0, 1) := by decide +kernel
theorem dX2_begins_1 : decode cX2_begins 1 = .ok (.aload_n 0, 1) := by decide +kernel
theorem dX2_begins_2 : decode cX2_begins 2 = .ok (.getfield 13, 3) := by decide +kernel
theorem dX2_begins_5 : decode cX2_begins 5 = .ok (.iload_n 1, 1) := by decide +kernel
theorem dX2_begins_6 : decode cX2_begins 6 = .ok (.iaload, 1) := by decide +kernel
theorem dX2_begins_7 : decode cX2_begins 7 = .ok (.putfield 81, 3) := by decide +kernel
theorem dX2_begins_10 : decode cX2_begins 10 = .ok (.aload_n 0, 1) := by decide +kernel
theorem dX2_begins_11 : decode cX2_begins 11 = .ok (.iconst 0, 1) := by decide +kernel
theorem dX2_begins_12 : decode cX2_begins 12 = .ok (.putfield 84, 3) := by decide +kernel
theorem dX2_begins_15 : decode cX2_begins 15 = .ok (.return_, 1) := by decide +kernel
theorem dX2_grows_0 : decode cX2_grows 0 = .ok (.iload_n 2, 1) := by decide +kernel
theorem dX2_grows_1 : decode cX2_grows 1 = .ok (.aload_n 0, 1) := by decide +kernel
theorem dX2_grows_2 : decode cX2_grows 2 = .ok (.getfield 7, 3) := by decide +kernel
theorem dX2_grows_5 : decode cX2_grows 5 = .ok (.iload_n 1, 1) := by decide +kernel
theorem dX2_grows_6 : decode cX2_grows 6 = .ok (.iaload, 1) := by decide +kernel
theorem dX2_grows_7 : decode cX2_grows 7 = .ok (.if_icmp .le 92, 3) := by decide +kernel
theorem dX2_grows_10 : decode cX2_grows 10 = .ok (.iload_n 2, 1) := by decide +kernel
theorem dX2_grows_11 : decode cX2_grows 11 = .ok (.aload_n 0, 1) := by decide +kernel
theorem dX2_grows_12 : decode cX2_grows 12 = .ok (.getfield 7, 3) := by decide +kernel
theorem dX2_grows_15 : decode cX2_grows 15 = .ok (.iload_n 1, 1) := by decide +kernel
theorem dX2_grows_16 : decode cX2_grows 16 = .ok (.iaload, 1) := by decide +kernel
theorem dX2_grows_17 : decode cX2_grows 17 = .ok (.isub, 1) := by decide +kernel
theorem dX2_grows_18 : decode cX2_grows 18 = .ok (.bipush 12, 2) := by decide +kernel
theorem dX2_grows_20 : decode cX2_grows 20 = .ok (.irem, 1) := by decide +kernel
theorem dX2_grows_21 : decode cX2_grows 21 = .ok (.ifCond .ne 78, 3) := by decide +kernel
theorem dX2_grows_24 : decode cX2_grows 24 = .ok (.aload_n 0, 1) := by decide +kernel
theorem dX2_grows_25 : decode cX2_grows 25 = .ok (.getfield 84, 3) := by decide +kernel
theorem dX2_grows_28 : decode cX2_grows 28 = .ok (.aload_n 0, 1) := by decide +kernel
theorem dX2_grows_29 : decode cX2_grows 29 = .ok (.getfield 48, 3) := by decide +kernel
theorem dX2_grows_32 : decode cX2_grows 32 = .ok (.iload_n 2, 1) := by decide +kernel
theorem dX2_grows_33 : decode cX2_grows 33 = .ok (.bipush 12, 2) := by decide +kernel
theorem dX2_grows_35 : decode cX2_grows 35 = .ok (.idiv, 1) := by decide +kernel
theorem dX2_grows_36 : decode cX2_grows 36 = .ok (.iconst 1, 1) := by decide +kernel
theorem dX2_grows_37 : decode cX2_grows 37 = .ok (.isub, 1) := by decide +kernel
theorem dX2_grows_38 : decode cX2_grows 38 = .ok (.iaload, 1) := by decide +kernel
theorem dX2_grows_39 : decode cX2_grows 39 = .ok (.iadd, 1) := by decide +kernel
theorem dX2_grows_40 : decode cX2_grows 40 = .ok (.istore_n 3, 1) := by decide +kernel
theorem dX2_grows_41 : decode cX2_grows 41 = .ok (.iload_n 3, 1) := by decide +kernel
theorem dX2_grows_42 : decode cX2_grows 42 = .ok (.aload_n 0, 1) := by decide +kernel
theorem dX2_grows_43 : decode cX2_grows 43 = .ok (.getfield 26, 3) := by decide +kernel
theorem dX2_grows_46 : decode cX2_grows 46 = .ok (.iload_n 1, 1) := by decide +kernel
theorem dX2_grows_47 : decode cX2_grows 47 = .ok (.iaload, 1) := by decide +kernel
theorem dX2_grows_48 : decode cX2_grows 48 = .ok (.if_icmp .le 12, 3) := by decide +kernel
theorem dX2_grows_51 : decode cX2_grows 51 = .ok (.aload_n 0, 1) := by decide +kernel
theorem dX2_grows_52 : decode cX2_grows 52 = .ok (.getfield 26, 3) := by decide +kernel
theorem dX2_grows_55 : decode cX2_grows 55 = .ok (.iload_n 1, 1) := by decide +kernel
theorem dX2_grows_56 : decode cX2_grows 56 = .ok (.iaload, 1) := by decide +kernel
theorem dX2_grows_57 : decode cX2_grows 57 = .ok (.goto 12, 3) := by decide +kernel
theorem dX2_grows_60 : decode cX2_grows 60 = .ok (.iload_n 3, 1) := by decide +kernel
theorem dX2_grows_61 : decode cX2_grows 61 = .ok (.ifCond .ge 7, 3) := by decide +kernel
theorem dX2_grows_64 : decode cX2_grows 64 = .ok (.iconst 0, 1) := by decide +kernel
theorem dX2_grows_65 : decode cX2_grows 65 = .ok (.goto 4, 3) := by decide +kernel
theorem dX2_grows_68 : decode cX2_grows 68 = .ok (.iload_n 3, 1) := by decide +kernel
theorem dX2_grows_69 : decode cX2_grows 69 = .ok (.istore 4, 2) := by decide +kernel
theorem dX2_grows_71 : decode cX2_grows 71 = .ok (.aload_n 0, 1) := by decide +kernel
theorem dX2_grows_72 : decode cX2_grows 72 = .ok (.iload_n 3, 1) := by decide +kernel
theorem dX2_grows_73 : decode cX2_grows 73 = .ok (.iload 4, 2) := by decide +kernel
theorem dX2_grows_75 : decode cX2_grows 75 = .ok (.isub, 1) := by decide +kernel
theorem dX2_grows_76 : decode cX2_grows 76 = .ok (.putfield 84, 3) := by decide +kernel
theorem dX2_grows_79 : decode cX2_grows 79 = .ok (.aload_n 0, 1) := by decide +kernel
theorem dX2_grows_80 : decode cX2_grows 80 = .ok (.dup, 1) := by decide +kernel
theorem dX2_grows_81 : decode cX2_grows 81 = .ok (.getfield 81, 3) := by decide +kernel
theorem dX2_grows_84 : decode cX2_grows 84 = .ok (.aload_n 0, 1) := by decide +kernel
theorem dX2_grows_85 : decode cX2_grows 85 = .ok (.getfield 81, 3) := by decide +kernel
theorem dX2_grows_88 : decode cX2_grows 88 = .ok (.iload 4, 2) := by decide +kernel
theorem dX2_grows_90 : decode cX2_grows 90 = .ok (.imul, 1) := by decide +kernel
theorem dX2_grows_91 : decode cX2_grows 91 = .ok (.sipush 1000, 3) := by decide +kernel
theorem dX2_grows_94 : decode cX2_grows 94 = .ok (.idiv, 1) := by decide +kernel
theorem dX2_grows_95 : decode cX2_grows 95 = .ok (.iadd, 1) := by decide +kernel
theorem dX2_grows_96 : decode cX2_grows 96 = .ok (.putfield 81, 3) := by decide +kernel
theorem dX2_grows_99 : decode cX2_grows 99 = .ok (.return_, 1) := by decide +kernel
set_option maxRecDepth 20000 in
theorem ggX2_stands_X2_begins : GoodIn wsX2_stands wsX2_begins := goodIn_r _ [6, 7, 8, 9, 16, 17, 18, 19, 20, 21, 22, 23, 24, 25, 26, 27, 28, 29, 30, 31, 32, 33] (by decide +kernel) (by decide +kernel)
set_option maxRecDepth 20000 in
theorem gX2_stands_X2_begins : GoodIn wsX2_stands (wsV RX2 87 RX2 yX2_begins wsX2_begins) := goodIn_app (goodIn_of _ (by decide +kernel)) ggX2_stands_X2_begins
set_option maxRecDepth 20000 in
theorem ggX2_stands_X2_grows : GoodIn wsX2_stands wsX2_grows := goodIn_r _ [13, 1, 9, 14, 15, 8, 16, 17, 18, 19, 20, 21, 22, 23, 24, 25, 26, 27, 28, 29, 30, 31, 32, 33] (by decide +kernel) (by decide +kernel)
set_option maxRecDepth 20000 in
theorem gX2_stands_X2_grows : GoodIn wsX2_stands (wsV RX2 91 RX2 yX2_grows wsX2_grows) := goodIn_app (goodIn_of _ (by decide +kernel)) ggX2_stands_X2_grows
theorem dX2_stands_0 : decode cX2_stands 0 = .ok (.aload_n 0, 1) := by decide +kernel
theorem dX2_stands_1 : decode cX2_stands 1 = .ok (.iload_n 1, 1) := by decide +kernel
theorem dX2_stands_2 : decode cX2_stands 2 = .ok (.invokevirtual 87, 3) := by decide +kernel
theorem dX2_stands_5 : decode cX2_stands 5 = .ok (.aload_n 0, 1) := by decide +kernel
theorem dX2_stands_6 : decode cX2_stands 6 = .ok (.getfield 7, 3) := by decide +kernel
theorem dX2_stands_9 : decode cX2_stands 9 = .ok (.iload_n 1, 1) := by decide +kernel
theorem dX2_stands_10 : decode cX2_stands 10 = .ok (.iaload, 1) := by decide +kernel
theorem dX2_stands_11 : decode cX2_stands 11 = .ok (.istore_n 3, 1) := by decide +kernel
theorem dX2_stands_12 : decode cX2_stands 12 = .ok (.iload_n 3, 1) := by decide +kernel
theorem dX2_stands_13 : decode cX2_stands 13 = .ok (.iload_n 2, 1) := by decide +kernel
theorem dX2_stands_14 : decode cX2_stands 14 = .ok (.if_icmp .gt 15, 3) := by decide +kernel
theorem dX2_stands_17 : decode cX2_stands 17 = .ok (.aload_n 0, 1) := by decide +kernel
theorem dX2_stands_18 : decode cX2_stands 18 = .ok (.iload_n 1, 1) := by decide +kernel
theorem dX2_stands_19 : decode cX2_stands 19 = .ok (.iload_n 3, 1) := by decide +kernel
theorem dX2_stands_20 : decode cX2_stands 20 = .ok (.invokevirtual 91, 3) := by decide +kernel
theorem dX2_stands_23 : decode cX2_stands 23 = .ok (.iinc 3 1, 3) := by decide +kernel
theorem dX2_stands_26 : decode cX2_stands 26 = .ok (.goto (-14), 3) := by decide +kernel
theorem dX2_stands_29 : decode cX2_stands 29 = .ok (.iload_n 2, 1) := by decide +kernel
theorem dX2_stands_30 : decode cX2_stands 30 = .ok (.aload_n 0, 1) := by decide +kernel
theorem dX2_stands_31 : decode cX2_stands 31 = .ok (.getfield 7, 3) := by decide +kernel
theorem dX2_stands_34 : decode cX2_stands 34 = .ok (.iload_n 1, 1) := by decide +kernel
theorem dX2_stands_35 : decode cX2_stands 35 = .ok (.iaload, 1) := by decide +kernel
theorem dX2_stands_36 : decode cX2_stands 36 = .ok (.if_icmp .lt 7, 3) := by decide +kernel
theorem dX2_stands_39 : decode cX2_stands 39 = .ok (.iconst 1, 1) := by decide +kernel
theorem dX2_stands_40 : decode cX2_stands 40 = .ok (.goto 4, 3) := by decide +kernel
theorem dX2_stands_43 : decode cX2_stands 43 = .ok (.iconst 0, 1) := by decide +kernel
theorem dX2_stands_44 : decode cX2_stands 44 = .ok (.ireturn, 1) := by decide +kernel
set_option maxRecDepth 20000 in
theorem ggX2_fullAmount_X2_isOne : GoodIn wsX2_fullAmount wsX2_isOne := goodIn_r _ [6, 7, 33, 34, 35, 36, 37, 38, 39, 40, 41, 42, 43, 44, 45, 46, 47, 48, 49, 50] (by decide +kernel) (by decide +kernel)
set_option maxRecDepth 20000 in
theorem gX2_fullAmount_X2_isOne : GoodIn wsX2_fullAmount (wsV RX2 70 RX2 yX2_isOne wsX2_isOne) := goodIn_app (goodIn_of _ (by decide +kernel)) ggX2_fullAmount_X2_isOne
set_option maxRecDepth 20000 in
theorem ggX2_fullAmount_X2_isWithin : GoodIn wsX2_fullAmount wsX2_isWithin := goodIn_r _ [10] (by decide +kernel) (by decide +kernel)
set_option maxRecDepth 20000 in
theorem gX2_fullAmount_X2_isWithin : GoodIn wsX2_fullAmount (va_wsS RX2 61 yX2_isWithin wsX2_isWithin) := goodIn_app (goodIn_of _ (by decide +kernel)) ggX2_fullAmount_X2_isWithin
set_option maxRecDepth 20000 in
theorem ggX2_fullAmount_X2_goes : GoodIn wsX2_fullAmount wsX2_goes := goodIn_r _ [14, 15, 33, 34, 35, 36, 37, 38, 39, 40, 41, 42, 43, 44, 45, 46, 47, 48, 49, 50] (by decide +kernel) (by decide +kernel)
set_option maxRecDepth 20000 in
theorem gX2_fullAmount_X2_goes : GoodIn wsX2_fullAmount (wsV RX2 66 RX2 yX2_goes wsX2_goes) := goodIn_app (goodIn_of _ (by decide +kernel)) ggX2_fullAmount_X2_goes
set_option maxRecDepth 20000 in
theorem ggX2_fullAmount_X2_stands : GoodIn wsX2_fullAmount wsX2_stands := goodIn_r _ [19, 20, 21, 22, 23, 5, 24, 25, 1, 26, 27, 28, 29, 30, 31, 32, 33, 34, 35, 36, 37, 38, 39, 40, 41, 42, 43, 44, 45, 46, 47, 48, 49, 50] (by decide +kernel) (by decide +kernel)
set_option maxRecDepth 20000 in
theorem gX2_fullAmount_X2_stands : GoodIn wsX2_fullAmount (wsV RX2 95 RX2 yX2_stands wsX2_stands) := goodIn_app (goodIn_of _ (by decide +kernel)) ggX2_fullAmount_X2_stands
theorem dX2_fullAmount_0 : decode cX2_fullAmount 0 = .ok (.aload_n 0, 1) := by decide +kernel
theorem dX2_fullAmount_1 : decode cX2_fullAmount 1 = .ok (.aload_n 0, 1) := by decide +kernel
theorem dX2_fullAmount_2 : decode cX2_fullAmount 2 = .ok (.iload_n 1, 1) := by decide +kernel
theorem dX2_fullAmount_3 : decode cX2_fullAmount 3 = .ok (.invokevirtual 70, 3) := by decide +kernel
theorem dX2_fullAmount_6 : decode cX2_fullAmount 6 = .ok (.iload_n 2, 1) := by decide +kernel
theorem dX2_fullAmount_7 : decode cX2_fullAmount 7 = .ok (.iconst 0, 1) := by decide +kernel
theorem dX2_fullAmount_8 : decode cX2_fullAmount 8 = .ok (.sipush 239, 3) := by decide +kernel
theorem dX2_fullAmount_11 : decode cX2_fullAmount 11 = .ok (.invokestatic 61, 3) := by decide +kernel
theorem dX2_fullAmount_14 : decode cX2_fullAmount 14 = .ok (.iconst 1, 1) := by decide +kernel
theorem dX2_fullAmount_15 : decode cX2_fullAmount 15 = .ok (.invokevirtual 66, 3) := by decide +kernel
theorem dX2_fullAmount_18 : decode cX2_fullAmount 18 = .ok (.istore_n 3, 1) := by decide +kernel
theorem dX2_fullAmount_19 : decode cX2_fullAmount 19 = .ok (.iload_n 3, 1) := by decide +kernel
theorem dX2_fullAmount_20 : decode cX2_fullAmount 20 = .ok (.ifCond .eq 19, 3) := by decide +kernel
theorem dX2_fullAmount_23 : decode cX2_fullAmount 23 = .ok (.aload_n 0, 1) := by decide +kernel
theorem dX2_fullAmount_24 : decode cX2_fullAmount 24 = .ok (.iload_n 1, 1) := by decide +kernel
theorem dX2_fullAmount_25 : decode cX2_fullAmount 25 = .ok (.iload_n 2, 1) := by decide +kernel
theorem dX2_fullAmount_26 : decode cX2_fullAmount 26 = .ok (.invokevirtual 95, 3) := by decide +kernel
theorem dX2_fullAmount_29 : decode cX2_fullAmount 29 = .ok (.ifCond .eq 10, 3) := by decide +kernel
theorem dX2_fullAmount_32 : decode cX2_fullAmount 32 = .ok (.aload_n 0, 1) := by decide +kernel
theorem dX2_fullAmount_33 : decode cX2_fullAmount 33 = .ok (.getfield 81, 3) := by decide +kernel
theorem dX2_fullAmount_36 : decode cX2_fullAmount 36 = .ok (.goto 4, 3) := by decide +kernel
theorem dX2_fullAmount_39 : decode cX2_fullAmount 39 = .ok (.iconst 0, 1) := by decide +kernel
theorem dX2_fullAmount_40 : decode cX2_fullAmount 40 = .ok (.ireturn, 1) := by decide +kernel
set_option maxRecDepth 20000 in
theorem ggX2_carry_X2_isOne : GoodIn wsX2_carry wsX2_isOne := goodIn_r _ [6, 7, 33, 34, 35, 36, 37, 38, 39, 40, 41, 42, 43, 44, 45, 46, 47, 48, 49, 50] (by decide +kernel) (by decide +kernel)
set_option maxRecDepth 20000 in
theorem gX2_carry_X2_isOne : GoodIn wsX2_carry (wsV RX2 70 RX2 yX2_isOne wsX2_isOne) := goodIn_app (goodIn_of _ (by decide +kernel)) ggX2_carry_X2_isOne
set_option maxRecDepth 20000 in
theorem ggX2_carry_X2_isWithin : GoodIn wsX2_carry wsX2_isWithin := goodIn_r _ [10] (by decide +kernel) (by decide +kernel)
set_option maxRecDepth 20000 in
theorem gX2_carry_X2_isWithin : GoodIn wsX2_carry (va_wsS RX2 61 yX2_isWithin wsX2_isWithin) := goodIn_app (goodIn_of _ (by decide +kernel)) ggX2_carry_X2_isWithin
set_option maxRecDepth 20000 in
theorem ggX2_carry_X2_goes : GoodIn wsX2_carry wsX2_goes := goodIn_r _ [14, 15, 33, 34, 35, 36, 37, 38, 39, 40, 41, 42, 43, 44, 45, 46, 47, 48, 49, 50] (by decide +kernel) (by decide +kernel)
set_option maxRecDepth 20000 in
theorem gX2_carry_X2_goes : GoodIn wsX2_carry (wsV RX2 66 RX2 yX2_goes wsX2_goes) := goodIn_app (goodIn_of _ (by decide +kernel)) ggX2_carry_X2_goes
set_option maxRecDepth 20000 in
theorem ggX2_carry_X2_stands : GoodIn wsX2_carry wsX2_stands := goodIn_r _ [19, 20, 21, 22, 23, 5, 24, 25, 26, 1, 27, 28, 29, 30, 31, 32, 33, 34, 35, 36, 37, 38, 39, 40, 41, 42, 43, 44, 45, 46, 47, 48, 49, 50] (by decide +kernel) (by decide +kernel)
set_option maxRecDepth 20000 in
theorem gX2_carry_X2_stands : GoodIn wsX2_carry (wsV RX2 95 RX2 yX2_stands wsX2_stands) := goodIn_app (goodIn_of _ (by decide +kernel)) ggX2_carry_X2_stands
theorem dX2_carry_0 : decode cX2_carry 0 = .ok (.aload_n 0, 1) := by decide +kernel
theorem dX2_carry_1 : decode cX2_carry 1 = .ok (.aload_n 0, 1) := by decide +kernel
theorem dX2_carry_2 : decode cX2_carry 2 = .ok (.iload_n 1, 1) := by decide +kernel
theorem dX2_carry_3 : decode cX2_carry 3 = .ok (.invokevirtual 70, 3) := by decide +kernel
theorem dX2_carry_6 : decode cX2_carry 6 = .ok (.iload_n 2, 1) := by decide +kernel
theorem dX2_carry_7 : decode cX2_carry 7 = .ok (.iconst 0, 1) := by decide +kernel
theorem dX2_carry_8 : decode cX2_carry 8 = .ok (.sipush 239, 3) := by decide +kernel
theorem dX2_carry_11 : decode cX2_carry 11 = .ok (.invokestatic 61, 3) := by decide +kernel
theorem dX2_carry_14 : decode cX2_carry 14 = .ok (.iconst 1, 1) := by decide +kernel
theorem dX2_carry_15 : decode cX2_carry 15 = .ok (.invokevirtual 66, 3) := by decide +kernel
theorem dX2_carry_18 : decode cX2_carry 18 = .ok (.istore_n 3, 1) := by decide +kernel
theorem dX2_carry_19 : decode cX2_carry 19 = .ok (.iload_n 3, 1) := by decide +kernel
theorem dX2_carry_20 : decode cX2_carry 20 = .ok (.ifCond .eq 19, 3) := by decide +kernel
theorem dX2_carry_23 : decode cX2_carry 23 = .ok (.aload_n 0, 1) := by decide +kernel
theorem dX2_carry_24 : decode cX2_carry 24 = .ok (.iload_n 1, 1) := by decide +kernel
theorem dX2_carry_25 : decode cX2_carry 25 = .ok (.iload_n 2, 1) := by decide +kernel
theorem dX2_carry_26 : decode cX2_carry 26 = .ok (.invokevirtual 95, 3) := by decide +kernel
theorem dX2_carry_29 : decode cX2_carry 29 = .ok (.ifCond .eq 10, 3) := by decide +kernel
theorem dX2_carry_32 : decode cX2_carry 32 = .ok (.aload_n 0, 1) := by decide +kernel
theorem dX2_carry_33 : decode cX2_carry 33 = .ok (.getfield 84, 3) := by decide +kernel
theorem dX2_carry_36 : decode cX2_carry 36 = .ok (.goto 4, 3) := by decide +kernel
theorem dX2_carry_39 : decode cX2_carry 39 = .ok (.iconst 0, 1) := by decide +kernel
theorem dX2_carry_40 : decode cX2_carry 40 = .ok (.ireturn, 1) := by decide +kernel
theorem dX2_isAlive_0 : decode cX2_isAlive 0 = .ok (.aload_n 0, 1) := by decide +kernel
theorem dX2_isAlive_1 : decode cX2_isAlive 1 = .ok (.getfield 35, 3) := by decide +kernel
theorem dX2_isAlive_4 : decode cX2_isAlive 4 = .ok (.iconst 2, 1) := by decide +kernel
theorem dX2_isAlive_5 : decode cX2_isAlive 5 = .ok (.iload_n 1, 1) := by decide +kernel
theorem dX2_isAlive_6 : decode cX2_isAlive 6 = .ok (.imul, 1) := by decide +kernel
theorem dX2_isAlive_7 : decode cX2_isAlive 7 = .ok (.iload_n 2, 1) := by decide +kernel
theorem dX2_isAlive_8 : decode cX2_isAlive 8 = .ok (.iadd, 1) := by decide +kernel
theorem dX2_isAlive_9 : decode cX2_isAlive 9 = .ok (.iaload, 1) := by decide +kernel
theorem dX2_isAlive_10 : decode cX2_isAlive 10 = .ok (.ifCond .lt 17, 3) := by decide +kernel
theorem dX2_isAlive_13 : decode cX2_isAlive 13 = .ok (.iload_n 3, 1) := by decide +kernel
theorem dX2_isAlive_14 : decode cX2_isAlive 14 = .ok (.aload_n 0, 1) := by decide +kernel
theorem dX2_isAlive_15 : decode cX2_isAlive 15 = .ok (.getfield 35, 3) := by decide +kernel
theorem dX2_isAlive_18 : decode cX2_isAlive 18 = .ok (.iconst 2, 1) := by decide +kernel
theorem dX2_isAlive_19 : decode cX2_isAlive 19 = .ok (.iload_n 1, 1) := by decide +kernel
theorem dX2_isAlive_20 : decode cX2_isAlive 20 = .ok (.imul, 1) := by decide +kernel
theorem dX2_isAlive_21 : decode cX2_isAlive 21 = .ok (.iload_n 2, 1) := by decide +kernel
theorem dX2_isAlive_22 : decode cX2_isAlive 22 = .ok (.iadd, 1) := by decide +kernel
theorem dX2_isAlive_23 : decode cX2_isAlive 23 = .ok (.iaload, 1) := by decide +kernel
theorem dX2_isAlive_24 : decode cX2_isAlive 24 = .ok (.if_icmp .gt 7, 3) := by decide +kernel
theorem dX2_isAlive_27 : decode cX2_isAlive 27 = .ok (.iconst 1, 1) := by decide +kernel
theorem dX2_isAlive_28 : decode cX2_isAlive 28 = .ok (.goto 4, 3) := by decide +kernel
theorem dX2_isAlive_31 : decode cX2_isAlive 31 = .ok (.iconst 0, 1) := by decide +kernel
theorem dX2_isAlive_32 : decode cX2_isAlive 32 = .ok (.ireturn, 1) := by decide +kernel
set_option maxRecDepth 20000 in
theorem ggX2_share_X2_isAlive : GoodIn wsX2_share wsX2_isAlive := goodIn_r _ [10, 11, 12, 13, 14, 15, 16, 17, 18, 19, 20, 21, 22, 23, 24, 25, 26, 27, 28, 29] (by decide +kernel) (by decide +kernel)
set_option maxRecDepth 20000 in
theorem gX2_share_X2_isAlive : GoodIn wsX2_share (wsV RX2 99 RX2 yX2_isAlive wsX2_isAlive) := goodIn_app (goodIn_of _ (by decide +kernel)) ggX2_share_X2_isAlive
theorem dX2_share_0 : decode cX2_share 0 = .ok (.aload_n 0, 1) := by decide +kernel
theorem dX2_share_1 : decode cX2_share 1 = .ok (.iload_n 1, 1) := by decide +kernel
theorem dX2_share_2 : decode cX2_share 2 = .ok (.iconst 0, 1) := by decide +kernel
theorem dX2_share_3 : decode cX2_share 3 = .ok (.iload_n 2, 1) := by decide +kernel
theorem dX2_share_4 : decode cX2_share 4 = .ok (.invokevirtual 99, 3) := by decide +kernel
theorem dX2_share_7 : decode cX2_share 7 = .ok (.istore_n 3, 1) := by decide +kernel
theorem dX2_share_8 : decode cX2_share 8 = .ok (.aload_n 0, 1) := by decide +kernel
theorem dX2_share_9 : decode cX2_share 9 = .ok (.iload_n 1, 1) := by decide +kernel
theorem dX2_share_10 : decode cX2_share 10 = .ok (.iconst 1, 1) := by decide +kernel
theorem dX2_share_11 : decode cX2_share 11 = .ok (.iload_n 2, 1) := by decide +kernel
theorem dX2_share_12 : decode cX2_share 12 = .ok (.invokevirtual 99, 3) := by decide +kernel
theorem dX2_share_15 : decode cX2_share 15 = .ok (.istore 4, 2) := by decide +kernel
theorem dX2_share_17 : decode cX2_share 17 = .ok (.iload_n 2, 1) := by decide +kernel
theorem dX2_share_18 : decode cX2_share 18 = .ok (.aload_n 0, 1) := by decide +kernel
theorem dX2_share_19 : decode cX2_share 19 = .ok (.getfield 7, 3) := by decide +kernel
theorem dX2_share_22 : decode cX2_share 22 = .ok (.iload_n 1, 1) := by decide +kernel
theorem dX2_share_23 : decode cX2_share 23 = .ok (.iaload, 1) := by decide +kernel
theorem dX2_share_24 : decode cX2_share 24 = .ok (.aload_n 0, 1) := by decide +kernel
theorem dX2_share_25 : decode cX2_share 25 = .ok (.getfield 16, 3) := by decide +kernel
theorem dX2_share_28 : decode cX2_share 28 = .ok (.iload_n 1, 1) := by decide +kernel
theorem dX2_share_29 : decode cX2_share 29 = .ok (.iaload, 1) := by decide +kernel
theorem dX2_share_30 : decode cX2_share 30 = .ok (.iadd, 1) := by decide +kernel
theorem dX2_share_31 : decode cX2_share 31 = .ok (.if_icmp .lt 25, 3) := by decide +kernel
theorem dX2_share_34 : decode cX2_share 34 = .ok (.iload_n 3, 1) := by decide +kernel
theorem dX2_share_35 : decode cX2_share 35 = .ok (.ifCond .eq 8, 3) := by decide +kernel
theorem dX2_share_38 : decode cX2_share 38 = .ok (.iload 4, 2) := by decide +kernel
theorem dX2_share_40 : decode cX2_share 40 = .ok (.ifCond .ne 16, 3) := by decide +kernel
theorem dX2_share_43 : decode cX2_share 43 = .ok (.iload_n 3, 1) := by decide +kernel
theorem dX2_share_44 : decode cX2_share 44 = .ok (.ifCond .eq 17, 3) := by decide +kernel
theorem dX2_share_47 : decode cX2_share 47 = .ok (.aload_n 0, 1) := by decide +kernel
theorem dX2_share_48 : decode cX2_share 48 = .ok (.getfield 22, 3) := by decide +kernel
theorem dX2_share_51 : decode cX2_share 51 = .ok (.iload_n 1, 1) := by decide +kernel
theorem dX2_share_52 : decode cX2_share 52 = .ok (.baload, 1) := by decide +kernel
theorem dX2_share_53 : decode cX2_share 53 = .ok (.ifCond .ne 8, 3) := by decide +kernel
theorem dX2_share_56 : decode cX2_share 56 = .ok (.aload_n 0, 1) := by decide +kernel
theorem dX2_share_57 : decode cX2_share 57 = .ok (.getfield 81, 3) := by decide +kernel
theorem dX2_share_60 : decode cX2_share 60 = .ok (.ireturn, 1) := by decide +kernel
theorem dX2_share_61 : decode cX2_share 61 = .ok (.iload_n 3, 1) := by decide +kernel
theorem dX2_share_62 : decode cX2_share 62 = .ok (.ifCond .ne 8, 3) := by decide +kernel
theorem dX2_share_65 : decode cX2_share 65 = .ok (.iload 4, 2) := by decide +kernel
theorem dX2_share_67 : decode cX2_share 67 = .ok (.ifCond .eq 20, 3) := by decide +kernel
theorem dX2_share_70 : decode cX2_share 70 = .ok (.aload_n 0, 1) := by decide +kernel
theorem dX2_share_71 : decode cX2_share 71 = .ok (.getfield 81, 3) := by decide +kernel
theorem dX2_share_74 : decode cX2_share 74 = .ok (.aload_n 0, 1) := by decide +kernel
theorem dX2_share_75 : decode cX2_share 75 = .ok (.getfield 19, 3) := by decide +kernel
theorem dX2_share_78 : decode cX2_share 78 = .ok (.iload_n 1, 1) := by decide +kernel
theorem dX2_share_79 : decode cX2_share 79 = .ok (.iaload, 1) := by decide +kernel
theorem dX2_share_80 : decode cX2_share 80 = .ok (.imul, 1) := by decide +kernel
theorem dX2_share_81 : decode cX2_share 81 = .ok (.bipush 100, 2) := by decide +kernel
theorem dX2_share_83 : decode cX2_share 83 = .ok (.idiv, 1) := by decide +kernel
theorem dX2_share_84 : decode cX2_share 84 = .ok (.goto 4, 3) := by decide +kernel
theorem dX2_share_87 : decode cX2_share 87 = .ok (.iconst 0, 1) := by decide +kernel
theorem dX2_share_88 : decode cX2_share 88 = .ok (.ireturn, 1) := by decide +kernel
theorem dX2_protectedAt_0 : decode cX2_protectedAt 0 = .ok (.aload_n 0, 1) := by decide +kernel
theorem dX2_protectedAt_1 : decode cX2_protectedAt 1 = .ok (.getfield 35, 3) := by decide +kernel
theorem dX2_protectedAt_4 : decode cX2_protectedAt 4 = .ok (.iconst 2, 1) := by decide +kernel
theorem dX2_protectedAt_5 : decode cX2_protectedAt 5 = .ok (.iload_n 1, 1) := by decide +kernel
theorem dX2_protectedAt_6 : decode cX2_protectedAt 6 = .ok (.imul, 1) := by decide +kernel
theorem dX2_protectedAt_7 : decode cX2_protectedAt 7 = .ok (.iaload, 1) := by decide +kernel
theorem dX2_protectedAt_8 : decode cX2_protectedAt 8 = .ok (.istore_n 2, 1) := by decide +kernel
theorem dX2_protectedAt_9 : decode cX2_protectedAt 9 = .ok (.aload_n 0, 1) := by decide +kernel
theorem dX2_protectedAt_10 : decode cX2_protectedAt 10 = .ok (.getfield 35, 3) := by decide +kernel
theorem dX2_protectedAt_13 : decode cX2_protectedAt 13 = .ok (.iconst 2, 1) := by decide +kernel
theorem dX2_protectedAt_14 : decode cX2_protectedAt 14 = .ok (.iload_n 1, 1) := by decide +kernel
theorem dX2_protectedAt_15 : decode cX2_protectedAt 15 = .ok (.imul, 1) := by decide +kernel
theorem dX2_protectedAt_16 : decode cX2_protectedAt 16 = .ok (.iconst 1, 1) := by decide +kernel
theorem dX2_protectedAt_17 : decode cX2_protectedAt 17 = .ok (.iadd, 1) := by decide +kernel
theorem dX2_protectedAt_18 : decode cX2_protectedAt 18 = .ok (.iaload, 1) := by decide +kernel
theorem dX2_protectedAt_19 : decode cX2_protectedAt 19 = .ok (.istore_n 3, 1) := by decide +kernel
theorem dX2_protectedAt_20 : decode cX2_protectedAt 20 = .ok (.iload_n 2, 1) := by decide +kernel
theorem dX2_protectedAt_21 : decode cX2_protectedAt 21 = .ok (.iload_n 3, 1) := by decide +kernel
theorem dX2_protectedAt_22 : decode cX2_protectedAt 22 = .ok (.if_icmp .le 7, 3) := by decide +kernel
theorem dX2_protectedAt_25 : decode cX2_protectedAt 25 = .ok (.iload_n 2, 1) := by decide +kernel
theorem dX2_protectedAt_26 : decode cX2_protectedAt 26 = .ok (.goto 4, 3) := by decide +kernel
theorem dX2_protectedAt_29 : decode cX2_protectedAt 29 = .ok (.iload_n 3, 1) := by decide +kernel
theorem dX2_protectedAt_30 : decode cX2_protectedAt 30 = .ok (.iconst 1, 1) := by decide +kernel
theorem dX2_protectedAt_31 : decode cX2_protectedAt 31 = .ok (.iadd, 1) := by decide +kernel
theorem dX2_protectedAt_32 : decode cX2_protectedAt 32 = .ok (.istore 4, 2) := by decide +kernel
theorem dX2_protectedAt_34 : decode cX2_protectedAt 34 = .ok (.aload_n 0, 1) := by decide +kernel
theorem dX2_protectedAt_35 : decode cX2_protectedAt 35 = .ok (.getfield 7, 3) := by decide +kernel
theorem dX2_protectedAt_38 : decode cX2_protectedAt 38 = .ok (.iload_n 1, 1) := by decide +kernel
theorem dX2_protectedAt_39 : decode cX2_protectedAt 39 = .ok (.iaload, 1) := by decide +kernel
theorem dX2_protectedAt_40 : decode cX2_protectedAt 40 = .ok (.aload_n 0, 1) := by decide +kernel
theorem dX2_protectedAt_41 : decode cX2_protectedAt 41 = .ok (.getfield 16, 3) := by decide +kernel
theorem dX2_protectedAt_44 : decode cX2_protectedAt 44 = .ok (.iload_n 1, 1) := by decide +kernel
theorem dX2_protectedAt_45 : decode cX2_protectedAt 45 = .ok (.iaload, 1) := by decide +kernel
theorem dX2_protectedAt_46 : decode cX2_protectedAt 46 = .ok (.iadd, 1) := by decide +kernel
theorem dX2_protectedAt_47 : decode cX2_protectedAt 47 = .ok (.istore 5, 2) := by decide +kernel
theorem dX2_protectedAt_49 : decode cX2_protectedAt 49 = .ok (.iload 4, 2) := by decide +kernel
theorem dX2_protectedAt_51 : decode cX2_protectedAt 51 = .ok (.iload 5, 2) := by decide +kernel
theorem dX2_protectedAt_53 : decode cX2_protectedAt 53 = .ok (.if_icmp .le 8, 3) := by decide +kernel
theorem dX2_protectedAt_56 : decode cX2_protectedAt 56 = .ok (.iload 4, 2) := by decide +kernel
theorem dX2_protectedAt_58 : decode cX2_protectedAt 58 = .ok (.goto 5, 3) := by decide +kernel
theorem dX2_protectedAt_61 : decode cX2_protectedAt 61 = .ok (.iload 5, 2) := by decide +kernel
theorem dX2_protectedAt_63 : decode cX2_protectedAt 63 = .ok (.istore 4, 2) := by decide +kernel
theorem dX2_protectedAt_65 : decode cX2_protectedAt 65 = .ok (.iload_n 2, 1) := by decide +kernel
theorem dX2_protectedAt_66 : decode cX2_protectedAt 66 = .ok (.ifCond .lt 15, 3) := by decide +kernel
theorem dX2_protectedAt_69 : decode cX2_protectedAt 69 = .ok (.iload_n 3, 1) := by decide +kernel
theorem dX2_protectedAt_70 : decode cX2_protectedAt 70 = .ok (.ifCond .lt 11, 3) := by decide +kernel
theorem dX2_protectedAt_73 : decode cX2_protectedAt 73 = .ok (.iload 4, 2) := by decide +kernel
theorem dX2_protectedAt_75 : decode cX2_protectedAt 75 = .ok (.sipush 240, 3) := by decide +kernel
theorem dX2_protectedAt_78 : decode cX2_protectedAt 78 = .ok (.if_icmp .le 9, 3) := by decide +kernel
theorem dX2_protectedAt_81 : decode cX2_protectedAt 81 = .ok (.sipush 240, 3) := by decide +kernel
theorem dX2_protectedAt_84 : decode cX2_protectedAt 84 = .ok (.goto 5, 3) := by decide +kernel
theorem dX2_protectedAt_87 : decode cX2_protectedAt 87 = .ok (.iload 4, 2) := by decide +kernel
theorem dX2_protectedAt_89 : decode cX2_protectedAt 89 = .ok (.ireturn, 1) := by decide +kernel
set_option maxRecDepth 20000 in
theorem ggX2_upTo_X2_protectedAt : GoodIn wsX2_upTo wsX2_protectedAt := goodIn_r _ [8, 9, 1, 10, 34, 35, 36, 37, 38, 39, 40, 41, 42, 43, 44, 45, 46, 47, 48, 49, 50, 51] (by decide +kernel) (by decide +kernel)
set_option maxRecDepth 20000 in
theorem gX2_upTo_X2_protectedAt : GoodIn wsX2_upTo (wsV RX2 102 RX2 yX2_protectedAt wsX2_protectedAt) := goodIn_app (goodIn_of _ (by decide +kernel)) ggX2_upTo_X2_protectedAt
set_option maxRecDepth 20000 in
theorem ggX2_upTo_X2_begins : GoodIn wsX2_upTo wsX2_begins := goodIn_r _ [14, 15, 16, 17, 34, 35, 36, 37, 38, 39, 40, 41, 42, 43, 44, 45, 46, 47, 48, 49, 50, 51] (by decide +kernel) (by decide +kernel)
set_option maxRecDepth 20000 in
theorem gX2_upTo_X2_begins : GoodIn wsX2_upTo (wsV RX2 87 RX2 yX2_begins wsX2_begins) := goodIn_app (goodIn_of _ (by decide +kernel)) ggX2_upTo_X2_begins
set_option maxRecDepth 20000 in
theorem ggX2_upTo_X2_grows : GoodIn wsX2_upTo wsX2_grows := goodIn_r _ [21, 1, 17, 22, 23, 16, 34, 35, 36, 37, 38, 39, 40, 41, 42, 43, 44, 45, 46, 47, 48, 49, 50, 51] (by decide +kernel) (by decide +kernel)
set_option maxRecDepth 20000 in
theorem gX2_upTo_X2_grows : GoodIn wsX2_upTo (wsV RX2 91 RX2 yX2_grows wsX2_grows) := goodIn_app (goodIn_of _ (by decide +kernel)) ggX2_upTo_X2_grows
set_option maxRecDepth 20000 in
theorem ggX2_upTo_X2_share : GoodIn wsX2_upTo wsX2_share := goodIn_r _ [27, 1, 10, 28, 16, 29, 30, 31, 32, 7, 33, 9, 34, 35, 36, 37, 38, 39, 40, 41, 42, 43, 44, 45, 46, 47, 48, 49, 50, 51] (by decide +kernel) (by decide +kernel)
set_option maxRecDepth 20000 in
theorem gX2_upTo_X2_share : GoodIn wsX2_upTo (wsV RX2 106 RX2 yX2_share wsX2_share) := goodIn_app (goodIn_of _ (by decide +kernel)) ggX2_upTo_X2_share
theorem dX2_upTo_0 : decode cX2_upTo 0 = .ok (.lconst 0, 1) := by decide +kernel
theorem dX2_upTo_1 : decode cX2_upTo 1 = .ok (.lstore_n 3, 1) := by decide +kernel
theorem dX2_upTo_2 : decode cX2_upTo 2 = .ok (.aload_n 0, 1) := by decide +kernel
theorem dX2_upTo_3 : decode cX2_upTo 3 = .ok (.iload_n 1, 1) := by decide +kernel
theorem dX2_upTo_4 : decode cX2_upTo 4 = .ok (.invokevirtual 102, 3) := by decide +kernel
theorem dX2_upTo_7 : decode cX2_upTo 7 = .ok (.istore 5, 2) := by decide +kernel
theorem dX2_upTo_9 : decode cX2_upTo 9 = .ok (.aload_n 0, 1) := by decide +kernel
theorem dX2_upTo_10 : decode cX2_upTo 10 = .ok (.iload_n 1, 1) := by decide +kernel
theorem dX2_upTo_11 : decode cX2_upTo 11 = .ok (.invokevirtual 87, 3) := by decide +kernel
theorem dX2_upTo_14 : decode cX2_upTo 14 = .ok (.aload_n 0, 1) := by decide +kernel
theorem dX2_upTo_15 : decode cX2_upTo 15 = .ok (.getfield 7, 3) := by decide +kernel
theorem dX2_upTo_18 : decode cX2_upTo 18 = .ok (.iload_n 1, 1) := by decide +kernel
theorem dX2_upTo_19 : decode cX2_upTo 19 = .ok (.iaload, 1) := by decide +kernel
theorem dX2_upTo_20 : decode cX2_upTo 20 = .ok (.istore 6, 2) := by decide +kernel
theorem dX2_upTo_22 : decode cX2_upTo 22 = .ok (.iload 6, 2) := by decide +kernel
theorem dX2_upTo_24 : decode cX2_upTo 24 = .ok (.iload_n 2, 1) := by decide +kernel
theorem dX2_upTo_25 : decode cX2_upTo 25 = .ok (.if_icmp .gt 67, 3) := by decide +kernel
theorem dX2_upTo_28 : decode cX2_upTo 28 = .ok (.aload_n 0, 1) := by decide +kernel
theorem dX2_upTo_29 : decode cX2_upTo 29 = .ok (.iload_n 1, 1) := by decide +kernel
theorem dX2_upTo_30 : decode cX2_upTo 30 = .ok (.iload 6, 2) := by decide +kernel
theorem dX2_upTo_32 : decode cX2_upTo 32 = .ok (.invokevirtual 91, 3) := by decide +kernel
theorem dX2_upTo_35 : decode cX2_upTo 35 = .ok (.aload_n 0, 1) := by decide +kernel
theorem dX2_upTo_36 : decode cX2_upTo 36 = .ok (.getfield 29, 3) := by decide +kernel
theorem dX2_upTo_39 : decode cX2_upTo 39 = .ok (.iload_n 1, 1) := by decide +kernel
theorem dX2_upTo_40 : decode cX2_upTo 40 = .ok (.iaload, 1) := by decide +kernel
theorem dX2_upTo_41 : decode cX2_upTo 41 = .ok (.aload_n 0, 1) := by decide +kernel
theorem dX2_upTo_42 : decode cX2_upTo 42 = .ok (.getfield 32, 3) := by decide +kernel
theorem dX2_upTo_45 : decode cX2_upTo 45 = .ok (.iload_n 1, 1) := by decide +kernel
theorem dX2_upTo_46 : decode cX2_upTo 46 = .ok (.iaload, 1) := by decide +kernel
theorem dX2_upTo_47 : decode cX2_upTo 47 = .ok (.imul, 1) := by decide +kernel
theorem dX2_upTo_48 : decode cX2_upTo 48 = .ok (.bipush 100, 2) := by decide +kernel
theorem dX2_upTo_50 : decode cX2_upTo 50 = .ok (.idiv, 1) := by decide +kernel
theorem dX2_upTo_51 : decode cX2_upTo 51 = .ok (.i2l, 1) := by decide +kernel
theorem dX2_upTo_52 : decode cX2_upTo 52 = .ok (.lstore 7, 2) := by decide +kernel
theorem dX2_upTo_54 : decode cX2_upTo 54 = .ok (.iload 6, 2) := by decide +kernel
theorem dX2_upTo_56 : decode cX2_upTo 56 = .ok (.iload 5, 2) := by decide +kernel
theorem dX2_upTo_58 : decode cX2_upTo 58 = .ok (.if_icmp .ne 15, 3) := by decide +kernel
theorem dX2_upTo_61 : decode cX2_upTo 61 = .ok (.lload 7, 2) := by decide +kernel
theorem dX2_upTo_63 : decode cX2_upTo 63 = .ok (.lload_n 3, 1) := by decide +kernel
theorem dX2_upTo_64 : decode cX2_upTo 64 = .ok (.lcmp, 1) := by decide +kernel
theorem dX2_upTo_65 : decode cX2_upTo 65 = .ok (.ifCond .le 8, 3) := by decide +kernel
theorem dX2_upTo_68 : decode cX2_upTo 68 = .ok (.lload 7, 2) := by decide +kernel
theorem dX2_upTo_70 : decode cX2_upTo 70 = .ok (.goto 4, 3) := by decide +kernel
theorem dX2_upTo_73 : decode cX2_upTo 73 = .ok (.lload_n 3, 1) := by decide +kernel
theorem dX2_upTo_74 : decode cX2_upTo 74 = .ok (.lstore_n 3, 1) := by decide +kernel
theorem dX2_upTo_75 : decode cX2_upTo 75 = .ok (.lload_n 3, 1) := by decide +kernel
theorem dX2_upTo_76 : decode cX2_upTo 76 = .ok (.aload_n 0, 1) := by decide +kernel
theorem dX2_upTo_77 : decode cX2_upTo 77 = .ok (.iload_n 1, 1) := by decide +kernel
theorem dX2_upTo_78 : decode cX2_upTo 78 = .ok (.iload 6, 2) := by decide +kernel
theorem dX2_upTo_80 : decode cX2_upTo 80 = .ok (.invokevirtual 106, 3) := by decide +kernel
theorem dX2_upTo_83 : decode cX2_upTo 83 = .ok (.i2l, 1) := by decide +kernel
theorem dX2_upTo_84 : decode cX2_upTo 84 = .ok (.ladd, 1) := by decide +kernel
theorem dX2_upTo_85 : decode cX2_upTo 85 = .ok (.lstore_n 3, 1) := by decide +kernel
theorem dX2_upTo_86 : decode cX2_upTo 86 = .ok (.iinc 6 1, 3) := by decide +kernel
theorem dX2_upTo_89 : decode cX2_upTo 89 = .ok (.goto (-67), 3) := by decide +kernel
theorem dX2_upTo_92 : decode cX2_upTo 92 = .ok (.lload_n 3, 1) := by decide +kernel
theorem dX2_upTo_93 : decode cX2_upTo 93 = .ok (.lreturn, 1) := by decide +kernel
set_option maxRecDepth 20000 in
theorem ggX2_entitled_X2_isOne : GoodIn wsX2_entitled wsX2_isOne := goodIn_r _ [5, 6, 51, 52, 53, 54, 55, 56, 57, 58, 59, 60, 61, 62, 63, 64, 65, 66, 67, 68] (by decide +kernel) (by decide +kernel)
set_option maxRecDepth 20000 in
theorem gX2_entitled_X2_isOne : GoodIn wsX2_entitled (wsV RX2 70 RX2 yX2_isOne wsX2_isOne) := goodIn_app (goodIn_of _ (by decide +kernel)) ggX2_entitled_X2_isOne
set_option maxRecDepth 20000 in
theorem ggX2_entitled_X2_isWithin : GoodIn wsX2_entitled wsX2_isWithin := goodIn_r _ [9] (by decide +kernel) (by decide +kernel)
set_option maxRecDepth 20000 in
theorem gX2_entitled_X2_isWithin : GoodIn wsX2_entitled (va_wsS RX2 61 yX2_isWithin wsX2_isWithin) := goodIn_app (goodIn_of _ (by decide +kernel)) ggX2_entitled_X2_isWithin
set_option maxRecDepth 20000 in
theorem ggX2_entitled_X2_goes : GoodIn wsX2_entitled wsX2_goes := goodIn_r _ [13, 14, 51, 52, 53, 54, 55, 56, 57, 58, 59, 60, 61, 62, 63, 64, 65, 66, 67, 68] (by decide +kernel) (by decide +kernel)
set_option maxRecDepth 20000 in
theorem gX2_entitled_X2_goes : GoodIn wsX2_entitled (wsV RX2 66 RX2 yX2_goes wsX2_goes) := goodIn_app (goodIn_of _ (by decide +kernel)) ggX2_entitled_X2_goes
set_option maxRecDepth 20000 in
theorem ggX2_entitled_X2_upTo : GoodIn wsX2_entitled wsX2_upTo := goodIn_r _ [18, 19, 20, 21, 22, 23, 24, 4, 25, 26, 27, 28, 29, 30, 31, 32, 33, 34, 35, 36, 37, 38, 39, 40, 41, 42, 43, 44, 45, 46, 47, 48, 49, 50, 51, 52, 53, 54, 55, 56, 57, 58, 59, 60, 61, 62, 63, 64, 65, 66, 67, 68] (by decide +kernel) (by decide +kernel)
set_option maxRecDepth 20000 in
theorem gX2_entitled_X2_upTo : GoodIn wsX2_entitled (wsV RX2 109 RX2 yX2_upTo wsX2_upTo) := goodIn_app (goodIn_of _ (by decide +kernel)) ggX2_entitled_X2_upTo
theorem dX2_entitled_0 : decode cX2_entitled 0 = .ok (.aload_n 0, 1) := by decide +kernel
theorem dX2_entitled_1 : decode cX2_entitled 1 = .ok (.aload_n 0, 1) := by decide +kernel
theorem dX2_entitled_2 : decode cX2_entitled 2 = .ok (.iload_n 1, 1) := by decide +kernel
theorem dX2_entitled_3 : decode cX2_entitled 3 = .ok (.invokevirtual 70, 3) := by decide +kernel
theorem dX2_entitled_6 : decode cX2_entitled 6 = .ok (.iload_n 2, 1) := by decide +kernel
theorem dX2_entitled_7 : decode cX2_entitled 7 = .ok (.iconst 0, 1) := by decide +kernel
theorem dX2_entitled_8 : decode cX2_entitled 8 = .ok (.sipush 239, 3) := by decide +kernel
theorem dX2_entitled_11 : decode cX2_entitled 11 = .ok (.invokestatic 61, 3) := by decide +kernel
theorem dX2_entitled_14 : decode cX2_entitled 14 = .ok (.iconst 1, 1) := by decide +kernel
theorem dX2_entitled_15 : decode cX2_entitled 15 = .ok (.invokevirtual 66, 3) := by decide +kernel
theorem dX2_entitled_18 : decode cX2_entitled 18 = .ok (.istore_n 3, 1) := by decide +kernel
theorem dX2_entitled_19 : decode cX2_entitled 19 = .ok (.iload_n 3, 1) := by decide +kernel
theorem dX2_entitled_20 : decode cX2_entitled 20 = .ok (.ifCond .eq 21, 3) := by decide +kernel
theorem dX2_entitled_23 : decode cX2_entitled 23 = .ok (.aload_n 0, 1) := by decide +kernel
theorem dX2_entitled_24 : decode cX2_entitled 24 = .ok (.iload_n 1, 1) := by decide +kernel
theorem dX2_entitled_25 : decode cX2_entitled 25 = .ok (.iload_n 2, 1) := by decide +kernel
theorem dX2_entitled_26 : decode cX2_entitled 26 = .ok (.invokevirtual 109, 3) := by decide +kernel
theorem dX2_entitled_29 : decode cX2_entitled 29 = .ok (.aload_n 0, 1) := by decide +kernel
theorem dX2_entitled_30 : decode cX2_entitled 30 = .ok (.iload_n 1, 1) := by decide +kernel
theorem dX2_entitled_31 : decode cX2_entitled 31 = .ok (.iload_n 2, 1) := by decide +kernel
theorem dX2_entitled_32 : decode cX2_entitled 32 = .ok (.iconst 1, 1) := by decide +kernel
theorem dX2_entitled_33 : decode cX2_entitled 33 = .ok (.isub, 1) := by decide +kernel
theorem dX2_entitled_34 : decode cX2_entitled 34 = .ok (.invokevirtual 109, 3) := by decide +kernel
theorem dX2_entitled_37 : decode cX2_entitled 37 = .ok (.lsub, 1) := by decide +kernel
theorem dX2_entitled_38 : decode cX2_entitled 38 = .ok (.goto 4, 3) := by decide +kernel
theorem dX2_entitled_41 : decode cX2_entitled 41 = .ok (.lconst 0, 1) := by decide +kernel
theorem dX2_entitled_42 : decode cX2_entitled 42 = .ok (.lreturn, 1) := by decide +kernel
set_option maxRecDepth 20000 in
theorem ggX2_entitledUpTo_X2_isOne : GoodIn wsX2_entitledUpTo wsX2_isOne := goodIn_r _ [5, 6, 51, 52, 53, 54, 55, 56, 57, 58, 59, 60, 61, 62, 63, 64, 65, 66, 67, 68] (by decide +kernel) (by decide +kernel)
set_option maxRecDepth 20000 in
theorem gX2_entitledUpTo_X2_isOne : GoodIn wsX2_entitledUpTo (wsV RX2 70 RX2 yX2_isOne wsX2_isOne) := goodIn_app (goodIn_of _ (by decide +kernel)) ggX2_entitledUpTo_X2_isOne
set_option maxRecDepth 20000 in
theorem ggX2_entitledUpTo_X2_isWithin : GoodIn wsX2_entitledUpTo wsX2_isWithin := goodIn_r _ [9] (by decide +kernel) (by decide +kernel)
set_option maxRecDepth 20000 in
theorem gX2_entitledUpTo_X2_isWithin : GoodIn wsX2_entitledUpTo (va_wsS RX2 61 yX2_isWithin wsX2_isWithin) := goodIn_app (goodIn_of _ (by decide +kernel)) ggX2_entitledUpTo_X2_isWithin
set_option maxRecDepth 20000 in
theorem ggX2_entitledUpTo_X2_goes : GoodIn wsX2_entitledUpTo wsX2_goes := goodIn_r _ [13, 14, 51, 52, 53, 54, 55, 56, 57, 58, 59, 60, 61, 62, 63, 64, 65, 66, 67, 68] (by decide +kernel) (by decide +kernel)
set_option maxRecDepth 20000 in
theorem gX2_entitledUpTo_X2_goes : GoodIn wsX2_entitledUpTo (wsV RX2 66 RX2 yX2_goes wsX2_goes) := goodIn_app (goodIn_of _ (by decide +kernel)) ggX2_entitledUpTo_X2_goes
set_option maxRecDepth 20000 in
theorem ggX2_entitledUpTo_X2_upTo : GoodIn wsX2_entitledUpTo wsX2_upTo := goodIn_r _ [18, 19, 20, 21, 22, 23, 24, 4, 25, 26, 27, 28, 29, 30, 31, 32, 33, 34, 35, 36, 37, 38, 39, 40, 41, 42, 43, 44, 45, 46, 47, 48, 49, 50, 51, 52, 53, 54, 55, 56, 57, 58, 59, 60, 61, 62, 63, 64, 65, 66, 67, 68] (by decide +kernel) (by decide +kernel)
set_option maxRecDepth 20000 in
theorem gX2_entitledUpTo_X2_upTo : GoodIn wsX2_entitledUpTo (wsV RX2 109 RX2 yX2_upTo wsX2_upTo) := goodIn_app (goodIn_of _ (by decide +kernel)) ggX2_entitledUpTo_X2_upTo
theorem dX2_entitledUpTo_0 : decode cX2_entitledUpTo 0 = .ok (.aload_n 0, 1) := by decide +kernel
theorem dX2_entitledUpTo_1 : decode cX2_entitledUpTo 1 = .ok (.aload_n 0, 1) := by decide +kernel
theorem dX2_entitledUpTo_2 : decode cX2_entitledUpTo 2 = .ok (.iload_n 1, 1) := by decide +kernel
theorem dX2_entitledUpTo_3 : decode cX2_entitledUpTo 3 = .ok (.invokevirtual 70, 3) := by decide +kernel
theorem dX2_entitledUpTo_6 : decode cX2_entitledUpTo 6 = .ok (.iload_n 2, 1) := by decide +kernel
theorem dX2_entitledUpTo_7 : decode cX2_entitledUpTo 7 = .ok (.iconst 0, 1) := by decide +kernel
theorem dX2_entitledUpTo_8 : decode cX2_entitledUpTo 8 = .ok (.sipush 239, 3) := by decide +kernel
theorem dX2_entitledUpTo_11 : decode cX2_entitledUpTo 11 = .ok (.invokestatic 61, 3) := by decide +kernel
theorem dX2_entitledUpTo_14 : decode cX2_entitledUpTo 14 = .ok (.iconst 1, 1) := by decide +kernel
theorem dX2_entitledUpTo_15 : decode cX2_entitledUpTo 15 = .ok (.invokevirtual 66, 3) := by decide +kernel
theorem dX2_entitledUpTo_18 : decode cX2_entitledUpTo 18 = .ok (.istore_n 3, 1) := by decide +kernel
theorem dX2_entitledUpTo_19 : decode cX2_entitledUpTo 19 = .ok (.iload_n 3, 1) := by decide +kernel
theorem dX2_entitledUpTo_20 : decode cX2_entitledUpTo 20 = .ok (.ifCond .eq 12, 3) := by decide +kernel
theorem dX2_entitledUpTo_23 : decode cX2_entitledUpTo 23 = .ok (.aload_n 0, 1) := by decide +kernel
theorem dX2_entitledUpTo_24 : decode cX2_entitledUpTo 24 = .ok (.iload_n 1, 1) := by decide +kernel
theorem dX2_entitledUpTo_25 : decode cX2_entitledUpTo 25 = .ok (.iload_n 2, 1) := by decide +kernel
theorem dX2_entitledUpTo_26 : decode cX2_entitledUpTo 26 = .ok (.invokevirtual 109, 3) := by decide +kernel
theorem dX2_entitledUpTo_29 : decode cX2_entitledUpTo 29 = .ok (.goto 4, 3) := by decide +kernel
theorem dX2_entitledUpTo_32 : decode cX2_entitledUpTo 32 = .ok (.lconst 0, 1) := by decide +kernel
theorem dX2_entitledUpTo_33 : decode cX2_entitledUpTo 33 = .ok (.lreturn, 1) := by decide +kernel
set_option maxRecDepth 20000 in
theorem ggX2_protection_X2_isOne : GoodIn wsX2_protection wsX2_isOne := goodIn_r _ [7, 8, 48, 49, 50, 51, 52, 53, 54, 55, 56, 57, 58, 59, 60, 61, 62, 63, 64, 65] (by decide +kernel) (by decide +kernel)
set_option maxRecDepth 20000 in
theorem gX2_protection_X2_isOne : GoodIn wsX2_protection (wsV RX2 70 RX2 yX2_isOne wsX2_isOne) := goodIn_app (goodIn_of _ (by decide +kernel)) ggX2_protection_X2_isOne
set_option maxRecDepth 20000 in
theorem ggX2_protection_X2_goes : GoodIn wsX2_protection wsX2_goes := goodIn_r _ [12, 13, 48, 49, 50, 51, 52, 53, 54, 55, 56, 57, 58, 59, 60, 61, 62, 63, 64, 65] (by decide +kernel) (by decide +kernel)
set_option maxRecDepth 20000 in
theorem gX2_protection_X2_goes : GoodIn wsX2_protection (wsV RX2 66 RX2 yX2_goes wsX2_goes) := goodIn_app (goodIn_of _ (by decide +kernel)) ggX2_protection_X2_goes
set_option maxRecDepth 20000 in
theorem ggX2_protection_X2_protectedAt : GoodIn wsX2_protection wsX2_protectedAt := goodIn_r _ [17, 18, 19, 20, 48, 49, 50, 51, 52, 53, 54, 55, 56, 57, 58, 59, 60, 61, 62, 63, 64, 65] (by decide +kernel) (by decide +kernel)
set_option maxRecDepth 20000 in
theorem gX2_protection_X2_protectedAt : GoodIn wsX2_protection (wsV RX2 102 RX2 yX2_protectedAt wsX2_protectedAt) := goodIn_app (goodIn_of _ (by decide +kernel)) ggX2_protection_X2_protectedAt
set_option maxRecDepth 20000 in
theorem ggX2_protection_X2_upTo : GoodIn wsX2_protection wsX2_upTo := goodIn_r _ [24, 19, 1, 2, 14, 15, 16, 6, 17, 18, 20, 25, 26, 27, 28, 29, 30, 31, 32, 33, 34, 35, 36, 37, 38, 39, 40, 41, 42, 43, 44, 45, 46, 47, 48, 49, 50, 51, 52, 53, 54, 55, 56, 57, 58, 59, 60, 61, 62, 63, 64, 65] (by decide +kernel) (by decide +kernel)
set_option maxRecDepth 20000 in
theorem gX2_protection_X2_upTo : GoodIn wsX2_protection (wsV RX2 109 RX2 yX2_upTo wsX2_upTo) := goodIn_app (goodIn_of _ (by decide +kernel)) ggX2_protection_X2_upTo
theorem dX2_protection_0 : decode cX2_protection 0 = .ok (.aload_n 0, 1) := by decide +kernel
theorem dX2_protection_1 : decode cX2_protection 1 = .ok (.aload_n 0, 1) := by decide +kernel
theorem dX2_protection_2 : decode cX2_protection 2 = .ok (.iload_n 1, 1) := by decide +kernel
theorem dX2_protection_3 : decode cX2_protection 3 = .ok (.invokevirtual 70, 3) := by decide +kernel
theorem dX2_protection_6 : decode cX2_protection 6 = .ok (.iconst 1, 1) := by decide +kernel
theorem dX2_protection_7 : decode cX2_protection 7 = .ok (.iconst 1, 1) := by decide +kernel
theorem dX2_protection_8 : decode cX2_protection 8 = .ok (.invokevirtual 66, 3) := by decide +kernel
theorem dX2_protection_11 : decode cX2_protection 11 = .ok (.ifCond .ne 5, 3) := by decide +kernel
theorem dX2_protection_14 : decode cX2_protection 14 = .ok (.lconst 0, 1) := by decide +kernel
theorem dX2_protection_15 : decode cX2_protection 15 = .ok (.lreturn, 1) := by decide +kernel
theorem dX2_protection_16 : decode cX2_protection 16 = .ok (.aload_n 0, 1) := by decide +kernel
theorem dX2_protection_17 : decode cX2_protection 17 = .ok (.iload_n 1, 1) := by decide +kernel
theorem dX2_protection_18 : decode cX2_protection 18 = .ok (.invokevirtual 102, 3) := by decide +kernel
theorem dX2_protection_21 : decode cX2_protection 21 = .ok (.istore_n 2, 1) := by decide +kernel
theorem dX2_protection_22 : decode cX2_protection 22 = .ok (.aload_n 0, 1) := by decide +kernel
theorem dX2_protection_23 : decode cX2_protection 23 = .ok (.getfield 29, 3) := by decide +kernel
theorem dX2_protection_26 : decode cX2_protection 26 = .ok (.iload_n 1, 1) := by decide +kernel
theorem dX2_protection_27 : decode cX2_protection 27 = .ok (.iaload, 1) := by decide +kernel
theorem dX2_protection_28 : decode cX2_protection 28 = .ok (.aload_n 0, 1) := by decide +kernel
theorem dX2_protection_29 : decode cX2_protection 29 = .ok (.getfield 32, 3) := by decide +kernel
theorem dX2_protection_32 : decode cX2_protection 32 = .ok (.iload_n 1, 1) := by decide +kernel
theorem dX2_protection_33 : decode cX2_protection 33 = .ok (.iaload, 1) := by decide +kernel
theorem dX2_protection_34 : decode cX2_protection 34 = .ok (.imul, 1) := by decide +kernel
theorem dX2_protection_35 : decode cX2_protection 35 = .ok (.bipush 100, 2) := by decide +kernel
theorem dX2_protection_37 : decode cX2_protection 37 = .ok (.idiv, 1) := by decide +kernel
theorem dX2_protection_38 : decode cX2_protection 38 = .ok (.i2l, 1) := by decide +kernel
theorem dX2_protection_39 : decode cX2_protection 39 = .ok (.lstore_n 3, 1) := by decide +kernel
theorem dX2_protection_40 : decode cX2_protection 40 = .ok (.aload_n 0, 1) := by decide +kernel
theorem dX2_protection_41 : decode cX2_protection 41 = .ok (.iload_n 1, 1) := by decide +kernel
theorem dX2_protection_42 : decode cX2_protection 42 = .ok (.iload_n 2, 1) := by decide +kernel
theorem dX2_protection_43 : decode cX2_protection 43 = .ok (.iconst 1, 1) := by decide +kernel
theorem dX2_protection_44 : decode cX2_protection 44 = .ok (.isub, 1) := by decide +kernel
theorem dX2_protection_45 : decode cX2_protection 45 = .ok (.invokevirtual 109, 3) := by decide +kernel
theorem dX2_protection_48 : decode cX2_protection 48 = .ok (.lstore 5, 2) := by decide +kernel
theorem dX2_protection_50 : decode cX2_protection 50 = .ok (.iload_n 2, 1) := by decide +kernel
theorem dX2_protection_51 : decode cX2_protection 51 = .ok (.sipush 240, 3) := by decide +kernel
theorem dX2_protection_54 : decode cX2_protection 54 = .ok (.if_icmp .ge 10, 3) := by decide +kernel
theorem dX2_protection_57 : decode cX2_protection 57 = .ok (.lload_n 3, 1) := by decide +kernel
theorem dX2_protection_58 : decode cX2_protection 58 = .ok (.lload 5, 2) := by decide +kernel
theorem dX2_protection_60 : decode cX2_protection 60 = .ok (.lcmp, 1) := by decide +kernel
theorem dX2_protection_61 : decode cX2_protection 61 = .ok (.ifCond .ge 7, 3) := by decide +kernel
theorem dX2_protection_64 : decode cX2_protection 64 = .ok (.lconst 0, 1) := by decide +kernel
theorem dX2_protection_65 : decode cX2_protection 65 = .ok (.goto 7, 3) := by decide +kernel
theorem dX2_protection_68 : decode cX2_protection 68 = .ok (.lload_n 3, 1) := by decide +kernel
theorem dX2_protection_69 : decode cX2_protection 69 = .ok (.lload 5, 2) := by decide +kernel
theorem dX2_protection_71 : decode cX2_protection 71 = .ok (.lsub, 1) := by decide +kernel
theorem dX2_protection_72 : decode cX2_protection 72 = .ok (.lreturn, 1) := by decide +kernel
set_option maxRecDepth 20000 in
theorem ggX2_run_X2_goes : GoodIn wsX2_run wsX2_goes := goodIn_r _ [10, 11, 48, 49, 50, 51, 52, 53, 54, 55, 56, 57, 58, 59, 60, 61, 62, 63, 64, 65] (by decide +kernel) (by decide +kernel)
set_option maxRecDepth 20000 in
theorem gX2_run_X2_goes : GoodIn wsX2_run (wsV RX2 66 RX2 yX2_goes wsX2_goes) := goodIn_app (goodIn_of _ (by decide +kernel)) ggX2_run_X2_goes
set_option maxRecDepth 20000 in
theorem ggX2_run_X2_upTo : GoodIn wsX2_run wsX2_upTo := goodIn_r _ [15, 16, 17, 18, 19, 20, 21, 9, 22, 23, 24, 25, 26, 27, 28, 29, 30, 31, 32, 33, 34, 35, 36, 37, 38, 39, 40, 41, 42, 43, 44, 45, 46, 47, 48, 49, 50, 51, 52, 53, 54, 55, 56, 57, 58, 59, 60, 61, 62, 63, 64, 65] (by decide +kernel) (by decide +kernel)
set_option maxRecDepth 20000 in
theorem gX2_run_X2_upTo : GoodIn wsX2_run (wsV RX2 109 RX2 yX2_upTo wsX2_upTo) := goodIn_app (goodIn_of _ (by decide +kernel)) ggX2_run_X2_upTo
theorem dX2_run_0 : decode cX2_run 0 = .ok (.aload_n 0, 1) := by decide +kernel
theorem dX2_run_1 : decode cX2_run 1 = .ok (.aload_n 0, 1) := by decide +kernel
theorem dX2_run_2 : decode cX2_run 2 = .ok (.getfield 58, 3) := by decide +kernel
theorem dX2_run_5 : decode cX2_run 5 = .ok (.sipush 240, 3) := by decide +kernel
theorem dX2_run_8 : decode cX2_run 8 = .ok (.if_icmp .ge 7, 3) := by decide +kernel
theorem dX2_run_11 : decode cX2_run 11 = .ok (.iconst 1, 1) := by decide +kernel
theorem dX2_run_12 : decode cX2_run 12 = .ok (.goto 4, 3) := by decide +kernel
theorem dX2_run_15 : decode cX2_run 15 = .ok (.iconst 0, 1) := by decide +kernel
theorem dX2_run_16 : decode cX2_run 16 = .ok (.iconst 1, 1) := by decide +kernel
theorem dX2_run_17 : decode cX2_run 17 = .ok (.iconst 1, 1) := by decide +kernel
theorem dX2_run_18 : decode cX2_run 18 = .ok (.invokevirtual 66, 3) := by decide +kernel
theorem dX2_run_21 : decode cX2_run 21 = .ok (.ifCond .ne 5, 3) := by decide +kernel
theorem dX2_run_24 : decode cX2_run 24 = .ok (.lconst 0, 1) := by decide +kernel
theorem dX2_run_25 : decode cX2_run 25 = .ok (.lreturn, 1) := by decide +kernel
theorem dX2_run_26 : decode cX2_run 26 = .ok (.lconst 0, 1) := by decide +kernel
theorem dX2_run_27 : decode cX2_run 27 = .ok (.lstore_n 1, 1) := by decide +kernel
theorem dX2_run_28 : decode cX2_run 28 = .ok (.iconst 0, 1) := by decide +kernel
theorem dX2_run_29 : decode cX2_run 29 = .ok (.istore_n 3, 1) := by decide +kernel
theorem dX2_run_30 : decode cX2_run 30 = .ok (.iload_n 3, 1) := by decide +kernel
theorem dX2_run_31 : decode cX2_run 31 = .ok (.aload_n 0, 1) := by decide +kernel
theorem dX2_run_32 : decode cX2_run 32 = .ok (.getfield 55, 3) := by decide +kernel
theorem dX2_run_35 : decode cX2_run 35 = .ok (.if_icmp .ge 82, 3) := by decide +kernel
theorem dX2_run_38 : decode cX2_run 38 = .ok (.aload_n 0, 1) := by decide +kernel
theorem dX2_run_39 : decode cX2_run 39 = .ok (.iload_n 3, 1) := by decide +kernel
theorem dX2_run_40 : decode cX2_run 40 = .ok (.aload_n 0, 1) := by decide +kernel
theorem dX2_run_41 : decode cX2_run 41 = .ok (.getfield 58, 3) := by decide +kernel
theorem dX2_run_44 : decode cX2_run 44 = .ok (.invokevirtual 109, 3) := by decide +kernel
theorem dX2_run_47 : decode cX2_run 47 = .ok (.aload_n 0, 1) := by decide +kernel
theorem dX2_run_48 : decode cX2_run 48 = .ok (.getfield 38, 3) := by decide +kernel
theorem dX2_run_51 : decode cX2_run 51 = .ok (.iload_n 3, 1) := by decide +kernel
theorem dX2_run_52 : decode cX2_run 52 = .ok (.laload, 1) := by decide +kernel
theorem dX2_run_53 : decode cX2_run 53 = .ok (.lsub, 1) := by decide +kernel
theorem dX2_run_54 : decode cX2_run 54 = .ok (.aload_n 0, 1) := by decide +kernel
theorem dX2_run_55 : decode cX2_run 55 = .ok (.getfield 42, 3) := by decide +kernel
theorem dX2_run_58 : decode cX2_run 58 = .ok (.iload_n 3, 1) := by decide +kernel
theorem dX2_run_59 : decode cX2_run 59 = .ok (.laload, 1) := by decide +kernel
theorem dX2_run_60 : decode cX2_run 60 = .ok (.ladd, 1) := by decide +kernel
theorem dX2_run_61 : decode cX2_run 61 = .ok (.lstore 4, 2) := by decide +kernel
theorem dX2_run_63 : decode cX2_run 63 = .ok (.lload 4, 2) := by decide +kernel
theorem dX2_run_65 : decode cX2_run 65 = .ok (.lconst 0, 1) := by decide +kernel
theorem dX2_run_66 : decode cX2_run 66 = .ok (.lcmp, 1) := by decide +kernel
theorem dX2_run_67 : decode cX2_run 67 = .ok (.ifCond .ge 7, 3) := by decide +kernel
theorem dX2_run_70 : decode cX2_run 70 = .ok (.lconst 0, 1) := by decide +kernel
theorem dX2_run_71 : decode cX2_run 71 = .ok (.goto 5, 3) := by decide +kernel
theorem dX2_run_74 : decode cX2_run 74 = .ok (.lload 4, 2) := by decide +kernel
theorem dX2_run_76 : decode cX2_run 76 = .ok (.lstore 4, 2) := by decide +kernel
theorem dX2_run_78 : decode cX2_run 78 = .ok (.aload_n 0, 1) := by decide +kernel
theorem dX2_run_79 : decode cX2_run 79 = .ok (.getfield 45, 3) := by decide +kernel
theorem dX2_run_82 : decode cX2_run 82 = .ok (.sipush 240, 3) := by decide +kernel
theorem dX2_run_85 : decode cX2_run 85 = .ok (.iload_n 3, 1) := by decide +kernel
theorem dX2_run_86 : decode cX2_run 86 = .ok (.imul, 1) := by decide +kernel
theorem dX2_run_87 : decode cX2_run 87 = .ok (.aload_n 0, 1) := by decide +kernel
theorem dX2_run_88 : decode cX2_run 88 = .ok (.getfield 58, 3) := by decide +kernel
theorem dX2_run_91 : decode cX2_run 91 = .ok (.iadd, 1) := by decide +kernel
theorem dX2_run_92 : decode cX2_run 92 = .ok (.lload 4, 2) := by decide +kernel
theorem dX2_run_94 : decode cX2_run 94 = .ok (.lastore, 1) := by decide +kernel
theorem dX2_run_95 : decode cX2_run 95 = .ok (.aload_n 0, 1) := by decide +kernel
theorem dX2_run_96 : decode cX2_run 96 = .ok (.getfield 38, 3) := by decide +kernel
theorem dX2_run_99 : decode cX2_run 99 = .ok (.iload_n 3, 1) := by decide +kernel
theorem dX2_run_100 : decode cX2_run 100 = .ok (.dup2, 1) := by decide +kernel
theorem dX2_run_101 : decode cX2_run 101 = .ok (.laload, 1) := by decide +kernel
theorem dX2_run_102 : decode cX2_run 102 = .ok (.lload 4, 2) := by decide +kernel
theorem dX2_run_104 : decode cX2_run 104 = .ok (.ladd, 1) := by decide +kernel
theorem dX2_run_105 : decode cX2_run 105 = .ok (.lastore, 1) := by decide +kernel
theorem dX2_run_106 : decode cX2_run 106 = .ok (.lload_n 1, 1) := by decide +kernel
theorem dX2_run_107 : decode cX2_run 107 = .ok (.lload 4, 2) := by decide +kernel
theorem dX2_run_109 : decode cX2_run 109 = .ok (.ladd, 1) := by decide +kernel
theorem dX2_run_110 : decode cX2_run 110 = .ok (.lstore_n 1, 1) := by decide +kernel
theorem dX2_run_111 : decode cX2_run 111 = .ok (.iinc 3 1, 3) := by decide +kernel
theorem dX2_run_114 : decode cX2_run 114 = .ok (.goto (-84), 3) := by decide +kernel
theorem dX2_run_117 : decode cX2_run 117 = .ok (.aload_n 0, 1) := by decide +kernel
theorem dX2_run_118 : decode cX2_run 118 = .ok (.dup, 1) := by decide +kernel
theorem dX2_run_119 : decode cX2_run 119 = .ok (.getfield 58, 3) := by decide +kernel
theorem dX2_run_122 : decode cX2_run 122 = .ok (.iconst 1, 1) := by decide +kernel
theorem dX2_run_123 : decode cX2_run 123 = .ok (.iadd, 1) := by decide +kernel
theorem dX2_run_124 : decode cX2_run 124 = .ok (.putfield 58, 3) := by decide +kernel
theorem dX2_run_127 : decode cX2_run 127 = .ok (.lload_n 1, 1) := by decide +kernel
theorem dX2_run_128 : decode cX2_run 128 = .ok (.lreturn, 1) := by decide +kernel
theorem dX2_month_0 : decode cX2_month 0 = .ok (.aload_n 0, 1) := by decide +kernel
theorem dX2_month_1 : decode cX2_month 1 = .ok (.iconst 0, 1) := by decide +kernel
theorem dX2_month_2 : decode cX2_month 2 = .ok (.putfield 51, 3) := by decide +kernel
theorem dX2_month_5 : decode cX2_month 5 = .ok (.aload_n 0, 1) := by decide +kernel
theorem dX2_month_6 : decode cX2_month 6 = .ok (.getfield 58, 3) := by decide +kernel
theorem dX2_month_9 : decode cX2_month 9 = .ok (.ireturn, 1) := by decide +kernel
set_option maxRecDepth 20000 in
theorem ggX2_owed_X2_upTo : GoodIn wsX2_owed wsX2_upTo := goodIn_r _ [8, 9, 10, 11, 12, 13, 14, 7, 15, 16, 17, 18, 19, 20, 21, 22, 23, 24, 25, 26, 27, 28, 29, 30, 31, 32, 33, 34, 35, 36, 37, 38, 39, 40, 41, 42, 43, 44, 45, 46, 47, 48, 49, 50, 51, 52, 53, 54, 55, 56, 57, 58] (by decide +kernel) (by decide +kernel)
set_option maxRecDepth 20000 in
theorem gX2_owed_X2_upTo : GoodIn wsX2_owed (wsV RX2 109 RX2 yX2_upTo wsX2_upTo) := goodIn_app (goodIn_of _ (by decide +kernel)) ggX2_owed_X2_upTo
theorem dX2_owed_0 : decode cX2_owed 0 = .ok (.aload_n 0, 1) := by decide +kernel
theorem dX2_owed_1 : decode cX2_owed 1 = .ok (.getfield 38, 3) := by decide +kernel
theorem dX2_owed_4 : decode cX2_owed 4 = .ok (.iload_n 1, 1) := by decide +kernel
theorem dX2_owed_5 : decode cX2_owed 5 = .ok (.laload, 1) := by decide +kernel
theorem dX2_owed_6 : decode cX2_owed 6 = .ok (.aload_n 0, 1) := by decide +kernel
theorem dX2_owed_7 : decode cX2_owed 7 = .ok (.getfield 42, 3) := by decide +kernel
theorem dX2_owed_10 : decode cX2_owed 10 = .ok (.iload_n 1, 1) := by decide +kernel
theorem dX2_owed_11 : decode cX2_owed 11 = .ok (.laload, 1) := by decide +kernel
theorem dX2_owed_12 : decode cX2_owed 12 = .ok (.lsub, 1) := by decide +kernel
theorem dX2_owed_13 : decode cX2_owed 13 = .ok (.aload_n 0, 1) := by decide +kernel
theorem dX2_owed_14 : decode cX2_owed 14 = .ok (.iload_n 1, 1) := by decide +kernel
theorem dX2_owed_15 : decode cX2_owed 15 = .ok (.aload_n 0, 1) := by decide +kernel
theorem dX2_owed_16 : decode cX2_owed 16 = .ok (.getfield 58, 3) := by decide +kernel
theorem dX2_owed_19 : decode cX2_owed 19 = .ok (.iconst 1, 1) := by decide +kernel
theorem dX2_owed_20 : decode cX2_owed 20 = .ok (.isub, 1) := by decide +kernel
theorem dX2_owed_21 : decode cX2_owed 21 = .ok (.invokevirtual 109, 3) := by decide +kernel
theorem dX2_owed_24 : decode cX2_owed 24 = .ok (.lsub, 1) := by decide +kernel
theorem dX2_owed_25 : decode cX2_owed 25 = .ok (.lstore_n 2, 1) := by decide +kernel
theorem dX2_owed_26 : decode cX2_owed 26 = .ok (.lload_n 2, 1) := by decide +kernel
theorem dX2_owed_27 : decode cX2_owed 27 = .ok (.lconst 0, 1) := by decide +kernel
theorem dX2_owed_28 : decode cX2_owed 28 = .ok (.lcmp, 1) := by decide +kernel
theorem dX2_owed_29 : decode cX2_owed 29 = .ok (.ifCond .ge 7, 3) := by decide +kernel
theorem dX2_owed_32 : decode cX2_owed 32 = .ok (.lconst 0, 1) := by decide +kernel
theorem dX2_owed_33 : decode cX2_owed 33 = .ok (.goto 4, 3) := by decide +kernel
theorem dX2_owed_36 : decode cX2_owed 36 = .ok (.lload_n 2, 1) := by decide +kernel
theorem dX2_owed_37 : decode cX2_owed 37 = .ok (.lreturn, 1) := by decide +kernel
set_option maxRecDepth 20000 in
theorem ggX2_giveBack_X2_isOne : GoodIn wsX2_giveBack wsX2_isOne := goodIn_r _ [7, 8, 59, 60, 61, 62, 63, 64, 65, 66, 67, 68, 69, 70, 71, 72, 73, 74, 75, 76] (by decide +kernel) (by decide +kernel)
set_option maxRecDepth 20000 in
theorem gX2_giveBack_X2_isOne : GoodIn wsX2_giveBack (wsV RX2 70 RX2 yX2_isOne wsX2_isOne) := goodIn_app (goodIn_of _ (by decide +kernel)) ggX2_giveBack_X2_isOne
set_option maxRecDepth 20000 in
theorem ggX2_giveBack_X2_isWithin : GoodIn wsX2_giveBack wsX2_isWithin := goodIn_r _ [11] (by decide +kernel) (by decide +kernel)
set_option maxRecDepth 20000 in
theorem gX2_giveBack_X2_isWithin : GoodIn wsX2_giveBack (va_wsS RX2 61 yX2_isWithin wsX2_isWithin) := goodIn_app (goodIn_of _ (by decide +kernel)) ggX2_giveBack_X2_isWithin
set_option maxRecDepth 20000 in
theorem ggX2_giveBack_X2_owed : GoodIn wsX2_giveBack wsX2_owed := goodIn_r _ [15, 16, 2, 17, 18, 19, 20, 6, 21, 22, 23, 24, 25, 26, 27, 28, 29, 30, 31, 32, 33, 34, 35, 36, 37, 38, 39, 40, 41, 42, 43, 44, 45, 46, 47, 48, 49, 50, 51, 52, 53, 59, 60, 61, 62, 63, 64, 65, 66, 67, 68, 69, 70, 71, 72, 73, 74, 75, 76] (by decide +kernel) (by decide +kernel)
set_option maxRecDepth 20000 in
theorem gX2_giveBack_X2_owed : GoodIn wsX2_giveBack (wsV RX2 114 RX2 yX2_owed wsX2_owed) := goodIn_app (goodIn_of _ (by decide +kernel)) ggX2_giveBack_X2_owed
set_option maxRecDepth 20000 in
theorem ggX2_giveBack_X2_goes : GoodIn wsX2_giveBack wsX2_goes := goodIn_r _ [57, 58, 59, 60, 61, 62, 63, 64, 65, 66, 67, 68, 69, 70, 71, 72, 73, 74, 75, 76] (by decide +kernel) (by decide +kernel)
set_option maxRecDepth 20000 in
theorem gX2_giveBack_X2_goes : GoodIn wsX2_giveBack (wsV RX2 66 RX2 yX2_goes wsX2_goes) := goodIn_app (goodIn_of _ (by decide +kernel)) ggX2_giveBack_X2_goes
theorem dX2_giveBack_0 : decode cX2_giveBack 0 = .ok (.aload_n 0, 1) := by decide +kernel
theorem dX2_giveBack_1 : decode cX2_giveBack 1 = .ok (.iload_n 1, 1) := by decide +kernel
theorem dX2_giveBack_2 : decode cX2_giveBack 2 = .ok (.invokevirtual 70, 3) := by decide +kernel
theorem dX2_giveBack_5 : decode cX2_giveBack 5 = .ok (.istore_n 3, 1) := by decide +kernel
theorem dX2_giveBack_6 : decode cX2_giveBack 6 = .ok (.iload_n 2, 1) := by decide +kernel
theorem dX2_giveBack_7 : decode cX2_giveBack 7 = .ok (.iconst 1, 1) := by decide +kernel
theorem dX2_giveBack_8 : decode cX2_giveBack 8 = .ok (.ldc 113, 2) := by decide +kernel
theorem dX2_giveBack_10 : decode cX2_giveBack 10 = .ok (.invokestatic 61, 3) := by decide +kernel
theorem dX2_giveBack_13 : decode cX2_giveBack 13 = .ok (.istore 4, 2) := by decide +kernel
theorem dX2_giveBack_15 : decode cX2_giveBack 15 = .ok (.aload_n 0, 1) := by decide +kernel
theorem dX2_giveBack_16 : decode cX2_giveBack 16 = .ok (.iload_n 3, 1) := by decide +kernel
theorem dX2_giveBack_17 : decode cX2_giveBack 17 = .ok (.iload 4, 2) := by decide +kernel
theorem dX2_giveBack_19 : decode cX2_giveBack 19 = .ok (.iload_n 3, 1) := by decide +kernel
theorem dX2_giveBack_20 : decode cX2_giveBack 20 = .ok (.ifCond .eq 23, 3) := by decide +kernel
theorem dX2_giveBack_23 : decode cX2_giveBack 23 = .ok (.iload 4, 2) := by decide +kernel
theorem dX2_giveBack_25 : decode cX2_giveBack 25 = .ok (.ifCond .eq 18, 3) := by decide +kernel
theorem dX2_giveBack_28 : decode cX2_giveBack 28 = .ok (.aload_n 0, 1) := by decide +kernel
theorem dX2_giveBack_29 : decode cX2_giveBack 29 = .ok (.iload_n 1, 1) := by decide +kernel
theorem dX2_giveBack_30 : decode cX2_giveBack 30 = .ok (.invokevirtual 114, 3) := by decide +kernel
theorem dX2_giveBack_33 : decode cX2_giveBack 33 = .ok (.iload_n 2, 1) := by decide +kernel
theorem dX2_giveBack_34 : decode cX2_giveBack 34 = .ok (.i2l, 1) := by decide +kernel
theorem dX2_giveBack_35 : decode cX2_giveBack 35 = .ok (.lcmp, 1) := by decide +kernel
theorem dX2_giveBack_36 : decode cX2_giveBack 36 = .ok (.ifCond .lt 7, 3) := by decide +kernel
theorem dX2_giveBack_39 : decode cX2_giveBack 39 = .ok (.iconst 1, 1) := by decide +kernel
theorem dX2_giveBack_40 : decode cX2_giveBack 40 = .ok (.goto 4, 3) := by decide +kernel
theorem dX2_giveBack_43 : decode cX2_giveBack 43 = .ok (.iconst 0, 1) := by decide +kernel
theorem dX2_giveBack_44 : decode cX2_giveBack 44 = .ok (.invokevirtual 66, 3) := by decide +kernel
theorem dX2_giveBack_47 : decode cX2_giveBack 47 = .ok (.ifCond .ne 5, 3) := by decide +kernel
theorem dX2_giveBack_50 : decode cX2_giveBack 50 = .ok (.lconst 0, 1) := by decide +kernel
theorem dX2_giveBack_51 : decode cX2_giveBack 51 = .ok (.lreturn, 1) := by decide +kernel
theorem dX2_giveBack_52 : decode cX2_giveBack 52 = .ok (.aload_n 0, 1) := by decide +kernel
theorem dX2_giveBack_53 : decode cX2_giveBack 53 = .ok (.getfield 42, 3) := by decide +kernel
theorem dX2_giveBack_56 : decode cX2_giveBack 56 = .ok (.iload_n 1, 1) := by decide +kernel
theorem dX2_giveBack_57 : decode cX2_giveBack 57 = .ok (.dup2, 1) := by decide +kernel
theorem dX2_giveBack_58 : decode cX2_giveBack 58 = .ok (.laload, 1) := by decide +kernel
theorem dX2_giveBack_59 : decode cX2_giveBack 59 = .ok (.iload_n 2, 1) := by decide +kernel
theorem dX2_giveBack_60 : decode cX2_giveBack 60 = .ok (.i2l, 1) := by decide +kernel
theorem dX2_giveBack_61 : decode cX2_giveBack 61 = .ok (.ladd, 1) := by decide +kernel
theorem dX2_giveBack_62 : decode cX2_giveBack 62 = .ok (.lastore, 1) := by decide +kernel
theorem dX2_giveBack_63 : decode cX2_giveBack 63 = .ok (.aload_n 0, 1) := by decide +kernel
theorem dX2_giveBack_64 : decode cX2_giveBack 64 = .ok (.iload_n 1, 1) := by decide +kernel
theorem dX2_giveBack_65 : decode cX2_giveBack 65 = .ok (.invokevirtual 114, 3) := by decide +kernel
theorem dX2_giveBack_68 : decode cX2_giveBack 68 = .ok (.lreturn, 1) := by decide +kernel
set_option maxRecDepth 20000 in
theorem ggX2_paid_X2_isOne : GoodIn wsX2_paid wsX2_isOne := goodIn_r _ [7, 8, 17, 18, 19, 20, 21, 22, 23, 24, 25, 26, 27, 28, 29, 30, 31, 32, 33, 34] (by decide +kernel) (by decide +kernel)
set_option maxRecDepth 20000 in
theorem gX2_paid_X2_isOne : GoodIn wsX2_paid (wsV RX2 70 RX2 yX2_isOne wsX2_isOne) := goodIn_app (goodIn_of _ (by decide +kernel)) ggX2_paid_X2_isOne
set_option maxRecDepth 20000 in
theorem ggX2_paid_X2_isWithin : GoodIn wsX2_paid wsX2_isWithin := goodIn_r _ [11] (by decide +kernel) (by decide +kernel)
set_option maxRecDepth 20000 in
theorem gX2_paid_X2_isWithin : GoodIn wsX2_paid (va_wsS RX2 61 yX2_isWithin wsX2_isWithin) := goodIn_app (goodIn_of _ (by decide +kernel)) ggX2_paid_X2_isWithin
set_option maxRecDepth 20000 in
theorem ggX2_paid_X2_goes : GoodIn wsX2_paid wsX2_goes := goodIn_r _ [15, 16, 17, 18, 19, 20, 21, 22, 23, 24, 25, 26, 27, 28, 29, 30, 31, 32, 33, 34] (by decide +kernel) (by decide +kernel)
set_option maxRecDepth 20000 in
theorem gX2_paid_X2_goes : GoodIn wsX2_paid (wsV RX2 66 RX2 yX2_goes wsX2_goes) := goodIn_app (goodIn_of _ (by decide +kernel)) ggX2_paid_X2_goes
theorem dX2_paid_0 : decode cX2_paid 0 = .ok (.aload_n 0, 1) := by decide +kernel
theorem dX2_paid_1 : decode cX2_paid 1 = .ok (.aload_n 0, 1) := by decide +kernel
theorem dX2_paid_2 : decode cX2_paid 2 = .ok (.iload_n 1, 1) := by decide +kernel
theorem dX2_paid_3 : decode cX2_paid 3 = .ok (.invokevirtual 70, 3) := by decide +kernel
theorem dX2_paid_6 : decode cX2_paid 6 = .ok (.iload_n 2, 1) := by decide +kernel
theorem dX2_paid_7 : decode cX2_paid 7 = .ok (.iconst 0, 1) := by decide +kernel
theorem dX2_paid_8 : decode cX2_paid 8 = .ok (.aload_n 0, 1) := by decide +kernel
theorem dX2_paid_9 : decode cX2_paid 9 = .ok (.getfield 58, 3) := by decide +kernel
theorem dX2_paid_12 : decode cX2_paid 12 = .ok (.iconst 1, 1) := by decide +kernel
theorem dX2_paid_13 : decode cX2_paid 13 = .ok (.isub, 1) := by decide +kernel
theorem dX2_paid_14 : decode cX2_paid 14 = .ok (.invokestatic 61, 3) := by decide +kernel
theorem dX2_paid_17 : decode cX2_paid 17 = .ok (.iconst 1, 1) := by decide +kernel
theorem dX2_paid_18 : decode cX2_paid 18 = .ok (.invokevirtual 66, 3) := by decide +kernel
theorem dX2_paid_21 : decode cX2_paid 21 = .ok (.ifCond .eq 18, 3) := by decide +kernel
theorem dX2_paid_24 : decode cX2_paid 24 = .ok (.aload_n 0, 1) := by decide +kernel
theorem dX2_paid_25 : decode cX2_paid 25 = .ok (.getfield 45, 3) := by decide +kernel
theorem dX2_paid_28 : decode cX2_paid 28 = .ok (.sipush 240, 3) := by decide +kernel
theorem dX2_paid_31 : decode cX2_paid 31 = .ok (.iload_n 1, 1) := by decide +kernel
theorem dX2_paid_32 : decode cX2_paid 32 = .ok (.imul, 1) := by decide +kernel
theorem dX2_paid_33 : decode cX2_paid 33 = .ok (.iload_n 2, 1) := by decide +kernel
theorem dX2_paid_34 : decode cX2_paid 34 = .ok (.iadd, 1) := by decide +kernel
theorem dX2_paid_35 : decode cX2_paid 35 = .ok (.laload, 1) := by decide +kernel
theorem dX2_paid_36 : decode cX2_paid 36 = .ok (.goto 4, 3) := by decide +kernel
theorem dX2_paid_39 : decode cX2_paid 39 = .ok (.lconst 0, 1) := by decide +kernel
theorem dX2_paid_40 : decode cX2_paid 40 = .ok (.lreturn, 1) := by decide +kernel
set_option maxRecDepth 20000 in
theorem ggX2_paidInAll_X2_isOne : GoodIn wsX2_paidInAll wsX2_isOne := goodIn_r _ [7, 8, 14, 15, 16, 17, 18, 19, 20, 21, 22, 23, 24, 25, 26, 27, 28, 29, 30, 31] (by decide +kernel) (by decide +kernel)
set_option maxRecDepth 20000 in
theorem gX2_paidInAll_X2_isOne : GoodIn wsX2_paidInAll (wsV RX2 70 RX2 yX2_isOne wsX2_isOne) := goodIn_app (goodIn_of _ (by decide +kernel)) ggX2_paidInAll_X2_isOne
set_option maxRecDepth 20000 in
theorem ggX2_paidInAll_X2_goes : GoodIn wsX2_paidInAll wsX2_goes := goodIn_r _ [12, 13, 14, 15, 16, 17, 18, 19, 20, 21, 22, 23, 24, 25, 26, 27, 28, 29, 30, 31] (by decide +kernel) (by decide +kernel)
set_option maxRecDepth 20000 in
theorem gX2_paidInAll_X2_goes : GoodIn wsX2_paidInAll (wsV RX2 66 RX2 yX2_goes wsX2_goes) := goodIn_app (goodIn_of _ (by decide +kernel)) ggX2_paidInAll_X2_goes
theorem dX2_paidInAll_0 : decode cX2_paidInAll 0 = .ok (.aload_n 0, 1) := by decide +kernel
theorem dX2_paidInAll_1 : decode cX2_paidInAll 1 = .ok (.aload_n 0, 1) := by decide +kernel
theorem dX2_paidInAll_2 : decode cX2_paidInAll 2 = .ok (.iload_n 1, 1) := by decide +kernel
theorem dX2_paidInAll_3 : decode cX2_paidInAll 3 = .ok (.invokevirtual 70, 3) := by decide +kernel
theorem dX2_paidInAll_6 : decode cX2_paidInAll 6 = .ok (.iconst 1, 1) := by decide +kernel
theorem dX2_paidInAll_7 : decode cX2_paidInAll 7 = .ok (.iconst 1, 1) := by decide +kernel
theorem dX2_paidInAll_8 : decode cX2_paidInAll 8 = .ok (.invokevirtual 66, 3) := by decide +kernel
theorem dX2_paidInAll_11 : decode cX2_paidInAll 11 = .ok (.ifCond .eq 19, 3) := by decide +kernel
theorem dX2_paidInAll_14 : decode cX2_paidInAll 14 = .ok (.aload_n 0, 1) := by decide +kernel
theorem dX2_paidInAll_15 : decode cX2_paidInAll 15 = .ok (.getfield 38, 3) := by decide +kernel
theorem dX2_paidInAll_18 : decode cX2_paidInAll 18 = .ok (.iload_n 1, 1) := by decide +kernel
theorem dX2_paidInAll_19 : decode cX2_paidInAll 19 = .ok (.laload, 1) := by decide +kernel
theorem dX2_paidInAll_20 : decode cX2_paidInAll 20 = .ok (.aload_n 0, 1) := by decide +kernel
theorem dX2_paidInAll_21 : decode cX2_paidInAll 21 = .ok (.getfield 42, 3) := by decide +kernel
theorem dX2_paidInAll_24 : decode cX2_paidInAll 24 = .ok (.iload_n 1, 1) := by decide +kernel
theorem dX2_paidInAll_25 : decode cX2_paidInAll 25 = .ok (.laload, 1) := by decide +kernel
theorem dX2_paidInAll_26 : decode cX2_paidInAll 26 = .ok (.lsub, 1) := by decide +kernel
theorem dX2_paidInAll_27 : decode cX2_paidInAll 27 = .ok (.goto 4, 3) := by decide +kernel
theorem dX2_paidInAll_30 : decode cX2_paidInAll 30 = .ok (.lconst 0, 1) := by decide +kernel
theorem dX2_paidInAll_31 : decode cX2_paidInAll 31 = .ok (.lreturn, 1) := by decide +kernel
set_option maxRecDepth 20000 in
theorem ggX2_owes_X2_isOne : GoodIn wsX2_owes wsX2_isOne := goodIn_r _ [5, 6, 55, 56, 57, 58, 59, 60, 61, 62, 63, 64, 65, 66, 67, 68, 69, 70, 71, 72] (by decide +kernel) (by decide +kernel)
set_option maxRecDepth 20000 in
theorem gX2_owes_X2_isOne : GoodIn wsX2_owes (wsV RX2 70 RX2 yX2_isOne wsX2_isOne) := goodIn_app (goodIn_of _ (by decide +kernel)) ggX2_owes_X2_isOne
set_option maxRecDepth 20000 in
theorem ggX2_owes_X2_goes : GoodIn wsX2_owes wsX2_goes := goodIn_r _ [10, 11, 55, 56, 57, 58, 59, 60, 61, 62, 63, 64, 65, 66, 67, 68, 69, 70, 71, 72] (by decide +kernel) (by decide +kernel)
set_option maxRecDepth 20000 in
theorem gX2_owes_X2_goes : GoodIn wsX2_owes (wsV RX2 66 RX2 yX2_goes wsX2_goes) := goodIn_app (goodIn_of _ (by decide +kernel)) ggX2_owes_X2_goes
set_option maxRecDepth 20000 in
theorem ggX2_owes_X2_owed : GoodIn wsX2_owes wsX2_owed := goodIn_r _ [15, 16, 17, 18, 19, 20, 21, 4, 22, 23, 24, 25, 26, 27, 28, 29, 30, 31, 32, 33, 34, 35, 36, 37, 38, 39, 40, 41, 42, 43, 44, 45, 46, 47, 48, 49, 50, 51, 52, 53, 54, 55, 56, 57, 58, 59, 60, 61, 62, 63, 64, 65, 66, 67, 68, 69, 70, 71, 72] (by decide +kernel) (by decide +kernel)
set_option maxRecDepth 20000 in
theorem gX2_owes_X2_owed : GoodIn wsX2_owes (wsV RX2 114 RX2 yX2_owed wsX2_owed) := goodIn_app (goodIn_of _ (by decide +kernel)) ggX2_owes_X2_owed
theorem dX2_owes_0 : decode cX2_owes 0 = .ok (.aload_n 0, 1) := by decide +kernel
theorem dX2_owes_1 : decode cX2_owes 1 = .ok (.aload_n 0, 1) := by decide +kernel
theorem dX2_owes_2 : decode cX2_owes 2 = .ok (.iload_n 1, 1) := by decide +kernel
theorem dX2_owes_3 : decode cX2_owes 3 = .ok (.invokevirtual 70, 3) := by decide +kernel
theorem dX2_owes_6 : decode cX2_owes 6 = .ok (.iconst 1, 1) := by decide +kernel
theorem dX2_owes_7 : decode cX2_owes 7 = .ok (.iconst 1, 1) := by decide +kernel
theorem dX2_owes_8 : decode cX2_owes 8 = .ok (.invokevirtual 66, 3) := by decide +kernel
theorem dX2_owes_11 : decode cX2_owes 11 = .ok (.ifCond .eq 11, 3) := by decide +kernel
theorem dX2_owes_14 : decode cX2_owes 14 = .ok (.aload_n 0, 1) := by decide +kernel
theorem dX2_owes_15 : decode cX2_owes 15 = .ok (.iload_n 1, 1) := by decide +kernel
theorem dX2_owes_16 : decode cX2_owes 16 = .ok (.invokevirtual 114, 3) := by decide +kernel
theorem dX2_owes_19 : decode cX2_owes 19 = .ok (.goto 4, 3) := by decide +kernel
theorem dX2_owes_22 : decode cX2_owes 22 = .ok (.lconst 0, 1) := by decide +kernel
theorem dX2_owes_23 : decode cX2_owes 23 = .ok (.lreturn, 1) := by decide +kernel
theorem dJ9_max_7cf53_0 : decode cJ9_max_7cf53 0 = .ok (.iload_n 0, 1) := by decide +kernel
theorem dJ9_max_7cf53_1 : decode cJ9_max_7cf53 1 = .ok (.iload_n 1, 1) := by decide +kernel
theorem dJ9_max_7cf53_2 : decode cJ9_max_7cf53 2 = .ok (.if_icmp .lt 7, 3) := by decide +kernel
theorem dJ9_max_7cf53_5 : decode cJ9_max_7cf53 5 = .ok (.iload_n 0, 1) := by decide +kernel
theorem dJ9_max_7cf53_6 : decode cJ9_max_7cf53 6 = .ok (.goto 4, 3) := by decide +kernel
theorem dJ9_max_7cf53_9 : decode cJ9_max_7cf53 9 = .ok (.iload_n 1, 1) := by decide +kernel
theorem dJ9_max_7cf53_10 : decode cJ9_max_7cf53 10 = .ok (.ireturn, 1) := by decide +kernel
theorem dJ9_max_f86c9_0 : decode cJ9_max_f86c9 0 = .ok (.lload_n 0, 1) := by decide +kernel
theorem dJ9_max_f86c9_1 : decode cJ9_max_f86c9 1 = .ok (.lload_n 2, 1) := by decide +kernel
theorem dJ9_max_f86c9_2 : decode cJ9_max_f86c9 2 = .ok (.lcmp, 1) := by decide +kernel
theorem dJ9_max_f86c9_3 : decode cJ9_max_f86c9 3 = .ok (.ifCond .lt 7, 3) := by decide +kernel
theorem dJ9_max_f86c9_6 : decode cJ9_max_f86c9 6 = .ok (.lload_n 0, 1) := by decide +kernel
theorem dJ9_max_f86c9_7 : decode cJ9_max_f86c9 7 = .ok (.goto 4, 3) := by decide +kernel
theorem dJ9_max_f86c9_10 : decode cJ9_max_f86c9 10 = .ok (.lload_n 2, 1) := by decide +kernel
theorem dJ9_max_f86c9_11 : decode cJ9_max_f86c9 11 = .ok (.lreturn, 1) := by decide +kernel
theorem dJ9_min_7cf53_0 : decode cJ9_min_7cf53 0 = .ok (.iload_n 0, 1) := by decide +kernel
theorem dJ9_min_7cf53_1 : decode cJ9_min_7cf53 1 = .ok (.iload_n 1, 1) := by decide +kernel
theorem dJ9_min_7cf53_2 : decode cJ9_min_7cf53 2 = .ok (.if_icmp .gt 7, 3) := by decide +kernel
theorem dJ9_min_7cf53_5 : decode cJ9_min_7cf53 5 = .ok (.iload_n 0, 1) := by decide +kernel
theorem dJ9_min_7cf53_6 : decode cJ9_min_7cf53 6 = .ok (.goto 4, 3) := by decide +kernel
theorem dJ9_min_7cf53_9 : decode cJ9_min_7cf53 9 = .ok (.iload_n 1, 1) := by decide +kernel
theorem dJ9_min_7cf53_10 : decode cJ9_min_7cf53 10 = .ok (.ireturn, 1) := by decide +kernel
end
section
set_option maxRecDepth 20000 in
theorem ggL_add_X1_add : GoodIn wsL_add wsX1_add := goodIn_ca (goodIn_ca (goodIn_r _ [7, 8, 9, 10, 11, 12, 13, 14, 15, 16, 17, 18, 19, 6, 20, 21, 22, 23, 24, 25, 26, 27, 28, 29, 30, 31, 32, 33, 34, 35, 36, 37, 38, 39, 40, 41, 42, 43, 44, 45, 46, 47, 48, 49, 50, 51, 52, 53, 54, 55, 56, 57, 58, 59, 60, 61, 62, 63, 64, 65, 66, 67, 68, 69, 70, 71] (by decide +kernel) (by decide +kernel)) (goodIn_sub (fun _ h => List.mem_cons_of_mem _ (List.mem_append_left _ (List.mem_append_right _ h))) (by decide +kernel))) (goodIn_sub (fun _ h => List.mem_cons_of_mem _ (List.mem_append_right _ h)) (by decide +kernel))
set_option maxRecDepth 20000 in
theorem gL_add_X1_add : GoodIn wsL_add (wsV RL 7 RX1 yX1_add wsX1_add) := goodIn_app (goodIn_of _ (by decide +kernel)) ggL_add_X1_add
theorem dL_add_0 : decode cL_add 0 = .ok (.aload 4, 2) := by decide +kernel
theorem dL_add_2 : decode cL_add 2 = .ok (.iconst 0, 1) := by decide +kernel
theorem dL_add_3 : decode cL_add 3 = .ok (.aload_n 0, 1) := by decide +kernel
theorem dL_add_4 : decode cL_add 4 = .ok (.iload_n 1, 1) := by decide +kernel
theorem dL_add_5 : decode cL_add 5 = .ok (.iload_n 2, 1) := by decide +kernel
theorem dL_add_6 : decode cL_add 6 = .ok (.iload_n 3, 1) := by decide +kernel
theorem dL_add_7 : decode cL_add 7 = .ok (.invokevirtual 7, 3) := by decide +kernel
theorem dL_add_10 : decode cL_add 10 = .ok (.i2l, 1) := by decide +kernel
theorem dL_add_11 : decode cL_add 11 = .ok (.lastore, 1) := by decide +kernel
theorem dL_add_12 : decode cL_add 12 = .ok (.goto 11, 3) := by decide +kernel
theorem dL_add_15 : decode cL_add 15 = .ok (.astore 5, 2) := by decide +kernel
theorem dL_add_17 : decode cL_add 17 = .ok (.iconst 1, 1) := by decide +kernel
theorem dL_add_18 : decode cL_add 18 = .ok (.ireturn, 1) := by decide +kernel
theorem dL_add_19 : decode cL_add 19 = .ok (.astore 5, 2) := by decide +kernel
theorem dL_add_21 : decode cL_add 21 = .ok (.iconst 2, 1) := by decide +kernel
theorem dL_add_22 : decode cL_add 22 = .ok (.ireturn, 1) := by decide +kernel
theorem dL_add_23 : decode cL_add 23 = .ok (.iconst 0, 1) := by decide +kernel
theorem dL_add_24 : decode cL_add 24 = .ok (.ireturn, 1) := by decide +kernel
set_option maxRecDepth 20000 in
theorem ggL_setSurvivor_X1_setSurvivor : GoodIn wsL_setSurvivor wsX1_setSurvivor := goodIn_ca (goodIn_ca (goodIn_ca (goodIn_r _ [8, 9, 10, 11, 12, 13, 7, 14, 15, 16, 17, 18, 19, 20, 21, 22, 23, 24, 25, 26, 27, 28, 29, 30, 31, 32, 33, 34, 35, 36, 37, 38, 39, 40, 41, 42, 43, 44, 45, 46, 47] (by decide +kernel) (by decide +kernel)) (goodIn_sub (fun _ h => List.mem_cons_of_mem _ (List.mem_append_left _ (List.mem_append_left _ (List.mem_append_right _ h)))) (by decide +kernel))) (goodIn_sub (fun _ h => List.mem_cons_of_mem _ (List.mem_append_left _ (List.mem_append_right _ h))) (by decide +kernel))) (goodIn_sub (fun _ h => List.mem_cons_of_mem _ (List.mem_append_right _ h)) (by decide +kernel))
set_option maxRecDepth 20000 in
theorem gL_setSurvivor_X1_setSurvivor : GoodIn wsL_setSurvivor (wsV RL 17 RX1 yX1_setSurvivor wsX1_setSurvivor) := goodIn_app (goodIn_of _ (by decide +kernel)) ggL_setSurvivor_X1_setSurvivor
theorem dL_setSurvivor_0 : decode cL_setSurvivor 0 = .ok (.aload_n 0, 1) := by decide +kernel
theorem dL_setSurvivor_1 : decode cL_setSurvivor 1 = .ok (.iload_n 1, 1) := by decide +kernel
theorem dL_setSurvivor_2 : decode cL_setSurvivor 2 = .ok (.iload_n 2, 1) := by decide +kernel
theorem dL_setSurvivor_3 : decode cL_setSurvivor 3 = .ok (.iload_n 3, 1) := by decide +kernel
theorem dL_setSurvivor_4 : decode cL_setSurvivor 4 = .ok (.invokevirtual 17, 3) := by decide +kernel
theorem dL_setSurvivor_7 : decode cL_setSurvivor 7 = .ok (.goto 15, 3) := by decide +kernel
theorem dL_setSurvivor_10 : decode cL_setSurvivor 10 = .ok (.astore 4, 2) := by decide +kernel
theorem dL_setSurvivor_12 : decode cL_setSurvivor 12 = .ok (.iconst 1, 1) := by decide +kernel
theorem dL_setSurvivor_13 : decode cL_setSurvivor 13 = .ok (.ireturn, 1) := by decide +kernel
theorem dL_setSurvivor_14 : decode cL_setSurvivor 14 = .ok (.astore 4, 2) := by decide +kernel
theorem dL_setSurvivor_16 : decode cL_setSurvivor 16 = .ok (.iconst 2, 1) := by decide +kernel
theorem dL_setSurvivor_17 : decode cL_setSurvivor 17 = .ok (.ireturn, 1) := by decide +kernel
theorem dL_setSurvivor_18 : decode cL_setSurvivor 18 = .ok (.astore 4, 2) := by decide +kernel
theorem dL_setSurvivor_20 : decode cL_setSurvivor 20 = .ok (.iconst 3, 1) := by decide +kernel
theorem dL_setSurvivor_21 : decode cL_setSurvivor 21 = .ok (.ireturn, 1) := by decide +kernel
theorem dL_setSurvivor_22 : decode cL_setSurvivor 22 = .ok (.iconst 0, 1) := by decide +kernel
theorem dL_setSurvivor_23 : decode cL_setSurvivor 23 = .ok (.ireturn, 1) := by decide +kernel
set_option maxRecDepth 20000 in
theorem ggL_setCap_X1_setCap : GoodIn wsL_setCap wsX1_setCap := goodIn_ca (goodIn_ca (goodIn_ca (goodIn_r _ [8, 9, 10, 11, 12, 13, 7, 14, 15, 16, 17, 18, 19, 20, 21, 22, 23, 24, 25, 26, 27, 28, 29, 30, 31, 32, 33, 34, 35, 36, 37, 38, 39, 40, 41, 42, 43, 44, 45, 46, 47, 48, 49, 50, 51, 52, 53, 54, 55, 56, 57, 58, 59, 60, 61, 62, 63, 64] (by decide +kernel) (by decide +kernel)) (goodIn_sub (fun _ h => List.mem_cons_of_mem _ (List.mem_append_left _ (List.mem_append_left _ (List.mem_append_right _ h)))) (by decide +kernel))) (goodIn_sub (fun _ h => List.mem_cons_of_mem _ (List.mem_append_left _ (List.mem_append_right _ h))) (by decide +kernel))) (goodIn_sub (fun _ h => List.mem_cons_of_mem _ (List.mem_append_right _ h)) (by decide +kernel))
set_option maxRecDepth 20000 in
theorem gL_setCap_X1_setCap : GoodIn wsL_setCap (wsV RL 23 RX1 yX1_setCap wsX1_setCap) := goodIn_app (goodIn_of _ (by decide +kernel)) ggL_setCap_X1_setCap
theorem dL_setCap_0 : decode cL_setCap 0 = .ok (.aload_n 0, 1) := by decide +kernel
theorem dL_setCap_1 : decode cL_setCap 1 = .ok (.iload_n 1, 1) := by decide +kernel
theorem dL_setCap_2 : decode cL_setCap 2 = .ok (.iload_n 2, 1) := by decide +kernel
theorem dL_setCap_3 : decode cL_setCap 3 = .ok (.invokevirtual 23, 3) := by decide +kernel
theorem dL_setCap_6 : decode cL_setCap 6 = .ok (.goto 12, 3) := by decide +kernel
theorem dL_setCap_9 : decode cL_setCap 9 = .ok (.astore_n 3, 1) := by decide +kernel
theorem dL_setCap_10 : decode cL_setCap 10 = .ok (.iconst 1, 1) := by decide +kernel
theorem dL_setCap_11 : decode cL_setCap 11 = .ok (.ireturn, 1) := by decide +kernel
theorem dL_setCap_12 : decode cL_setCap 12 = .ok (.astore_n 3, 1) := by decide +kernel
theorem dL_setCap_13 : decode cL_setCap 13 = .ok (.iconst 2, 1) := by decide +kernel
theorem dL_setCap_14 : decode cL_setCap 14 = .ok (.ireturn, 1) := by decide +kernel
theorem dL_setCap_15 : decode cL_setCap 15 = .ok (.astore_n 3, 1) := by decide +kernel
theorem dL_setCap_16 : decode cL_setCap 16 = .ok (.iconst 3, 1) := by decide +kernel
theorem dL_setCap_17 : decode cL_setCap 17 = .ok (.ireturn, 1) := by decide +kernel
theorem dL_setCap_18 : decode cL_setCap 18 = .ok (.iconst 0, 1) := by decide +kernel
theorem dL_setCap_19 : decode cL_setCap 19 = .ok (.ireturn, 1) := by decide +kernel
set_option maxRecDepth 20000 in
theorem ggL_protect_X1_protect : GoodIn wsL_protect wsX1_protect := goodIn_ca (goodIn_ca (goodIn_ca (goodIn_r _ [8, 9, 10, 11, 12, 13, 14, 7, 15, 16, 17, 18, 19, 20, 21, 22, 23, 24, 25, 26, 27, 28, 29, 30, 31, 32, 33, 34, 35, 36, 37, 38, 39, 40, 41, 42, 43, 44, 45, 46, 47, 48] (by decide +kernel) (by decide +kernel)) (goodIn_sub (fun _ h => List.mem_cons_of_mem _ (List.mem_append_left _ (List.mem_append_left _ (List.mem_append_right _ h)))) (by decide +kernel))) (goodIn_sub (fun _ h => List.mem_cons_of_mem _ (List.mem_append_left _ (List.mem_append_right _ h))) (by decide +kernel))) (goodIn_sub (fun _ h => List.mem_cons_of_mem _ (List.mem_append_right _ h)) (by decide +kernel))
set_option maxRecDepth 20000 in
theorem gL_protect_X1_protect : GoodIn wsL_protect (wsV RL 27 RX1 yX1_protect wsX1_protect) := goodIn_app (goodIn_of _ (by decide +kernel)) ggL_protect_X1_protect
theorem dL_protect_0 : decode cL_protect 0 = .ok (.aload_n 0, 1) := by decide +kernel
theorem dL_protect_1 : decode cL_protect 1 = .ok (.iload_n 1, 1) := by decide +kernel
theorem dL_protect_2 : decode cL_protect 2 = .ok (.iload_n 2, 1) := by decide +kernel
theorem dL_protect_3 : decode cL_protect 3 = .ok (.iload_n 3, 1) := by decide +kernel
theorem dL_protect_4 : decode cL_protect 4 = .ok (.invokevirtual 27, 3) := by decide +kernel
theorem dL_protect_7 : decode cL_protect 7 = .ok (.goto 15, 3) := by decide +kernel
theorem dL_protect_10 : decode cL_protect 10 = .ok (.astore 4, 2) := by decide +kernel
theorem dL_protect_12 : decode cL_protect 12 = .ok (.iconst 1, 1) := by decide +kernel
theorem dL_protect_13 : decode cL_protect 13 = .ok (.ireturn, 1) := by decide +kernel
theorem dL_protect_14 : decode cL_protect 14 = .ok (.astore 4, 2) := by decide +kernel
theorem dL_protect_16 : decode cL_protect 16 = .ok (.iconst 2, 1) := by decide +kernel
theorem dL_protect_17 : decode cL_protect 17 = .ok (.ireturn, 1) := by decide +kernel
theorem dL_protect_18 : decode cL_protect 18 = .ok (.astore 4, 2) := by decide +kernel
theorem dL_protect_20 : decode cL_protect 20 = .ok (.iconst 3, 1) := by decide +kernel
theorem dL_protect_21 : decode cL_protect 21 = .ok (.ireturn, 1) := by decide +kernel
theorem dL_protect_22 : decode cL_protect 22 = .ok (.iconst 0, 1) := by decide +kernel
theorem dL_protect_23 : decode cL_protect 23 = .ok (.ireturn, 1) := by decide +kernel
set_option maxRecDepth 20000 in
theorem ggL_setInflation_X1_setInflation : GoodIn wsL_setInflation wsX1_setInflation := goodIn_ca (goodIn_r _ [6, 7, 8, 9, 10, 5, 11, 12, 13, 14, 15, 16, 17, 18, 19, 20, 21, 22, 23, 24, 25, 26, 27, 28, 29, 30, 31, 32, 33, 34, 35, 36, 37, 38, 39, 40, 41, 42, 43, 44, 45, 46, 47] (by decide +kernel) (by decide +kernel)) (goodIn_sub (fun _ h => List.mem_cons_of_mem _ (List.mem_append_right _ h)) (by decide +kernel))
set_option maxRecDepth 20000 in
theorem gL_setInflation_X1_setInflation : GoodIn wsL_setInflation (wsV RL 31 RX1 yX1_setInflation wsX1_setInflation) := goodIn_app (goodIn_of _ (by decide +kernel)) ggL_setInflation_X1_setInflation
theorem dL_setInflation_0 : decode cL_setInflation 0 = .ok (.aload_n 3, 1) := by decide +kernel
theorem dL_setInflation_1 : decode cL_setInflation 1 = .ok (.iconst 0, 1) := by decide +kernel
theorem dL_setInflation_2 : decode cL_setInflation 2 = .ok (.aload_n 0, 1) := by decide +kernel
theorem dL_setInflation_3 : decode cL_setInflation 3 = .ok (.iload_n 1, 1) := by decide +kernel
theorem dL_setInflation_4 : decode cL_setInflation 4 = .ok (.iload_n 2, 1) := by decide +kernel
theorem dL_setInflation_5 : decode cL_setInflation 5 = .ok (.invokevirtual 31, 3) := by decide +kernel
theorem dL_setInflation_8 : decode cL_setInflation 8 = .ok (.i2l, 1) := by decide +kernel
theorem dL_setInflation_9 : decode cL_setInflation 9 = .ok (.lastore, 1) := by decide +kernel
theorem dL_setInflation_10 : decode cL_setInflation 10 = .ok (.goto 7, 3) := by decide +kernel
theorem dL_setInflation_13 : decode cL_setInflation 13 = .ok (.astore 4, 2) := by decide +kernel
theorem dL_setInflation_15 : decode cL_setInflation 15 = .ok (.iconst 1, 1) := by decide +kernel
theorem dL_setInflation_16 : decode cL_setInflation 16 = .ok (.ireturn, 1) := by decide +kernel
theorem dL_setInflation_17 : decode cL_setInflation 17 = .ok (.iconst 0, 1) := by decide +kernel
theorem dL_setInflation_18 : decode cL_setInflation 18 = .ok (.ireturn, 1) := by decide +kernel
set_option maxRecDepth 20000 in
theorem ggL_die_X1_die : GoodIn wsL_die wsX1_die := goodIn_ca (goodIn_ca (goodIn_ca (goodIn_r _ [8, 9, 10, 11, 12, 13, 14, 15, 16, 17, 18, 19, 7, 20, 21, 22, 23, 24, 25, 26, 27, 28, 29, 30, 31, 32, 33, 34, 35, 36, 37, 38, 39, 40, 41, 42, 43, 44, 45] (by decide +kernel) (by decide +kernel)) (goodIn_sub (fun _ h => List.mem_cons_of_mem _ (List.mem_append_left _ (List.mem_append_left _ (List.mem_append_right _ h)))) (by decide +kernel))) (goodIn_sub (fun _ h => List.mem_cons_of_mem _ (List.mem_append_left _ (List.mem_append_right _ h))) (by decide +kernel))) (goodIn_sub (fun _ h => List.mem_cons_of_mem _ (List.mem_append_right _ h)) (by decide +kernel))
set_option maxRecDepth 20000 in
theorem gL_die_X1_die : GoodIn wsL_die (wsV RL 35 RX1 yX1_die wsX1_die) := goodIn_app (goodIn_of _ (by decide +kernel)) ggL_die_X1_die
theorem dL_die_0 : decode cL_die 0 = .ok (.aload_n 0, 1) := by decide +kernel
theorem dL_die_1 : decode cL_die 1 = .ok (.iload_n 1, 1) := by decide +kernel
theorem dL_die_2 : decode cL_die 2 = .ok (.iload_n 2, 1) := by decide +kernel
theorem dL_die_3 : decode cL_die 3 = .ok (.iload_n 3, 1) := by decide +kernel
theorem dL_die_4 : decode cL_die 4 = .ok (.invokevirtual 35, 3) := by decide +kernel
theorem dL_die_7 : decode cL_die 7 = .ok (.goto 15, 3) := by decide +kernel
theorem dL_die_10 : decode cL_die 10 = .ok (.astore 4, 2) := by decide +kernel
theorem dL_die_12 : decode cL_die 12 = .ok (.iconst 1, 1) := by decide +kernel
theorem dL_die_13 : decode cL_die 13 = .ok (.ireturn, 1) := by decide +kernel
theorem dL_die_14 : decode cL_die 14 = .ok (.astore 4, 2) := by decide +kernel
theorem dL_die_16 : decode cL_die 16 = .ok (.iconst 2, 1) := by decide +kernel
theorem dL_die_17 : decode cL_die 17 = .ok (.ireturn, 1) := by decide +kernel
theorem dL_die_18 : decode cL_die 18 = .ok (.astore 4, 2) := by decide +kernel
theorem dL_die_20 : decode cL_die 20 = .ok (.iconst 3, 1) := by decide +kernel
theorem dL_die_21 : decode cL_die 21 = .ok (.ireturn, 1) := by decide +kernel
theorem dL_die_22 : decode cL_die 22 = .ok (.iconst 0, 1) := by decide +kernel
theorem dL_die_23 : decode cL_die 23 = .ok (.ireturn, 1) := by decide +kernel
set_option maxRecDepth 20000 in
theorem ggL_takeBack_X1_takeBack : GoodIn wsL_takeBack wsX1_takeBack := goodIn_ca (goodIn_ca (goodIn_ca (goodIn_r _ [8, 9, 10, 11, 12, 13, 14, 7, 15, 16, 17, 18, 19, 20, 21, 22, 23, 24, 25, 26, 27, 28, 29, 30, 31, 32, 33, 34, 35, 36, 37, 38, 39, 40] (by decide +kernel) (by decide +kernel)) (goodIn_sub (fun _ h => List.mem_cons_of_mem _ (List.mem_append_left _ (List.mem_append_left _ (List.mem_append_right _ h)))) (by decide +kernel))) (goodIn_sub (fun _ h => List.mem_cons_of_mem _ (List.mem_append_left _ (List.mem_append_right _ h))) (by decide +kernel))) (goodIn_sub (fun _ h => List.mem_cons_of_mem _ (List.mem_append_right _ h)) (by decide +kernel))
set_option maxRecDepth 20000 in
theorem gL_takeBack_X1_takeBack : GoodIn wsL_takeBack (wsV RL 38 RX1 yX1_takeBack wsX1_takeBack) := goodIn_app (goodIn_of _ (by decide +kernel)) ggL_takeBack_X1_takeBack
theorem dL_takeBack_0 : decode cL_takeBack 0 = .ok (.aload_n 3, 1) := by decide +kernel
theorem dL_takeBack_1 : decode cL_takeBack 1 = .ok (.iconst 0, 1) := by decide +kernel
theorem dL_takeBack_2 : decode cL_takeBack 2 = .ok (.aload_n 0, 1) := by decide +kernel
theorem dL_takeBack_3 : decode cL_takeBack 3 = .ok (.iload_n 1, 1) := by decide +kernel
theorem dL_takeBack_4 : decode cL_takeBack 4 = .ok (.iload_n 2, 1) := by decide +kernel
theorem dL_takeBack_5 : decode cL_takeBack 5 = .ok (.invokevirtual 38, 3) := by decide +kernel
theorem dL_takeBack_8 : decode cL_takeBack 8 = .ok (.i2l, 1) := by decide +kernel
theorem dL_takeBack_9 : decode cL_takeBack 9 = .ok (.lastore, 1) := by decide +kernel
theorem dL_takeBack_10 : decode cL_takeBack 10 = .ok (.goto 15, 3) := by decide +kernel
theorem dL_takeBack_13 : decode cL_takeBack 13 = .ok (.astore 4, 2) := by decide +kernel
theorem dL_takeBack_15 : decode cL_takeBack 15 = .ok (.iconst 1, 1) := by decide +kernel
theorem dL_takeBack_16 : decode cL_takeBack 16 = .ok (.ireturn, 1) := by decide +kernel
theorem dL_takeBack_17 : decode cL_takeBack 17 = .ok (.astore 4, 2) := by decide +kernel
theorem dL_takeBack_19 : decode cL_takeBack 19 = .ok (.iconst 2, 1) := by decide +kernel
theorem dL_takeBack_20 : decode cL_takeBack 20 = .ok (.ireturn, 1) := by decide +kernel
theorem dL_takeBack_21 : decode cL_takeBack 21 = .ok (.astore 4, 2) := by decide +kernel
theorem dL_takeBack_23 : decode cL_takeBack 23 = .ok (.iconst 3, 1) := by decide +kernel
theorem dL_takeBack_24 : decode cL_takeBack 24 = .ok (.ireturn, 1) := by decide +kernel
theorem dL_takeBack_25 : decode cL_takeBack 25 = .ok (.iconst 0, 1) := by decide +kernel
theorem dL_takeBack_26 : decode cL_takeBack 26 = .ok (.ireturn, 1) := by decide +kernel
set_option maxRecDepth 20000 in
theorem ggL_run_X1_run : GoodIn wsL_run wsX1_run := goodIn_ca (goodIn_r _ [6, 7, 8, 9, 10, 11, 12, 13, 14, 15, 16, 17, 18, 19, 20, 21, 22, 23, 24, 25, 26, 27, 28, 29, 30, 31, 32, 33, 34, 35, 36, 37, 38, 39, 40, 41, 42, 43, 44, 45, 46, 47, 48, 49, 50, 51, 52, 53, 54, 55, 56, 57, 58, 59, 60, 61, 62, 63, 64, 65, 66, 67, 68, 69, 70, 71, 72, 73, 74, 75, 76, 77] (by decide +kernel) (by decide +kernel)) (goodIn_sub (fun _ h => List.mem_cons_of_mem _ (List.mem_append_right _ h)) (by decide +kernel))
set_option maxRecDepth 20000 in
theorem gL_run_X1_run : GoodIn wsL_run (wsV RL 41 RX1 yX1_run wsX1_run) := goodIn_app (goodIn_of _ (by decide +kernel)) ggL_run_X1_run
theorem dL_run_0 : decode cL_run 0 = .ok (.aload_n 1, 1) := by decide +kernel
theorem dL_run_1 : decode cL_run 1 = .ok (.iconst 0, 1) := by decide +kernel
theorem dL_run_2 : decode cL_run 2 = .ok (.aload_n 0, 1) := by decide +kernel
theorem dL_run_3 : decode cL_run 3 = .ok (.invokevirtual 41, 3) := by decide +kernel
theorem dL_run_6 : decode cL_run 6 = .ok (.lastore, 1) := by decide +kernel
theorem dL_run_7 : decode cL_run 7 = .ok (.goto 6, 3) := by decide +kernel
theorem dL_run_10 : decode cL_run 10 = .ok (.astore_n 2, 1) := by decide +kernel
theorem dL_run_11 : decode cL_run 11 = .ok (.iconst 1, 1) := by decide +kernel
theorem dL_run_12 : decode cL_run 12 = .ok (.ireturn, 1) := by decide +kernel
theorem dL_run_13 : decode cL_run 13 = .ok (.iconst 0, 1) := by decide +kernel
theorem dL_run_14 : decode cL_run 14 = .ok (.ireturn, 1) := by decide +kernel
set_option maxRecDepth 20000 in
theorem ggL_giveBack_X1_giveBack : GoodIn wsL_giveBack wsX1_giveBack := goodIn_ca (goodIn_ca (goodIn_ca (goodIn_r _ [8, 9, 10, 11, 12, 13, 14, 15, 16, 7, 17, 18, 19, 20, 21, 22, 23, 24, 25, 26, 27, 28, 29, 30, 31, 32, 33, 34, 35, 36, 37, 38, 39, 40, 41, 42, 43, 44, 45, 46, 47, 48, 49, 50, 51, 52, 53, 54, 55, 56, 57, 58, 59, 60, 61, 62, 63, 64, 65, 66, 67, 68, 69, 70, 71, 72, 73, 74, 75, 76, 77, 78, 79, 80, 81, 82, 83, 84, 85, 86, 87, 88, 89, 90, 91] (by decide +kernel) (by decide +kernel)) (goodIn_sub (fun _ h => List.mem_cons_of_mem _ (List.mem_append_left _ (List.mem_append_left _ (List.mem_append_right _ h)))) (by decide +kernel))) (goodIn_sub (fun _ h => List.mem_cons_of_mem _ (List.mem_append_left _ (List.mem_append_right _ h))) (by decide +kernel))) (goodIn_sub (fun _ h => List.mem_cons_of_mem _ (List.mem_append_right _ h)) (by decide +kernel))
set_option maxRecDepth 20000 in
theorem gL_giveBack_X1_giveBack : GoodIn wsL_giveBack (wsV RL 45 RX1 yX1_giveBack wsX1_giveBack) := goodIn_app (goodIn_of _ (by decide +kernel)) ggL_giveBack_X1_giveBack
theorem dL_giveBack_0 : decode cL_giveBack 0 = .ok (.aload_n 3, 1) := by decide +kernel
theorem dL_giveBack_1 : decode cL_giveBack 1 = .ok (.iconst 0, 1) := by decide +kernel
theorem dL_giveBack_2 : decode cL_giveBack 2 = .ok (.aload_n 0, 1) := by decide +kernel
theorem dL_giveBack_3 : decode cL_giveBack 3 = .ok (.iload_n 1, 1) := by decide +kernel
theorem dL_giveBack_4 : decode cL_giveBack 4 = .ok (.iload_n 2, 1) := by decide +kernel
theorem dL_giveBack_5 : decode cL_giveBack 5 = .ok (.invokevirtual 45, 3) := by decide +kernel
theorem dL_giveBack_8 : decode cL_giveBack 8 = .ok (.lastore, 1) := by decide +kernel
theorem dL_giveBack_9 : decode cL_giveBack 9 = .ok (.goto 15, 3) := by decide +kernel
theorem dL_giveBack_12 : decode cL_giveBack 12 = .ok (.astore 4, 2) := by decide +kernel
theorem dL_giveBack_14 : decode cL_giveBack 14 = .ok (.iconst 1, 1) := by decide +kernel
theorem dL_giveBack_15 : decode cL_giveBack 15 = .ok (.ireturn, 1) := by decide +kernel
theorem dL_giveBack_16 : decode cL_giveBack 16 = .ok (.astore 4, 2) := by decide +kernel
theorem dL_giveBack_18 : decode cL_giveBack 18 = .ok (.iconst 2, 1) := by decide +kernel
theorem dL_giveBack_19 : decode cL_giveBack 19 = .ok (.ireturn, 1) := by decide +kernel
theorem dL_giveBack_20 : decode cL_giveBack 20 = .ok (.astore 4, 2) := by decide +kernel
theorem dL_giveBack_22 : decode cL_giveBack 22 = .ok (.iconst 3, 1) := by decide +kernel
theorem dL_giveBack_23 : decode cL_giveBack 23 = .ok (.ireturn, 1) := by decide +kernel
theorem dL_giveBack_24 : decode cL_giveBack 24 = .ok (.iconst 0, 1) := by decide +kernel
theorem dL_giveBack_25 : decode cL_giveBack 25 = .ok (.ireturn, 1) := by decide +kernel
set_option maxRecDepth 20000 in
theorem ggL_paid_X1_paid : GoodIn wsL_paid wsX1_paid := goodIn_ca (goodIn_ca (goodIn_r _ [7, 8, 9, 10, 11, 12, 6, 13, 14, 15, 16, 17, 18, 19, 20, 21, 22, 23, 24, 25, 26, 27, 28, 29, 30, 31, 32, 33, 34, 35, 36, 37, 38] (by decide +kernel) (by decide +kernel)) (goodIn_sub (fun _ h => List.mem_cons_of_mem _ (List.mem_append_left _ (List.mem_append_right _ h))) (by decide +kernel))) (goodIn_sub (fun _ h => List.mem_cons_of_mem _ (List.mem_append_right _ h)) (by decide +kernel))
set_option maxRecDepth 20000 in
theorem gL_paid_X1_paid : GoodIn wsL_paid (wsV RL 49 RX1 yX1_paid wsX1_paid) := goodIn_app (goodIn_of _ (by decide +kernel)) ggL_paid_X1_paid
theorem dL_paid_0 : decode cL_paid 0 = .ok (.aload_n 3, 1) := by decide +kernel
theorem dL_paid_1 : decode cL_paid 1 = .ok (.iconst 0, 1) := by decide +kernel
theorem dL_paid_2 : decode cL_paid 2 = .ok (.aload_n 0, 1) := by decide +kernel
theorem dL_paid_3 : decode cL_paid 3 = .ok (.iload_n 1, 1) := by decide +kernel
theorem dL_paid_4 : decode cL_paid 4 = .ok (.iload_n 2, 1) := by decide +kernel
theorem dL_paid_5 : decode cL_paid 5 = .ok (.invokevirtual 49, 3) := by decide +kernel
theorem dL_paid_8 : decode cL_paid 8 = .ok (.lastore, 1) := by decide +kernel
theorem dL_paid_9 : decode cL_paid 9 = .ok (.goto 11, 3) := by decide +kernel
theorem dL_paid_12 : decode cL_paid 12 = .ok (.astore 4, 2) := by decide +kernel
theorem dL_paid_14 : decode cL_paid 14 = .ok (.iconst 1, 1) := by decide +kernel
theorem dL_paid_15 : decode cL_paid 15 = .ok (.ireturn, 1) := by decide +kernel
theorem dL_paid_16 : decode cL_paid 16 = .ok (.astore 4, 2) := by decide +kernel
theorem dL_paid_18 : decode cL_paid 18 = .ok (.iconst 2, 1) := by decide +kernel
theorem dL_paid_19 : decode cL_paid 19 = .ok (.ireturn, 1) := by decide +kernel
theorem dL_paid_20 : decode cL_paid 20 = .ok (.iconst 0, 1) := by decide +kernel
theorem dL_paid_21 : decode cL_paid 21 = .ok (.ireturn, 1) := by decide +kernel
set_option maxRecDepth 20000 in
theorem ggL_paidInAll_X1_paidInAll : GoodIn wsL_paidInAll wsX1_paidInAll := goodIn_ca (goodIn_r _ [6, 7, 8, 9, 10, 5, 11, 12, 13, 14, 15, 16, 17, 18, 19, 20, 21, 22, 23, 24, 25, 26, 27, 28, 29, 30, 31] (by decide +kernel) (by decide +kernel)) (goodIn_sub (fun _ h => List.mem_cons_of_mem _ (List.mem_append_right _ h)) (by decide +kernel))
set_option maxRecDepth 20000 in
theorem gL_paidInAll_X1_paidInAll : GoodIn wsL_paidInAll (wsV RL 52 RX1 yX1_paidInAll wsX1_paidInAll) := goodIn_app (goodIn_of _ (by decide +kernel)) ggL_paidInAll_X1_paidInAll
theorem dL_paidInAll_0 : decode cL_paidInAll 0 = .ok (.aload_n 2, 1) := by decide +kernel
theorem dL_paidInAll_1 : decode cL_paidInAll 1 = .ok (.iconst 0, 1) := by decide +kernel
theorem dL_paidInAll_2 : decode cL_paidInAll 2 = .ok (.aload_n 0, 1) := by decide +kernel
theorem dL_paidInAll_3 : decode cL_paidInAll 3 = .ok (.iload_n 1, 1) := by decide +kernel
theorem dL_paidInAll_4 : decode cL_paidInAll 4 = .ok (.invokevirtual 52, 3) := by decide +kernel
theorem dL_paidInAll_7 : decode cL_paidInAll 7 = .ok (.lastore, 1) := by decide +kernel
theorem dL_paidInAll_8 : decode cL_paidInAll 8 = .ok (.goto 6, 3) := by decide +kernel
theorem dL_paidInAll_11 : decode cL_paidInAll 11 = .ok (.astore_n 3, 1) := by decide +kernel
theorem dL_paidInAll_12 : decode cL_paidInAll 12 = .ok (.iconst 1, 1) := by decide +kernel
theorem dL_paidInAll_13 : decode cL_paidInAll 13 = .ok (.ireturn, 1) := by decide +kernel
theorem dL_paidInAll_14 : decode cL_paidInAll 14 = .ok (.iconst 0, 1) := by decide +kernel
theorem dL_paidInAll_15 : decode cL_paidInAll 15 = .ok (.ireturn, 1) := by decide +kernel
set_option maxRecDepth 20000 in
theorem ggL_owes_X1_owes : GoodIn wsL_owes wsX1_owes := goodIn_ca (goodIn_r _ [6, 7, 8, 9, 10, 5, 11, 12, 13, 14, 15, 16, 17, 18, 19, 20, 21, 22, 23, 24, 25, 26, 27, 28, 29, 30, 31, 32, 33, 34, 35, 36, 37, 38, 39, 40, 41, 42, 43, 44, 45, 46, 47, 48, 49, 50, 51, 52, 53, 54, 55, 56, 57, 58, 59, 60, 61, 62, 63, 64, 65, 66, 67, 68, 69, 70, 71, 72, 73, 74, 75, 76, 77, 78, 79, 80] (by decide +kernel) (by decide +kernel)) (goodIn_sub (fun _ h => List.mem_cons_of_mem _ (List.mem_append_right _ h)) (by decide +kernel))
set_option maxRecDepth 20000 in
theorem gL_owes_X1_owes : GoodIn wsL_owes (wsV RL 56 RX1 yX1_owes wsX1_owes) := goodIn_app (goodIn_of _ (by decide +kernel)) ggL_owes_X1_owes
theorem dL_owes_0 : decode cL_owes 0 = .ok (.aload_n 2, 1) := by decide +kernel
theorem dL_owes_1 : decode cL_owes 1 = .ok (.iconst 0, 1) := by decide +kernel
theorem dL_owes_2 : decode cL_owes 2 = .ok (.aload_n 0, 1) := by decide +kernel
theorem dL_owes_3 : decode cL_owes 3 = .ok (.iload_n 1, 1) := by decide +kernel
theorem dL_owes_4 : decode cL_owes 4 = .ok (.invokevirtual 56, 3) := by decide +kernel
theorem dL_owes_7 : decode cL_owes 7 = .ok (.lastore, 1) := by decide +kernel
theorem dL_owes_8 : decode cL_owes 8 = .ok (.goto 6, 3) := by decide +kernel
theorem dL_owes_11 : decode cL_owes 11 = .ok (.astore_n 3, 1) := by decide +kernel
theorem dL_owes_12 : decode cL_owes 12 = .ok (.iconst 1, 1) := by decide +kernel
theorem dL_owes_13 : decode cL_owes 13 = .ok (.ireturn, 1) := by decide +kernel
theorem dL_owes_14 : decode cL_owes 14 = .ok (.iconst 0, 1) := by decide +kernel
theorem dL_owes_15 : decode cL_owes 15 = .ok (.ireturn, 1) := by decide +kernel
set_option maxRecDepth 20000 in
theorem ggL_fullAmount_X1_fullAmount : GoodIn wsL_fullAmount wsX1_fullAmount := goodIn_ca (goodIn_ca (goodIn_r _ [7, 8, 9, 10, 6, 11, 12, 13, 14, 15, 16, 17, 18, 19, 20, 21, 22, 23, 24, 25, 26, 27, 28, 29, 30, 31, 32, 33, 34, 35, 36, 37, 38, 39, 40, 41, 42, 43, 44, 45, 46] (by decide +kernel) (by decide +kernel)) (goodIn_sub (fun _ h => List.mem_cons_of_mem _ (List.mem_append_left _ (List.mem_append_right _ h))) (by decide +kernel))) (goodIn_sub (fun _ h => List.mem_cons_of_mem _ (List.mem_append_right _ h)) (by decide +kernel))
set_option maxRecDepth 20000 in
theorem gL_fullAmount_X1_fullAmount : GoodIn wsL_fullAmount (wsV RL 59 RX1 yX1_fullAmount wsX1_fullAmount) := goodIn_app (goodIn_of _ (by decide +kernel)) ggL_fullAmount_X1_fullAmount
theorem dL_fullAmount_0 : decode cL_fullAmount 0 = .ok (.aload_n 3, 1) := by decide +kernel
theorem dL_fullAmount_1 : decode cL_fullAmount 1 = .ok (.iconst 0, 1) := by decide +kernel
theorem dL_fullAmount_2 : decode cL_fullAmount 2 = .ok (.aload_n 0, 1) := by decide +kernel
theorem dL_fullAmount_3 : decode cL_fullAmount 3 = .ok (.iload_n 1, 1) := by decide +kernel
theorem dL_fullAmount_4 : decode cL_fullAmount 4 = .ok (.iload_n 2, 1) := by decide +kernel
theorem dL_fullAmount_5 : decode cL_fullAmount 5 = .ok (.invokevirtual 59, 3) := by decide +kernel
theorem dL_fullAmount_8 : decode cL_fullAmount 8 = .ok (.i2l, 1) := by decide +kernel
theorem dL_fullAmount_9 : decode cL_fullAmount 9 = .ok (.lastore, 1) := by decide +kernel
theorem dL_fullAmount_10 : decode cL_fullAmount 10 = .ok (.goto 11, 3) := by decide +kernel
theorem dL_fullAmount_13 : decode cL_fullAmount 13 = .ok (.astore 4, 2) := by decide +kernel
theorem dL_fullAmount_15 : decode cL_fullAmount 15 = .ok (.iconst 1, 1) := by decide +kernel
theorem dL_fullAmount_16 : decode cL_fullAmount 16 = .ok (.ireturn, 1) := by decide +kernel
theorem dL_fullAmount_17 : decode cL_fullAmount 17 = .ok (.astore 4, 2) := by decide +kernel
theorem dL_fullAmount_19 : decode cL_fullAmount 19 = .ok (.iconst 2, 1) := by decide +kernel
theorem dL_fullAmount_20 : decode cL_fullAmount 20 = .ok (.ireturn, 1) := by decide +kernel
theorem dL_fullAmount_21 : decode cL_fullAmount 21 = .ok (.iconst 0, 1) := by decide +kernel
theorem dL_fullAmount_22 : decode cL_fullAmount 22 = .ok (.ireturn, 1) := by decide +kernel
set_option maxRecDepth 20000 in
theorem ggL_carry_X1_carry : GoodIn wsL_carry wsX1_carry := goodIn_ca (goodIn_ca (goodIn_r _ [7, 8, 9, 10, 6, 11, 12, 13, 14, 15, 16, 17, 18, 19, 20, 21, 22, 23, 24, 25, 26, 27, 28, 29, 30, 31, 32, 33, 34, 35, 36, 37, 38, 39, 40, 41, 42, 43, 44, 45, 46] (by decide +kernel) (by decide +kernel)) (goodIn_sub (fun _ h => List.mem_cons_of_mem _ (List.mem_append_left _ (List.mem_append_right _ h))) (by decide +kernel))) (goodIn_sub (fun _ h => List.mem_cons_of_mem _ (List.mem_append_right _ h)) (by decide +kernel))
set_option maxRecDepth 20000 in
theorem gL_carry_X1_carry : GoodIn wsL_carry (wsV RL 62 RX1 yX1_carry wsX1_carry) := goodIn_app (goodIn_of _ (by decide +kernel)) ggL_carry_X1_carry
theorem dL_carry_0 : decode cL_carry 0 = .ok (.aload_n 3, 1) := by decide +kernel
theorem dL_carry_1 : decode cL_carry 1 = .ok (.iconst 0, 1) := by decide +kernel
theorem dL_carry_2 : decode cL_carry 2 = .ok (.aload_n 0, 1) := by decide +kernel
theorem dL_carry_3 : decode cL_carry 3 = .ok (.iload_n 1, 1) := by decide +kernel
theorem dL_carry_4 : decode cL_carry 4 = .ok (.iload_n 2, 1) := by decide +kernel
theorem dL_carry_5 : decode cL_carry 5 = .ok (.invokevirtual 62, 3) := by decide +kernel
theorem dL_carry_8 : decode cL_carry 8 = .ok (.i2l, 1) := by decide +kernel
theorem dL_carry_9 : decode cL_carry 9 = .ok (.lastore, 1) := by decide +kernel
theorem dL_carry_10 : decode cL_carry 10 = .ok (.goto 11, 3) := by decide +kernel
theorem dL_carry_13 : decode cL_carry 13 = .ok (.astore 4, 2) := by decide +kernel
theorem dL_carry_15 : decode cL_carry 15 = .ok (.iconst 1, 1) := by decide +kernel
theorem dL_carry_16 : decode cL_carry 16 = .ok (.ireturn, 1) := by decide +kernel
theorem dL_carry_17 : decode cL_carry 17 = .ok (.astore 4, 2) := by decide +kernel
theorem dL_carry_19 : decode cL_carry 19 = .ok (.iconst 2, 1) := by decide +kernel
theorem dL_carry_20 : decode cL_carry 20 = .ok (.ireturn, 1) := by decide +kernel
theorem dL_carry_21 : decode cL_carry 21 = .ok (.iconst 0, 1) := by decide +kernel
theorem dL_carry_22 : decode cL_carry 22 = .ok (.ireturn, 1) := by decide +kernel
set_option maxRecDepth 20000 in
theorem ggL_entitled_X1_entitled : GoodIn wsL_entitled wsX1_entitled := goodIn_ca (goodIn_ca (goodIn_r _ [7, 8, 9, 10, 6, 11, 12, 13, 14, 15, 16, 17, 18, 19, 20, 21, 22, 23, 24, 25, 26, 27, 28, 29, 30, 31, 32, 33, 34, 35, 36, 37, 38, 39, 40, 41, 42, 43, 44, 45, 46, 47, 48, 49, 50, 51, 52, 53, 54, 55, 56, 57, 58, 59, 60, 61, 62, 63, 64, 65, 66, 67, 68, 69, 70, 71, 72, 73, 74, 75, 76, 77, 78, 79, 80, 81, 82, 83] (by decide +kernel) (by decide +kernel)) (goodIn_sub (fun _ h => List.mem_cons_of_mem _ (List.mem_append_left _ (List.mem_append_right _ h))) (by decide +kernel))) (goodIn_sub (fun _ h => List.mem_cons_of_mem _ (List.mem_append_right _ h)) (by decide +kernel))
set_option maxRecDepth 20000 in
theorem gL_entitled_X1_entitled : GoodIn wsL_entitled (wsV RL 65 RX1 yX1_entitled wsX1_entitled) := goodIn_app (goodIn_of _ (by decide +kernel)) ggL_entitled_X1_entitled
theorem dL_entitled_0 : decode cL_entitled 0 = .ok (.aload_n 3, 1) := by decide +kernel
theorem dL_entitled_1 : decode cL_entitled 1 = .ok (.iconst 0, 1) := by decide +kernel
theorem dL_entitled_2 : decode cL_entitled 2 = .ok (.aload_n 0, 1) := by decide +kernel
theorem dL_entitled_3 : decode cL_entitled 3 = .ok (.iload_n 1, 1) := by decide +kernel
theorem dL_entitled_4 : decode cL_entitled 4 = .ok (.iload_n 2, 1) := by decide +kernel
theorem dL_entitled_5 : decode cL_entitled 5 = .ok (.invokevirtual 65, 3) := by decide +kernel
theorem dL_entitled_8 : decode cL_entitled 8 = .ok (.lastore, 1) := by decide +kernel
theorem dL_entitled_9 : decode cL_entitled 9 = .ok (.goto 11, 3) := by decide +kernel
theorem dL_entitled_12 : decode cL_entitled 12 = .ok (.astore 4, 2) := by decide +kernel
theorem dL_entitled_14 : decode cL_entitled 14 = .ok (.iconst 1, 1) := by decide +kernel
theorem dL_entitled_15 : decode cL_entitled 15 = .ok (.ireturn, 1) := by decide +kernel
theorem dL_entitled_16 : decode cL_entitled 16 = .ok (.astore 4, 2) := by decide +kernel
theorem dL_entitled_18 : decode cL_entitled 18 = .ok (.iconst 2, 1) := by decide +kernel
theorem dL_entitled_19 : decode cL_entitled 19 = .ok (.ireturn, 1) := by decide +kernel
theorem dL_entitled_20 : decode cL_entitled 20 = .ok (.iconst 0, 1) := by decide +kernel
theorem dL_entitled_21 : decode cL_entitled 21 = .ok (.ireturn, 1) := by decide +kernel
set_option maxRecDepth 20000 in
theorem ggL_entitledUpTo_X1_entitledUpTo : GoodIn wsL_entitledUpTo wsX1_entitledUpTo := goodIn_ca (goodIn_ca (goodIn_r _ [7, 8, 9, 10, 6, 11, 12, 13, 14, 15, 16, 17, 18, 19, 20, 21, 22, 23, 24, 25, 26, 27, 28, 29, 30, 31, 32, 33, 34, 35, 36, 37, 38, 39, 40, 41, 42, 43, 44, 45, 46, 47, 48, 49, 50, 51, 52, 53, 54, 55, 56, 57, 58, 59, 60, 61, 62, 63, 64, 65, 66, 67, 68, 69, 70, 71, 72, 73, 74, 75, 76, 77, 78, 79, 80, 81, 82, 83] (by decide +kernel) (by decide +kernel)) (goodIn_sub (fun _ h => List.mem_cons_of_mem _ (List.mem_append_left _ (List.mem_append_right _ h))) (by decide +kernel))) (goodIn_sub (fun _ h => List.mem_cons_of_mem _ (List.mem_append_right _ h)) (by decide +kernel))
set_option maxRecDepth 20000 in
theorem gL_entitledUpTo_X1_entitledUpTo : GoodIn wsL_entitledUpTo (wsV RL 68 RX1 yX1_entitledUpTo wsX1_entitledUpTo) := goodIn_app (goodIn_of _ (by decide +kernel)) ggL_entitledUpTo_X1_entitledUpTo
theorem dL_entitledUpTo_0 : decode cL_entitledUpTo 0 = .ok (.aload_n 3, 1) := by decide +kernel
theorem dL_entitledUpTo_1 : decode cL_entitledUpTo 1 = .ok (.iconst 0, 1) := by decide +kernel
theorem dL_entitledUpTo_2 : decode cL_entitledUpTo 2 = .ok (.aload_n 0, 1) := by decide +kernel
theorem dL_entitledUpTo_3 : decode cL_entitledUpTo 3 = .ok (.iload_n 1, 1) := by decide +kernel
theorem dL_entitledUpTo_4 : decode cL_entitledUpTo 4 = .ok (.iload_n 2, 1) := by decide +kernel
theorem dL_entitledUpTo_5 : decode cL_entitledUpTo 5 = .ok (.invokevirtual 68, 3) := by decide +kernel
theorem dL_entitledUpTo_8 : decode cL_entitledUpTo 8 = .ok (.lastore, 1) := by decide +kernel
theorem dL_entitledUpTo_9 : decode cL_entitledUpTo 9 = .ok (.goto 11, 3) := by decide +kernel
theorem dL_entitledUpTo_12 : decode cL_entitledUpTo 12 = .ok (.astore 4, 2) := by decide +kernel
theorem dL_entitledUpTo_14 : decode cL_entitledUpTo 14 = .ok (.iconst 1, 1) := by decide +kernel
theorem dL_entitledUpTo_15 : decode cL_entitledUpTo 15 = .ok (.ireturn, 1) := by decide +kernel
theorem dL_entitledUpTo_16 : decode cL_entitledUpTo 16 = .ok (.astore 4, 2) := by decide +kernel
theorem dL_entitledUpTo_18 : decode cL_entitledUpTo 18 = .ok (.iconst 2, 1) := by decide +kernel
theorem dL_entitledUpTo_19 : decode cL_entitledUpTo 19 = .ok (.ireturn, 1) := by decide +kernel
theorem dL_entitledUpTo_20 : decode cL_entitledUpTo 20 = .ok (.iconst 0, 1) := by decide +kernel
theorem dL_entitledUpTo_21 : decode cL_entitledUpTo 21 = .ok (.ireturn, 1) := by decide +kernel
set_option maxRecDepth 20000 in
theorem ggL_protection_X1_protection : GoodIn wsL_protection wsX1_protection := goodIn_ca (goodIn_r _ [6, 7, 8, 9, 5, 10, 11, 12, 13, 14, 15, 16, 17, 18, 19, 20, 21, 22, 23, 24, 25, 26, 27, 28, 29, 30, 31, 32, 33, 34, 35, 36, 37, 38, 39, 40, 41, 42, 43, 44, 45, 46, 47, 48, 49, 50, 51, 52, 53, 54, 55, 56, 57, 58, 59, 60, 61, 62, 63, 64, 65, 66, 67, 68, 69, 70] (by decide +kernel) (by decide +kernel)) (goodIn_sub (fun _ h => List.mem_cons_of_mem _ (List.mem_append_right _ h)) (by decide +kernel))
set_option maxRecDepth 20000 in
theorem gL_protection_X1_protection : GoodIn wsL_protection (wsV RL 71 RX1 yX1_protection wsX1_protection) := goodIn_app (goodIn_of _ (by decide +kernel)) ggL_protection_X1_protection
theorem dL_protection_0 : decode cL_protection 0 = .ok (.aload_n 2, 1) := by decide +kernel
theorem dL_protection_1 : decode cL_protection 1 = .ok (.iconst 0, 1) := by decide +kernel
theorem dL_protection_2 : decode cL_protection 2 = .ok (.aload_n 0, 1) := by decide +kernel
theorem dL_protection_3 : decode cL_protection 3 = .ok (.iload_n 1, 1) := by decide +kernel
theorem dL_protection_4 : decode cL_protection 4 = .ok (.invokevirtual 71, 3) := by decide +kernel
theorem dL_protection_7 : decode cL_protection 7 = .ok (.lastore, 1) := by decide +kernel
theorem dL_protection_8 : decode cL_protection 8 = .ok (.goto 6, 3) := by decide +kernel
theorem dL_protection_11 : decode cL_protection 11 = .ok (.astore_n 3, 1) := by decide +kernel
theorem dL_protection_12 : decode cL_protection 12 = .ok (.iconst 1, 1) := by decide +kernel
theorem dL_protection_13 : decode cL_protection 13 = .ok (.ireturn, 1) := by decide +kernel
theorem dL_protection_14 : decode cL_protection 14 = .ok (.iconst 0, 1) := by decide +kernel
theorem dL_protection_15 : decode cL_protection 15 = .ok (.ireturn, 1) := by decide +kernel
set_option maxRecDepth 20000 in
theorem ggL_law_X1_init : GoodIn wsL_law wsX1_init := goodIn_r _ [9, 10, 11, 12, 13, 14, 15, 16, 17, 18, 408, 409, 410, 411] (by decide +kernel) (by decide +kernel)
set_option maxRecDepth 20000 in
theorem gL_law_X1_init : GoodIn wsL_law (wsX1_init) := ggL_law_X1_init
set_option maxRecDepth 20000 in
theorem ggL_law_X2_init : GoodIn wsL_law wsX2_init := goodIn_r _ [21, 22, 11, 12, 15, 23, 24, 25, 26, 27, 28, 29, 30, 31, 32, 6, 33, 34, 35, 36, 412, 413, 414, 415, 416, 417, 418, 419, 420, 421, 422, 423, 424, 425, 426, 427, 428, 429] (by decide +kernel) (by decide +kernel)
set_option maxRecDepth 20000 in
theorem gL_law_X2_init : GoodIn wsL_law (wsX2_init) := ggL_law_X2_init
set_option maxRecDepth 20000 in
theorem ggL_law_L_add : GoodIn wsL_law wsL_add := goodIn_ca (goodIn_ca (goodIn_r _ [40, 41, 42, 43, 44, 45, 2, 46, 47, 48, 18, 49, 17, 14, 13, 50, 51, 16, 52, 53, 54, 55, 56, 57, 58, 59, 60, 11, 12, 61, 62, 63, 64, 65, 66, 67, 68, 15, 69, 70, 71, 6, 72, 73, 74, 75, 76, 77, 78, 79, 80, 81, 82, 83, 84, 408, 409, 410, 411, 430, 431, 432, 433, 434, 435, 436, 437, 438, 439, 440, 441, 442] (by decide +kernel) (by decide +kernel)) (goodIn_sub (fun _ h => List.mem_append_left _ (List.mem_append_left _ (List.mem_append_right _ h))) (by decide +kernel))) (goodIn_sub (fun _ h => List.mem_append_left _ (List.mem_append_right _ h)) (by decide +kernel))
set_option maxRecDepth 20000 in
theorem gL_law_L_add : GoodIn wsL_law (va_wsS RL 78 yL_add wsL_add) := goodIn_app (goodIn_of _ (by decide +kernel)) ggL_law_L_add
set_option maxRecDepth 20000 in
theorem ggL_law_X2_add : GoodIn wsL_law wsX2_add := goodIn_r _ [88, 89, 90, 91, 23, 24, 25, 26, 32, 92, 93, 5, 94, 95, 96, 97, 98, 99, 412, 413, 414, 415, 416, 417, 418, 419, 420, 421, 422, 423, 424, 425, 426, 427, 428, 429] (by decide +kernel) (by decide +kernel)
set_option maxRecDepth 20000 in
theorem gL_law_X2_add : GoodIn wsL_law (wsV RL 83 RX2 yX2_add wsX2_add) := goodIn_app (goodIn_of _ (by decide +kernel)) ggL_law_X2_add
set_option maxRecDepth 20000 in
theorem ggL_law_X2_thrown : GoodIn wsL_law wsX2_thrown := goodIn_r _ [103, 99, 412, 413, 414, 415, 416, 417, 418, 419, 420, 421, 422, 423, 424, 425, 426, 427, 428, 429] (by decide +kernel) (by decide +kernel)
set_option maxRecDepth 20000 in
theorem gL_law_X2_thrown : GoodIn wsL_law (wsV RL 84 RX2 yX2_thrown wsX2_thrown) := goodIn_app (goodIn_of _ (by decide +kernel)) ggL_law_X2_thrown
set_option maxRecDepth 20000 in
theorem ggL_law_L_setSurvivor : GoodIn wsL_law wsL_setSurvivor := goodIn_ca (goodIn_ca (goodIn_ca (goodIn_r _ [106, 107, 41, 42, 108, 109, 110, 2, 111, 112, 113, 114, 115, 116, 117, 118, 119, 14, 52, 53, 54, 55, 56, 120, 121, 122, 123, 47, 48, 124, 18, 430, 431, 432, 433, 434, 435, 436, 437, 438, 439, 440, 441, 442, 408, 409, 410, 411] (by decide +kernel) (by decide +kernel)) (goodIn_sub (fun _ h => List.mem_append_right _ h) (by decide +kernel))) (goodIn_sub (fun _ h => List.mem_append_left _ (List.mem_append_right _ h)) (by decide +kernel))) (goodIn_sub (fun _ h => List.mem_append_left _ (List.mem_append_left _ (List.mem_append_right _ h))) (by decide +kernel))
set_option maxRecDepth 20000 in
theorem gL_law_L_setSurvivor : GoodIn wsL_law (va_wsS RL 88 yL_setSurvivor wsL_setSurvivor) := goodIn_app (goodIn_of _ (by decide +kernel)) ggL_law_L_setSurvivor
set_option maxRecDepth 20000 in
theorem ggL_law_X2_setSurvivor : GoodIn wsL_law wsX2_setSurvivor := goodIn_r _ [128, 26, 28, 129, 130, 131, 5, 132, 91, 92, 93, 94, 133, 134, 135, 136, 89, 23, 95, 96, 97, 98, 99, 412, 413, 414, 415, 416, 417, 418, 419, 420, 421, 422, 423, 424, 425, 426, 427, 428, 429] (by decide +kernel) (by decide +kernel)
set_option maxRecDepth 20000 in
theorem gL_law_X2_setSurvivor : GoodIn wsL_law (wsV RL 91 RX2 yX2_setSurvivor wsX2_setSurvivor) := goodIn_app (goodIn_of _ (by decide +kernel)) ggL_law_X2_setSurvivor
set_option maxRecDepth 20000 in
theorem ggL_law_L_setCap : GoodIn wsL_law wsL_setCap := goodIn_ca (goodIn_ca (goodIn_ca (goodIn_r _ [139, 107, 41, 42, 140, 141, 142, 2, 143, 144, 16, 114, 115, 116, 117, 118, 119, 14, 52, 53, 54, 55, 56, 120, 121, 122, 123, 47, 48, 124, 18, 74, 75, 76, 51, 77, 62, 70, 71, 61, 66, 78, 79, 80, 81, 82, 83, 84, 430, 431, 432, 433, 434, 435, 436, 437, 438, 439, 440, 441, 442, 408, 409, 410, 411] (by decide +kernel) (by decide +kernel)) (goodIn_sub (fun _ h => List.mem_append_right _ h) (by decide +kernel))) (goodIn_sub (fun _ h => List.mem_append_left _ (List.mem_append_right _ h)) (by decide +kernel))) (goodIn_sub (fun _ h => List.mem_append_left _ (List.mem_append_left _ (List.mem_append_right _ h))) (by decide +kernel))
set_option maxRecDepth 20000 in
theorem gL_law_L_setCap : GoodIn wsL_law (va_wsS RL 92 yL_setCap wsL_setCap) := goodIn_app (goodIn_of _ (by decide +kernel)) ggL_law_L_setCap
set_option maxRecDepth 20000 in
theorem ggL_law_X2_setCap : GoodIn wsL_law wsX2_setCap := goodIn_r _ [148, 29, 129, 130, 131, 5, 132, 91, 92, 93, 94, 133, 134, 135, 136, 89, 23, 95, 96, 97, 98, 99, 412, 413, 414, 415, 416, 417, 418, 419, 420, 421, 422, 423, 424, 425, 426, 427, 428, 429] (by decide +kernel) (by decide +kernel)
set_option maxRecDepth 20000 in
theorem gL_law_X2_setCap : GoodIn wsL_law (wsV RL 95 RX2 yX2_setCap wsX2_setCap) := goodIn_app (goodIn_of _ (by decide +kernel)) ggL_law_X2_setCap
set_option maxRecDepth 20000 in
theorem ggL_law_L_protect : GoodIn wsL_law wsL_protect := goodIn_ca (goodIn_ca (goodIn_ca (goodIn_r _ [151, 107, 41, 42, 152, 153, 154, 2, 155, 156, 157, 158, 114, 115, 116, 117, 118, 119, 14, 52, 53, 54, 55, 56, 120, 121, 122, 123, 47, 48, 124, 18, 430, 431, 432, 433, 434, 435, 436, 437, 438, 439, 440, 441, 442, 408, 409, 410, 411] (by decide +kernel) (by decide +kernel)) (goodIn_sub (fun _ h => List.mem_append_right _ h) (by decide +kernel))) (goodIn_sub (fun _ h => List.mem_append_left _ (List.mem_append_right _ h)) (by decide +kernel))) (goodIn_sub (fun _ h => List.mem_append_left _ (List.mem_append_left _ (List.mem_append_right _ h))) (by decide +kernel))
set_option maxRecDepth 20000 in
theorem gL_law_L_protect : GoodIn wsL_law (va_wsS RL 96 yL_protect wsL_protect) := goodIn_app (goodIn_of _ (by decide +kernel)) ggL_law_L_protect
set_option maxRecDepth 20000 in
theorem ggL_law_X2_protect : GoodIn wsL_law wsX2_protect := goodIn_r _ [162, 163, 30, 31, 129, 130, 131, 5, 132, 91, 92, 93, 94, 133, 134, 135, 136, 89, 23, 95, 96, 97, 98, 99, 412, 413, 414, 415, 416, 417, 418, 419, 420, 421, 422, 423, 424, 425, 426, 427, 428, 429] (by decide +kernel) (by decide +kernel)
set_option maxRecDepth 20000 in
theorem gL_law_X2_protect : GoodIn wsL_law (wsV RL 99 RX2 yX2_protect wsX2_protect) := goodIn_app (goodIn_of _ (by decide +kernel)) ggL_law_X2_protect
set_option maxRecDepth 20000 in
theorem ggL_law_L_setInflation : GoodIn wsL_law wsL_setInflation := goodIn_ca (goodIn_r _ [166, 41, 167, 168, 169, 2, 170, 16, 14, 52, 53, 54, 55, 56, 74, 75, 76, 51, 77, 62, 70, 71, 61, 66, 78, 79, 80, 81, 82, 83, 84, 408, 409, 410, 411, 430, 431, 432, 433, 434, 435, 436, 437, 438, 439, 440, 441, 442] (by decide +kernel) (by decide +kernel)) (goodIn_sub (fun _ h => List.mem_append_left _ (List.mem_append_right _ h)) (by decide +kernel))
set_option maxRecDepth 20000 in
theorem gL_law_L_setInflation : GoodIn wsL_law (va_wsS RL 100 yL_setInflation wsL_setInflation) := goodIn_app (goodIn_of _ (by decide +kernel)) ggL_law_L_setInflation
set_option maxRecDepth 20000 in
theorem ggL_law_X2_setInflation : GoodIn wsL_law wsX2_setInflation := goodIn_r _ [174, 36, 92, 93, 5, 94, 95, 96, 97, 98, 99, 412, 413, 414, 415, 416, 417, 418, 419, 420, 421, 422, 423, 424, 425, 426, 427, 428, 429] (by decide +kernel) (by decide +kernel)
set_option maxRecDepth 20000 in
theorem gL_law_X2_setInflation : GoodIn wsL_law (wsV RL 103 RX2 yX2_setInflation wsX2_setInflation) := goodIn_app (goodIn_of _ (by decide +kernel)) ggL_law_X2_setInflation
set_option maxRecDepth 20000 in
theorem ggL_law_L_die : GoodIn wsL_law wsL_die := goodIn_ca (goodIn_ca (goodIn_ca (goodIn_r _ [177, 107, 41, 42, 178, 179, 180, 2, 181, 47, 48, 18, 182, 79, 80, 81, 183, 114, 115, 116, 117, 118, 119, 14, 52, 53, 54, 55, 56, 408, 409, 410, 411, 430, 431, 432, 433, 434, 435, 436, 437, 438, 439, 440, 441, 442] (by decide +kernel) (by decide +kernel)) (goodIn_sub (fun _ h => List.mem_append_left _ (List.mem_append_left _ (List.mem_append_right _ h))) (by decide +kernel))) (goodIn_sub (fun _ h => List.mem_append_right _ h) (by decide +kernel))) (goodIn_sub (fun _ h => List.mem_append_left _ (List.mem_append_right _ h)) (by decide +kernel))
set_option maxRecDepth 20000 in
theorem gL_law_L_die : GoodIn wsL_law (va_wsS RL 104 yL_die wsL_die) := goodIn_app (goodIn_of _ (by decide +kernel)) ggL_law_L_die
set_option maxRecDepth 20000 in
theorem ggL_law_X2_die : GoodIn wsL_law wsX2_die := goodIn_r _ [187, 89, 32, 129, 130, 131, 5, 132, 91, 188, 189, 190, 92, 93, 94, 95, 96, 97, 98, 99, 412, 413, 414, 415, 416, 417, 418, 419, 420, 421, 422, 423, 424, 425, 426, 427, 428, 429] (by decide +kernel) (by decide +kernel)
set_option maxRecDepth 20000 in
theorem gL_law_X2_die : GoodIn wsL_law (wsV RL 106 RX2 yX2_die wsX2_die) := goodIn_app (goodIn_of _ (by decide +kernel)) ggL_law_X2_die
set_option maxRecDepth 20000 in
theorem ggL_law_L_takeBack : GoodIn wsL_law wsL_takeBack := goodIn_ca (goodIn_ca (goodIn_ca (goodIn_r _ [193, 107, 41, 42, 194, 195, 196, 2, 197, 47, 48, 183, 114, 115, 116, 117, 118, 119, 14, 52, 53, 54, 55, 56, 430, 431, 432, 433, 434, 435, 436, 437, 438, 439, 440, 441, 442, 408, 409, 410, 411] (by decide +kernel) (by decide +kernel)) (goodIn_sub (fun _ h => List.mem_append_left _ (List.mem_append_left _ (List.mem_append_right _ h))) (by decide +kernel))) (goodIn_sub (fun _ h => List.mem_append_right _ h) (by decide +kernel))) (goodIn_sub (fun _ h => List.mem_append_left _ (List.mem_append_right _ h)) (by decide +kernel))
set_option maxRecDepth 20000 in
theorem gL_law_L_takeBack : GoodIn wsL_law (va_wsS RL 107 yL_takeBack wsL_takeBack) := goodIn_app (goodIn_of _ (by decide +kernel)) ggL_law_L_takeBack
set_option maxRecDepth 20000 in
theorem ggL_law_X2_takeBack : GoodIn wsL_law wsX2_takeBack := goodIn_r _ [201, 32, 129, 130, 131, 5, 132, 91, 188, 189, 190, 95, 96, 97, 98, 99, 412, 413, 414, 415, 416, 417, 418, 419, 420, 421, 422, 423, 424, 425, 426, 427, 428, 429] (by decide +kernel) (by decide +kernel)
set_option maxRecDepth 20000 in
theorem gL_law_X2_takeBack : GoodIn wsL_law (wsV RL 109 RX2 yX2_takeBack wsX2_takeBack) := goodIn_app (goodIn_of _ (by decide +kernel)) ggL_law_X2_takeBack
set_option maxRecDepth 20000 in
theorem ggL_law_L_run : GoodIn wsL_law wsL_run := goodIn_ca (goodIn_r _ [204, 42, 205, 206, 207, 2, 208, 47, 48, 18, 14, 209, 210, 211, 51, 212, 73, 213, 214, 80, 215, 72, 216, 217, 218, 219, 220, 221, 222, 223, 61, 224, 225, 226, 227, 69, 63, 65, 64, 228, 229, 230, 231, 232, 70, 233, 234, 235, 236, 82, 83, 84, 78, 79, 81, 237, 238, 239, 240, 67, 68, 408, 409, 410, 411, 430, 431, 432, 433, 434, 435, 436, 437, 438, 439, 440, 441, 442] (by decide +kernel) (by decide +kernel)) (goodIn_sub (fun _ h => List.mem_append_left _ (List.mem_append_left _ (List.mem_append_right _ h))) (by decide +kernel))
set_option maxRecDepth 20000 in
theorem gL_law_L_run : GoodIn wsL_law (va_wsS RL 110 yL_run wsL_run) := goodIn_app (goodIn_of _ (by decide +kernel)) ggL_law_L_run
set_option maxRecDepth 20000 in
theorem ggL_law_X2_run : GoodIn wsL_law wsX2_run := goodIn_r _ [244, 89, 91, 33, 34, 35, 95, 96, 97, 5, 98, 99, 245, 246, 247, 248, 23, 30, 31, 249, 250, 251, 252, 32, 25, 253, 254, 255, 256, 24, 257, 258, 259, 260, 261, 262, 36, 29, 263, 264, 265, 266, 28, 26, 267, 268, 269, 270, 412, 413, 414, 415, 416, 417, 418, 419, 420, 421, 422, 423, 424, 425, 426, 427, 428, 429] (by decide +kernel) (by decide +kernel)
set_option maxRecDepth 20000 in
theorem gL_law_X2_run : GoodIn wsL_law (wsV RL 113 RX2 yX2_run wsX2_run) := goodIn_app (goodIn_of _ (by decide +kernel)) ggL_law_X2_run
set_option maxRecDepth 20000 in
theorem ggL_law_X1_month : GoodIn wsL_law wsX1_month := goodIn_r _ [274, 18, 408, 409, 410, 411] (by decide +kernel) (by decide +kernel)
set_option maxRecDepth 20000 in
theorem gL_law_X1_month : GoodIn wsL_law (wsV RL 114 RX1 yX1_month wsX1_month) := goodIn_app (goodIn_of _ (by decide +kernel)) ggL_law_X1_month
set_option maxRecDepth 20000 in
theorem ggL_law_X2_month : GoodIn wsL_law wsX2_month := goodIn_r _ [278, 99, 89, 412, 413, 414, 415, 416, 417, 418, 419, 420, 421, 422, 423, 424, 425, 426, 427, 428, 429] (by decide +kernel) (by decide +kernel)
set_option maxRecDepth 20000 in
theorem gL_law_X2_month : GoodIn wsL_law (wsV RL 117 RX2 yX2_month wsX2_month) := goodIn_app (goodIn_of _ (by decide +kernel)) ggL_law_X2_month
set_option maxRecDepth 20000 in
theorem ggL_law_L_giveBack : GoodIn wsL_law wsL_giveBack := goodIn_ca (goodIn_ca (goodIn_ca (goodIn_r _ [281, 107, 41, 42, 282, 283, 284, 2, 285, 47, 48, 286, 18, 287, 114, 115, 116, 117, 118, 119, 14, 52, 53, 54, 55, 56, 288, 289, 290, 51, 291, 73, 213, 214, 80, 215, 216, 217, 218, 219, 220, 221, 222, 223, 61, 224, 225, 226, 227, 69, 63, 65, 64, 228, 229, 230, 231, 232, 70, 233, 234, 235, 236, 82, 83, 84, 78, 79, 81, 237, 238, 239, 240, 67, 68, 408, 409, 410, 411, 430, 431, 432, 433, 434, 435, 436, 437, 438, 439, 440, 441, 442] (by decide +kernel) (by decide +kernel)) (goodIn_sub (fun _ h => List.mem_append_left _ (List.mem_append_left _ (List.mem_append_right _ h))) (by decide +kernel))) (goodIn_sub (fun _ h => List.mem_append_right _ h) (by decide +kernel))) (goodIn_sub (fun _ h => List.mem_append_left _ (List.mem_append_right _ h)) (by decide +kernel))
set_option maxRecDepth 20000 in
theorem gL_law_L_giveBack : GoodIn wsL_law (va_wsS RL 118 yL_giveBack wsL_giveBack) := goodIn_app (goodIn_of _ (by decide +kernel)) ggL_law_L_giveBack
set_option maxRecDepth 20000 in
theorem ggL_law_X2_giveBack : GoodIn wsL_law wsX2_giveBack := goodIn_r _ [295, 296, 34, 129, 130, 131, 5, 132, 91, 92, 93, 94, 297, 298, 299, 300, 33, 89, 245, 246, 247, 248, 23, 30, 31, 249, 250, 251, 252, 32, 25, 253, 254, 255, 256, 24, 257, 258, 259, 260, 261, 262, 36, 29, 263, 264, 265, 266, 28, 26, 267, 268, 269, 270, 95, 96, 97, 98, 99, 412, 413, 414, 415, 416, 417, 418, 419, 420, 421, 422, 423, 424, 425, 426, 427, 428, 429] (by decide +kernel) (by decide +kernel)
set_option maxRecDepth 20000 in
theorem gL_law_X2_giveBack : GoodIn wsL_law (wsV RL 120 RX2 yX2_giveBack wsX2_giveBack) := goodIn_app (goodIn_of _ (by decide +kernel)) ggL_law_X2_giveBack
set_option maxRecDepth 20000 in
theorem ggL_law_L_paid : GoodIn wsL_law wsL_paid := goodIn_ca (goodIn_ca (goodIn_r _ [303, 107, 41, 304, 305, 306, 2, 307, 18, 308, 114, 115, 116, 117, 118, 119, 14, 52, 53, 54, 55, 56, 408, 409, 410, 411, 430, 431, 432, 433, 434, 435, 436, 437, 438, 439, 440, 441, 442] (by decide +kernel) (by decide +kernel)) (goodIn_sub (fun _ h => List.mem_append_right _ h) (by decide +kernel))) (goodIn_sub (fun _ h => List.mem_append_left _ (List.mem_append_right _ h)) (by decide +kernel))
set_option maxRecDepth 20000 in
theorem gL_law_L_paid : GoodIn wsL_law (va_wsS RL 121 yL_paid wsL_paid) := goodIn_app (goodIn_of _ (by decide +kernel)) ggL_law_L_paid
set_option maxRecDepth 20000 in
theorem ggL_law_X2_paid : GoodIn wsL_law wsX2_paid := goodIn_r _ [312, 89, 35, 129, 130, 131, 5, 132, 91, 92, 93, 94, 95, 96, 97, 98, 99, 412, 413, 414, 415, 416, 417, 418, 419, 420, 421, 422, 423, 424, 425, 426, 427, 428, 429] (by decide +kernel) (by decide +kernel)
set_option maxRecDepth 20000 in
theorem gL_law_X2_paid : GoodIn wsL_law (wsV RL 123 RX2 yX2_paid wsX2_paid) := goodIn_app (goodIn_of _ (by decide +kernel)) ggL_law_X2_paid
set_option maxRecDepth 20000 in
theorem ggL_law_L_paidInAll : GoodIn wsL_law wsL_paidInAll := goodIn_ca (goodIn_r _ [315, 107, 316, 317, 318, 2, 319, 287, 114, 115, 116, 117, 118, 119, 14, 430, 431, 432, 433, 434, 435, 436, 437, 438, 439, 440, 441, 442, 408, 409, 410, 411] (by decide +kernel) (by decide +kernel)) (goodIn_sub (fun _ h => List.mem_append_right _ h) (by decide +kernel))
set_option maxRecDepth 20000 in
theorem gL_law_L_paidInAll : GoodIn wsL_law (va_wsS RL 124 yL_paidInAll wsL_paidInAll) := goodIn_app (goodIn_of _ (by decide +kernel)) ggL_law_L_paidInAll
set_option maxRecDepth 20000 in
theorem ggL_law_X2_paidInAll : GoodIn wsL_law wsX2_paidInAll := goodIn_r _ [323, 33, 34, 129, 130, 131, 5, 132, 91, 95, 96, 97, 98, 99, 412, 413, 414, 415, 416, 417, 418, 419, 420, 421, 422, 423, 424, 425, 426, 427, 428, 429] (by decide +kernel) (by decide +kernel)
set_option maxRecDepth 20000 in
theorem gL_law_X2_paidInAll : GoodIn wsL_law (wsV RL 127 RX2 yX2_paidInAll wsX2_paidInAll) := goodIn_app (goodIn_of _ (by decide +kernel)) ggL_law_X2_paidInAll
set_option maxRecDepth 20000 in
theorem ggL_law_L_owes : GoodIn wsL_law wsL_owes := goodIn_ca (goodIn_r _ [326, 107, 327, 328, 329, 2, 330, 18, 114, 115, 116, 117, 118, 119, 14, 288, 289, 290, 51, 291, 73, 213, 214, 80, 215, 216, 217, 218, 219, 220, 221, 222, 223, 61, 224, 225, 226, 227, 69, 63, 65, 64, 228, 229, 230, 231, 232, 70, 233, 234, 235, 236, 82, 83, 84, 78, 79, 81, 237, 238, 239, 240, 67, 68, 408, 409, 410, 411, 430, 431, 432, 433, 434, 435, 436, 437, 438, 439, 440, 441, 442] (by decide +kernel) (by decide +kernel)) (goodIn_sub (fun _ h => List.mem_append_right _ h) (by decide +kernel))
set_option maxRecDepth 20000 in
theorem gL_law_L_owes : GoodIn wsL_law (va_wsS RL 128 yL_owes wsL_owes) := goodIn_app (goodIn_of _ (by decide +kernel)) ggL_law_L_owes
set_option maxRecDepth 20000 in
theorem ggL_law_X2_owes : GoodIn wsL_law wsX2_owes := goodIn_r _ [334, 129, 130, 131, 5, 132, 91, 95, 96, 97, 98, 99, 297, 298, 299, 300, 33, 34, 89, 245, 246, 247, 248, 23, 30, 31, 249, 250, 251, 252, 32, 25, 253, 254, 255, 256, 24, 257, 258, 259, 260, 261, 262, 36, 29, 263, 264, 265, 266, 28, 26, 267, 268, 269, 270, 412, 413, 414, 415, 416, 417, 418, 419, 420, 421, 422, 423, 424, 425, 426, 427, 428, 429] (by decide +kernel) (by decide +kernel)
set_option maxRecDepth 20000 in
theorem gL_law_X2_owes : GoodIn wsL_law (wsV RL 130 RX2 yX2_owes wsX2_owes) := goodIn_app (goodIn_of _ (by decide +kernel)) ggL_law_X2_owes
set_option maxRecDepth 20000 in
theorem ggL_law_L_fullAmount : GoodIn wsL_law wsL_fullAmount := goodIn_ca (goodIn_ca (goodIn_r _ [337, 107, 41, 338, 339, 340, 2, 341, 114, 115, 116, 117, 118, 119, 14, 342, 343, 344, 52, 53, 54, 55, 56, 345, 230, 231, 51, 232, 61, 70, 408, 409, 410, 411, 430, 431, 432, 433, 434, 435, 436, 437, 438, 439, 440, 441, 442] (by decide +kernel) (by decide +kernel)) (goodIn_sub (fun _ h => List.mem_append_right _ h) (by decide +kernel))) (goodIn_sub (fun _ h => List.mem_append_left _ (List.mem_append_right _ h)) (by decide +kernel))
set_option maxRecDepth 20000 in
theorem gL_law_L_fullAmount : GoodIn wsL_law (va_wsS RL 131 yL_fullAmount wsL_fullAmount) := goodIn_app (goodIn_of _ (by decide +kernel)) ggL_law_L_fullAmount
set_option maxRecDepth 20000 in
theorem ggL_law_X2_fullAmount : GoodIn wsL_law wsX2_fullAmount := goodIn_r _ [349, 257, 129, 130, 131, 5, 132, 91, 92, 93, 94, 95, 96, 97, 98, 99, 350, 351, 352, 353, 23, 253, 254, 255, 256, 24, 258, 259, 260, 261, 262, 36, 29, 412, 413, 414, 415, 416, 417, 418, 419, 420, 421, 422, 423, 424, 425, 426, 427, 428, 429] (by decide +kernel) (by decide +kernel)
set_option maxRecDepth 20000 in
theorem gL_law_X2_fullAmount : GoodIn wsL_law (wsV RL 133 RX2 yX2_fullAmount wsX2_fullAmount) := goodIn_app (goodIn_of _ (by decide +kernel)) ggL_law_X2_fullAmount
set_option maxRecDepth 20000 in
theorem ggL_law_L_carry : GoodIn wsL_law wsL_carry := goodIn_ca (goodIn_ca (goodIn_r _ [356, 107, 41, 357, 358, 359, 2, 360, 114, 115, 116, 117, 118, 119, 14, 342, 343, 344, 52, 53, 54, 55, 56, 361, 362, 363, 51, 364, 61, 71, 408, 409, 410, 411, 430, 431, 432, 433, 434, 435, 436, 437, 438, 439, 440, 441, 442] (by decide +kernel) (by decide +kernel)) (goodIn_sub (fun _ h => List.mem_append_right _ h) (by decide +kernel))) (goodIn_sub (fun _ h => List.mem_append_left _ (List.mem_append_right _ h)) (by decide +kernel))
set_option maxRecDepth 20000 in
theorem gL_law_L_carry : GoodIn wsL_law (va_wsS RL 134 yL_carry wsL_carry) := goodIn_app (goodIn_of _ (by decide +kernel)) ggL_law_L_carry
set_option maxRecDepth 20000 in
theorem ggL_law_X2_carry : GoodIn wsL_law wsX2_carry := goodIn_r _ [368, 258, 129, 130, 131, 5, 132, 91, 92, 93, 94, 95, 96, 97, 98, 99, 350, 351, 352, 353, 23, 253, 254, 255, 256, 24, 257, 259, 260, 261, 262, 36, 29, 412, 413, 414, 415, 416, 417, 418, 419, 420, 421, 422, 423, 424, 425, 426, 427, 428, 429] (by decide +kernel) (by decide +kernel)
set_option maxRecDepth 20000 in
theorem gL_law_X2_carry : GoodIn wsL_law (wsV RL 136 RX2 yX2_carry wsX2_carry) := goodIn_app (goodIn_of _ (by decide +kernel)) ggL_law_X2_carry
set_option maxRecDepth 20000 in
theorem ggL_law_L_entitled : GoodIn wsL_law wsL_entitled := goodIn_ca (goodIn_ca (goodIn_r _ [371, 107, 41, 372, 373, 374, 2, 375, 114, 115, 116, 117, 118, 119, 14, 342, 343, 344, 52, 53, 54, 55, 56, 376, 377, 378, 51, 379, 224, 225, 226, 227, 61, 69, 63, 65, 64, 228, 229, 230, 231, 232, 70, 233, 234, 235, 236, 82, 83, 80, 84, 78, 79, 81, 237, 238, 239, 240, 67, 68, 213, 214, 215, 220, 221, 222, 223, 408, 409, 410, 411, 430, 431, 432, 433, 434, 435, 436, 437, 438, 439, 440, 441, 442] (by decide +kernel) (by decide +kernel)) (goodIn_sub (fun _ h => List.mem_append_right _ h) (by decide +kernel))) (goodIn_sub (fun _ h => List.mem_append_left _ (List.mem_append_right _ h)) (by decide +kernel))
set_option maxRecDepth 20000 in
theorem gL_law_L_entitled : GoodIn wsL_law (va_wsS RL 137 yL_entitled wsL_entitled) := goodIn_app (goodIn_of _ (by decide +kernel)) ggL_law_L_entitled
set_option maxRecDepth 20000 in
theorem ggL_law_X2_entitled : GoodIn wsL_law wsX2_entitled := goodIn_r _ [383, 129, 130, 131, 5, 132, 91, 92, 93, 94, 95, 96, 97, 98, 99, 245, 246, 247, 248, 23, 30, 31, 249, 250, 251, 252, 32, 25, 253, 254, 255, 256, 24, 257, 258, 259, 260, 261, 262, 36, 29, 263, 264, 265, 266, 28, 26, 267, 268, 269, 270, 412, 413, 414, 415, 416, 417, 418, 419, 420, 421, 422, 423, 424, 425, 426, 427, 428, 429] (by decide +kernel) (by decide +kernel)
set_option maxRecDepth 20000 in
theorem gL_law_X2_entitled : GoodIn wsL_law (wsV RL 139 RX2 yX2_entitled wsX2_entitled) := goodIn_app (goodIn_of _ (by decide +kernel)) ggL_law_X2_entitled
set_option maxRecDepth 20000 in
theorem ggL_law_L_entitledUpTo : GoodIn wsL_law wsL_entitledUpTo := goodIn_ca (goodIn_ca (goodIn_r _ [386, 107, 41, 387, 388, 389, 2, 390, 114, 115, 116, 117, 118, 119, 14, 342, 343, 344, 52, 53, 54, 55, 56, 391, 217, 218, 51, 219, 220, 221, 222, 223, 61, 224, 225, 226, 227, 69, 63, 65, 64, 228, 229, 230, 231, 232, 70, 233, 234, 235, 236, 82, 83, 80, 84, 78, 79, 81, 237, 238, 239, 240, 67, 68, 213, 214, 215, 408, 409, 410, 411, 430, 431, 432, 433, 434, 435, 436, 437, 438, 439, 440, 441, 442] (by decide +kernel) (by decide +kernel)) (goodIn_sub (fun _ h => List.mem_append_right _ h) (by decide +kernel))) (goodIn_sub (fun _ h => List.mem_append_left _ (List.mem_append_right _ h)) (by decide +kernel))
set_option maxRecDepth 20000 in
theorem gL_law_L_entitledUpTo : GoodIn wsL_law (va_wsS RL 140 yL_entitledUpTo wsL_entitledUpTo) := goodIn_app (goodIn_of _ (by decide +kernel)) ggL_law_L_entitledUpTo
set_option maxRecDepth 20000 in
theorem ggL_law_X2_entitledUpTo : GoodIn wsL_law wsX2_entitledUpTo := goodIn_r _ [395, 129, 130, 131, 5, 132, 91, 92, 93, 94, 95, 96, 97, 98, 99, 245, 246, 247, 248, 23, 30, 31, 249, 250, 251, 252, 32, 25, 253, 254, 255, 256, 24, 257, 258, 259, 260, 261, 262, 36, 29, 263, 264, 265, 266, 28, 26, 267, 268, 269, 270, 412, 413, 414, 415, 416, 417, 418, 419, 420, 421, 422, 423, 424, 425, 426, 427, 428, 429] (by decide +kernel) (by decide +kernel)
set_option maxRecDepth 20000 in
theorem gL_law_X2_entitledUpTo : GoodIn wsL_law (wsV RL 142 RX2 yX2_entitledUpTo wsX2_entitledUpTo) := goodIn_app (goodIn_of _ (by decide +kernel)) ggL_law_X2_entitledUpTo
set_option maxRecDepth 20000 in
theorem ggL_law_L_protection : GoodIn wsL_law wsL_protection := goodIn_ca (goodIn_r _ [398, 107, 399, 400, 401, 2, 402, 114, 115, 116, 117, 118, 119, 14, 403, 238, 239, 51, 240, 67, 68, 228, 213, 214, 80, 215, 233, 234, 235, 236, 69, 82, 83, 84, 63, 78, 79, 81, 220, 221, 222, 223, 61, 224, 225, 226, 227, 65, 64, 229, 230, 231, 232, 70, 408, 409, 410, 411, 430, 431, 432, 433, 434, 435, 436, 437, 438, 439, 440, 441, 442] (by decide +kernel) (by decide +kernel)) (goodIn_sub (fun _ h => List.mem_append_right _ h) (by decide +kernel))
set_option maxRecDepth 20000 in
theorem gL_law_L_protection : GoodIn wsL_law (va_wsS RL 143 yL_protection wsL_protection) := goodIn_app (goodIn_of _ (by decide +kernel)) ggL_law_L_protection
set_option maxRecDepth 20000 in
theorem ggL_law_X2_protection : GoodIn wsL_law wsX2_protection := goodIn_r _ [407, 30, 31, 129, 130, 131, 5, 132, 91, 95, 96, 97, 98, 99, 249, 250, 251, 252, 32, 23, 25, 245, 246, 247, 248, 253, 254, 255, 256, 24, 257, 258, 259, 260, 261, 262, 36, 29, 263, 264, 265, 266, 28, 26, 267, 268, 269, 270, 412, 413, 414, 415, 416, 417, 418, 419, 420, 421, 422, 423, 424, 425, 426, 427, 428, 429] (by decide +kernel) (by decide +kernel)
set_option maxRecDepth 20000 in
theorem gL_law_X2_protection : GoodIn wsL_law (wsV RL 145 RX2 yX2_protection wsX2_protection) := goodIn_app (goodIn_of _ (by decide +kernel)) ggL_law_X2_protection
theorem dL_law_0 : decode cL_law 0 = .ok (.new 8, 3) := by decide +kernel
theorem dL_law_3 : decode cL_law 3 = .ok (.dup, 1) := by decide +kernel
theorem dL_law_4 : decode cL_law 4 = .ok (.invokespecial 74, 3) := by decide +kernel
theorem dL_law_7 : decode cL_law 7 = .ok (.astore_n 1, 1) := by decide +kernel
theorem dL_law_8 : decode cL_law 8 = .ok (.new 75, 3) := by decide +kernel
theorem dL_law_11 : decode cL_law 11 = .ok (.dup, 1) := by decide +kernel
theorem dL_law_12 : decode cL_law 12 = .ok (.invokespecial 77, 3) := by decide +kernel
theorem dL_law_15 : decode cL_law 15 = .ok (.astore_n 2, 1) := by decide +kernel
theorem dL_law_16 : decode cL_law 16 = .ok (.iconst 1, 1) := by decide +kernel
theorem dL_law_17 : decode cL_law 17 = .ok (.newarray .long, 2) := by decide +kernel
theorem dL_law_19 : decode cL_law 19 = .ok (.astore_n 3, 1) := by decide +kernel
theorem dL_law_20 : decode cL_law 20 = .ok (.iconst 0, 1) := by decide +kernel
theorem dL_law_21 : decode cL_law 21 = .ok (.istore 4, 2) := by decide +kernel
theorem dL_law_23 : decode cL_law 23 = .ok (.iload 4, 2) := by decide +kernel
theorem dL_law_25 : decode cL_law 25 = .ok (.aload_n 0, 1) := by decide +kernel
theorem dL_law_26 : decode cL_law 26 = .ok (.arraylength, 1) := by decide +kernel
theorem dL_law_27 : decode cL_law 27 = .ok (.iconst 4, 1) := by decide +kernel
theorem dL_law_28 : decode cL_law 28 = .ok (.isub, 1) := by decide +kernel
theorem dL_law_29 : decode cL_law 29 = .ok (.if_icmp .gt 1186, 3) := by decide +kernel
theorem dL_law_32 : decode cL_law 32 = .ok (.aload_n 0, 1) := by decide +kernel
theorem dL_law_33 : decode cL_law 33 = .ok (.iload 4, 2) := by decide +kernel
theorem dL_law_35 : decode cL_law 35 = .ok (.iaload, 1) := by decide +kernel
theorem dL_law_36 : decode cL_law 36 = .ok (.bipush 31, 2) := by decide +kernel
theorem dL_law_38 : decode cL_law 38 = .ok (.iand, 1) := by decide +kernel
theorem dL_law_39 : decode cL_law 39 = .ok (.tableswitch 1170 0 17 #[85, 165, 241, 289, 349, 417, 477, 545, 588, 601, 668, 735, 790, 845, 913, 981, 1048, 1115], 85) := by decide +kernel
theorem dL_law_124 : decode cL_law 124 = .ok (.aload_n 1, 1) := by decide +kernel
theorem dL_law_125 : decode cL_law 125 = .ok (.aload_n 0, 1) := by decide +kernel
theorem dL_law_126 : decode cL_law 126 = .ok (.iload 4, 2) := by decide +kernel
theorem dL_law_128 : decode cL_law 128 = .ok (.iconst 1, 1) := by decide +kernel
theorem dL_law_129 : decode cL_law 129 = .ok (.iadd, 1) := by decide +kernel
theorem dL_law_130 : decode cL_law 130 = .ok (.iaload, 1) := by decide +kernel
theorem dL_law_131 : decode cL_law 131 = .ok (.aload_n 0, 1) := by decide +kernel
theorem dL_law_132 : decode cL_law 132 = .ok (.iload 4, 2) := by decide +kernel
theorem dL_law_134 : decode cL_law 134 = .ok (.iconst 2, 1) := by decide +kernel
theorem dL_law_135 : decode cL_law 135 = .ok (.iadd, 1) := by decide +kernel
theorem dL_law_136 : decode cL_law 136 = .ok (.iaload, 1) := by decide +kernel
theorem dL_law_137 : decode cL_law 137 = .ok (.aload_n 0, 1) := by decide +kernel
theorem dL_law_138 : decode cL_law 138 = .ok (.iload 4, 2) := by decide +kernel
theorem dL_law_140 : decode cL_law 140 = .ok (.iconst 3, 1) := by decide +kernel
theorem dL_law_141 : decode cL_law 141 = .ok (.iadd, 1) := by decide +kernel
theorem dL_law_142 : decode cL_law 142 = .ok (.iaload, 1) := by decide +kernel
theorem dL_law_143 : decode cL_law 143 = .ok (.aload_n 3, 1) := by decide +kernel
theorem dL_law_144 : decode cL_law 144 = .ok (.invokestatic 78, 3) := by decide +kernel
theorem dL_law_147 : decode cL_law 147 = .ok (.istore 5, 2) := by decide +kernel
theorem dL_law_149 : decode cL_law 149 = .ok (.aload_n 2, 1) := by decide +kernel
theorem dL_law_150 : decode cL_law 150 = .ok (.aload_n 0, 1) := by decide +kernel
theorem dL_law_151 : decode cL_law 151 = .ok (.iload 4, 2) := by decide +kernel
theorem dL_law_153 : decode cL_law 153 = .ok (.iconst 1, 1) := by decide +kernel
theorem dL_law_154 : decode cL_law 154 = .ok (.iadd, 1) := by decide +kernel
theorem dL_law_155 : decode cL_law 155 = .ok (.iaload, 1) := by decide +kernel
theorem dL_law_156 : decode cL_law 156 = .ok (.aload_n 0, 1) := by decide +kernel
theorem dL_law_157 : decode cL_law 157 = .ok (.iload 4, 2) := by decide +kernel
theorem dL_law_159 : decode cL_law 159 = .ok (.iconst 2, 1) := by decide +kernel
theorem dL_law_160 : decode cL_law 160 = .ok (.iadd, 1) := by decide +kernel
theorem dL_law_161 : decode cL_law 161 = .ok (.iaload, 1) := by decide +kernel
theorem dL_law_162 : decode cL_law 162 = .ok (.aload_n 0, 1) := by decide +kernel
theorem dL_law_163 : decode cL_law 163 = .ok (.iload 4, 2) := by decide +kernel
theorem dL_law_165 : decode cL_law 165 = .ok (.iconst 3, 1) := by decide +kernel
theorem dL_law_166 : decode cL_law 166 = .ok (.iadd, 1) := by decide +kernel
theorem dL_law_167 : decode cL_law 167 = .ok (.iaload, 1) := by decide +kernel
theorem dL_law_168 : decode cL_law 168 = .ok (.invokevirtual 83, 3) := by decide +kernel
theorem dL_law_171 : decode cL_law 171 = .ok (.istore 6, 2) := by decide +kernel
theorem dL_law_173 : decode cL_law 173 = .ok (.aload_n 2, 1) := by decide +kernel
theorem dL_law_174 : decode cL_law 174 = .ok (.invokevirtual 84, 3) := by decide +kernel
theorem dL_law_177 : decode cL_law 177 = .ok (.iload 5, 2) := by decide +kernel
theorem dL_law_179 : decode cL_law 179 = .ok (.if_icmp .eq 5, 3) := by decide +kernel
theorem dL_law_182 : decode cL_law 182 = .ok (.iconst 0, 1) := by decide +kernel
theorem dL_law_183 : decode cL_law 183 = .ok (.ireturn, 1) := by decide +kernel
theorem dL_law_184 : decode cL_law 184 = .ok (.iload 5, 2) := by decide +kernel
theorem dL_law_186 : decode cL_law 186 = .ok (.ifCond .ne 15, 3) := by decide +kernel
theorem dL_law_189 : decode cL_law 189 = .ok (.aload_n 3, 1) := by decide +kernel
theorem dL_law_190 : decode cL_law 190 = .ok (.iconst 0, 1) := by decide +kernel
theorem dL_law_191 : decode cL_law 191 = .ok (.laload, 1) := by decide +kernel
theorem dL_law_192 : decode cL_law 192 = .ok (.iload 6, 2) := by decide +kernel
theorem dL_law_194 : decode cL_law 194 = .ok (.i2l, 1) := by decide +kernel
theorem dL_law_195 : decode cL_law 195 = .ok (.lcmp, 1) := by decide +kernel
theorem dL_law_196 : decode cL_law 196 = .ok (.ifCond .eq 5, 3) := by decide +kernel
theorem dL_law_199 : decode cL_law 199 = .ok (.iconst 0, 1) := by decide +kernel
theorem dL_law_200 : decode cL_law 200 = .ok (.ireturn, 1) := by decide +kernel
theorem dL_law_201 : decode cL_law 201 = .ok (.goto 1008, 3) := by decide +kernel
theorem dL_law_204 : decode cL_law 204 = .ok (.aload_n 1, 1) := by decide +kernel
theorem dL_law_205 : decode cL_law 205 = .ok (.aload_n 0, 1) := by decide +kernel
theorem dL_law_206 : decode cL_law 206 = .ok (.iload 4, 2) := by decide +kernel
theorem dL_law_208 : decode cL_law 208 = .ok (.iconst 1, 1) := by decide +kernel
theorem dL_law_209 : decode cL_law 209 = .ok (.iadd, 1) := by decide +kernel
theorem dL_law_210 : decode cL_law 210 = .ok (.iaload, 1) := by decide +kernel
theorem dL_law_211 : decode cL_law 211 = .ok (.aload_n 0, 1) := by decide +kernel
theorem dL_law_212 : decode cL_law 212 = .ok (.iload 4, 2) := by decide +kernel
theorem dL_law_214 : decode cL_law 214 = .ok (.iconst 2, 1) := by decide +kernel
theorem dL_law_215 : decode cL_law 215 = .ok (.iadd, 1) := by decide +kernel
theorem dL_law_216 : decode cL_law 216 = .ok (.iaload, 1) := by decide +kernel
theorem dL_law_217 : decode cL_law 217 = .ok (.aload_n 0, 1) := by decide +kernel
theorem dL_law_218 : decode cL_law 218 = .ok (.iload 4, 2) := by decide +kernel
theorem dL_law_220 : decode cL_law 220 = .ok (.iconst 3, 1) := by decide +kernel
theorem dL_law_221 : decode cL_law 221 = .ok (.iadd, 1) := by decide +kernel
theorem dL_law_222 : decode cL_law 222 = .ok (.iaload, 1) := by decide +kernel
theorem dL_law_223 : decode cL_law 223 = .ok (.ifCond .eq 7, 3) := by decide +kernel
theorem dL_law_226 : decode cL_law 226 = .ok (.iconst 1, 1) := by decide +kernel
theorem dL_law_227 : decode cL_law 227 = .ok (.goto 4, 3) := by decide +kernel
theorem dL_law_230 : decode cL_law 230 = .ok (.iconst 0, 1) := by decide +kernel
theorem dL_law_231 : decode cL_law 231 = .ok (.invokestatic 88, 3) := by decide +kernel
theorem dL_law_234 : decode cL_law 234 = .ok (.istore 5, 2) := by decide +kernel
theorem dL_law_236 : decode cL_law 236 = .ok (.aload_n 2, 1) := by decide +kernel
theorem dL_law_237 : decode cL_law 237 = .ok (.aload_n 0, 1) := by decide +kernel
theorem dL_law_238 : decode cL_law 238 = .ok (.iload 4, 2) := by decide +kernel
theorem dL_law_240 : decode cL_law 240 = .ok (.iconst 1, 1) := by decide +kernel
theorem dL_law_241 : decode cL_law 241 = .ok (.iadd, 1) := by decide +kernel
theorem dL_law_242 : decode cL_law 242 = .ok (.iaload, 1) := by decide +kernel
theorem dL_law_243 : decode cL_law 243 = .ok (.aload_n 0, 1) := by decide +kernel
theorem dL_law_244 : decode cL_law 244 = .ok (.iload 4, 2) := by decide +kernel
theorem dL_law_246 : decode cL_law 246 = .ok (.iconst 2, 1) := by decide +kernel
theorem dL_law_247 : decode cL_law 247 = .ok (.iadd, 1) := by decide +kernel
theorem dL_law_248 : decode cL_law 248 = .ok (.iaload, 1) := by decide +kernel
theorem dL_law_249 : decode cL_law 249 = .ok (.aload_n 0, 1) := by decide +kernel
theorem dL_law_250 : decode cL_law 250 = .ok (.iload 4, 2) := by decide +kernel
theorem dL_law_252 : decode cL_law 252 = .ok (.iconst 3, 1) := by decide +kernel
theorem dL_law_253 : decode cL_law 253 = .ok (.iadd, 1) := by decide +kernel
theorem dL_law_254 : decode cL_law 254 = .ok (.iaload, 1) := by decide +kernel
theorem dL_law_255 : decode cL_law 255 = .ok (.ifCond .eq 7, 3) := by decide +kernel
theorem dL_law_258 : decode cL_law 258 = .ok (.iconst 1, 1) := by decide +kernel
theorem dL_law_259 : decode cL_law 259 = .ok (.goto 4, 3) := by decide +kernel
theorem dL_law_262 : decode cL_law 262 = .ok (.iconst 0, 1) := by decide +kernel
theorem dL_law_263 : decode cL_law 263 = .ok (.invokevirtual 91, 3) := by decide +kernel
theorem dL_law_266 : decode cL_law 266 = .ok (.aload_n 2, 1) := by decide +kernel
theorem dL_law_267 : decode cL_law 267 = .ok (.invokevirtual 84, 3) := by decide +kernel
theorem dL_law_270 : decode cL_law 270 = .ok (.iload 5, 2) := by decide +kernel
theorem dL_law_272 : decode cL_law 272 = .ok (.if_icmp .eq 5, 3) := by decide +kernel
theorem dL_law_275 : decode cL_law 275 = .ok (.iconst 0, 1) := by decide +kernel
theorem dL_law_276 : decode cL_law 276 = .ok (.ireturn, 1) := by decide +kernel
theorem dL_law_277 : decode cL_law 277 = .ok (.goto 932, 3) := by decide +kernel
theorem dL_law_280 : decode cL_law 280 = .ok (.aload_n 1, 1) := by decide +kernel
theorem dL_law_281 : decode cL_law 281 = .ok (.aload_n 0, 1) := by decide +kernel
theorem dL_law_282 : decode cL_law 282 = .ok (.iload 4, 2) := by decide +kernel
theorem dL_law_284 : decode cL_law 284 = .ok (.iconst 1, 1) := by decide +kernel
theorem dL_law_285 : decode cL_law 285 = .ok (.iadd, 1) := by decide +kernel
theorem dL_law_286 : decode cL_law 286 = .ok (.iaload, 1) := by decide +kernel
theorem dL_law_287 : decode cL_law 287 = .ok (.aload_n 0, 1) := by decide +kernel
theorem dL_law_288 : decode cL_law 288 = .ok (.iload 4, 2) := by decide +kernel
theorem dL_law_290 : decode cL_law 290 = .ok (.iconst 2, 1) := by decide +kernel
theorem dL_law_291 : decode cL_law 291 = .ok (.iadd, 1) := by decide +kernel
theorem dL_law_292 : decode cL_law 292 = .ok (.iaload, 1) := by decide +kernel
theorem dL_law_293 : decode cL_law 293 = .ok (.invokestatic 92, 3) := by decide +kernel
theorem dL_law_296 : decode cL_law 296 = .ok (.istore 5, 2) := by decide +kernel
theorem dL_law_298 : decode cL_law 298 = .ok (.aload_n 2, 1) := by decide +kernel
theorem dL_law_299 : decode cL_law 299 = .ok (.aload_n 0, 1) := by decide +kernel
theorem dL_law_300 : decode cL_law 300 = .ok (.iload 4, 2) := by decide +kernel
theorem dL_law_302 : decode cL_law 302 = .ok (.iconst 1, 1) := by decide +kernel
theorem dL_law_303 : decode cL_law 303 = .ok (.iadd, 1) := by decide +kernel
theorem dL_law_304 : decode cL_law 304 = .ok (.iaload, 1) := by decide +kernel
theorem dL_law_305 : decode cL_law 305 = .ok (.aload_n 0, 1) := by decide +kernel
theorem dL_law_306 : decode cL_law 306 = .ok (.iload 4, 2) := by decide +kernel
theorem dL_law_308 : decode cL_law 308 = .ok (.iconst 2, 1) := by decide +kernel
theorem dL_law_309 : decode cL_law 309 = .ok (.iadd, 1) := by decide +kernel
theorem dL_law_310 : decode cL_law 310 = .ok (.iaload, 1) := by decide +kernel
theorem dL_law_311 : decode cL_law 311 = .ok (.invokevirtual 95, 3) := by decide +kernel
theorem dL_law_314 : decode cL_law 314 = .ok (.aload_n 2, 1) := by decide +kernel
theorem dL_law_315 : decode cL_law 315 = .ok (.invokevirtual 84, 3) := by decide +kernel
theorem dL_law_318 : decode cL_law 318 = .ok (.iload 5, 2) := by decide +kernel
theorem dL_law_320 : decode cL_law 320 = .ok (.if_icmp .eq 5, 3) := by decide +kernel
theorem dL_law_323 : decode cL_law 323 = .ok (.iconst 0, 1) := by decide +kernel
theorem dL_law_324 : decode cL_law 324 = .ok (.ireturn, 1) := by decide +kernel
theorem dL_law_325 : decode cL_law 325 = .ok (.goto 884, 3) := by decide +kernel
theorem dL_law_328 : decode cL_law 328 = .ok (.aload_n 1, 1) := by decide +kernel
theorem dL_law_329 : decode cL_law 329 = .ok (.aload_n 0, 1) := by decide +kernel
theorem dL_law_330 : decode cL_law 330 = .ok (.iload 4, 2) := by decide +kernel
theorem dL_law_332 : decode cL_law 332 = .ok (.iconst 1, 1) := by decide +kernel
theorem dL_law_333 : decode cL_law 333 = .ok (.iadd, 1) := by decide +kernel
theorem dL_law_334 : decode cL_law 334 = .ok (.iaload, 1) := by decide +kernel
theorem dL_law_335 : decode cL_law 335 = .ok (.aload_n 0, 1) := by decide +kernel
theorem dL_law_336 : decode cL_law 336 = .ok (.iload 4, 2) := by decide +kernel
theorem dL_law_338 : decode cL_law 338 = .ok (.iconst 2, 1) := by decide +kernel
theorem dL_law_339 : decode cL_law 339 = .ok (.iadd, 1) := by decide +kernel
theorem dL_law_340 : decode cL_law 340 = .ok (.iaload, 1) := by decide +kernel
theorem dL_law_341 : decode cL_law 341 = .ok (.aload_n 0, 1) := by decide +kernel
theorem dL_law_342 : decode cL_law 342 = .ok (.iload 4, 2) := by decide +kernel
theorem dL_law_344 : decode cL_law 344 = .ok (.iconst 3, 1) := by decide +kernel
theorem dL_law_345 : decode cL_law 345 = .ok (.iadd, 1) := by decide +kernel
theorem dL_law_346 : decode cL_law 346 = .ok (.iaload, 1) := by decide +kernel
theorem dL_law_347 : decode cL_law 347 = .ok (.invokestatic 96, 3) := by decide +kernel
theorem dL_law_350 : decode cL_law 350 = .ok (.istore 5, 2) := by decide +kernel
theorem dL_law_352 : decode cL_law 352 = .ok (.aload_n 2, 1) := by decide +kernel
theorem dL_law_353 : decode cL_law 353 = .ok (.aload_n 0, 1) := by decide +kernel
theorem dL_law_354 : decode cL_law 354 = .ok (.iload 4, 2) := by decide +kernel
theorem dL_law_356 : decode cL_law 356 = .ok (.iconst 1, 1) := by decide +kernel
theorem dL_law_357 : decode cL_law 357 = .ok (.iadd, 1) := by decide +kernel
theorem dL_law_358 : decode cL_law 358 = .ok (.iaload, 1) := by decide +kernel
theorem dL_law_359 : decode cL_law 359 = .ok (.aload_n 0, 1) := by decide +kernel
theorem dL_law_360 : decode cL_law 360 = .ok (.iload 4, 2) := by decide +kernel
theorem dL_law_362 : decode cL_law 362 = .ok (.iconst 2, 1) := by decide +kernel
theorem dL_law_363 : decode cL_law 363 = .ok (.iadd, 1) := by decide +kernel
theorem dL_law_364 : decode cL_law 364 = .ok (.iaload, 1) := by decide +kernel
theorem dL_law_365 : decode cL_law 365 = .ok (.aload_n 0, 1) := by decide +kernel
theorem dL_law_366 : decode cL_law 366 = .ok (.iload 4, 2) := by decide +kernel
theorem dL_law_368 : decode cL_law 368 = .ok (.iconst 3, 1) := by decide +kernel
theorem dL_law_369 : decode cL_law 369 = .ok (.iadd, 1) := by decide +kernel
theorem dL_law_370 : decode cL_law 370 = .ok (.iaload, 1) := by decide +kernel
theorem dL_law_371 : decode cL_law 371 = .ok (.invokevirtual 99, 3) := by decide +kernel
theorem dL_law_374 : decode cL_law 374 = .ok (.aload_n 2, 1) := by decide +kernel
theorem dL_law_375 : decode cL_law 375 = .ok (.invokevirtual 84, 3) := by decide +kernel
theorem dL_law_378 : decode cL_law 378 = .ok (.iload 5, 2) := by decide +kernel
theorem dL_law_380 : decode cL_law 380 = .ok (.if_icmp .eq 5, 3) := by decide +kernel
theorem dL_law_383 : decode cL_law 383 = .ok (.iconst 0, 1) := by decide +kernel
theorem dL_law_384 : decode cL_law 384 = .ok (.ireturn, 1) := by decide +kernel
theorem dL_law_385 : decode cL_law 385 = .ok (.goto 824, 3) := by decide +kernel
theorem dL_law_388 : decode cL_law 388 = .ok (.aload_n 1, 1) := by decide +kernel
theorem dL_law_389 : decode cL_law 389 = .ok (.aload_n 0, 1) := by decide +kernel
theorem dL_law_390 : decode cL_law 390 = .ok (.iload 4, 2) := by decide +kernel
theorem dL_law_392 : decode cL_law 392 = .ok (.iconst 1, 1) := by decide +kernel
theorem dL_law_393 : decode cL_law 393 = .ok (.iadd, 1) := by decide +kernel
theorem dL_law_394 : decode cL_law 394 = .ok (.iaload, 1) := by decide +kernel
theorem dL_law_395 : decode cL_law 395 = .ok (.aload_n 0, 1) := by decide +kernel
theorem dL_law_396 : decode cL_law 396 = .ok (.iload 4, 2) := by decide +kernel
theorem dL_law_398 : decode cL_law 398 = .ok (.iconst 2, 1) := by decide +kernel
theorem dL_law_399 : decode cL_law 399 = .ok (.iadd, 1) := by decide +kernel
theorem dL_law_400 : decode cL_law 400 = .ok (.iaload, 1) := by decide +kernel
theorem dL_law_401 : decode cL_law 401 = .ok (.aload_n 3, 1) := by decide +kernel
theorem dL_law_402 : decode cL_law 402 = .ok (.invokestatic 100, 3) := by decide +kernel
theorem dL_law_405 : decode cL_law 405 = .ok (.istore 5, 2) := by decide +kernel
theorem dL_law_407 : decode cL_law 407 = .ok (.aload_n 2, 1) := by decide +kernel
theorem dL_law_408 : decode cL_law 408 = .ok (.aload_n 0, 1) := by decide +kernel
theorem dL_law_409 : decode cL_law 409 = .ok (.iload 4, 2) := by decide +kernel
theorem dL_law_411 : decode cL_law 411 = .ok (.iconst 1, 1) := by decide +kernel
theorem dL_law_412 : decode cL_law 412 = .ok (.iadd, 1) := by decide +kernel
theorem dL_law_413 : decode cL_law 413 = .ok (.iaload, 1) := by decide +kernel
theorem dL_law_414 : decode cL_law 414 = .ok (.aload_n 0, 1) := by decide +kernel
theorem dL_law_415 : decode cL_law 415 = .ok (.iload 4, 2) := by decide +kernel
theorem dL_law_417 : decode cL_law 417 = .ok (.iconst 2, 1) := by decide +kernel
theorem dL_law_418 : decode cL_law 418 = .ok (.iadd, 1) := by decide +kernel
theorem dL_law_419 : decode cL_law 419 = .ok (.iaload, 1) := by decide +kernel
theorem dL_law_420 : decode cL_law 420 = .ok (.invokevirtual 103, 3) := by decide +kernel
theorem dL_law_423 : decode cL_law 423 = .ok (.istore 6, 2) := by decide +kernel
theorem dL_law_425 : decode cL_law 425 = .ok (.aload_n 2, 1) := by decide +kernel
theorem dL_law_426 : decode cL_law 426 = .ok (.invokevirtual 84, 3) := by decide +kernel
theorem dL_law_429 : decode cL_law 429 = .ok (.iload 5, 2) := by decide +kernel
theorem dL_law_431 : decode cL_law 431 = .ok (.if_icmp .eq 5, 3) := by decide +kernel
theorem dL_law_434 : decode cL_law 434 = .ok (.iconst 0, 1) := by decide +kernel
theorem dL_law_435 : decode cL_law 435 = .ok (.ireturn, 1) := by decide +kernel
theorem dL_law_436 : decode cL_law 436 = .ok (.iload 5, 2) := by decide +kernel
theorem dL_law_438 : decode cL_law 438 = .ok (.ifCond .ne 15, 3) := by decide +kernel
theorem dL_law_441 : decode cL_law 441 = .ok (.aload_n 3, 1) := by decide +kernel
theorem dL_law_442 : decode cL_law 442 = .ok (.iconst 0, 1) := by decide +kernel
theorem dL_law_443 : decode cL_law 443 = .ok (.laload, 1) := by decide +kernel
theorem dL_law_444 : decode cL_law 444 = .ok (.iload 6, 2) := by decide +kernel
theorem dL_law_446 : decode cL_law 446 = .ok (.i2l, 1) := by decide +kernel
theorem dL_law_447 : decode cL_law 447 = .ok (.lcmp, 1) := by decide +kernel
theorem dL_law_448 : decode cL_law 448 = .ok (.ifCond .eq 5, 3) := by decide +kernel
theorem dL_law_451 : decode cL_law 451 = .ok (.iconst 0, 1) := by decide +kernel
theorem dL_law_452 : decode cL_law 452 = .ok (.ireturn, 1) := by decide +kernel
theorem dL_law_453 : decode cL_law 453 = .ok (.goto 756, 3) := by decide +kernel
theorem dL_law_456 : decode cL_law 456 = .ok (.aload_n 1, 1) := by decide +kernel
theorem dL_law_457 : decode cL_law 457 = .ok (.aload_n 0, 1) := by decide +kernel
theorem dL_law_458 : decode cL_law 458 = .ok (.iload 4, 2) := by decide +kernel
theorem dL_law_460 : decode cL_law 460 = .ok (.iconst 1, 1) := by decide +kernel
theorem dL_law_461 : decode cL_law 461 = .ok (.iadd, 1) := by decide +kernel
theorem dL_law_462 : decode cL_law 462 = .ok (.iaload, 1) := by decide +kernel
theorem dL_law_463 : decode cL_law 463 = .ok (.aload_n 0, 1) := by decide +kernel
theorem dL_law_464 : decode cL_law 464 = .ok (.iload 4, 2) := by decide +kernel
theorem dL_law_466 : decode cL_law 466 = .ok (.iconst 2, 1) := by decide +kernel
theorem dL_law_467 : decode cL_law 467 = .ok (.iadd, 1) := by decide +kernel
theorem dL_law_468 : decode cL_law 468 = .ok (.iaload, 1) := by decide +kernel
theorem dL_law_469 : decode cL_law 469 = .ok (.aload_n 0, 1) := by decide +kernel
theorem dL_law_470 : decode cL_law 470 = .ok (.iload 4, 2) := by decide +kernel
theorem dL_law_472 : decode cL_law 472 = .ok (.iconst 3, 1) := by decide +kernel
theorem dL_law_473 : decode cL_law 473 = .ok (.iadd, 1) := by decide +kernel
theorem dL_law_474 : decode cL_law 474 = .ok (.iaload, 1) := by decide +kernel
theorem dL_law_475 : decode cL_law 475 = .ok (.invokestatic 104, 3) := by decide +kernel
theorem dL_law_478 : decode cL_law 478 = .ok (.istore 5, 2) := by decide +kernel
theorem dL_law_480 : decode cL_law 480 = .ok (.aload_n 2, 1) := by decide +kernel
theorem dL_law_481 : decode cL_law 481 = .ok (.aload_n 0, 1) := by decide +kernel
theorem dL_law_482 : decode cL_law 482 = .ok (.iload 4, 2) := by decide +kernel
theorem dL_law_484 : decode cL_law 484 = .ok (.iconst 1, 1) := by decide +kernel
theorem dL_law_485 : decode cL_law 485 = .ok (.iadd, 1) := by decide +kernel
theorem dL_law_486 : decode cL_law 486 = .ok (.iaload, 1) := by decide +kernel
theorem dL_law_487 : decode cL_law 487 = .ok (.aload_n 0, 1) := by decide +kernel
theorem dL_law_488 : decode cL_law 488 = .ok (.iload 4, 2) := by decide +kernel
theorem dL_law_490 : decode cL_law 490 = .ok (.iconst 2, 1) := by decide +kernel
theorem dL_law_491 : decode cL_law 491 = .ok (.iadd, 1) := by decide +kernel
theorem dL_law_492 : decode cL_law 492 = .ok (.iaload, 1) := by decide +kernel
theorem dL_law_493 : decode cL_law 493 = .ok (.aload_n 0, 1) := by decide +kernel
theorem dL_law_494 : decode cL_law 494 = .ok (.iload 4, 2) := by decide +kernel
theorem dL_law_496 : decode cL_law 496 = .ok (.iconst 3, 1) := by decide +kernel
theorem dL_law_497 : decode cL_law 497 = .ok (.iadd, 1) := by decide +kernel
theorem dL_law_498 : decode cL_law 498 = .ok (.iaload, 1) := by decide +kernel
theorem dL_law_499 : decode cL_law 499 = .ok (.invokevirtual 106, 3) := by decide +kernel
theorem dL_law_502 : decode cL_law 502 = .ok (.aload_n 2, 1) := by decide +kernel
theorem dL_law_503 : decode cL_law 503 = .ok (.invokevirtual 84, 3) := by decide +kernel
theorem dL_law_506 : decode cL_law 506 = .ok (.iload 5, 2) := by decide +kernel
theorem dL_law_508 : decode cL_law 508 = .ok (.if_icmp .eq 5, 3) := by decide +kernel
theorem dL_law_511 : decode cL_law 511 = .ok (.iconst 0, 1) := by decide +kernel
theorem dL_law_512 : decode cL_law 512 = .ok (.ireturn, 1) := by decide +kernel
theorem dL_law_513 : decode cL_law 513 = .ok (.goto 696, 3) := by decide +kernel
theorem dL_law_516 : decode cL_law 516 = .ok (.aload_n 1, 1) := by decide +kernel
theorem dL_law_517 : decode cL_law 517 = .ok (.aload_n 0, 1) := by decide +kernel
theorem dL_law_518 : decode cL_law 518 = .ok (.iload 4, 2) := by decide +kernel
theorem dL_law_520 : decode cL_law 520 = .ok (.iconst 1, 1) := by decide +kernel
theorem dL_law_521 : decode cL_law 521 = .ok (.iadd, 1) := by decide +kernel
theorem dL_law_522 : decode cL_law 522 = .ok (.iaload, 1) := by decide +kernel
theorem dL_law_523 : decode cL_law 523 = .ok (.aload_n 0, 1) := by decide +kernel
theorem dL_law_524 : decode cL_law 524 = .ok (.iload 4, 2) := by decide +kernel
theorem dL_law_526 : decode cL_law 526 = .ok (.iconst 2, 1) := by decide +kernel
theorem dL_law_527 : decode cL_law 527 = .ok (.iadd, 1) := by decide +kernel
theorem dL_law_528 : decode cL_law 528 = .ok (.iaload, 1) := by decide +kernel
theorem dL_law_529 : decode cL_law 529 = .ok (.aload_n 3, 1) := by decide +kernel
theorem dL_law_530 : decode cL_law 530 = .ok (.invokestatic 107, 3) := by decide +kernel
theorem dL_law_533 : decode cL_law 533 = .ok (.istore 5, 2) := by decide +kernel
theorem dL_law_535 : decode cL_law 535 = .ok (.aload_n 2, 1) := by decide +kernel
theorem dL_law_536 : decode cL_law 536 = .ok (.aload_n 0, 1) := by decide +kernel
theorem dL_law_537 : decode cL_law 537 = .ok (.iload 4, 2) := by decide +kernel
theorem dL_law_539 : decode cL_law 539 = .ok (.iconst 1, 1) := by decide +kernel
theorem dL_law_540 : decode cL_law 540 = .ok (.iadd, 1) := by decide +kernel
theorem dL_law_541 : decode cL_law 541 = .ok (.iaload, 1) := by decide +kernel
theorem dL_law_542 : decode cL_law 542 = .ok (.aload_n 0, 1) := by decide +kernel
theorem dL_law_543 : decode cL_law 543 = .ok (.iload 4, 2) := by decide +kernel
theorem dL_law_545 : decode cL_law 545 = .ok (.iconst 2, 1) := by decide +kernel
theorem dL_law_546 : decode cL_law 546 = .ok (.iadd, 1) := by decide +kernel
theorem dL_law_547 : decode cL_law 547 = .ok (.iaload, 1) := by decide +kernel
theorem dL_law_548 : decode cL_law 548 = .ok (.invokevirtual 109, 3) := by decide +kernel
theorem dL_law_551 : decode cL_law 551 = .ok (.istore 6, 2) := by decide +kernel
theorem dL_law_553 : decode cL_law 553 = .ok (.aload_n 2, 1) := by decide +kernel
theorem dL_law_554 : decode cL_law 554 = .ok (.invokevirtual 84, 3) := by decide +kernel
theorem dL_law_557 : decode cL_law 557 = .ok (.iload 5, 2) := by decide +kernel
theorem dL_law_559 : decode cL_law 559 = .ok (.if_icmp .eq 5, 3) := by decide +kernel
theorem dL_law_562 : decode cL_law 562 = .ok (.iconst 0, 1) := by decide +kernel
theorem dL_law_563 : decode cL_law 563 = .ok (.ireturn, 1) := by decide +kernel
theorem dL_law_564 : decode cL_law 564 = .ok (.iload 5, 2) := by decide +kernel
theorem dL_law_566 : decode cL_law 566 = .ok (.ifCond .ne 15, 3) := by decide +kernel
theorem dL_law_569 : decode cL_law 569 = .ok (.aload_n 3, 1) := by decide +kernel
theorem dL_law_570 : decode cL_law 570 = .ok (.iconst 0, 1) := by decide +kernel
theorem dL_law_571 : decode cL_law 571 = .ok (.laload, 1) := by decide +kernel
theorem dL_law_572 : decode cL_law 572 = .ok (.iload 6, 2) := by decide +kernel
theorem dL_law_574 : decode cL_law 574 = .ok (.i2l, 1) := by decide +kernel
theorem dL_law_575 : decode cL_law 575 = .ok (.lcmp, 1) := by decide +kernel
theorem dL_law_576 : decode cL_law 576 = .ok (.ifCond .eq 5, 3) := by decide +kernel
theorem dL_law_579 : decode cL_law 579 = .ok (.iconst 0, 1) := by decide +kernel
theorem dL_law_580 : decode cL_law 580 = .ok (.ireturn, 1) := by decide +kernel
theorem dL_law_581 : decode cL_law 581 = .ok (.goto 628, 3) := by decide +kernel
theorem dL_law_584 : decode cL_law 584 = .ok (.aload_n 1, 1) := by decide +kernel
theorem dL_law_585 : decode cL_law 585 = .ok (.aload_n 3, 1) := by decide +kernel
theorem dL_law_586 : decode cL_law 586 = .ok (.invokestatic 110, 3) := by decide +kernel
theorem dL_law_589 : decode cL_law 589 = .ok (.istore 5, 2) := by decide +kernel
theorem dL_law_591 : decode cL_law 591 = .ok (.aload_n 2, 1) := by decide +kernel
theorem dL_law_592 : decode cL_law 592 = .ok (.invokevirtual 113, 3) := by decide +kernel
theorem dL_law_595 : decode cL_law 595 = .ok (.lstore 6, 2) := by decide +kernel
theorem dL_law_597 : decode cL_law 597 = .ok (.aload_n 2, 1) := by decide +kernel
theorem dL_law_598 : decode cL_law 598 = .ok (.invokevirtual 84, 3) := by decide +kernel
theorem dL_law_601 : decode cL_law 601 = .ok (.iload 5, 2) := by decide +kernel
theorem dL_law_603 : decode cL_law 603 = .ok (.if_icmp .eq 5, 3) := by decide +kernel
theorem dL_law_606 : decode cL_law 606 = .ok (.iconst 0, 1) := by decide +kernel
theorem dL_law_607 : decode cL_law 607 = .ok (.ireturn, 1) := by decide +kernel
theorem dL_law_608 : decode cL_law 608 = .ok (.iload 5, 2) := by decide +kernel
theorem dL_law_610 : decode cL_law 610 = .ok (.ifCond .ne 14, 3) := by decide +kernel
theorem dL_law_613 : decode cL_law 613 = .ok (.aload_n 3, 1) := by decide +kernel
theorem dL_law_614 : decode cL_law 614 = .ok (.iconst 0, 1) := by decide +kernel
theorem dL_law_615 : decode cL_law 615 = .ok (.laload, 1) := by decide +kernel
theorem dL_law_616 : decode cL_law 616 = .ok (.lload 6, 2) := by decide +kernel
theorem dL_law_618 : decode cL_law 618 = .ok (.lcmp, 1) := by decide +kernel
theorem dL_law_619 : decode cL_law 619 = .ok (.ifCond .eq 5, 3) := by decide +kernel
theorem dL_law_622 : decode cL_law 622 = .ok (.iconst 0, 1) := by decide +kernel
theorem dL_law_623 : decode cL_law 623 = .ok (.ireturn, 1) := by decide +kernel
theorem dL_law_624 : decode cL_law 624 = .ok (.goto 585, 3) := by decide +kernel
theorem dL_law_627 : decode cL_law 627 = .ok (.aload_n 1, 1) := by decide +kernel
theorem dL_law_628 : decode cL_law 628 = .ok (.invokevirtual 114, 3) := by decide +kernel
theorem dL_law_631 : decode cL_law 631 = .ok (.aload_n 2, 1) := by decide +kernel
theorem dL_law_632 : decode cL_law 632 = .ok (.invokevirtual 117, 3) := by decide +kernel
theorem dL_law_635 : decode cL_law 635 = .ok (.if_icmp .eq 574, 3) := by decide +kernel
theorem dL_law_638 : decode cL_law 638 = .ok (.iconst 0, 1) := by decide +kernel
theorem dL_law_639 : decode cL_law 639 = .ok (.ireturn, 1) := by decide +kernel
theorem dL_law_640 : decode cL_law 640 = .ok (.aload_n 1, 1) := by decide +kernel
theorem dL_law_641 : decode cL_law 641 = .ok (.aload_n 0, 1) := by decide +kernel
theorem dL_law_642 : decode cL_law 642 = .ok (.iload 4, 2) := by decide +kernel
theorem dL_law_644 : decode cL_law 644 = .ok (.iconst 1, 1) := by decide +kernel
theorem dL_law_645 : decode cL_law 645 = .ok (.iadd, 1) := by decide +kernel
theorem dL_law_646 : decode cL_law 646 = .ok (.iaload, 1) := by decide +kernel
theorem dL_law_647 : decode cL_law 647 = .ok (.aload_n 0, 1) := by decide +kernel
theorem dL_law_648 : decode cL_law 648 = .ok (.iload 4, 2) := by decide +kernel
theorem dL_law_650 : decode cL_law 650 = .ok (.iconst 2, 1) := by decide +kernel
theorem dL_law_651 : decode cL_law 651 = .ok (.iadd, 1) := by decide +kernel
theorem dL_law_652 : decode cL_law 652 = .ok (.iaload, 1) := by decide +kernel
theorem dL_law_653 : decode cL_law 653 = .ok (.aload_n 3, 1) := by decide +kernel
theorem dL_law_654 : decode cL_law 654 = .ok (.invokestatic 118, 3) := by decide +kernel
theorem dL_law_657 : decode cL_law 657 = .ok (.istore 5, 2) := by decide +kernel
theorem dL_law_659 : decode cL_law 659 = .ok (.aload_n 2, 1) := by decide +kernel
theorem dL_law_660 : decode cL_law 660 = .ok (.aload_n 0, 1) := by decide +kernel
theorem dL_law_661 : decode cL_law 661 = .ok (.iload 4, 2) := by decide +kernel
theorem dL_law_663 : decode cL_law 663 = .ok (.iconst 1, 1) := by decide +kernel
theorem dL_law_664 : decode cL_law 664 = .ok (.iadd, 1) := by decide +kernel
theorem dL_law_665 : decode cL_law 665 = .ok (.iaload, 1) := by decide +kernel
theorem dL_law_666 : decode cL_law 666 = .ok (.aload_n 0, 1) := by decide +kernel
theorem dL_law_667 : decode cL_law 667 = .ok (.iload 4, 2) := by decide +kernel
theorem dL_law_669 : decode cL_law 669 = .ok (.iconst 2, 1) := by decide +kernel
theorem dL_law_670 : decode cL_law 670 = .ok (.iadd, 1) := by decide +kernel
theorem dL_law_671 : decode cL_law 671 = .ok (.iaload, 1) := by decide +kernel
theorem dL_law_672 : decode cL_law 672 = .ok (.invokevirtual 120, 3) := by decide +kernel
theorem dL_law_675 : decode cL_law 675 = .ok (.lstore 6, 2) := by decide +kernel
theorem dL_law_677 : decode cL_law 677 = .ok (.aload_n 2, 1) := by decide +kernel
theorem dL_law_678 : decode cL_law 678 = .ok (.invokevirtual 84, 3) := by decide +kernel
theorem dL_law_681 : decode cL_law 681 = .ok (.iload 5, 2) := by decide +kernel
theorem dL_law_683 : decode cL_law 683 = .ok (.if_icmp .eq 5, 3) := by decide +kernel
theorem dL_law_686 : decode cL_law 686 = .ok (.iconst 0, 1) := by decide +kernel
theorem dL_law_687 : decode cL_law 687 = .ok (.ireturn, 1) := by decide +kernel
theorem dL_law_688 : decode cL_law 688 = .ok (.iload 5, 2) := by decide +kernel
theorem dL_law_690 : decode cL_law 690 = .ok (.ifCond .ne 14, 3) := by decide +kernel
theorem dL_law_693 : decode cL_law 693 = .ok (.aload_n 3, 1) := by decide +kernel
theorem dL_law_694 : decode cL_law 694 = .ok (.iconst 0, 1) := by decide +kernel
theorem dL_law_695 : decode cL_law 695 = .ok (.laload, 1) := by decide +kernel
theorem dL_law_696 : decode cL_law 696 = .ok (.lload 6, 2) := by decide +kernel
theorem dL_law_698 : decode cL_law 698 = .ok (.lcmp, 1) := by decide +kernel
theorem dL_law_699 : decode cL_law 699 = .ok (.ifCond .eq 5, 3) := by decide +kernel
theorem dL_law_702 : decode cL_law 702 = .ok (.iconst 0, 1) := by decide +kernel
theorem dL_law_703 : decode cL_law 703 = .ok (.ireturn, 1) := by decide +kernel
theorem dL_law_704 : decode cL_law 704 = .ok (.goto 505, 3) := by decide +kernel
theorem dL_law_707 : decode cL_law 707 = .ok (.aload_n 1, 1) := by decide +kernel
theorem dL_law_708 : decode cL_law 708 = .ok (.aload_n 0, 1) := by decide +kernel
theorem dL_law_709 : decode cL_law 709 = .ok (.iload 4, 2) := by decide +kernel
theorem dL_law_711 : decode cL_law 711 = .ok (.iconst 1, 1) := by decide +kernel
theorem dL_law_712 : decode cL_law 712 = .ok (.iadd, 1) := by decide +kernel
theorem dL_law_713 : decode cL_law 713 = .ok (.iaload, 1) := by decide +kernel
theorem dL_law_714 : decode cL_law 714 = .ok (.aload_n 0, 1) := by decide +kernel
theorem dL_law_715 : decode cL_law 715 = .ok (.iload 4, 2) := by decide +kernel
theorem dL_law_717 : decode cL_law 717 = .ok (.iconst 2, 1) := by decide +kernel
theorem dL_law_718 : decode cL_law 718 = .ok (.iadd, 1) := by decide +kernel
theorem dL_law_719 : decode cL_law 719 = .ok (.iaload, 1) := by decide +kernel
theorem dL_law_720 : decode cL_law 720 = .ok (.aload_n 3, 1) := by decide +kernel
theorem dL_law_721 : decode cL_law 721 = .ok (.invokestatic 121, 3) := by decide +kernel
theorem dL_law_724 : decode cL_law 724 = .ok (.istore 5, 2) := by decide +kernel
theorem dL_law_726 : decode cL_law 726 = .ok (.aload_n 2, 1) := by decide +kernel
theorem dL_law_727 : decode cL_law 727 = .ok (.aload_n 0, 1) := by decide +kernel
theorem dL_law_728 : decode cL_law 728 = .ok (.iload 4, 2) := by decide +kernel
theorem dL_law_730 : decode cL_law 730 = .ok (.iconst 1, 1) := by decide +kernel
theorem dL_law_731 : decode cL_law 731 = .ok (.iadd, 1) := by decide +kernel
theorem dL_law_732 : decode cL_law 732 = .ok (.iaload, 1) := by decide +kernel
theorem dL_law_733 : decode cL_law 733 = .ok (.aload_n 0, 1) := by decide +kernel
theorem dL_law_734 : decode cL_law 734 = .ok (.iload 4, 2) := by decide +kernel
theorem dL_law_736 : decode cL_law 736 = .ok (.iconst 2, 1) := by decide +kernel
theorem dL_law_737 : decode cL_law 737 = .ok (.iadd, 1) := by decide +kernel
theorem dL_law_738 : decode cL_law 738 = .ok (.iaload, 1) := by decide +kernel
theorem dL_law_739 : decode cL_law 739 = .ok (.invokevirtual 123, 3) := by decide +kernel
theorem dL_law_742 : decode cL_law 742 = .ok (.lstore 6, 2) := by decide +kernel
theorem dL_law_744 : decode cL_law 744 = .ok (.aload_n 2, 1) := by decide +kernel
theorem dL_law_745 : decode cL_law 745 = .ok (.invokevirtual 84, 3) := by decide +kernel
theorem dL_law_748 : decode cL_law 748 = .ok (.iload 5, 2) := by decide +kernel
theorem dL_law_750 : decode cL_law 750 = .ok (.if_icmp .eq 5, 3) := by decide +kernel
theorem dL_law_753 : decode cL_law 753 = .ok (.iconst 0, 1) := by decide +kernel
theorem dL_law_754 : decode cL_law 754 = .ok (.ireturn, 1) := by decide +kernel
theorem dL_law_755 : decode cL_law 755 = .ok (.iload 5, 2) := by decide +kernel
theorem dL_law_757 : decode cL_law 757 = .ok (.ifCond .ne 14, 3) := by decide +kernel
theorem dL_law_760 : decode cL_law 760 = .ok (.aload_n 3, 1) := by decide +kernel
theorem dL_law_761 : decode cL_law 761 = .ok (.iconst 0, 1) := by decide +kernel
theorem dL_law_762 : decode cL_law 762 = .ok (.laload, 1) := by decide +kernel
theorem dL_law_763 : decode cL_law 763 = .ok (.lload 6, 2) := by decide +kernel
theorem dL_law_765 : decode cL_law 765 = .ok (.lcmp, 1) := by decide +kernel
theorem dL_law_766 : decode cL_law 766 = .ok (.ifCond .eq 5, 3) := by decide +kernel
theorem dL_law_769 : decode cL_law 769 = .ok (.iconst 0, 1) := by decide +kernel
theorem dL_law_770 : decode cL_law 770 = .ok (.ireturn, 1) := by decide +kernel
theorem dL_law_771 : decode cL_law 771 = .ok (.goto 438, 3) := by decide +kernel
theorem dL_law_774 : decode cL_law 774 = .ok (.aload_n 1, 1) := by decide +kernel
theorem dL_law_775 : decode cL_law 775 = .ok (.aload_n 0, 1) := by decide +kernel
theorem dL_law_776 : decode cL_law 776 = .ok (.iload 4, 2) := by decide +kernel
theorem dL_law_778 : decode cL_law 778 = .ok (.iconst 1, 1) := by decide +kernel
theorem dL_law_779 : decode cL_law 779 = .ok (.iadd, 1) := by decide +kernel
theorem dL_law_780 : decode cL_law 780 = .ok (.iaload, 1) := by decide +kernel
theorem dL_law_781 : decode cL_law 781 = .ok (.aload_n 3, 1) := by decide +kernel
theorem dL_law_782 : decode cL_law 782 = .ok (.invokestatic 124, 3) := by decide +kernel
theorem dL_law_785 : decode cL_law 785 = .ok (.istore 5, 2) := by decide +kernel
theorem dL_law_787 : decode cL_law 787 = .ok (.aload_n 2, 1) := by decide +kernel
theorem dL_law_788 : decode cL_law 788 = .ok (.aload_n 0, 1) := by decide +kernel
theorem dL_law_789 : decode cL_law 789 = .ok (.iload 4, 2) := by decide +kernel
theorem dL_law_791 : decode cL_law 791 = .ok (.iconst 1, 1) := by decide +kernel
theorem dL_law_792 : decode cL_law 792 = .ok (.iadd, 1) := by decide +kernel
theorem dL_law_793 : decode cL_law 793 = .ok (.iaload, 1) := by decide +kernel
theorem dL_law_794 : decode cL_law 794 = .ok (.invokevirtual 127, 3) := by decide +kernel
theorem dL_law_797 : decode cL_law 797 = .ok (.lstore 6, 2) := by decide +kernel
theorem dL_law_799 : decode cL_law 799 = .ok (.aload_n 2, 1) := by decide +kernel
theorem dL_law_800 : decode cL_law 800 = .ok (.invokevirtual 84, 3) := by decide +kernel
theorem dL_law_803 : decode cL_law 803 = .ok (.iload 5, 2) := by decide +kernel
theorem dL_law_805 : decode cL_law 805 = .ok (.if_icmp .eq 5, 3) := by decide +kernel
theorem dL_law_808 : decode cL_law 808 = .ok (.iconst 0, 1) := by decide +kernel
theorem dL_law_809 : decode cL_law 809 = .ok (.ireturn, 1) := by decide +kernel
theorem dL_law_810 : decode cL_law 810 = .ok (.iload 5, 2) := by decide +kernel
theorem dL_law_812 : decode cL_law 812 = .ok (.ifCond .ne 14, 3) := by decide +kernel
theorem dL_law_815 : decode cL_law 815 = .ok (.aload_n 3, 1) := by decide +kernel
theorem dL_law_816 : decode cL_law 816 = .ok (.iconst 0, 1) := by decide +kernel
theorem dL_law_817 : decode cL_law 817 = .ok (.laload, 1) := by decide +kernel
theorem dL_law_818 : decode cL_law 818 = .ok (.lload 6, 2) := by decide +kernel
theorem dL_law_820 : decode cL_law 820 = .ok (.lcmp, 1) := by decide +kernel
theorem dL_law_821 : decode cL_law 821 = .ok (.ifCond .eq 5, 3) := by decide +kernel
theorem dL_law_824 : decode cL_law 824 = .ok (.iconst 0, 1) := by decide +kernel
theorem dL_law_825 : decode cL_law 825 = .ok (.ireturn, 1) := by decide +kernel
theorem dL_law_826 : decode cL_law 826 = .ok (.goto 383, 3) := by decide +kernel
theorem dL_law_829 : decode cL_law 829 = .ok (.aload_n 1, 1) := by decide +kernel
theorem dL_law_830 : decode cL_law 830 = .ok (.aload_n 0, 1) := by decide +kernel
theorem dL_law_831 : decode cL_law 831 = .ok (.iload 4, 2) := by decide +kernel
theorem dL_law_833 : decode cL_law 833 = .ok (.iconst 1, 1) := by decide +kernel
theorem dL_law_834 : decode cL_law 834 = .ok (.iadd, 1) := by decide +kernel
theorem dL_law_835 : decode cL_law 835 = .ok (.iaload, 1) := by decide +kernel
theorem dL_law_836 : decode cL_law 836 = .ok (.aload_n 3, 1) := by decide +kernel
theorem dL_law_837 : decode cL_law 837 = .ok (.invokestatic 128, 3) := by decide +kernel
theorem dL_law_840 : decode cL_law 840 = .ok (.istore 5, 2) := by decide +kernel
theorem dL_law_842 : decode cL_law 842 = .ok (.aload_n 2, 1) := by decide +kernel
theorem dL_law_843 : decode cL_law 843 = .ok (.aload_n 0, 1) := by decide +kernel
theorem dL_law_844 : decode cL_law 844 = .ok (.iload 4, 2) := by decide +kernel
theorem dL_law_846 : decode cL_law 846 = .ok (.iconst 1, 1) := by decide +kernel
theorem dL_law_847 : decode cL_law 847 = .ok (.iadd, 1) := by decide +kernel
theorem dL_law_848 : decode cL_law 848 = .ok (.iaload, 1) := by decide +kernel
theorem dL_law_849 : decode cL_law 849 = .ok (.invokevirtual 130, 3) := by decide +kernel
theorem dL_law_852 : decode cL_law 852 = .ok (.lstore 6, 2) := by decide +kernel
theorem dL_law_854 : decode cL_law 854 = .ok (.aload_n 2, 1) := by decide +kernel
theorem dL_law_855 : decode cL_law 855 = .ok (.invokevirtual 84, 3) := by decide +kernel
theorem dL_law_858 : decode cL_law 858 = .ok (.iload 5, 2) := by decide +kernel
theorem dL_law_860 : decode cL_law 860 = .ok (.if_icmp .eq 5, 3) := by decide +kernel
theorem dL_law_863 : decode cL_law 863 = .ok (.iconst 0, 1) := by decide +kernel
theorem dL_law_864 : decode cL_law 864 = .ok (.ireturn, 1) := by decide +kernel
theorem dL_law_865 : decode cL_law 865 = .ok (.iload 5, 2) := by decide +kernel
theorem dL_law_867 : decode cL_law 867 = .ok (.ifCond .ne 14, 3) := by decide +kernel
theorem dL_law_870 : decode cL_law 870 = .ok (.aload_n 3, 1) := by decide +kernel
theorem dL_law_871 : decode cL_law 871 = .ok (.iconst 0, 1) := by decide +kernel
theorem dL_law_872 : decode cL_law 872 = .ok (.laload, 1) := by decide +kernel
theorem dL_law_873 : decode cL_law 873 = .ok (.lload 6, 2) := by decide +kernel
theorem dL_law_875 : decode cL_law 875 = .ok (.lcmp, 1) := by decide +kernel
theorem dL_law_876 : decode cL_law 876 = .ok (.ifCond .eq 5, 3) := by decide +kernel
theorem dL_law_879 : decode cL_law 879 = .ok (.iconst 0, 1) := by decide +kernel
theorem dL_law_880 : decode cL_law 880 = .ok (.ireturn, 1) := by decide +kernel
theorem dL_law_881 : decode cL_law 881 = .ok (.goto 328, 3) := by decide +kernel
theorem dL_law_884 : decode cL_law 884 = .ok (.aload_n 1, 1) := by decide +kernel
theorem dL_law_885 : decode cL_law 885 = .ok (.aload_n 0, 1) := by decide +kernel
theorem dL_law_886 : decode cL_law 886 = .ok (.iload 4, 2) := by decide +kernel
theorem dL_law_888 : decode cL_law 888 = .ok (.iconst 1, 1) := by decide +kernel
theorem dL_law_889 : decode cL_law 889 = .ok (.iadd, 1) := by decide +kernel
theorem dL_law_890 : decode cL_law 890 = .ok (.iaload, 1) := by decide +kernel
theorem dL_law_891 : decode cL_law 891 = .ok (.aload_n 0, 1) := by decide +kernel
theorem dL_law_892 : decode cL_law 892 = .ok (.iload 4, 2) := by decide +kernel
theorem dL_law_894 : decode cL_law 894 = .ok (.iconst 2, 1) := by decide +kernel
theorem dL_law_895 : decode cL_law 895 = .ok (.iadd, 1) := by decide +kernel
theorem dL_law_896 : decode cL_law 896 = .ok (.iaload, 1) := by decide +kernel
theorem dL_law_897 : decode cL_law 897 = .ok (.aload_n 3, 1) := by decide +kernel
theorem dL_law_898 : decode cL_law 898 = .ok (.invokestatic 131, 3) := by decide +kernel
theorem dL_law_901 : decode cL_law 901 = .ok (.istore 5, 2) := by decide +kernel
theorem dL_law_903 : decode cL_law 903 = .ok (.aload_n 2, 1) := by decide +kernel
theorem dL_law_904 : decode cL_law 904 = .ok (.aload_n 0, 1) := by decide +kernel
theorem dL_law_905 : decode cL_law 905 = .ok (.iload 4, 2) := by decide +kernel
theorem dL_law_907 : decode cL_law 907 = .ok (.iconst 1, 1) := by decide +kernel
theorem dL_law_908 : decode cL_law 908 = .ok (.iadd, 1) := by decide +kernel
theorem dL_law_909 : decode cL_law 909 = .ok (.iaload, 1) := by decide +kernel
theorem dL_law_910 : decode cL_law 910 = .ok (.aload_n 0, 1) := by decide +kernel
theorem dL_law_911 : decode cL_law 911 = .ok (.iload 4, 2) := by decide +kernel
theorem dL_law_913 : decode cL_law 913 = .ok (.iconst 2, 1) := by decide +kernel
theorem dL_law_914 : decode cL_law 914 = .ok (.iadd, 1) := by decide +kernel
theorem dL_law_915 : decode cL_law 915 = .ok (.iaload, 1) := by decide +kernel
theorem dL_law_916 : decode cL_law 916 = .ok (.invokevirtual 133, 3) := by decide +kernel
theorem dL_law_919 : decode cL_law 919 = .ok (.istore 6, 2) := by decide +kernel
theorem dL_law_921 : decode cL_law 921 = .ok (.aload_n 2, 1) := by decide +kernel
theorem dL_law_922 : decode cL_law 922 = .ok (.invokevirtual 84, 3) := by decide +kernel
theorem dL_law_925 : decode cL_law 925 = .ok (.iload 5, 2) := by decide +kernel
theorem dL_law_927 : decode cL_law 927 = .ok (.if_icmp .eq 5, 3) := by decide +kernel
theorem dL_law_930 : decode cL_law 930 = .ok (.iconst 0, 1) := by decide +kernel
theorem dL_law_931 : decode cL_law 931 = .ok (.ireturn, 1) := by decide +kernel
theorem dL_law_932 : decode cL_law 932 = .ok (.iload 5, 2) := by decide +kernel
theorem dL_law_934 : decode cL_law 934 = .ok (.ifCond .ne 15, 3) := by decide +kernel
theorem dL_law_937 : decode cL_law 937 = .ok (.aload_n 3, 1) := by decide +kernel
theorem dL_law_938 : decode cL_law 938 = .ok (.iconst 0, 1) := by decide +kernel
theorem dL_law_939 : decode cL_law 939 = .ok (.laload, 1) := by decide +kernel
theorem dL_law_940 : decode cL_law 940 = .ok (.iload 6, 2) := by decide +kernel
theorem dL_law_942 : decode cL_law 942 = .ok (.i2l, 1) := by decide +kernel
theorem dL_law_943 : decode cL_law 943 = .ok (.lcmp, 1) := by decide +kernel
theorem dL_law_944 : decode cL_law 944 = .ok (.ifCond .eq 5, 3) := by decide +kernel
theorem dL_law_947 : decode cL_law 947 = .ok (.iconst 0, 1) := by decide +kernel
theorem dL_law_948 : decode cL_law 948 = .ok (.ireturn, 1) := by decide +kernel
theorem dL_law_949 : decode cL_law 949 = .ok (.goto 260, 3) := by decide +kernel
theorem dL_law_952 : decode cL_law 952 = .ok (.aload_n 1, 1) := by decide +kernel
theorem dL_law_953 : decode cL_law 953 = .ok (.aload_n 0, 1) := by decide +kernel
theorem dL_law_954 : decode cL_law 954 = .ok (.iload 4, 2) := by decide +kernel
theorem dL_law_956 : decode cL_law 956 = .ok (.iconst 1, 1) := by decide +kernel
theorem dL_law_957 : decode cL_law 957 = .ok (.iadd, 1) := by decide +kernel
theorem dL_law_958 : decode cL_law 958 = .ok (.iaload, 1) := by decide +kernel
theorem dL_law_959 : decode cL_law 959 = .ok (.aload_n 0, 1) := by decide +kernel
theorem dL_law_960 : decode cL_law 960 = .ok (.iload 4, 2) := by decide +kernel
theorem dL_law_962 : decode cL_law 962 = .ok (.iconst 2, 1) := by decide +kernel
theorem dL_law_963 : decode cL_law 963 = .ok (.iadd, 1) := by decide +kernel
theorem dL_law_964 : decode cL_law 964 = .ok (.iaload, 1) := by decide +kernel
theorem dL_law_965 : decode cL_law 965 = .ok (.aload_n 3, 1) := by decide +kernel
theorem dL_law_966 : decode cL_law 966 = .ok (.invokestatic 134, 3) := by decide +kernel
theorem dL_law_969 : decode cL_law 969 = .ok (.istore 5, 2) := by decide +kernel
theorem dL_law_971 : decode cL_law 971 = .ok (.aload_n 2, 1) := by decide +kernel
theorem dL_law_972 : decode cL_law 972 = .ok (.aload_n 0, 1) := by decide +kernel
theorem dL_law_973 : decode cL_law 973 = .ok (.iload 4, 2) := by decide +kernel
theorem dL_law_975 : decode cL_law 975 = .ok (.iconst 1, 1) := by decide +kernel
theorem dL_law_976 : decode cL_law 976 = .ok (.iadd, 1) := by decide +kernel
theorem dL_law_977 : decode cL_law 977 = .ok (.iaload, 1) := by decide +kernel
theorem dL_law_978 : decode cL_law 978 = .ok (.aload_n 0, 1) := by decide +kernel
theorem dL_law_979 : decode cL_law 979 = .ok (.iload 4, 2) := by decide +kernel
theorem dL_law_981 : decode cL_law 981 = .ok (.iconst 2, 1) := by decide +kernel
theorem dL_law_982 : decode cL_law 982 = .ok (.iadd, 1) := by decide +kernel
theorem dL_law_983 : decode cL_law 983 = .ok (.iaload, 1) := by decide +kernel
theorem dL_law_984 : decode cL_law 984 = .ok (.invokevirtual 136, 3) := by decide +kernel
theorem dL_law_987 : decode cL_law 987 = .ok (.istore 6, 2) := by decide +kernel
theorem dL_law_989 : decode cL_law 989 = .ok (.aload_n 2, 1) := by decide +kernel
theorem dL_law_990 : decode cL_law 990 = .ok (.invokevirtual 84, 3) := by decide +kernel
theorem dL_law_993 : decode cL_law 993 = .ok (.iload 5, 2) := by decide +kernel
theorem dL_law_995 : decode cL_law 995 = .ok (.if_icmp .eq 5, 3) := by decide +kernel
theorem dL_law_998 : decode cL_law 998 = .ok (.iconst 0, 1) := by decide +kernel
theorem dL_law_999 : decode cL_law 999 = .ok (.ireturn, 1) := by decide +kernel
theorem dL_law_1000 : decode cL_law 1000 = .ok (.iload 5, 2) := by decide +kernel
theorem dL_law_1002 : decode cL_law 1002 = .ok (.ifCond .ne 15, 3) := by decide +kernel
theorem dL_law_1005 : decode cL_law 1005 = .ok (.aload_n 3, 1) := by decide +kernel
theorem dL_law_1006 : decode cL_law 1006 = .ok (.iconst 0, 1) := by decide +kernel
theorem dL_law_1007 : decode cL_law 1007 = .ok (.laload, 1) := by decide +kernel
theorem dL_law_1008 : decode cL_law 1008 = .ok (.iload 6, 2) := by decide +kernel
theorem dL_law_1010 : decode cL_law 1010 = .ok (.i2l, 1) := by decide +kernel
theorem dL_law_1011 : decode cL_law 1011 = .ok (.lcmp, 1) := by decide +kernel
theorem dL_law_1012 : decode cL_law 1012 = .ok (.ifCond .eq 5, 3) := by decide +kernel
theorem dL_law_1015 : decode cL_law 1015 = .ok (.iconst 0, 1) := by decide +kernel
theorem dL_law_1016 : decode cL_law 1016 = .ok (.ireturn, 1) := by decide +kernel
theorem dL_law_1017 : decode cL_law 1017 = .ok (.goto 192, 3) := by decide +kernel
theorem dL_law_1020 : decode cL_law 1020 = .ok (.aload_n 1, 1) := by decide +kernel
theorem dL_law_1021 : decode cL_law 1021 = .ok (.aload_n 0, 1) := by decide +kernel
theorem dL_law_1022 : decode cL_law 1022 = .ok (.iload 4, 2) := by decide +kernel
theorem dL_law_1024 : decode cL_law 1024 = .ok (.iconst 1, 1) := by decide +kernel
theorem dL_law_1025 : decode cL_law 1025 = .ok (.iadd, 1) := by decide +kernel
theorem dL_law_1026 : decode cL_law 1026 = .ok (.iaload, 1) := by decide +kernel
theorem dL_law_1027 : decode cL_law 1027 = .ok (.aload_n 0, 1) := by decide +kernel
theorem dL_law_1028 : decode cL_law 1028 = .ok (.iload 4, 2) := by decide +kernel
theorem dL_law_1030 : decode cL_law 1030 = .ok (.iconst 2, 1) := by decide +kernel
theorem dL_law_1031 : decode cL_law 1031 = .ok (.iadd, 1) := by decide +kernel
theorem dL_law_1032 : decode cL_law 1032 = .ok (.iaload, 1) := by decide +kernel
theorem dL_law_1033 : decode cL_law 1033 = .ok (.aload_n 3, 1) := by decide +kernel
theorem dL_law_1034 : decode cL_law 1034 = .ok (.invokestatic 137, 3) := by decide +kernel
theorem dL_law_1037 : decode cL_law 1037 = .ok (.istore 5, 2) := by decide +kernel
theorem dL_law_1039 : decode cL_law 1039 = .ok (.aload_n 2, 1) := by decide +kernel
theorem dL_law_1040 : decode cL_law 1040 = .ok (.aload_n 0, 1) := by decide +kernel
theorem dL_law_1041 : decode cL_law 1041 = .ok (.iload 4, 2) := by decide +kernel
theorem dL_law_1043 : decode cL_law 1043 = .ok (.iconst 1, 1) := by decide +kernel
theorem dL_law_1044 : decode cL_law 1044 = .ok (.iadd, 1) := by decide +kernel
theorem dL_law_1045 : decode cL_law 1045 = .ok (.iaload, 1) := by decide +kernel
theorem dL_law_1046 : decode cL_law 1046 = .ok (.aload_n 0, 1) := by decide +kernel
theorem dL_law_1047 : decode cL_law 1047 = .ok (.iload 4, 2) := by decide +kernel
theorem dL_law_1049 : decode cL_law 1049 = .ok (.iconst 2, 1) := by decide +kernel
theorem dL_law_1050 : decode cL_law 1050 = .ok (.iadd, 1) := by decide +kernel
theorem dL_law_1051 : decode cL_law 1051 = .ok (.iaload, 1) := by decide +kernel
theorem dL_law_1052 : decode cL_law 1052 = .ok (.invokevirtual 139, 3) := by decide +kernel
theorem dL_law_1055 : decode cL_law 1055 = .ok (.lstore 6, 2) := by decide +kernel
theorem dL_law_1057 : decode cL_law 1057 = .ok (.aload_n 2, 1) := by decide +kernel
theorem dL_law_1058 : decode cL_law 1058 = .ok (.invokevirtual 84, 3) := by decide +kernel
theorem dL_law_1061 : decode cL_law 1061 = .ok (.iload 5, 2) := by decide +kernel
theorem dL_law_1063 : decode cL_law 1063 = .ok (.if_icmp .eq 5, 3) := by decide +kernel
theorem dL_law_1066 : decode cL_law 1066 = .ok (.iconst 0, 1) := by decide +kernel
theorem dL_law_1067 : decode cL_law 1067 = .ok (.ireturn, 1) := by decide +kernel
theorem dL_law_1068 : decode cL_law 1068 = .ok (.iload 5, 2) := by decide +kernel
theorem dL_law_1070 : decode cL_law 1070 = .ok (.ifCond .ne 14, 3) := by decide +kernel
theorem dL_law_1073 : decode cL_law 1073 = .ok (.aload_n 3, 1) := by decide +kernel
theorem dL_law_1074 : decode cL_law 1074 = .ok (.iconst 0, 1) := by decide +kernel
theorem dL_law_1075 : decode cL_law 1075 = .ok (.laload, 1) := by decide +kernel
theorem dL_law_1076 : decode cL_law 1076 = .ok (.lload 6, 2) := by decide +kernel
theorem dL_law_1078 : decode cL_law 1078 = .ok (.lcmp, 1) := by decide +kernel
theorem dL_law_1079 : decode cL_law 1079 = .ok (.ifCond .eq 5, 3) := by decide +kernel
theorem dL_law_1082 : decode cL_law 1082 = .ok (.iconst 0, 1) := by decide +kernel
theorem dL_law_1083 : decode cL_law 1083 = .ok (.ireturn, 1) := by decide +kernel
theorem dL_law_1084 : decode cL_law 1084 = .ok (.goto 125, 3) := by decide +kernel
theorem dL_law_1087 : decode cL_law 1087 = .ok (.aload_n 1, 1) := by decide +kernel
theorem dL_law_1088 : decode cL_law 1088 = .ok (.aload_n 0, 1) := by decide +kernel
theorem dL_law_1089 : decode cL_law 1089 = .ok (.iload 4, 2) := by decide +kernel
theorem dL_law_1091 : decode cL_law 1091 = .ok (.iconst 1, 1) := by decide +kernel
theorem dL_law_1092 : decode cL_law 1092 = .ok (.iadd, 1) := by decide +kernel
theorem dL_law_1093 : decode cL_law 1093 = .ok (.iaload, 1) := by decide +kernel
theorem dL_law_1094 : decode cL_law 1094 = .ok (.aload_n 0, 1) := by decide +kernel
theorem dL_law_1095 : decode cL_law 1095 = .ok (.iload 4, 2) := by decide +kernel
theorem dL_law_1097 : decode cL_law 1097 = .ok (.iconst 2, 1) := by decide +kernel
theorem dL_law_1098 : decode cL_law 1098 = .ok (.iadd, 1) := by decide +kernel
theorem dL_law_1099 : decode cL_law 1099 = .ok (.iaload, 1) := by decide +kernel
theorem dL_law_1100 : decode cL_law 1100 = .ok (.aload_n 3, 1) := by decide +kernel
theorem dL_law_1101 : decode cL_law 1101 = .ok (.invokestatic 140, 3) := by decide +kernel
theorem dL_law_1104 : decode cL_law 1104 = .ok (.istore 5, 2) := by decide +kernel
theorem dL_law_1106 : decode cL_law 1106 = .ok (.aload_n 2, 1) := by decide +kernel
theorem dL_law_1107 : decode cL_law 1107 = .ok (.aload_n 0, 1) := by decide +kernel
theorem dL_law_1108 : decode cL_law 1108 = .ok (.iload 4, 2) := by decide +kernel
theorem dL_law_1110 : decode cL_law 1110 = .ok (.iconst 1, 1) := by decide +kernel
theorem dL_law_1111 : decode cL_law 1111 = .ok (.iadd, 1) := by decide +kernel
theorem dL_law_1112 : decode cL_law 1112 = .ok (.iaload, 1) := by decide +kernel
theorem dL_law_1113 : decode cL_law 1113 = .ok (.aload_n 0, 1) := by decide +kernel
theorem dL_law_1114 : decode cL_law 1114 = .ok (.iload 4, 2) := by decide +kernel
theorem dL_law_1116 : decode cL_law 1116 = .ok (.iconst 2, 1) := by decide +kernel
theorem dL_law_1117 : decode cL_law 1117 = .ok (.iadd, 1) := by decide +kernel
theorem dL_law_1118 : decode cL_law 1118 = .ok (.iaload, 1) := by decide +kernel
theorem dL_law_1119 : decode cL_law 1119 = .ok (.invokevirtual 142, 3) := by decide +kernel
theorem dL_law_1122 : decode cL_law 1122 = .ok (.lstore 6, 2) := by decide +kernel
theorem dL_law_1124 : decode cL_law 1124 = .ok (.aload_n 2, 1) := by decide +kernel
theorem dL_law_1125 : decode cL_law 1125 = .ok (.invokevirtual 84, 3) := by decide +kernel
theorem dL_law_1128 : decode cL_law 1128 = .ok (.iload 5, 2) := by decide +kernel
theorem dL_law_1130 : decode cL_law 1130 = .ok (.if_icmp .eq 5, 3) := by decide +kernel
theorem dL_law_1133 : decode cL_law 1133 = .ok (.iconst 0, 1) := by decide +kernel
theorem dL_law_1134 : decode cL_law 1134 = .ok (.ireturn, 1) := by decide +kernel
theorem dL_law_1135 : decode cL_law 1135 = .ok (.iload 5, 2) := by decide +kernel
theorem dL_law_1137 : decode cL_law 1137 = .ok (.ifCond .ne 14, 3) := by decide +kernel
theorem dL_law_1140 : decode cL_law 1140 = .ok (.aload_n 3, 1) := by decide +kernel
theorem dL_law_1141 : decode cL_law 1141 = .ok (.iconst 0, 1) := by decide +kernel
theorem dL_law_1142 : decode cL_law 1142 = .ok (.laload, 1) := by decide +kernel
theorem dL_law_1143 : decode cL_law 1143 = .ok (.lload 6, 2) := by decide +kernel
theorem dL_law_1145 : decode cL_law 1145 = .ok (.lcmp, 1) := by decide +kernel
theorem dL_law_1146 : decode cL_law 1146 = .ok (.ifCond .eq 5, 3) := by decide +kernel
theorem dL_law_1149 : decode cL_law 1149 = .ok (.iconst 0, 1) := by decide +kernel
theorem dL_law_1150 : decode cL_law 1150 = .ok (.ireturn, 1) := by decide +kernel
theorem dL_law_1151 : decode cL_law 1151 = .ok (.goto 58, 3) := by decide +kernel
theorem dL_law_1154 : decode cL_law 1154 = .ok (.aload_n 1, 1) := by decide +kernel
theorem dL_law_1155 : decode cL_law 1155 = .ok (.aload_n 0, 1) := by decide +kernel
theorem dL_law_1156 : decode cL_law 1156 = .ok (.iload 4, 2) := by decide +kernel
theorem dL_law_1158 : decode cL_law 1158 = .ok (.iconst 1, 1) := by decide +kernel
theorem dL_law_1159 : decode cL_law 1159 = .ok (.iadd, 1) := by decide +kernel
theorem dL_law_1160 : decode cL_law 1160 = .ok (.iaload, 1) := by decide +kernel
theorem dL_law_1161 : decode cL_law 1161 = .ok (.aload_n 3, 1) := by decide +kernel
theorem dL_law_1162 : decode cL_law 1162 = .ok (.invokestatic 143, 3) := by decide +kernel
theorem dL_law_1165 : decode cL_law 1165 = .ok (.istore 5, 2) := by decide +kernel
theorem dL_law_1167 : decode cL_law 1167 = .ok (.aload_n 2, 1) := by decide +kernel
theorem dL_law_1168 : decode cL_law 1168 = .ok (.aload_n 0, 1) := by decide +kernel
theorem dL_law_1169 : decode cL_law 1169 = .ok (.iload 4, 2) := by decide +kernel
theorem dL_law_1171 : decode cL_law 1171 = .ok (.iconst 1, 1) := by decide +kernel
theorem dL_law_1172 : decode cL_law 1172 = .ok (.iadd, 1) := by decide +kernel
theorem dL_law_1173 : decode cL_law 1173 = .ok (.iaload, 1) := by decide +kernel
theorem dL_law_1174 : decode cL_law 1174 = .ok (.invokevirtual 145, 3) := by decide +kernel
theorem dL_law_1177 : decode cL_law 1177 = .ok (.lstore 6, 2) := by decide +kernel
theorem dL_law_1179 : decode cL_law 1179 = .ok (.aload_n 2, 1) := by decide +kernel
theorem dL_law_1180 : decode cL_law 1180 = .ok (.invokevirtual 84, 3) := by decide +kernel
theorem dL_law_1183 : decode cL_law 1183 = .ok (.iload 5, 2) := by decide +kernel
theorem dL_law_1185 : decode cL_law 1185 = .ok (.if_icmp .eq 5, 3) := by decide +kernel
theorem dL_law_1188 : decode cL_law 1188 = .ok (.iconst 0, 1) := by decide +kernel
theorem dL_law_1189 : decode cL_law 1189 = .ok (.ireturn, 1) := by decide +kernel
theorem dL_law_1190 : decode cL_law 1190 = .ok (.iload 5, 2) := by decide +kernel
theorem dL_law_1192 : decode cL_law 1192 = .ok (.ifCond .ne 14, 3) := by decide +kernel
theorem dL_law_1195 : decode cL_law 1195 = .ok (.aload_n 3, 1) := by decide +kernel
theorem dL_law_1196 : decode cL_law 1196 = .ok (.iconst 0, 1) := by decide +kernel
theorem dL_law_1197 : decode cL_law 1197 = .ok (.laload, 1) := by decide +kernel
theorem dL_law_1198 : decode cL_law 1198 = .ok (.lload 6, 2) := by decide +kernel
theorem dL_law_1200 : decode cL_law 1200 = .ok (.lcmp, 1) := by decide +kernel
theorem dL_law_1201 : decode cL_law 1201 = .ok (.ifCond .eq 5, 3) := by decide +kernel
theorem dL_law_1204 : decode cL_law 1204 = .ok (.iconst 0, 1) := by decide +kernel
theorem dL_law_1205 : decode cL_law 1205 = .ok (.ireturn, 1) := by decide +kernel
theorem dL_law_1206 : decode cL_law 1206 = .ok (.goto 3, 3) := by decide +kernel
theorem dL_law_1209 : decode cL_law 1209 = .ok (.iinc 4 4, 3) := by decide +kernel
theorem dL_law_1212 : decode cL_law 1212 = .ok (.goto (-1189), 3) := by decide +kernel
theorem dL_law_1215 : decode cL_law 1215 = .ok (.iconst 1, 1) := by decide +kernel
theorem dL_law_1216 : decode cL_law 1216 = .ok (.ireturn, 1) := by decide +kernel
abbrev vwCl : List vw_C := [(RX0, TX0, 13), (RX1, TX1, 4), (RX2, TX2, 18)]
end
section
/-! the pure side: what an annuity is worth, in natural numbers. an : 0 start, 1 amount, 2 guarantee, 3 percent, 4 steps on first (1) or not (0), 5 cap, 6 price, 7 protected percent, 8 and 9 the deaths (240: not told) -/
def jcl (w : Int32) (ca : Nat) : Nat := if w < 0 then 0 else if nI ca < w then ca else w.toNatClampNeg
def jgr (am ca y : Nat) (iv : Nat → Int32) : Nat → Nat × Int32
  | 0 => (am, 0)
  | a + 1 => if y + a < 20 then ((jgr am ca y iv a).1 + (jgr am ca y iv a).1 * jcl (iv (y + a) + (jgr am ca y iv a).2) ca / 1000, iv (y + a) + (jgr am ca y iv a).2 - nI (jcl (iv (y + a) + (jgr am ca y iv a).2) ca)) else jgr am ca y iv a
def jF (an : Nat → Nat) (iv : Nat → Int32) (a : Nat) : Nat := (jgr (an 1) (an 5) (an 0 / 12) iv a).1
def jC (an : Nat → Nat) (iv : Nat → Int32) (a : Nat) : Int32 := (jgr (an 1) (an 5) (an 0 / 12) iv a).2
def jM (an : Nat → Nat) (iv : Nat → Int32) (k : Nat) : Nat := jF an iv ((k - an 0) / 12)
def jS (an : Nat → Nat) (iv : Nat → Int32) (k : Nat) : Nat :=
  if k < an 0 + an 2 then jM an iv k
  else if k ≤ an 8 then (if k ≤ an 9 then jM an iv k else if an 4 = 0 then jM an iv k else jM an iv k * an 3 / 100)
  else if k ≤ an 9 then jM an iv k * an 3 / 100 else 0
def jT (an : Nat → Nat) (iv : Nat → Int32) : Nat → Nat
  | 0 => 0
  | e + 1 => jT an iv e + (if an 0 ≤ e then jS an iv e else 0)
def jP (an : Nat → Nat) : Nat := if an 8 = 240 ∨ an 9 = 240 then 240 else min (max (max (an 8) (an 9) + 1) (an 0 + an 2)) 240
def jQ (an : Nat → Nat) (iv : Nat → Int32) : Nat := if jP an = 240 then 0 else an 6 * an 7 / 100 - jT an iv (jP an)
def jU (an : Nat → Nat) (iv : Nat → Int32) (e : Nat) : Nat := jT an iv e + (if jP an < e then jQ an iv else 0)
/-- an annuity's numbers are in range -/
def jV (an : Nat → Nat) : Prop := an 0 < 240 ∧ an 1 ≤ 100000 ∧ an 2 ≤ 240 ∧ an 3 ≤ 100 ∧ an 4 ≤ 1 ∧ an 5 ≤ 200 ∧ an 6 ≤ 10000000 ∧ an 7 ≤ 100 ∧ an 8 ≤ 240 ∧ an 9 ≤ 240
def jB : Nat → Nat
  | 0 => 100000
  | a + 1 => jB a + jB a * 200 / 1000
theorem jB_mono (a b : Nat) (h : a ≤ b) : jB a ≤ jB b := by
  induction b with
  | zero =>
    have : a = 0 := by omega
    subst this
    exact Nat.le_refl _
  | succ b ih =>
    by_cases h1 : a = b + 1
    · subst h1; exact Nat.le_refl _
    · have h2 := ih (by omega)
      show jB a ≤ jB b + jB b * 200 / 1000
      omega
theorem jB19 : jB 19 ≤ 3200000 := by decide +kernel
theorem nI_toNat {w : Int32} (h : ¬ w < 0) : w = nI w.toNatClampNeg := by
  obtain ⟨j, hj, rfl⟩ := nI_of h
  rw [nI_clamp hj]
theorem jcl_le (w : Int32) {ca : Nat} (hc : ca < 2 ^ 31) : jcl w ca ≤ ca := by
  unfold jcl
  by_cases h1 : w < 0
  · rw [if_pos h1]; exact Nat.zero_le _
  · rw [if_neg h1]
    by_cases h2 : nI ca < w
    · rw [if_pos h2]; exact Nat.le_refl _
    · rw [if_neg h2]
      obtain ⟨j, hj, rfl⟩ := nI_of h1
      rw [nI_clamp hj]
      rw [nI_ltI hc hj] at h2
      omega
theorem jF_le {an : Nat → Nat} (hv : jV an) (iv : Nat → Int32) (a : Nat) : jF an iv a ≤ jB a := by
  obtain ⟨h0, h1, -, -, -, h5, -⟩ := hv
  unfold jF
  induction a with
  | zero => exact h1
  | succ a ih =>
    have hc := jcl_le (iv (an 0 / 12 + a) + (jgr (an 1) (an 5) (an 0 / 12) iv a).2) (ca := an 5) (by omega)
    show (if _ then _ else _ : Nat × Int32).1 ≤ jB a + jB a * 200 / 1000
    split
    · generalize jcl (iv (an 0 / 12 + a) + (jgr (an 1) (an 5) (an 0 / 12) iv a).2) (an 5) = x at hc ⊢
      generalize (jgr (an 1) (an 5) (an 0 / 12) iv a).1 = f at ih ⊢
      have h9 : f * x ≤ jB a * 200 := Nat.mul_le_mul ih (by omega)
      show f + f * x / 1000 ≤ _
      have := Nat.div_le_div_right (c := 1000) h9
      omega
    · omega
theorem jF_bd {an : Nat → Nat} (hv : jV an) (iv : Nat → Int32) {a : Nat} (ha : a ≤ 19) : jF an iv a ≤ 3200000 := Nat.le_trans (jF_le hv iv a) (Nat.le_trans (jB_mono a 19 ha) jB19)
theorem jM_bd {an : Nat → Nat} (hv : jV an) (iv : Nat → Int32) {k : Nat} (hk : k < 240) : jM an iv k ≤ 3200000 := jF_bd hv iv (by omega)
theorem jpct {f p : Nat} (hf : f ≤ 3200000) (hp : p ≤ 100) : f * p ≤ 320000000 ∧ f * p / 100 ≤ 3200000 := by
  have h := Nat.mul_le_mul hf hp
  omega
theorem jS_bd {an : Nat → Nat} (hv : jV an) (iv : Nat → Int32) {k : Nat} (hk : k < 240) : jS an iv k ≤ 3200000 := by
  have h1 := jM_bd hv iv hk
  have h2 := (jpct h1 hv.2.2.2.1).2
  unfold jS
  split
  · exact h1
  · split
    · split
      · exact h1
      · split
        · exact h1
        · exact h2
    · split
      · exact h2
      · exact Nat.zero_le _
theorem jT_bd {an : Nat → Nat} (hv : jV an) (iv : Nat → Int32) {e : Nat} (he : e ≤ 240) : jT an iv e ≤ e * 3200000 := by
  induction e with
  | zero => exact Nat.le_refl _
  | succ e ih =>
    have h1 := ih (by omega)
    have h2 := jS_bd hv iv (k := e) (by omega)
    show jT an iv e + (if an 0 ≤ e then jS an iv e else 0) ≤ (e + 1) * 3200000
    rw [Nat.succ_mul]
    by_cases h : an 0 ≤ e
    · rw [if_pos h]; exact Nat.add_le_add h1 h2
    · rw [if_neg h]; exact Nat.le_trans h1 (Nat.le_add_right _ _)
theorem jT_le {an : Nat → Nat} (hv : jV an) (iv : Nat → Int32) {e : Nat} (he : e ≤ 240) : jT an iv e ≤ 768000000 := by
  have := jT_bd hv iv he
  omega
theorem jT_0 (an : Nat → Nat) (iv : Nat → Int32) {e : Nat} (he : e ≤ an 0) : jT an iv e = 0 := by
  induction e with
  | zero => rfl
  | succ e ih =>
    show jT an iv e + (if an 0 ≤ e then jS an iv e else 0) = 0
    rw [ih (by omega), if_neg (by omega)]
theorem jT_s (an : Nat → Nat) (iv : Nat → Int32) {e : Nat} (he : an 0 ≤ e) : jT an iv (e + 1) = jT an iv e + jS an iv e := by
  show jT an iv e + (if an 0 ≤ e then jS an iv e else 0) = _
  rw [if_pos he]
theorem jP_le (an : Nat → Nat) : jP an ≤ 240 := by
  unfold jP
  split
  · exact Nat.le_refl _
  · exact Nat.min_le_right _ _
theorem jP_ge (an : Nat → Nat) (h : an 0 < 240) : an 0 ≤ jP an := by
  unfold jP
  split
  · omega
  · omega
theorem jpr {a b : Nat} (ha : a ≤ 10000000) (hb : b ≤ 100) : a * b ≤ 1000000000 := Nat.mul_le_mul ha hb
theorem jQ_le {an : Nat → Nat} (hv : jV an) (iv : Nat → Int32) : jQ an iv ≤ 10000000 := by
  have h := jpr hv.2.2.2.2.2.2.1 hv.2.2.2.2.2.2.2.1
  unfold jQ
  split
  · omega
  · omega
theorem jU_le {an : Nat → Nat} (hv : jV an) (iv : Nat → Int32) {e : Nat} (he : e ≤ 240) : jU an iv e ≤ 778000000 := by
  have h1 := jT_le hv iv he
  have h2 := jQ_le hv iv
  unfold jU
  split <;> omega
/-- one month more, the protection in it -/
theorem jU_s {an : Nat → Nat} (iv : Nat → Int32) {e : Nat} (hs : an 0 ≤ e) (he : e < 240) : jU an iv (e + 1) = (if e = jP an ∧ jU an iv e < an 6 * an 7 / 100 then an 6 * an 7 / 100 else jU an iv e) + jS an iv e := by
  have h1 := jT_s an iv hs
  unfold jU
  rw [h1]
  generalize jS an iv e = x
  rcases Nat.lt_trichotomy e (jP an) with h | h | h
  · rw [if_neg (show ¬ jP an < e + 1 by omega), if_neg (show ¬ jP an < e by omega), if_neg (fun q => absurd q.1 (by omega))]
    omega
  · have h3 : jQ an iv = an 6 * an 7 / 100 - jT an iv e := by
      unfold jQ
      rw [if_neg (by omega), ← h]
    rw [if_pos (show jP an < e + 1 by omega), if_neg (show ¬ jP an < e by omega), h3]
    generalize an 6 * an 7 / 100 = y
    generalize jT an iv e = z
    by_cases h4 : z + 0 < y
    · rw [if_pos ⟨h, h4⟩]; omega
    · rw [if_neg (fun q => h4 q.2)]; omega
  · rw [if_pos (show jP an < e + 1 by omega), if_pos (show jP an < e by omega), if_neg (fun q => absurd q.1 (by omega))]
    omega
theorem jU_0 {an : Nat → Nat} (iv : Nat → Int32) {e : Nat} (h : an 0 < 240) (he : e ≤ an 0) : jU an iv e = 0 := by
  have := jP_ge an h
  unfold jU
  rw [jT_0 an iv he, if_neg (by omega)]
theorem jgr_0 (am ca y : Nat) (iv : Nat → Int32) : jgr am ca y iv 0 = (am, 0) := rfl
theorem jF_0 (an : Nat → Nat) (iv : Nat → Int32) : jF an iv 0 = an 1 := rfl
theorem jC_0 (an : Nat → Nat) (iv : Nat → Int32) : jC an iv 0 = 0 := rfl
theorem jF_s (an : Nat → Nat) (iv : Nat → Int32) {a : Nat} (h : an 0 / 12 + a < 20) : jF an iv (a + 1) = jF an iv a + jF an iv a * jcl (iv (an 0 / 12 + a) + jC an iv a) (an 5) / 1000 := by
  unfold jF jC
  show (if _ then _ else _ : Nat × Int32).1 = _
  rw [if_pos h]
theorem jC_s (an : Nat → Nat) (iv : Nat → Int32) {a : Nat} (h : an 0 / 12 + a < 20) : jC an iv (a + 1) = iv (an 0 / 12 + a) + jC an iv a - nI (jcl (iv (an 0 / 12 + a) + jC an iv a) (an 5)) := by
  unfold jC
  show (if _ then _ else _ : Nat × Int32).2 = _
  rw [if_pos h]
theorem jF_n (an : Nat → Nat) (iv : Nat → Int32) {a : Nat} (h : ¬ an 0 / 12 + a < 20) : jF an iv (a + 1) = jF an iv a := by
  unfold jF
  show (if _ then _ else _ : Nat × Int32).1 = _
  rw [if_neg h]
theorem jC_n (an : Nat → Nat) (iv : Nat → Int32) {a : Nat} (h : ¬ an 0 / 12 + a < 20) : jC an iv (a + 1) = jC an iv a := by
  unfold jC
  show (if _ then _ else _ : Nat × Int32).2 = _
  rw [if_neg h]
/-- the increase as the class has it, and as the reference has it -/
theorem jcl_A (w : Int32) {ca : Nat} (hc : ca < 2 ^ 31) : (if (0 : Int32) < (if nI ca < w then nI ca else w) then (if nI ca < w then nI ca else w) else 0) = nI (jcl w ca) := by
  unfold jcl
  by_cases h1 : w < 0
  · have h2 : ¬ nI ca < w := by
      intro h
      have h3 := nI_pos' hc
      rw [Int32.lt_iff_toInt_lt] at h h1
      rw [Int32.le_iff_toInt_le] at h3
      omega
    rw [if_pos h1, if_neg h2, if_neg]
    · rfl
    · intro h
      rw [Int32.lt_iff_toInt_lt] at h h1
      omega
  · rw [if_neg h1]
    obtain ⟨j, hj, rfl⟩ := nI_of h1
    rw [nI_clamp hj]
    by_cases h2 : nI ca < nI j
    · rw [if_pos h2, if_pos h2]
      by_cases h3 : ca = 0
      · subst h3
        rfl
      · rw [if_pos]
        rw [← nI_0, nI_ltI (by omega) hc]
        omega
    · rw [if_neg h2, if_neg h2]
      by_cases h3 : j = 0
      · subst h3
        rfl
      · rw [if_pos]
        rw [← nI_0, nI_ltI (by omega) hj]
        omega
theorem jcl_M (w : Int32) {ca : Nat} (hc : ca < 2 ^ 31) : (if w ≤ nI ca then (if (0 : Int32) ≤ w then w else 0) else nI ca) = nI (jcl w ca) := by
  unfold jcl
  by_cases h1 : w < 0
  · have h3 := nI_pos' hc
    rw [if_pos h1, if_pos, if_neg]
    · rfl
    · intro h
      rw [Int32.lt_iff_toInt_lt] at h1
      rw [Int32.le_iff_toInt_le] at h
      omega
    · rw [Int32.lt_iff_toInt_lt] at h1
      rw [Int32.le_iff_toInt_le] at h3 ⊢
      omega
  · rw [if_neg h1]
    obtain ⟨j, hj, rfl⟩ := nI_of h1
    rw [nI_clamp hj]
    by_cases h2 : nI ca < nI j
    · rw [if_pos h2, if_neg]
      rw [nI_ltI hc hj] at h2
      rw [nI_leI hj hc]
      omega
    · rw [if_neg h2, if_pos, if_pos (nI_pos' hj)]
      rw [nI_ltI hc hj] at h2
      rw [nI_leI hj hc]
      omega
/-- the growth in ints -/
theorem jgrow {f i : Nat} (hf : f ≤ 3200000) (hi : i ≤ 200) : nI f + nI f * nI i / 1000 = nI (f + f * i / 1000) := by
  have h := Nat.mul_le_mul hf hi
  rw [pk_mul, show (1000 : Int32) = nI 1000 from rfl, pk_div (by omega) (by omega) (by omega), nI_add]
theorem jpctI {f p : Nat} (hf : f ≤ 3200000) (hp : p ≤ 100) : nI f * nI p / 100 = nI (f * p / 100) := by
  have h := Nat.mul_le_mul hf hp
  rw [pk_mul, show (100 : Int32) = nI 100 from rfl, pk_div (by omega) (by omega) (by omega)]
theorem jpctL {f p : Nat} (hf : f ≤ 3200000) (hp : p ≤ 100) : lN f * lN p / 100 = lN (f * p / 100) := by
  have h := Nat.mul_le_mul hf hp
  rw [lN_mul, show (100 : Int64) = lN 100 from rfl, pk_lDiv (by omega) (by omega) (by omega)]
theorem jprI {f p : Nat} (hf : f ≤ 10000000) (hp : p ≤ 100) : nI f * nI p / 100 = nI (f * p / 100) := by
  have h := Nat.mul_le_mul hf hp
  rw [pk_mul, show (100 : Int32) = nI 100 from rfl, pk_div (by omega) (by omega) (by omega)]
theorem jprL {f p : Nat} (hf : f ≤ 10000000) (hp : p ≤ 100) : lN f * lN p / 100 = lN (f * p / 100) := by
  have h := Nat.mul_le_mul hf hp
  rw [lN_mul, show (100 : Int64) = lN 100 from rfl, pk_lDiv (by omega) (by omega) (by omega)]
/-- the larger of 0 and a difference of longs that are small -/
theorem jmaxL {a b : Nat} (ha : a < 2 ^ 31) (hb : b < 2 ^ 31) : (if lN a - lN b < (0 : Int64) then (0 : Int64) else lN a - lN b) = lN (a - b) := by
  by_cases h : b ≤ a
  · rw [lN_sub h, if_neg]
    rw [show (0 : Int64) = lN 0 from rfl, lN_lt (by omega) (by omega)]
    omega
  · have e : lN a - lN b = -(lN (b - a)) := by
      rw [← lN_sub (show a ≤ b by omega), Int64.neg_sub]
    have h0 : (-(lN (b - a))).toInt = -((b - a : Nat) : Int) := Int64.toInt_neg_ofNat_of_le (n := b - a) (by omega)
    rw [if_pos]
    · rw [show a - b = 0 by omega]; rfl
    · rw [e, Int64.lt_iff_toInt_lt, h0]
      show -((b - a : Nat) : Int) < 0
      omega
theorem jmaxI {a b : Nat} (ha : a < 2 ^ 31) (hb : b < 2 ^ 31) : (if nI a < nI b then nI b else nI a) = nI (max a b) := by
  by_cases h : a < b
  · rw [if_pos ((nI_ltI ha hb).mpr h), Nat.max_eq_right (by omega)]
  · rw [if_neg (fun q => h ((nI_ltI ha hb).mp q)), Nat.max_eq_left (by omega)]
theorem jminI {a b : Nat} (ha : a < 2 ^ 31) (hb : b < 2 ^ 31) : (if nI b < nI a then nI b else nI a) = nI (min a b) := by
  by_cases h : b < a
  · rw [if_pos ((nI_ltI hb ha).mpr h), Nat.min_eq_right (by omega)]
  · rw [if_neg (fun q => h ((nI_ltI hb ha).mp q)), Nat.min_eq_left (by omega)]
theorem jmaxL2 {a b : Nat} (ha : a < 2 ^ 31) (hb : b < 2 ^ 31) : (if lN a - lN b < lN 0 then lN 0 else lN a - lN b) = lN (a - b) := jmaxL ha hb
/-- the larger of 0 and a long -/
def jmx (z : Int64) : Int64 := if z < 0 then 0 else z
theorem jmx_of (z : Int64) : (if z < lN 0 then lN 0 else z) = jmx z := rfl
end
section
/-! my own rows over the kit: heads of contracts, calls, worlds cut out and put back, what a throw needs -/
section JK
variable {p : Program} {l : Launch} {e : Env} {R : Room} {s : State} {m : MethodId} {args : Array Value} {below : List Frame} {meth : Method} {c : Code} {H : Heap} {locs : List Loc} {cells slots : Nat} {Q : State → Prop}
variable {pc : Nat} {ls : Array Slot} {rest st0 : List Value}
/-- a value on top of the stack, written otherwise -/
theorem j_i {x y : Int32} (h : x = y) (k : W p l e R s m args below meth c H locs cells slots Q (F0 m pc ls (.int y :: rest))) : W p l e R s m args below meth c H locs cells slots Q (F0 m pc ls (.int x :: rest)) := h ▸ k
theorem j_l {x y : Int64} (h : x = y) (k : W p l e R s m args below meth c H locs cells slots Q (F0 m pc ls (.long y :: rest))) : W p l e R s m args below meth c H locs cells slots Q (F0 m pc ls (.long x :: rest)) := h ▸ k
/-- several roads meet: the rest is walked once -/
theorem j_join {α : Type} (P : α → Prop) (f : α → JFrame) {g : JFrame} (J : ∀ a, P a → W p l e R s m args below meth c H locs cells slots Q (f a)) (k : (∀ a, P a → W p l e R s m args below meth c H locs cells slots Q (f a)) → W p l e R s m args below meth c H locs cells slots Q g) : W p l e R s m args below meth c H locs cells slots Q g := k J
theorem j_v {x y : Value} (h : x = y) (k : W p l e R s m args below meth c H locs cells slots Q (F0 m pc ls (y :: rest))) : W p l e R s m args below meth c H locs cells slots Q (F0 m pc ls (x :: rest)) := h ▸ k
end JK
section JH
variable {l : Launch} {y : MethodName} {ws ws' : List Cond} {rm : Room} {vs : List Value} {B : State → Prop} {Qc : Array Value → State → Outcome → State → Prop} {XC : String → State → State → Prop} {mc ms : Nat} {free : Addr → Prop} {cc : ByteArray} {maxL : Nat} {ret : Option FieldType} {hh : List (Nat × Nat × Nat × Nat)}
/-- the head of a contract of a method that returns -/
theorem j_of (hy : plainName y.cls = true) (hw : ws = Cond.code y cc maxL ret :: ws') (hlen : (lg_sl vs).length ≤ maxL)
    (body : ∀ (p : Program) (e : Env) (s : State) (m : MethodId) (below : List Frame) (meth : Method) (c : Code) (ls : Array Slot), p.tables.exec = Jvm.exec → c.code = cc → meth.sig.returnType = ret → c.maxLocals = maxL → (∀ w ∈ ws, w.before vs.toArray s = true) → s.vm.findClass y.cls = some m.cls → meth.locks = false → meth.name = y.name → lv_has ls maxL (lv_args 0 vs) → B s →
      W p l e rm s m vs.toArray below meth c s.heap [] 0 0 (MQ below Qc vs.toArray s mc ms free) (F0 m 0 ls [])) : Met l y ws rm (va_Pc vs B) Qc mc ms free := by
  refine Met.ofW (cc := cc) (maxL := maxL) (ret := ret) hy hw ?_
  intro p e s m args below meth c s₁ Bd hml hv
  obtain ⟨rfl, hB⟩ := hv
  rw [lg_entry_eq]
  exact body p e s m below meth c _ Bd.exec Bd.bytes Bd.returns hml (atoms_spec (ws := ws) Bd.pre) (findClass_of_methodNamed Bd.named) Bd.notSynchronized (name_of_methodNamed Bd.named Bd.method).1 (lv_entry vs hlen) hB
/-- .. that returns or throws -/
theorem j_ofx (hy : plainName y.cls = true) (hw : ws = Cond.code y cc maxL ret :: ws') (hlen : (lg_sl vs).length ≤ maxL)
    (body : ∀ (p : Program) (e : Env) (s : State) (m : MethodId) (below : List Frame) (meth : Method) (c : Code) (ls : Array Slot), p.tables.exec = Jvm.exec → c.code = cc → meth.sig.returnType = ret → c.maxLocals = maxL → (∀ w ∈ ws, w.before vs.toArray s = true) → s.vm.findClass y.cls = some m.cls → meth.locks = false → (∀ x ∈ c.exceptionTable.toList, False) → lv_has ls maxL (lv_args 0 vs) → B s →
      W p l e rm s m vs.toArray below meth c s.heap [] 0 0 (vx_MQ below Qc XC vs.toArray s mc ms free) (F0 m 0 ls [])) : vx_Met l y ws rm (va_Pc vs B) Qc XC mc ms free := by
  refine vx_ofW (cc := cc) (maxL := maxL) (ret := ret) hy hw ?_
  intro p e s m args below meth c s₁ Bd hml ht hv
  obtain ⟨rfl, hB⟩ := hv
  rw [lg_entry_eq]
  exact body p e s m below meth c _ Bd.exec Bd.bytes Bd.returns hml (atoms_spec (ws := ws) Bd.pre) (findClass_of_methodNamed Bd.named) Bd.notSynchronized ht (lv_entry vs hlen) hB
/-- .. with handlers -/
theorem j_ofh (hy : plainName y.cls = true) (hw : ws = Cond.codeWith y cc maxL ret hh :: ws') (hlen : (lg_sl vs).length ≤ maxL)
    (body : ∀ (p : Program) (e : Env) (s : State) (m : MethodId) (below : List Frame) (meth : Method) (c : Code) (ls : Array Slot), p.tables.exec = Jvm.exec → c.code = cc → meth.sig.returnType = ret → c.maxLocals = maxL → (∀ w ∈ ws, w.before vs.toArray s = true) → s.vm.findClass y.cls = some m.cls → meth.locks = false → c.exceptionTable.toList = tableOf hh → lv_has ls maxL (lv_args 0 vs) → B s →
      W p l e rm s m vs.toArray below meth c s.heap [] 0 0 (MQ below Qc vs.toArray s mc ms free) (F0 m 0 ls [])) : Met l y ws rm (va_Pc vs B) Qc mc ms free := by
  refine va_MetW (cc := cc) (maxL := maxL) (ret := ret) (hh := hh) hy hw ?_
  intro p e s m args below meth c s₁ Bd hml hv
  obtain ⟨rfl, hB⟩ := hv
  rw [lg_entry_eq]
  have hts := atoms_spec (ws := ws) Bd.pre
  exact body p e s m below meth c _ Bd.exec Bd.bytes Bd.returns hml hts (findClass_of_methodNamed Bd.named) Bd.notSynchronized (vx_table (x := y) Bd (hts _ (by rw [hw]; exact List.mem_cons_self))) (lv_entry vs hlen) hB
end JH
/-! worlds -/
/-- the addresses of a world -/
def jA (ws : va_W) : Nat → Prop := fun q => ∃ (k : Nat) (e : va_E), ws[k]? = some (q, e)
theorem va_D.addr {A : Nat → Prop} {ws wn : va_W} (h : va_D A ws) (ha : ws.map (·.1) = wn.map (·.1)) : va_D A wn := by
  have g : ∀ (k : Nat) (q : Nat × va_E), wn[k]? = some q → ∃ q0, ws[k]? = some q0 ∧ q0.1 = q.1 := by
    intro k q hk
    have h1 : (wn.map (·.1))[k]? = some q.1 := by rw [List.getElem?_map, hk]; rfl
    rw [← ha, List.getElem?_map] at h1
    cases h2 : ws[k]? with
    | none => rw [h2] at h1; cases h1
    | some q0 => rw [h2] at h1; exact ⟨q0, rfl, Option.some.inj h1⟩
  refine ⟨fun i j p q hi hj e => ?_, fun k q hk => ?_⟩
  · obtain ⟨p0, h1, e1⟩ := g i p hi
    obtain ⟨q0, h2, e2⟩ := g j q hj
    exact h.1 i j p0 q0 h1 h2 (by rw [e1, e2]; exact e)
  · obtain ⟨q0, h1, e1⟩ := g k q hk
    rw [← e1]
    exact h.2 k q0 h1
theorem va_D.jA {A : Nat → Prop} {ws : va_W} (h : va_D A ws) : va_D (jA ws) ws := ⟨h.1, fun k q hk => ⟨k, q.2, hk⟩⟩
theorem jA_sub {A : Nat → Prop} {ws wc : va_W} (hD : va_D A ws) (is : List Nat) (hC : is.map (fun i => ws[i]?) = wc.map some) : ∀ q, jA wc q → A q := by
  intro q ⟨k, e, h⟩
  have h1 : (is.map (fun i => ws[i]?))[k]? = some (some (q, e)) := by rw [hC, List.getElem?_map, h]; rfl
  rw [List.getElem?_map] at h1
  cases h2 : is[k]? with
  | none => rw [h2] at h1; cases h1
  | some i => rw [h2] at h1; exact hD.2 i _ (Option.some.inj h1)
/-- behind a call: the callee's world put back in its places -/
theorem j_merge {A0 : Nat → Prop} {D : va_G} {cl : List vw_C} {ws wn wc w1 : va_W} {H H1 : Heap} (hP : va_P D cl ws H) (hD : va_D A0 ws) (is ir : List Nat) (hC : is.map (fun i => ws[i]?) = wc.map some) (hN : is.map (fun i => wn[i]?) = w1.map some) (ha : ws.map (·.1) = wn.map (·.1))
    (hR : ir.map (fun i => wn[i]?) = ir.map (fun i => ws[i]?)) (hcov : ∀ i, i < wn.length → i ∈ is ∨ i ∈ ir) (hk : ∀ q : Nat, q < H.size → ¬ jA wc q → H1[q]? = H[q]?) (hP1 : va_P D cl w1 H1) : va_P D cl wn H1 ∧ va_D A0 wn := by
  refine ⟨fun k q hq => ?_, hD.addr ha⟩
  by_cases h1 : k ∈ is
  · obtain ⟨j, hj⟩ := List.getElem?_of_mem h1
    have h2 : (is.map (fun i => wn[i]?))[j]? = some (some q) := by rw [List.getElem?_map, hj]; exact congrArg some hq
    rw [hN, List.getElem?_map] at h2
    cases h3 : w1[j]? with
    | none => rw [h3] at h2; cases h2
    | some q1 =>
      rw [h3] at h2
      cases Option.some.inj (Option.some.inj h2)
      exact hP1 j q h3
  · have h2 := (hcov k (List.getElem?_eq_some_iff.mp hq).1).resolve_left h1
    obtain ⟨j, hj⟩ := List.getElem?_of_mem h2
    have h3 : (ir.map (fun i => wn[i]?))[j]? = some (some q) := by rw [List.getElem?_map, hj]; exact congrArg some hq
    rw [hR, List.getElem?_map, hj] at h3
    have h4 : ws[k]? = some q := Option.some.inj h3
    refine (hP k q h4).kept (hk q.1 (hP k q h4).lt ?_)
    intro ⟨j2, e2, h5⟩
    have h6 : (is.map (fun i => ws[i]?))[j2]? = some (some (q.1, e2)) := by rw [hC, List.getElem?_map, h5]; rfl
    rw [List.getElem?_map] at h6
    cases h7 : is[j2]? with
    | none => rw [h7] at h6; cases h6
    | some i =>
      rw [h7] at h6
      have h8 : i = k := hD.1 i k _ _ (Option.some.inj h6) h4 rfl
      exact h1 (by rw [← h8]; exact List.mem_of_getElem? h7)
/-- .. by what lies in the new world -/
theorem j_wu {A0 : Nat → Prop} {D : va_G} {cl : List vw_C} {ws wn wc w1 : va_W} {H H1 : Heap} (hP : va_P D cl ws H) (hD : va_D A0 ws) (ha : ws.map (·.1) = wn.map (·.1)) (hk : ∀ q : Nat, q < H.size → ¬ jA wc q → H1[q]? = H[q]?) (hP1 : va_P D cl w1 H1)
    (h : ∀ q ∈ wn, q ∈ w1 ∨ (q ∈ ws ∧ ∀ z ∈ wc, z.1 ≠ q.1)) : va_P D cl wn H1 ∧ va_D A0 wn := by
  refine ⟨fun k q hq => ?_, hD.addr ha⟩
  rcases h q (List.mem_of_getElem? hq) with h1 | ⟨h1, h2⟩
  · obtain ⟨j, hj⟩ := List.getElem?_of_mem h1
    exact hP1 j q hj
  · obtain ⟨j, hj⟩ := List.getElem?_of_mem h1
    refine (hP j q hj).kept (hk q.1 (hP j q hj).lt ?_)
    intro ⟨j2, e2, h5⟩
    exact h2 _ (List.mem_of_getElem? h5) rfl
/-- an array's contents, by what they are below its length -/
theorem j_cI {cA : ClassId} {n : Nat} {f g : Nat → Int32} (h : ∀ j, j < n → f j = g j) : vp_cell cA (n, .inl f) = vp_cell cA (n, .inl g) := by
  rw [vp_cell_i, vp_cell_i]
  unfold arrV
  congr 2
  funext j
  exact congrArg Value.int (h j.1 j.2)
theorem j_cL {cA : ClassId} {n : Nat} {f g : Nat → Int64} (h : ∀ j, j < n → f j = g j) : vp_cell cA (n, .inr (.inl f)) = vp_cell cA (n, .inr (.inl g)) := by
  rw [vp_cell_l, vp_cell_l]
  unfold arrV
  congr 2
  funext j
  exact congrArg Value.long (h j.1 j.2)
/-- one cell of a world, said otherwise -/
theorem j_same {D : va_G} {cl : List vw_C} {ws wn : va_W} {H : Heap} (hP : va_P D cl ws H) (hlen : ws.length = wn.length) (h : ∀ k, k < ws.length → wn[k]? = ws[k]? ∨ ∃ (a : Nat) (x y : ClassId × vp_A), ws[k]? = some (a, .inl x) ∧ wn[k]? = some (a, .inl y) ∧ vp_cell x.1 x.2 = vp_cell y.1 y.2) : va_P D cl wn H := by
  intro k q hq
  have hk := (List.getElem?_eq_some_iff.mp hq).1
  rcases h k (by omega) with h1 | ⟨a, x, y, h1, h2, h3⟩
  · exact hP k q (by rw [← h1]; exact hq)
  · rw [h2] at hq
    cases hq
    have h4 : H[a]? = some (vp_cell x.1 x.2) := hP k _ h1
    show H[a]? = some (vp_cell y.1 y.2)
    rw [← h3]
    exact h4
theorem j_h {D : va_G} {cl : List vw_C} {ws : va_W} {t : State} {H : Heap} (ht : t.heap = H) (h : va_P D cl ws H) : va_P D cl ws t.heap := by rw [ht]; exact h
/-- a class of arrays is found by its name -/
theorem j_cls {D : va_G} {cl : List vw_C} {tys : List (ClassId × FieldType)} {U : State} (h : va_K D cl tys U) (i j : Nat) {c1 c2 : ClassId} {ty : FieldType} (hi : tys[i]? = some (c1, ty)) (hj : tys[j]? = some (c2, ty)) : c1 = c2 := by
  have h1 := (h.2 i _ hi).2
  have h2 := (h.2 j _ hj).2
  cases ty <;> first
    | (obtain ⟨_, _, _, _, _, e1⟩ := h1; obtain ⟨_, _, _, _, _, e2⟩ := h2; exact Option.some.inj (e1.symm.trans e2))
    | exact Option.some.inj (h1.symm.trans h2)
theorem j_cov (is ir : List Nat) (n : Nat) (h : (List.range n).all (fun i => is.contains i || ir.contains i) = true) : ∀ i, i < n → i ∈ is ∨ i ∈ ir := by
  intro i hi
  have h1 := List.all_eq_true.mp h i (List.mem_range.mpr hi)
  simp only [Bool.or_eq_true, List.contains_iff_mem] at h1
  exact h1
/-! the starts of contracts -/
def jR (D : va_G) (tys : List (ClassId × FieldType)) (ws : va_W) (U : State) : Prop := va_P D vwCl ws U.heap ∧ va_K D vwCl tys U
def jW (D : va_G) (tys : List (ClassId × FieldType)) (ws : va_W) (U : State) : Prop := va_P D vwCl ws U.heap ∧ va_K D vwCl tys U ∧ va_D (fun _ => True) ws
theorem j_calls {u : State} {D : va_G} {tys : List (ClassId × FieldType)} {g : JFrame} {mk : MethodId} {a : Array Value} (h : va_K D vwCl tys u) : va_K D vwCl tys (u.calling g mk a) := va_K.moved (u := u) (U := u.calling g mk a) (Vm.Alike.refl u.vm) h
theorem jR_bl {av : List Value} {D : va_G} {tys : List (ClassId × FieldType)} {ws : va_W} : FrameBlind (va_Pc av (jR D tys ws)) := fun _ _ _ _ q => ⟨q.1, q.2.1, j_calls q.2.2⟩
theorem jW_bl {av : List Value} {D : va_G} {tys : List (ClassId × FieldType)} {ws : va_W} : FrameBlind (va_Pc av (jW D tys ws)) := fun _ _ _ _ q => ⟨q.1, q.2.1, j_calls q.2.2.1, q.2.2.2⟩
section JP
variable {s : State} {H : Heap} {D : va_G} {tys : List (ClassId × FieldType)} {ws wc : va_W} {A : Nat → Prop} {C : String} {b ci q0 : Nat} {r : vw_C} {fs As : List Value}
theorem jR_V (hK : va_K D vwCl tys s) (hP : va_P D vwCl ws H) (is : List Nat) (hs : is.filterMap (fun i => ws[i]?) = wc) (hc : vwCl[ci]? = some r) (he : ws[q0]? = some (b, .inr (ci, fs))) (hn : r.1 = C) : PreV s H C b (va_Pc (.ref b :: As) (jR D tys wc)) As :=
  ⟨jR_bl, by rw [← hn]; exact va_recv hK hP hc he, fun U hU hW => ⟨rfl, by rw [hU]; exact hP.sub is hs, va_K.moved hW.alike hK⟩⟩
theorem jW_V (hK : va_K D vwCl tys s) (hP : va_P D vwCl ws H) (hD : va_D A ws) (is : List Nat) (hn9 : va_nd is = true) (hs : is.map (fun i => ws[i]?) = wc.map some) (hc : vwCl[ci]? = some r) (he : ws[q0]? = some (b, .inr (ci, fs))) (hn : r.1 = C) : PreV s H C b (va_Pc (.ref b :: As) (jW D tys wc)) As :=
  ⟨jW_bl, by rw [← hn]; exact va_recv hK hP hc he, fun U hU hW => ⟨rfl, by
    rw [hU]
    refine hP.sub is ?_
    have h : ∀ (l : List Nat) (w : va_W), l.map (fun i => ws[i]?) = w.map some → l.filterMap (fun i => ws[i]?) = w := by
      intro l
      induction l with
      | nil => intro w h; cases w with
        | nil => rfl
        | cons _ _ => cases h
      | cons i l ih => intro w h; cases w with
        | nil => cases h
        | cons z w =>
          simp only [List.map_cons, List.cons.injEq] at h
          rw [List.filterMap_cons, h.1, ih w h.2]
    exact h is wc hs, va_K.moved hW.alike hK, (hD.sub is hn9 hs).weaken (fun _ _ _ _ => trivial)⟩⟩
end JP
/-! calls -/
section JC
variable {p : Program} {l : Launch} {e : Env} {R : Room} {s : State} {m : MethodId} {args : Array Value} {below : List Frame} {meth : Method} {c : Code} {H : Heap} {locs : List Loc} {cells slots : Nat} {Q : State → Prop}
variable {pc : Nat} {ls : Array Slot} {rest st0 As : List Value} {lv : List (Nat × Value)}
variable {y : MethodName} {bytes cc : ByteArray} {maxL nL n index : Nat} {ret : Option FieldType} {ws' : List Cond} {rm : Room} {Ts : List Cond} {own C : String} {b : Addr} {Pc : Array Value → State → Prop}
theorem j_cI_ {post : Int32 → Prop} (S : CallFix p m c cc nL s args Ts own) (hM : Met l y ws' rm Pc (vp_Si post) 0 0 (fun _ => False)) (cw : CallW R s args own C index y bytes maxL ret ws' rm 0 0 n) (hp : PreV s H C b Pc As) (hn : As.length = n) (hl : lv_has ls nL lv) (hst : st0 = As.reverse ++ .ref b :: rest) (hro : (rest.map fun v => v.category).sum ≤ 8) (hdg : decode cc pc = .ok (.invokevirtual index, 3)) (hf : cells ≤ R.cells ∧ slots ≤ R.slots)
    (kk : ∀ r : Int32, post r → W p l e R s m args below meth c H locs cells slots Q (F0 m (pc + 3) ls (.int r :: rest))) : W p l e R s m args below meth c H locs cells slots Q (F0 m pc ls st0) :=
  vp_callSi (va_Run.run (va_runV S hM cw hp rfl hn hl.1 hst (lv_room hro) hdg hf)) kk
theorem j_cL_ {post : Int64 → Prop} (S : CallFix p m c cc nL s args Ts own) (hM : Met l y ws' rm Pc (vp_Sl post) 0 0 (fun _ => False)) (cw : CallW R s args own C index y bytes maxL ret ws' rm 0 0 n) (hp : PreV s H C b Pc As) (hn : As.length = n) (hl : lv_has ls nL lv) (hst : st0 = As.reverse ++ .ref b :: rest) (hro : (rest.map fun v => v.category).sum ≤ 8) (hdg : decode cc pc = .ok (.invokevirtual index, 3)) (hf : cells ≤ R.cells ∧ slots ≤ R.slots)
    (kk : ∀ r : Int64, post r → W p l e R s m args below meth c H locs cells slots Q (F0 m (pc + 3) ls (.long r :: rest))) : W p l e R s m args below meth c H locs cells slots Q (F0 m pc ls st0) :=
  vp_callSl (va_Run.run (va_runV S hM cw hp rfl hn hl.1 hst (lv_room hro) hdg hf)) kk
/-- static, a reader without a world -/
theorem j_sI {post : Int32 → Prop} (S : CallFix p m c cc nL s args Ts own) (hM : Met l y ws' rm (va_Pc As (fun _ => True)) (vp_Si post) 0 0 (fun _ => False)) (cw : CallB R s args own index y bytes maxL ret ws' rm 0 0 n ∧ (Cond.static y).before args s = true) (hn : As.length = n) (hl : lv_has ls nL lv) (hst : st0 = As.reverse ++ rest) (hro : (rest.map fun v => v.category).sum ≤ 8) (hdg : decode cc pc = .ok (.invokestatic index, 3)) (hf : cells ≤ R.cells ∧ slots ≤ R.slots)
    (kk : ∀ r : Int32, post r → W p l e R s m args below meth c H locs cells slots Q (F0 m (pc + 3) ls (.int r :: rest))) : W p l e R s m args below meth c H locs cells slots Q (F0 m pc ls st0) :=
  vp_callSi (va_Run.run (va_runS S hM cw ⟨fun _ _ _ _ q => q, fun _ _ _ => ⟨rfl, trivial⟩⟩ rfl hn hl.1 hst (lv_room hro) hdg hf)) kk
variable {A0 : Nat → Prop} {H0 : Heap} {D : va_G} {ws wc : va_W}
/-- a writer: its world is put back -/
theorem j_wV {S : Type} {post : S → Prop} {w1 : S → va_W} (Sx : CallFix p m c cc nL s args Ts own) (hM : Met l y ws' rm Pc (va_Qv post (fun u t => va_P D vwCl (w1 u) t.heap) (jA wc)) 0 0 (jA wc)) (cw : CallW R s args own C index y bytes maxL ret ws' rm 0 0 n) (hp : PreV s H C b Pc As) (hn : As.length = n) (hl : lv_has ls nL lv) (hst : st0 = As.reverse ++ .ref b :: rest) (hro : (rest.map fun v => v.category).sum ≤ 8) (hdg : decode cc pc = .ok (.invokevirtual index, 3)) (hf : cells ≤ R.cells ∧ slots ≤ R.slots)
    (hP : va_P D vwCl ws H) (hD : va_D A0 ws) (hS : va_S A0 H0 H locs) (is ir : List Nat) (hC : is.map (fun i => ws[i]?) = wc.map some) (wn : S → va_W) (hN : ∀ u, is.map (fun i => (wn u)[i]?) = (w1 u).map some) (ha : ∀ u, ws.map (·.1) = (wn u).map (·.1)) (hR : ∀ u, ir.map (fun i => (wn u)[i]?) = ir.map (fun i => ws[i]?)) (hcov : ∀ u i, i < (wn u).length → i ∈ is ∨ i ∈ ir)
    (kk : ∀ (u : S) (H1 : Heap) (locs1 : List Loc), post u → va_P D vwCl (wn u) H1 → va_D A0 (wn u) → va_S A0 H0 H1 locs1 → W p l e R s m args below meth c H1 locs1 cells slots Q (F0 m (pc + 3) ls rest)) : W p l e R s m args below meth c H locs cells slots Q (F0 m pc ls st0) :=
  va_callv (va_runV Sx hM cw hp rfl hn hl.1 hst (lv_room hro) hdg hf) hS (fun q _ h => jA_sub hD is hC q h) (fun q h => jA_sub hD is hC q h) (fun u t H1 locs1 ht _ hw hB _ hk hS1 => by
    obtain ⟨h1, h2⟩ := j_merge hP hD is ir hC (hN u) (ha u) (hR u) (hcov u) hk (by rw [← ht]; exact hB)
    exact kk u H1 locs1 hw h1 h2 hS1)
theorem j_wI {S : Type} {post : Int32 → S → Prop} {w1 : S → va_W} (Sx : CallFix p m c cc nL s args Ts own) (hM : Met l y ws' rm Pc (va_Qi post (fun u t => va_P D vwCl (w1 u) t.heap) (jA wc)) 0 0 (jA wc)) (cw : CallW R s args own C index y bytes maxL ret ws' rm 0 0 n) (hp : PreV s H C b Pc As) (hn : As.length = n) (hl : lv_has ls nL lv) (hst : st0 = As.reverse ++ .ref b :: rest) (hro : (rest.map fun v => v.category).sum ≤ 8) (hdg : decode cc pc = .ok (.invokevirtual index, 3)) (hf : cells ≤ R.cells ∧ slots ≤ R.slots)
    (hP : va_P D vwCl ws H) (hD : va_D A0 ws) (hS : va_S A0 H0 H locs) (is ir : List Nat) (hC : is.map (fun i => ws[i]?) = wc.map some) (wn : S → va_W) (hN : ∀ u, is.map (fun i => (wn u)[i]?) = (w1 u).map some) (ha : ∀ u, ws.map (·.1) = (wn u).map (·.1)) (hR : ∀ u, ir.map (fun i => (wn u)[i]?) = ir.map (fun i => ws[i]?)) (hcov : ∀ u i, i < (wn u).length → i ∈ is ∨ i ∈ ir)
    (kk : ∀ (r : Int32) (u : S) (H1 : Heap) (locs1 : List Loc), post r u → va_P D vwCl (wn u) H1 → va_D A0 (wn u) → va_S A0 H0 H1 locs1 → W p l e R s m args below meth c H1 locs1 cells slots Q (F0 m (pc + 3) ls (.int r :: rest))) : W p l e R s m args below meth c H locs cells slots Q (F0 m pc ls st0) :=
  va_calli (va_runV Sx hM cw hp rfl hn hl.1 hst (lv_room hro) hdg hf) hS (fun q _ h => jA_sub hD is hC q h) (fun q h => jA_sub hD is hC q h) (fun r u t H1 locs1 ht _ hw hB _ hk hS1 => by
    obtain ⟨h1, h2⟩ := j_merge hP hD is ir hC (hN u) (ha u) (hR u) (hcov u) hk (by rw [← ht]; exact hB)
    exact kk r u H1 locs1 hw h1 h2 hS1)
theorem j_wL {S : Type} {post : Int64 → S → Prop} {w1 : S → va_W} (Sx : CallFix p m c cc nL s args Ts own) (hM : Met l y ws' rm Pc (va_Ql post (fun u t => va_P D vwCl (w1 u) t.heap) (jA wc)) 0 0 (jA wc)) (cw : CallW R s args own C index y bytes maxL ret ws' rm 0 0 n) (hp : PreV s H C b Pc As) (hn : As.length = n) (hl : lv_has ls nL lv) (hst : st0 = As.reverse ++ .ref b :: rest) (hro : (rest.map fun v => v.category).sum ≤ 8) (hdg : decode cc pc = .ok (.invokevirtual index, 3)) (hf : cells ≤ R.cells ∧ slots ≤ R.slots)
    (hP : va_P D vwCl ws H) (hD : va_D A0 ws) (hS : va_S A0 H0 H locs) (is ir : List Nat) (hC : is.map (fun i => ws[i]?) = wc.map some) (wn : S → va_W) (hN : ∀ u, is.map (fun i => (wn u)[i]?) = (w1 u).map some) (ha : ∀ u, ws.map (·.1) = (wn u).map (·.1)) (hR : ∀ u, ir.map (fun i => (wn u)[i]?) = ir.map (fun i => ws[i]?)) (hcov : ∀ u i, i < (wn u).length → i ∈ is ∨ i ∈ ir)
    (kk : ∀ (r : Int64) (u : S) (H1 : Heap) (locs1 : List Loc), post r u → va_P D vwCl (wn u) H1 → va_D A0 (wn u) → va_S A0 H0 H1 locs1 → W p l e R s m args below meth c H1 locs1 cells slots Q (F0 m (pc + 3) ls (.long r :: rest))) : W p l e R s m args below meth c H locs cells slots Q (F0 m pc ls st0) :=
  va_calll (va_runV Sx hM cw hp rfl hn hl.1 hst (lv_room hro) hdg hf) hS (fun q _ h => jA_sub hD is hC q h) (fun q h => jA_sub hD is hC q h) (fun r u t H1 locs1 ht _ hw hB _ hk hS1 => by
    obtain ⟨h1, h2⟩ := j_merge hP hD is ir hC (hN u) (ha u) (hR u) (hcov u) hk (by rw [← ht]; exact hB)
    exact kk r u H1 locs1 hw h1 h2 hS1)
end JC
/-! loops -/
section JL
variable {p : Program} {l : Launch} {e : Env} {R : Room} {s : State} {m : MethodId} {args : Array Value} {below : List Frame} {meth : Method} {c : Code} {cells slots : Nat} {Q : State → Prop}
/-- a loop that writes nothing: at its head, with a's locals -/
theorem j_loop {α : Type} {H : Heap} {locs : List Loc} {nL pc0 : Nat} {ls : Array Slot} (I : α → Prop) (μ : α → Nat) (lv : α → List (Nat × Value)) (a0 : α) (h0 : I a0) (hl0 : lv_has ls nL (lv a0))
    (hs : ∀ (a : α) (ls : Array Slot), I a → lv_has ls nL (lv a) → (∀ (a' : α) (ls' : Array Slot), I a' → μ a' < μ a → lv_has ls' nL (lv a') → W p l e R s m args below meth c H locs cells slots Q (F0 m pc0 ls' [])) → W p l e R s m args below meth c H locs cells slots Q (F0 m pc0 ls [])) :
    W p l e R s m args below meth c H locs cells slots Q (F0 m pc0 ls []) := by
  have g : ∀ (n : Nat) (a : α) (ls : Array Slot), μ a < n → I a → lv_has ls nL (lv a) → W p l e R s m args below meth c H locs cells slots Q (F0 m pc0 ls []) := by
    intro n
    induction n with
    | zero => intro a ls h; exact absurd h (Nat.not_lt_zero _)
    | succ n ih => intro a ls h hI hl; exact hs a ls hI hl (fun a' ls' hI' hm hl' => ih a' ls' (by omega) hI' hl')
  exact g _ a0 ls (Nat.lt_succ_self _) h0 hl0
/-- a loop that writes -/
theorem j_loopW {α : Type} {D : va_G} {A0 : Nat → Prop} {H0 H : Heap} {locs : List Loc} {nL pc0 : Nat} {ls : Array Slot} (I : α → Prop) (μ : α → Nat) (lv : α → List (Nat × Value)) (w : α → va_W) (a0 : α) (h0 : I a0) (hl0 : lv_has ls nL (lv a0)) (hP0 : va_P D vwCl (w a0) H) (hD0 : va_D A0 (w a0)) (hS0 : va_S A0 H0 H locs)
    (hs : ∀ (a : α) (H : Heap) (locs : List Loc) (ls : Array Slot), I a → va_P D vwCl (w a) H → va_D A0 (w a) → va_S A0 H0 H locs → lv_has ls nL (lv a) → (∀ (a' : α) (H' : Heap) (locs' : List Loc) (ls' : Array Slot), I a' → μ a' < μ a → va_P D vwCl (w a') H' → va_D A0 (w a') → va_S A0 H0 H' locs' → lv_has ls' nL (lv a') → W p l e R s m args below meth c H' locs' cells slots Q (F0 m pc0 ls' [])) → W p l e R s m args below meth c H locs cells slots Q (F0 m pc0 ls [])) :
    W p l e R s m args below meth c H locs cells slots Q (F0 m pc0 ls []) := by
  have g : ∀ (n : Nat) (a : α) (H : Heap) (locs : List Loc) (ls : Array Slot), μ a < n → I a → va_P D vwCl (w a) H → va_D A0 (w a) → va_S A0 H0 H locs → lv_has ls nL (lv a) → W p l e R s m args below meth c H locs cells slots Q (F0 m pc0 ls []) := by
    intro n
    induction n with
    | zero => intro a H locs ls h; exact absurd h (Nat.not_lt_zero _)
    | succ n ih => intro a H locs ls h hI hP hD hS hl; exact hs a H locs ls hI hP hD hS hl (fun a' H' locs' ls' hI' hm hP' hD' hS' hl' => ih a' H' locs' ls' (by omega) hI' hP' hD' hS' hl')
  exact g _ a0 H locs ls (Nat.lt_succ_self _) h0 hP0 hD0 hS0 hl0
end JL
end
section
/-! the worlds: an annuity of the class is five cells (object, deaths, full amounts, carries, payments) -/
abbrev jTY (cI cJ cZ cO : ClassId) : List (ClassId × FieldType) := [(cI, .int), (cJ, .long), (cZ, .boolean), (cO, .object "JointAnnuity$Annuity")]
abbrev jO (aa an : Nat → Nat) (kp : Int64) : Nat × va_E := (aa 0, .inr (0, [.int (nI (an 0)), .int (nI (an 1)), .int (nI (an 0 + an 2)), .int (nI (an 3)), .int (nI (an 4)), .int (nI (an 5)), .int (nI (an 6)), .int (nI (an 7)), .ref (aa 1), .ref (aa 2), .ref (aa 3), .ref (aa 4), .long (kp)]))
abbrev jAW (cI cJ : ClassId) (aa an : Nat → Nat) (iv : Nat → Int32) (kp : Int64) (py : Nat → Int64) : va_W := [jO aa an kp, (aa 1, .inl (cI, 2, .inl (fun j => nI (an (8 + j))))), (aa 2, .inl (cI, 20, .inl (fun j => nI (jF an iv j)))), (aa 3, .inl (cI, 20, .inl (fun j => jC an iv j))), (aa 4, .inl (cJ, 240, .inr (.inl (py))))]
/-- the numbers of an annuity that was just added -/
def jN (s am g : Nat) : Nat → Nat := fun i => match i with
  | 0 => s
  | 1 => am
  | 2 => g
  | 3 => 100
  | 8 => 240
  | 9 => 240
  | _ => 0
end
section
/-! the contracts of an annuity (JointAnnuity$Annuity): readers -/
set_option maxHeartbeats 4000000 in
set_option maxRecDepth 100000 in
/-- the full amount in a month -/
theorem c_X0_fullIn (l : Launch) (dC : Nat → ClassId) (dI : Nat → Nat → Nat) (cI cJ cZ cO : ClassId) (aa an : Nat → Nat) (iv : Nat → Int32) (kp : Int64) (py : Nat → Int64) (k : Nat) (hv : jV an) (hk : k < 240) : Met l yX0_fullIn wsX0_fullIn ({ frames := 0, cells := 0, slots := 0, locals := 0 }) (va_Pc [.ref (aa 0), .int (nI k)] (jR (dC, dI) (jTY cI cJ cZ cO) (jAW cI cJ aa an iv kp py))) (vp_Si (fun r => r = nI (if k < an 0 then 0 else jM an iv k))) 0 0 (fun _ => False) := by
  refine j_of (cc := cX0_fullIn) (maxL := 2) (ret := (some .int)) (by decide) rfl (Nat.le_of_ble_eq_true rfl) ?_
  intro p e s m below meth c ls hx hb hr hml hts hown hlocks hnm hl hpre
  have hown : s.vm.findClass RX0 = some m.cls := hown
  have hl : lv_has ls 2 [(0, .ref (aa 0)), (1, .int (nI k))] := hl
  obtain ⟨v0, v1, v2, v3, v4, v5, v6, v7, v8, v9⟩ := id hv
  obtain ⟨hP, hK⟩ := hpre
  refine lv_iload_n hx hb dX0_fullIn_0 rfl (lv_at hl 1 rfl) ?_
  refine lv_aload_n hx hb dX0_fullIn_1 rfl (lv_at hl 0 rfl) ?_
  refine va_get (D := (dC, dI)) (ci := 0) (v := .int (nI (an 0))) (C := RX0) (T := TX0) (N := 13) hx hb hts (fun _ h => List.mem_cons_of_mem _ (List.mem_append_right _ h)) hown hK hP 0 rfl rfl 0 (by decide) (hts (.fieldLink RX0 9 "JointAnnuity$Annuity" "start" "I") (List.mem_of_getElem? (i := 1) rfl)) (fun _ h9 => h9) rfl dX0_fullIn_2 ?_
  refine lv_icmp_ge (tgt := 12) hx hb dX0_fullIn_5 (by decide) (fun c_5 => ?_) (fun c_5 => ?_)
  · have c_5 : an 0 ≤ k := (nI_leI (a := an 0) (b := k) (by omega) (by omega)).mp c_5
    refine lv_aload_n hx hb dX0_fullIn_12 rfl (lv_at hl 0 rfl) ?_
    refine va_get (D := (dC, dI)) (ci := 0) (v := .ref (aa 2)) (C := RX0) (T := TX0) (N := 13) hx hb hts (fun _ h => List.mem_cons_of_mem _ (List.mem_append_right _ h)) hown hK hP 0 rfl rfl 9 (by decide) (hts (.fieldLink RX0 41 "JointAnnuity$Annuity" "fullAmounts" "[I") (List.mem_of_getElem? (i := 2) rfl)) (fun _ h9 => h9) rfl dX0_fullIn_13 ?_
    refine lv_iload_n hx hb dX0_fullIn_16 rfl (lv_at hl 1 rfl) ?_
    refine lv_aload_n hx hb dX0_fullIn_17 rfl (lv_at hl 0 rfl) ?_
    refine va_get (D := (dC, dI)) (ci := 0) (v := .int (nI (an 0))) (C := RX0) (T := TX0) (N := 13) hx hb hts (fun _ h => List.mem_cons_of_mem _ (List.mem_append_right _ h)) hown hK hP 0 rfl rfl 0 (by decide) (hts (.fieldLink RX0 9 "JointAnnuity$Annuity" "start" "I") (List.mem_of_getElem? (i := 1) rfl)) (fun _ h9 => h9) rfl dX0_fullIn_18 ?_
    refine lv_isub hx hb dX0_fullIn_21 ?_
    refine j_i (y := nI (k - (an 0))) (pk_sub (by omega)) ?_
    refine lv_bipush (v := nI 12) hx hb dX0_fullIn_22 (by decide) ?_
    refine lv_idiv hx hb dX0_fullIn_24 (by decide) ?_
    refine j_i (y := nI ((k - (an 0)) / 12)) (pk_div (by omega) (by omega) (by omega)) ?_
    refine va_iald hx hb hK hP 2 0 (f := fun j => nI (jF an iv j)) rfl rfl (vp_in_nI (n := (k - (an 0)) / 12) (N := 20) (by omega) (by omega)) dX0_fullIn_25 ?_
    refine j_i (y := nI (jF an iv ((k - an 0) / 12))) (by rw [nI_clamp (by omega)]) ?_
    exact W.iret (v := nI (jF an iv ((k - an 0) / 12))) hx hb hr (fun t ht hW => ⟨_, rfl, by rw [if_neg (by omega)]; rfl, ht⟩) (fun _ h => by cases h) dX0_fullIn_26
  · have c_5 : ¬ (an 0 ≤ k) := fun h => c_5 ((nI_leI (a := an 0) (b := k) (by omega) (by omega)).mpr h)
    refine lv_iconst (v := nI 0) hx hb dX0_fullIn_8 (by decide) ?_
    refine lv_goto (tgt := 26) hx hb dX0_fullIn_9 (by decide) ?_
    exact W.iret (v := nI 0) hx hb hr (fun t ht hW => ⟨_, rfl, by rw [if_pos (by omega)], ht⟩) (fun _ h => by cases h) dX0_fullIn_26
    --
set_option maxHeartbeats 4000000 in
set_option maxRecDepth 100000 in
/-- the carry in a month -/
theorem c_X0_carryIn (l : Launch) (dC : Nat → ClassId) (dI : Nat → Nat → Nat) (cI cJ cZ cO : ClassId) (aa an : Nat → Nat) (iv : Nat → Int32) (kp : Int64) (py : Nat → Int64) (k : Nat) (hv : jV an) (hk : k < 240) : Met l yX0_carryIn wsX0_carryIn ({ frames := 0, cells := 0, slots := 0, locals := 0 }) (va_Pc [.ref (aa 0), .int (nI k)] (jR (dC, dI) (jTY cI cJ cZ cO) (jAW cI cJ aa an iv kp py))) (vp_Si (fun r => r = if k < an 0 then 0 else jC an iv ((k - an 0) / 12))) 0 0 (fun _ => False) := by
  refine j_of (cc := cX0_carryIn) (maxL := 2) (ret := (some .int)) (by decide) rfl (Nat.le_of_ble_eq_true rfl) ?_
  intro p e s m below meth c ls hx hb hr hml hts hown hlocks hnm hl hpre
  have hown : s.vm.findClass RX0 = some m.cls := hown
  have hl : lv_has ls 2 [(0, .ref (aa 0)), (1, .int (nI k))] := hl
  obtain ⟨v0, v1, v2, v3, v4, v5, v6, v7, v8, v9⟩ := id hv
  obtain ⟨hP, hK⟩ := hpre
  refine lv_iload_n hx hb dX0_carryIn_0 rfl (lv_at hl 1 rfl) ?_
  refine lv_aload_n hx hb dX0_carryIn_1 rfl (lv_at hl 0 rfl) ?_
  refine va_get (D := (dC, dI)) (ci := 0) (v := .int (nI (an 0))) (C := RX0) (T := TX0) (N := 13) hx hb hts (fun _ h => List.mem_cons_of_mem _ (List.mem_append_right _ h)) hown hK hP 0 rfl rfl 0 (by decide) (hts (.fieldLink RX0 9 "JointAnnuity$Annuity" "start" "I") (List.mem_of_getElem? (i := 1) rfl)) (fun _ h9 => h9) rfl dX0_carryIn_2 ?_
  refine lv_icmp_ge (tgt := 12) hx hb dX0_carryIn_5 (by decide) (fun c_5 => ?_) (fun c_5 => ?_)
  · have c_5 : an 0 ≤ k := (nI_leI (a := an 0) (b := k) (by omega) (by omega)).mp c_5
    refine lv_aload_n hx hb dX0_carryIn_12 rfl (lv_at hl 0 rfl) ?_
    refine va_get (D := (dC, dI)) (ci := 0) (v := .ref (aa 3)) (C := RX0) (T := TX0) (N := 13) hx hb hts (fun _ h => List.mem_cons_of_mem _ (List.mem_append_right _ h)) hown hK hP 0 rfl rfl 10 (by decide) (hts (.fieldLink RX0 44 "JointAnnuity$Annuity" "carries" "[I") (List.mem_of_getElem? (i := 2) rfl)) (fun _ h9 => h9) rfl dX0_carryIn_13 ?_
    refine lv_iload_n hx hb dX0_carryIn_16 rfl (lv_at hl 1 rfl) ?_
    refine lv_aload_n hx hb dX0_carryIn_17 rfl (lv_at hl 0 rfl) ?_
    refine va_get (D := (dC, dI)) (ci := 0) (v := .int (nI (an 0))) (C := RX0) (T := TX0) (N := 13) hx hb hts (fun _ h => List.mem_cons_of_mem _ (List.mem_append_right _ h)) hown hK hP 0 rfl rfl 0 (by decide) (hts (.fieldLink RX0 9 "JointAnnuity$Annuity" "start" "I") (List.mem_of_getElem? (i := 1) rfl)) (fun _ h9 => h9) rfl dX0_carryIn_18 ?_
    refine lv_isub hx hb dX0_carryIn_21 ?_
    refine j_i (y := nI (k - (an 0))) (pk_sub (by omega)) ?_
    refine lv_bipush (v := nI 12) hx hb dX0_carryIn_22 (by decide) ?_
    refine lv_idiv hx hb dX0_carryIn_24 (by decide) ?_
    refine j_i (y := nI ((k - (an 0)) / 12)) (pk_div (by omega) (by omega) (by omega)) ?_
    refine va_iald hx hb hK hP 3 0 (f := fun j => jC an iv j) rfl rfl (vp_in_nI (n := (k - (an 0)) / 12) (N := 20) (by omega) (by omega)) dX0_carryIn_25 ?_
    refine j_i (y := jC an iv ((k - an 0) / 12)) (by rw [nI_clamp (by omega)]) ?_
    exact W.iret (v := jC an iv ((k - an 0) / 12)) hx hb hr (fun t ht hW => ⟨_, rfl, by rw [if_neg (by omega)], ht⟩) (fun _ h => by cases h) dX0_carryIn_26
  · have c_5 : ¬ (an 0 ≤ k) := fun h => c_5 ((nI_leI (a := an 0) (b := k) (by omega) (by omega)).mpr h)
    refine lv_iconst (v := nI 0) hx hb dX0_carryIn_8 (by decide) ?_
    refine lv_goto (tgt := 26) hx hb dX0_carryIn_9 (by decide) ?_
    exact W.iret (v := nI 0) hx hb hr (fun t ht hW => ⟨_, rfl, by rw [if_pos (by omega)]; rfl, ht⟩) (fun _ h => by cases h) dX0_carryIn_26
    --
set_option maxHeartbeats 4000000 in
set_option maxRecDepth 100000 in
/-- what the lives and the guaranteed term give in a month -/
theorem c_X0_shareIn (l : Launch) (dC : Nat → ClassId) (dI : Nat → Nat → Nat) (cI cJ cZ cO : ClassId) (aa an : Nat → Nat) (iv : Nat → Int32) (kp : Int64) (py : Nat → Int64) (k : Nat) (hv : jV an) (hk : k < 240) : Met l yX0_shareIn wsX0_shareIn ({ frames := 1, cells := 0, slots := 0, locals := 21 }) (va_Pc [.ref (aa 0), .int (nI k)] (jR (dC, dI) (jTY cI cJ cZ cO) (jAW cI cJ aa an iv kp py))) (vp_Sl (fun r => r = lN (if k < an 0 then 0 else jS an iv k))) 0 0 (fun _ => False) := by
  refine j_of (cc := cX0_shareIn) (maxL := 6) (ret := (some .long)) (by decide) rfl (Nat.le_of_ble_eq_true rfl) ?_
  intro p e s m below meth c ls hx hb hr hml hts hown hlocks hnm hl hpre
  have hown : s.vm.findClass RX0 = some m.cls := hown
  have hl : lv_has ls 6 [(0, .ref (aa 0)), (1, .int (nI k))] := hl
  obtain ⟨v0, v1, v2, v3, v4, v5, v6, v7, v8, v9⟩ := id hv
  obtain ⟨hP, hK⟩ := hpre
  have hm := jM_bd hv iv hk
  have hm2 := jpct hm v3
  refine lv_iload_n hx hb dX0_shareIn_0 rfl (lv_at hl 1 rfl) ?_
  refine lv_aload_n hx hb dX0_shareIn_1 rfl (lv_at hl 0 rfl) ?_
  refine va_get (D := (dC, dI)) (ci := 0) (v := .int (nI (an 0))) (C := RX0) (T := TX0) (N := 13) hx hb hts (fun _ h => List.mem_cons_of_mem _ (List.mem_append_right _ h)) hown hK hP 0 rfl rfl 0 (by decide) (hts (.fieldLink RX0 9 "JointAnnuity$Annuity" "start" "I") (List.mem_of_getElem? (i := 1) rfl)) (fun _ h9 => h9) rfl dX0_shareIn_2 ?_
  refine lv_icmp_ge (tgt := 10) hx hb dX0_shareIn_5 (by decide) (fun c_5 => ?_) (fun c_5 => ?_)
  · have c_5 : an 0 ≤ k := (nI_leI (a := an 0) (b := k) (by omega) (by omega)).mp c_5
    refine lv_aload_n hx hb dX0_shareIn_10 rfl (lv_at hl 0 rfl) ?_
    refine lv_iload_n hx hb dX0_shareIn_11 rfl (lv_at hl 1 rfl) ?_
    refine j_cI_ (As := [.int (nI k)]) (rest := []) ⟨hx, hb, hml, hown, hts⟩ (c_X0_fullIn l dC dI cI cJ cZ cO aa an iv kp py k hv hk) (cwV 1 hts gX0_shareIn_X0_fullIn rfl rfl rfl (by decide +kernel) ⟨Nat.le_of_ble_eq_true rfl, Nat.le_of_ble_eq_true rfl⟩) (jR_V hK hP [0, 1, 2, 3, 4] rfl (ci := 0) (q0 := 0) rfl rfl rfl) rfl hl rfl (Nat.le_of_ble_eq_true rfl) dX0_shareIn_12 ⟨Nat.le_of_ble_eq_true rfl, Nat.le_of_ble_eq_true rfl⟩ (fun r_12 hr_12 => ?_)
    subst hr_12
    refine j_i (y := nI (jM an iv k)) (by rw [if_neg (by omega)]) ?_
    refine lv_i2l (v := lN (jM an iv k)) hx hb dX0_shareIn_15 (nI_l (by omega)) ?_
    refine lv_lstore_n (lv' := [(2, .long (lN (jM an iv k))), (0, .ref (aa 0)), (1, .int (nI k))]) hx hb dX0_shareIn_16 rfl hl (by decide) rfl (fun ls hl => ?_)
    refine j_join (fun f1 : Nat => (k ≤ an 8 ∧ f1 = 1) ∨ (¬ k ≤ an 8 ∧ f1 = 0)) (fun f1 => F0 m 32 ls [.int (nI f1)]) (fun f1 hf1 => ?_) (fun J32 => ?_)
    · refine lv_istore (lv' := [(4, .int (nI f1)), (2, .long (lN (jM an iv k))), (0, .ref (aa 0)), (1, .int (nI k))]) hx hb dX0_shareIn_32 hl (by decide) rfl (fun ls hl => ?_)
      refine j_join (fun f2 : Nat => (k ≤ an 9 ∧ f2 = 1) ∨ (¬ k ≤ an 9 ∧ f2 = 0)) (fun f2 => F0 m 49 ls [.int (nI f2)]) (fun f2 hf2 => ?_) (fun J49 => ?_)
      · refine lv_istore (lv' := [(5, .int (nI f2)), (4, .int (nI f1)), (2, .long (lN (jM an iv k))), (0, .ref (aa 0)), (1, .int (nI k))]) hx hb dX0_shareIn_49 hl (by decide) rfl (fun ls hl => ?_)
        refine lv_iload_n hx hb dX0_shareIn_51 rfl (lv_at hl 4 rfl) ?_
        refine lv_aload_n hx hb dX0_shareIn_52 rfl (lv_at hl 3 rfl) ?_
        refine va_get (D := (dC, dI)) (ci := 0) (v := .int (nI (an 0 + an 2))) (C := RX0) (T := TX0) (N := 13) hx hb hts (fun _ h => List.mem_cons_of_mem _ (List.mem_append_right _ h)) hown hK hP 0 rfl rfl 2 (by decide) (hts (.fieldLink RX0 18 "JointAnnuity$Annuity" "guaranteeEnd" "I") (List.mem_of_getElem? (i := 3) rfl)) (fun _ h9 => h9) rfl dX0_shareIn_53 ?_
        refine lv_icmp_lt (tgt := 69) hx hb dX0_shareIn_56 (by decide) (fun c_56 => ?_) (fun c_56 => ?_)
        · have c_56 : k < an 0 + an 2 := (nI_ltI (a := k) (b := an 0 + an 2) (by omega) (by omega)).mp c_56
          refine lv_lload_n hx hb dX0_shareIn_69 rfl (lv_at hl 2 rfl) ?_
          have hz : jM an iv k = (if k < an 0 then 0 else jS an iv k) := by
            rw [if_neg (show ¬ k < an 0 by omega)]
            unfold jS
            repeat' split
            all_goals first | rfl | omega
          exact W.lret (v := lN (jM an iv k)) hx hb hr (fun t ht hW => ⟨_, rfl, by rw [← hz], ht⟩) (fun _ h => by cases h) dX0_shareIn_70
        · have c_56 : ¬ (k < an 0 + an 2) := fun h => c_56 ((nI_ltI (a := k) (b := an 0 + an 2) (by omega) (by omega)).mpr h)
          refine lv_iload hx hb dX0_shareIn_59 (lv_at hl 1 rfl) ?_
          refine lv_if_eq (tgt := 71) hx hb dX0_shareIn_61 (by decide) (fun c_61 => ?_) (fun c_61 => ?_)
          · have c_61 : f1 = 0 := (nI_eq (a := f1) (b := 0) (by omega) (by omega)).mp c_61
            refine lv_iload hx hb dX0_shareIn_71 (lv_at hl 1 rfl) ?_
            refine lv_if_eq (tgt := 85) hx hb dX0_shareIn_73 (by decide) (fun c_73 => ?_) (fun c_73 => ?_)
            · have c_73 : f1 = 0 := (nI_eq (a := f1) (b := 0) (by omega) (by omega)).mp c_73
              refine lv_iload hx hb dX0_shareIn_85 (lv_at hl 1 rfl) ?_
              refine lv_if_ne (tgt := 95) hx hb dX0_shareIn_87 (by decide) (fun c_87 => ?_) (fun c_87 => ?_)
              · have c_87 : ¬ (f1 = 0) := fun h => c_87 ((nI_eq (a := f1) (b := 0) (by omega) (by omega)).mpr h)
                refine lv_lload_n hx hb dX0_shareIn_95 rfl (lv_at hl 2 rfl) ?_
                refine lv_aload_n hx hb dX0_shareIn_96 rfl (lv_at hl 3 rfl) ?_
                refine va_get (D := (dC, dI)) (ci := 0) (v := .int (nI (an 3))) (C := RX0) (T := TX0) (N := 13) hx hb hts (fun _ h => List.mem_cons_of_mem _ (List.mem_append_right _ h)) hown hK hP 0 rfl rfl 3 (by decide) (hts (.fieldLink RX0 21 "JointAnnuity$Annuity" "survivorPercent" "I") (List.mem_of_getElem? (i := 5) rfl)) (fun _ h9 => h9) rfl dX0_shareIn_97 ?_
                refine lv_i2l (v := lN (an 3)) hx hb dX0_shareIn_100 (nI_l (by omega)) ?_
                refine lv_lmul hx hb dX0_shareIn_101 ?_
                refine j_l (y := lN ((jM an iv k) * (an 3))) (lN_mul _ _) ?_
                refine lv_ldc2 hx hb hown (hts (.constantLong RX0 68 (100)) (List.mem_of_getElem? (i := 6) rfl)) dX0_shareIn_102 ?_
                refine j_l (y := lN 100) (by decide +kernel) ?_
                refine lv_ldiv hx hb dX0_shareIn_105 (by decide) ?_
                refine j_l (y := lN (((jM an iv k) * (an 3)) / 100)) (pk_lDiv (by omega) (by omega) (by omega)) ?_
                refine lv_goto (tgt := 110) hx hb dX0_shareIn_106 (by decide) ?_
                have hz : ((jM an iv k) * (an 3)) / 100 = (if k < an 0 then 0 else jS an iv k) := by
                  rw [if_neg (show ¬ k < an 0 by omega)]
                  unfold jS
                  repeat' split
                  all_goals first | rfl | omega
                exact W.lret (v := lN (((jM an iv k) * (an 3)) / 100)) hx hb hr (fun t ht hW => ⟨_, rfl, by rw [← hz], ht⟩) (fun _ h => by cases h) dX0_shareIn_110
              · have c_87 : f1 = 0 := (nI_eq (a := f1) (b := 0) (by omega) (by omega)).mp c_87
                refine lv_iload hx hb dX0_shareIn_90 (lv_at hl 0 rfl) ?_
                refine lv_if_eq (tgt := 109) hx hb dX0_shareIn_92 (by decide) (fun c_92 => ?_) (fun c_92 => ?_)
                · have c_92 : f2 = 0 := (nI_eq (a := f2) (b := 0) (by omega) (by omega)).mp c_92
                  refine lv_lconst (v := lN 0) hx hb dX0_shareIn_109 (by decide) ?_
                  have hz : 0 = (if k < an 0 then 0 else jS an iv k) := by
                    rw [if_neg (show ¬ k < an 0 by omega)]
                    unfold jS
                    repeat' split
                    all_goals first | rfl | omega
                  exact W.lret (v := lN 0) hx hb hr (fun t ht hW => ⟨_, rfl, by rw [← hz], ht⟩) (fun _ h => by cases h) dX0_shareIn_110
                · have c_92 : ¬ (f2 = 0) := fun h => c_92 ((nI_eq (a := f2) (b := 0) (by omega) (by omega)).mpr h)
                  refine lv_lload_n hx hb dX0_shareIn_95 rfl (lv_at hl 2 rfl) ?_
                  refine lv_aload_n hx hb dX0_shareIn_96 rfl (lv_at hl 3 rfl) ?_
                  refine va_get (D := (dC, dI)) (ci := 0) (v := .int (nI (an 3))) (C := RX0) (T := TX0) (N := 13) hx hb hts (fun _ h => List.mem_cons_of_mem _ (List.mem_append_right _ h)) hown hK hP 0 rfl rfl 3 (by decide) (hts (.fieldLink RX0 21 "JointAnnuity$Annuity" "survivorPercent" "I") (List.mem_of_getElem? (i := 5) rfl)) (fun _ h9 => h9) rfl dX0_shareIn_97 ?_
                  refine lv_i2l (v := lN (an 3)) hx hb dX0_shareIn_100 (nI_l (by omega)) ?_
                  refine lv_lmul hx hb dX0_shareIn_101 ?_
                  refine j_l (y := lN ((jM an iv k) * (an 3))) (lN_mul _ _) ?_
                  refine lv_ldc2 hx hb hown (hts (.constantLong RX0 68 (100)) (List.mem_of_getElem? (i := 6) rfl)) dX0_shareIn_102 ?_
                  refine j_l (y := lN 100) (by decide +kernel) ?_
                  refine lv_ldiv hx hb dX0_shareIn_105 (by decide) ?_
                  refine j_l (y := lN (((jM an iv k) * (an 3)) / 100)) (pk_lDiv (by omega) (by omega) (by omega)) ?_
                  refine lv_goto (tgt := 110) hx hb dX0_shareIn_106 (by decide) ?_
                  have hz : ((jM an iv k) * (an 3)) / 100 = (if k < an 0 then 0 else jS an iv k) := by
                    rw [if_neg (show ¬ k < an 0 by omega)]
                    unfold jS
                    repeat' split
                    all_goals first | rfl | omega
                  exact W.lret (v := lN (((jM an iv k) * (an 3)) / 100)) hx hb hr (fun t ht hW => ⟨_, rfl, by rw [← hz], ht⟩) (fun _ h => by cases h) dX0_shareIn_110
            · have c_73 : ¬ (f1 = 0) := fun h => c_73 ((nI_eq (a := f1) (b := 0) (by omega) (by omega)).mpr h)
              refine lv_aload_n hx hb dX0_shareIn_76 rfl (lv_at hl 3 rfl) ?_
              refine va_get (D := (dC, dI)) (ci := 0) (v := .int (nI (an 4))) (C := RX0) (T := TX0) (N := 13) hx hb hts (fun _ h => List.mem_cons_of_mem _ (List.mem_append_right _ h)) hown hK hP 0 rfl rfl 4 (by decide) (hts (.fieldLink RX0 24 "JointAnnuity$Annuity" "stepsOnFirst" "Z") (List.mem_of_getElem? (i := 4) rfl)) (fun _ h9 => h9) rfl dX0_shareIn_77 ?_
              refine lv_if_ne (tgt := 85) hx hb dX0_shareIn_80 (by decide) (fun c_80 => ?_) (fun c_80 => ?_)
              · have c_80 : ¬ (an 4 = 0) := fun h => c_80 ((nI_eq (a := an 4) (b := 0) (by omega) (by omega)).mpr h)
                refine lv_iload hx hb dX0_shareIn_85 (lv_at hl 1 rfl) ?_
                refine lv_if_ne (tgt := 95) hx hb dX0_shareIn_87 (by decide) (fun c_87 => ?_) (fun c_87 => ?_)
                · have c_87 : ¬ (f1 = 0) := fun h => c_87 ((nI_eq (a := f1) (b := 0) (by omega) (by omega)).mpr h)
                  refine lv_lload_n hx hb dX0_shareIn_95 rfl (lv_at hl 2 rfl) ?_
                  refine lv_aload_n hx hb dX0_shareIn_96 rfl (lv_at hl 3 rfl) ?_
                  refine va_get (D := (dC, dI)) (ci := 0) (v := .int (nI (an 3))) (C := RX0) (T := TX0) (N := 13) hx hb hts (fun _ h => List.mem_cons_of_mem _ (List.mem_append_right _ h)) hown hK hP 0 rfl rfl 3 (by decide) (hts (.fieldLink RX0 21 "JointAnnuity$Annuity" "survivorPercent" "I") (List.mem_of_getElem? (i := 5) rfl)) (fun _ h9 => h9) rfl dX0_shareIn_97 ?_
                  refine lv_i2l (v := lN (an 3)) hx hb dX0_shareIn_100 (nI_l (by omega)) ?_
                  refine lv_lmul hx hb dX0_shareIn_101 ?_
                  refine j_l (y := lN ((jM an iv k) * (an 3))) (lN_mul _ _) ?_
                  refine lv_ldc2 hx hb hown (hts (.constantLong RX0 68 (100)) (List.mem_of_getElem? (i := 6) rfl)) dX0_shareIn_102 ?_
                  refine j_l (y := lN 100) (by decide +kernel) ?_
                  refine lv_ldiv hx hb dX0_shareIn_105 (by decide) ?_
                  refine j_l (y := lN (((jM an iv k) * (an 3)) / 100)) (pk_lDiv (by omega) (by omega) (by omega)) ?_
                  refine lv_goto (tgt := 110) hx hb dX0_shareIn_106 (by decide) ?_
                  have hz : ((jM an iv k) * (an 3)) / 100 = (if k < an 0 then 0 else jS an iv k) := by
                    rw [if_neg (show ¬ k < an 0 by omega)]
                    unfold jS
                    repeat' split
                    all_goals first | rfl | omega
                  exact W.lret (v := lN (((jM an iv k) * (an 3)) / 100)) hx hb hr (fun t ht hW => ⟨_, rfl, by rw [← hz], ht⟩) (fun _ h => by cases h) dX0_shareIn_110
                · have c_87 : f1 = 0 := (nI_eq (a := f1) (b := 0) (by omega) (by omega)).mp c_87
                  refine lv_iload hx hb dX0_shareIn_90 (lv_at hl 0 rfl) ?_
                  refine lv_if_eq (tgt := 109) hx hb dX0_shareIn_92 (by decide) (fun c_92 => ?_) (fun c_92 => ?_)
                  · have c_92 : f2 = 0 := (nI_eq (a := f2) (b := 0) (by omega) (by omega)).mp c_92
                    refine lv_lconst (v := lN 0) hx hb dX0_shareIn_109 (by decide) ?_
                    have hz : 0 = (if k < an 0 then 0 else jS an iv k) := by
                      rw [if_neg (show ¬ k < an 0 by omega)]
                      unfold jS
                      repeat' split
                      all_goals first | rfl | omega
                    exact W.lret (v := lN 0) hx hb hr (fun t ht hW => ⟨_, rfl, by rw [← hz], ht⟩) (fun _ h => by cases h) dX0_shareIn_110
                  · have c_92 : ¬ (f2 = 0) := fun h => c_92 ((nI_eq (a := f2) (b := 0) (by omega) (by omega)).mpr h)
                    refine lv_lload_n hx hb dX0_shareIn_95 rfl (lv_at hl 2 rfl) ?_
                    refine lv_aload_n hx hb dX0_shareIn_96 rfl (lv_at hl 3 rfl) ?_
                    refine va_get (D := (dC, dI)) (ci := 0) (v := .int (nI (an 3))) (C := RX0) (T := TX0) (N := 13) hx hb hts (fun _ h => List.mem_cons_of_mem _ (List.mem_append_right _ h)) hown hK hP 0 rfl rfl 3 (by decide) (hts (.fieldLink RX0 21 "JointAnnuity$Annuity" "survivorPercent" "I") (List.mem_of_getElem? (i := 5) rfl)) (fun _ h9 => h9) rfl dX0_shareIn_97 ?_
                    refine lv_i2l (v := lN (an 3)) hx hb dX0_shareIn_100 (nI_l (by omega)) ?_
                    refine lv_lmul hx hb dX0_shareIn_101 ?_
                    refine j_l (y := lN ((jM an iv k) * (an 3))) (lN_mul _ _) ?_
                    refine lv_ldc2 hx hb hown (hts (.constantLong RX0 68 (100)) (List.mem_of_getElem? (i := 6) rfl)) dX0_shareIn_102 ?_
                    refine j_l (y := lN 100) (by decide +kernel) ?_
                    refine lv_ldiv hx hb dX0_shareIn_105 (by decide) ?_
                    refine j_l (y := lN (((jM an iv k) * (an 3)) / 100)) (pk_lDiv (by omega) (by omega) (by omega)) ?_
                    refine lv_goto (tgt := 110) hx hb dX0_shareIn_106 (by decide) ?_
                    have hz : ((jM an iv k) * (an 3)) / 100 = (if k < an 0 then 0 else jS an iv k) := by
                      rw [if_neg (show ¬ k < an 0 by omega)]
                      unfold jS
                      repeat' split
                      all_goals first | rfl | omega
                    exact W.lret (v := lN (((jM an iv k) * (an 3)) / 100)) hx hb hr (fun t ht hW => ⟨_, rfl, by rw [← hz], ht⟩) (fun _ h => by cases h) dX0_shareIn_110
              · have c_80 : an 4 = 0 := (nI_eq (a := an 4) (b := 0) (by omega) (by omega)).mp c_80
                refine lv_lload_n hx hb dX0_shareIn_83 rfl (lv_at hl 2 rfl) ?_
                have hz : jM an iv k = (if k < an 0 then 0 else jS an iv k) := by
                  rw [if_neg (show ¬ k < an 0 by omega)]
                  unfold jS
                  repeat' split
                  all_goals first | rfl | omega
                exact W.lret (v := lN (jM an iv k)) hx hb hr (fun t ht hW => ⟨_, rfl, by rw [← hz], ht⟩) (fun _ h => by cases h) dX0_shareIn_84
          · have c_61 : ¬ (f1 = 0) := fun h => c_61 ((nI_eq (a := f1) (b := 0) (by omega) (by omega)).mpr h)
            refine lv_iload hx hb dX0_shareIn_64 (lv_at hl 0 rfl) ?_
            refine lv_if_eq (tgt := 71) hx hb dX0_shareIn_66 (by decide) (fun c_66 => ?_) (fun c_66 => ?_)
            · have c_66 : f2 = 0 := (nI_eq (a := f2) (b := 0) (by omega) (by omega)).mp c_66
              refine lv_iload hx hb dX0_shareIn_71 (lv_at hl 1 rfl) ?_
              refine lv_if_eq (tgt := 85) hx hb dX0_shareIn_73 (by decide) (fun c_73 => ?_) (fun c_73 => ?_)
              · have c_73 : f1 = 0 := (nI_eq (a := f1) (b := 0) (by omega) (by omega)).mp c_73
                refine lv_iload hx hb dX0_shareIn_85 (lv_at hl 1 rfl) ?_
                refine lv_if_ne (tgt := 95) hx hb dX0_shareIn_87 (by decide) (fun c_87 => ?_) (fun c_87 => ?_)
                · have c_87 : ¬ (f1 = 0) := fun h => c_87 ((nI_eq (a := f1) (b := 0) (by omega) (by omega)).mpr h)
                  refine lv_lload_n hx hb dX0_shareIn_95 rfl (lv_at hl 2 rfl) ?_
                  refine lv_aload_n hx hb dX0_shareIn_96 rfl (lv_at hl 3 rfl) ?_
                  refine va_get (D := (dC, dI)) (ci := 0) (v := .int (nI (an 3))) (C := RX0) (T := TX0) (N := 13) hx hb hts (fun _ h => List.mem_cons_of_mem _ (List.mem_append_right _ h)) hown hK hP 0 rfl rfl 3 (by decide) (hts (.fieldLink RX0 21 "JointAnnuity$Annuity" "survivorPercent" "I") (List.mem_of_getElem? (i := 5) rfl)) (fun _ h9 => h9) rfl dX0_shareIn_97 ?_
                  refine lv_i2l (v := lN (an 3)) hx hb dX0_shareIn_100 (nI_l (by omega)) ?_
                  refine lv_lmul hx hb dX0_shareIn_101 ?_
                  refine j_l (y := lN ((jM an iv k) * (an 3))) (lN_mul _ _) ?_
                  refine lv_ldc2 hx hb hown (hts (.constantLong RX0 68 (100)) (List.mem_of_getElem? (i := 6) rfl)) dX0_shareIn_102 ?_
                  refine j_l (y := lN 100) (by decide +kernel) ?_
                  refine lv_ldiv hx hb dX0_shareIn_105 (by decide) ?_
                  refine j_l (y := lN (((jM an iv k) * (an 3)) / 100)) (pk_lDiv (by omega) (by omega) (by omega)) ?_
                  refine lv_goto (tgt := 110) hx hb dX0_shareIn_106 (by decide) ?_
                  have hz : ((jM an iv k) * (an 3)) / 100 = (if k < an 0 then 0 else jS an iv k) := by
                    rw [if_neg (show ¬ k < an 0 by omega)]
                    unfold jS
                    repeat' split
                    all_goals first | rfl | omega
                  exact W.lret (v := lN (((jM an iv k) * (an 3)) / 100)) hx hb hr (fun t ht hW => ⟨_, rfl, by rw [← hz], ht⟩) (fun _ h => by cases h) dX0_shareIn_110
                · have c_87 : f1 = 0 := (nI_eq (a := f1) (b := 0) (by omega) (by omega)).mp c_87
                  refine lv_iload hx hb dX0_shareIn_90 (lv_at hl 0 rfl) ?_
                  refine lv_if_eq (tgt := 109) hx hb dX0_shareIn_92 (by decide) (fun c_92 => ?_) (fun c_92 => ?_)
                  · have c_92 : f2 = 0 := (nI_eq (a := f2) (b := 0) (by omega) (by omega)).mp c_92
                    refine lv_lconst (v := lN 0) hx hb dX0_shareIn_109 (by decide) ?_
                    have hz : 0 = (if k < an 0 then 0 else jS an iv k) := by
                      rw [if_neg (show ¬ k < an 0 by omega)]
                      unfold jS
                      repeat' split
                      all_goals first | rfl | omega
                    exact W.lret (v := lN 0) hx hb hr (fun t ht hW => ⟨_, rfl, by rw [← hz], ht⟩) (fun _ h => by cases h) dX0_shareIn_110
                  · have c_92 : ¬ (f2 = 0) := fun h => c_92 ((nI_eq (a := f2) (b := 0) (by omega) (by omega)).mpr h)
                    refine lv_lload_n hx hb dX0_shareIn_95 rfl (lv_at hl 2 rfl) ?_
                    refine lv_aload_n hx hb dX0_shareIn_96 rfl (lv_at hl 3 rfl) ?_
                    refine va_get (D := (dC, dI)) (ci := 0) (v := .int (nI (an 3))) (C := RX0) (T := TX0) (N := 13) hx hb hts (fun _ h => List.mem_cons_of_mem _ (List.mem_append_right _ h)) hown hK hP 0 rfl rfl 3 (by decide) (hts (.fieldLink RX0 21 "JointAnnuity$Annuity" "survivorPercent" "I") (List.mem_of_getElem? (i := 5) rfl)) (fun _ h9 => h9) rfl dX0_shareIn_97 ?_
                    refine lv_i2l (v := lN (an 3)) hx hb dX0_shareIn_100 (nI_l (by omega)) ?_
                    refine lv_lmul hx hb dX0_shareIn_101 ?_
                    refine j_l (y := lN ((jM an iv k) * (an 3))) (lN_mul _ _) ?_
                    refine lv_ldc2 hx hb hown (hts (.constantLong RX0 68 (100)) (List.mem_of_getElem? (i := 6) rfl)) dX0_shareIn_102 ?_
                    refine j_l (y := lN 100) (by decide +kernel) ?_
                    refine lv_ldiv hx hb dX0_shareIn_105 (by decide) ?_
                    refine j_l (y := lN (((jM an iv k) * (an 3)) / 100)) (pk_lDiv (by omega) (by omega) (by omega)) ?_
                    refine lv_goto (tgt := 110) hx hb dX0_shareIn_106 (by decide) ?_
                    have hz : ((jM an iv k) * (an 3)) / 100 = (if k < an 0 then 0 else jS an iv k) := by
                      rw [if_neg (show ¬ k < an 0 by omega)]
                      unfold jS
                      repeat' split
                      all_goals first | rfl | omega
                    exact W.lret (v := lN (((jM an iv k) * (an 3)) / 100)) hx hb hr (fun t ht hW => ⟨_, rfl, by rw [← hz], ht⟩) (fun _ h => by cases h) dX0_shareIn_110
              · have c_73 : ¬ (f1 = 0) := fun h => c_73 ((nI_eq (a := f1) (b := 0) (by omega) (by omega)).mpr h)
                refine lv_aload_n hx hb dX0_shareIn_76 rfl (lv_at hl 3 rfl) ?_
                refine va_get (D := (dC, dI)) (ci := 0) (v := .int (nI (an 4))) (C := RX0) (T := TX0) (N := 13) hx hb hts (fun _ h => List.mem_cons_of_mem _ (List.mem_append_right _ h)) hown hK hP 0 rfl rfl 4 (by decide) (hts (.fieldLink RX0 24 "JointAnnuity$Annuity" "stepsOnFirst" "Z") (List.mem_of_getElem? (i := 4) rfl)) (fun _ h9 => h9) rfl dX0_shareIn_77 ?_
                refine lv_if_ne (tgt := 85) hx hb dX0_shareIn_80 (by decide) (fun c_80 => ?_) (fun c_80 => ?_)
                · have c_80 : ¬ (an 4 = 0) := fun h => c_80 ((nI_eq (a := an 4) (b := 0) (by omega) (by omega)).mpr h)
                  refine lv_iload hx hb dX0_shareIn_85 (lv_at hl 1 rfl) ?_
                  refine lv_if_ne (tgt := 95) hx hb dX0_shareIn_87 (by decide) (fun c_87 => ?_) (fun c_87 => ?_)
                  · have c_87 : ¬ (f1 = 0) := fun h => c_87 ((nI_eq (a := f1) (b := 0) (by omega) (by omega)).mpr h)
                    refine lv_lload_n hx hb dX0_shareIn_95 rfl (lv_at hl 2 rfl) ?_
                    refine lv_aload_n hx hb dX0_shareIn_96 rfl (lv_at hl 3 rfl) ?_
                    refine va_get (D := (dC, dI)) (ci := 0) (v := .int (nI (an 3))) (C := RX0) (T := TX0) (N := 13) hx hb hts (fun _ h => List.mem_cons_of_mem _ (List.mem_append_right _ h)) hown hK hP 0 rfl rfl 3 (by decide) (hts (.fieldLink RX0 21 "JointAnnuity$Annuity" "survivorPercent" "I") (List.mem_of_getElem? (i := 5) rfl)) (fun _ h9 => h9) rfl dX0_shareIn_97 ?_
                    refine lv_i2l (v := lN (an 3)) hx hb dX0_shareIn_100 (nI_l (by omega)) ?_
                    refine lv_lmul hx hb dX0_shareIn_101 ?_
                    refine j_l (y := lN ((jM an iv k) * (an 3))) (lN_mul _ _) ?_
                    refine lv_ldc2 hx hb hown (hts (.constantLong RX0 68 (100)) (List.mem_of_getElem? (i := 6) rfl)) dX0_shareIn_102 ?_
                    refine j_l (y := lN 100) (by decide +kernel) ?_
                    refine lv_ldiv hx hb dX0_shareIn_105 (by decide) ?_
                    refine j_l (y := lN (((jM an iv k) * (an 3)) / 100)) (pk_lDiv (by omega) (by omega) (by omega)) ?_
                    refine lv_goto (tgt := 110) hx hb dX0_shareIn_106 (by decide) ?_
                    have hz : ((jM an iv k) * (an 3)) / 100 = (if k < an 0 then 0 else jS an iv k) := by
                      rw [if_neg (show ¬ k < an 0 by omega)]
                      unfold jS
                      repeat' split
                      all_goals first | rfl | omega
                    exact W.lret (v := lN (((jM an iv k) * (an 3)) / 100)) hx hb hr (fun t ht hW => ⟨_, rfl, by rw [← hz], ht⟩) (fun _ h => by cases h) dX0_shareIn_110
                  · have c_87 : f1 = 0 := (nI_eq (a := f1) (b := 0) (by omega) (by omega)).mp c_87
                    refine lv_iload hx hb dX0_shareIn_90 (lv_at hl 0 rfl) ?_
                    refine lv_if_eq (tgt := 109) hx hb dX0_shareIn_92 (by decide) (fun c_92 => ?_) (fun c_92 => ?_)
                    · have c_92 : f2 = 0 := (nI_eq (a := f2) (b := 0) (by omega) (by omega)).mp c_92
                      refine lv_lconst (v := lN 0) hx hb dX0_shareIn_109 (by decide) ?_
                      have hz : 0 = (if k < an 0 then 0 else jS an iv k) := by
                        rw [if_neg (show ¬ k < an 0 by omega)]
                        unfold jS
                        repeat' split
                        all_goals first | rfl | omega
                      exact W.lret (v := lN 0) hx hb hr (fun t ht hW => ⟨_, rfl, by rw [← hz], ht⟩) (fun _ h => by cases h) dX0_shareIn_110
                    · have c_92 : ¬ (f2 = 0) := fun h => c_92 ((nI_eq (a := f2) (b := 0) (by omega) (by omega)).mpr h)
                      refine lv_lload_n hx hb dX0_shareIn_95 rfl (lv_at hl 2 rfl) ?_
                      refine lv_aload_n hx hb dX0_shareIn_96 rfl (lv_at hl 3 rfl) ?_
                      refine va_get (D := (dC, dI)) (ci := 0) (v := .int (nI (an 3))) (C := RX0) (T := TX0) (N := 13) hx hb hts (fun _ h => List.mem_cons_of_mem _ (List.mem_append_right _ h)) hown hK hP 0 rfl rfl 3 (by decide) (hts (.fieldLink RX0 21 "JointAnnuity$Annuity" "survivorPercent" "I") (List.mem_of_getElem? (i := 5) rfl)) (fun _ h9 => h9) rfl dX0_shareIn_97 ?_
                      refine lv_i2l (v := lN (an 3)) hx hb dX0_shareIn_100 (nI_l (by omega)) ?_
                      refine lv_lmul hx hb dX0_shareIn_101 ?_
                      refine j_l (y := lN ((jM an iv k) * (an 3))) (lN_mul _ _) ?_
                      refine lv_ldc2 hx hb hown (hts (.constantLong RX0 68 (100)) (List.mem_of_getElem? (i := 6) rfl)) dX0_shareIn_102 ?_
                      refine j_l (y := lN 100) (by decide +kernel) ?_
                      refine lv_ldiv hx hb dX0_shareIn_105 (by decide) ?_
                      refine j_l (y := lN (((jM an iv k) * (an 3)) / 100)) (pk_lDiv (by omega) (by omega) (by omega)) ?_
                      refine lv_goto (tgt := 110) hx hb dX0_shareIn_106 (by decide) ?_
                      have hz : ((jM an iv k) * (an 3)) / 100 = (if k < an 0 then 0 else jS an iv k) := by
                        rw [if_neg (show ¬ k < an 0 by omega)]
                        unfold jS
                        repeat' split
                        all_goals first | rfl | omega
                      exact W.lret (v := lN (((jM an iv k) * (an 3)) / 100)) hx hb hr (fun t ht hW => ⟨_, rfl, by rw [← hz], ht⟩) (fun _ h => by cases h) dX0_shareIn_110
                · have c_80 : an 4 = 0 := (nI_eq (a := an 4) (b := 0) (by omega) (by omega)).mp c_80
                  refine lv_lload_n hx hb dX0_shareIn_83 rfl (lv_at hl 2 rfl) ?_
                  have hz : jM an iv k = (if k < an 0 then 0 else jS an iv k) := by
                    rw [if_neg (show ¬ k < an 0 by omega)]
                    unfold jS
                    repeat' split
                    all_goals first | rfl | omega
                  exact W.lret (v := lN (jM an iv k)) hx hb hr (fun t ht hW => ⟨_, rfl, by rw [← hz], ht⟩) (fun _ h => by cases h) dX0_shareIn_84
            · have c_66 : ¬ (f2 = 0) := fun h => c_66 ((nI_eq (a := f2) (b := 0) (by omega) (by omega)).mpr h)
              refine lv_lload_n hx hb dX0_shareIn_69 rfl (lv_at hl 2 rfl) ?_
              have hz : jM an iv k = (if k < an 0 then 0 else jS an iv k) := by
                rw [if_neg (show ¬ k < an 0 by omega)]
                unfold jS
                repeat' split
                all_goals first | rfl | omega
              exact W.lret (v := lN (jM an iv k)) hx hb hr (fun t ht hW => ⟨_, rfl, by rw [← hz], ht⟩) (fun _ h => by cases h) dX0_shareIn_70
      refine lv_iload_n hx hb dX0_shareIn_34 rfl (lv_at hl 3 rfl) ?_
      refine lv_aload_n hx hb dX0_shareIn_35 rfl (lv_at hl 2 rfl) ?_
      refine va_get (D := (dC, dI)) (ci := 0) (v := .ref (aa 1)) (C := RX0) (T := TX0) (N := 13) hx hb hts (fun _ h => List.mem_cons_of_mem _ (List.mem_append_right _ h)) hown hK hP 0 rfl rfl 8 (by decide) (hts (.fieldLink RX0 37 "JointAnnuity$Annuity" "deaths" "[I") (List.mem_of_getElem? (i := 2) rfl)) (fun _ h9 => h9) rfl dX0_shareIn_36 ?_
      refine lv_iconst (v := nI 1) hx hb dX0_shareIn_39 (by decide) ?_
      refine va_iald hx hb hK hP 1 0 (f := fun j => nI (an (8 + j))) rfl rfl (vp_in_nI (n := 1) (N := 2) (by omega) (by omega)) dX0_shareIn_40 ?_
      refine j_i (y := nI (an 9)) (by rw [nI_clamp (by omega)]) ?_
      refine lv_icmp_gt (tgt := 48) hx hb dX0_shareIn_41 (by decide) (fun c_41 => ?_) (fun c_41 => ?_)
      · have c_41 : an 9 < k := (nI_ltI (a := an 9) (b := k) (by omega) (by omega)).mp c_41
        refine lv_iconst (v := nI 0) hx hb dX0_shareIn_48 (by decide) ?_
        exact J49 0 (by omega)
      · have c_41 : ¬ (an 9 < k) := fun h => c_41 ((nI_ltI (a := an 9) (b := k) (by omega) (by omega)).mpr h)
        refine lv_iconst (v := nI 1) hx hb dX0_shareIn_44 (by decide) ?_
        refine lv_goto (tgt := 49) hx hb dX0_shareIn_45 (by decide) ?_
        exact J49 1 (by omega)
    refine lv_iload_n hx hb dX0_shareIn_17 rfl (lv_at hl 2 rfl) ?_
    refine lv_aload_n hx hb dX0_shareIn_18 rfl (lv_at hl 1 rfl) ?_
    refine va_get (D := (dC, dI)) (ci := 0) (v := .ref (aa 1)) (C := RX0) (T := TX0) (N := 13) hx hb hts (fun _ h => List.mem_cons_of_mem _ (List.mem_append_right _ h)) hown hK hP 0 rfl rfl 8 (by decide) (hts (.fieldLink RX0 37 "JointAnnuity$Annuity" "deaths" "[I") (List.mem_of_getElem? (i := 2) rfl)) (fun _ h9 => h9) rfl dX0_shareIn_19 ?_
    refine lv_iconst (v := nI 0) hx hb dX0_shareIn_22 (by decide) ?_
    refine va_iald hx hb hK hP 1 0 (f := fun j => nI (an (8 + j))) rfl rfl (vp_in_nI (n := 0) (N := 2) (by omega) (by omega)) dX0_shareIn_23 ?_
    refine j_i (y := nI (an 8)) (by rw [nI_clamp (by omega)]) ?_
    refine lv_icmp_gt (tgt := 31) hx hb dX0_shareIn_24 (by decide) (fun c_24 => ?_) (fun c_24 => ?_)
    · have c_24 : an 8 < k := (nI_ltI (a := an 8) (b := k) (by omega) (by omega)).mp c_24
      refine lv_iconst (v := nI 0) hx hb dX0_shareIn_31 (by decide) ?_
      exact J32 0 (by omega)
    · have c_24 : ¬ (an 8 < k) := fun h => c_24 ((nI_ltI (a := an 8) (b := k) (by omega) (by omega)).mpr h)
      refine lv_iconst (v := nI 1) hx hb dX0_shareIn_27 (by decide) ?_
      refine lv_goto (tgt := 32) hx hb dX0_shareIn_28 (by decide) ?_
      exact J32 1 (by omega)
  · have c_5 : ¬ (an 0 ≤ k) := fun h => c_5 ((nI_leI (a := an 0) (b := k) (by omega) (by omega)).mpr h)
    refine lv_lconst (v := lN 0) hx hb dX0_shareIn_8 (by decide) ?_
    exact W.lret (v := lN 0) hx hb hr (fun t ht hW => ⟨_, rfl, by rw [if_pos (by omega)], ht⟩) (fun _ h => by cases h) dX0_shareIn_9
set_option maxHeartbeats 4000000 in
set_option maxRecDepth 100000 in
/-- all shares ahead of a month -/
theorem c_X0_sharesAhead (l : Launch) (dC : Nat → ClassId) (dI : Nat → Nat → Nat) (cI cJ cZ cO : ClassId) (aa an : Nat → Nat) (iv : Nat → Int32) (kp : Int64) (py : Nat → Int64) (e9 : Nat) (hv : jV an) (he : e9 ≤ 240) : Met l yX0_sharesAhead wsX0_sharesAhead ({ frames := 2, cells := 0, slots := 0, locals := 46 }) (va_Pc [.ref (aa 0), .int (nI e9)] (jR (dC, dI) (jTY cI cJ cZ cO) (jAW cI cJ aa an iv kp py))) (vp_Sl (fun r => r = lN (jT an iv e9))) 0 0 (fun _ => False) := by
  refine j_of (cc := cX0_sharesAhead) (maxL := 5) (ret := (some .long)) (by decide) rfl (Nat.le_of_ble_eq_true rfl) ?_
  intro p e s m below meth c ls hx hb hr hml hts hown hlocks hnm hl hpre
  have hown : s.vm.findClass RX0 = some m.cls := hown
  have hl : lv_has ls 5 [(0, .ref (aa 0)), (1, .int (nI e9))] := hl
  obtain ⟨v0, v1, v2, v3, v4, v5, v6, v7, v8, v9⟩ := id hv
  obtain ⟨hP, hK⟩ := hpre
  refine lv_lconst (v := lN 0) hx hb dX0_sharesAhead_0 (by decide) ?_
  refine j_l (y := lN (jT an iv (an 0))) (by rw [jT_0 an iv (Nat.le_refl _)]) ?_
  refine lv_lstore_n (lv' := [(2, .long (lN (jT an iv (an 0)))), (0, .ref (aa 0)), (1, .int (nI e9))]) hx hb dX0_sharesAhead_1 rfl hl (by decide) rfl (fun ls hl => ?_)
  refine lv_aload_n hx hb dX0_sharesAhead_2 rfl (lv_at hl 1 rfl) ?_
  refine va_get (D := (dC, dI)) (ci := 0) (v := .int (nI (an 0))) (C := RX0) (T := TX0) (N := 13) hx hb hts (fun _ h => List.mem_cons_of_mem _ (List.mem_append_right _ h)) hown hK hP 0 rfl rfl 0 (by decide) (hts (.fieldLink RX0 9 "JointAnnuity$Annuity" "start" "I") (List.mem_of_getElem? (i := 1) rfl)) (fun _ h9 => h9) rfl dX0_sharesAhead_3 ?_
  refine lv_istore (lv' := [(4, .int (nI (an 0))), (2, .long (lN (jT an iv (an 0)))), (0, .ref (aa 0)), (1, .int (nI e9))]) hx hb dX0_sharesAhead_6 hl (by decide) rfl (fun ls hl => ?_)
  refine j_loop (I := fun j : Nat => an 0 ≤ j ∧ (j = an 0 ∨ j ≤ e9)) (μ := fun j => e9 - j) (lv := fun j => [(0, .ref (aa 0)), (1, .int (nI e9)), (2, .long (lN (jT an iv j))), (4, .int (nI j))]) (an 0) (by omega) (lv_sub hl [2, 3, 1, 0] rfl) ?_
  intro j ls hI hl IH
  have hl : lv_has ls 5 [(0, .ref (aa 0)), (1, .int (nI e9)), (2, .long (lN (jT an iv j))), (4, .int (nI j))] := hl
  obtain ⟨hI1, hI2⟩ := id hI
  refine lv_iload hx hb dX0_sharesAhead_8 (lv_at hl 3 rfl) ?_
  refine lv_iload_n hx hb dX0_sharesAhead_10 rfl (lv_at hl 1 rfl) ?_
  refine lv_icmp_ge (tgt := 29) hx hb dX0_sharesAhead_11 (by decide) (fun c_11 => ?_) (fun c_11 => ?_)
  · have c_11 : e9 ≤ j := (nI_leI (a := e9) (b := j) (by omega) (by omega)).mp c_11
    refine lv_lload_n hx hb dX0_sharesAhead_29 rfl (lv_at hl 2 rfl) ?_
    have hz : jT an iv j = jT an iv e9 := by
      rcases hI2 with h | h
      · rw [h, jT_0 an iv (Nat.le_refl _), jT_0 an iv (by omega)]
      · rw [show j = e9 by omega]
    exact W.lret (v := lN (jT an iv j)) hx hb hr (fun t ht hW => ⟨_, rfl, by rw [hz], ht⟩) (fun _ h => by cases h) dX0_sharesAhead_30
  · have c_11 : ¬ (e9 ≤ j) := fun h => c_11 ((nI_leI (a := e9) (b := j) (by omega) (by omega)).mpr h)
    refine lv_lload_n hx hb dX0_sharesAhead_14 rfl (lv_at hl 2 rfl) ?_
    refine lv_aload_n hx hb dX0_sharesAhead_15 rfl (lv_at hl 0 rfl) ?_
    refine lv_iload hx hb dX0_sharesAhead_16 (lv_at hl 3 rfl) ?_
    refine j_cL_ (As := [.int (nI j)]) (rest := [.long (lN (jT an iv j))]) ⟨hx, hb, hml, hown, hts⟩ (c_X0_shareIn l dC dI cI cJ cZ cO aa an iv kp py j hv (by omega)) (cwV 1 hts gX0_sharesAhead_X0_shareIn rfl rfl rfl (by decide +kernel) ⟨Nat.le_of_ble_eq_true rfl, Nat.le_of_ble_eq_true rfl⟩) (jR_V hK hP [0, 1, 2, 3, 4] rfl (ci := 0) (q0 := 0) rfl rfl rfl) rfl hl rfl (Nat.le_of_ble_eq_true rfl) dX0_sharesAhead_18 ⟨Nat.le_of_ble_eq_true rfl, Nat.le_of_ble_eq_true rfl⟩ (fun r_18 hr_18 => ?_)
    subst hr_18
    refine j_l (y := lN (jS an iv j)) (by rw [if_neg (by omega)]) ?_
    refine lv_ladd hx hb dX0_sharesAhead_21 ?_
    refine j_l (y := lN (jT an iv j + jS an iv j)) (lN_add _ _) ?_
    refine j_l (y := lN (jT an iv (j + 1))) (by rw [jT_s an iv hI.1]) ?_
    refine lv_lstore_n (lv' := [(2, .long (lN (jT an iv (j + 1)))), (0, .ref (aa 0)), (1, .int (nI e9)), (4, .int (nI j))]) hx hb dX0_sharesAhead_22 rfl hl (by decide) rfl (fun ls hl => ?_)
    refine lv_iinc (v := nI (j + 1)) (lv' := [(4, .int (nI (j + 1))), (2, .long (lN (jT an iv (j + 1)))), (0, .ref (aa 0)), (1, .int (nI e9))]) hx hb dX0_sharesAhead_23 hl (k := 3) rfl (by exact nI_add _ 1) (by decide) rfl (fun ls hl => ?_)
    refine lv_goto (tgt := 8) hx hb dX0_sharesAhead_26 (by decide) ?_
    exact IH (j + 1) _ (by omega) (by omega) (lv_sub hl [2, 3, 1, 0] rfl)
set_option maxHeartbeats 4000000 in
set_option maxRecDepth 100000 in
/-- the month of the protection -/
theorem c_X0_protectionMonth (l : Launch) (dC : Nat → ClassId) (dI : Nat → Nat → Nat) (cI cJ cZ cO : ClassId) (aa an : Nat → Nat) (iv : Nat → Int32) (kp : Int64) (py : Nat → Int64) (hv : jV an) : Met l yX0_protectionMonth wsX0_protectionMonth ({ frames := 1, cells := 0, slots := 0, locals := 13 }) (va_Pc [.ref (aa 0)] (jR (dC, dI) (jTY cI cJ cZ cO) (jAW cI cJ aa an iv kp py))) (vp_Si (fun r => r = nI (jP an))) 0 0 (fun _ => False) := by
  refine j_of (cc := cX0_protectionMonth) (maxL := 2) (ret := (some .int)) (by decide) rfl (Nat.le_of_ble_eq_true rfl) ?_
  intro p e s m below meth c ls hx hb hr hml hts hown hlocks hnm hl hpre
  have hown : s.vm.findClass RX0 = some m.cls := hown
  have hl : lv_has ls 2 [(0, .ref (aa 0))] := hl
  obtain ⟨v0, v1, v2, v3, v4, v5, v6, v7, v8, v9⟩ := id hv
  obtain ⟨hP, hK⟩ := hpre
  refine lv_aload_n hx hb dX0_protectionMonth_0 rfl (lv_at hl 0 rfl) ?_
  refine va_get (D := (dC, dI)) (ci := 0) (v := .ref (aa 1)) (C := RX0) (T := TX0) (N := 13) hx hb hts (fun _ h => List.mem_cons_of_mem _ (List.mem_append_right _ h)) hown hK hP 0 rfl rfl 8 (by decide) (hts (.fieldLink RX0 37 "JointAnnuity$Annuity" "deaths" "[I") (List.mem_of_getElem? (i := 1) rfl)) (fun _ h9 => h9) rfl dX0_protectionMonth_1 ?_
  refine lv_iconst (v := nI 0) hx hb dX0_protectionMonth_4 (by decide) ?_
  refine va_iald hx hb hK hP 1 0 (f := fun j => nI (an (8 + j))) rfl rfl (vp_in_nI (n := 0) (N := 2) (by omega) (by omega)) dX0_protectionMonth_5 ?_
  refine j_i (y := nI (an 8)) (by rw [nI_clamp (by omega)]) ?_
  refine lv_sipush (v := nI 240) hx hb dX0_protectionMonth_6 (by decide) ?_
  refine lv_icmp_eq (tgt := 24) hx hb dX0_protectionMonth_9 (by decide) (fun c_9 => ?_) (fun c_9 => ?_)
  · have c_9 : an 8 = 240 := (nI_eq (a := an 8) (b := 240) (by omega) (by omega)).mp c_9
    refine lv_sipush (v := nI 240) hx hb dX0_protectionMonth_24 (by decide) ?_
    exact W.iret (v := nI 240) hx hb hr (fun t ht hW => ⟨_, rfl, by unfold jP; rw [if_pos (by omega)], ht⟩) (fun _ h => by cases h) dX0_protectionMonth_27
  · have c_9 : ¬ (an 8 = 240) := fun h => c_9 ((nI_eq (a := an 8) (b := 240) (by omega) (by omega)).mpr h)
    refine lv_aload_n hx hb dX0_protectionMonth_12 rfl (lv_at hl 0 rfl) ?_
    refine va_get (D := (dC, dI)) (ci := 0) (v := .ref (aa 1)) (C := RX0) (T := TX0) (N := 13) hx hb hts (fun _ h => List.mem_cons_of_mem _ (List.mem_append_right _ h)) hown hK hP 0 rfl rfl 8 (by decide) (hts (.fieldLink RX0 37 "JointAnnuity$Annuity" "deaths" "[I") (List.mem_of_getElem? (i := 1) rfl)) (fun _ h9 => h9) rfl dX0_protectionMonth_13 ?_
    refine lv_iconst (v := nI 1) hx hb dX0_protectionMonth_16 (by decide) ?_
    refine va_iald hx hb hK hP 1 0 (f := fun j => nI (an (8 + j))) rfl rfl (vp_in_nI (n := 1) (N := 2) (by omega) (by omega)) dX0_protectionMonth_17 ?_
    refine j_i (y := nI (an 9)) (by rw [nI_clamp (by omega)]) ?_
    refine lv_sipush (v := nI 240) hx hb dX0_protectionMonth_18 (by decide) ?_
    refine lv_icmp_ne (tgt := 28) hx hb dX0_protectionMonth_21 (by decide) (fun c_21 => ?_) (fun c_21 => ?_)
    · have c_21 : ¬ (an 9 = 240) := fun h => c_21 ((nI_eq (a := an 9) (b := 240) (by omega) (by omega)).mpr h)
      refine lv_aload_n hx hb dX0_protectionMonth_28 rfl (lv_at hl 0 rfl) ?_
      refine va_get (D := (dC, dI)) (ci := 0) (v := .ref (aa 1)) (C := RX0) (T := TX0) (N := 13) hx hb hts (fun _ h => List.mem_cons_of_mem _ (List.mem_append_right _ h)) hown hK hP 0 rfl rfl 8 (by decide) (hts (.fieldLink RX0 37 "JointAnnuity$Annuity" "deaths" "[I") (List.mem_of_getElem? (i := 1) rfl)) (fun _ h9 => h9) rfl dX0_protectionMonth_29 ?_
      refine lv_iconst (v := nI 0) hx hb dX0_protectionMonth_32 (by decide) ?_
      refine va_iald hx hb hK hP 1 0 (f := fun j => nI (an (8 + j))) rfl rfl (vp_in_nI (n := 0) (N := 2) (by omega) (by omega)) dX0_protectionMonth_33 ?_
      refine j_i (y := nI (an 8)) (by rw [nI_clamp (by omega)]) ?_
      refine lv_aload_n hx hb dX0_protectionMonth_34 rfl (lv_at hl 0 rfl) ?_
      refine va_get (D := (dC, dI)) (ci := 0) (v := .ref (aa 1)) (C := RX0) (T := TX0) (N := 13) hx hb hts (fun _ h => List.mem_cons_of_mem _ (List.mem_append_right _ h)) hown hK hP 0 rfl rfl 8 (by decide) (hts (.fieldLink RX0 37 "JointAnnuity$Annuity" "deaths" "[I") (List.mem_of_getElem? (i := 1) rfl)) (fun _ h9 => h9) rfl dX0_protectionMonth_35 ?_
      refine lv_iconst (v := nI 1) hx hb dX0_protectionMonth_38 (by decide) ?_
      refine va_iald hx hb hK hP 1 0 (f := fun j => nI (an (8 + j))) rfl rfl (vp_in_nI (n := 1) (N := 2) (by omega) (by omega)) dX0_protectionMonth_39 ?_
      refine j_i (y := nI (an 9)) (by rw [nI_clamp (by omega)]) ?_
      refine va_mmax hx hb (hml.trans hl.1.symm) hown (hts (.methodLink RX0 61 Lib.Math.max.name) (List.mem_of_getElem? (i := 2) rfl)) (hts (.static Lib.Math.max.name) (List.mem_of_getElem? (i := 3) rfl)) (hts (.initialized "java/lang/Math") (List.mem_of_getElem? (i := 4) rfl)) (hts (.code Lib.Math.max.name Lib.Math.max.code 2 (some .int)) (List.mem_of_getElem? (i := 5) rfl)) (Nat.le_of_ble_eq_true rfl) (Nat.le_of_ble_eq_true rfl) (Nat.le_of_ble_eq_true rfl) (Nat.le_of_ble_eq_true rfl) dX0_protectionMonth_40 ?_
      refine j_i (y := nI (max (an 8) (an 9))) (jmaxI (by omega) (by omega)) ?_
      refine lv_iconst (v := nI 1) hx hb dX0_protectionMonth_43 (by decide) ?_
      refine lv_iadd hx hb dX0_protectionMonth_44 ?_
      refine j_i (y := nI ((max (an 8) (an 9)) + 1)) (nI_add _ _) ?_
      refine lv_istore_n (lv' := [(1, .int (nI ((max (an 8) (an 9)) + 1))), (0, .ref (aa 0))]) hx hb dX0_protectionMonth_45 rfl hl (by decide) rfl (fun ls hl => ?_)
      refine lv_iload_n hx hb dX0_protectionMonth_46 rfl (lv_at hl 0 rfl) ?_
      refine lv_aload_n hx hb dX0_protectionMonth_47 rfl (lv_at hl 1 rfl) ?_
      refine va_get (D := (dC, dI)) (ci := 0) (v := .int (nI (an 0 + an 2))) (C := RX0) (T := TX0) (N := 13) hx hb hts (fun _ h => List.mem_cons_of_mem _ (List.mem_append_right _ h)) hown hK hP 0 rfl rfl 2 (by decide) (hts (.fieldLink RX0 18 "JointAnnuity$Annuity" "guaranteeEnd" "I") (List.mem_of_getElem? (i := 6) rfl)) (fun _ h9 => h9) rfl dX0_protectionMonth_48 ?_
      refine va_mmax hx hb (hml.trans hl.1.symm) hown (hts (.methodLink RX0 61 Lib.Math.max.name) (List.mem_of_getElem? (i := 2) rfl)) (hts (.static Lib.Math.max.name) (List.mem_of_getElem? (i := 3) rfl)) (hts (.initialized "java/lang/Math") (List.mem_of_getElem? (i := 4) rfl)) (hts (.code Lib.Math.max.name Lib.Math.max.code 2 (some .int)) (List.mem_of_getElem? (i := 5) rfl)) (Nat.le_of_ble_eq_true rfl) (Nat.le_of_ble_eq_true rfl) (Nat.le_of_ble_eq_true rfl) (Nat.le_of_ble_eq_true rfl) dX0_protectionMonth_51 ?_
      refine j_i (y := nI (max (max (an 8) (an 9) + 1) (an 0 + an 2))) (jmaxI (by omega) (by omega)) ?_
      refine lv_sipush (v := nI 240) hx hb dX0_protectionMonth_54 (by decide) ?_
      refine va_mmin hx hb (hml.trans hl.1.symm) hown (hts (.methodLink RX0 55 Lib.Math.min.name) (List.mem_of_getElem? (i := 7) rfl)) (hts (.static Lib.Math.min.name) (List.mem_of_getElem? (i := 8) rfl)) (hts (.initialized "java/lang/Math") (List.mem_of_getElem? (i := 4) rfl)) (hts (.code Lib.Math.min.name Lib.Math.min.code 2 (some .int)) (List.mem_of_getElem? (i := 9) rfl)) (Nat.le_of_ble_eq_true rfl) (Nat.le_of_ble_eq_true rfl) (Nat.le_of_ble_eq_true rfl) (Nat.le_of_ble_eq_true rfl) dX0_protectionMonth_57 ?_
      refine j_i (y := nI (min (max (max (an 8) (an 9) + 1) (an 0 + an 2)) 240)) (jminI (by omega) (by omega)) ?_
      exact W.iret (v := nI (min (max (max (an 8) (an 9) + 1) (an 0 + an 2)) 240)) hx hb hr (fun t ht hW => ⟨_, rfl, by unfold jP; rw [if_neg (by omega)], ht⟩) (fun _ h => by cases h) dX0_protectionMonth_60
    · have c_21 : an 9 = 240 := (nI_eq (a := an 9) (b := 240) (by omega) (by omega)).mp c_21
      refine lv_sipush (v := nI 240) hx hb dX0_protectionMonth_24 (by decide) ?_
      exact W.iret (v := nI 240) hx hb hr (fun t ht hW => ⟨_, rfl, by unfold jP; rw [if_pos (by omega)], ht⟩) (fun _ h => by cases h) dX0_protectionMonth_27
set_option maxHeartbeats 4000000 in
set_option maxRecDepth 100000 in
/-- the protection -/
theorem c_X0_protectionSum (l : Launch) (dC : Nat → ClassId) (dI : Nat → Nat → Nat) (cI cJ cZ cO : ClassId) (aa an : Nat → Nat) (iv : Nat → Int32) (kp : Int64) (py : Nat → Int64) (hv : jV an) : Met l yX0_protectionSum wsX0_protectionSum ({ frames := 3, cells := 0, slots := 0, locals := 70 }) (va_Pc [.ref (aa 0)] (jR (dC, dI) (jTY cI cJ cZ cO) (jAW cI cJ aa an iv kp py))) (vp_Sl (fun r => r = lN (jQ an iv))) 0 0 (fun _ => False) := by
  refine j_of (cc := cX0_protectionSum) (maxL := 4) (ret := (some .long)) (by decide) rfl (Nat.le_of_ble_eq_true rfl) ?_
  intro p e s m below meth c ls hx hb hr hml hts hown hlocks hnm hl hpre
  have hown : s.vm.findClass RX0 = some m.cls := hown
  have hl : lv_has ls 4 [(0, .ref (aa 0))] := hl
  obtain ⟨v0, v1, v2, v3, v4, v5, v6, v7, v8, v9⟩ := id hv
  obtain ⟨hP, hK⟩ := hpre
  have h67 := jpr v6 v7
  have hpl := jP_le an
  have htl := jT_le hv iv hpl
  refine lv_aload_n hx hb dX0_protectionSum_0 rfl (lv_at hl 0 rfl) ?_
  refine j_cI_ (As := []) (rest := []) ⟨hx, hb, hml, hown, hts⟩ (c_X0_protectionMonth l dC dI cI cJ cZ cO aa an iv kp py hv) (cwV 0 hts gX0_protectionSum_X0_protectionMonth rfl rfl rfl (by decide +kernel) ⟨Nat.le_of_ble_eq_true rfl, Nat.le_of_ble_eq_true rfl⟩) (jR_V hK hP [0, 1, 2, 3, 4] rfl (ci := 0) (q0 := 0) rfl rfl rfl) rfl hl rfl (Nat.le_of_ble_eq_true rfl) dX0_protectionSum_1 ⟨Nat.le_of_ble_eq_true rfl, Nat.le_of_ble_eq_true rfl⟩ (fun r_1 hr_1 => ?_)
  subst hr_1
  refine lv_istore_n (lv' := [(1, .int (nI (jP an))), (0, .ref (aa 0))]) hx hb dX0_protectionSum_4 rfl hl (by decide) rfl (fun ls hl => ?_)
  refine lv_iload_n hx hb dX0_protectionSum_5 rfl (lv_at hl 0 rfl) ?_
  refine lv_sipush (v := nI 240) hx hb dX0_protectionSum_6 (by decide) ?_
  refine lv_icmp_ne (tgt := 14) hx hb dX0_protectionSum_9 (by decide) (fun c_9 => ?_) (fun c_9 => ?_)
  · have c_9 : ¬ (jP an = 240) := fun h => c_9 ((nI_eq (a := jP an) (b := 240) (by omega) (by omega)).mpr h)
    refine lv_aload_n hx hb dX0_protectionSum_14 rfl (lv_at hl 1 rfl) ?_
    refine va_get (D := (dC, dI)) (ci := 0) (v := .int (nI (an 6))) (C := RX0) (T := TX0) (N := 13) hx hb hts (fun _ h => List.mem_cons_of_mem _ (List.mem_append_right _ h)) hown hK hP 0 rfl rfl 6 (by decide) (hts (.fieldLink RX0 31 "JointAnnuity$Annuity" "price" "I") (List.mem_of_getElem? (i := 1) rfl)) (fun _ h9 => h9) rfl dX0_protectionSum_15 ?_
    refine lv_i2l (v := lN (an 6)) hx hb dX0_protectionSum_18 (nI_l (by omega)) ?_
    refine lv_aload_n hx hb dX0_protectionSum_19 rfl (lv_at hl 1 rfl) ?_
    refine va_get (D := (dC, dI)) (ci := 0) (v := .int (nI (an 7))) (C := RX0) (T := TX0) (N := 13) hx hb hts (fun _ h => List.mem_cons_of_mem _ (List.mem_append_right _ h)) hown hK hP 0 rfl rfl 7 (by decide) (hts (.fieldLink RX0 34 "JointAnnuity$Annuity" "protectedPercent" "I") (List.mem_of_getElem? (i := 2) rfl)) (fun _ h9 => h9) rfl dX0_protectionSum_20 ?_
    refine lv_i2l (v := lN (an 7)) hx hb dX0_protectionSum_23 (nI_l (by omega)) ?_
    refine lv_lmul hx hb dX0_protectionSum_24 ?_
    refine j_l (y := lN ((an 6) * (an 7))) (lN_mul _ _) ?_
    refine lv_ldc2 hx hb hown (hts (.constantLong RX0 68 (100)) (List.mem_of_getElem? (i := 3) rfl)) dX0_protectionSum_25 ?_
    refine j_l (y := lN 100) (by decide +kernel) ?_
    refine lv_ldiv hx hb dX0_protectionSum_28 (by decide) ?_
    refine j_l (y := lN (((an 6) * (an 7)) / 100)) (pk_lDiv (by omega) (by omega) (by omega)) ?_
    refine lv_lstore_n (lv' := [(2, .long (lN (((an 6) * (an 7)) / 100))), (1, .int (nI (jP an))), (0, .ref (aa 0))]) hx hb dX0_protectionSum_29 rfl hl (by decide) rfl (fun ls hl => ?_)
    refine lv_lconst (v := lN 0) hx hb dX0_protectionSum_30 (by decide) ?_
    refine lv_lload_n hx hb dX0_protectionSum_31 rfl (lv_at hl 0 rfl) ?_
    refine lv_aload_n hx hb dX0_protectionSum_32 rfl (lv_at hl 2 rfl) ?_
    refine lv_iload_n hx hb dX0_protectionSum_33 rfl (lv_at hl 1 rfl) ?_
    refine j_cL_ (As := [.int (nI (jP an))]) (rest := [.long (lN (((an 6) * (an 7)) / 100)), .long (lN 0)]) ⟨hx, hb, hml, hown, hts⟩ (c_X0_sharesAhead l dC dI cI cJ cZ cO aa an iv kp py (jP an) hv (by omega)) (cwV 1 hts gX0_protectionSum_X0_sharesAhead rfl rfl rfl (by decide +kernel) ⟨Nat.le_of_ble_eq_true rfl, Nat.le_of_ble_eq_true rfl⟩) (jR_V hK hP [0, 1, 2, 3, 4] rfl (ci := 0) (q0 := 0) rfl rfl rfl) rfl hl rfl (Nat.le_of_ble_eq_true rfl) dX0_protectionSum_34 ⟨Nat.le_of_ble_eq_true rfl, Nat.le_of_ble_eq_true rfl⟩ (fun r_34 hr_34 => ?_)
    subst hr_34
    refine lv_lsub hx hb dX0_protectionSum_37 ?_
    refine va_mmax_long hx hb (hml.trans hl.1.symm) hown (hts (.methodLink RX0 81 Lib.MathLoose.max_long.x) (List.mem_of_getElem? (i := 4) rfl)) (hts (.static Lib.MathLoose.max_long.x) (List.mem_of_getElem? (i := 5) rfl)) (hts (.initialized "java/lang/Math") (List.mem_of_getElem? (i := 6) rfl)) (hts (.code Lib.MathLoose.max_long.x Lib.MathLoose.max_long.code 4 (some .long)) (List.mem_of_getElem? (i := 7) rfl)) (Nat.le_of_ble_eq_true rfl) (Nat.le_of_ble_eq_true rfl) (Nat.le_of_ble_eq_true rfl) (Nat.le_of_ble_eq_true rfl) dX0_protectionSum_38 ?_
    refine j_l (y := lN (an 6 * an 7 / 100 - jT an iv (jP an))) (jmaxL2 (by omega) (by omega)) ?_
    exact W.lret (v := lN (an 6 * an 7 / 100 - jT an iv (jP an))) hx hb hr (fun t ht hW => ⟨_, rfl, by unfold jQ; rw [if_neg (by omega)], ht⟩) (fun _ h => by cases h) dX0_protectionSum_41
  · have c_9 : jP an = 240 := (nI_eq (a := jP an) (b := 240) (by omega) (by omega)).mp c_9
    refine lv_lconst (v := lN 0) hx hb dX0_protectionSum_12 (by decide) ?_
    exact W.lret (v := lN 0) hx hb hr (fun t ht hW => ⟨_, rfl, by unfold jQ; rw [if_pos (by omega)], ht⟩) (fun _ h => by cases h) dX0_protectionSum_13
set_option maxHeartbeats 4000000 in
set_option maxRecDepth 100000 in
/-- what is due in a month -/
theorem c_X0_dueIn (l : Launch) (dC : Nat → ClassId) (dI : Nat → Nat → Nat) (cI cJ cZ cO : ClassId) (aa an : Nat → Nat) (iv : Nat → Int32) (kp : Int64) (py : Nat → Int64) (k : Nat) (hv : jV an) (hk : k < 240) : Met l yX0_dueIn wsX0_dueIn ({ frames := 4, cells := 0, slots := 0, locals := 93 }) (va_Pc [.ref (aa 0), .int (nI k)] (jR (dC, dI) (jTY cI cJ cZ cO) (jAW cI cJ aa an iv kp py))) (vp_Sl (fun r => r = lN ((if k < an 0 then 0 else jS an iv k) + (if k = jP an then jQ an iv else 0)))) 0 0 (fun _ => False) := by
  refine j_of (cc := cX0_dueIn) (maxL := 4) (ret := (some .long)) (by decide) rfl (Nat.le_of_ble_eq_true rfl) ?_
  intro p e s m below meth c ls hx hb hr hml hts hown hlocks hnm hl hpre
  have hown : s.vm.findClass RX0 = some m.cls := hown
  have hl : lv_has ls 4 [(0, .ref (aa 0)), (1, .int (nI k))] := hl
  obtain ⟨v0, v1, v2, v3, v4, v5, v6, v7, v8, v9⟩ := id hv
  obtain ⟨hP, hK⟩ := hpre
  have hpl := jP_le an
  refine lv_aload_n hx hb dX0_dueIn_0 rfl (lv_at hl 0 rfl) ?_
  refine lv_iload_n hx hb dX0_dueIn_1 rfl (lv_at hl 1 rfl) ?_
  refine j_cL_ (As := [.int (nI k)]) (rest := []) ⟨hx, hb, hml, hown, hts⟩ (c_X0_shareIn l dC dI cI cJ cZ cO aa an iv kp py k hv hk) (cwV 1 hts gX0_dueIn_X0_shareIn rfl rfl rfl (by decide +kernel) ⟨Nat.le_of_ble_eq_true rfl, Nat.le_of_ble_eq_true rfl⟩) (jR_V hK hP [0, 1, 2, 3, 4] rfl (ci := 0) (q0 := 0) rfl rfl rfl) rfl hl rfl (Nat.le_of_ble_eq_true rfl) dX0_dueIn_2 ⟨Nat.le_of_ble_eq_true rfl, Nat.le_of_ble_eq_true rfl⟩ (fun r_2 hr_2 => ?_)
  subst hr_2
  refine lv_lstore_n (lv' := [(2, .long (lN (if k < an 0 then 0 else jS an iv k))), (0, .ref (aa 0)), (1, .int (nI k))]) hx hb dX0_dueIn_5 rfl hl (by decide) rfl (fun ls hl => ?_)
  refine j_join (fun z : Int64 => (k = jP an ∧ z = lN ((if k < an 0 then 0 else jS an iv k) + jQ an iv)) ∨ (¬ k = jP an ∧ z = lN (if k < an 0 then 0 else jS an iv k))) (fun z => F0 m 24 ls [.long z]) (fun z hz => ?_) (fun J24 => ?_)
  · have hz9 : z = lN ((if k < an 0 then 0 else jS an iv k) + (if k = jP an then jQ an iv else 0)) := by
      rcases hz with ⟨h1, h2⟩ | ⟨h1, h2⟩
      · rw [h2, if_pos h1]
      · rw [h2, if_neg h1, Nat.add_zero]
    exact W.lret (v := z) hx hb hr (fun t ht hW => ⟨_, rfl, hz9, ht⟩) (fun _ h => by cases h) dX0_dueIn_24
  refine lv_iload_n hx hb dX0_dueIn_6 rfl (lv_at hl 2 rfl) ?_
  refine lv_aload_n hx hb dX0_dueIn_7 rfl (lv_at hl 1 rfl) ?_
  refine j_cI_ (As := []) (rest := [.int (nI k)]) ⟨hx, hb, hml, hown, hts⟩ (c_X0_protectionMonth l dC dI cI cJ cZ cO aa an iv kp py hv) (cwV 0 hts gX0_dueIn_X0_protectionMonth rfl rfl rfl (by decide +kernel) ⟨Nat.le_of_ble_eq_true rfl, Nat.le_of_ble_eq_true rfl⟩) (jR_V hK hP [0, 1, 2, 3, 4] rfl (ci := 0) (q0 := 0) rfl rfl rfl) rfl hl rfl (Nat.le_of_ble_eq_true rfl) dX0_dueIn_8 ⟨Nat.le_of_ble_eq_true rfl, Nat.le_of_ble_eq_true rfl⟩ (fun r_8 hr_8 => ?_)
  subst hr_8
  refine lv_icmp_ne (tgt := 23) hx hb dX0_dueIn_11 (by decide) (fun c_11 => ?_) (fun c_11 => ?_)
  · have c_11 : ¬ (k = jP an) := fun h => c_11 ((nI_eq (a := k) (b := jP an) (by omega) (by omega)).mpr h)
    refine lv_lload_n hx hb dX0_dueIn_23 rfl (lv_at hl 0 rfl) ?_
    exact J24 _ (Or.inr ⟨c_11, rfl⟩)
  · have c_11 : k = jP an := (nI_eq (a := k) (b := jP an) (by omega) (by omega)).mp c_11
    refine lv_lload_n hx hb dX0_dueIn_14 rfl (lv_at hl 0 rfl) ?_
    refine lv_aload_n hx hb dX0_dueIn_15 rfl (lv_at hl 1 rfl) ?_
    refine j_cL_ (As := []) (rest := [.long (lN (if k < an 0 then 0 else jS an iv k))]) ⟨hx, hb, hml, hown, hts⟩ (c_X0_protectionSum l dC dI cI cJ cZ cO aa an iv kp py hv) (cwV 0 hts gX0_dueIn_X0_protectionSum rfl rfl rfl (by decide +kernel) ⟨Nat.le_of_ble_eq_true rfl, Nat.le_of_ble_eq_true rfl⟩) (jR_V hK hP [0, 1, 2, 3, 4] rfl (ci := 0) (q0 := 0) rfl rfl rfl) rfl hl rfl (Nat.le_of_ble_eq_true rfl) dX0_dueIn_16 ⟨Nat.le_of_ble_eq_true rfl, Nat.le_of_ble_eq_true rfl⟩ (fun r_16 hr_16 => ?_)
    subst hr_16
    refine lv_ladd hx hb dX0_dueIn_19 ?_
    refine j_l (y := lN ((if k < an 0 then 0 else jS an iv k) + jQ an iv)) (lN_add _ _) ?_
    refine lv_goto (tgt := 24) hx hb dX0_dueIn_20 (by decide) ?_
    exact J24 _ (Or.inl ⟨c_11, rfl⟩)
set_option maxHeartbeats 4000000 in
set_option maxRecDepth 100000 in
/-- all that is due ahead of a month -/
theorem c_X0_dueAhead (l : Launch) (dC : Nat → ClassId) (dI : Nat → Nat → Nat) (cI cJ cZ cO : ClassId) (aa an : Nat → Nat) (iv : Nat → Int32) (kp : Int64) (py : Nat → Int64) (e9 : Nat) (hv : jV an) (he : e9 ≤ 240) : Met l yX0_dueAhead wsX0_dueAhead ({ frames := 4, cells := 0, slots := 0, locals := 93 }) (va_Pc [.ref (aa 0), .int (nI e9)] (jR (dC, dI) (jTY cI cJ cZ cO) (jAW cI cJ aa an iv kp py))) (vp_Sl (fun r => r = lN (jU an iv e9))) 0 0 (fun _ => False) := by
  refine j_of (cc := cX0_dueAhead) (maxL := 4) (ret := (some .long)) (by decide) rfl (Nat.le_of_ble_eq_true rfl) ?_
  intro p e s m below meth c ls hx hb hr hml hts hown hlocks hnm hl hpre
  have hown : s.vm.findClass RX0 = some m.cls := hown
  have hl : lv_has ls 4 [(0, .ref (aa 0)), (1, .int (nI e9))] := hl
  obtain ⟨v0, v1, v2, v3, v4, v5, v6, v7, v8, v9⟩ := id hv
  obtain ⟨hP, hK⟩ := hpre
  have hpl := jP_le an
  refine lv_aload_n hx hb dX0_dueAhead_0 rfl (lv_at hl 0 rfl) ?_
  refine lv_iload_n hx hb dX0_dueAhead_1 rfl (lv_at hl 1 rfl) ?_
  refine j_cL_ (As := [.int (nI e9)]) (rest := []) ⟨hx, hb, hml, hown, hts⟩ (c_X0_sharesAhead l dC dI cI cJ cZ cO aa an iv kp py e9 hv he) (cwV 1 hts gX0_dueAhead_X0_sharesAhead rfl rfl rfl (by decide +kernel) ⟨Nat.le_of_ble_eq_true rfl, Nat.le_of_ble_eq_true rfl⟩) (jR_V hK hP [0, 1, 2, 3, 4] rfl (ci := 0) (q0 := 0) rfl rfl rfl) rfl hl rfl (Nat.le_of_ble_eq_true rfl) dX0_dueAhead_2 ⟨Nat.le_of_ble_eq_true rfl, Nat.le_of_ble_eq_true rfl⟩ (fun r_2 hr_2 => ?_)
  subst hr_2
  refine lv_lstore_n (lv' := [(2, .long (lN (jT an iv e9))), (0, .ref (aa 0)), (1, .int (nI e9))]) hx hb dX0_dueAhead_5 rfl hl (by decide) rfl (fun ls hl => ?_)
  refine j_join (fun z : Int64 => (e9 ≤ jP an ∧ z = lN (jT an iv e9)) ∨ (jP an < e9 ∧ z = lN (jT an iv e9 + jQ an iv))) (fun z => F0 m 24 ls [.long z]) (fun z hz => ?_) (fun J24 => ?_)
  · have hz9 : z = lN (jU an iv e9) := by
      unfold jU
      rcases hz with ⟨h1, h2⟩ | ⟨h1, h2⟩
      · rw [h2, if_neg (by omega), Nat.add_zero]
      · rw [h2, if_pos h1]
    exact W.lret (v := z) hx hb hr (fun t ht hW => ⟨_, rfl, hz9, ht⟩) (fun _ h => by cases h) dX0_dueAhead_24
  refine lv_aload_n hx hb dX0_dueAhead_6 rfl (lv_at hl 1 rfl) ?_
  refine j_cI_ (As := []) (rest := []) ⟨hx, hb, hml, hown, hts⟩ (c_X0_protectionMonth l dC dI cI cJ cZ cO aa an iv kp py hv) (cwV 0 hts gX0_dueAhead_X0_protectionMonth rfl rfl rfl (by decide +kernel) ⟨Nat.le_of_ble_eq_true rfl, Nat.le_of_ble_eq_true rfl⟩) (jR_V hK hP [0, 1, 2, 3, 4] rfl (ci := 0) (q0 := 0) rfl rfl rfl) rfl hl rfl (Nat.le_of_ble_eq_true rfl) dX0_dueAhead_7 ⟨Nat.le_of_ble_eq_true rfl, Nat.le_of_ble_eq_true rfl⟩ (fun r_7 hr_7 => ?_)
  subst hr_7
  refine lv_iload_n hx hb dX0_dueAhead_10 rfl (lv_at hl 2 rfl) ?_
  refine lv_icmp_ge (tgt := 23) hx hb dX0_dueAhead_11 (by decide) (fun c_11 => ?_) (fun c_11 => ?_)
  · have c_11 : e9 ≤ jP an := (nI_leI (a := e9) (b := jP an) (by omega) (by omega)).mp c_11
    refine lv_lload_n hx hb dX0_dueAhead_23 rfl (lv_at hl 0 rfl) ?_
    exact J24 _ (Or.inl ⟨c_11, rfl⟩)
  · have c_11 : ¬ (e9 ≤ jP an) := fun h => c_11 ((nI_leI (a := e9) (b := jP an) (by omega) (by omega)).mpr h)
    refine lv_lload_n hx hb dX0_dueAhead_14 rfl (lv_at hl 0 rfl) ?_
    refine lv_aload_n hx hb dX0_dueAhead_15 rfl (lv_at hl 1 rfl) ?_
    refine j_cL_ (As := []) (rest := [.long (lN (jT an iv e9))]) ⟨hx, hb, hml, hown, hts⟩ (c_X0_protectionSum l dC dI cI cJ cZ cO aa an iv kp py hv) (cwV 0 hts gX0_dueAhead_X0_protectionSum rfl rfl rfl (by decide +kernel) ⟨Nat.le_of_ble_eq_true rfl, Nat.le_of_ble_eq_true rfl⟩) (jR_V hK hP [0, 1, 2, 3, 4] rfl (ci := 0) (q0 := 0) rfl rfl rfl) rfl hl rfl (Nat.le_of_ble_eq_true rfl) dX0_dueAhead_16 ⟨Nat.le_of_ble_eq_true rfl, Nat.le_of_ble_eq_true rfl⟩ (fun r_16 hr_16 => ?_)
    subst hr_16
    refine lv_ladd hx hb dX0_dueAhead_19 ?_
    refine j_l (y := lN (jT an iv e9 + jQ an iv)) (lN_add _ _) ?_
    refine lv_goto (tgt := 24) hx hb dX0_dueAhead_20 (by decide) ?_
    exact J24 _ (Or.inr ⟨by omega, rfl⟩)
set_option maxHeartbeats 4000000 in
set_option maxRecDepth 100000 in
/-- what is owed -/
theorem c_X0_debtAhead (l : Launch) (dC : Nat → ClassId) (dI : Nat → Nat → Nat) (cI cJ cZ cO : ClassId) (aa an : Nat → Nat) (iv : Nat → Int32) (kp : Int64) (py : Nat → Int64) (e9 : Nat) (hv : jV an) (he : e9 ≤ 240) : Met l yX0_debtAhead wsX0_debtAhead ({ frames := 5, cells := 0, slots := 0, locals := 116 }) (va_Pc [.ref (aa 0), .int (nI e9)] (jR (dC, dI) (jTY cI cJ cZ cO) (jAW cI cJ aa an iv kp py))) (vp_Sl (fun r => r = jmx (kp - lN (jU an iv e9)))) 0 0 (fun _ => False) := by
  refine j_of (cc := cX0_debtAhead) (maxL := 2) (ret := (some .long)) (by decide) rfl (Nat.le_of_ble_eq_true rfl) ?_
  intro p e s m below meth c ls hx hb hr hml hts hown hlocks hnm hl hpre
  have hown : s.vm.findClass RX0 = some m.cls := hown
  have hl : lv_has ls 2 [(0, .ref (aa 0)), (1, .int (nI e9))] := hl
  obtain ⟨v0, v1, v2, v3, v4, v5, v6, v7, v8, v9⟩ := id hv
  obtain ⟨hP, hK⟩ := hpre
  refine lv_lconst (v := lN 0) hx hb dX0_debtAhead_0 (by decide) ?_
  refine lv_aload_n hx hb dX0_debtAhead_1 rfl (lv_at hl 0 rfl) ?_
  refine va_get (D := (dC, dI)) (ci := 0) (v := .long (kp)) (C := RX0) (T := TX0) (N := 13) hx hb hts (fun _ h => List.mem_cons_of_mem _ (List.mem_append_right _ h)) hown hK hP 0 rfl rfl 12 (by decide) (hts (.fieldLink RX0 51 "JointAnnuity$Annuity" "keptInAll" "J") (List.mem_of_getElem? (i := 1) rfl)) (fun _ h9 => h9) rfl dX0_debtAhead_2 ?_
  refine lv_aload_n hx hb dX0_debtAhead_5 rfl (lv_at hl 0 rfl) ?_
  refine lv_iload_n hx hb dX0_debtAhead_6 rfl (lv_at hl 1 rfl) ?_
  refine j_cL_ (As := [.int (nI e9)]) (rest := [.long (kp), .long (lN 0)]) ⟨hx, hb, hml, hown, hts⟩ (c_X0_dueAhead l dC dI cI cJ cZ cO aa an iv kp py e9 hv he) (cwV 1 hts gX0_debtAhead_X0_dueAhead rfl rfl rfl (by decide +kernel) ⟨Nat.le_of_ble_eq_true rfl, Nat.le_of_ble_eq_true rfl⟩) (jR_V hK hP [0, 1, 2, 3, 4] rfl (ci := 0) (q0 := 0) rfl rfl rfl) rfl hl rfl (Nat.le_of_ble_eq_true rfl) dX0_debtAhead_7 ⟨Nat.le_of_ble_eq_true rfl, Nat.le_of_ble_eq_true rfl⟩ (fun r_7 hr_7 => ?_)
  subst hr_7
  refine lv_lsub hx hb dX0_debtAhead_10 ?_
  refine va_mmax_long hx hb (hml.trans hl.1.symm) hown (hts (.methodLink RX0 81 Lib.MathLoose.max_long.x) (List.mem_of_getElem? (i := 2) rfl)) (hts (.static Lib.MathLoose.max_long.x) (List.mem_of_getElem? (i := 3) rfl)) (hts (.initialized "java/lang/Math") (List.mem_of_getElem? (i := 4) rfl)) (hts (.code Lib.MathLoose.max_long.x Lib.MathLoose.max_long.code 4 (some .long)) (List.mem_of_getElem? (i := 5) rfl)) (Nat.le_of_ble_eq_true rfl) (Nat.le_of_ble_eq_true rfl) (Nat.le_of_ble_eq_true rfl) (Nat.le_of_ble_eq_true rfl) dX0_debtAhead_11 ?_
  refine j_l (y := jmx (kp - lN (jU an iv e9))) (jmx_of _) ?_
  exact W.lret (v := jmx (kp - lN (jU an iv e9))) hx hb hr (fun t ht hW => ⟨_, rfl, rfl, ht⟩) (fun _ h => by cases h) dX0_debtAhead_14
end
section
/-! the contracts of an annuity: writers -/
set_option maxHeartbeats 4000000 in
set_option maxRecDepth 100000 in
/-- the full amounts and the carries, found anew -/
theorem c_X0_growBy (l : Launch) (dC : Nat → ClassId) (dI : Nat → Nat → Nat) (cI cJ cZ cO : ClassId) (aa an : Nat → Nat) (iv : Nat → Int32) (kp : Int64) (ia : Nat) (f0 c0 : Nat → Int32) (hv : jV an) : Met l yX0_growBy wsX0_growBy ({ frames := 1, cells := 0, slots := 0, locals := 14 }) (va_Pc [.ref (aa 0), .ref ia] (jW (dC, dI) (jTY cI cJ cZ cO) [((aa 0), .inr (0, [.int (nI (an 0)), .int (nI (an 1)), .int (nI (an 0 + an 2)), .int (nI (an 3)), .int (nI (an 4)), .int (nI (an 5)), .int (nI (an 6)), .int (nI (an 7)), .ref (aa 1), .ref (aa 2), .ref (aa 3), .ref (aa 4), .long (kp)])), ((aa 2), .inl (cI, 20, .inl (f0))), ((aa 3), .inl (cI, 20, .inl (c0))), (ia, .inl (cI, 20, .inl (iv)))])) (va_Qv (fun _ : Unit => True) (fun _ t => va_P (dC, dI) vwCl [((aa 0), .inr (0, [.int (nI (an 0)), .int (nI (an 1)), .int (nI (an 0 + an 2)), .int (nI (an 3)), .int (nI (an 4)), .int (nI (an 5)), .int (nI (an 6)), .int (nI (an 7)), .ref (aa 1), .ref (aa 2), .ref (aa 3), .ref (aa 4), .long (kp)])), ((aa 2), .inl (cI, 20, .inl (fun j => nI (jF an iv j)))), ((aa 3), .inl (cI, 20, .inl (fun j => jC an iv j))), (ia, .inl (cI, 20, .inl (iv)))] t.heap) (jA [((aa 0), .inr (0, [.int (nI (an 0)), .int (nI (an 1)), .int (nI (an 0 + an 2)), .int (nI (an 3)), .int (nI (an 4)), .int (nI (an 5)), .int (nI (an 6)), .int (nI (an 7)), .ref (aa 1), .ref (aa 2), .ref (aa 3), .ref (aa 4), .long (kp)])), ((aa 2), .inl (cI, 20, .inl (f0))), ((aa 3), .inl (cI, 20, .inl (c0))), (ia, .inl (cI, 20, .inl (iv)))])) 0 0 (jA [((aa 0), .inr (0, [.int (nI (an 0)), .int (nI (an 1)), .int (nI (an 0 + an 2)), .int (nI (an 3)), .int (nI (an 4)), .int (nI (an 5)), .int (nI (an 6)), .int (nI (an 7)), .ref (aa 1), .ref (aa 2), .ref (aa 3), .ref (aa 4), .long (kp)])), ((aa 2), .inl (cI, 20, .inl (f0))), ((aa 3), .inl (cI, 20, .inl (c0))), (ia, .inl (cI, 20, .inl (iv)))]) := by
  refine j_of (cc := cX0_growBy) (maxL := 8) (ret := none) (by decide) rfl (Nat.le_of_ble_eq_true rfl) ?_
  intro p e s m below meth c ls hx hb hr hml hts hown hlocks hnm hl hpre
  have hown : s.vm.findClass RX0 = some m.cls := hown
  have hl : lv_has ls 8 [(0, .ref (aa 0)), (1, .ref ia)] := hl
  obtain ⟨v0, v1, v2, v3, v4, v5, v6, v7, v8, v9⟩ := id hv
  obtain ⟨hP, hK, hD0⟩ := hpre
  have hD := hD0.jA
  generalize hAe : jA ([((aa 0), .inr (0, [.int (nI (an 0)), .int (nI (an 1)), .int (nI (an 0 + an 2)), .int (nI (an 3)), .int (nI (an 4)), .int (nI (an 5)), .int (nI (an 6)), .int (nI (an 7)), .ref (aa 1), .ref (aa 2), .ref (aa 3), .ref (aa 4), .long (kp)])), ((aa 2), .inl (cI, 20, .inl (f0))), ((aa 3), .inl (cI, 20, .inl (c0))), (ia, .inl (cI, 20, .inl (iv)))]) = A at hD ⊢
  have hS : va_S A s.heap s.heap [] := va_S.rf
  refine lv_aload_n hx hb dX0_growBy_0 rfl (lv_at hl 0 rfl) ?_
  refine va_get (D := (dC, dI)) (ci := 0) (v := .int (nI (an 1))) (C := RX0) (T := TX0) (N := 13) hx hb hts (fun _ h => List.mem_cons_of_mem _ (List.mem_append_right _ h)) hown hK hP 0 rfl rfl 1 (by decide) (hts (.fieldLink RX0 15 "JointAnnuity$Annuity" "amount" "I") (List.mem_of_getElem? (i := 1) rfl)) (fun _ h9 => h9) rfl dX0_growBy_1 ?_
  refine j_i (y := nI (jF an iv 0)) (rfl) ?_
  refine lv_istore_n (lv' := [(2, .int (nI (jF an iv 0))), (0, .ref (aa 0)), (1, .ref ia)]) hx hb dX0_growBy_4 rfl hl (by decide) rfl (fun ls hl => ?_)
  refine lv_iconst (v := nI 0) hx hb dX0_growBy_5 (by decide) ?_
  refine j_i (y := jC an iv 0) (rfl) ?_
  refine lv_istore_n (lv' := [(3, .int (jC an iv 0)), (2, .int (nI (jF an iv 0))), (0, .ref (aa 0)), (1, .ref ia)]) hx hb dX0_growBy_6 rfl hl (by decide) rfl (fun ls hl => ?_)
  refine lv_aload_n hx hb dX0_growBy_7 rfl (lv_at hl 2 rfl) ?_
  refine va_get (D := (dC, dI)) (ci := 0) (v := .ref (aa 2)) (C := RX0) (T := TX0) (N := 13) hx hb hts (fun _ h => List.mem_cons_of_mem _ (List.mem_append_right _ h)) hown hK hP 0 rfl rfl 9 (by decide) (hts (.fieldLink RX0 41 "JointAnnuity$Annuity" "fullAmounts" "[I") (List.mem_of_getElem? (i := 2) rfl)) (fun _ h9 => h9) rfl dX0_growBy_8 ?_
  refine lv_iconst (v := nI 0) hx hb dX0_growBy_11 (by decide) ?_
  refine lv_iload_n hx hb dX0_growBy_12 rfl (lv_at hl 1 rfl) ?_
  refine va_iast hx hb hK hP hD hS 1 0 (f := f0) (x := nI (jF an iv 0)) rfl rfl (vp_in_nI (n := 0) (N := 20) (by omega) (by omega)) dX0_growBy_13 (fun H locs hP hD hS => ?_)
  rw [nI_clamp (show 0 < 2 ^ 31 by omega)] at hP hD
  have hP : va_P (dC, dI) vwCl [((aa 0), .inr (0, [.int (nI (an 0)), .int (nI (an 1)), .int (nI (an 0 + an 2)), .int (nI (an 3)), .int (nI (an 4)), .int (nI (an 5)), .int (nI (an 6)), .int (nI (an 7)), .ref (aa 1), .ref (aa 2), .ref (aa 3), .ref (aa 4), .long (kp)])), ((aa 2), .inl (cI, 20, .inl (upd (f0) 0 (nI (jF an iv 0))))), ((aa 3), .inl (cI, 20, .inl (c0))), (ia, .inl (cI, 20, .inl (iv)))] H := hP
  have hD : va_D A [((aa 0), .inr (0, [.int (nI (an 0)), .int (nI (an 1)), .int (nI (an 0 + an 2)), .int (nI (an 3)), .int (nI (an 4)), .int (nI (an 5)), .int (nI (an 6)), .int (nI (an 7)), .ref (aa 1), .ref (aa 2), .ref (aa 3), .ref (aa 4), .long (kp)])), ((aa 2), .inl (cI, 20, .inl (upd (f0) 0 (nI (jF an iv 0))))), ((aa 3), .inl (cI, 20, .inl (c0))), (ia, .inl (cI, 20, .inl (iv)))] := hD
  refine lv_aload_n hx hb dX0_growBy_14 rfl (lv_at hl 2 rfl) ?_
  refine va_get (D := (dC, dI)) (ci := 0) (v := .ref (aa 3)) (C := RX0) (T := TX0) (N := 13) hx hb hts (fun _ h => List.mem_cons_of_mem _ (List.mem_append_right _ h)) hown hK hP 0 rfl rfl 10 (by decide) (hts (.fieldLink RX0 44 "JointAnnuity$Annuity" "carries" "[I") (List.mem_of_getElem? (i := 3) rfl)) (fun _ h9 => h9) rfl dX0_growBy_15 ?_
  refine lv_iconst (v := nI 0) hx hb dX0_growBy_18 (by decide) ?_
  refine lv_iload_n hx hb dX0_growBy_19 rfl (lv_at hl 0 rfl) ?_
  refine va_iast hx hb hK hP hD hS 2 0 (f := c0) (x := jC an iv 0) rfl rfl (vp_in_nI (n := 0) (N := 20) (by omega) (by omega)) dX0_growBy_20 (fun H locs hP hD hS => ?_)
  rw [nI_clamp (show 0 < 2 ^ 31 by omega)] at hP hD
  have hP : va_P (dC, dI) vwCl [((aa 0), .inr (0, [.int (nI (an 0)), .int (nI (an 1)), .int (nI (an 0 + an 2)), .int (nI (an 3)), .int (nI (an 4)), .int (nI (an 5)), .int (nI (an 6)), .int (nI (an 7)), .ref (aa 1), .ref (aa 2), .ref (aa 3), .ref (aa 4), .long (kp)])), ((aa 2), .inl (cI, 20, .inl (upd (f0) 0 (nI (jF an iv 0))))), ((aa 3), .inl (cI, 20, .inl (upd (c0) 0 (jC an iv 0)))), (ia, .inl (cI, 20, .inl (iv)))] H := hP
  have hD : va_D A [((aa 0), .inr (0, [.int (nI (an 0)), .int (nI (an 1)), .int (nI (an 0 + an 2)), .int (nI (an 3)), .int (nI (an 4)), .int (nI (an 5)), .int (nI (an 6)), .int (nI (an 7)), .ref (aa 1), .ref (aa 2), .ref (aa 3), .ref (aa 4), .long (kp)])), ((aa 2), .inl (cI, 20, .inl (upd (f0) 0 (nI (jF an iv 0))))), ((aa 3), .inl (cI, 20, .inl (upd (c0) 0 (jC an iv 0)))), (ia, .inl (cI, 20, .inl (iv)))] := hD
  refine lv_iconst (v := nI 1) hx hb dX0_growBy_21 (by decide) ?_
  refine lv_istore (lv' := [(4, .int (nI 1)), (3, .int (jC an iv 0)), (2, .int (nI (jF an iv 0))), (0, .ref (aa 0)), (1, .ref ia)]) hx hb dX0_growBy_22 hl (by decide) rfl (fun ls hl => ?_)
  refine j_loopW (I := fun q : Nat × (Nat → Int32) × (Nat → Int32) => q.1 < 20 ∧ ∀ i, i < q.1 + 1 → q.2.1 i = nI (jF an iv i) ∧ q.2.2 i = jC an iv i) (μ := fun q => 20 - q.1) (lv := fun q => [(0, .ref (aa 0)), (1, .ref ia), (2, .int (nI (jF an iv q.1))), (3, .int (jC an iv q.1)), (4, .int (nI (q.1 + 1)))]) (w := fun q => [((aa 0), .inr (0, [.int (nI (an 0)), .int (nI (an 1)), .int (nI (an 0 + an 2)), .int (nI (an 3)), .int (nI (an 4)), .int (nI (an 5)), .int (nI (an 6)), .int (nI (an 7)), .ref (aa 1), .ref (aa 2), .ref (aa 3), .ref (aa 4), .long (kp)])), ((aa 2), .inl (cI, 20, .inl (q.2.1))), ((aa 3), .inl (cI, 20, .inl (q.2.2))), (ia, .inl (cI, 20, .inl (iv)))]) (0, upd (f0) 0 (nI (jF an iv 0)), upd (c0) 0 (jC an iv 0)) ⟨show (0 : Nat) < 20 by decide, fun i hi => ?_⟩ (lv_sub hl [3, 4, 2, 1, 0] rfl) hP hD hS ?_
  · obtain rfl : i = 0 := by omega
    exact ⟨rfl, rfl⟩
  intro q H locs ls hI hP hD hS hl IH
  obtain ⟨b, f9, c9⟩ := q
  have hl : lv_has ls 8 [(0, .ref (aa 0)), (1, .ref ia), (2, .int (nI (jF an iv b))), (3, .int (jC an iv b)), (4, .int (nI (b + 1)))] := hl
  have hP : va_P (dC, dI) vwCl [((aa 0), .inr (0, [.int (nI (an 0)), .int (nI (an 1)), .int (nI (an 0 + an 2)), .int (nI (an 3)), .int (nI (an 4)), .int (nI (an 5)), .int (nI (an 6)), .int (nI (an 7)), .ref (aa 1), .ref (aa 2), .ref (aa 3), .ref (aa 4), .long (kp)])), ((aa 2), .inl (cI, 20, .inl (f9))), ((aa 3), .inl (cI, 20, .inl (c9))), (ia, .inl (cI, 20, .inl (iv)))] H := hP
  have hD : va_D A [((aa 0), .inr (0, [.int (nI (an 0)), .int (nI (an 1)), .int (nI (an 0 + an 2)), .int (nI (an 3)), .int (nI (an 4)), .int (nI (an 5)), .int (nI (an 6)), .int (nI (an 7)), .ref (aa 1), .ref (aa 2), .ref (aa 3), .ref (aa 4), .long (kp)])), ((aa 2), .inl (cI, 20, .inl (f9))), ((aa 3), .inl (cI, 20, .inl (c9))), (ia, .inl (cI, 20, .inl (iv)))] := hD
  have hI : b < 20 ∧ ∀ i, i < b + 1 → f9 i = nI (jF an iv i) ∧ c9 i = jC an iv i := hI
  obtain ⟨hb0, hI2⟩ := hI
  have hIH := fun (a9 : Nat × (Nat → Int32) × (Nat → Int32)) (H9 : Heap) => IH a9 H9
  refine lv_iload hx hb dX0_growBy_24 (lv_at hl 4 rfl) ?_
  refine lv_bipush (v := nI 20) hx hb dX0_growBy_26 (by decide) ?_
  refine lv_icmp_ge (tgt := 114) hx hb dX0_growBy_28 (by decide) (fun c_28 => ?_) (fun c_28 => ?_)
  · have c_28 : 20 ≤ b + 1 := (nI_leI (a := 20) (b := b + 1) (by omega) (by omega)).mp c_28
    have hP : va_P (dC, dI) vwCl [((aa 0), .inr (0, [.int (nI (an 0)), .int (nI (an 1)), .int (nI (an 0 + an 2)), .int (nI (an 3)), .int (nI (an 4)), .int (nI (an 5)), .int (nI (an 6)), .int (nI (an 7)), .ref (aa 1), .ref (aa 2), .ref (aa 3), .ref (aa 4), .long (kp)])), ((aa 2), .inl (cI, 20, .inl (fun j => nI (jF an iv j)))), ((aa 3), .inl (cI, 20, .inl (fun j => jC an iv j))), (ia, .inl (cI, 20, .inl (iv)))] H := j_same hP rfl (fun k hk => match k, hk with
      | 0, _ => Or.inl rfl
      | 1, _ => Or.inr ⟨_, _, _, rfl, rfl, j_cI (fun j hj => (hI2 j (by omega)).1)⟩
      | 2, _ => Or.inr ⟨_, _, _, rfl, rfl, j_cI (fun j hj => (hI2 j (by omega)).2)⟩
      | 3, _ => Or.inl rfl
      | _ + 4, h => absurd h (Nat.not_lt.mpr (Nat.le_add_left _ _)))
    exact W.vret hx hb hr (fun t ht hW => ⟨⟨(), rfl, trivial, j_h ht hP⟩, hS.F ht⟩) hS.2.2 dX0_growBy_114
  · have c_28 : ¬ (20 ≤ b + 1) := fun h => c_28 ((nI_leI (a := 20) (b := b + 1) (by omega) (by omega)).mpr h)
    refine lv_aload_n hx hb dX0_growBy_31 rfl (lv_at hl 0 rfl) ?_
    refine va_get (D := (dC, dI)) (ci := 0) (v := .int (nI (an 0))) (C := RX0) (T := TX0) (N := 13) hx hb hts (fun _ h => List.mem_cons_of_mem _ (List.mem_append_right _ h)) hown hK hP 0 rfl rfl 0 (by decide) (hts (.fieldLink RX0 9 "JointAnnuity$Annuity" "start" "I") (List.mem_of_getElem? (i := 4) rfl)) (fun _ h9 => h9) rfl dX0_growBy_32 ?_
    refine lv_bipush (v := nI 12) hx hb dX0_growBy_35 (by decide) ?_
    refine lv_idiv hx hb dX0_growBy_37 (by decide) ?_
    refine j_i (y := nI ((an 0) / 12)) (pk_div (by omega) (by omega) (by omega)) ?_
    refine lv_iload hx hb dX0_growBy_38 (lv_at hl 4 rfl) ?_
    refine lv_iadd hx hb dX0_growBy_40 ?_
    refine j_i (y := nI ((an 0) / 12 + b + 1)) (nI_add _ _) ?_
    refine lv_iconst (v := nI 1) hx hb dX0_growBy_41 (by decide) ?_
    refine lv_isub hx hb dX0_growBy_42 ?_
    refine j_i (y := nI (((an 0) / 12 + b + 1) - 1)) (pk_sub (by omega)) ?_
    refine j_i (y := nI (an 0 / 12 + b)) (congrArg nI (by omega)) ?_
    refine lv_istore (lv' := [(5, .int (nI (an 0 / 12 + b))), (0, .ref (aa 0)), (1, .ref ia), (2, .int (nI (jF an iv b))), (3, .int (jC an iv b)), (4, .int (nI (b + 1)))]) hx hb dX0_growBy_43 hl (by decide) rfl (fun ls hl => ?_)
    refine lv_iload hx hb dX0_growBy_45 (lv_at hl 0 rfl) ?_
    refine lv_aload_n hx hb dX0_growBy_47 rfl (lv_at hl 2 rfl) ?_
    refine va_alen hx hb hK hP 3 0 (v := nI 20) rfl rfl rfl dX0_growBy_48 ?_
    refine lv_icmp_ge (tgt := 92) hx hb dX0_growBy_49 (by decide) (fun c_49 => ?_) (fun c_49 => ?_)
    · have c_49 : 20 ≤ an 0 / 12 + b := (nI_leI (a := 20) (b := an 0 / 12 + b) (by omega) (by omega)).mp c_49
      have hn : ¬ an 0 / 12 + b < 20 := by omega
      have hl : lv_has ls 8 [(5, .int (nI (an 0 / 12 + b))), (0, .ref (aa 0)), (1, .ref ia), (2, .int (nI (jF an iv (b + 1)))), (3, .int (jC an iv (b + 1))), (4, .int (nI (b + 1)))] := by rw [jF_n an iv hn, jC_n an iv hn]; exact hl
      refine lv_aload_n hx hb dX0_growBy_92 rfl (lv_at hl 1 rfl) ?_
      refine va_get (D := (dC, dI)) (ci := 0) (v := .ref (aa 2)) (C := RX0) (T := TX0) (N := 13) hx hb hts (fun _ h => List.mem_cons_of_mem _ (List.mem_append_right _ h)) hown hK hP 0 rfl rfl 9 (by decide) (hts (.fieldLink RX0 41 "JointAnnuity$Annuity" "fullAmounts" "[I") (List.mem_of_getElem? (i := 2) rfl)) (fun _ h9 => h9) rfl dX0_growBy_93 ?_
      refine lv_iload hx hb dX0_growBy_96 (lv_at hl 5 rfl) ?_
      refine lv_iload_n hx hb dX0_growBy_98 rfl (lv_at hl 3 rfl) ?_
      refine va_iast hx hb hK hP hD hS 1 0 (f := f9) (x := nI (jF an iv (b + 1))) rfl rfl (vp_in_nI (n := b + 1) (N := 20) (by omega) (by omega)) dX0_growBy_99 (fun H locs hP hD hS => ?_)
      rw [nI_clamp (show b + 1 < 2 ^ 31 by omega)] at hP hD
      have hP : va_P (dC, dI) vwCl [((aa 0), .inr (0, [.int (nI (an 0)), .int (nI (an 1)), .int (nI (an 0 + an 2)), .int (nI (an 3)), .int (nI (an 4)), .int (nI (an 5)), .int (nI (an 6)), .int (nI (an 7)), .ref (aa 1), .ref (aa 2), .ref (aa 3), .ref (aa 4), .long (kp)])), ((aa 2), .inl (cI, 20, .inl (upd (f9) (b + 1) (nI (jF an iv (b + 1)))))), ((aa 3), .inl (cI, 20, .inl (c9))), (ia, .inl (cI, 20, .inl (iv)))] H := hP
      have hD : va_D A [((aa 0), .inr (0, [.int (nI (an 0)), .int (nI (an 1)), .int (nI (an 0 + an 2)), .int (nI (an 3)), .int (nI (an 4)), .int (nI (an 5)), .int (nI (an 6)), .int (nI (an 7)), .ref (aa 1), .ref (aa 2), .ref (aa 3), .ref (aa 4), .long (kp)])), ((aa 2), .inl (cI, 20, .inl (upd (f9) (b + 1) (nI (jF an iv (b + 1)))))), ((aa 3), .inl (cI, 20, .inl (c9))), (ia, .inl (cI, 20, .inl (iv)))] := hD
      refine lv_aload_n hx hb dX0_growBy_100 rfl (lv_at hl 1 rfl) ?_
      refine va_get (D := (dC, dI)) (ci := 0) (v := .ref (aa 3)) (C := RX0) (T := TX0) (N := 13) hx hb hts (fun _ h => List.mem_cons_of_mem _ (List.mem_append_right _ h)) hown hK hP 0 rfl rfl 10 (by decide) (hts (.fieldLink RX0 44 "JointAnnuity$Annuity" "carries" "[I") (List.mem_of_getElem? (i := 3) rfl)) (fun _ h9 => h9) rfl dX0_growBy_101 ?_
      refine lv_iload hx hb dX0_growBy_104 (lv_at hl 5 rfl) ?_
      refine lv_iload_n hx hb dX0_growBy_106 rfl (lv_at hl 4 rfl) ?_
      refine va_iast hx hb hK hP hD hS 2 0 (f := c9) (x := jC an iv (b + 1)) rfl rfl (vp_in_nI (n := b + 1) (N := 20) (by omega) (by omega)) dX0_growBy_107 (fun H locs hP hD hS => ?_)
      rw [nI_clamp (show b + 1 < 2 ^ 31 by omega)] at hP hD
      have hP : va_P (dC, dI) vwCl [((aa 0), .inr (0, [.int (nI (an 0)), .int (nI (an 1)), .int (nI (an 0 + an 2)), .int (nI (an 3)), .int (nI (an 4)), .int (nI (an 5)), .int (nI (an 6)), .int (nI (an 7)), .ref (aa 1), .ref (aa 2), .ref (aa 3), .ref (aa 4), .long (kp)])), ((aa 2), .inl (cI, 20, .inl (upd (f9) (b + 1) (nI (jF an iv (b + 1)))))), ((aa 3), .inl (cI, 20, .inl (upd (c9) (b + 1) (jC an iv (b + 1))))), (ia, .inl (cI, 20, .inl (iv)))] H := hP
      have hD : va_D A [((aa 0), .inr (0, [.int (nI (an 0)), .int (nI (an 1)), .int (nI (an 0 + an 2)), .int (nI (an 3)), .int (nI (an 4)), .int (nI (an 5)), .int (nI (an 6)), .int (nI (an 7)), .ref (aa 1), .ref (aa 2), .ref (aa 3), .ref (aa 4), .long (kp)])), ((aa 2), .inl (cI, 20, .inl (upd (f9) (b + 1) (nI (jF an iv (b + 1)))))), ((aa 3), .inl (cI, 20, .inl (upd (c9) (b + 1) (jC an iv (b + 1))))), (ia, .inl (cI, 20, .inl (iv)))] := hD
      refine lv_iinc (v := nI (b + 1 + 1)) (lv' := [(4, .int (nI (b + 1 + 1))), (5, .int (nI (an 0 / 12 + b))), (0, .ref (aa 0)), (1, .ref ia), (2, .int (nI (jF an iv (b + 1)))), (3, .int (jC an iv (b + 1)))]) hx hb dX0_growBy_108 hl (k := 5) rfl (by exact nI_add _ 1) (by decide) rfl (fun ls hl => ?_)
      refine lv_goto (tgt := 24) hx hb dX0_growBy_111 (by decide) ?_
      refine IH (b + 1, upd (f9) (b + 1) (nI (jF an iv (b + 1))), upd (c9) (b + 1) (jC an iv (b + 1))) H locs ls ⟨by omega, fun i hi => ?_⟩ (show 20 - (b + 1) < 20 - b by omega) hP hD hS (lv_sub hl [2, 3, 4, 5, 0] rfl)
      by_cases h : i = b + 1
      · subst h
        exact ⟨pk_us, pk_us⟩
      · exact ⟨(pk_un h).trans (hI2 i (by omega)).1, (pk_un h).trans (hI2 i (by omega)).2⟩
    · have c_49 : ¬ (20 ≤ an 0 / 12 + b) := fun h => c_49 ((nI_leI (a := 20) (b := an 0 / 12 + b) (by omega) (by omega)).mpr h)
      have hy : an 0 / 12 + b < 20 := by omega
      refine lv_aload_n hx hb dX0_growBy_52 rfl (lv_at hl 2 rfl) ?_
      refine lv_iload hx hb dX0_growBy_53 (lv_at hl 0 rfl) ?_
      refine va_iald hx hb hK hP 3 0 (f := iv) rfl rfl (vp_in_nI (n := an 0 / 12 + b) (N := 20) (by omega) (by omega)) dX0_growBy_55 ?_
      refine j_i (y := iv (an 0 / 12 + b)) (by rw [nI_clamp (by omega)]) ?_
      refine lv_iload_n hx hb dX0_growBy_56 rfl (lv_at hl 4 rfl) ?_
      refine lv_iadd hx hb dX0_growBy_57 ?_
      refine lv_istore (lv' := [(6, .int ((iv (an 0 / 12 + b)) + (jC an iv b))), (5, .int (nI (an 0 / 12 + b))), (0, .ref (aa 0)), (1, .ref ia), (2, .int (nI (jF an iv b))), (3, .int (jC an iv b)), (4, .int (nI (b + 1)))]) hx hb dX0_growBy_58 hl (by decide) rfl (fun ls hl => ?_)
      refine lv_iconst (v := nI 0) hx hb dX0_growBy_60 (by decide) ?_
      refine lv_iload hx hb dX0_growBy_61 (lv_at hl 0 rfl) ?_
      refine lv_aload_n hx hb dX0_growBy_63 rfl (lv_at hl 2 rfl) ?_
      refine va_get (D := (dC, dI)) (ci := 0) (v := .int (nI (an 5))) (C := RX0) (T := TX0) (N := 13) hx hb hts (fun _ h => List.mem_cons_of_mem _ (List.mem_append_right _ h)) hown hK hP 0 rfl rfl 5 (by decide) (hts (.fieldLink RX0 28 "JointAnnuity$Annuity" "cap" "I") (List.mem_of_getElem? (i := 5) rfl)) (fun _ h9 => h9) rfl dX0_growBy_64 ?_
      refine va_mmin hx hb (hml.trans hl.1.symm) hown (hts (.methodLink RX0 55 Lib.Math.min.name) (List.mem_of_getElem? (i := 6) rfl)) (hts (.static Lib.Math.min.name) (List.mem_of_getElem? (i := 7) rfl)) (hts (.initialized "java/lang/Math") (List.mem_of_getElem? (i := 8) rfl)) (hts (.code Lib.Math.min.name Lib.Math.min.code 2 (some .int)) (List.mem_of_getElem? (i := 9) rfl)) (Nat.le_of_ble_eq_true rfl) (Nat.le_of_ble_eq_true rfl) (Nat.le_of_ble_eq_true rfl) (Nat.le_of_ble_eq_true rfl) dX0_growBy_67 ?_
      refine va_mmax hx hb (hml.trans hl.1.symm) hown (hts (.methodLink RX0 61 Lib.Math.max.name) (List.mem_of_getElem? (i := 10) rfl)) (hts (.static Lib.Math.max.name) (List.mem_of_getElem? (i := 11) rfl)) (hts (.initialized "java/lang/Math") (List.mem_of_getElem? (i := 8) rfl)) (hts (.code Lib.Math.max.name Lib.Math.max.code 2 (some .int)) (List.mem_of_getElem? (i := 12) rfl)) (Nat.le_of_ble_eq_true rfl) (Nat.le_of_ble_eq_true rfl) (Nat.le_of_ble_eq_true rfl) (Nat.le_of_ble_eq_true rfl) dX0_growBy_70 ?_
      refine j_i (y := nI (jcl (iv (an 0 / 12 + b) + jC an iv b) (an 5))) (jcl_A _ (by omega)) ?_
      refine lv_istore (lv' := [(7, .int (nI (jcl (iv (an 0 / 12 + b) + jC an iv b) (an 5)))), (6, .int ((iv (an 0 / 12 + b)) + (jC an iv b))), (5, .int (nI (an 0 / 12 + b))), (0, .ref (aa 0)), (1, .ref ia), (2, .int (nI (jF an iv b))), (3, .int (jC an iv b)), (4, .int (nI (b + 1)))]) hx hb dX0_growBy_73 hl (by decide) rfl (fun ls hl => ?_)
      refine lv_iload hx hb dX0_growBy_75 (lv_at hl 1 rfl) ?_
      refine lv_iload hx hb dX0_growBy_77 (lv_at hl 0 rfl) ?_
      refine lv_isub hx hb dX0_growBy_79 ?_
      refine j_i (y := jC an iv (b + 1)) ((jC_s an iv hy).symm) ?_
      refine lv_istore_n (lv' := [(3, .int (jC an iv (b + 1))), (7, .int (nI (jcl (iv (an 0 / 12 + b) + jC an iv b) (an 5)))), (6, .int ((iv (an 0 / 12 + b)) + (jC an iv b))), (5, .int (nI (an 0 / 12 + b))), (0, .ref (aa 0)), (1, .ref ia), (2, .int (nI (jF an iv b))), (4, .int (nI (b + 1)))]) hx hb dX0_growBy_80 rfl hl (by decide) rfl (fun ls hl => ?_)
      refine lv_iload_n hx hb dX0_growBy_81 rfl (lv_at hl 6 rfl) ?_
      refine lv_iload_n hx hb dX0_growBy_82 rfl (lv_at hl 6 rfl) ?_
      refine lv_iload hx hb dX0_growBy_83 (lv_at hl 1 rfl) ?_
      refine lv_imul hx hb dX0_growBy_85 ?_
      refine lv_sipush (v := nI 1000) hx hb dX0_growBy_86 (by decide) ?_
      refine lv_idiv hx hb dX0_growBy_89 (by decide) ?_
      refine lv_iadd hx hb dX0_growBy_90 ?_
      refine j_i (y := nI (jF an iv (b + 1))) (by rw [jF_s an iv hy]; exact jgrow (jF_bd hv iv (by omega)) (Nat.le_trans (jcl_le _ (by omega)) v5)) ?_
      refine lv_istore_n (lv' := [(2, .int (nI (jF an iv (b + 1)))), (3, .int (jC an iv (b + 1))), (7, .int (nI (jcl (iv (an 0 / 12 + b) + jC an iv b) (an 5)))), (6, .int ((iv (an 0 / 12 + b)) + (jC an iv b))), (5, .int (nI (an 0 / 12 + b))), (0, .ref (aa 0)), (1, .ref ia), (4, .int (nI (b + 1)))]) hx hb dX0_growBy_91 rfl hl (by decide) rfl (fun ls hl => ?_)
      refine lv_aload_n hx hb dX0_growBy_92 rfl (lv_at hl 5 rfl) ?_
      refine va_get (D := (dC, dI)) (ci := 0) (v := .ref (aa 2)) (C := RX0) (T := TX0) (N := 13) hx hb hts (fun _ h => List.mem_cons_of_mem _ (List.mem_append_right _ h)) hown hK hP 0 rfl rfl 9 (by decide) (hts (.fieldLink RX0 41 "JointAnnuity$Annuity" "fullAmounts" "[I") (List.mem_of_getElem? (i := 2) rfl)) (fun _ h9 => h9) rfl dX0_growBy_93 ?_
      refine lv_iload hx hb dX0_growBy_96 (lv_at hl 7 rfl) ?_
      refine lv_iload_n hx hb dX0_growBy_98 rfl (lv_at hl 0 rfl) ?_
      refine va_iast hx hb hK hP hD hS 1 0 (f := f9) (x := nI (jF an iv (b + 1))) rfl rfl (vp_in_nI (n := b + 1) (N := 20) (by omega) (by omega)) dX0_growBy_99 (fun H locs hP hD hS => ?_)
      rw [nI_clamp (show b + 1 < 2 ^ 31 by omega)] at hP hD
      have hP : va_P (dC, dI) vwCl [((aa 0), .inr (0, [.int (nI (an 0)), .int (nI (an 1)), .int (nI (an 0 + an 2)), .int (nI (an 3)), .int (nI (an 4)), .int (nI (an 5)), .int (nI (an 6)), .int (nI (an 7)), .ref (aa 1), .ref (aa 2), .ref (aa 3), .ref (aa 4), .long (kp)])), ((aa 2), .inl (cI, 20, .inl (upd (f9) (b + 1) (nI (jF an iv (b + 1)))))), ((aa 3), .inl (cI, 20, .inl (c9))), (ia, .inl (cI, 20, .inl (iv)))] H := hP
      have hD : va_D A [((aa 0), .inr (0, [.int (nI (an 0)), .int (nI (an 1)), .int (nI (an 0 + an 2)), .int (nI (an 3)), .int (nI (an 4)), .int (nI (an 5)), .int (nI (an 6)), .int (nI (an 7)), .ref (aa 1), .ref (aa 2), .ref (aa 3), .ref (aa 4), .long (kp)])), ((aa 2), .inl (cI, 20, .inl (upd (f9) (b + 1) (nI (jF an iv (b + 1)))))), ((aa 3), .inl (cI, 20, .inl (c9))), (ia, .inl (cI, 20, .inl (iv)))] := hD
      refine lv_aload_n hx hb dX0_growBy_100 rfl (lv_at hl 5 rfl) ?_
      refine va_get (D := (dC, dI)) (ci := 0) (v := .ref (aa 3)) (C := RX0) (T := TX0) (N := 13) hx hb hts (fun _ h => List.mem_cons_of_mem _ (List.mem_append_right _ h)) hown hK hP 0 rfl rfl 10 (by decide) (hts (.fieldLink RX0 44 "JointAnnuity$Annuity" "carries" "[I") (List.mem_of_getElem? (i := 3) rfl)) (fun _ h9 => h9) rfl dX0_growBy_101 ?_
      refine lv_iload hx hb dX0_growBy_104 (lv_at hl 7 rfl) ?_
      refine lv_iload_n hx hb dX0_growBy_106 rfl (lv_at hl 1 rfl) ?_
      refine va_iast hx hb hK hP hD hS 2 0 (f := c9) (x := jC an iv (b + 1)) rfl rfl (vp_in_nI (n := b + 1) (N := 20) (by omega) (by omega)) dX0_growBy_107 (fun H locs hP hD hS => ?_)
      rw [nI_clamp (show b + 1 < 2 ^ 31 by omega)] at hP hD
      have hP : va_P (dC, dI) vwCl [((aa 0), .inr (0, [.int (nI (an 0)), .int (nI (an 1)), .int (nI (an 0 + an 2)), .int (nI (an 3)), .int (nI (an 4)), .int (nI (an 5)), .int (nI (an 6)), .int (nI (an 7)), .ref (aa 1), .ref (aa 2), .ref (aa 3), .ref (aa 4), .long (kp)])), ((aa 2), .inl (cI, 20, .inl (upd (f9) (b + 1) (nI (jF an iv (b + 1)))))), ((aa 3), .inl (cI, 20, .inl (upd (c9) (b + 1) (jC an iv (b + 1))))), (ia, .inl (cI, 20, .inl (iv)))] H := hP
      have hD : va_D A [((aa 0), .inr (0, [.int (nI (an 0)), .int (nI (an 1)), .int (nI (an 0 + an 2)), .int (nI (an 3)), .int (nI (an 4)), .int (nI (an 5)), .int (nI (an 6)), .int (nI (an 7)), .ref (aa 1), .ref (aa 2), .ref (aa 3), .ref (aa 4), .long (kp)])), ((aa 2), .inl (cI, 20, .inl (upd (f9) (b + 1) (nI (jF an iv (b + 1)))))), ((aa 3), .inl (cI, 20, .inl (upd (c9) (b + 1) (jC an iv (b + 1))))), (ia, .inl (cI, 20, .inl (iv)))] := hD
      refine lv_iinc (v := nI (b + 1 + 1)) (lv' := [(4, .int (nI (b + 1 + 1))), (2, .int (nI (jF an iv (b + 1)))), (3, .int (jC an iv (b + 1))), (7, .int (nI (jcl (iv (an 0 / 12 + b) + jC an iv b) (an 5)))), (6, .int ((iv (an 0 / 12 + b)) + (jC an iv b))), (5, .int (nI (an 0 / 12 + b))), (0, .ref (aa 0)), (1, .ref ia)]) hx hb dX0_growBy_108 hl (k := 7) rfl (by exact nI_add _ 1) (by decide) rfl (fun ls hl => ?_)
      refine lv_goto (tgt := 24) hx hb dX0_growBy_111 (by decide) ?_
      refine IH (b + 1, upd (f9) (b + 1) (nI (jF an iv (b + 1))), upd (c9) (b + 1) (jC an iv (b + 1))) H locs ls ⟨by omega, fun i hi => ?_⟩ (show 20 - (b + 1) < 20 - b by omega) hP hD hS (lv_sub hl [6, 7, 1, 2, 0] rfl)
      by_cases h : i = b + 1
      · subst h
        exact ⟨pk_us, pk_us⟩
      · exact ⟨(pk_un h).trans (hI2 i (by omega)).1, (pk_un h).trans (hI2 i (by omega)).2⟩
set_option maxHeartbeats 4000000 in
set_option maxRecDepth 100000 in
/-- a month is paid -/
theorem c_X0_payIn (l : Launch) (dC : Nat → ClassId) (dI : Nat → Nat → Nat) (cI cJ cZ cO : ClassId) (aa an : Nat → Nat) (iv : Nat → Int32) (kp : Int64) (py : Nat → Int64) (k : Nat) (hv : jV an) (hk : k < 240) : Met l yX0_payIn wsX0_payIn ({ frames := 5, cells := 0, slots := 0, locals := 116 }) (va_Pc [.ref (aa 0), .int (nI k)] (jW (dC, dI) (jTY cI cJ cZ cO) (jAW cI cJ aa an iv kp py))) (va_Ql (fun r (_ : Unit) => r = jmx (lN (jU an iv (k + 1)) - kp)) (fun _ t => va_P (dC, dI) vwCl (jAW cI cJ aa an iv (kp + jmx (lN (jU an iv (k + 1)) - kp)) (vp_updL py k (jmx (lN (jU an iv (k + 1)) - kp)))) t.heap) (jA (jAW cI cJ aa an iv kp py))) 0 0 (jA (jAW cI cJ aa an iv kp py)) := by
  refine j_of (cc := cX0_payIn) (maxL := 4) (ret := (some .long)) (by decide) rfl (Nat.le_of_ble_eq_true rfl) ?_
  intro p e s m below meth c ls hx hb hr hml hts hown hlocks hnm hl hpre
  have hown : s.vm.findClass RX0 = some m.cls := hown
  have hl : lv_has ls 4 [(0, .ref (aa 0)), (1, .int (nI k))] := hl
  obtain ⟨v0, v1, v2, v3, v4, v5, v6, v7, v8, v9⟩ := id hv
  obtain ⟨hP, hK, hD0⟩ := hpre
  have hD := hD0.jA
  generalize hAe : jA (jAW cI cJ aa an iv kp py) = A at hD ⊢
  have hS : va_S A s.heap s.heap [] := va_S.rf
  refine lv_lconst (v := lN 0) hx hb dX0_payIn_0 (by decide) ?_
  refine lv_aload_n hx hb dX0_payIn_1 rfl (lv_at hl 0 rfl) ?_
  refine lv_iload_n hx hb dX0_payIn_2 rfl (lv_at hl 1 rfl) ?_
  refine lv_iconst (v := nI 1) hx hb dX0_payIn_3 (by decide) ?_
  refine lv_iadd hx hb dX0_payIn_4 ?_
  refine j_i (y := nI (k + 1)) (nI_add _ _) ?_
  refine j_cL_ (As := [.int (nI (k + 1))]) (rest := [.long (lN 0)]) ⟨hx, hb, hml, hown, hts⟩ (c_X0_dueAhead l dC dI cI cJ cZ cO aa an iv kp py (k + 1) hv (by omega)) (cwV 1 hts gX0_payIn_X0_dueAhead rfl rfl rfl (by decide +kernel) ⟨Nat.le_of_ble_eq_true rfl, Nat.le_of_ble_eq_true rfl⟩) (jR_V hK hP [0, 1, 2, 3, 4] rfl (ci := 0) (q0 := 0) rfl rfl rfl) rfl hl rfl (Nat.le_of_ble_eq_true rfl) dX0_payIn_5 ⟨Nat.le_of_ble_eq_true rfl, Nat.le_of_ble_eq_true rfl⟩ (fun r_5 hr_5 => ?_)
  subst hr_5
  refine lv_aload_n hx hb dX0_payIn_8 rfl (lv_at hl 0 rfl) ?_
  refine va_get (D := (dC, dI)) (ci := 0) (v := .long (kp)) (C := RX0) (T := TX0) (N := 13) hx hb hts (fun _ h => List.mem_cons_of_mem _ (List.mem_append_right _ h)) hown hK hP 0 rfl rfl 12 (by decide) (hts (.fieldLink RX0 51 "JointAnnuity$Annuity" "keptInAll" "J") (List.mem_of_getElem? (i := 1) rfl)) (fun _ h9 => h9) rfl dX0_payIn_9 ?_
  refine lv_lsub hx hb dX0_payIn_12 ?_
  refine va_mmax_long hx hb (hml.trans hl.1.symm) hown (hts (.methodLink RX0 81 Lib.MathLoose.max_long.x) (List.mem_of_getElem? (i := 2) rfl)) (hts (.static Lib.MathLoose.max_long.x) (List.mem_of_getElem? (i := 3) rfl)) (hts (.initialized "java/lang/Math") (List.mem_of_getElem? (i := 4) rfl)) (hts (.code Lib.MathLoose.max_long.x Lib.MathLoose.max_long.code 4 (some .long)) (List.mem_of_getElem? (i := 5) rfl)) (Nat.le_of_ble_eq_true rfl) (Nat.le_of_ble_eq_true rfl) (Nat.le_of_ble_eq_true rfl) (Nat.le_of_ble_eq_true rfl) dX0_payIn_13 ?_
  refine j_l (y := jmx (lN (jU an iv (k + 1)) - kp)) (jmx_of _) ?_
  refine lv_lstore_n (lv' := [(2, .long (jmx (lN (jU an iv (k + 1)) - kp))), (0, .ref (aa 0)), (1, .int (nI k))]) hx hb dX0_payIn_16 rfl hl (by decide) rfl (fun ls hl => ?_)
  refine lv_aload_n hx hb dX0_payIn_17 rfl (lv_at hl 1 rfl) ?_
  refine va_get (D := (dC, dI)) (ci := 0) (v := .ref (aa 4)) (C := RX0) (T := TX0) (N := 13) hx hb hts (fun _ h => List.mem_cons_of_mem _ (List.mem_append_right _ h)) hown hK hP 0 rfl rfl 11 (by decide) (hts (.fieldLink RX0 47 "JointAnnuity$Annuity" "payments" "[J") (List.mem_of_getElem? (i := 6) rfl)) (fun _ h9 => h9) rfl dX0_payIn_18 ?_
  refine lv_iload_n hx hb dX0_payIn_21 rfl (lv_at hl 2 rfl) ?_
  refine lv_lload_n hx hb dX0_payIn_22 rfl (lv_at hl 0 rfl) ?_
  refine va_last hx hb hK hP hD hS 4 1 (f := py) (x := jmx (lN (jU an iv (k + 1)) - kp)) rfl rfl (vp_in_nI (n := k) (N := 240) (by omega) (by omega)) dX0_payIn_23 (fun H locs hP hD hS => ?_)
  rw [nI_clamp (show k < 2 ^ 31 by omega)] at hP hD
  have hP : va_P (dC, dI) vwCl [((aa 0), .inr (0, [.int (nI (an 0)), .int (nI (an 1)), .int (nI (an 0 + an 2)), .int (nI (an 3)), .int (nI (an 4)), .int (nI (an 5)), .int (nI (an 6)), .int (nI (an 7)), .ref (aa 1), .ref (aa 2), .ref (aa 3), .ref (aa 4), .long (kp)])), ((aa 1), .inl (cI, 2, .inl (fun j => nI (an (8 + j))))), ((aa 2), .inl (cI, 20, .inl (fun j => nI (jF an iv j)))), ((aa 3), .inl (cI, 20, .inl (fun j => jC an iv j))), ((aa 4), .inl (cJ, 240, .inr (.inl (vp_updL (py) k (jmx (lN (jU an iv (k + 1)) - kp))))))] H := hP
  have hD : va_D A [((aa 0), .inr (0, [.int (nI (an 0)), .int (nI (an 1)), .int (nI (an 0 + an 2)), .int (nI (an 3)), .int (nI (an 4)), .int (nI (an 5)), .int (nI (an 6)), .int (nI (an 7)), .ref (aa 1), .ref (aa 2), .ref (aa 3), .ref (aa 4), .long (kp)])), ((aa 1), .inl (cI, 2, .inl (fun j => nI (an (8 + j))))), ((aa 2), .inl (cI, 20, .inl (fun j => nI (jF an iv j)))), ((aa 3), .inl (cI, 20, .inl (fun j => jC an iv j))), ((aa 4), .inl (cJ, 240, .inr (.inl (vp_updL (py) k (jmx (lN (jU an iv (k + 1)) - kp))))))] := hD
  refine lv_aload_n hx hb dX0_payIn_24 rfl (lv_at hl 1 rfl) ?_
  refine lv_dup hx hb dX0_payIn_25 rfl ?_
  refine va_get (D := (dC, dI)) (ci := 0) (v := .long (kp)) (C := RX0) (T := TX0) (N := 13) hx hb hts (fun _ h => List.mem_cons_of_mem _ (List.mem_append_right _ h)) hown hK hP 0 rfl rfl 12 (by decide) (hts (.fieldLink RX0 51 "JointAnnuity$Annuity" "keptInAll" "J") (List.mem_of_getElem? (i := 1) rfl)) (fun _ h9 => h9) rfl dX0_payIn_26 ?_
  refine lv_lload_n hx hb dX0_payIn_29 rfl (lv_at hl 0 rfl) ?_
  refine lv_ladd hx hb dX0_payIn_30 ?_
  refine va_put (D := (dC, dI)) (ci := 0) (v := .long (kp + (jmx (lN (jU an iv (k + 1)) - kp)))) (ty := .long) (C := RX0) (T := TX0) (N := 13) hx hb hts (fun _ h => List.mem_cons_of_mem _ (List.mem_append_right _ h)) tyX0 tyX0_ok nmX0 hown hK hP hD hS 0 rfl rfl 12 (by decide) (hts (.fieldLink RX0 51 "JointAnnuity$Annuity" "keptInAll" "J") (List.mem_of_getElem? (i := 1) rfl)) (fun _ h9 => h9) rfl (by decide +kernel) rfl rfl (Nat.le_of_ble_eq_true rfl) dX0_payIn_31 (fun H locs hP hD hS => ?_)
  have hP : va_P (dC, dI) vwCl [((aa 0), .inr (0, [.int (nI (an 0)), .int (nI (an 1)), .int (nI (an 0 + an 2)), .int (nI (an 3)), .int (nI (an 4)), .int (nI (an 5)), .int (nI (an 6)), .int (nI (an 7)), .ref (aa 1), .ref (aa 2), .ref (aa 3), .ref (aa 4), .long (kp + (jmx (lN (jU an iv (k + 1)) - kp)))])), ((aa 1), .inl (cI, 2, .inl (fun j => nI (an (8 + j))))), ((aa 2), .inl (cI, 20, .inl (fun j => nI (jF an iv j)))), ((aa 3), .inl (cI, 20, .inl (fun j => jC an iv j))), ((aa 4), .inl (cJ, 240, .inr (.inl (vp_updL (py) k (jmx (lN (jU an iv (k + 1)) - kp))))))] H := hP
  have hD : va_D A [((aa 0), .inr (0, [.int (nI (an 0)), .int (nI (an 1)), .int (nI (an 0 + an 2)), .int (nI (an 3)), .int (nI (an 4)), .int (nI (an 5)), .int (nI (an 6)), .int (nI (an 7)), .ref (aa 1), .ref (aa 2), .ref (aa 3), .ref (aa 4), .long (kp + (jmx (lN (jU an iv (k + 1)) - kp)))])), ((aa 1), .inl (cI, 2, .inl (fun j => nI (an (8 + j))))), ((aa 2), .inl (cI, 20, .inl (fun j => nI (jF an iv j)))), ((aa 3), .inl (cI, 20, .inl (fun j => jC an iv j))), ((aa 4), .inl (cJ, 240, .inr (.inl (vp_updL (py) k (jmx (lN (jU an iv (k + 1)) - kp))))))] := hD
  refine lv_lload_n hx hb dX0_payIn_34 rfl (lv_at hl 0 rfl) ?_
  exact W.lret (v := jmx (lN (jU an iv (k + 1)) - kp)) hx hb hr (fun t ht hW => ⟨⟨_, (), rfl, rfl, j_h ht hP⟩, hS.F ht⟩) hS.2.2 dX0_payIn_35
set_option maxHeartbeats 4000000 in
set_option maxRecDepth 100000 in
/-- a new annuity -/
theorem c_X0_init (l : Launch) (dC : Nat → ClassId) (dI : Nat → Nat → Nat) (cI cJ cZ cO : ClassId) (h0 sz : Nat) (sa ma ga : Nat)  : Met l yX0_init wsX0_init ({ frames := 1, cells := 4, slots := 282, locals := 12 }) (va_Pc [.ref h0, .int (nI sa), .int (nI ma), .int (nI ga)] (fun U => U.heap.size = sz ∧ va_P (dC, dI) vwCl [(h0, .inr (0, [.int 0, .int 0, .int 0, .int 0, .int 0, .int 0, .int 0, .int 0, .null, .null, .null, .null, .long 0]))] U.heap ∧ va_K (dC, dI) vwCl (jTY cI cJ cZ cO) U ∧ va_D (fun _ => True) [(h0, .inr (0, [.int 0, .int 0, .int 0, .int 0, .int 0, .int 0, .int 0, .int 0, .null, .null, .null, .null, .long 0]))])) (va_Qv (fun aa : Nat → Nat => aa 0 = h0) (fun aa t => va_P (dC, dI) vwCl [(aa 0, .inr (0, [.int (nI (jN sa ma ga 0)), .int (nI (jN sa ma ga 1)), .int (nI (jN sa ma ga 0 + jN sa ma ga 2)), .int (nI (jN sa ma ga 3)), .int (nI (jN sa ma ga 4)), .int (nI (jN sa ma ga 5)), .int (nI (jN sa ma ga 6)), .int (nI (jN sa ma ga 7)), .ref (aa 1), .ref (aa 2), .ref (aa 3), .ref (aa 4), .long 0])), (aa 1, .inl (cI, 2, .inl (fun j => nI (jN sa ma ga (8 + j))))), (aa 2, .inl (cI, 20, .inl (fun _ => 0))), (aa 3, .inl (cI, 20, .inl (fun _ => 0))), (aa 4, .inl (cJ, 240, .inr (.inl (fun _ => 0))))] t.heap ∧ va_D (va_A [(h0, .inr (0, [.int 0, .int 0, .int 0, .int 0, .int 0, .int 0, .int 0, .int 0, .null, .null, .null, .null, .long 0]))] sz) [(aa 0, .inr (0, [.int (nI (jN sa ma ga 0)), .int (nI (jN sa ma ga 1)), .int (nI (jN sa ma ga 0 + jN sa ma ga 2)), .int (nI (jN sa ma ga 3)), .int (nI (jN sa ma ga 4)), .int (nI (jN sa ma ga 5)), .int (nI (jN sa ma ga 6)), .int (nI (jN sa ma ga 7)), .ref (aa 1), .ref (aa 2), .ref (aa 3), .ref (aa 4), .long 0])), (aa 1, .inl (cI, 2, .inl (fun j => nI (jN sa ma ga (8 + j))))), (aa 2, .inl (cI, 20, .inl (fun _ => 0))), (aa 3, .inl (cI, 20, .inl (fun _ => 0))), (aa 4, .inl (cJ, 240, .inr (.inl (fun _ => 0))))]) (va_A [(h0, .inr (0, [.int 0, .int 0, .int 0, .int 0, .int 0, .int 0, .int 0, .int 0, .null, .null, .null, .null, .long 0]))] sz)) 4 282 (va_A [(h0, .inr (0, [.int 0, .int 0, .int 0, .int 0, .int 0, .int 0, .int 0, .int 0, .null, .null, .null, .null, .long 0]))] sz) := by
  refine j_of (cc := cX0_init) (maxL := 4) (ret := none) (by decide) rfl (Nat.le_of_ble_eq_true rfl) ?_
  intro p e s m below meth c ls hx hb hr hml hts hown hlocks hnm hl hpre
  have hown : s.vm.findClass RX0 = some m.cls := hown
  have hl : lv_has ls 4 [(0, .ref h0), (1, .int (nI sa)), (2, .int (nI ma)), (3, .int (nI ga))] := hl
  have hin : meth.name = "<init>" := hnm
  obtain ⟨hsz, hP, hK, hD0⟩ := hpre
  subst hsz
  have hD := hD0.self (sz := s.heap.size)
  generalize hAe : va_A [(h0, .inr (0, [.int 0, .int 0, .int 0, .int 0, .int 0, .int 0, .int 0, .int 0, .null, .null, .null, .null, .long 0]))] s.heap.size = A at hD ⊢
  have hA : ∀ q : Nat, s.heap.size ≤ q → A q := fun q h => by rw [← hAe]; exact Or.inr h
  have hS : va_S A s.heap s.heap [] := va_S.rf
  refine lv_aload_n hx hb dX0_init_0 rfl (lv_at hl 0 rfl) ?_
  refine W.objInit hx hb hown (hts (.methodLink RX0 3 objectInit) (List.mem_of_getElem? (i := 1) rfl)) (hts (.instanceMethod objectInit) (List.mem_of_getElem? (i := 2) rfl)) (hts _ (List.mem_of_getElem? (i := 3) rfl)) rfl (by rw [hml]; exact hl.1) rfl dX0_init_1 (Nat.le_of_ble_eq_true rfl) (Nat.le_of_ble_eq_true rfl) ?_
  refine W.eq (g2 := F0 m 4 ls []) rfl ?_
  refine lv_aload_n hx hb dX0_init_4 rfl (lv_at hl 0 rfl) ?_
  refine lv_iload_n hx hb dX0_init_5 rfl (lv_at hl 1 rfl) ?_
  refine va_putF (D := (dC, dI)) (ci := 0) (v := .int (nI sa)) (ty := .int) (C := RX0) (T := TX0) (N := 13) hx hb hts (fun _ h => List.mem_cons_of_mem _ (List.mem_append_right _ h)) tyX0 tyX0_ok nmX0 hown hK hP hD hS 0 rfl rfl 0 (by decide) (hts (.fieldLink RX0 9 "JointAnnuity$Annuity" "start" "I") (List.mem_of_getElem? (i := 4) rfl)) (fun _ h9 => h9) rfl hin rfl (by decide +kernel) rfl rfl (Nat.le_of_ble_eq_true rfl) dX0_init_6 (fun H locs hP hD hS => ?_)
  have hP : va_P (dC, dI) vwCl [(h0, .inr (0, [.int (nI sa), .int 0, .int 0, .int 0, .int 0, .int 0, .int 0, .int 0, .null, .null, .null, .null, .long 0]))] H := hP
  have hD : va_D A [(h0, .inr (0, [.int (nI sa), .int 0, .int 0, .int 0, .int 0, .int 0, .int 0, .int 0, .null, .null, .null, .null, .long 0]))] := hD
  refine lv_aload_n hx hb dX0_init_9 rfl (lv_at hl 0 rfl) ?_
  refine lv_iload_n hx hb dX0_init_10 rfl (lv_at hl 2 rfl) ?_
  refine va_putF (D := (dC, dI)) (ci := 0) (v := .int (nI ma)) (ty := .int) (C := RX0) (T := TX0) (N := 13) hx hb hts (fun _ h => List.mem_cons_of_mem _ (List.mem_append_right _ h)) tyX0 tyX0_ok nmX0 hown hK hP hD hS 0 rfl rfl 1 (by decide) (hts (.fieldLink RX0 15 "JointAnnuity$Annuity" "amount" "I") (List.mem_of_getElem? (i := 5) rfl)) (fun _ h9 => h9) rfl hin rfl (by decide +kernel) rfl rfl (Nat.le_of_ble_eq_true rfl) dX0_init_11 (fun H locs hP hD hS => ?_)
  have hP : va_P (dC, dI) vwCl [(h0, .inr (0, [.int (nI sa), .int (nI ma), .int 0, .int 0, .int 0, .int 0, .int 0, .int 0, .null, .null, .null, .null, .long 0]))] H := hP
  have hD : va_D A [(h0, .inr (0, [.int (nI sa), .int (nI ma), .int 0, .int 0, .int 0, .int 0, .int 0, .int 0, .null, .null, .null, .null, .long 0]))] := hD
  refine lv_aload_n hx hb dX0_init_14 rfl (lv_at hl 0 rfl) ?_
  refine lv_iload_n hx hb dX0_init_15 rfl (lv_at hl 1 rfl) ?_
  refine lv_iload_n hx hb dX0_init_16 rfl (lv_at hl 3 rfl) ?_
  refine lv_iadd hx hb dX0_init_17 ?_
  refine j_i (y := nI (sa + ga)) (nI_add _ _) ?_
  refine va_putF (D := (dC, dI)) (ci := 0) (v := .int (nI (sa + ga))) (ty := .int) (C := RX0) (T := TX0) (N := 13) hx hb hts (fun _ h => List.mem_cons_of_mem _ (List.mem_append_right _ h)) tyX0 tyX0_ok nmX0 hown hK hP hD hS 0 rfl rfl 2 (by decide) (hts (.fieldLink RX0 18 "JointAnnuity$Annuity" "guaranteeEnd" "I") (List.mem_of_getElem? (i := 6) rfl)) (fun _ h9 => h9) rfl hin rfl (by decide +kernel) rfl rfl (Nat.le_of_ble_eq_true rfl) dX0_init_18 (fun H locs hP hD hS => ?_)
  have hP : va_P (dC, dI) vwCl [(h0, .inr (0, [.int (nI sa), .int (nI ma), .int (nI (sa + ga)), .int 0, .int 0, .int 0, .int 0, .int 0, .null, .null, .null, .null, .long 0]))] H := hP
  have hD : va_D A [(h0, .inr (0, [.int (nI sa), .int (nI ma), .int (nI (sa + ga)), .int 0, .int 0, .int 0, .int 0, .int 0, .null, .null, .null, .null, .long 0]))] := hD
  refine lv_aload_n hx hb dX0_init_21 rfl (lv_at hl 0 rfl) ?_
  refine lv_bipush (v := nI 100) hx hb dX0_init_22 (by decide) ?_
  refine va_put (D := (dC, dI)) (ci := 0) (v := .int (nI 100)) (ty := .int) (C := RX0) (T := TX0) (N := 13) hx hb hts (fun _ h => List.mem_cons_of_mem _ (List.mem_append_right _ h)) tyX0 tyX0_ok nmX0 hown hK hP hD hS 0 rfl rfl 3 (by decide) (hts (.fieldLink RX0 21 "JointAnnuity$Annuity" "survivorPercent" "I") (List.mem_of_getElem? (i := 7) rfl)) (fun _ h9 => h9) rfl (by decide +kernel) rfl rfl (Nat.le_of_ble_eq_true rfl) dX0_init_24 (fun H locs hP hD hS => ?_)
  have hP : va_P (dC, dI) vwCl [(h0, .inr (0, [.int (nI sa), .int (nI ma), .int (nI (sa + ga)), .int (nI 100), .int 0, .int 0, .int 0, .int 0, .null, .null, .null, .null, .long 0]))] H := hP
  have hD : va_D A [(h0, .inr (0, [.int (nI sa), .int (nI ma), .int (nI (sa + ga)), .int (nI 100), .int 0, .int 0, .int 0, .int 0, .null, .null, .null, .null, .long 0]))] := hD
  refine lv_aload_n hx hb dX0_init_27 rfl (lv_at hl 0 rfl) ?_
  refine lv_iconst (v := nI 0) hx hb dX0_init_28 (by decide) ?_
  refine va_put (D := (dC, dI)) (ci := 0) (v := .int (nI 0)) (ty := .boolean) (C := RX0) (T := TX0) (N := 13) hx hb hts (fun _ h => List.mem_cons_of_mem _ (List.mem_append_right _ h)) tyX0 tyX0_ok nmX0 hown hK hP hD hS 0 rfl rfl 4 (by decide) (hts (.fieldLink RX0 24 "JointAnnuity$Annuity" "stepsOnFirst" "Z") (List.mem_of_getElem? (i := 8) rfl)) (fun _ h9 => h9) rfl (by decide +kernel) rfl rfl (Nat.le_of_ble_eq_true rfl) dX0_init_29 (fun H locs hP hD hS => ?_)
  have hP : va_P (dC, dI) vwCl [(h0, .inr (0, [.int (nI sa), .int (nI ma), .int (nI (sa + ga)), .int (nI 100), .int (nI 0), .int 0, .int 0, .int 0, .null, .null, .null, .null, .long 0]))] H := hP
  have hD : va_D A [(h0, .inr (0, [.int (nI sa), .int (nI ma), .int (nI (sa + ga)), .int (nI 100), .int (nI 0), .int 0, .int 0, .int 0, .null, .null, .null, .null, .long 0]))] := hD
  refine lv_aload_n hx hb dX0_init_32 rfl (lv_at hl 0 rfl) ?_
  refine lv_iconst (v := nI 0) hx hb dX0_init_33 (by decide) ?_
  refine va_put (D := (dC, dI)) (ci := 0) (v := .int (nI 0)) (ty := .int) (C := RX0) (T := TX0) (N := 13) hx hb hts (fun _ h => List.mem_cons_of_mem _ (List.mem_append_right _ h)) tyX0 tyX0_ok nmX0 hown hK hP hD hS 0 rfl rfl 5 (by decide) (hts (.fieldLink RX0 28 "JointAnnuity$Annuity" "cap" "I") (List.mem_of_getElem? (i := 9) rfl)) (fun _ h9 => h9) rfl (by decide +kernel) rfl rfl (Nat.le_of_ble_eq_true rfl) dX0_init_34 (fun H locs hP hD hS => ?_)
  have hP : va_P (dC, dI) vwCl [(h0, .inr (0, [.int (nI sa), .int (nI ma), .int (nI (sa + ga)), .int (nI 100), .int (nI 0), .int (nI 0), .int 0, .int 0, .null, .null, .null, .null, .long 0]))] H := hP
  have hD : va_D A [(h0, .inr (0, [.int (nI sa), .int (nI ma), .int (nI (sa + ga)), .int (nI 100), .int (nI 0), .int (nI 0), .int 0, .int 0, .null, .null, .null, .null, .long 0]))] := hD
  refine lv_aload_n hx hb dX0_init_37 rfl (lv_at hl 0 rfl) ?_
  refine lv_iconst (v := nI 0) hx hb dX0_init_38 (by decide) ?_
  refine va_put (D := (dC, dI)) (ci := 0) (v := .int (nI 0)) (ty := .int) (C := RX0) (T := TX0) (N := 13) hx hb hts (fun _ h => List.mem_cons_of_mem _ (List.mem_append_right _ h)) tyX0 tyX0_ok nmX0 hown hK hP hD hS 0 rfl rfl 6 (by decide) (hts (.fieldLink RX0 31 "JointAnnuity$Annuity" "price" "I") (List.mem_of_getElem? (i := 10) rfl)) (fun _ h9 => h9) rfl (by decide +kernel) rfl rfl (Nat.le_of_ble_eq_true rfl) dX0_init_39 (fun H locs hP hD hS => ?_)
  have hP : va_P (dC, dI) vwCl [(h0, .inr (0, [.int (nI sa), .int (nI ma), .int (nI (sa + ga)), .int (nI 100), .int (nI 0), .int (nI 0), .int (nI 0), .int 0, .null, .null, .null, .null, .long 0]))] H := hP
  have hD : va_D A [(h0, .inr (0, [.int (nI sa), .int (nI ma), .int (nI (sa + ga)), .int (nI 100), .int (nI 0), .int (nI 0), .int (nI 0), .int 0, .null, .null, .null, .null, .long 0]))] := hD
  refine lv_aload_n hx hb dX0_init_42 rfl (lv_at hl 0 rfl) ?_
  refine lv_iconst (v := nI 0) hx hb dX0_init_43 (by decide) ?_
  refine va_put (D := (dC, dI)) (ci := 0) (v := .int (nI 0)) (ty := .int) (C := RX0) (T := TX0) (N := 13) hx hb hts (fun _ h => List.mem_cons_of_mem _ (List.mem_append_right _ h)) tyX0 tyX0_ok nmX0 hown hK hP hD hS 0 rfl rfl 7 (by decide) (hts (.fieldLink RX0 34 "JointAnnuity$Annuity" "protectedPercent" "I") (List.mem_of_getElem? (i := 11) rfl)) (fun _ h9 => h9) rfl (by decide +kernel) rfl rfl (Nat.le_of_ble_eq_true rfl) dX0_init_44 (fun H locs hP hD hS => ?_)
  have hP : va_P (dC, dI) vwCl [(h0, .inr (0, [.int (nI sa), .int (nI ma), .int (nI (sa + ga)), .int (nI 100), .int (nI 0), .int (nI 0), .int (nI 0), .int (nI 0), .null, .null, .null, .null, .long 0]))] H := hP
  have hD : va_D A [(h0, .inr (0, [.int (nI sa), .int (nI ma), .int (nI (sa + ga)), .int (nI 100), .int (nI 0), .int (nI 0), .int (nI 0), .int (nI 0), .null, .null, .null, .null, .long 0]))] := hD
  refine lv_aload_n hx hb dX0_init_47 rfl (lv_at hl 0 rfl) ?_
  refine lv_iconst (v := nI 2) hx hb dX0_init_48 (by decide) ?_
  refine va_newa (atype := .int) (ty := .int) (N' := 2) (a0 := (2, .inl (fun _ => 0))) hx hb (hts (.arrayClass .int) (List.mem_of_getElem? (i := 12) rfl)) rfl hK hP hD hS hA (fun _ => rfl) (nI_pos (by omega)) (nI_clamp (by omega)) (by decide) (Nat.le_of_ble_eq_true rfl) (Nat.le_of_ble_eq_true rfl) dX0_init_49 (fun q49 cA9 H hK hP hD hS => ?_)
  obtain rfl := j_cls hK 0 4 rfl rfl
  have hK := hK.sub (tys' := jTY cI cJ cZ cO) [0, 1, 2, 3] rfl
  have hP : va_P (dC, dI) vwCl [(h0, .inr (0, [.int (nI sa), .int (nI ma), .int (nI (sa + ga)), .int (nI 100), .int (nI 0), .int (nI 0), .int (nI 0), .int (nI 0), .null, .null, .null, .null, .long 0])), (q49, .inl (cI, 2, .inl (fun _ => 0)))] H := hP
  have hD : va_D A [(h0, .inr (0, [.int (nI sa), .int (nI ma), .int (nI (sa + ga)), .int (nI 100), .int (nI 0), .int (nI 0), .int (nI 0), .int (nI 0), .null, .null, .null, .null, .long 0])), (q49, .inl (cI, 2, .inl (fun _ => 0)))] := hD
  refine lv_dup hx hb dX0_init_51 rfl ?_
  refine lv_iconst (v := nI 0) hx hb dX0_init_52 (by decide) ?_
  refine lv_sipush (v := nI 240) hx hb dX0_init_53 (by decide) ?_
  refine va_iast hx hb hK hP hD hS 1 0 (f := fun _ => 0) (x := nI 240) rfl rfl (vp_in_nI (n := 0) (N := 2) (by omega) (by omega)) dX0_init_56 (fun H locs hP hD hS => ?_)
  rw [nI_clamp (show 0 < 2 ^ 31 by omega)] at hP hD
  have hP : va_P (dC, dI) vwCl [(h0, .inr (0, [.int (nI sa), .int (nI ma), .int (nI (sa + ga)), .int (nI 100), .int (nI 0), .int (nI 0), .int (nI 0), .int (nI 0), .null, .null, .null, .null, .long 0])), (q49, .inl (cI, 2, .inl (upd (fun _ => 0) 0 (nI 240))))] H := hP
  have hD : va_D A [(h0, .inr (0, [.int (nI sa), .int (nI ma), .int (nI (sa + ga)), .int (nI 100), .int (nI 0), .int (nI 0), .int (nI 0), .int (nI 0), .null, .null, .null, .null, .long 0])), (q49, .inl (cI, 2, .inl (upd (fun _ => 0) 0 (nI 240))))] := hD
  refine lv_dup hx hb dX0_init_57 rfl ?_
  refine lv_iconst (v := nI 1) hx hb dX0_init_58 (by decide) ?_
  refine lv_sipush (v := nI 240) hx hb dX0_init_59 (by decide) ?_
  refine va_iast hx hb hK hP hD hS 1 0 (f := upd (fun _ => 0) 0 (nI 240)) (x := nI 240) rfl rfl (vp_in_nI (n := 1) (N := 2) (by omega) (by omega)) dX0_init_62 (fun H locs hP hD hS => ?_)
  rw [nI_clamp (show 1 < 2 ^ 31 by omega)] at hP hD
  have hP : va_P (dC, dI) vwCl [(h0, .inr (0, [.int (nI sa), .int (nI ma), .int (nI (sa + ga)), .int (nI 100), .int (nI 0), .int (nI 0), .int (nI 0), .int (nI 0), .null, .null, .null, .null, .long 0])), (q49, .inl (cI, 2, .inl (upd (upd (fun _ => 0) 0 (nI 240)) 1 (nI 240))))] H := hP
  have hD : va_D A [(h0, .inr (0, [.int (nI sa), .int (nI ma), .int (nI (sa + ga)), .int (nI 100), .int (nI 0), .int (nI 0), .int (nI 0), .int (nI 0), .null, .null, .null, .null, .long 0])), (q49, .inl (cI, 2, .inl (upd (upd (fun _ => 0) 0 (nI 240)) 1 (nI 240))))] := hD
  refine va_putF (D := (dC, dI)) (ci := 0) (v := .ref q49) (ty := .array .int) (C := RX0) (T := TX0) (N := 13) hx hb hts (fun _ h => List.mem_cons_of_mem _ (List.mem_append_right _ h)) tyX0 tyX0_ok nmX0 hown hK hP hD hS 0 rfl rfl 8 (by decide) (hts (.fieldLink RX0 37 "JointAnnuity$Annuity" "deaths" "[I") (List.mem_of_getElem? (i := 13) rfl)) (fun _ h9 => h9) rfl hin rfl (by decide +kernel) rfl rfl (Nat.le_of_ble_eq_true rfl) dX0_init_63 (fun H locs hP hD hS => ?_)
  have hP : va_P (dC, dI) vwCl [(h0, .inr (0, [.int (nI sa), .int (nI ma), .int (nI (sa + ga)), .int (nI 100), .int (nI 0), .int (nI 0), .int (nI 0), .int (nI 0), .ref q49, .null, .null, .null, .long 0])), (q49, .inl (cI, 2, .inl (upd (upd (fun _ => 0) 0 (nI 240)) 1 (nI 240))))] H := hP
  have hD : va_D A [(h0, .inr (0, [.int (nI sa), .int (nI ma), .int (nI (sa + ga)), .int (nI 100), .int (nI 0), .int (nI 0), .int (nI 0), .int (nI 0), .ref q49, .null, .null, .null, .long 0])), (q49, .inl (cI, 2, .inl (upd (upd (fun _ => 0) 0 (nI 240)) 1 (nI 240))))] := hD
  refine lv_aload_n hx hb dX0_init_66 rfl (lv_at hl 0 rfl) ?_
  refine lv_bipush (v := nI 20) hx hb dX0_init_67 (by decide) ?_
  refine va_newa (atype := .int) (ty := .int) (N' := 20) (a0 := (20, .inl (fun _ => 0))) hx hb (hts (.arrayClass .int) (List.mem_of_getElem? (i := 12) rfl)) rfl hK hP hD hS hA (fun _ => rfl) (nI_pos (by omega)) (nI_clamp (by omega)) (by decide) (Nat.le_of_ble_eq_true rfl) (Nat.le_of_ble_eq_true rfl) dX0_init_69 (fun q69 cA9 H hK hP hD hS => ?_)
  obtain rfl := j_cls hK 0 4 rfl rfl
  have hK := hK.sub (tys' := jTY cI cJ cZ cO) [0, 1, 2, 3] rfl
  have hP : va_P (dC, dI) vwCl [(h0, .inr (0, [.int (nI sa), .int (nI ma), .int (nI (sa + ga)), .int (nI 100), .int (nI 0), .int (nI 0), .int (nI 0), .int (nI 0), .ref q49, .null, .null, .null, .long 0])), (q49, .inl (cI, 2, .inl (upd (upd (fun _ => 0) 0 (nI 240)) 1 (nI 240)))), (q69, .inl (cI, 20, .inl (fun _ => 0)))] H := hP
  have hD : va_D A [(h0, .inr (0, [.int (nI sa), .int (nI ma), .int (nI (sa + ga)), .int (nI 100), .int (nI 0), .int (nI 0), .int (nI 0), .int (nI 0), .ref q49, .null, .null, .null, .long 0])), (q49, .inl (cI, 2, .inl (upd (upd (fun _ => 0) 0 (nI 240)) 1 (nI 240)))), (q69, .inl (cI, 20, .inl (fun _ => 0)))] := hD
  refine va_putF (D := (dC, dI)) (ci := 0) (v := .ref q69) (ty := .array .int) (C := RX0) (T := TX0) (N := 13) hx hb hts (fun _ h => List.mem_cons_of_mem _ (List.mem_append_right _ h)) tyX0 tyX0_ok nmX0 hown hK hP hD hS 0 rfl rfl 9 (by decide) (hts (.fieldLink RX0 41 "JointAnnuity$Annuity" "fullAmounts" "[I") (List.mem_of_getElem? (i := 14) rfl)) (fun _ h9 => h9) rfl hin rfl (by decide +kernel) rfl rfl (Nat.le_of_ble_eq_true rfl) dX0_init_71 (fun H locs hP hD hS => ?_)
  have hP : va_P (dC, dI) vwCl [(h0, .inr (0, [.int (nI sa), .int (nI ma), .int (nI (sa + ga)), .int (nI 100), .int (nI 0), .int (nI 0), .int (nI 0), .int (nI 0), .ref q49, .ref q69, .null, .null, .long 0])), (q49, .inl (cI, 2, .inl (upd (upd (fun _ => 0) 0 (nI 240)) 1 (nI 240)))), (q69, .inl (cI, 20, .inl (fun _ => 0)))] H := hP
  have hD : va_D A [(h0, .inr (0, [.int (nI sa), .int (nI ma), .int (nI (sa + ga)), .int (nI 100), .int (nI 0), .int (nI 0), .int (nI 0), .int (nI 0), .ref q49, .ref q69, .null, .null, .long 0])), (q49, .inl (cI, 2, .inl (upd (upd (fun _ => 0) 0 (nI 240)) 1 (nI 240)))), (q69, .inl (cI, 20, .inl (fun _ => 0)))] := hD
  refine lv_aload_n hx hb dX0_init_74 rfl (lv_at hl 0 rfl) ?_
  refine lv_bipush (v := nI 20) hx hb dX0_init_75 (by decide) ?_
  refine va_newa (atype := .int) (ty := .int) (N' := 20) (a0 := (20, .inl (fun _ => 0))) hx hb (hts (.arrayClass .int) (List.mem_of_getElem? (i := 12) rfl)) rfl hK hP hD hS hA (fun _ => rfl) (nI_pos (by omega)) (nI_clamp (by omega)) (by decide) (Nat.le_of_ble_eq_true rfl) (Nat.le_of_ble_eq_true rfl) dX0_init_77 (fun q77 cA9 H hK hP hD hS => ?_)
  obtain rfl := j_cls hK 0 4 rfl rfl
  have hK := hK.sub (tys' := jTY cI cJ cZ cO) [0, 1, 2, 3] rfl
  have hP : va_P (dC, dI) vwCl [(h0, .inr (0, [.int (nI sa), .int (nI ma), .int (nI (sa + ga)), .int (nI 100), .int (nI 0), .int (nI 0), .int (nI 0), .int (nI 0), .ref q49, .ref q69, .null, .null, .long 0])), (q49, .inl (cI, 2, .inl (upd (upd (fun _ => 0) 0 (nI 240)) 1 (nI 240)))), (q69, .inl (cI, 20, .inl (fun _ => 0))), (q77, .inl (cI, 20, .inl (fun _ => 0)))] H := hP
  have hD : va_D A [(h0, .inr (0, [.int (nI sa), .int (nI ma), .int (nI (sa + ga)), .int (nI 100), .int (nI 0), .int (nI 0), .int (nI 0), .int (nI 0), .ref q49, .ref q69, .null, .null, .long 0])), (q49, .inl (cI, 2, .inl (upd (upd (fun _ => 0) 0 (nI 240)) 1 (nI 240)))), (q69, .inl (cI, 20, .inl (fun _ => 0))), (q77, .inl (cI, 20, .inl (fun _ => 0)))] := hD
  refine va_putF (D := (dC, dI)) (ci := 0) (v := .ref q77) (ty := .array .int) (C := RX0) (T := TX0) (N := 13) hx hb hts (fun _ h => List.mem_cons_of_mem _ (List.mem_append_right _ h)) tyX0 tyX0_ok nmX0 hown hK hP hD hS 0 rfl rfl 10 (by decide) (hts (.fieldLink RX0 44 "JointAnnuity$Annuity" "carries" "[I") (List.mem_of_getElem? (i := 15) rfl)) (fun _ h9 => h9) rfl hin rfl (by decide +kernel) rfl rfl (Nat.le_of_ble_eq_true rfl) dX0_init_79 (fun H locs hP hD hS => ?_)
  have hP : va_P (dC, dI) vwCl [(h0, .inr (0, [.int (nI sa), .int (nI ma), .int (nI (sa + ga)), .int (nI 100), .int (nI 0), .int (nI 0), .int (nI 0), .int (nI 0), .ref q49, .ref q69, .ref q77, .null, .long 0])), (q49, .inl (cI, 2, .inl (upd (upd (fun _ => 0) 0 (nI 240)) 1 (nI 240)))), (q69, .inl (cI, 20, .inl (fun _ => 0))), (q77, .inl (cI, 20, .inl (fun _ => 0)))] H := hP
  have hD : va_D A [(h0, .inr (0, [.int (nI sa), .int (nI ma), .int (nI (sa + ga)), .int (nI 100), .int (nI 0), .int (nI 0), .int (nI 0), .int (nI 0), .ref q49, .ref q69, .ref q77, .null, .long 0])), (q49, .inl (cI, 2, .inl (upd (upd (fun _ => 0) 0 (nI 240)) 1 (nI 240)))), (q69, .inl (cI, 20, .inl (fun _ => 0))), (q77, .inl (cI, 20, .inl (fun _ => 0)))] := hD
  refine lv_aload_n hx hb dX0_init_82 rfl (lv_at hl 0 rfl) ?_
  refine lv_sipush (v := nI 240) hx hb dX0_init_83 (by decide) ?_
  refine va_newa (atype := .long) (ty := .long) (N' := 240) (a0 := (240, .inr (.inl (fun _ => 0)))) hx hb (hts (.arrayClass .long) (List.mem_of_getElem? (i := 16) rfl)) rfl hK hP hD hS hA (fun _ => rfl) (nI_pos (by omega)) (nI_clamp (by omega)) (by decide) (Nat.le_of_ble_eq_true rfl) (Nat.le_of_ble_eq_true rfl) dX0_init_86 (fun q86 cA9 H hK hP hD hS => ?_)
  obtain rfl := j_cls hK 1 4 rfl rfl
  have hK := hK.sub (tys' := jTY cI cJ cZ cO) [0, 1, 2, 3] rfl
  have hP : va_P (dC, dI) vwCl [(h0, .inr (0, [.int (nI sa), .int (nI ma), .int (nI (sa + ga)), .int (nI 100), .int (nI 0), .int (nI 0), .int (nI 0), .int (nI 0), .ref q49, .ref q69, .ref q77, .null, .long 0])), (q49, .inl (cI, 2, .inl (upd (upd (fun _ => 0) 0 (nI 240)) 1 (nI 240)))), (q69, .inl (cI, 20, .inl (fun _ => 0))), (q77, .inl (cI, 20, .inl (fun _ => 0))), (q86, .inl (cJ, 240, .inr (.inl (fun _ => 0))))] H := hP
  have hD : va_D A [(h0, .inr (0, [.int (nI sa), .int (nI ma), .int (nI (sa + ga)), .int (nI 100), .int (nI 0), .int (nI 0), .int (nI 0), .int (nI 0), .ref q49, .ref q69, .ref q77, .null, .long 0])), (q49, .inl (cI, 2, .inl (upd (upd (fun _ => 0) 0 (nI 240)) 1 (nI 240)))), (q69, .inl (cI, 20, .inl (fun _ => 0))), (q77, .inl (cI, 20, .inl (fun _ => 0))), (q86, .inl (cJ, 240, .inr (.inl (fun _ => 0))))] := hD
  refine va_putF (D := (dC, dI)) (ci := 0) (v := .ref q86) (ty := .array .long) (C := RX0) (T := TX0) (N := 13) hx hb hts (fun _ h => List.mem_cons_of_mem _ (List.mem_append_right _ h)) tyX0 tyX0_ok nmX0 hown hK hP hD hS 0 rfl rfl 11 (by decide) (hts (.fieldLink RX0 47 "JointAnnuity$Annuity" "payments" "[J") (List.mem_of_getElem? (i := 17) rfl)) (fun _ h9 => h9) rfl hin rfl (by decide +kernel) rfl rfl (Nat.le_of_ble_eq_true rfl) dX0_init_88 (fun H locs hP hD hS => ?_)
  have hP : va_P (dC, dI) vwCl [(h0, .inr (0, [.int (nI sa), .int (nI ma), .int (nI (sa + ga)), .int (nI 100), .int (nI 0), .int (nI 0), .int (nI 0), .int (nI 0), .ref q49, .ref q69, .ref q77, .ref q86, .long 0])), (q49, .inl (cI, 2, .inl (upd (upd (fun _ => 0) 0 (nI 240)) 1 (nI 240)))), (q69, .inl (cI, 20, .inl (fun _ => 0))), (q77, .inl (cI, 20, .inl (fun _ => 0))), (q86, .inl (cJ, 240, .inr (.inl (fun _ => 0))))] H := hP
  have hD : va_D A [(h0, .inr (0, [.int (nI sa), .int (nI ma), .int (nI (sa + ga)), .int (nI 100), .int (nI 0), .int (nI 0), .int (nI 0), .int (nI 0), .ref q49, .ref q69, .ref q77, .ref q86, .long 0])), (q49, .inl (cI, 2, .inl (upd (upd (fun _ => 0) 0 (nI 240)) 1 (nI 240)))), (q69, .inl (cI, 20, .inl (fun _ => 0))), (q77, .inl (cI, 20, .inl (fun _ => 0))), (q86, .inl (cJ, 240, .inr (.inl (fun _ => 0))))] := hD
  refine lv_aload_n hx hb dX0_init_91 rfl (lv_at hl 0 rfl) ?_
  refine lv_lconst (v := lN 0) hx hb dX0_init_92 (by decide) ?_
  refine va_put (D := (dC, dI)) (ci := 0) (v := .long (lN 0)) (ty := .long) (C := RX0) (T := TX0) (N := 13) hx hb hts (fun _ h => List.mem_cons_of_mem _ (List.mem_append_right _ h)) tyX0 tyX0_ok nmX0 hown hK hP hD hS 0 rfl rfl 12 (by decide) (hts (.fieldLink RX0 51 "JointAnnuity$Annuity" "keptInAll" "J") (List.mem_of_getElem? (i := 18) rfl)) (fun _ h9 => h9) rfl (by decide +kernel) rfl rfl (Nat.le_of_ble_eq_true rfl) dX0_init_93 (fun H locs hP hD hS => ?_)
  have hP : va_P (dC, dI) vwCl [(h0, .inr (0, [.int (nI sa), .int (nI ma), .int (nI (sa + ga)), .int (nI 100), .int (nI 0), .int (nI 0), .int (nI 0), .int (nI 0), .ref q49, .ref q69, .ref q77, .ref q86, .long (lN 0)])), (q49, .inl (cI, 2, .inl (upd (upd (fun _ => 0) 0 (nI 240)) 1 (nI 240)))), (q69, .inl (cI, 20, .inl (fun _ => 0))), (q77, .inl (cI, 20, .inl (fun _ => 0))), (q86, .inl (cJ, 240, .inr (.inl (fun _ => 0))))] H := hP
  have hD : va_D A [(h0, .inr (0, [.int (nI sa), .int (nI ma), .int (nI (sa + ga)), .int (nI 100), .int (nI 0), .int (nI 0), .int (nI 0), .int (nI 0), .ref q49, .ref q69, .ref q77, .ref q86, .long (lN 0)])), (q49, .inl (cI, 2, .inl (upd (upd (fun _ => 0) 0 (nI 240)) 1 (nI 240)))), (q69, .inl (cI, 20, .inl (fun _ => 0))), (q77, .inl (cI, 20, .inl (fun _ => 0))), (q86, .inl (cJ, 240, .inr (.inl (fun _ => 0))))] := hD
  have hP : va_P (dC, dI) vwCl [(h0, .inr (0, [.int (nI (jN sa ma ga 0)), .int (nI (jN sa ma ga 1)), .int (nI (jN sa ma ga 0 + jN sa ma ga 2)), .int (nI (jN sa ma ga 3)), .int (nI (jN sa ma ga 4)), .int (nI (jN sa ma ga 5)), .int (nI (jN sa ma ga 6)), .int (nI (jN sa ma ga 7)), .ref q49, .ref q69, .ref q77, .ref q86, .long 0])), (q49, .inl (cI, 2, .inl (fun j => nI (jN sa ma ga (8 + j))))), (q69, .inl (cI, 20, .inl (fun _ => 0))), (q77, .inl (cI, 20, .inl (fun _ => 0))), (q86, .inl (cJ, 240, .inr (.inl (fun _ => 0))))] H := j_same hP rfl (fun k hk => match k, hk with
    | 0, _ => Or.inl rfl
    | 1, _ => Or.inr ⟨_, _, _, rfl, rfl, j_cI (fun j hj => match j, hj with
      | 0, _ => rfl
      | 1, _ => rfl
      | _ + 2, h => absurd h (Nat.not_lt.mpr (Nat.le_add_left _ _)))⟩
    | 2, _ => Or.inl rfl
    | 3, _ => Or.inl rfl
    | 4, _ => Or.inl rfl
    | _ + 5, h => absurd h (Nat.not_lt.mpr (Nat.le_add_left _ _)))
  have hD : va_D A [(h0, .inr (0, [.int (nI (jN sa ma ga 0)), .int (nI (jN sa ma ga 1)), .int (nI (jN sa ma ga 0 + jN sa ma ga 2)), .int (nI (jN sa ma ga 3)), .int (nI (jN sa ma ga 4)), .int (nI (jN sa ma ga 5)), .int (nI (jN sa ma ga 6)), .int (nI (jN sa ma ga 7)), .ref q49, .ref q69, .ref q77, .ref q86, .long 0])), (q49, .inl (cI, 2, .inl (fun j => nI (jN sa ma ga (8 + j))))), (q69, .inl (cI, 20, .inl (fun _ => 0))), (q77, .inl (cI, 20, .inl (fun _ => 0))), (q86, .inl (cJ, 240, .inr (.inl (fun _ => 0))))] := hD.addr rfl
  exact W.vret hx hb hr (fun t ht hW => ⟨⟨fun i => match i with | 0 => h0 | 1 => q49 | 2 => q69 | 3 => q77 | _ => q86, rfl, rfl, j_h ht hP, hD⟩, hS.F ht⟩) hS.2.2 dX0_init_96
end
