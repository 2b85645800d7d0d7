/-! the law between two of its steps -/
def qInv (n mo : Nat) (an : Nat → Nat → Nat) (kp : Nat → Int64) (K : Nat → Nat) (f1 f2 f3 : Nat → Int32) : Prop :=
  n ≤ 6 ∧ mo ≤ 240 ∧ (n = 0 → mo = 0) ∧ ∀ k, k < n → jV (an k) ∧ 1 ≤ an k 1 ∧ kp k = lN (K k) ∧ K k ≤ 1000000000 ∧ (mo = 0 → K k = 0) ∧ f1 k = nI (an k 0) ∧ f2 k = nI (an k 5) ∧ f3 k = nI (an k 3)
section QI
variable {n mo : Nat} {an : Nat → Nat → Nat} {kp : Nat → Int64} {K : Nat → Nat} {f1 f2 f3 : Nat → Int32} {k : Nat}
theorem qInv_v (h : qInv n mo an kp K f1 f2 f3) (hk : k < n) : jV (an k) := (h.2.2.2 k hk).1
theorem qInv_p (h : qInv n mo an kp K f1 f2 f3) (hk : k < n) : 1 ≤ an k 1 := (h.2.2.2 k hk).2.1
theorem qInv_k (h : qInv n mo an kp K f1 f2 f3) (hk : k < n) : kp k = lN (K k) := (h.2.2.2 k hk).2.2.1
theorem qInv_K (h : qInv n mo an kp K f1 f2 f3) (hk : k < n) : K k ≤ 1000000000 := (h.2.2.2 k hk).2.2.2.1
theorem qInv_0 (h : qInv n mo an kp K f1 f2 f3) (hk : k < n) : mo = 0 → K k = 0 := (h.2.2.2 k hk).2.2.2.2.1
theorem qInv_1 (h : qInv n mo an kp K f1 f2 f3) (hk : k < n) : f1 k = nI (an k 0) := (h.2.2.2 k hk).2.2.2.2.2.1
theorem qInv_2 (h : qInv n mo an kp K f1 f2 f3) (hk : k < n) : f2 k = nI (an k 5) := (h.2.2.2 k hk).2.2.2.2.2.2.1
theorem qInv_3 (h : qInv n mo an kp K f1 f2 f3) (hk : k < n) : f3 k = nI (an k 3) := (h.2.2.2 k hk).2.2.2.2.2.2.2
/-- some is given back -/
theorem qInv_B {x : Nat} (h : qInv n mo an kp K f1 f2 f3) (hk : k < n) (hx : x ≤ K k) : qInv n mo an (jSet kp k (kp k - lN x)) (jSet K k (K k - x)) f1 f2 f3 := by
  obtain ⟨h1, h2, h3, h4⟩ := h
  refine ⟨h1, h2, h3, fun j hj => ?_⟩
  obtain ⟨g1, g2, g3, g4, g5, g6⟩ := h4 j hj
  by_cases e : j = k
  · subst e
    refine ⟨g1, g2, ?_, ?_, ?_, g6⟩
    · rw [jSet_s, jSet_s, g3, lN_sub hx]
    · rw [jSet_s]; omega
    · rw [jSet_s]; intro h0; have := g5 h0; omega
  · rw [jSet_n _ _ e, jSet_n _ _ e]
    exact ⟨g1, g2, g3, g4, g5, g6⟩
/-- an annuity's deaths are told anew -/
theorem qInv_D {an2 : Nat → Nat} (h : qInv n mo an kp K f1 f2 f3) (hk : k < n) (hv : jV an2) (h0 : an2 0 = an k 0) (h1 : an2 1 = an k 1) (h3 : an2 3 = an k 3) (h5 : an2 5 = an k 5) : qInv n mo (jSet an k an2) kp K f1 f2 f3 := by
  obtain ⟨e1, e2, e3, e4⟩ := h
  refine ⟨e1, e2, e3, fun j hj => ?_⟩
  obtain ⟨g1, g2, g3, g4, g5, g6, g7, g8⟩ := e4 j hj
  by_cases e : j = k
  · subst e
    rw [jSet_s]
    exact ⟨hv, by omega, g3, g4, g5, by rw [h0]; exact g6, by rw [h5]; exact g7, by rw [h3]; exact g8⟩
  · rw [jSet_n _ _ e]
    exact ⟨g1, g2, g3, g4, g5, g6, g7, g8⟩
/-- a month is run -/
def qZ (an : Nat → Nat → Nat) (iv : Nat → Int32) (mo : Nat) (K : Nat → Nat) (j : Nat) : Nat := jU (an j) iv (mo + 1) - K j
theorem qZ_of {iv : Nat → Int32} (h : qInv n mo an kp K f1 f2 f3) (hm : mo < 240) (hk : k < n) : jZ an iv mo kp k = lN (qZ an iv mo K k) := by
  have h1 := qInv_K h hk
  have h2 := jU_le (qInv_v h hk) iv (e := mo + 1) (by omega)
  show jmx (lN (jU (an k) iv (mo + 1)) - kp k) = _
  rw [qInv_k h hk]
  exact jmaxL (by omega) (by omega)
theorem qInv_R {iv : Nat → Int32} (h : qInv n mo an kp K f1 f2 f3) (hm : mo < 240) (hn : 0 < n) : qInv n (mo + 1) an (fun j => kp j + jZ an iv mo kp j) (fun j => K j + qZ an iv mo K j) f1 f2 f3 := by
  refine ⟨h.1, hm, fun h0 => by omega, fun j hj => ?_⟩
  have hz := qZ_of (iv := iv) h hm hj
  have h9 := jU_le (qInv_v h hj) iv (e := mo + 1) (by omega)
  obtain ⟨g1, g2, g3, g4, g5, g6⟩ := h.2.2.2 j hj
  refine ⟨g1, g2, ?_, ?_, fun h0 => by omega, g6⟩
  · show kp j + jZ an iv mo kp j = lN (K j + qZ an iv mo K j)
    rw [hz, g3, lN_add]
  · show K j + (jU (an j) iv (mo + 1) - K j) ≤ 1000000000
    omega
end QI
/-- what is owed, in natural numbers -/
theorem q_owe {an : Nat → Nat} {iv : Nat → Int32} {kp : Int64} {x mo : Nat} (hv : jV an) (h1 : kp = lN x) (hx : x ≤ 1000000000) (hm : mo ≤ 240) : jmx (kp - lN (jU an iv mo)) = lN (x - jU an iv mo) := by
  have h2 := jU_le hv iv hm
  rw [h1]
  exact jmaxL (by omega) (by omega)
theorem q_jmx1 {z : Int64} (h : ¬ lg_cmp z (lN 0) ≤ 0) : z = jmx z := by
  rw [lg_cmp_le] at h
  unfold jmx
  rw [if_neg]
  exact fun h1 => h (Int64.le_of_lt h1)
theorem q_jmx0 {z : Int64} (h : lg_cmp z (lN 0) ≤ 0) : lN 0 = jmx z := by
  rw [lg_cmp_le] at h
  unfold jmx
  by_cases h1 : z < 0
  · rw [if_pos h1]; rfl
  · rw [if_neg h1]
    exact Int64.le_antisymm (Int64.not_lt.mp h1) h
section QSt
variable (p : Program) (l : Launch) (e : Env) (s : State) (m : MethodId) (below : List Frame) (meth : Method) (c : Code) (dC : Nat → ClassId) (dI : Nat → Nat → Nat) (cI cJ cO : ClassId) (b L : Nat) (xs : Nat → Int32) (ai ax : Nat → Nat) (Q : State → Prop)
/-- what holds all the time -/
def qAt : Prop := p.tables.exec = Jvm.exec ∧ c.code = cL_law ∧ c.maxLocals = 21 ∧ s.vm.findClass RL = some m.cls ∧ (∀ w ∈ wsL_law, w.before #[Value.ref b] s = true) ∧ va_X b L xs s s.heap ∧ b < s.heap.size ∧ l.stackTraces = false ∧ jX (fun q => s.heap.size ≤ q) s s.heap ∧ va_K (dC, dI) vwCl (jTY cI cJ cI cO) s
/-- it goes on at pc, with an annuity chosen -/
def qGo (pc i cells slots : Nat) : Prop := ∀ (n mo : Nat) (iv : Nat → Int32) (aa an : Nat → Nat → Nat) (kp : Nat → Int64) (py : Nat → Nat → Int64) (K : Nat → Nat) (f1 f2 f3 : Nat → Int32) (a : Nat) (H : Heap) (locs : List Loc) (ls : Array Slot), qInv n mo an kp K f1 f2 f3 → a < n → va_P (dC, dI) vwCl (qW cI cJ cO ai iv f1 f2 f3 ax n mo iv aa an kp py) H → va_D (fun q => s.heap.size ≤ q) (qW cI cJ cO ai iv f1 f2 f3 ax n mo iv aa an kp py) → va_S (fun q => s.heap.size ≤ q) s.heap H locs → lv_has ls 21 [(0, .ref b), (1, .ref (ax 0)), (2, .ref (ai 0)), (3, .ref (ai 1)), (4, .ref (ai 2)), (5, .ref (ai 3)), (6, .int (nI n)), (7, .int (nI 1)), (8, .int (nI i)), (11, .int (nI a))] → W p l e room_1 s m #[Value.ref b] below meth c H locs cells slots Q (F0 m pc ls [])
/-- it goes on at pc -/
def qNx (pc i cells slots : Nat) : Prop := ∀ (n mo : Nat) (iv : Nat → Int32) (aa an : Nat → Nat → Nat) (kp : Nat → Int64) (py : Nat → Nat → Int64) (K : Nat → Nat) (f1 f2 f3 : Nat → Int32) (H : Heap) (locs : List Loc) (ls : Array Slot), qInv n mo an kp K f1 f2 f3 → va_P (dC, dI) vwCl (qW cI cJ cO ai iv f1 f2 f3 ax n mo iv aa an kp py) H → va_D (fun q => s.heap.size ≤ q) (qW cI cJ cO ai iv f1 f2 f3 ax n mo iv aa an kp py) → va_S (fun q => s.heap.size ≤ q) s.heap H locs → lv_has ls 21 [(0, .ref b), (1, .ref (ax 0)), (2, .ref (ai 0)), (3, .ref (ai 1)), (4, .ref (ai 2)), (5, .ref (ai 3)), (6, .int (nI n)), (7, .int (nI 1)), (8, .int (nI i))] → W p l e room_1 s m #[Value.ref b] below meth c H locs cells slots Q (F0 m pc ls [])
end QSt
