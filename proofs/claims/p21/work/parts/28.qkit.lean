/-! the law: calls of its own methods; its world -/
theorem j_keep {D : va_G} {cl : List vw_C} {ws : va_W} {H H1 : Heap} (hP : va_P D cl ws H) (hk : ∀ q : Nat, q < H.size → H1[q]? = H[q]?) : va_P D cl ws H1 := hP.kept (fun k x h => hk x.1 (hP k x h).lt)
section QC
variable {p : Program} {l : Launch} {e : Env} {R : Room} {s : State} {m : MethodId} {args : Array Value} {below : List Frame} {meth : Method} {c : Code} {H : Heap} {locs : List Loc} {cells slots : Nat} {Q : State → Prop}
variable {pc : Nat} {ls : Array Slot} {rest st0 As : List Value} {lv : List (Nat × Value)}
variable {y : MethodName} {bytes cc : ByteArray} {maxL nL n index mc ms : Nat} {ret : Option FieldType} {hh : List (Nat × Nat × Nat × Nat)} {ws' : List Cond} {rm : Room} {Ts : List Cond} {own C : String} {tys : List (ClassId × FieldType)}
variable {A0 A1 : Nat → Prop} {H0 : Heap} {D : va_G} {wc w1 Z M : va_W} {x9 : Int32} {z9 : Int64} {b L : Nat} {xs : Nat → Int32}
theorem jR_S (hK : va_K D vwCl tys s) (hP : va_P D vwCl wc H) : PreS s H (va_Pc As (jR D tys wc)) As :=
  ⟨jR_bl, fun U hU hW => ⟨rfl, by rw [hU]; exact hP, va_K.moved hW.alike hK⟩⟩
/-- a call that only looks -/
theorem q_rI (Sx : CallFix p m c cc nL s args Ts own) (hM : Met l y ws' rm (va_Pc As (jR D tys wc)) (vp_Si (fun r => r = x9)) 0 0 (fun _ => False)) (cw : vx_CSW R s args own index y bytes maxL ret hh ws' rm 0 0 n) (hK : va_K D vwCl tys s) (hP : va_P D vwCl wc H) (hn : As.length = n) (hl : lv_has ls nL lv) (hst : st0 = As.reverse ++ rest) (hro : (rest.map fun v => v.category).sum ≤ 8) (hdg : decode cc pc = .ok (.invokestatic index, 3)) (hf : cells ≤ R.cells ∧ slots ≤ R.slots)
    (kk : W p l e R s m args below meth c H locs cells slots Q (F0 m (pc + 3) ls (.int x9 :: rest))) : W p l e R s m args below meth c H locs cells slots Q (F0 m pc ls st0) :=
  vp_callSi (va_Run.run (vx_runSW Sx hM cw (jR_S hK hP) rfl hn hl.1 hst (lv_room hro) hdg hf)) (fun r hr => by subst hr; exact kk)
theorem q_rL (Sx : CallFix p m c cc nL s args Ts own) (hM : Met l y ws' rm (va_Pc As (jR D tys wc)) (vp_Sl (fun r => r = z9)) 0 0 (fun _ => False)) (cw : vx_CSW R s args own index y bytes maxL ret hh ws' rm 0 0 n) (hK : va_K D vwCl tys s) (hP : va_P D vwCl wc H) (hn : As.length = n) (hl : lv_has ls nL lv) (hst : st0 = As.reverse ++ rest) (hro : (rest.map fun v => v.category).sum ≤ 8) (hdg : decode cc pc = .ok (.invokestatic index, 3)) (hf : cells ≤ R.cells ∧ slots ≤ R.slots)
    (kk : W p l e R s m args below meth c H locs cells slots Q (F0 m (pc + 3) ls (.long z9 :: rest))) : W p l e R s m args below meth c H locs cells slots Q (F0 m pc ls st0) :=
  vp_callSl (va_Run.run (vx_runSW Sx hM cw (jR_S hK hP) rfl hn hl.1 hst (lv_room hro) hdg hf)) (fun r hr => by subst hr; exact kk)
/-- a call that writes -/
theorem j_lI (Sx : CallFix p m c cc nL s args Ts own) (hM : Met l y ws' rm (va_Pc As (jW D tys wc)) (va_Qi (fun r (_ : Unit) => r = x9) (fun _ t => va_P D vwCl w1 t.heap) (jA wc)) 0 0 (jA wc)) (cw : vx_CSW R s args own index y bytes maxL ret hh ws' rm 0 0 n) (hK : va_K D vwCl tys s) (hP : va_P D vwCl wc H) (hD : va_D A1 wc) (hn : As.length = n) (hl : lv_has ls nL lv) (hst : st0 = As.reverse ++ rest) (hro : (rest.map fun v => v.category).sum ≤ 8) (hdg : decode cc pc = .ok (.invokestatic index, 3)) (hf : cells ≤ R.cells ∧ slots ≤ R.slots)
    (hS : va_S A0 H0 H locs) (hA : ∀ q, jA wc q → A0 q)
    (kk : ∀ (H1 : Heap) (locs1 : List Loc), va_P D vwCl w1 H1 → (∀ q : Nat, q < H.size → ¬ jA wc q → H1[q]? = H[q]?) → va_S A0 H0 H1 locs1 → W p l e R s m args below meth c H1 locs1 cells slots Q (F0 m (pc + 3) ls (.int x9 :: rest))) : W p l e R s m args below meth c H locs cells slots Q (F0 m pc ls st0) :=
  va_calli (vx_runSW Sx hM cw (jW_S0 hK hP hD) rfl hn hl.1 hst (lv_room hro) hdg hf) hS (fun q _ h => hA q h) (fun q h => hA q h) (fun r u t H1 locs1 ht _ hw hB _ hk hS1 => by
    subst hw
    exact kk H1 locs1 (by rw [← ht]; exact hB) hk hS1)
theorem j_lL (Sx : CallFix p m c cc nL s args Ts own) (hM : Met l y ws' rm (va_Pc As (jW D tys wc)) (va_Ql (fun r (_ : Unit) => r = z9) (fun _ t => va_P D vwCl w1 t.heap) (jA wc)) 0 0 (jA wc)) (cw : vx_CSW R s args own index y bytes maxL ret hh ws' rm 0 0 n) (hK : va_K D vwCl tys s) (hP : va_P D vwCl wc H) (hD : va_D A1 wc) (hn : As.length = n) (hl : lv_has ls nL lv) (hst : st0 = As.reverse ++ rest) (hro : (rest.map fun v => v.category).sum ≤ 8) (hdg : decode cc pc = .ok (.invokestatic index, 3)) (hf : cells ≤ R.cells ∧ slots ≤ R.slots)
    (hS : va_S A0 H0 H locs) (hA : ∀ q, jA wc q → A0 q)
    (kk : ∀ (H1 : Heap) (locs1 : List Loc), va_P D vwCl w1 H1 → (∀ q : Nat, q < H.size → ¬ jA wc q → H1[q]? = H[q]?) → va_S A0 H0 H1 locs1 → W p l e R s m args below meth c H1 locs1 cells slots Q (F0 m (pc + 3) ls (.long z9 :: rest))) : W p l e R s m args below meth c H locs cells slots Q (F0 m pc ls st0) :=
  va_calll (vx_runSW Sx hM cw (jW_S0 hK hP hD) rfl hn hl.1 hst (lv_room hro) hdg hf) hS (fun q _ h => hA q h) (fun q h => hA q h) (fun r u t H1 locs1 ht _ hw hB _ hk hS1 => by
    subst hw
    exact kk H1 locs1 (by rw [← ht]; exact hB) hk hS1)
theorem jRX_S (hX : jX (fun _ => False) s H) (hK : va_K D vwCl tys s) (hP : va_P D vwCl wc H) : PreS s H (va_Pc As (jRX D tys wc)) As :=
  ⟨jRX_bl, fun U hU hW => ⟨rfl, ⟨by rw [hU]; exact hP, va_K.moved hW.alike hK⟩, by rw [hU]; exact jX.warm hW hX⟩⟩
/-- a call that leaves new cells behind and no old one changed -/
theorem q_xI (Sx : CallFix p m c cc nL s args Ts own) (hM : Met l y ws' rm (va_Pc As (jRX D tys wc)) (va_Qi (fun r (_ : Unit) => r = x9) (fun _ _ => True) (fun _ => False)) mc ms (fun _ => False)) (cw : vx_CSW R s args own index y bytes maxL ret hh ws' rm mc ms n) (hX : jX (fun _ => False) s H) (hK : va_K D vwCl tys s) (hP : va_P D vwCl wc H) (hn : As.length = n) (hl : lv_has ls nL lv) (hst : st0 = As.reverse ++ rest) (hro : (rest.map fun v => v.category).sum ≤ 8) (hdg : decode cc pc = .ok (.invokestatic index, 3)) (hf : cells + mc ≤ R.cells ∧ slots + ms ≤ R.slots)
    (hS : va_S A0 H0 H locs)
    (kk : ∀ (H1 : Heap) (locs1 : List Loc), jX (fun _ => False) s H1 → (∀ q : Nat, q < H.size → H1[q]? = H[q]?) → va_S A0 H0 H1 locs1 → W p l e R s m args below meth c H1 locs1 (cells + mc) (slots + ms) Q (F0 m (pc + 3) ls (.int x9 :: rest))) : W p l e R s m args below meth c H locs cells slots Q (F0 m pc ls st0) :=
  va_calli (vx_runSW Sx hM cw (jRX_S hX hK hP) rfl hn hl.1 hst (lv_room hro) hdg hf) hS (fun q _ h => h.elim) (fun q h => h.elim) (fun r u t H1 locs1 ht _ hw hB _ hk hS1 => by
    subst hw
    exact kk H1 locs1 (jX.kept hX (fun q hq _ => hk q hq id)) (fun q hq => hk q hq id) hS1)
theorem q_xL (Sx : CallFix p m c cc nL s args Ts own) (hM : Met l y ws' rm (va_Pc As (jRX D tys wc)) (va_Ql (fun r (_ : Unit) => r = z9) (fun _ _ => True) (fun _ => False)) mc ms (fun _ => False)) (cw : vx_CSW R s args own index y bytes maxL ret hh ws' rm mc ms n) (hX : jX (fun _ => False) s H) (hK : va_K D vwCl tys s) (hP : va_P D vwCl wc H) (hn : As.length = n) (hl : lv_has ls nL lv) (hst : st0 = As.reverse ++ rest) (hro : (rest.map fun v => v.category).sum ≤ 8) (hdg : decode cc pc = .ok (.invokestatic index, 3)) (hf : cells + mc ≤ R.cells ∧ slots + ms ≤ R.slots)
    (hS : va_S A0 H0 H locs)
    (kk : ∀ (H1 : Heap) (locs1 : List Loc), jX (fun _ => False) s H1 → (∀ q : Nat, q < H.size → H1[q]? = H[q]?) → va_S A0 H0 H1 locs1 → W p l e R s m args below meth c H1 locs1 (cells + mc) (slots + ms) Q (F0 m (pc + 3) ls (.long z9 :: rest))) : W p l e R s m args below meth c H locs cells slots Q (F0 m pc ls st0) :=
  va_calll (vx_runSW Sx hM cw (jRX_S hX hK hP) rfl hn hl.1 hst (lv_room hro) hdg hf) hS (fun q _ h => h.elim) (fun q h => h.elim) (fun r u t H1 locs1 ht _ hw hB _ hk hS1 => by
    subst hw
    exact kk H1 locs1 (jX.kept hX (fun q hq _ => hk q hq id)) (fun q hq => hk q hq id) hS1)
end QC
section QS
variable {p : Program} {l : Launch} {e : Env} {R : Room} {s : State} {m : MethodId} {args : Array Value} {below : List Frame} {meth : Method} {c : Code} {H : Heap} {locs : List Loc} {cells slots : Nat} {Q : State → Prop}
variable {pc : Nat} {ls : Array Slot} {rest st0 As : List Value} {lv : List (Nat × Value)}
variable {y : MethodName} {bytes cc : ByteArray} {maxL nL n index mc ms : Nat} {ret : Option FieldType} {ws' : List Cond} {rm : Room} {Ts : List Cond} {own C : String} {tys : List (ClassId × FieldType)}
variable {A0 : Nat → Prop} {H0 : Heap} {D : va_G} {wc : va_W} {x9 : Int32}
/-- .. of a method without a table -/
theorem q_fI (Sx : CallFix p m c cc nL s args Ts own) (hM : Met l y ws' rm (va_Pc As (jRX D tys wc)) (va_Qi (fun r (_ : Unit) => r = x9) (fun _ _ => True) (fun _ => False)) mc ms (fun _ => False)) (cw : CallB R s args own index y bytes maxL ret ws' rm mc ms n ∧ (Cond.static y).before args s = true) (hX : jX (fun _ => False) s H) (hK : va_K D vwCl tys s) (hP : va_P D vwCl wc H) (hn : As.length = n) (hl : lv_has ls nL lv) (hst : st0 = As.reverse ++ rest) (hro : (rest.map fun v => v.category).sum ≤ 8) (hdg : decode cc pc = .ok (.invokestatic index, 3)) (hf : cells + mc ≤ R.cells ∧ slots + ms ≤ R.slots)
    (hS : va_S A0 H0 H locs)
    (kk : ∀ (H1 : Heap) (locs1 : List Loc), jX (fun _ => False) s H1 → (∀ q : Nat, q < H.size → H1[q]? = H[q]?) → va_S A0 H0 H1 locs1 → W p l e R s m args below meth c H1 locs1 (cells + mc) (slots + ms) Q (F0 m (pc + 3) ls (.int x9 :: rest))) : W p l e R s m args below meth c H locs cells slots Q (F0 m pc ls st0) :=
  va_calli (va_runS Sx hM cw (jRX_S hX hK hP) rfl hn hl.1 hst (lv_room hro) hdg hf) hS (fun q _ h => h.elim) (fun q h => h.elim) (fun r u t H1 locs1 ht _ hw hB _ hk hS1 => by
    subst hw
    exact kk H1 locs1 (jX.kept hX (fun q hq _ => hk q hq id)) (fun q hq => hk q hq id) hS1)
end QS
