/-! the law: its world, its arguments, its calls, the ends of its rounds -/
abbrev jOT (cJ : ClassId) (oa : Nat) (ov : Nat → Int64) : Nat × va_E := (oa, .inl (cJ, 1, .inr (.inl (ov))))
abbrev jLX (cI cJ cO : ClassId) (oa : Nat) (ov : Nat → Int64) (ax : Nat → Nat) (n mo : Nat) (iv : Nat → Int32) (aa : Nat → Nat → Nat) : va_W := jOT cJ oa ov :: jX3 cI cO ax (jao aa n) n mo iv
abbrev jLW (cI cJ cZ cO : ClassId) (oa : Nat) (ax ad : Nat → Nat) (ov : Nat → Int64) (n mo : Nat) (iv : Nat → Int32) (aa an : Nat → Nat → Nat) (kp T B : Nat → Int64) (py : Nat → Nat → Int64) (fu cy th : Int32) : va_W := (jLX cI cJ cO oa ov ax n mo iv aa ++ jBl (jbk cI cJ aa an iv kp py) n) ++ jMW cI cJ cZ ad n mo iv an T B py fu cy th
theorem jMW_adr (cI cJ cZ : ClassId) (ad : Nat → Nat) (n mo : Nat) (iv : Nat → Int32) (an : Nat → Nat → Nat) (T B : Nat → Int64) (py : Nat → Nat → Int64) (fu cy th : Int32) : (jMW cI cJ cZ ad n mo iv an T B py fu cy th).map (·.1) = [ad 0, ad 1, ad 2, ad 3, ad 4, ad 5, ad 6, ad 7, ad 8, ad 9, ad 10, ad 11, ad 12, ad 13] := rfl
/-- behind a call on X and block k: put back beside M -/
theorem jl_put {A : Nat → Prop} {D : va_G} {cl : List vw_C} {X X' M wc w1 : va_W} {blk blk' : Nat → va_W} {n k : Nat} {H H1 : Heap} (hk : k < n) (hP : va_P D cl ((X ++ jBl blk n) ++ M) H) (hD : va_D A ((X ++ jBl blk n) ++ M)) (hwc : wc = X ++ blk k) (hw1 : w1 = X' ++ blk' k) (haX : X.map (·.1) = X'.map (·.1)) (haB : (blk k).map (·.1) = (blk' k).map (·.1)) (hb : ∀ j, j ≠ k → blk' j = blk j) (hkk : ∀ q : Nat, q < H.size → ¬ jA wc q → H1[q]? = H[q]?) (hP1 : va_P D cl w1 H1) : va_P D cl ((X' ++ jBl blk' n) ++ M) H1 ∧ va_D A ((X' ++ jBl blk' n) ++ M) := by
  subst hwc hw1
  rw [List.append_assoc] at hP hD ⊢
  exact j_back (X := X) (X' := X') (Zc := []) (Zc' := []) (Zr := M) hk hP hD haX haB rfl (fun j _ h => hb j h) (by rw [List.append_nil]; exact hkk) (by rw [List.append_nil]; exact hP1)
theorem jl_subF {X M : va_W} {blk : Nat → va_W} {n k : Nat} (hk : k < n) : (X ++ blk k).Sublist ((X ++ jBl blk n) ++ M) := (j_focus0 hk).trans (List.sublist_append_left _ _)
section JLP
variable {A : Nat → Prop} {D : va_G} {cI cJ cZ cO : ClassId} {oa : Nat} {ax ad : Nat → Nat} {ov : Nat → Int64} {n mo : Nat} {iv : Nat → Int32} {aa an : Nat → Nat → Nat} {kp T B : Nat → Int64} {py : Nat → Nat → Int64} {fu cy th : Int32} {H H1 : Heap} {k : Nat}
theorem jl_adX (cI cJ cO : ClassId) (oa : Nat) (ov : Nat → Int64) (ax : Nat → Nat) (n mo : Nat) (iv : Nat → Int32) (aa : Nat → Nat → Nat) : (jLX cI cJ cO oa ov ax n mo iv aa).map (·.1) = [oa, ax 0, ax 1, ax 2] := rfl
theorem jl_s1 : [jXo ax n mo].Sublist (jLW cI cJ cZ cO oa ax ad ov n mo iv aa an kp T B py fu cy th) := (List.Sublist.cons _ (List.Sublist.cons₂ _ (List.nil_sublist _))).trans ((List.sublist_append_left (jLX cI cJ cO oa ov ax n mo iv aa) _).trans (List.sublist_append_left _ _))
theorem jl_s2 : [jXo ax n mo, jXa cO ax (jao aa n)].Sublist (jLW cI cJ cZ cO oa ax ad ov n mo iv aa an kp T B py fu cy th) := (List.Sublist.cons _ (List.Sublist.cons₂ _ (List.Sublist.cons₂ _ (List.nil_sublist _)))).trans ((List.sublist_append_left (jLX cI cJ cO oa ov ax n mo iv aa) _).trans (List.sublist_append_left _ _))
theorem jl_sB (hk : k < n) : (jOT cJ oa ov :: jFW cI cJ cO ax (jao aa n) n mo iv (aa k) (an k) (kp k) (py k)).Sublist (jLW cI cJ cZ cO oa ax ad ov n mo iv aa an kp T B py fu cy th) := jl_subF (X := jLX cI cJ cO oa ov ax n mo iv aa) (blk := jbk cI cJ aa an iv kp py) hk
theorem jl_s8 (hk : k < n) : (jFW cI cJ cO ax (jao aa n) n mo iv (aa k) (an k) (kp k) (py k)).Sublist (jLW cI cJ cZ cO oa ax ad ov n mo iv aa an kp T B py fu cy th) := (List.sublist_cons_self _ _).trans (jl_sB hk)
/-- behind a call on block k: its numbers may be new -/
theorem jl_putA {ov2 : Nat → Int64} {an2 : Nat → Nat} (hk : k < n) (hP : va_P D vwCl (jLW cI cJ cZ cO oa ax ad ov n mo iv aa an kp T B py fu cy th) H) (hD : va_D A (jLW cI cJ cZ cO oa ax ad ov n mo iv aa an kp T B py fu cy th))
    (hkk : ∀ q : Nat, q < H.size → ¬ jA (jOT cJ oa ov :: jFW cI cJ cO ax (jao aa n) n mo iv (aa k) (an k) (kp k) (py k)) q → H1[q]? = H[q]?) (hP1 : va_P D vwCl (jOT cJ oa ov2 :: jFW cI cJ cO ax (jao aa n) n mo iv (aa k) an2 (kp k) (py k)) H1) : va_P D vwCl ((jLX cI cJ cO oa ov2 ax n mo iv aa ++ jBl (jbk cI cJ aa (jSet an k an2) iv kp py) n) ++ jMW cI cJ cZ ad n mo iv an T B py fu cy th) H1 ∧ va_D A ((jLX cI cJ cO oa ov2 ax n mo iv aa ++ jBl (jbk cI cJ aa (jSet an k an2) iv kp py) n) ++ jMW cI cJ cZ ad n mo iv an T B py fu cy th) :=
  jl_put (X := jLX cI cJ cO oa ov ax n mo iv aa) (X' := jLX cI cJ cO oa ov2 ax n mo iv aa) (blk := jbk cI cJ aa an iv kp py) (blk' := jbk cI cJ aa (jSet an k an2) iv kp py) hk hP hD rfl (by show _ = _ ++ jAW cI cJ (aa k) (jSet an k an2 k) iv (kp k) (py k); rw [jSet_s]; rfl) ((jl_adX cI cJ cO oa ov ax n mo iv aa).trans (jl_adX cI cJ cO oa ov2 ax n mo iv aa).symm) ((jbk_adr cI cJ aa an iv kp py k).trans (jbk_adr cI cJ aa (jSet an k an2) iv kp py k).symm) (fun j h => by show jAW cI cJ (aa j) (jSet an k an2 j) iv (kp j) (py j) = _; rw [jSet_n _ _ h]) hkk hP1
theorem jl_putK {ov2 : Nat → Int64} {x : Int64} (hk : k < n) (hP : va_P D vwCl (jLW cI cJ cZ cO oa ax ad ov n mo iv aa an kp T B py fu cy th) H) (hD : va_D A (jLW cI cJ cZ cO oa ax ad ov n mo iv aa an kp T B py fu cy th))
    (hkk : ∀ q : Nat, q < H.size → ¬ jA (jOT cJ oa ov :: jFW cI cJ cO ax (jao aa n) n mo iv (aa k) (an k) (kp k) (py k)) q → H1[q]? = H[q]?) (hP1 : va_P D vwCl (jOT cJ oa ov2 :: jFW cI cJ cO ax (jao aa n) n mo iv (aa k) (an k) x (py k)) H1) : va_P D vwCl ((jLX cI cJ cO oa ov2 ax n mo iv aa ++ jBl (jbk cI cJ aa an iv (jSet kp k x) py) n) ++ jMW cI cJ cZ ad n mo iv an T B py fu cy th) H1 ∧ va_D A ((jLX cI cJ cO oa ov2 ax n mo iv aa ++ jBl (jbk cI cJ aa an iv (jSet kp k x) py) n) ++ jMW cI cJ cZ ad n mo iv an T B py fu cy th) :=
  jl_put (X := jLX cI cJ cO oa ov ax n mo iv aa) (X' := jLX cI cJ cO oa ov2 ax n mo iv aa) (blk := jbk cI cJ aa an iv kp py) (blk' := jbk cI cJ aa an iv (jSet kp k x) py) hk hP hD rfl (by show _ = _ ++ jAW cI cJ (aa k) (an k) iv (jSet kp k x k) (py k); rw [jSet_s]; rfl) ((jl_adX cI cJ cO oa ov ax n mo iv aa).trans (jl_adX cI cJ cO oa ov2 ax n mo iv aa).symm) ((jbk_adr cI cJ aa an iv kp py k).trans (jbk_adr cI cJ aa an iv (jSet kp k x) py k).symm) (fun j h => by show jAW cI cJ (aa j) (an j) iv (jSet kp k x j) (py j) = _; rw [jSet_n _ _ h]) hkk hP1
theorem jl_put0 {ov2 : Nat → Int64} (hk : k < n) (hP : va_P D vwCl (jLW cI cJ cZ cO oa ax ad ov n mo iv aa an kp T B py fu cy th) H) (hD : va_D A (jLW cI cJ cZ cO oa ax ad ov n mo iv aa an kp T B py fu cy th))
    (hkk : ∀ q : Nat, q < H.size → ¬ jA (jOT cJ oa ov :: jFW cI cJ cO ax (jao aa n) n mo iv (aa k) (an k) (kp k) (py k)) q → H1[q]? = H[q]?) (hP1 : va_P D vwCl (jOT cJ oa ov2 :: jFW cI cJ cO ax (jao aa n) n mo iv (aa k) (an k) (kp k) (py k)) H1) : va_P D vwCl ((jLX cI cJ cO oa ov2 ax n mo iv aa ++ jBl (jbk cI cJ aa an iv kp py) n) ++ jMW cI cJ cZ ad n mo iv an T B py fu cy th) H1 ∧ va_D A ((jLX cI cJ cO oa ov2 ax n mo iv aa ++ jBl (jbk cI cJ aa an iv kp py) n) ++ jMW cI cJ cZ ad n mo iv an T B py fu cy th) :=
  jl_put (X := jLX cI cJ cO oa ov ax n mo iv aa) (X' := jLX cI cJ cO oa ov2 ax n mo iv aa) (blk := jbk cI cJ aa an iv kp py) (blk' := jbk cI cJ aa an iv kp py) hk hP hD rfl rfl ((jl_adX cI cJ cO oa ov ax n mo iv aa).trans (jl_adX cI cJ cO oa ov2 ax n mo iv aa).symm) rfl (fun j h => rfl) hkk hP1
end JLP
theorem j_keep {D : va_G} {cl : List vw_C} {ws : va_W} {H H1 : Heap} (hP : va_P D cl ws H) (hk : ∀ q : Nat, q < H.size → H1[q]? = H[q]?) : va_P D cl ws H1 := hP.kept (fun k x h => hk x.1 (hP k x h).lt)
section JLC
variable {p : Program} {l : Launch} {e : Env} {R : Room} {s : State} {m : MethodId} {args : Array Value} {below : List Frame} {meth : Method} {c : Code} {H : Heap} {locs : List Loc} {cells slots : Nat} {Q : State → Prop}
variable {pc : Nat} {ls : Array Slot} {rest st0 As : List Value} {lv : List (Nat × Value)}
variable {y : MethodName} {bytes cc : ByteArray} {maxL nL n index : Nat} {ret : Option FieldType} {hh : List (Nat × Nat × Nat × Nat)} {ws' : List Cond} {rm : Room} {Ts : List Cond} {own C : String} {tys : List (ClassId × FieldType)}
variable {A0 A1 : Nat → Prop} {H0 : Heap} {D : va_G} {wc w1 Z M : va_W} {x9 : Int32} {b L : Nat} {xs : Nat → Int32}
/-- an int of the script -/
theorem j_arg {i : Nat} {n9 : Int} {v : Int32} (hx : p.tables.exec = Jvm.exec) (hb : c.code = cc) (hX : va_X b L xs s H0) (hbl : b < H0.size) (hbA : ¬ A0 b) (hS : va_S A0 H0 H locs) (h0 : ls[0]? = some (.val (.ref b))) (h4 : ls[4]? = some (.val (.int (nI i)))) (k9 : Nat) (hn9 : Int32.ofInt n9 = nI k9) (hlt : i + k9 < L) (hL : L ≤ 2048) (ev : xs (i + k9) = v)
    (d0 : decode cc pc = .ok (.aload_n 0, 1)) (d1 : decode cc (pc + 1) = .ok (.iload 4, 2)) (d3 : decode cc (pc + 3) = .ok (.iconst n9, 1)) (d4 : decode cc (pc + 4) = .ok (.iadd, 1)) (d5 : decode cc (pc + 5) = .ok (.iaload, 1))
    (kk : W p l e R s m args below meth c H locs cells slots Q (F0 m (pc + 6) ls (.int v :: rest))) : W p l e R s m args below meth c H locs cells slots Q (F0 m pc ls rest) := by
  refine lv_aload_n hx hb d0 rfl h0 ?_
  refine lv_iload hx hb d1 h4 ?_
  refine lv_iconst (v := nI k9) hx hb d3 hn9 ?_
  refine lv_iadd hx hb d4 ?_
  refine j_i (y := nI (i + k9)) (nI_add i k9) ?_
  refine va_sld hx hb hX hbl hbA hS (vp_in_nI hlt (by omega)) d5 ?_
  exact j_i (y := v) (by rw [nI_clamp (by omega)]; exact ev) kk
/-- .. as a boolean -/
theorem j_argB {v : Int32} {w : Nat} (hx : p.tables.exec = Jvm.exec) (hb : c.code = cc) (ew : (if v = 0 then 0 else 1) = w) (d0 : decode cc pc = .ok (.ifCond .eq 7, 3)) (d3 : decode cc (pc + 3) = .ok (.iconst 1, 1)) (d4 : decode cc (pc + 4) = .ok (.goto 4, 3)) (d7 : decode cc (pc + 7) = .ok (.iconst 0, 1))
    (kk : W p l e R s m args below meth c H locs cells slots Q (F0 m (pc + 8) ls (.int (nI w) :: rest))) : W p l e R s m args below meth c H locs cells slots Q (F0 m pc ls (.int v :: rest)) := by
  refine lv_if_eq (tgt := pc + 7) hx hb d0 (by omega) (fun h => ?_) (fun h => ?_)
  · rw [if_pos h] at ew
    subst ew
    exact lv_iconst (v := nI 0) hx hb d7 rfl kk
  · rw [if_neg h] at ew
    subst ew
    refine lv_iconst (v := nI 1) hx hb d3 rfl ?_
    exact lv_goto (tgt := pc + 8) hx hb d4 (by omega) kk
/-- a call of one of the law's own: it goes -/
theorem j_lI (Sx : CallFix p m c cc nL s args Ts own) (hM : Met l y ws' rm (va_Pc As (jW D tys wc)) (va_Qi (fun r (_ : Unit) => r = x9) (fun _ t => va_P D vwCl w1 t.heap) (jA wc)) 0 0 (jA wc)) (cw : vx_CSW R s args own index y bytes maxL ret hh ws' rm 0 0 n) (hK : va_K D vwCl tys s) (hP : va_P D vwCl wc H) (hD : va_D A1 wc) (hn : As.length = n) (hl : lv_has ls nL lv) (hst : st0 = As.reverse ++ rest) (hro : (rest.map fun v => v.category).sum ≤ 8) (hdg : decode cc pc = .ok (.invokestatic index, 3)) (hf : cells ≤ R.cells ∧ slots ≤ R.slots)
    (hS : va_S A0 H0 H locs) (hA : ∀ q, jA wc q → A0 q)
    (kk : ∀ (H1 : Heap) (locs1 : List Loc), va_P D vwCl w1 H1 → (∀ q : Nat, q < H.size → ¬ jA wc q → H1[q]? = H[q]?) → va_S A0 H0 H1 locs1 → W p l e R s m args below meth c H1 locs1 cells slots Q (F0 m (pc + 3) ls (.int x9 :: rest))) : W p l e R s m args below meth c H locs cells slots Q (F0 m pc ls st0) :=
  va_calli (vx_runSW Sx hM cw (jW_S0 hK hP hD) rfl hn hl.1 hst (lv_room hro) hdg hf) hS (fun q _ h => hA q h) (fun q h => hA q h) (fun r u t H1 locs1 ht _ hw hB _ hk hS1 => by
    subst hw
    exact kk H1 locs1 (by rw [← ht]; exact hB) hk hS1)
theorem jRX_S (hX : jX (fun _ => False) s H) (hK : va_K D vwCl tys s) (hP : va_P D vwCl wc H) : PreS s H (va_Pc As (jRX D tys wc)) As :=
  ⟨jRX_bl, fun U hU hW => ⟨rfl, ⟨by rw [hU]; exact hP, va_K.moved hW.alike hK⟩, by rw [hU]; exact jX.warm hW hX⟩⟩
/-- .. refused -/
theorem j_lX (Sx : CallFix p m c cc nL s args Ts own) (hM : Met l y ws' rm (va_Pc As (jRX D tys wc)) (va_Qi (fun r (_ : Unit) => r = x9) (fun _ _ => True) (fun _ => False)) 1 6 (fun _ => False)) (cw : vx_CSW R s args own index y bytes maxL ret hh ws' rm 1 6 n) (hX : jX (fun _ => False) s H) (hK : va_K D vwCl tys s) (hP : va_P D vwCl wc H) (hn : As.length = n) (hl : lv_has ls nL lv) (hst : st0 = As.reverse ++ rest) (hro : (rest.map fun v => v.category).sum ≤ 8) (hdg : decode cc pc = .ok (.invokestatic index, 3)) (hf : cells + 1 ≤ R.cells ∧ slots + 6 ≤ R.slots)
    (hS : va_S A0 H0 H locs)
    (kk : ∀ (H1 : Heap) (locs1 : List Loc), (∀ q : Nat, q < H.size → H1[q]? = H[q]?) → va_S A0 H0 H1 locs1 → W p l e R s m args below meth c H1 locs1 (cells + 1) (slots + 6) Q (F0 m (pc + 3) ls (.int x9 :: rest))) : W p l e R s m args below meth c H locs cells slots Q (F0 m pc ls st0) :=
  va_calli (vx_runSW Sx hM cw (jRX_S hX hK hP) rfl hn hl.1 hst (lv_room hro) hdg hf) hS (fun q _ h => h.elim) (fun q h => h.elim) (fun r u t H1 locs1 ht _ hw hB _ hk hS1 => by
    subst hw
    exact kk H1 locs1 (fun q hq => hk q hq id) hS1)
variable {fs As2 : List Value} {bb : Nat} {ads : List Nat}
/-- a call of the reference -/
theorem j_mV {S : Type} {post : S → Prop} {w2 : S → va_W} (Sx : CallFix p m c cc nL s args Ts own) (hM : Met l y ws' rm (va_Pc (.ref bb :: As) (jW D tys M)) (va_Qv post (fun u t => va_P D vwCl (w2 u) t.heap) (jA M)) 0 0 (jA M)) (cw : CallW R s args own RX2 index y bytes maxL ret ws' rm 0 0 n) (hK : va_K D vwCl tys s) (hP : va_P D vwCl (Z ++ M) H) (hD : va_D A0 (Z ++ M)) (he : M[0]? = some (bb, .inr (2, fs))) (ha : M.map (·.1) = ads) (ha2 : ∀ u, (w2 u).map (·.1) = ads) (hn : As.length = n) (hl : lv_has ls nL lv) (hst : st0 = As.reverse ++ .ref bb :: rest) (hro : (rest.map fun v => v.category).sum ≤ 8) (hdg : decode cc pc = .ok (.invokevirtual index, 3)) (hf : cells ≤ R.cells ∧ slots ≤ R.slots) (hS : va_S A0 H0 H locs)
    (kk : ∀ (u : S) (H1 : Heap) (locs1 : List Loc), post u → va_P D vwCl (Z ++ w2 u) H1 → va_D A0 (Z ++ w2 u) → va_S A0 H0 H1 locs1 → W p l e R s m args below meth c H1 locs1 cells slots Q (F0 m (pc + 3) ls rest)) : W p l e R s m args below meth c H locs cells slots Q (F0 m pc ls st0) :=
  j_gV Sx hM cw (jW_V0 (A := A0) hK (j_subP hP (List.sublist_append_right _ _)) (j_subD hD (List.sublist_append_right _ _)) (ci := 2) (q0 := 0) rfl he rfl) hn hl hst hro hdg hf hS (j_subA hD (List.sublist_append_right _ _)) (fun u H1 locs1 hu hP1 hk hS1 => by
    obtain ⟨g1, g2⟩ := j_right hP hD (ha.trans (ha2 u).symm) hk hP1
    exact kk u H1 locs1 hu g1 g2 hS1)
theorem j_mI {S : Type} {post : Int32 → S → Prop} {w2 : S → va_W} (Sx : CallFix p m c cc nL s args Ts own) (hM : Met l y ws' rm (va_Pc (.ref bb :: As) (jW D tys M)) (va_Qi post (fun u t => va_P D vwCl (w2 u) t.heap) (jA M)) 0 0 (jA M)) (cw : CallW R s args own RX2 index y bytes maxL ret ws' rm 0 0 n) (hK : va_K D vwCl tys s) (hP : va_P D vwCl (Z ++ M) H) (hD : va_D A0 (Z ++ M)) (he : M[0]? = some (bb, .inr (2, fs))) (ha : M.map (·.1) = ads) (ha2 : ∀ u, (w2 u).map (·.1) = ads) (hn : As.length = n) (hl : lv_has ls nL lv) (hst : st0 = As.reverse ++ .ref bb :: rest) (hro : (rest.map fun v => v.category).sum ≤ 8) (hdg : decode cc pc = .ok (.invokevirtual index, 3)) (hf : cells ≤ R.cells ∧ slots ≤ R.slots) (hS : va_S A0 H0 H locs)
    (kk : ∀ (r : Int32) (u : S) (H1 : Heap) (locs1 : List Loc), post r u → va_P D vwCl (Z ++ w2 u) H1 → va_D A0 (Z ++ w2 u) → va_S A0 H0 H1 locs1 → W p l e R s m args below meth c H1 locs1 cells slots Q (F0 m (pc + 3) ls (.int r :: rest))) : W p l e R s m args below meth c H locs cells slots Q (F0 m pc ls st0) :=
  j_gI Sx hM cw (jW_V0 (A := A0) hK (j_subP hP (List.sublist_append_right _ _)) (j_subD hD (List.sublist_append_right _ _)) (ci := 2) (q0 := 0) rfl he rfl) hn hl hst hro hdg hf hS (j_subA hD (List.sublist_append_right _ _)) (fun r u H1 locs1 hu hP1 hk hS1 => by
    obtain ⟨g1, g2⟩ := j_right hP hD (ha.trans (ha2 u).symm) hk hP1
    exact kk r u H1 locs1 hu g1 g2 hS1)
theorem j_mL {S : Type} {post : Int64 → S → Prop} {w2 : S → va_W} (Sx : CallFix p m c cc nL s args Ts own) (hM : Met l y ws' rm (va_Pc (.ref bb :: As) (jW D tys M)) (va_Ql post (fun u t => va_P D vwCl (w2 u) t.heap) (jA M)) 0 0 (jA M)) (cw : CallW R s args own RX2 index y bytes maxL ret ws' rm 0 0 n) (hK : va_K D vwCl tys s) (hP : va_P D vwCl (Z ++ M) H) (hD : va_D A0 (Z ++ M)) (he : M[0]? = some (bb, .inr (2, fs))) (ha : M.map (·.1) = ads) (ha2 : ∀ u, (w2 u).map (·.1) = ads) (hn : As.length = n) (hl : lv_has ls nL lv) (hst : st0 = As.reverse ++ .ref bb :: rest) (hro : (rest.map fun v => v.category).sum ≤ 8) (hdg : decode cc pc = .ok (.invokevirtual index, 3)) (hf : cells ≤ R.cells ∧ slots ≤ R.slots) (hS : va_S A0 H0 H locs)
    (kk : ∀ (r : Int64) (u : S) (H1 : Heap) (locs1 : List Loc), post r u → va_P D vwCl (Z ++ w2 u) H1 → va_D A0 (Z ++ w2 u) → va_S A0 H0 H1 locs1 → W p l e R s m args below meth c H1 locs1 cells slots Q (F0 m (pc + 3) ls (.long r :: rest))) : W p l e R s m args below meth c H locs cells slots Q (F0 m pc ls st0) :=
  j_gL Sx hM cw (jW_V0 (A := A0) hK (j_subP hP (List.sublist_append_right _ _)) (j_subD hD (List.sublist_append_right _ _)) (ci := 2) (q0 := 0) rfl he rfl) hn hl hst hro hdg hf hS (j_subA hD (List.sublist_append_right _ _)) (fun r u H1 locs1 hu hP1 hk hS1 => by
    obtain ⟨g1, g2⟩ := j_right hP hD (ha.trans (ha2 u).symm) hk hP1
    exact kk r u H1 locs1 hu g1 g2 hS1)
theorem jR_V0 {ci q0 : Nat} {r : vw_C} (hK : va_K D vwCl tys s) (hP : va_P D vwCl wc H) (hc : vwCl[ci]? = some r) (he : wc[q0]? = some (bb, .inr (ci, fs))) (hn : r.1 = C) : PreV s H C bb (va_Pc (.ref bb :: As) (jR D tys wc)) As :=
  ⟨jR_bl, by rw [← hn]; exact va_recv hK hP hc he, fun U hU hW => ⟨rfl, by rw [hU]; exact hP, va_K.moved hW.alike hK⟩⟩
end JLC
