/-! the law between two rounds, and the ends of its rounds -/
section JLD
variable (p : Program) (l : Launch) (e : Env) (s : State) (m : MethodId) (below : List Frame) (meth : Method) (c : Code) (dC : Nat → ClassId) (dI : Nat → Nat → Nat) (cI cJ cZ cO : ClassId) (b L : Nat) (xs : Nat → Int32) (oa : Nat) (ax ad : Nat → Nat) (Q : State → Prop)
/-- what holds all the time -/
def jAt : Prop := p.tables.exec = Jvm.exec ∧ c.code = cL_law ∧ c.maxLocals = 8 ∧ s.vm.findClass RL = some m.cls ∧ (∀ w ∈ wsL_law, w.before #[Value.ref b] s = true) ∧ va_X b L xs s s.heap ∧ b < s.heap.size ∧ l.stackTraces = false ∧ jX (fun q => s.heap.size ≤ q) s s.heap ∧ va_K (dC, dI) vwCl (jTY cI cJ cZ cO) s
/-- from a round's end it goes on -/
def jGo (i cells slots : Nat) : Prop := ∀ (n mo : Nat) (iv : Nat → Int32) (aa an : Nat → Nat → Nat) (kp T B : Nat → Int64) (py : Nat → Nat → Int64) (ov : Nat → Int64) (fu cy th : Int32) (H : Heap) (locs : List Loc) (ls : Array Slot), jInv n mo an kp T B py → va_P (dC, dI) vwCl (jLW cI cJ cZ cO oa ax ad ov n mo iv aa an kp T B py fu cy th) H → va_D (fun q => s.heap.size ≤ q) (jLW cI cJ cZ cO oa ax ad ov n mo iv aa an kp T B py fu cy th) → va_S (fun q => s.heap.size ≤ q) s.heap H locs → lv_has ls 8 [(0, .ref b), (1, .ref (ax 0)), (2, .ref (ad 0)), (3, .ref oa), (4, .int (nI i))] → W p l e room_1 s m #[Value.ref b] below meth c H locs cells slots Q (F0 m 1209 ls [])
/-- a round begins -/
def jRd (i cells slots n mo : Nat) (iv : Nat → Int32) (aa an : Nat → Nat → Nat) (kp T B : Nat → Int64) (py : Nat → Nat → Int64) (ov : Nat → Int64) (fu cy th : Int32) (H : Heap) (locs : List Loc) (ls : Array Slot) : Prop := jAt p l s m c dC dI cI cJ cZ cO b L xs ∧ jInv n mo an kp T B py ∧ va_P (dC, dI) vwCl (jLW cI cJ cZ cO oa ax ad ov n mo iv aa an kp T B py fu cy th) H ∧ va_D (fun q => s.heap.size ≤ q) (jLW cI cJ cZ cO oa ax ad ov n mo iv aa an kp T B py fu cy th) ∧ va_S (fun q => s.heap.size ≤ q) s.heap H locs ∧ lv_has ls 8 [(0, .ref b), (1, .ref (ax 0)), (2, .ref (ad 0)), (3, .ref oa), (4, .int (nI i))] ∧ (cells + 5 ≤ 601024 ∧ slots + 295 ≤ 7293034) ∧ i + 3 < L ∧ L ≤ 2048 ∧ jGo p l e s m below meth c dC dI cI cJ cZ cO b oa ax ad Q i (cells + 5) (slots + 295)
end JLD
section JLT
variable {p : Program} {l : Launch} {e : Env} {s : State} {m : MethodId} {below : List Frame} {meth : Method} {c : Code} {dC : Nat → ClassId} {dI : Nat → Nat → Nat} {cI cJ cZ cO : ClassId} {b L : Nat} {xs : Nat → Int32} {oa : Nat} {ax ad : Nat → Nat} {Q : State → Prop} {cells slots n mo : Nat} {iv : Nat → Int32} {an : Nat → Nat → Nat} {T B : Nat → Int64} {py : Nat → Nat → Int64} {ov : Nat → Int64} {fu cy : Int32} {H : Heap} {locs : List Loc} {ls : Array Slot} {lv : List (Nat × Value)} {Z : va_W} {pc cd : Nat} {off : Int}
/-- the codes are compared -/
theorem jt_C (hA : jAt p l s m c dC dI cI cJ cZ cO b L xs) (hP : va_P (dC, dI) vwCl (Z ++ jMW cI cJ cZ ad n mo iv an T B py fu cy (nI cd)) H) (hl : lv_has ls 8 lv) (h2 : ls[2]? = some (.val (.ref (ad 0)))) (h5 : ls[5]? = some (.val (.int (nI cd)))) (hrm : cells ≤ 601024 ∧ slots ≤ 7293034)
    (d0 : decode cL_law pc = .ok (.aload_n 2, 1)) (d1 : decode cL_law (pc + 1) = .ok (.invokevirtual 84, 3)) (d4 : decode cL_law (pc + 4) = .ok (.iload 5, 2)) (d6 : decode cL_law (pc + 6) = .ok (.if_icmp .eq 5, 3))
    (go : W p l e room_1 s m #[Value.ref b] below meth c H locs cells slots Q (F0 m (pc + 11) ls [])) : W p l e room_1 s m #[Value.ref b] below meth c H locs cells slots Q (F0 m pc ls []) := by
  obtain ⟨hx, hb, hml, hown, hts, hX, hbl, hst, hZ, hK⟩ := hA
  refine lv_aload_n hx hb d0 rfl h2 ?_
  refine j_cI_ (As := []) (rest := []) ⟨hx, hb, hml, hown, hts⟩ (c_X2_thrown l dC dI cI cJ cZ cO ad n mo iv an T B py fu cy (nI cd)) (cwV 0 hts gL_law_X2_thrown rfl rfl rfl (by decide +kernel) ⟨Nat.le_of_ble_eq_true rfl, Nat.le_of_ble_eq_true rfl⟩) (jR_V0 hK (j_subP hP (List.sublist_append_right _ _)) (ci := 2) (q0 := 0) rfl rfl rfl) rfl hl rfl (Nat.le_of_ble_eq_true rfl) d1 hrm (fun r hr => ?_)
  subst hr
  refine lv_iload hx hb d4 h5 ?_
  exact lv_icmp_eq (tgt := pc + 11) hx hb d6 (by omega) (fun _ => go) (fun h => absurd rfl h)
theorem jt_V (hA : jAt p l s m c dC dI cI cJ cZ cO b L xs) (hP : va_P (dC, dI) vwCl (Z ++ jMW cI cJ cZ ad n mo iv an T B py fu cy (nI cd)) H) (hl : lv_has ls 8 lv) (h2 : ls[2]? = some (.val (.ref (ad 0)))) (h5 : ls[5]? = some (.val (.int (nI cd)))) (hrm : cells ≤ 601024 ∧ slots ≤ 7293034)
    (d0 : decode cL_law pc = .ok (.aload_n 2, 1)) (d1 : decode cL_law (pc + 1) = .ok (.invokevirtual 84, 3)) (d4 : decode cL_law (pc + 4) = .ok (.iload 5, 2)) (d6 : decode cL_law (pc + 6) = .ok (.if_icmp .eq 5, 3)) (d11 : decode cL_law (pc + 11) = .ok (.goto off, 3)) (ht : ((pc + 11 : Nat) : Int) + off = ((1209 : Nat) : Int))
    (go : W p l e room_1 s m #[Value.ref b] below meth c H locs cells slots Q (F0 m 1209 ls [])) : W p l e room_1 s m #[Value.ref b] below meth c H locs cells slots Q (F0 m pc ls []) :=
  jt_C hA hP hl h2 h5 hrm d0 d1 d4 d6 (lv_goto (tgt := 1209) hA.1 hA.2.1 d11 ht go)
theorem jcd0 {cd : Nat} (h : cd < 2 ^ 31) (e : nI cd = 0) : cd = 0 := by
  have h1 := nI_clamp h
  rw [e] at h1
  exact h1.symm
theorem jcmp0 (x : Int64) : lg_cmp x x = 0 := by
  unfold lg_cmp
  rw [if_neg (Int64.lt_irrefl), if_pos rfl]
/-- .. and, when it went, the answers, ints -/
theorem jt_I {bv : Int32} {oz : Nat} (hA : jAt p l s m c dC dI cI cJ cZ cO b L xs) (hP : va_P (dC, dI) vwCl (((jOT cJ oz ov :: Z) ++ jMW cI cJ cZ ad n mo iv an T B py fu cy (nI cd))) H) (hl : lv_has ls 8 lv) (h2 : ls[2]? = some (.val (.ref (ad 0)))) (h3 : ls[3]? = some (.val (.ref oz))) (h5 : ls[5]? = some (.val (.int (nI cd)))) (h6 : ls[6]? = some (.val (.int bv))) (hcd : cd < 2 ^ 31) (hov : cd = 0 → ov 0 = bv.toInt64) (hrm : cells ≤ 601024 ∧ slots ≤ 7293034)
    (d0 : decode cL_law pc = .ok (.aload_n 2, 1)) (d1 : decode cL_law (pc + 1) = .ok (.invokevirtual 84, 3)) (d4 : decode cL_law (pc + 4) = .ok (.iload 5, 2)) (d6 : decode cL_law (pc + 6) = .ok (.if_icmp .eq 5, 3)) (d11 : decode cL_law (pc + 11) = .ok (.iload 5, 2)) (d13 : decode cL_law (pc + 13) = .ok (.ifCond .ne 15, 3)) (d16 : decode cL_law (pc + 16) = .ok (.aload_n 3, 1)) (d17 : decode cL_law (pc + 17) = .ok (.iconst 0, 1)) (d18 : decode cL_law (pc + 18) = .ok (.laload, 1)) (d19 : decode cL_law (pc + 19) = .ok (.iload 6, 2)) (d21 : decode cL_law (pc + 21) = .ok (.i2l, 1)) (d22 : decode cL_law (pc + 22) = .ok (.lcmp, 1)) (d23 : decode cL_law (pc + 23) = .ok (.ifCond .eq 5, 3)) (d28 : decode cL_law (pc + 28) = .ok (.goto off, 3)) (ht : ((pc + 28 : Nat) : Int) + off = ((1209 : Nat) : Int))
    (go : W p l e room_1 s m #[Value.ref b] below meth c H locs cells slots Q (F0 m 1209 ls [])) : W p l e room_1 s m #[Value.ref b] below meth c H locs cells slots Q (F0 m pc ls []) := by
  have hx := hA.1
  have hb := hA.2.1
  obtain ⟨-, -, -, -, -, -, -, -, -, hK⟩ := id hA
  refine jt_C hA hP hl h2 h5 hrm d0 d1 d4 d6 ?_
  refine lv_iload hx hb d11 h5 ?_
  have hg : W p l e room_1 s m #[Value.ref b] below meth c H locs cells slots Q (F0 m (pc + 28) ls []) := lv_goto (tgt := 1209) hx hb d28 ht go
  refine lv_if_ne (tgt := pc + 28) hx hb d13 (by omega) (fun _ => hg) (fun h => ?_)
  have ho := hov (jcd0 hcd h)
  refine lv_aload_n hx hb d16 rfl h3 ?_
  refine lv_iconst (v := nI 0) hx hb d17 rfl ?_
  refine va_lald (n := 1) (f := ov) hx hb hK hP 0 1 rfl rfl (vp_in_nI (by omega) (by omega)) d18 ?_
  refine j_l (y := bv.toInt64) ho ?_
  refine lv_iload hx hb d19 h6 ?_
  refine lv_i2l (v := bv.toInt64) hx hb d21 rfl ?_
  refine W.lcmp hx hb d22 ?_
  exact lv_if_eq (tgt := pc + 28) hx hb d23 (by omega) (fun _ => hg) (fun h => absurd (jcmp0 _) h)
/-- .. longs -/
theorem jt_L {bv : Int64} {oz : Nat} (hA : jAt p l s m c dC dI cI cJ cZ cO b L xs) (hP : va_P (dC, dI) vwCl (((jOT cJ oz ov :: Z) ++ jMW cI cJ cZ ad n mo iv an T B py fu cy (nI cd))) H) (hl : lv_has ls 8 lv) (h2 : ls[2]? = some (.val (.ref (ad 0)))) (h3 : ls[3]? = some (.val (.ref oz))) (h5 : ls[5]? = some (.val (.int (nI cd)))) (h6 : ls[6]? = some (.val (.long bv))) (hcd : cd < 2 ^ 31) (hov : cd = 0 → ov 0 = bv) (hrm : cells ≤ 601024 ∧ slots ≤ 7293034)
    (d0 : decode cL_law pc = .ok (.aload_n 2, 1)) (d1 : decode cL_law (pc + 1) = .ok (.invokevirtual 84, 3)) (d4 : decode cL_law (pc + 4) = .ok (.iload 5, 2)) (d6 : decode cL_law (pc + 6) = .ok (.if_icmp .eq 5, 3)) (d11 : decode cL_law (pc + 11) = .ok (.iload 5, 2)) (d13 : decode cL_law (pc + 13) = .ok (.ifCond .ne 14, 3)) (d16 : decode cL_law (pc + 16) = .ok (.aload_n 3, 1)) (d17 : decode cL_law (pc + 17) = .ok (.iconst 0, 1)) (d18 : decode cL_law (pc + 18) = .ok (.laload, 1)) (d19 : decode cL_law (pc + 19) = .ok (.lload 6, 2)) (d21 : decode cL_law (pc + 21) = .ok (.lcmp, 1)) (d22 : decode cL_law (pc + 22) = .ok (.ifCond .eq 5, 3)) (d27 : decode cL_law (pc + 27) = .ok (.goto off, 3)) (ht : ((pc + 27 : Nat) : Int) + off = ((1209 : Nat) : Int))
    (go : W p l e room_1 s m #[Value.ref b] below meth c H locs cells slots Q (F0 m 1209 ls [])) : W p l e room_1 s m #[Value.ref b] below meth c H locs cells slots Q (F0 m pc ls []) := by
  have hx := hA.1
  have hb := hA.2.1
  obtain ⟨-, -, -, -, -, -, -, -, -, hK⟩ := id hA
  refine jt_C hA hP hl h2 h5 hrm d0 d1 d4 d6 ?_
  refine lv_iload hx hb d11 h5 ?_
  have hg : W p l e room_1 s m #[Value.ref b] below meth c H locs cells slots Q (F0 m (pc + 27) ls []) := lv_goto (tgt := 1209) hx hb d27 ht go
  refine lv_if_ne (tgt := pc + 27) hx hb d13 (by omega) (fun _ => hg) (fun h => ?_)
  have ho := hov (jcd0 hcd h)
  refine lv_aload_n hx hb d16 rfl h3 ?_
  refine lv_iconst (v := nI 0) hx hb d17 rfl ?_
  refine va_lald (n := 1) (f := ov) hx hb hK hP 0 1 rfl rfl (vp_in_nI (by omega) (by omega)) d18 ?_
  refine j_l (y := bv) ho ?_
  refine lv_lload hx hb d19 h6 ?_
  refine W.lcmp hx hb d21 ?_
  exact lv_if_eq (tgt := pc + 27) hx hb d22 (by omega) (fun _ => hg) (fun h => absurd (jcmp0 _) h)
end JLT
