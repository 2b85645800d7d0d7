/-! the law: an annuity is added -/
theorem qInv_N {n mo : Nat} {an an5 : Nat → Nat → Nat} {kp kp2 : Nat → Int64} {K : Nat → Nat} {f1 f2 f3 : Nat → Int32} {sa ca pp : Nat} (h : qInv n mo an kp K f1 f2 f3) (hn : n < 6) (hv : jV (an5 n)) (hp : 1 ≤ an5 n 1) (ho : ∀ k, k < n → an5 k = an k) (hkn : kp2 n = lN 0) (hko : ∀ k, k < n → kp2 k = kp k) (e1 : an5 n 0 = sa) (e2 : an5 n 5 = ca) (e3 : an5 n 3 = pp) : qInv (n + 1) mo an5 kp2 (jSet K n 0) (upd f1 n (nI sa)) (upd f2 n (nI ca)) (upd f3 n (nI pp)) := by
  refine ⟨hn, h.2.1, fun h0 => absurd h0 (Nat.succ_ne_zero n), fun k hk => ?_⟩
  by_cases e : k = n
  · subst e
    rw [jSet_s, pk_us, pk_us, pk_us, e1, e2, e3]
    exact ⟨hv, hp, hkn, Nat.zero_le _, fun _ => rfl, rfl, rfl, rfl⟩
  · obtain ⟨g1, g2, g3, g4, g5, g6, g7, g8⟩ := h.2.2.2 k (by omega)
    rw [jSet_n _ _ e, pk_un e, pk_un e, pk_un e, ho k (by omega), hko k (by omega)]
    exact ⟨g1, g2, g3, g4, g5, g6, g7, g8⟩
section QLa
variable {p : Program} {l : Launch} {e : Env} {s : State} {m : MethodId} {below : List Frame} {meth : Method} {c : Code} {dC : Nat → ClassId} {dI : Nat → Nat → Nat} {cI cJ cO : ClassId} {b L : Nat} {xs : Nat → Int32} {ai ax : Nat → Nat} {Q : State → Prop} {i cells slots n mo : Nat} {iv : Nat → Int32} {aa an : Nat → Nat → Nat} {kp : Nat → Int64} {py : Nat → Nat → Int64} {K : Nat → Nat} {f0 f1 f2 f3 : Nat → Int32} {a : Nat} {H : Heap} {locs : List Loc} {ls : Array Slot}
set_option maxHeartbeats 4000000 in
set_option maxRecDepth 100000 in
/-- an annuity is added -/
theorem lo_add {v : Nat} (hA9 : qAt p l s m c dC dI cI cJ cO b L xs) (hP : va_P (dC, dI) vwCl (qW cI cJ cO ai iv f1 f2 f3 ax n mo iv aa an kp py) H) (hD : va_D (fun q => s.heap.size ≤ q) (qW cI cJ cO ai iv f1 f2 f3 ax n mo iv aa an kp py)) (hS : va_S (fun q => s.heap.size ≤ q) s.heap H locs) (hl : lv_has ls 21 [(0, .ref b), (1, .ref (ax 0)), (2, .ref (ai 0)), (3, .ref (ai 1)), (4, .ref (ai 2)), (5, .ref (ai 3)), (6, .int (nI n)), (7, .int (nI 1)), (8, .int (nI i)), (11, .int (nI a)), (12, .int (nI v)), (13, .int (nI mo))]) (hv9 : v < 2 ^ 31) (hI : qInv n mo an kp K f1 f2 f3) (hn : n < 6) (hmo : mo < 240) (ha : a ≤ n) (hrc : cells + 5 ≤ 863873) (hrs : slots + 295 ≤ 6509848) (go : qGo p l e s m below meth c dC dI cI cJ cO b ai ax Q 737 i (cells + 5) (slots + 295)) : W p l e room_1 s m #[Value.ref b] below meth c H locs cells slots Q (F0 m 170 ls []) := by
  obtain ⟨hx, hb, hml, hown, hts, hX, hbl, hst, hZ, hK⟩ := id hA9
  have hbA : ¬ s.heap.size ≤ b := Nat.not_le.mpr hbl
  obtain ⟨hn6, hm, hn0, hall⟩ := id hI
  refine lv_aload_n hx hb dL_law_170 rfl (lv_at hl 3 rfl) ?_
  refine lv_iload hx hb dL_law_171 (lv_at hl 6 rfl) ?_
  refine lv_iload hx hb dL_law_173 (lv_at hl 11 rfl) ?_
  refine lv_iload hx hb dL_law_175 (lv_at hl 10 rfl) ?_
  refine lv_sipush (v := nI 240) hx hb dL_law_177 (by decide) ?_
  refine lv_iload hx hb dL_law_180 (lv_at hl 11 rfl) ?_
  refine lv_isub hx hb dL_law_182 ?_
  refine j_i (y := nI (240 - mo)) (pk_sub (by omega)) ?_
  refine lv_irem hx hb dL_law_183 (fun h0 => by have h1 := (nI_eq (a := 240 - mo) (b := 0) (by omega) (by decide)).mp h0; omega) ?_
  refine j_i (y := nI (v % (240 - mo))) (pk_rem (by omega) (by omega) (by omega)) ?_
  have hr9 : v % (240 - mo) < 240 - mo := Nat.mod_lt _ (by omega)
  generalize v % (240 - mo) = r9 at hr9 ⊢
  refine lv_iadd hx hb dL_law_184 ?_
  refine j_i (y := nI (mo + r9)) (nI_add _ _) ?_
  have hs1 : mo ≤ mo + r9 := by omega
  have hs2 : mo + r9 < 240 := by omega
  generalize mo + r9 = sa at hs1 hs2 ⊢
  refine va_iast hx hb hK hP hD hS 1 0 (f := f1) (x := nI sa) rfl rfl (vp_in_nI (n := n) (N := 20) (by omega) (by omega)) dL_law_185 (fun H locs hP hD hS => ?_)
  rw [nI_clamp (show n < 2 ^ 31 by omega)] at hP hD
  have hP : va_P (dC, dI) vwCl (qW cI cJ cO ai iv (upd f1 n (nI sa)) f2 f3 ax n mo iv aa an kp py) H := hP
  have hD : va_D (fun q => s.heap.size ≤ q) (qW cI cJ cO ai iv (upd f1 n (nI sa)) f2 f3 ax n mo iv aa an kp py) := hD
  refine lv_aload hx hb dL_law_186 (lv_at hl 4 rfl) ?_
  refine lv_iload hx hb dL_law_188 (lv_at hl 6 rfl) ?_
  refine lv_iload hx hb dL_law_190 (lv_at hl 10 rfl) ?_
  refine lv_sipush (v := nI 240) hx hb dL_law_192 (by decide) ?_
  refine lv_idiv hx hb dL_law_195 (by decide) ?_
  refine j_i (y := nI (v / 240)) (pk_div (by omega) (by omega) (by omega)) ?_
  refine lv_sipush (v := nI 201) hx hb dL_law_196 (by decide) ?_
  refine lv_irem hx hb dL_law_199 (by decide) ?_
  refine j_i (y := nI ((v / 240) % 201)) (pk_rem (by omega) (by omega) (by omega)) ?_
  have hca : v / 240 % 201 ≤ 200 := by omega
  generalize v / 240 % 201 = ca at hca ⊢
  refine va_iast hx hb hK hP hD hS 2 0 (f := f2) (x := nI ca) rfl rfl (vp_in_nI (n := n) (N := 20) (by omega) (by omega)) dL_law_200 (fun H locs hP hD hS => ?_)
  rw [nI_clamp (show n < 2 ^ 31 by omega)] at hP hD
  have hP : va_P (dC, dI) vwCl (qW cI cJ cO ai iv (upd f1 n (nI sa)) (upd f2 n (nI ca)) f3 ax n mo iv aa an kp py) H := hP
  have hD : va_D (fun q => s.heap.size ≤ q) (qW cI cJ cO ai iv (upd f1 n (nI sa)) (upd f2 n (nI ca)) f3 ax n mo iv aa an kp py) := hD
  refine lv_aload hx hb dL_law_201 (lv_at hl 5 rfl) ?_
  refine lv_iload hx hb dL_law_203 (lv_at hl 6 rfl) ?_
  refine lv_iload hx hb dL_law_205 (lv_at hl 10 rfl) ?_
  refine lv_bipush (v := nI 17) hx hb dL_law_207 (by decide) ?_
  refine lv_idiv hx hb dL_law_209 (by decide) ?_
  refine j_i (y := nI (v / 17)) (pk_div (by omega) (by omega) (by omega)) ?_
  refine lv_bipush (v := nI 101) hx hb dL_law_210 (by decide) ?_
  refine lv_irem hx hb dL_law_212 (by decide) ?_
  refine j_i (y := nI ((v / 17) % 101)) (pk_rem (by omega) (by omega) (by omega)) ?_
  have hpp : v / 17 % 101 ≤ 100 := by omega
  generalize v / 17 % 101 = pp at hpp ⊢
  refine va_iast hx hb hK hP hD hS 3 0 (f := f3) (x := nI pp) rfl rfl (vp_in_nI (n := n) (N := 20) (by omega) (by omega)) dL_law_213 (fun H locs hP hD hS => ?_)
  rw [nI_clamp (show n < 2 ^ 31 by omega)] at hP hD
  have hP : va_P (dC, dI) vwCl (qW cI cJ cO ai iv (upd f1 n (nI sa)) (upd f2 n (nI ca)) (upd f3 n (nI pp)) ax n mo iv aa an kp py) H := hP
  have hD : va_D (fun q => s.heap.size ≤ q) (qW cI cJ cO ai iv (upd f1 n (nI sa)) (upd f2 n (nI ca)) (upd f3 n (nI pp)) ax n mo iv aa an kp py) := hD
  refine lv_aload_n hx hb dL_law_214 rfl (lv_at hl 1 rfl) ?_
  refine lv_aload_n hx hb dL_law_215 rfl (lv_at hl 3 rfl) ?_
  refine lv_iload hx hb dL_law_216 (lv_at hl 6 rfl) ?_
  refine va_iald hx hb hK hP 1 0 (f := upd f1 n (nI sa)) rfl rfl (vp_in_nI (n := n) (N := 20) (by omega) (by omega)) dL_law_218 ?_
  refine j_i (y := nI sa) (by rw [nI_clamp (by omega)]; exact pk_us) ?_
  refine lv_iconst (v := nI 1) hx hb dL_law_219 (by decide) ?_
  refine lv_iload hx hb dL_law_220 (lv_at hl 10 rfl) ?_
  refine lv_ldc hx hb hown (hts (.constant RL 113 (100000)) (List.mem_of_getElem? (i := 5) rfl)) dL_law_222 ?_
  refine j_i (y := nI 100000) (by decide +kernel) ?_
  refine lv_irem hx hb dL_law_224 (by decide) ?_
  refine j_i (y := nI (v % 100000)) (pk_rem (by omega) (by omega) (by omega)) ?_
  refine lv_iadd hx hb dL_law_225 ?_
  refine j_i (y := nI (1 + v % 100000)) (nI_add _ _) ?_
  have hma1 : 1 ≤ 1 + v % 100000 := by omega
  have hma2 : 1 + v % 100000 ≤ 100000 := by omega
  generalize 1 + v % 100000 = ma at hma1 hma2 ⊢
  refine lv_iload hx hb dL_law_226 (lv_at hl 10 rfl) ?_
  refine lv_iconst (v := nI 5) hx hb dL_law_228 (by decide) ?_
  refine lv_idiv hx hb dL_law_229 (by decide) ?_
  refine j_i (y := nI (v / 5)) (pk_div (by omega) (by omega) (by omega)) ?_
  refine lv_bipush (v := nI 40) hx hb dL_law_230 (by decide) ?_
  refine lv_irem hx hb dL_law_232 (by decide) ?_
  refine j_i (y := nI ((v / 5) % 40)) (pk_rem (by omega) (by omega) (by omega)) ?_
  have hga : v / 5 % 40 ≤ 240 := by omega
  generalize v / 5 % 40 = ga at hga ⊢
  have hS9 := hS
  refine j_lN (As := [.ref (ax 0), .int (nI sa), .int (nI ma), .int (nI ga)]) (rest := []) ⟨hx, hb, hml, hown, hts⟩ (c_L_add l dC dI cI cJ cI cO ax (jao aa n) n mo iv H.size sa ma ga (by omega) hs1 hs2 hma1 hma2 hga) (vx_cwSW 4 hts gL_law_L_add rfl rfl rfl (by decide +kernel) ⟨Nat.le_of_ble_eq_true rfl, Nat.le_of_ble_eq_true rfl⟩) hK (j_subP hP q_sX) (j_subD hD q_sX) rfl hl rfl (Nat.le_of_ble_eq_true rfl) dL_law_233 (show cells + 5 ≤ 863873 ∧ slots + 295 ≤ 6509848 from ⟨by omega, by omega⟩) hS (fun q h => h) (fun u H1 locs hP1 hD1 hk1 hS => ?_)
  obtain ⟨hP, hD⟩ := q_putN hP hD (fun q h => Nat.le_trans hS9.1 h) hk1 hP1 hD1
  clear hP1 hD1 hk1 hS9
  generalize H1 = H at hP hS ⊢
  generalize jSet aa n u = aa2 at hP hD
  generalize jSet py n (fun _ => 0) = py2 at hP hD
  obtain ⟨kp2, hkp2⟩ : ∃ z, z = jSet kp n 0 := ⟨_, rfl⟩
  rw [← hkp2] at hP hD
  obtain ⟨an2, han2⟩ : ∃ z, z = jSet an n (jN sa ma ga) := ⟨_, rfl⟩
  rw [← han2] at hP hD
  have he2 : an2 n = jN sa ma ga := by rw [han2]; exact jSet_s _ _ _
  have hv2 : jV (an2 n) := by rw [he2]; exact jVN hs2 hma2 hga
  have hnn : n < n + 1 := Nat.lt_succ_self n
  have hP : va_P (dC, dI) vwCl (qW cI cJ cO ai iv (upd f1 n (nI sa)) (upd f2 n (nI ca)) (upd f3 n (nI pp)) ax (n + 1) mo iv aa2 an2 kp2 py2) H := hP
  have hD : va_D (fun q => s.heap.size ≤ q) (qW cI cJ cO ai iv (upd f1 n (nI sa)) (upd f2 n (nI ca)) (upd f3 n (nI pp)) ax (n + 1) mo iv aa2 an2 kp2 py2) := hD
  refine lv_iload hx hb dL_law_236 (lv_at hl 6 rfl) ?_
  refine lv_icmp_ne (tgt := 306) hx hb dL_law_238 (by decide) (fun c_238 => ?_) (fun c_238 => ?_)
  · have c_238 : ¬ (n = n) := fun h => c_238 ((nI_eq (a := n) (b := n) (by omega) (by omega)).mpr h)
    exact absurd rfl c_238
  · have c_238 : n = n := (nI_eq (a := n) (b := n) (by omega) (by omega)).mp c_238
    refine lv_aload_n hx hb dL_law_241 rfl (lv_at hl 1 rfl) ?_
    refine lv_iload hx hb dL_law_242 (lv_at hl 6 rfl) ?_
    refine lv_aload hx hb dL_law_244 (lv_at hl 4 rfl) ?_
    refine lv_iload hx hb dL_law_246 (lv_at hl 6 rfl) ?_
    refine va_iald hx hb hK hP 2 0 (f := upd f2 n (nI ca)) rfl rfl (vp_in_nI (n := n) (N := 20) (by omega) (by omega)) dL_law_248 ?_
    refine j_i (y := nI ca) (by rw [nI_clamp (by omega)]; exact pk_us) ?_
    refine j_lI (As := [.ref (ax 0), .int (nI n), .int (nI ca)]) (rest := []) ⟨hx, hb, hml, hown, hts⟩ (c_L_cap l dC dI cI cJ cI cO ax (jao aa2 (n + 1)) (n + 1) mo iv (aa2 n) (an2 n) (kp2 n) (py2 n) n ca hv2 hm (by omega) (if_pos hnn) hca (by rw [he2]; show ¬ sa < mo; omega)) (vx_cwSW 3 hts gL_law_L_cap rfl rfl rfl (by decide +kernel) ⟨Nat.le_of_ble_eq_true rfl, Nat.le_of_ble_eq_true rfl⟩) hK (j_subP hP (q_sF hnn)) (j_subD hD (q_sF hnn)) rfl hl rfl (Nat.le_of_ble_eq_true rfl) dL_law_249 (show cells + 5 ≤ 863873 ∧ slots + 295 ≤ 6509848 from ⟨by omega, by omega⟩) hS (j_subA hD (q_sF hnn)) (fun H1 locs hP1 hk1 hS => ?_)
    obtain ⟨hP, hD⟩ := q_putA hnn hP hD hk1 hP1
    clear hP1 hk1
    generalize H1 = H at hP hS ⊢
    have hP : va_P (dC, dI) vwCl (qW cI cJ cO ai iv (upd f1 n (nI sa)) (upd f2 n (nI ca)) (upd f3 n (nI pp)) ax (n + 1) mo iv aa2 (jSet an2 n (upN (an2 n) 5 ca)) kp2 py2) H := hP
    have hD : va_D (fun q => s.heap.size ≤ q) (qW cI cJ cO ai iv (upd f1 n (nI sa)) (upd f2 n (nI ca)) (upd f3 n (nI pp)) ax (n + 1) mo iv aa2 (jSet an2 n (upN (an2 n) 5 ca)) kp2 py2) := hD
    obtain ⟨an3, han3⟩ : ∃ z, z = jSet an2 n (upN (an2 n) 5 ca) := ⟨_, rfl⟩
    rw [← han3] at hP hD
    have he3 : an3 n = upN (jN sa ma ga) 5 ca := by rw [han3, jSet_s, he2]
    have hv3 : jV (an3 n) := by rw [he3, ← he2]; exact jVu hv2 (i := 5) hca
    have hP : va_P (dC, dI) vwCl (qW cI cJ cO ai iv (upd f1 n (nI sa)) (upd f2 n (nI ca)) (upd f3 n (nI pp)) ax (n + 1) mo iv aa2 an3 kp2 py2) H := hP
    have hD : va_D (fun q => s.heap.size ≤ q) (qW cI cJ cO ai iv (upd f1 n (nI sa)) (upd f2 n (nI ca)) (upd f3 n (nI pp)) ax (n + 1) mo iv aa2 an3 kp2 py2) := hD
    refine lv_if_ne (tgt := 306) hx hb dL_law_252 (by decide) (fun c_252 => ?_) (fun c_252 => ?_)
    · have c_252 : ¬ (0 = 0) := fun h => c_252 ((nI_eq (a := 0) (b := 0) (by omega) (by omega)).mpr h)
      omega
    · have c_252 : 0 = 0 := (nI_eq (a := 0) (b := 0) (by omega) (by omega)).mp c_252
      refine lv_aload_n hx hb dL_law_255 rfl (lv_at hl 1 rfl) ?_
      refine lv_iload hx hb dL_law_256 (lv_at hl 6 rfl) ?_
      refine lv_aload hx hb dL_law_258 (lv_at hl 5 rfl) ?_
      refine lv_iload hx hb dL_law_260 (lv_at hl 6 rfl) ?_
      refine va_iald hx hb hK hP 3 0 (f := upd f3 n (nI pp)) rfl rfl (vp_in_nI (n := n) (N := 20) (by omega) (by omega)) dL_law_262 ?_
      refine j_i (y := nI pp) (by rw [nI_clamp (by omega)]; exact pk_us) ?_
      refine lv_iload hx hb dL_law_263 (lv_at hl 10 rfl) ?_
      refine lv_iconst (v := nI 2) hx hb dL_law_265 (by decide) ?_
      refine lv_irem hx hb dL_law_266 (by decide) ?_
      refine j_i (y := nI (v % 2)) (pk_rem (by omega) (by omega) (by omega)) ?_
      refine j_join (fun w9 : Nat => w9 ≤ 1) (fun w9 => F0 m 275 ls [.int (nI w9), .int (nI pp), .int (nI n), .ref (ax 0)]) (fun w9 hw9 => ?_) (fun J275 => ?_)
      · refine j_lI (As := [.ref (ax 0), .int (nI n), .int (nI pp), .int (nI w9)]) (rest := []) ⟨hx, hb, hml, hown, hts⟩ (c_L_survivor l dC dI cI cJ cI cO ax (jao aa2 (n + 1)) (n + 1) mo iv (aa2 n) (an3 n) (kp2 n) (py2 n) n pp w9 hv3 hm (by omega) (if_pos hnn) hpp hw9 (by rw [he3]; show ¬ sa < mo; omega)) (vx_cwSW 4 hts gL_law_L_survivor rfl rfl rfl (by decide +kernel) ⟨Nat.le_of_ble_eq_true rfl, Nat.le_of_ble_eq_true rfl⟩) hK (j_subP hP (q_sF hnn)) (j_subD hD (q_sF hnn)) rfl hl rfl (Nat.le_of_ble_eq_true rfl) dL_law_275 (show cells + 5 ≤ 863873 ∧ slots + 295 ≤ 6509848 from ⟨by omega, by omega⟩) hS (j_subA hD (q_sF hnn)) (fun H1 locs hP1 hk1 hS => ?_)
        obtain ⟨hP, hD⟩ := q_putA hnn hP hD hk1 hP1
        clear hP1 hk1
        generalize H1 = H at hP hS ⊢
        have hP : va_P (dC, dI) vwCl (qW cI cJ cO ai iv (upd f1 n (nI sa)) (upd f2 n (nI ca)) (upd f3 n (nI pp)) ax (n + 1) mo iv aa2 (jSet an3 n (upN (upN (an3 n) 3 pp) 4 w9)) kp2 py2) H := hP
        have hD : va_D (fun q => s.heap.size ≤ q) (qW cI cJ cO ai iv (upd f1 n (nI sa)) (upd f2 n (nI ca)) (upd f3 n (nI pp)) ax (n + 1) mo iv aa2 (jSet an3 n (upN (upN (an3 n) 3 pp) 4 w9)) kp2 py2) := hD
        obtain ⟨an4, han4⟩ : ∃ z, z = jSet an3 n (upN (upN (an3 n) 3 pp) 4 w9) := ⟨_, rfl⟩
        rw [← han4] at hP hD
        have he4 : an4 n = upN (upN (upN (jN sa ma ga) 5 ca) 3 pp) 4 w9 := by rw [han4, jSet_s, he3]
        have hv4 : jV (an4 n) := by rw [he4, ← he3]; exact jVu (jVu hv3 (i := 3) hpp) (i := 4) hw9
        have hP : va_P (dC, dI) vwCl (qW cI cJ cO ai iv (upd f1 n (nI sa)) (upd f2 n (nI ca)) (upd f3 n (nI pp)) ax (n + 1) mo iv aa2 an4 kp2 py2) H := hP
        have hD : va_D (fun q => s.heap.size ≤ q) (qW cI cJ cO ai iv (upd f1 n (nI sa)) (upd f2 n (nI ca)) (upd f3 n (nI pp)) ax (n + 1) mo iv aa2 an4 kp2 py2) := hD
        refine lv_if_ne (tgt := 306) hx hb dL_law_278 (by decide) (fun c_278 => ?_) (fun c_278 => ?_)
        · have c_278 : ¬ (0 = 0) := fun h => c_278 ((nI_eq (a := 0) (b := 0) (by omega) (by omega)).mpr h)
          omega
        · have c_278 : 0 = 0 := (nI_eq (a := 0) (b := 0) (by omega) (by omega)).mp c_278
          refine lv_aload_n hx hb dL_law_281 rfl (lv_at hl 1 rfl) ?_
          refine lv_iload hx hb dL_law_282 (lv_at hl 6 rfl) ?_
          refine lv_iload hx hb dL_law_284 (lv_at hl 10 rfl) ?_
          refine lv_ldc hx hb hown (hts (.constant RL 124 (9000000)) (List.mem_of_getElem? (i := 6) rfl)) dL_law_286 ?_
          refine j_i (y := nI 9000000) (by decide +kernel) ?_
          refine lv_irem hx hb dL_law_288 (by decide) ?_
          refine j_i (y := nI (v % 9000000)) (pk_rem (by omega) (by omega) (by omega)) ?_
          have hpr : v % 9000000 ≤ 10000000 := by omega
          generalize v % 9000000 = pr at hpr ⊢
          refine lv_iload hx hb dL_law_289 (lv_at hl 10 rfl) ?_
          refine lv_iconst (v := nI 3) hx hb dL_law_291 (by decide) ?_
          refine lv_idiv hx hb dL_law_292 (by decide) ?_
          refine j_i (y := nI (v / 3)) (pk_div (by omega) (by omega) (by omega)) ?_
          refine lv_bipush (v := nI 101) hx hb dL_law_293 (by decide) ?_
          refine lv_irem hx hb dL_law_295 (by decide) ?_
          refine j_i (y := nI ((v / 3) % 101)) (pk_rem (by omega) (by omega) (by omega)) ?_
          have hpq : v / 3 % 101 ≤ 100 := by omega
          generalize v / 3 % 101 = pq at hpq ⊢
          refine j_lI (As := [.ref (ax 0), .int (nI n), .int (nI pr), .int (nI pq)]) (rest := []) ⟨hx, hb, hml, hown, hts⟩ (c_L_protect l dC dI cI cJ cI cO ax (jao aa2 (n + 1)) (n + 1) mo iv (aa2 n) (an4 n) (kp2 n) (py2 n) n pr pq hv4 hm (by omega) (if_pos hnn) hpr hpq (by rw [he4]; show ¬ sa < mo; omega)) (vx_cwSW 4 hts gL_law_L_protect rfl rfl rfl (by decide +kernel) ⟨Nat.le_of_ble_eq_true rfl, Nat.le_of_ble_eq_true rfl⟩) hK (j_subP hP (q_sF hnn)) (j_subD hD (q_sF hnn)) rfl hl rfl (Nat.le_of_ble_eq_true rfl) dL_law_296 (show cells + 5 ≤ 863873 ∧ slots + 295 ≤ 6509848 from ⟨by omega, by omega⟩) hS (j_subA hD (q_sF hnn)) (fun H1 locs hP1 hk1 hS => ?_)
          obtain ⟨hP, hD⟩ := q_putA hnn hP hD hk1 hP1
          clear hP1 hk1
          generalize H1 = H at hP hS ⊢
          have hP : va_P (dC, dI) vwCl (qW cI cJ cO ai iv (upd f1 n (nI sa)) (upd f2 n (nI ca)) (upd f3 n (nI pp)) ax (n + 1) mo iv aa2 (jSet an4 n (upN (upN (an4 n) 6 pr) 7 pq)) kp2 py2) H := hP
          have hD : va_D (fun q => s.heap.size ≤ q) (qW cI cJ cO ai iv (upd f1 n (nI sa)) (upd f2 n (nI ca)) (upd f3 n (nI pp)) ax (n + 1) mo iv aa2 (jSet an4 n (upN (upN (an4 n) 6 pr) 7 pq)) kp2 py2) := hD
          obtain ⟨an5, han5⟩ : ∃ z, z = jSet an4 n (upN (upN (an4 n) 6 pr) 7 pq) := ⟨_, rfl⟩
          rw [← han5] at hP hD
          have he5 : an5 n = upN (upN (upN (upN (upN (jN sa ma ga) 5 ca) 3 pp) 4 w9) 6 pr) 7 pq := by rw [han5, jSet_s, he4]
          have hv5 : jV (an5 n) := by rw [he5, ← he4]; exact jVu (jVu hv4 (i := 6) hpr) (i := 7) hpq
          have hP : va_P (dC, dI) vwCl (qW cI cJ cO ai iv (upd f1 n (nI sa)) (upd f2 n (nI ca)) (upd f3 n (nI pp)) ax (n + 1) mo iv aa2 an5 kp2 py2) H := hP
          have hD : va_D (fun q => s.heap.size ≤ q) (qW cI cJ cO ai iv (upd f1 n (nI sa)) (upd f2 n (nI ca)) (upd f3 n (nI pp)) ax (n + 1) mo iv aa2 an5 kp2 py2) := hD
          refine lv_if_ne (tgt := 306) hx hb dL_law_299 (by decide) (fun c_299 => ?_) (fun c_299 => ?_)
          · have c_299 : ¬ (0 = 0) := fun h => c_299 ((nI_eq (a := 0) (b := 0) (by omega) (by omega)).mpr h)
            omega
          · have c_299 : 0 = 0 := (nI_eq (a := 0) (b := 0) (by omega) (by omega)).mp c_299
            refine lv_iconst (v := nI 1) hx hb dL_law_302 (by decide) ?_
            refine lv_goto (tgt := 307) hx hb dL_law_303 (by decide) ?_
            refine lv_istore (lv' := [(7, .int (nI 1)), (0, .ref b), (1, .ref (ax 0)), (2, .ref (ai 0)), (3, .ref (ai 1)), (4, .ref (ai 2)), (5, .ref (ai 3)), (6, .int (nI n)), (8, .int (nI i)), (11, .int (nI a)), (12, .int (nI v)), (13, .int (nI mo))]) hx hb dL_law_307 hl (by decide) rfl (fun ls hl => ?_)
            refine lv_iinc (v := nI (n + 1)) (lv' := [(6, .int (nI (n + 1))), (7, .int (nI 1)), (0, .ref b), (1, .ref (ax 0)), (2, .ref (ai 0)), (3, .ref (ai 1)), (4, .ref (ai 2)), (5, .ref (ai 3)), (8, .int (nI i)), (11, .int (nI a)), (12, .int (nI v)), (13, .int (nI mo))]) hx hb dL_law_309 hl (k := 7) rfl (by exact nI_add _ 1) (by decide) rfl (fun ls hl => ?_)
            refine lv_goto (tgt := 737) hx hb dL_law_312 (by decide) ?_
            have hI2 : qInv (n + 1) mo an5 kp2 (jSet K n 0) (upd f1 n (nI sa)) (upd f2 n (nI ca)) (upd f3 n (nI pp)) := qInv_N hI hn hv5 (by rw [he5]; exact hma1) (fun k hk => by rw [han5, jSet_n _ _ (show k ≠ n by omega), han4, jSet_n _ _ (show k ≠ n by omega), han3, jSet_n _ _ (show k ≠ n by omega), han2, jSet_n _ _ (show k ≠ n by omega)]) (by rw [hkp2]; exact jSet_s _ _ _) (fun k hk => by rw [hkp2]; exact jSet_n _ _ (show k ≠ n by omega)) (by rw [he5]; rfl) (by rw [he5]; rfl) (by rw [he5]; rfl)
            exact W.widen (by omega) (by omega) (go (n + 1) mo iv aa2 an5 kp2 py2 (jSet K n 0) (upd f1 n (nI sa)) (upd f2 n (nI ca)) (upd f3 n (nI pp)) a H locs _ hI2 (by omega) hP hD hS (lv_sub hl [2, 3, 4, 5, 6, 7, 0, 1, 8, 9] rfl))
      refine lv_if_ne (tgt := 274) hx hb dL_law_267 (by decide) (fun c_267 => ?_) (fun c_267 => ?_)
      · have c_267 : ¬ (v % 2 = 0) := fun h => c_267 ((nI_eq (a := v % 2) (b := 0) (by omega) (by omega)).mpr h)
        refine lv_iconst (v := nI 0) hx hb dL_law_274 (by decide) ?_
        exact J275 0 (by decide)
      · have c_267 : v % 2 = 0 := (nI_eq (a := v % 2) (b := 0) (by omega) (by omega)).mp c_267
        refine lv_iconst (v := nI 1) hx hb dL_law_270 (by decide) ?_
        refine lv_goto (tgt := 275) hx hb dL_law_271 (by decide) ?_
        exact J275 1 (by decide)
end QLa
