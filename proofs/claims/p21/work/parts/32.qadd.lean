/-! the law: an annuity more -/
theorem j_mem {D : va_G} {cl : List vw_C} {ws : va_W} {H : Heap} (hP : va_P D cl ws H) : ∀ q ∈ ws, q.1 < H.size := fun q hq => by
  obtain ⟨j, hj⟩ := List.getElem?_of_mem hq
  exact (hP j q hj).lt
/-- behind a call on X that makes N -/
theorem jl_new {A0 : Nat → Prop} {D : va_G} {cl : List vw_C} {X X' R M N w1 : va_W} {H H1 : Heap} (hP : va_P D cl ((X ++ R) ++ M) H) (hD : va_D A0 ((X ++ R) ++ M)) (haX : X.map (·.1) = X'.map (·.1)) (hA : ∀ q : Nat, H.size ≤ q → A0 q) (hkk : ∀ q : Nat, q < H.size → ¬ va_A X H.size q → H1[q]? = H[q]?) (hw : w1 = X' ++ N) (hP1 : va_P D cl w1 H1) (hD1 : va_D (va_A X H.size) w1) : va_P D cl ((X' ++ (R ++ N)) ++ M) H1 ∧ va_D A0 ((X' ++ (R ++ N)) ++ M) := by
  subst hw
  have hXR : va_D A0 (X ++ R) := j_subD hD (List.sublist_append_left _ _)
  have hlt := j_mem hP
  have keep : ∀ q ∈ R ++ M, ¬ va_A X H.size q.1 := by
    intro q hq
    have h0 : q ∈ (X ++ R) ++ M := by
      rcases List.mem_append.mp hq with h | h
      · exact List.mem_append_left _ (List.mem_append_right _ h)
      · exact List.mem_append_right _ h
    rintro (⟨k, e, hk⟩ | h)
    · have hx : (q.1, e) ∈ X := List.mem_of_getElem? hk
      rcases List.mem_append.mp hq with h | h
      · exact j_apart hXR _ hx q h rfl
      · exact j_apart hD _ (List.mem_append_left _ hx) q h rfl
    · exact absurd (hlt q h0) (Nat.not_lt.mpr h)
  have hN : ∀ q ∈ N, H.size ≤ q.1 := by
    intro q hq
    obtain ⟨j, hj⟩ := List.getElem?_of_mem (List.mem_append_right X' hq)
    rcases hD1.2 j q hj with ⟨k, e, hk⟩ | h
    · have h1 : q.1 ∈ X.map (·.1) := List.mem_map.mpr ⟨_, List.mem_of_getElem? hk, rfl⟩
      rw [haX] at h1
      obtain ⟨z, hz, hz1⟩ := List.mem_map.mp h1
      exact absurd hz1 (j_apart hD1 z hz q hq)
    · exact h
  refine ⟨fun k q hk => ?_, j_ofnd ?_ ?_⟩
  · have hq := List.mem_of_getElem? hk
    have h0 : q ∈ X' ++ N ∨ q ∈ R ++ M := by
      rcases List.mem_append.mp hq with h | h
      · rcases List.mem_append.mp h with h | h
        · exact Or.inl (List.mem_append_left _ h)
        · rcases List.mem_append.mp h with h | h
          · exact Or.inr (List.mem_append_left _ h)
          · exact Or.inl (List.mem_append_right _ h)
      · exact Or.inr (List.mem_append_right _ h)
    rcases h0 with h | h
    · obtain ⟨j, hj⟩ := List.getElem?_of_mem h
      exact hP1 j q hj
    · have h9 : q ∈ (X ++ R) ++ M := by
        rcases List.mem_append.mp h with h | h
        · exact List.mem_append_left _ (List.mem_append_right _ h)
        · exact List.mem_append_right _ h
      obtain ⟨j, hj⟩ := List.getElem?_of_mem h9
      exact (hP j q hj).kept (hkk q.1 (hP j q hj).lt (keep q h))
  · have e1 : (X' ++ (R ++ N)) ++ M = X' ++ (R ++ (N ++ M)) := by simp only [List.append_assoc]
    have e2 : ((X' ++ R) ++ M) ++ N = X' ++ (R ++ (M ++ N)) := by simp only [List.append_assoc]
    have hp : List.Perm ((X' ++ (R ++ N)) ++ M) (((X' ++ R) ++ M) ++ N) := by
      rw [e1, e2]
      exact (List.perm_append_comm.append_left R).append_left X'
    rw [(hp.map (·.1)).nodup_iff, List.map_append, List.nodup_append]
    have h1 := j_nd hD
    refine ⟨?_, ?_, ?_⟩
    · rw [List.map_append, List.map_append] at h1 ⊢
      rw [← haX]
      exact h1
    · have h2 := j_nd hD1
      rw [List.map_append, List.nodup_append] at h2
      exact h2.2.1
    · intro x hx z hz
      obtain ⟨z0, hz0, rfl⟩ := List.mem_map.mp hz
      have h3 := hN z0 hz0
      have h4 : x ∈ (((X ++ R) ++ M).map (·.1)) := by
        rw [List.map_append, List.map_append] at hx ⊢
        rw [haX]
        exact hx
      obtain ⟨x0, hx0, rfl⟩ := List.mem_map.mp h4
      have h5 := hlt x0 hx0
      exact fun h6 => absurd h3 (by rw [← h6]; exact Nat.not_le.mpr h5)
  · intro q hq
    rcases List.mem_append.mp hq with h | h
    · rcases List.mem_append.mp h with h | h
      · have h1 : q.1 ∈ X'.map (·.1) := List.mem_map.mpr ⟨q, h, rfl⟩
        rw [← haX] at h1
        obtain ⟨z, hz, hz1⟩ := List.mem_map.mp h1
        obtain ⟨j, hj⟩ := List.getElem?_of_mem (List.mem_append_left M (List.mem_append_left R hz))
        rw [← hz1]
        exact hD.2 j z hj
      · rcases List.mem_append.mp h with h | h
        · obtain ⟨j, hj⟩ := List.getElem?_of_mem (List.mem_append_left M (List.mem_append_right X h))
          exact hD.2 j q hj
        · exact hA q.1 (hN q h)
    · obtain ⟨j, hj⟩ := List.getElem?_of_mem (List.mem_append_right (X ++ R) h)
      exact hD.2 j q hj
section JLN
variable {p : Program} {l : Launch} {e : Env} {R : Room} {s : State} {m : MethodId} {args : Array Value} {below : List Frame} {meth : Method} {c : Code} {H : Heap} {locs : List Loc} {cells slots : Nat} {Q : State → Prop}
variable {pc : Nat} {ls : Array Slot} {rest st0 As : List Value} {lv : List (Nat × Value)}
variable {y : MethodName} {bytes cc : ByteArray} {maxL nL n index mc ms : Nat} {ret : Option FieldType} {hh : List (Nat × Nat × Nat × Nat)} {ws' : List Cond} {rm : Room} {Ts : List Cond} {own C : String} {tys : List (ClassId × FieldType)}
variable {A0 A1 : Nat → Prop} {H0 : Heap} {D : va_G} {wc : va_W} {w1 : (Nat → Nat) → va_W} {x9 : Int32}
/-- a call of one of the law's own that makes cells -/
theorem j_lN (Sx : CallFix p m c cc nL s args Ts own) (hM : Met l y ws' rm (va_Pc As (fun U => U.heap.size = H.size ∧ va_P D vwCl wc U.heap ∧ va_K D vwCl tys U ∧ va_D (fun _ => True) wc)) (va_Qi (fun r (_ : Nat → Nat) => r = x9) (fun u t => va_P D vwCl (w1 u) t.heap ∧ va_D (va_A wc H.size) (w1 u)) (va_A wc H.size)) mc ms (va_A wc H.size)) (cw : vx_CSW R s args own index y bytes maxL ret hh ws' rm mc ms n) (hK : va_K D vwCl tys s) (hP : va_P D vwCl wc H) (hD : va_D A0 wc) (hn : As.length = n) (hl : lv_has ls nL lv) (hst : st0 = As.reverse ++ rest) (hro : (rest.map fun v => v.category).sum ≤ 8) (hdg : decode cc pc = .ok (.invokestatic index, 3)) (hf : cells + mc ≤ R.cells ∧ slots + ms ≤ R.slots)
    (hS : va_S A0 H0 H locs) (hA : ∀ q, H0.size ≤ q → A0 q)
    (kk : ∀ (u : Nat → Nat) (H1 : Heap) (locs1 : List Loc), va_P D vwCl (w1 u) H1 → va_D (va_A wc H.size) (w1 u) → (∀ q : Nat, q < H.size → ¬ va_A wc H.size q → H1[q]? = H[q]?) → va_S A0 H0 H1 locs1 → W p l e R s m args below meth c H1 locs1 (cells + mc) (slots + ms) Q (F0 m (pc + 3) ls (.int x9 :: rest))) : W p l e R s m args below meth c H locs cells slots Q (F0 m pc ls st0) := by
  have hFc : ∀ q, va_A wc H.size q → A0 q := by
    rintro q (⟨k, e, hk⟩ | h)
    · exact hD.2 k _ hk
    · exact hA q (Nat.le_trans hS.1 h)
  exact va_calli (vx_runSW Sx hM cw ⟨fun a U g mk q => ⟨q.1, q.2.1, q.2.2.1, j_calls q.2.2.2.1, q.2.2.2.2⟩, fun U hU hW => ⟨rfl, by rw [hU], by rw [hU]; exact hP, va_K.moved hW.alike hK, hD.weaken (fun _ _ _ _ => trivial)⟩⟩ rfl hn hl.1 hst (lv_room hro) hdg hf) hS (fun q _ h => hFc q h) hFc (fun r u t H1 locs1 ht _ hw hB _ hk hS1 => by
    subst hw
    exact kk u H1 locs1 (by rw [← ht]; exact hB.1) hB.2 hk hS1)
end JLN
theorem jao_s {aa : Nat → Nat → Nat} {n : Nat} {u : Nat → Nat} : va_up (jao aa n) n (some (u 0)) = jao (jSet aa n u) (n + 1) := by
  funext j
  show (if j = n then some (u 0) else jao aa n j) = if j < n + 1 then some (jSet aa n u j 0) else none
  by_cases h : j = n
  · subst h
    rw [if_pos rfl, if_pos (by omega), jSet_s]
  · rw [if_neg h, jSet_n _ _ h]
    show (if j < n then some (aa j 0) else none) = _
    by_cases h1 : j < n
    · rw [if_pos h1, if_pos (by omega)]
    · rw [if_neg h1, if_neg (by omega)]
/-- a new annuity's block is the last of the new blocks -/
theorem q_Bl_new {cI cJ : ClassId} {aa an : Nat → Nat → Nat} {iv : Nat → Int32} {kp : Nat → Int64} {py : Nat → Nat → Int64} {n : Nat} {u an2 : Nat → Nat} {x : Int64} {z : Nat → Int64} : jBl (jbk cI cJ aa an iv kp py) n ++ jAW cI cJ u an2 iv x z = jBl (jbk cI cJ (jSet aa n u) (jSet an n an2) iv (jSet kp n x) (jSet py n z)) (n + 1) := by
  show _ = jBl (jbk cI cJ (jSet aa n u) (jSet an n an2) iv (jSet kp n x) (jSet py n z)) n ++ jAW cI cJ (jSet aa n u n) (jSet an n an2 n) iv (jSet kp n x n) (jSet py n z n)
  rw [jSet_s, jSet_s, jSet_s, jSet_s]
  congr 1
  refine jBl_congr fun k hk => ?_
  show _ = jAW cI cJ (jSet aa n u k) (jSet an n an2 k) iv (jSet kp n x k) (jSet py n z k)
  rw [jSet_n _ _ (show k ≠ n by omega), jSet_n _ _ (show k ≠ n by omega), jSet_n _ _ (show k ≠ n by omega), jSet_n _ _ (show k ≠ n by omega)]
section QN
variable {A : Nat → Prop} {D : va_G} {cI cJ cO : ClassId} {ai ax : Nat → Nat} {f0 f1 f2 f3 : Nat → Int32} {n mo : Nat} {iv : Nat → Int32} {aa an : Nat → Nat → Nat} {kp : Nat → Int64} {py : Nat → Nat → Int64} {H H1 : Heap}
/-- behind the call that adds an annuity -/
theorem q_putN {u an2 : Nat → Nat} {x : Int64} {z : Nat → Int64} (hP : va_P D vwCl (qW cI cJ cO ai f0 f1 f2 f3 ax n mo iv aa an kp py) H) (hD : va_D A (qW cI cJ cO ai f0 f1 f2 f3 ax n mo iv aa an kp py)) (hA : ∀ q : Nat, H.size ≤ q → A q)
    (hkk : ∀ q : Nat, q < H.size → ¬ va_A (jX3 cI cO ax (jao aa n) n mo iv) H.size q → H1[q]? = H[q]?) (hP1 : va_P D vwCl (jFW cI cJ cO ax (va_up (jao aa n) n (some (u 0))) (n + 1) mo iv u an2 x z) H1) (hD1 : va_D (va_A (jX3 cI cO ax (jao aa n) n mo iv) H.size) (jFW cI cJ cO ax (va_up (jao aa n) n (some (u 0))) (n + 1) mo iv u an2 x z)) : va_P D vwCl (qW cI cJ cO ai f0 f1 f2 f3 ax (n + 1) mo iv (jSet aa n u) (jSet an n an2) (jSet kp n x) (jSet py n z)) H1 ∧ va_D A (qW cI cJ cO ai f0 f1 f2 f3 ax (n + 1) mo iv (jSet aa n u) (jSet an n an2) (jSet kp n x) (jSet py n z)) := by
  rw [jao_s] at hP1 hD1
  obtain ⟨h1, h2⟩ := q_perm (wn := (jX3 cI cO ax (jao aa n) n mo iv ++ jBl (jbk cI cJ aa an iv kp py) n) ++ [qA cI (ai 0) f0, qA cI (ai 1) f1, qA cI (ai 2) f2, qA cI (ai 3) f3]) hP hD List.perm_append_comm
  obtain ⟨h3, h4⟩ := jl_new (X' := jX3 cI cO ax (jao (jSet aa n u) (n + 1)) (n + 1) mo iv) (N := jAW cI cJ u an2 iv x z) h1 h2 rfl hA hkk rfl hP1 hD1
  rw [q_Bl_new] at h3 h4
  exact q_perm (wn := [qA cI (ai 0) f0, qA cI (ai 1) f1, qA cI (ai 2) f2, qA cI (ai 3) f3] ++ (jX3 cI cO ax (jao (jSet aa n u) (n + 1)) (n + 1) mo iv ++ jBl (jbk cI cJ (jSet aa n u) (jSet an n an2) iv (jSet kp n x) (jSet py n z)) (n + 1))) h3 h4 List.perm_append_comm
end QN
