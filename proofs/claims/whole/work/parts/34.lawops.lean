/-! the rounds: every script's numbers are one of the cases -/
theorem j_in9 {q : Int32} {n : Nat} (hn : n ≤ 20) (h : vp_in q n) : ∃ k, k < n ∧ q = nI k := by
  by_cases h1 : q < 0
  · exact absurd (Or.inl h1) h
  · obtain ⟨j, hj, rfl⟩ := nI_of h1
    refine ⟨j, Nat.not_le.mp fun h2 => h (Or.inr ?_), rfl⟩
    rw [nI_clamp hj]
    exact h2
theorem j_bt {x : Int32} {lo hi : Nat} (hh : hi < 2 ^ 31) (hl : lo ≤ hi) (h : ¬ (x < nI lo ∨ nI hi < x)) : ∃ v, lo ≤ v ∧ v ≤ hi ∧ x = nI v := by
  by_cases h1 : x < 0
  · refine absurd (Or.inl ?_) h
    have h3 := nI_pos' (show lo < 2 ^ 31 by omega)
    rw [Int32.lt_iff_toInt_lt] at h1 ⊢
    rw [Int32.le_iff_toInt_le] at h3
    omega
  · obtain ⟨j, hj, rfl⟩ := nI_of h1
    rw [nI_ltI hj (by omega), nI_ltI hh hj] at h
    exact ⟨j, by omega, by omega, rfl⟩
theorem j_pd {x : Int32} {mo : Nat} (hm : mo ≤ 240) (h : ¬ (x < nI 0 ∨ nI mo - nI 1 < x)) : ∃ v, v < mo ∧ x = nI v := by
  by_cases h1 : x < nI 0
  · exact absurd (Or.inl h1) h
  · obtain ⟨j, hj, rfl⟩ := nI_of h1
    refine ⟨j, ?_, rfl⟩
    by_cases h0 : mo = 0
    · subst h0
      refine absurd (Or.inr ?_) h
      rw [Int32.lt_iff_toInt_lt, nI_toInt hj, show (nI 0 - nI 1).toInt = -1 by decide]
      omega
    · rw [pk_sub (by omega), nI_ltI (by omega) hj] at h
      omega
section JLO
variable {p : Program} {l : Launch} {e : Env} {s : State} {m : MethodId} {below : List Frame} {meth : Method} {c : Code} {dC : Nat → ClassId} {dI : Nat → Nat → Nat} {cI cJ cZ cO : ClassId} {b L : Nat} {xs : Nat → Int32} {oa : Nat} {ax ad : Nat → Nat} {Q : State → Prop} {i cells slots n mo : Nat} {iv : Nat → Int32} {aa an : Nat → Nat → Nat} {kp T B : Nat → Int64} {py : Nat → Nat → Int64} {ov : Nat → Int64} {fu cy th : Int32} {H : Heap} {locs : List Loc} {ls : Array Slot}
theorem lo_paidInAll (h9 : jRd p l e s m below meth c dC dI cI cJ cZ cO b L xs oa ax ad Q i cells slots n mo iv aa an kp T B py ov fu cy th H locs ls) : W p l e room_1 s m #[Value.ref b] below meth c H locs cells slots Q (F0 m 774 ls []) := by
  obtain ⟨hn, hm, hv, -, -⟩ := id h9.2.1
  by_cases hb0 : vp_in (xs (i + 1)) n
  · obtain ⟨k, hk, e1⟩ := j_in9 hn hb0
    exact lw_paidInAll_c h9 k hk e1
  · exact lw_paidInAll_x1 h9 _ hb0 rfl
theorem lo_owes (h9 : jRd p l e s m below meth c dC dI cI cJ cZ cO b L xs oa ax ad Q i cells slots n mo iv aa an kp T B py ov fu cy th H locs ls) : W p l e room_1 s m #[Value.ref b] below meth c H locs cells slots Q (F0 m 829 ls []) := by
  obtain ⟨hn, hm, hv, -, -⟩ := id h9.2.1
  by_cases hb0 : vp_in (xs (i + 1)) n
  · obtain ⟨k, hk, e1⟩ := j_in9 hn hb0
    exact lw_owes_c h9 k hk e1
  · exact lw_owes_x1 h9 _ hb0 rfl
theorem lo_protection (h9 : jRd p l e s m below meth c dC dI cI cJ cZ cO b L xs oa ax ad Q i cells slots n mo iv aa an kp T B py ov fu cy th H locs ls) : W p l e room_1 s m #[Value.ref b] below meth c H locs cells slots Q (F0 m 1154 ls []) := by
  obtain ⟨hn, hm, hv, -, -⟩ := id h9.2.1
  by_cases hb0 : vp_in (xs (i + 1)) n
  · obtain ⟨k, hk, e1⟩ := j_in9 hn hb0
    exact lw_protection_c h9 k hk e1
  · exact lw_protection_x1 h9 _ hb0 rfl
theorem lo_fullAmount (h9 : jRd p l e s m below meth c dC dI cI cJ cZ cO b L xs oa ax ad Q i cells slots n mo iv aa an kp T B py ov fu cy th H locs ls) : W p l e room_1 s m #[Value.ref b] below meth c H locs cells slots Q (F0 m 884 ls []) := by
  obtain ⟨hn, hm, hv, -, -⟩ := id h9.2.1
  by_cases hb0 : vp_in (xs (i + 1)) n
  · obtain ⟨k, hk, e1⟩ := j_in9 hn hb0
    by_cases h : xs (i + 2) < nI 0 ∨ nI 239 < xs (i + 2)
    · exact lw_fullAmount_x2 h9 k _ hk h e1 rfl
    · obtain ⟨v, -, h1, e2⟩ := j_bt (by omega) (by omega) h
      exact lw_fullAmount_c h9 k v hk (by omega) e1 e2
  · exact lw_fullAmount_x1 h9 _ _ hb0 rfl rfl
theorem lo_carry (h9 : jRd p l e s m below meth c dC dI cI cJ cZ cO b L xs oa ax ad Q i cells slots n mo iv aa an kp T B py ov fu cy th H locs ls) : W p l e room_1 s m #[Value.ref b] below meth c H locs cells slots Q (F0 m 952 ls []) := by
  obtain ⟨hn, hm, hv, -, -⟩ := id h9.2.1
  by_cases hb0 : vp_in (xs (i + 1)) n
  · obtain ⟨k, hk, e1⟩ := j_in9 hn hb0
    by_cases h : xs (i + 2) < nI 0 ∨ nI 239 < xs (i + 2)
    · exact lw_carry_x2 h9 k _ hk h e1 rfl
    · obtain ⟨v, -, h1, e2⟩ := j_bt (by omega) (by omega) h
      exact lw_carry_c h9 k v hk (by omega) e1 e2
  · exact lw_carry_x1 h9 _ _ hb0 rfl rfl
theorem lo_entitled (h9 : jRd p l e s m below meth c dC dI cI cJ cZ cO b L xs oa ax ad Q i cells slots n mo iv aa an kp T B py ov fu cy th H locs ls) : W p l e room_1 s m #[Value.ref b] below meth c H locs cells slots Q (F0 m 1020 ls []) := by
  obtain ⟨hn, hm, hv, -, -⟩ := id h9.2.1
  by_cases hb0 : vp_in (xs (i + 1)) n
  · obtain ⟨k, hk, e1⟩ := j_in9 hn hb0
    by_cases h : xs (i + 2) < nI 0 ∨ nI 239 < xs (i + 2)
    · exact lw_entitled_x2 h9 k _ hk h e1 rfl
    · obtain ⟨v, -, h1, e2⟩ := j_bt (by omega) (by omega) h
      exact lw_entitled_c h9 k v hk (by omega) e1 e2
  · exact lw_entitled_x1 h9 _ _ hb0 rfl rfl
theorem lo_entitledUpTo (h9 : jRd p l e s m below meth c dC dI cI cJ cZ cO b L xs oa ax ad Q i cells slots n mo iv aa an kp T B py ov fu cy th H locs ls) : W p l e room_1 s m #[Value.ref b] below meth c H locs cells slots Q (F0 m 1087 ls []) := by
  obtain ⟨hn, hm, hv, -, -⟩ := id h9.2.1
  by_cases hb0 : vp_in (xs (i + 1)) n
  · obtain ⟨k, hk, e1⟩ := j_in9 hn hb0
    by_cases h : xs (i + 2) < nI 0 ∨ nI 239 < xs (i + 2)
    · exact lw_entitledUpTo_x2 h9 k _ hk h e1 rfl
    · obtain ⟨v, -, h1, e2⟩ := j_bt (by omega) (by omega) h
      exact lw_entitledUpTo_c h9 k v hk (by omega) e1 e2
  · exact lw_entitledUpTo_x1 h9 _ _ hb0 rfl rfl
theorem lo_paid (h9 : jRd p l e s m below meth c dC dI cI cJ cZ cO b L xs oa ax ad Q i cells slots n mo iv aa an kp T B py ov fu cy th H locs ls) : W p l e room_1 s m #[Value.ref b] below meth c H locs cells slots Q (F0 m 707 ls []) := by
  obtain ⟨hn, hm, hv, -, -⟩ := id h9.2.1
  by_cases hb0 : vp_in (xs (i + 1)) n
  · obtain ⟨k, hk, e1⟩ := j_in9 hn hb0
    by_cases h : xs (i + 2) < nI 0 ∨ nI mo - nI 1 < xs (i + 2)
    · exact lw_paid_x2 h9 k _ hk h e1 rfl
    · obtain ⟨v, h1, e2⟩ := j_pd hm h
      exact lw_paid_c h9 k v hk h1 e1 e2
  · exact lw_paid_x1 h9 _ _ hb0 rfl rfl
theorem lo_giveBack (h9 : jRd p l e s m below meth c dC dI cI cJ cZ cO b L xs oa ax ad Q i cells slots n mo iv aa an kp T B py ov fu cy th H locs ls) : W p l e room_1 s m #[Value.ref b] below meth c H locs cells slots Q (F0 m 640 ls []) := by
  obtain ⟨hn, hm, hv, -, -⟩ := id h9.2.1
  by_cases hb0 : vp_in (xs (i + 1)) n
  · obtain ⟨k, hk, e1⟩ := j_in9 hn hb0
    by_cases h : xs (i + 2) < nI 1 ∨ nI 100000000 < xs (i + 2)
    · exact lw_giveBack_x2 h9 k _ hk h e1 rfl
    · obtain ⟨v, h1, h2, e2⟩ := j_bt (by omega) (by omega) h
      by_cases ho : jmx (T k - B k - lN (jU (an k) iv mo)) < lN v
      · exact lw_giveBack_x3 h9 k v hk h1 h2 ho e1 e2
      · exact lw_giveBack_c h9 k v hk h1 h2 ho e1 e2
  · exact lw_giveBack_x1 h9 _ _ hb0 rfl rfl
theorem lo_setCap (h9 : jRd p l e s m below meth c dC dI cI cJ cZ cO b L xs oa ax ad Q i cells slots n mo iv aa an kp T B py ov fu cy th H locs ls) : W p l e room_1 s m #[Value.ref b] below meth c H locs cells slots Q (F0 m 280 ls []) := by
  obtain ⟨hn, hm, hv, -, -⟩ := id h9.2.1
  by_cases hb0 : vp_in (xs (i + 1)) n
  · obtain ⟨k, hk, e1⟩ := j_in9 hn hb0
    by_cases h : xs (i + 2) < nI 0 ∨ nI 200 < xs (i + 2)
    · exact lw_setCap_x2 h9 k _ hk h e1 rfl
    · obtain ⟨v, -, h1, e2⟩ := j_bt (by omega) (by omega) h
      by_cases hs : an k 0 < mo
      · exact lw_setCap_x3 h9 k v hk h1 hs e1 e2
      · exact lw_setCap_c h9 k v hk h1 hs e1 e2
  · exact lw_setCap_x1 h9 _ _ hb0 rfl rfl
theorem lo_setSurvivor (h9 : jRd p l e s m below meth c dC dI cI cJ cZ cO b L xs oa ax ad Q i cells slots n mo iv aa an kp T B py ov fu cy th H locs ls) : W p l e room_1 s m #[Value.ref b] below meth c H locs cells slots Q (F0 m 204 ls []) := by
  obtain ⟨w, hw, h2⟩ : ∃ w : Nat, (if xs (i + 3) = 0 then 0 else 1) = w ∧ w ≤ 1 := ⟨_, rfl, by split <;> omega⟩
  obtain ⟨hn, hm, hv, -, -⟩ := id h9.2.1
  by_cases hb0 : vp_in (xs (i + 1)) n
  · obtain ⟨k, hk, e1⟩ := j_in9 hn hb0
    by_cases h : xs (i + 2) < nI 0 ∨ nI 100 < xs (i + 2)
    · exact lw_setSurvivor_x2 h9 k _ w hk h e1 rfl hw
    · obtain ⟨v, -, h1, e2⟩ := j_bt (by omega) (by omega) h
      by_cases hs : an k 0 < mo
      · exact lw_setSurvivor_x3 h9 k v w hk h1 hs e1 e2 hw
      · exact lw_setSurvivor_c h9 k v w hk h1 h2 hs e1 e2 hw
  · exact lw_setSurvivor_x1 h9 _ _ w hb0 rfl rfl hw
theorem lo_protect (h9 : jRd p l e s m below meth c dC dI cI cJ cZ cO b L xs oa ax ad Q i cells slots n mo iv aa an kp T B py ov fu cy th H locs ls) : W p l e room_1 s m #[Value.ref b] below meth c H locs cells slots Q (F0 m 328 ls []) := by
  obtain ⟨hn, hm, hv, -, -⟩ := id h9.2.1
  by_cases hb0 : vp_in (xs (i + 1)) n
  · obtain ⟨k, hk, e1⟩ := j_in9 hn hb0
    by_cases h : xs (i + 2) < nI 0 ∨ nI 10000000 < xs (i + 2)
    · exact lw_protect_x2 h9 k _ _ hk h e1 rfl rfl
    · obtain ⟨v, -, h1, e2⟩ := j_bt (by omega) (by omega) h
      by_cases h : xs (i + 3) < nI 0 ∨ nI 100 < xs (i + 3)
      · exact lw_protect_x2b h9 k v _ hk h1 h e1 e2 rfl
      · obtain ⟨w, -, h2, e3⟩ := j_bt (by omega) (by omega) h
        by_cases hs : an k 0 < mo
        · exact lw_protect_x3 h9 k v w hk h1 h2 hs e1 e2 e3
        · exact lw_protect_c h9 k v w hk h1 h2 hs e1 e2 e3
  · exact lw_protect_x1 h9 _ _ _ hb0 rfl rfl rfl
theorem lo_die (h9 : jRd p l e s m below meth c dC dI cI cJ cZ cO b L xs oa ax ad Q i cells slots n mo iv aa an kp T B py ov fu cy th H locs ls) : W p l e room_1 s m #[Value.ref b] below meth c H locs cells slots Q (F0 m 456 ls []) := by
  obtain ⟨hn, hm, hv, -, -⟩ := id h9.2.1
  by_cases hb0 : vp_in (xs (i + 1)) n
  · obtain ⟨k, hk, e1⟩ := j_in9 hn hb0
    by_cases h : xs (i + 2) < nI 0 ∨ nI 1 < xs (i + 2)
    · exact lw_die_x2 h9 k _ _ hk h e1 rfl rfl
    · obtain ⟨ii, -, hi, e2⟩ := j_bt (by omega) (by omega) h
      by_cases h : xs (i + 3) < nI 0 ∨ nI (min mo 239) < xs (i + 3)
      · exact lw_die_x2b h9 k ii _ hk hi h e1 e2 rfl
      · obtain ⟨v, -, h1, e3⟩ := j_bt (by omega) (by omega) h
        rcases (show ii = 0 ∨ ii = 1 by omega) with rfl | rfl
        · by_cases ht9 : an k 8 = 240
          · exact lw_die_c0 h9 k v hk (by omega) (by omega) ht9 e1 e2 e3
          · exact lw_die_x3_0 h9 k v hk (by omega) (by omega) ht9 e1 e2 e3
        · by_cases ht9 : an k 9 = 240
          · exact lw_die_c1 h9 k v hk (by omega) (by omega) ht9 e1 e2 e3
          · exact lw_die_x3_1 h9 k v hk (by omega) (by omega) ht9 e1 e2 e3
  · exact lw_die_x1 h9 _ _ _ hb0 rfl rfl rfl
theorem lo_takeBack (h9 : jRd p l e s m below meth c dC dI cI cJ cZ cO b L xs oa ax ad Q i cells slots n mo iv aa an kp T B py ov fu cy th H locs ls) : W p l e room_1 s m #[Value.ref b] below meth c H locs cells slots Q (F0 m 516 ls []) := by
  obtain ⟨hn, hm, hv, -, -⟩ := id h9.2.1
  by_cases hb0 : vp_in (xs (i + 1)) n
  · obtain ⟨k, hk, e1⟩ := j_in9 hn hb0
    by_cases h : xs (i + 2) < nI 0 ∨ nI 1 < xs (i + 2)
    · exact lw_takeBack_x2 h9 k _ hk h e1 rfl
    · obtain ⟨ii, -, hi, e2⟩ := j_bt (by omega) (by omega) h
      rcases (show ii = 0 ∨ ii = 1 by omega) with rfl | rfl
      · by_cases ht9 : an k 8 = 240
        · exact lw_takeBack_x3_0 h9 k hk ht9 e1 e2
        · exact lw_takeBack_c0 h9 k hk ht9 e1 e2
      · by_cases ht9 : an k 9 = 240
        · exact lw_takeBack_x3_1 h9 k hk ht9 e1 e2
        · exact lw_takeBack_c1 h9 k hk ht9 e1 e2
  · exact lw_takeBack_x1 h9 _ _ hb0 rfl rfl
theorem lo_run (h9 : jRd p l e s m below meth c dC dI cI cJ cZ cO b L xs oa ax ad Q i cells slots n mo iv aa an kp T B py ov fu cy th H locs ls) : W p l e room_1 s m #[Value.ref b] below meth c H locs cells slots Q (F0 m 584 ls []) := by
  obtain ⟨hn, hm, hv, -, -⟩ := id h9.2.1
  by_cases h : mo = 240
  · exact lw_run_x1 h9 h
  · exact lw_run_c h9 (by omega)
theorem lo_setInflation (h9 : jRd p l e s m below meth c dC dI cI cJ cZ cO b L xs oa ax ad Q i cells slots n mo iv aa an kp T B py ov fu cy th H locs ls) : W p l e room_1 s m #[Value.ref b] below meth c H locs cells slots Q (F0 m 388 ls []) := by
  by_cases h : xs (i + 1) < nI 0 ∨ nI 19 < xs (i + 1)
  · exact lw_setInflation_x1 h9 _ _ h rfl rfl
  · by_cases h2 : xs (i + 2) < (-100) ∨ nI 300 < xs (i + 2)
    · exact lw_setInflation_x2 h9 _ _ (fun q => h (Or.inl q)) (fun q => h (Or.inr q)) h2 rfl rfl
    · obtain ⟨yy, -, h1, e1⟩ := j_bt (by omega) (by omega) h
      exact lw_setInflation_c h9 yy _ (by omega) (fun q => h2 (Or.inl q)) (fun q => h2 (Or.inr q)) e1 rfl
theorem lo_add (h9 : jRd p l e s m below meth c dC dI cI cJ cZ cO b L xs oa ax ad Q i cells slots n mo iv aa an kp T B py ov fu cy th H locs ls) : W p l e room_1 s m #[Value.ref b] below meth c H locs cells slots Q (F0 m 124 ls []) := by
  obtain ⟨hn, hm, hv, -, -⟩ := id h9.2.1
  by_cases h : xs (i + 1) < nI mo ∨ nI 239 < xs (i + 1)
  · exact lw_add_x1 h9 _ _ _ h rfl rfl rfl
  · by_cases g : xs (i + 2) < nI 1 ∨ nI 100000 < xs (i + 2)
    · exact lw_add_x2 h9 _ _ _ (fun q => h (Or.inl q)) (fun q => h (Or.inr q)) g rfl rfl rfl
    · by_cases f : xs (i + 3) < nI 0 ∨ nI 240 < xs (i + 3)
      · exact lw_add_x3 h9 _ _ _ (fun q => h (Or.inl q)) (fun q => h (Or.inr q)) (fun q => g (Or.inl q)) (fun q => g (Or.inr q)) f rfl rfl rfl
      · by_cases hn2 : n = 20
        · exact lw_add_x4 h9 _ _ _ (fun q => h (Or.inl q)) (fun q => h (Or.inr q)) (fun q => g (Or.inl q)) (fun q => g (Or.inr q)) (fun q => f (Or.inl q)) (fun q => f (Or.inr q)) hn2 rfl rfl rfl
        · have hm9 : mo ≤ 239 := by
            refine Nat.not_lt.mp fun q => h ?_
            have h8 : mo = 240 := by omega
            subst h8
            by_cases h0 : xs (i + 1) < nI 240
            · exact Or.inl h0
            · refine Or.inr ?_
              rw [Int32.lt_iff_toInt_lt] at h0 ⊢
              rw [nI_toInt (by omega)] at h0 ⊢
              omega
          obtain ⟨sa, hs1, hs2, e1⟩ := j_bt (by omega) hm9 h
          obtain ⟨ma, h0, h1, e2⟩ := j_bt (by omega) (by omega) g
          obtain ⟨ga, -, h2, e3⟩ := j_bt (by omega) (by omega) f
          exact lw_add_c h9 sa ma ga (by omega) hs1 (by omega) h0 h1 h2 e1 e2 e3
theorem lo_month (h9 : jRd p l e s m below meth c dC dI cI cJ cZ cO b L xs oa ax ad Q i cells slots n mo iv aa an kp T B py ov fu cy th H locs ls) : W p l e room_1 s m #[Value.ref b] below meth c H locs cells slots Q (F0 m 627 ls []) := by
  obtain ⟨⟨hx, hb, hml, hown, hts, hX, hbl, hst, hZ, hK⟩, hI, hP, hD, hS, hl, hrm, hi9, hL, go⟩ := id h9
  have hf0 : cells ≤ 601024 ∧ slots ≤ 7293034 := ⟨by omega, by omega⟩
  refine lv_aload_n hx hb dL_law_627 rfl (lv_at hl 1 rfl) ?_
  refine j_cI_ (As := []) (rest := []) ⟨hx, hb, hml, hown, hts⟩ (c_X1_month l dC dI cI cJ cZ cO ax n mo) (cwV 0 hts gL_law_X1_month rfl rfl rfl (by decide +kernel) ⟨Nat.le_of_ble_eq_true rfl, Nat.le_of_ble_eq_true rfl⟩) (jR_V0 hK (j_subP hP jl_s1) (ci := 1) (q0 := 0) rfl rfl rfl) rfl hl rfl (Nat.le_of_ble_eq_true rfl) dL_law_628 hf0 (fun r hr => ?_)
  subst hr
  refine lv_aload_n hx hb dL_law_631 rfl (lv_at hl 2 rfl) ?_
  refine j_mI (As := []) (rest := [.int (nI mo)]) ⟨hx, hb, hml, hown, hts⟩ (c_X2_month l dC dI cI cJ cZ cO ad n mo iv an T B py fu cy th) (cwV 0 hts gL_law_X2_month rfl rfl rfl (by decide +kernel) ⟨Nat.le_of_ble_eq_true rfl, Nat.le_of_ble_eq_true rfl⟩) hK hP hD rfl (jMW_adr _ _ _ _ _ _ _ _ _ _ _ _ _ _) (fun _ => jMW_adr _ _ _ _ _ _ _ _ _ _ _ _ _ _) rfl hl rfl (Nat.le_of_ble_eq_true rfl) dL_law_632 hf0 hS (fun r u H locs hr hP hD hS => ?_)
  subst hr
  exact lv_icmp_eq (tgt := 1209) hx hb dL_law_635 (by decide) (fun _ => W.widen (by omega) (by omega) (go _ _ _ _ _ _ _ _ _ _ _ _ _ _ _ _ hI hP hD hS hl)) (fun h => absurd rfl h)
end JLO
