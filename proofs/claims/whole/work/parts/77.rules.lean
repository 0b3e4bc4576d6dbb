theorem cut_get {k1 k2 : Nat → Nat → Bool} {g : GG} {a j : Nat} (h : k1 a j = true) : (ik_cut k1 k2 g).1 a j = g.1 a j := by simp [ik_cut, h]
theorem w_clear9 (g : GG) (Q : Value → GG → Prop) : wF fX9_clear [] g Q ↔ Q .null (ik_si g 1 1 0) := by
  refine wF_eq (eq_of_wF ?_) Q
  unfold fX9_clear
  simp (decide := true) only [wE_lit, wL_lit, wE_loc, wL_loc, wE_add, wE_sub, wE_mul, wE_and, wE_or, wE_xor, wE_shl, wE_shr, wE_ushr, wE_div, wE_rem, wE_neg, wE_i2b, wE_l2i, wL_i2l, wL_add, wL_mul, wE_fld, wL_fld, wE_arr, wL_arr, wC_cmp, wC_cmp0, wC_cmpL, wC_and, wC_or, wC_not, wC_ite, wL_ite, wA_nil, wA_int, wA_long, wE_call, wL_call, wS_skip, wS_seq, wS_set, wS_setL, wS_inc, wS_if, wS_put, wS_putL, wS_putOp, wS_putOpL, wS_ast, wS_astL, wS_aop, wS_aopL, wS_ret, wS_retL, wS_retV, wS_do, wS_pop, wS_dead, wS_sw, wF_body, Nat.reduceAdd, Nat.zero_add, Bool.not_not, true_and, and_true, if_true, if_false, ↓reduceIte, eq_self, Value.int.injEq, Value.long.injEq, exists_eq_left', ik_b1, ik_b0, ik_bz0, ik_bz3, ik_bz3_1, ik_bz3_0, ik_cmp, ik_cmpL, ik_eI, ik_eL, ik_as]
theorem op_rules (a : Int32) (x m : GG) (h : Rel x m) : ∃ v x' m', fX11_rules [.int a] x = some (v, x') ∧ fX12_rules [.int a] m = some (v, m') ∧ Rel x' m' := by
  obtain ⟨Nn, B, S, h⟩ := h
  have h0 := h
  obtain ⟨hT, hL, hN, hB, hTi, hLi, hH, hC, hNo, hS, hR, hQ⟩ := h
  obtain ⟨T, hT1, hT2, hT3, b, hb⟩ := hT.byte
  by_cases hc : (1 ≤ a ∧ a ≤ 160) ∧ ¬ nI T < a
  · obtain ⟨c1, c2⟩ := hc
    obtain ⟨N, hN160, rfl⟩ := nI_of3 (x := a) (a := 160) (by omega) (Int32.le_trans (by decide) c1.1) c1.2
    have hN1 : 1 ≤ N := (nI_leI (a := 1) (by omega) (by omega)).mp c1.1
    have hNT : N ≤ T := by
      rw [Int32.not_lt, nI_leI (by omega) (by omega)] at c2
      exact c2
    obtain ⟨c, hcd⟩ : ∃ c : Nat → Nat, c = fun k => if k < N then b k else 0 := ⟨_, rfl⟩
    have hz : ∀ k, N ≤ k → c k = 0 := fun k hk => by rw [hcd]; exact if_neg (by omega)
    have hcb : ∀ k, k < N → c k = b k := fun k hk => by rw [hcd]; exact if_pos hk
    obtain ⟨v, g, e1, t1, t2, t3⟩ := w_takeX (c := c) (x := x) hN1 hN160 hz hT1 hNT hT2 (fun k hk => by rw [hcb k hk]; exact ⟨(hb k (by omega)).1, (hb k (by omega)).2.1⟩)
    obtain ⟨v', m', e2, f1, f2, f3, f4, f5⟩ := w_rulesM (c := c) (m := m) hN1 hN160 hz hT1 hNT hT3 (fun k hk => by rw [hcb k hk]; exact ⟨(hb k (by omega)).1, (hb k (by omega)).2.2⟩)
    have l : ¬ nI T < nI N := c2
    have xk : ∀ a, a ≠ 1 → a ≠ 35 → a ≠ 36 → a ≠ 37 → (ik_si g 1 1 0).1 a = x.1 a := fun a h1 h2 h3 h4 => by rw [ik_si_row _ _ _ _ _ h1]; exact t1 a h2 h3 h4
    have x1 : (ik_si g 1 1 0).1 1 1 = 0 := ik_si_same _ _ _ _
    have m1 : m'.1 0 1 = 0 := f4
    revert t3 f5
    rcases hR0 : sp_all c N 13 0 [] with ⟨e, q⟩ | L
    · rintro ⟨v1, v2, r1, r2, r3⟩ ⟨w1, w2, w3, w4, w5⟩
      have hne := nI_ne0 (n := 1000 * e + q) (by omega) (by omega)
      refine ⟨.int (-(nI (1000 * e + q))), ik_si g 1 1 0, m', eq_of_wF ?_, by rw [e2, w1], Nn, B, S, h0.frT (fun a j hk => ?_) (fun a j _ => by rw [show (ik_si g 1 1 0).2 = g.2 from rfl, t2]) (fun a j hk => ?_) (by rw [x1, m1]; exact rT.none _ _)⟩
      · unfold fX11_rules
        subst v1
        simp (decide := true) only [wE_lit, wL_lit, wE_loc, wL_loc, wE_add, wE_sub, wE_mul, wE_and, wE_or, wE_xor, wE_shl, wE_shr, wE_ushr, wE_div, wE_rem, wE_neg, wE_i2b, wE_l2i, wL_i2l, wL_add, wL_mul, wE_fld, wL_fld, wE_arr, wL_arr, wC_cmp, wC_cmp0, wC_cmpL, wC_and, wC_or, wC_not, wC_ite, wL_ite, wA_nil, wA_int, wA_long, wE_call, wL_call, wS_skip, wS_seq, wS_set, wS_setL, wS_inc, wS_if, wS_put, wS_putL, wS_putOp, wS_putOpL, wS_ast, wS_astL, wS_aop, wS_aopL, wS_ret, wS_retL, wS_retV, wS_do, wS_pop, wS_dead, wS_sw, wF_body, Nat.reduceAdd, Nat.zero_add, Bool.not_not, true_and, and_true, if_true, if_false, ↓reduceIte, eq_self, Value.int.injEq, Value.long.injEq, exists_eq_left', ik_b1, ik_b0, ik_bz0, ik_bz3, ik_bz3_1, ik_bz3_0, ik_cmp, ik_cmpL, ik_eI, ik_eL, ik_as, ik_i0, ik_i1, decide_eq_true_eq, decide_eq_false_iff_not, decide_true, decide_false, Bool.not_true, Bool.not_false, reduceCtorEq, forall_const, false_implies, true_implies, implies_true, true_and, and_true, and_self, false_and, and_false, Bool.and_true, Bool.true_and, not_true_eq_false, not_false_eq_true, if_true, if_false, ite_true, ite_false, ik_bz3_0, ik_bz3_1, ik_bz0, w_within, c1, w_length, hT2, l, wF_eq e1, w_clear9, upd_at, upd_off, hne]
      · by_cases a35 : a = 35
        · subst a35
          have hj : j = 3 ∨ j = 4 := kEx_35 hk
          rw [ik_si_row _ _ _ _ _ (by decide)]
          rcases hj with rfl | rfl
          · exact r2
          · exact r3
        · by_cases a36 : a = 36
          · subst a36
            rw [ik_si_row _ _ _ _ _ (by decide), r1]
          · rw [xk a (fun e => by subst e; cases hk) a35 a36 (fun e => by subst e; cases hk)]
      · by_cases a0 : a = 0
        · subst a0
          have hj : 2 ≤ j ∧ j ≤ 11 := kEm_0 hk
          by_cases j5 : j = 5
          · subst j5; exact w3
          · exact f2 j (by omega) j5 (by omega)
        · by_cases a27 : a < 27
          · rw [w2 a a0 a27]
          · have := kEm_a hk a0
            rw [f1 a a0 (by omega)]
    · rintro ⟨v1, r1, r2, r3⟩ ⟨w1, w2, w3, w4, w5⟩
      refine ⟨.int (nI L.length), ik_si (ik_si g 1 1 0) 0 13 0, m', eq_of_wF ?_, by rw [e2, w1], Nn, B, S, ?_, ?_, hN.frk ?_ ?_, hB.frk ?_ ?_, hTi.frk ?_ ?_, hLi.frk ?_ ?_, hH.frk ?_ ?_, hC.frk ?_ ?_, hNo.frk ?_ ?_, hS.frk ?_ ?_, ?_, rQ.new (ik_si_same _ _ _ _)⟩
      · unfold fX11_rules fX7_clauses
        subst v1
        simp (decide := true) only [wE_lit, wL_lit, wE_loc, wL_loc, wE_add, wE_sub, wE_mul, wE_and, wE_or, wE_xor, wE_shl, wE_shr, wE_ushr, wE_div, wE_rem, wE_neg, wE_i2b, wE_l2i, wL_i2l, wL_add, wL_mul, wE_fld, wL_fld, wE_arr, wL_arr, wC_cmp, wC_cmp0, wC_cmpL, wC_and, wC_or, wC_not, wC_ite, wL_ite, wA_nil, wA_int, wA_long, wE_call, wL_call, wS_skip, wS_seq, wS_set, wS_setL, wS_inc, wS_if, wS_put, wS_putL, wS_putOp, wS_putOpL, wS_ast, wS_astL, wS_aop, wS_aopL, wS_ret, wS_retL, wS_retV, wS_do, wS_pop, wS_dead, wS_sw, wF_body, Nat.reduceAdd, Nat.zero_add, Bool.not_not, true_and, and_true, if_true, if_false, ↓reduceIte, eq_self, Value.int.injEq, Value.long.injEq, exists_eq_left', ik_b1, ik_b0, ik_bz0, ik_bz3, ik_bz3_1, ik_bz3_0, ik_cmp, ik_cmpL, ik_eI, ik_eL, ik_as, ik_i0, ik_i1, decide_eq_true_eq, decide_eq_false_iff_not, decide_true, decide_false, Bool.not_true, Bool.not_false, reduceCtorEq, forall_const, false_implies, true_implies, implies_true, true_and, and_true, and_self, false_and, and_false, Bool.and_true, Bool.true_and, not_true_eq_false, not_false_eq_true, if_true, if_false, ite_true, ite_false, ik_bz3_0, ik_bz3_1, ik_bz0, w_within, c1, w_length, hT2, l, wF_eq e1, w_clear9, w_changed, upd_at, upd_off, ik_si_row, r3]
      · rw [ik_si_row _ _ _ _ _ (by decide), x1, m1]; exact rT.none _ _
      · have y4 : (ik_si (ik_si g 1 1 0) 0 13 0).1 4 = x.1 4 := by rw [ik_si_row _ _ _ _ _ (by decide), xk 4 (by decide) (by decide) (by decide) (by decide)]
        have y5 : (ik_si (ik_si g 1 1 0) 0 13 0).1 5 = x.1 5 := by rw [ik_si_row _ _ _ _ _ (by decide), xk 5 (by decide) (by decide) (by decide) (by decide)]
        rw [y4, y5, f1 2 (by decide) (by decide), f1 3 (by decide) (by decide)]
        exact hL
      any_goals first
        | (refine cut_of2 (fun a j hk => ?_) k0_no; simp only [kNm, kBm, kTim, kLim, kHm, kCm, kNom, kSm, Bool.or_eq_true, Bool.and_eq_true, beq_iff_eq, decide_eq_true_eq] at hk; by_cases a0 : a = 0 <;> first | (subst a0; rw [f2 j (by omega) (by omega) (by omega)]; done) | (rw [f1 a a0 (by omega)]; done))
        | (rw [ik_cut_si (by rfl)]; refine cut_of2 (fun a j hk => ?_) k0_no; simp only [kNx, kBx, kTix, kLix, kHx, kCx, kNox, kSx, Bool.or_eq_true, Bool.and_eq_true, beq_iff_eq, decide_eq_true_eq] at hk; rw [xk a (by omega) (by omega) (by omega) (by omega)]; done)
      refine ⟨c, N, L, hN160, hz, fun k hk => ⟨by rw [hcb k hk]; exact (hb k (by omega)).1, ?_⟩, ?_, ?_, ?_, Or.inr ⟨hN1, hR0⟩, w2, fun q b ds hq => ?_, fun k o hk => ?_⟩
      · rw [cut_get rfl, ik_si_row _ _ _ _ _ (by decide), ik_si_row _ _ _ _ _ (by decide)]; exact r1 k hk
      · rw [cut_get rfl, ik_si_row _ _ _ _ _ (by decide), ik_si_row _ _ _ _ _ (by decide)]; exact r2
      · rw [cut_get rfl, ik_si_row _ _ _ _ _ (by decide), ik_si_row _ _ _ _ _ (by decide)]; exact r3
      · rw [cut_get rfl]; exact w3
      · rw [cut_get rfl, cut_get rfl, cut_get rfl]; exact w4 q b ds hq
      · rw [cut_get rfl, cut_get rfl]; exact w5 k o hk
  · refine ⟨.int (-1), x, m, eq_of_wF ?_, eq_of_wF ?_, Nn, B, S, h0⟩
    · unfold fX11_rules
      simp (decide := true) only [wE_lit, wL_lit, wE_loc, wL_loc, wE_add, wE_sub, wE_mul, wE_and, wE_or, wE_xor, wE_shl, wE_shr, wE_ushr, wE_div, wE_rem, wE_neg, wE_i2b, wE_l2i, wL_i2l, wL_add, wL_mul, wE_fld, wL_fld, wE_arr, wL_arr, wC_cmp, wC_cmp0, wC_cmpL, wC_and, wC_or, wC_not, wC_ite, wL_ite, wA_nil, wA_int, wA_long, wE_call, wL_call, wS_skip, wS_seq, wS_set, wS_setL, wS_inc, wS_if, wS_put, wS_putL, wS_putOp, wS_putOpL, wS_ast, wS_astL, wS_aop, wS_aopL, wS_ret, wS_retL, wS_retV, wS_do, wS_pop, wS_dead, wS_sw, wF_body, Nat.reduceAdd, Nat.zero_add, Bool.not_not, true_and, and_true, if_true, if_false, ↓reduceIte, eq_self, Value.int.injEq, Value.long.injEq, exists_eq_left', ik_b1, ik_b0, ik_bz0, ik_bz3, ik_bz3_1, ik_bz3_0, ik_cmp, ik_cmpL, ik_eI, ik_eL, ik_as, w_within, w_length, hT2]
      by_cases h1 : 1 ≤ a ∧ a ≤ 160 <;> by_cases h2 : nI T < a <;> first | exact absurd (And.intro h1 h2) hc | simp (decide := true) only [h1, h2, ik_i0, ik_i1, decide_eq_true_eq, decide_eq_false_iff_not, decide_true, decide_false, Bool.not_true, Bool.not_false, reduceCtorEq, forall_const, false_implies, true_implies, implies_true, true_and, and_true, and_self, false_and, and_false, Bool.and_true, Bool.true_and, not_true_eq_false, not_false_eq_true, if_true, if_false, ite_true, ite_false, ik_bz3_0, ik_bz3_1, ik_bz0]
    · unfold fX12_rules
      simp (decide := true) only [wE_lit, wL_lit, wE_loc, wL_loc, wE_add, wE_sub, wE_mul, wE_and, wE_or, wE_xor, wE_shl, wE_shr, wE_ushr, wE_div, wE_rem, wE_neg, wE_i2b, wE_l2i, wL_i2l, wL_add, wL_mul, wE_fld, wL_fld, wE_arr, wL_arr, wC_cmp, wC_cmp0, wC_cmpL, wC_and, wC_or, wC_not, wC_ite, wL_ite, wA_nil, wA_int, wA_long, wE_call, wL_call, wS_skip, wS_seq, wS_set, wS_setL, wS_inc, wS_if, wS_put, wS_putL, wS_putOp, wS_putOpL, wS_ast, wS_astL, wS_aop, wS_aopL, wS_ret, wS_retL, wS_retV, wS_do, wS_pop, wS_dead, wS_sw, wF_body, Nat.reduceAdd, Nat.zero_add, Bool.not_not, true_and, and_true, if_true, if_false, ↓reduceIte, eq_self, Value.int.injEq, Value.long.injEq, exists_eq_left', ik_b1, ik_b0, ik_bz0, ik_bz3, ik_bz3_1, ik_bz3_0, ik_cmp, ik_cmpL, ik_eI, ik_eL, ik_as, i64_n20, i64_n1, l64_0, l64_1, l64_2, l64_3, l64_7, l64_12, l64_19, l64_20, l64_23, l64_24, l64_26, l64_29, l64_40, l64_50, l64_60, l64_63, l64_100, l64_160, l64_199, l64_255, l64_1000, l64_3000, l64_5000, l64_9999, l64_m1, l64_m20, w_lies, hT3]
      by_cases h1 : 1 ≤ a ∧ a ≤ 160 <;> by_cases h2 : nI T < a <;> first | exact absurd (And.intro h1 h2) hc | simp (decide := true) only [h1, h2, ik_i0, ik_i1, decide_eq_true_eq, decide_eq_false_iff_not, decide_true, decide_false, Bool.not_true, Bool.not_false, reduceCtorEq, forall_const, false_implies, true_implies, implies_true, true_and, and_true, and_self, false_and, and_false, Bool.and_true, Bool.true_and, not_true_eq_false, not_false_eq_true, if_true, if_false, ite_true, ite_false, ik_bz3_0, ik_bz3_1, ik_bz0]
