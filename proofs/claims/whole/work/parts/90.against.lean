theorem op_against (a b : Int32) (x m : GG) (h : Rel x m) : ∃ v x' m', fX11_against [.int a, .int b] x = some (v, x') ∧ fX12_against [.int a, .int b] m = some (v, m') ∧ Rel x' m' := by
  have h0 := h
  obtain ⟨N, B, S, h⟩ := h
  have hA := h
  obtain ⟨hT, hL, hN, hB, hTi, hLi, hH, hC, hNo, hS, hR, hQ⟩ := h
  have fB := w_barHas hB.2.1 hB.1
  have mB := w_isBar (show B < 2 ^ 31 by have := hB.1; omega) hB.2.2.1
  have fN := w_nameHas hN.2.1 hN.1
  have mN := w_isName (show N < 2 ^ 31 by have := hN.1; omega) hN.2.2.1
  by_cases hc : isI a B ∧ isI b N
  · obtain ⟨c1, c2⟩ := hc
    obtain ⟨k, hk, rfl⟩ := isI_ex (by have := hB.1; omega) c1
    obtain ⟨i, hi, rfl⟩ := isI_ex (by have := hN.1; omega) c2
    obtain ⟨c, M, L, hD⟩ := hR.d
    obtain ⟨n, ln1, ln2, ln3, ln4⟩ := hLi
    obtain ⟨⟨Hn, hn1, hn2, hn3, hn4⟩, hh⟩ := hH
    obtain ⟨v1, g1, e1, k1, k2⟩ := w_reasonsX hA.e hD ln1 ln3 (eqF.rfl' x) hk hi
    obtain ⟨v2, g2, e2, k3, k4⟩ := w_againstOf hA.e hD ln3 ln1 hn3 hn1 (eqM.rfl' m) hk hi
    subst k1 k3
    have hg := hA.eq k2.x (eqM.rfl' m)
    have ink := w_ink0 hg.2.2.2.1 hk
    have wd := w_wide6 hg.2.1 hg.2.2.1 hi
    obtain ⟨⟨Hn', hn1', hn2', hn3', hn4'⟩, hhh⟩ := hg.2.2.2.2.2.2.1
    have eH : Hn' = Hn := (nI_eq (by omega) (by omega)).mp (hn3'.symm.trans hn3)
    subst eH
    have ht' : ∀ t, t < Hn' → g1.1 40 t = m.1 41 t ∧ g1.1 41 t = m.1 42 t ∧ g1.1 42 t = m.1 43 t ∧ ∃ a, a < N ∧ m.1 42 t = nI a := fun t h => ⟨(hn4' t h).1, (hn4' t h).2.1, (hn4' t h).2.2.1, (hn4' t h).2.2.2.2.1⟩
    obtain ⟨hou, hou1, hou2, hou3⟩ := hhh
    have le := w_least hg.2.1 hg.2.2.1 hn1' hn2' ht' (nI hou)
    have gr := w_greatest hg.2.1 hg.2.2.1 hn1' hn2' ht' (nI hou)
    have inkX : fX11_inkReason [.int (nI k), .int (nI i)] g1 = some (.int (if inkB m Hn' k i = true then 1 else 0), g1) := by
      apply eq_of_wF
      unfold fX11_inkReason inkB
      rw [hou3]
      simp (decide := true) only [wE_lit, wL_lit, wE_loc, wL_loc, wE_add, wE_sub, wE_mul, wE_and, wE_or, wE_xor, wE_shl, wE_shr, wE_ushr, wE_div, wE_rem, wE_neg, wE_i2b, wE_l2i, wL_i2l, wL_add, wL_mul, wE_fld, wL_fld, wE_arr, wL_arr, wC_cmp, wC_cmp0, wC_cmpL, wC_and, wC_or, wC_not, wC_ite, wL_ite, wA_nil, wA_int, wA_long, wE_call, wL_call, wS_skip, wS_seq, wS_set, wS_setL, wS_inc, wS_if, wS_put, wS_putL, wS_putOp, wS_putOpL, wS_ast, wS_astL, wS_aop, wS_aopL, wS_ret, wS_retL, wS_retV, wS_do, wS_pop, wS_dead, wS_sw, wF_body, Nat.reduceAdd, Nat.zero_add, Bool.not_not, true_and, and_true, if_true, if_false, ↓reduceIte, eq_self, Value.int.injEq, Value.long.injEq, exists_eq_left', ik_b1, ik_b0, ik_bz0, ik_bz3, ik_bz3_1, ik_bz3_0, ik_cmp, ik_cmpL, ik_eI, ik_eL, ik_as, ik_i0, ik_i1, decide_eq_true_eq, decide_eq_false_iff_not, decide_true, decide_false, Bool.not_true, Bool.not_false, reduceCtorEq, forall_const, false_implies, true_implies, implies_true, true_and, and_true, and_self, false_and, and_false, Bool.and_true, Bool.true_and, not_true_eq_false, not_false_eq_true, if_true, if_false, ite_true, ite_false, ik_bz3_0, ik_bz3_1, ik_bz0, wE_ite2, ink, wd, hou2, le, gr, w_within, upd_at, upd_off]
      by_cases q1 : m.1 10 k - ik_nw m i < ik_hb m (nI hou) false Hn'
      · have : ¬ ik_hb m (nI hou) false Hn' ≤ m.1 10 k - ik_nw m i := by rw [Int32.not_le]; exact q1
        simp [q1, this]
      · have q1' : ik_hb m (nI hou) false Hn' ≤ m.1 10 k - ik_nw m i := by rw [Int32.not_lt] at q1; exact q1
        by_cases q2 : ik_hb m (nI hou) true Hn' < m.1 10 k - ik_nw m i
        · have : ¬ m.1 10 k - ik_nw m i ≤ ik_hb m (nI hou) true Hn' := by rw [Int32.not_le]; exact q2
          simp [q2, this]
        · have q2' : m.1 10 k - ik_nw m i ≤ ik_hb m (nI hou) true Hn' := by rw [Int32.not_lt] at q2; exact q2
          simp [q1, q2, q1', q2']
    refine ⟨.int (nI (agB m S n L k i + (if inkB m Hn' k i = true then 1 else 0))), g1, g2, eq_of_wF ?_, eq_of_wF ?_, N, B, S, hA.eq k2.x k4.1⟩
    · unfold fX11_against
      simp (decide := true) only [wE_lit, wL_lit, wE_loc, wL_loc, wE_add, wE_sub, wE_mul, wE_and, wE_or, wE_xor, wE_shl, wE_shr, wE_ushr, wE_div, wE_rem, wE_neg, wE_i2b, wE_l2i, wL_i2l, wL_add, wL_mul, wE_fld, wL_fld, wE_arr, wL_arr, wC_cmp, wC_cmp0, wC_cmpL, wC_and, wC_or, wC_not, wC_ite, wL_ite, wA_nil, wA_int, wA_long, wE_call, wL_call, wS_skip, wS_seq, wS_set, wS_setL, wS_inc, wS_if, wS_put, wS_putL, wS_putOp, wS_putOpL, wS_ast, wS_astL, wS_aop, wS_aopL, wS_ret, wS_retL, wS_retV, wS_do, wS_pop, wS_dead, wS_sw, wF_body, Nat.reduceAdd, Nat.zero_add, Bool.not_not, true_and, and_true, if_true, if_false, ↓reduceIte, eq_self, Value.int.injEq, Value.long.injEq, exists_eq_left', ik_b1, ik_b0, ik_bz0, ik_bz3, ik_bz3_1, ik_bz3_0, ik_cmp, ik_cmpL, ik_eI, ik_eL, ik_as, ik_i0, ik_i1, decide_eq_true_eq, decide_eq_false_iff_not, decide_true, decide_false, Bool.not_true, Bool.not_false, reduceCtorEq, forall_const, false_implies, true_implies, implies_true, true_and, and_true, and_self, false_and, and_false, Bool.and_true, Bool.true_and, not_true_eq_false, not_false_eq_true, if_true, if_false, ite_true, ite_false, ik_bz3_0, ik_bz3_1, ik_bz0, fB, fN, isI, c1, c2, wF_eq e1, wF_eq inkX, agB_or2]
    · unfold fX12_against
      simp (decide := true) only [wE_lit, wL_lit, wE_loc, wL_loc, wE_add, wE_sub, wE_mul, wE_and, wE_or, wE_xor, wE_shl, wE_shr, wE_ushr, wE_div, wE_rem, wE_neg, wE_i2b, wE_l2i, wL_i2l, wL_add, wL_mul, wE_fld, wL_fld, wE_arr, wL_arr, wC_cmp, wC_cmp0, wC_cmpL, wC_and, wC_or, wC_not, wC_ite, wL_ite, wA_nil, wA_int, wA_long, wE_call, wL_call, wS_skip, wS_seq, wS_set, wS_setL, wS_inc, wS_if, wS_put, wS_putL, wS_putOp, wS_putOpL, wS_ast, wS_astL, wS_aop, wS_aopL, wS_ret, wS_retL, wS_retV, wS_do, wS_pop, wS_dead, wS_sw, wF_body, Nat.reduceAdd, Nat.zero_add, Bool.not_not, true_and, and_true, if_true, if_false, ↓reduceIte, eq_self, Value.int.injEq, Value.long.injEq, exists_eq_left', ik_b1, ik_b0, ik_bz0, ik_bz3, ik_bz3_1, ik_bz3_0, ik_cmp, ik_cmpL, ik_eI, ik_eL, ik_as, ik_i0, ik_i1, decide_eq_true_eq, decide_eq_false_iff_not, decide_true, decide_false, Bool.not_true, Bool.not_false, reduceCtorEq, forall_const, false_implies, true_implies, implies_true, true_and, and_true, and_self, false_and, and_false, Bool.and_true, Bool.true_and, not_true_eq_false, not_false_eq_true, if_true, if_false, ite_true, ite_false, ik_bz3_0, ik_bz3_1, ik_bz0, wE_ite, mB, mN, isI, c1, c2, wF_eq e2]
  · refine ⟨.int (-1), x, m, eq_of_wF ?_, eq_of_wF ?_, h0⟩
    · unfold fX11_against
      simp (decide := true) only [wE_lit, wL_lit, wE_loc, wL_loc, wE_add, wE_sub, wE_mul, wE_and, wE_or, wE_xor, wE_shl, wE_shr, wE_ushr, wE_div, wE_rem, wE_neg, wE_i2b, wE_l2i, wL_i2l, wL_add, wL_mul, wE_fld, wL_fld, wE_arr, wL_arr, wC_cmp, wC_cmp0, wC_cmpL, wC_and, wC_or, wC_not, wC_ite, wL_ite, wA_nil, wA_int, wA_long, wE_call, wL_call, wS_skip, wS_seq, wS_set, wS_setL, wS_inc, wS_if, wS_put, wS_putL, wS_putOp, wS_putOpL, wS_ast, wS_astL, wS_aop, wS_aopL, wS_ret, wS_retL, wS_retV, wS_do, wS_pop, wS_dead, wS_sw, wF_body, Nat.reduceAdd, Nat.zero_add, Bool.not_not, true_and, and_true, if_true, if_false, ↓reduceIte, eq_self, Value.int.injEq, Value.long.injEq, exists_eq_left', ik_b1, ik_b0, ik_bz0, ik_bz3, ik_bz3_1, ik_bz3_0, ik_cmp, ik_cmpL, ik_eI, ik_eL, ik_as, fB, fN]
      by_cases h1 : isI a B <;> by_cases h2 : isI b N <;> first | exact absurd (And.intro h1 h2) hc | (simp (decide := true) only [isI] at h1 h2 ⊢; simp (decide := true) only [h1, h2, ik_i0, ik_i1, decide_eq_true_eq, decide_eq_false_iff_not, decide_true, decide_false, Bool.not_true, Bool.not_false, reduceCtorEq, forall_const, false_implies, true_implies, implies_true, true_and, and_true, and_self, false_and, and_false, Bool.and_true, Bool.true_and, not_true_eq_false, not_false_eq_true, if_true, if_false, ite_true, ite_false, ik_bz3_0, ik_bz3_1, ik_bz0])
    · unfold fX12_against
      simp (decide := true) only [wE_lit, wL_lit, wE_loc, wL_loc, wE_add, wE_sub, wE_mul, wE_and, wE_or, wE_xor, wE_shl, wE_shr, wE_ushr, wE_div, wE_rem, wE_neg, wE_i2b, wE_l2i, wL_i2l, wL_add, wL_mul, wE_fld, wL_fld, wE_arr, wL_arr, wC_cmp, wC_cmp0, wC_cmpL, wC_and, wC_or, wC_not, wC_ite, wL_ite, wA_nil, wA_int, wA_long, wE_call, wL_call, wS_skip, wS_seq, wS_set, wS_setL, wS_inc, wS_if, wS_put, wS_putL, wS_putOp, wS_putOpL, wS_ast, wS_astL, wS_aop, wS_aopL, wS_ret, wS_retL, wS_retV, wS_do, wS_pop, wS_dead, wS_sw, wF_body, Nat.reduceAdd, Nat.zero_add, Bool.not_not, true_and, and_true, if_true, if_false, ↓reduceIte, eq_self, Value.int.injEq, Value.long.injEq, exists_eq_left', ik_b1, ik_b0, ik_bz0, ik_bz3, ik_bz3_1, ik_bz3_0, ik_cmp, ik_cmpL, ik_eI, ik_eL, ik_as, wE_ite, mB, mN]
      by_cases h1 : isI a B <;> by_cases h2 : isI b N <;> first | exact absurd (And.intro h1 h2) hc | (simp (decide := true) only [isI] at h1 h2 ⊢; simp (decide := true) only [h1, h2, ik_i0, ik_i1, decide_eq_true_eq, decide_eq_false_iff_not, decide_true, decide_false, Bool.not_true, Bool.not_false, reduceCtorEq, forall_const, false_implies, true_implies, implies_true, true_and, and_true, and_self, false_and, and_false, Bool.and_true, Bool.true_and, not_true_eq_false, not_false_eq_true, if_true, if_false, ite_true, ite_false, ik_bz3_0, ik_bz3_1, ik_bz0])
