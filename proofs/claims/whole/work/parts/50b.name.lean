theorem op_name (a s f t w : Int32) (x m : GG) (h : Rel x m) : ∃ v x' m', fX11_name [.int a, .int s, .int f, .int t, .int w] x = some (v, x') ∧ fX12_name [.int a, .int s, .int f, .int t, .int w] m = some (v, m') ∧ Rel x' m' := by
  obtain ⟨N, B, S, h⟩ := h
  have h0 := h
  obtain ⟨hT, hL, hN, hB, hTi, hLi, hH, hC, hNo, hS, hR, hQ⟩ := h
  obtain ⟨T, hT1, hT2, hT3, b, hb⟩ := hT.byte
  have fF : ∀ Q : Value → GG → Prop, wF fX6_full [] x Q ↔ Q (.int (if 24 ≤ N then 1 else 0)) x := fun Q => w_full (M := 24) rfl (by have := hN.1; omega) (by omega) hN.2.1 Q
  have e24 : (nI N = 24) ↔ N = 24 := nI_ne_of rfl (by have := hN.1; omega) (by omega)
  have hN24 := hN.1
  by_cases hc : ((1 ≤ a ∧ a ≤ 12) ∧ (0 ≤ s ∧ s ≤ 7) ∧ (0 ≤ f ∧ f ≤ 199) ∧ (f ≤ t ∧ t ≤ 199) ∧ (1 ≤ w ∧ w ≤ 100)) ∧ N < 24 ∧ ¬ nI T < a
  · obtain ⟨⟨c0, c1, c2, c3, c4⟩, c5, c6⟩ := hc
    obtain ⟨n, hn, rfl⟩ := nI_of3 (x := a) (a := 12) (by omega) (Int32.le_trans (by decide) c0.1) c0.2
    have hn0 : 1 ≤ n := (nI_leI (a := 1) (by omega) (by omega)).mp c0.1
    have hnT : n ≤ T := by
      rw [Int32.not_lt, nI_leI (by omega) (by omega)] at c6
      exact c6
    have c7 : ¬ 24 ≤ N := by omega
    obtain ⟨v, g, e1, e2⟩ := w_read6 (x := x) (N := N) (n := n) (t := T) (b := b) hN.2.2.2.1 c5 hN.2.1 hn hT1 hnT hT2 (fun k hk => ⟨(hb k hk).1, (hb k hk).2.1⟩) (fun i hi => by obtain ⟨⟨l, l1, l2, l3, -⟩, -⟩ := hN.2.2.2.2.1 i hi; exact ⟨l, l2, l3⟩)
    obtain ⟨v', g', e3, e4⟩ := w_nameM (m := m) (N := N) (n := n) (T := T) (b := b) c5 hN.2.2.1 hn0 hn hT1 hnT hT3 (fun k hk => ⟨(hb k hk).1, (hb k hk).2.2⟩) (fun i hi => by obtain ⟨⟨l, l1, l2, l3, l4, -⟩, -⟩ := hN.2.2.2.2.1 i hi; exact ⟨l, l2, l4⟩) c1 c2 c3 c4
    have clr : ∀ (g : GG) (Q : Value → GG → Prop), wF fX9_clear [] g Q ↔ Q .null (ik_si g 1 1 0) := by
      intro g Q
      refine wF_eq (eq_of_wF ?_) Q
      unfold fX9_clear
      simp (decide := true) only [wE_lit, wL_lit, wE_loc, wL_loc, wE_add, wE_sub, wE_mul, wE_and, wE_or, wE_xor, wE_shl, wE_shr, wE_ushr, wE_div, wE_rem, wE_neg, wE_i2b, wE_l2i, wL_i2l, wL_add, wL_mul, wE_fld, wL_fld, wE_arr, wL_arr, wC_cmp, wC_cmp0, wC_cmpL, wC_and, wC_or, wC_not, wC_ite, wL_ite, wA_nil, wA_int, wA_long, wE_call, wL_call, wS_skip, wS_seq, wS_set, wS_setL, wS_inc, wS_if, wS_put, wS_putL, wS_putOp, wS_putOpL, wS_ast, wS_astL, wS_aop, wS_aopL, wS_ret, wS_retL, wS_retV, wS_do, wS_pop, wS_dead, wS_sw, wF_body, Nat.reduceAdd, Nat.zero_add, Bool.not_not, true_and, and_true, if_true, if_false, ↓reduceIte, eq_self, Value.int.injEq, Value.long.injEq, exists_eq_left', ik_b1, ik_b0, ik_bz0, ik_bz3, ik_bz3_1, ik_bz3_0, ik_cmp, ik_cmpL, ik_eI, ik_eL, ik_as]
    have good : ik_nG (ik_m1 m N n b) N n b 5 4 ↔ (∀ q, q < n → ik_lb (b q)) ∧ ∀ i, i < N → ik_cn ((ik_nm x N n b).1 9) ((ik_nm x N n b).1 8) i N ≠ 0 := by
      unfold ik_nG
      constructor
      · rintro ⟨q1, q2⟩
        have hW := name_rows (s := s) (f := f) (t := t) (w := w) (b := b) hN hn0 hn q1
        refine ⟨q1, fun i hi e => q2 i hi ?_⟩
        have sg := ik_cn_sg (hW i (by omega)) (hW N (by omega))
        unfold ik_nx ik_ny at sg
        simp (decide := true) only [ik_si_row, ad_off] at sg
        exact sg.1.mp e
      · rintro ⟨q1, q2⟩
        have hW := name_rows (s := s) (f := f) (t := t) (w := w) (b := b) hN hn0 hn q1
        refine ⟨q1, fun i hi e => q2 i hi ?_⟩
        have sg := ik_cn_sg (hW i (by omega)) (hW N (by omega))
        unfold ik_nx ik_ny at sg
        simp (decide := true) only [ik_si_row, ad_off] at sg
        exact sg.1.mpr e
    rcases e2 with ⟨rfl, rfl, q1, q2⟩ | ⟨rfl, q1, k, hk, rfl⟩
    · rcases e4 with ⟨rfl, rfl, r1⟩ | ⟨rfl, r1, r2⟩
      · refine ⟨.int (nI N), ik_nx x N n b s f t w, ik_ny m N n b s f t w, eq_of_wF ?_, e3, name_yes h0 c5 hn0 hn c1 c2 c3 c4 q1 q2⟩
        have y6 : (ik_si (ik_si (ik_nm x N n b) 1 1 0) 0 13 0).1 6 6 = nI N := by
          simp (decide := true) only [ik_si_row, nm_off]
          exact hN.2.1
        have y7 : (ik_si (ik_si (ik_nm x N n b) 1 1 0) 0 13 0).1 7 0 = nI 24 := by
          simp (decide := true) only [ik_si_row, nm_off]
          exact hN.2.2.2.1
        have y9 : (ik_si (ik_si (ik_nm x N n b) 1 1 0) 0 13 0).1 9 = (ik_nm x N n b).1 9 := by simp (decide := true) only [ik_si_row]
        have y8 : (ik_si (ik_si (ik_nm x N n b) 1 1 0) 0 13 0).1 8 = (ik_nm x N n b).1 8 := by simp (decide := true) only [ik_si_row]
        have ad := w_add6 (g := ik_si (ik_si (ik_nm x N n b) 1 1 0) 0 13 0) (N := N) (n := n) y7 c5 y6 (fun i hi => by obtain ⟨⟨l, l1, l2, l3, -⟩, -⟩ := hN.2.2.2.2.1 i hi; exact ⟨l, l2, by rw [y9, nm_9o (by omega)]; exact l3⟩) hn (by rw [y9]; exact nm_9 _ _ _ _) s f t w
        rw [y8, y9] at ad
        unfold fX11_name ik_nx
        simp (decide := true) only [wE_lit, wL_lit, wE_loc, wL_loc, wE_add, wE_sub, wE_mul, wE_and, wE_or, wE_xor, wE_shl, wE_shr, wE_ushr, wE_div, wE_rem, wE_neg, wE_i2b, wE_l2i, wL_i2l, wL_add, wL_mul, wE_fld, wL_fld, wE_arr, wL_arr, wC_cmp, wC_cmp0, wC_cmpL, wC_and, wC_or, wC_not, wC_ite, wL_ite, wA_nil, wA_int, wA_long, wE_call, wL_call, wS_skip, wS_seq, wS_set, wS_setL, wS_inc, wS_if, wS_put, wS_putL, wS_putOp, wS_putOpL, wS_ast, wS_astL, wS_aop, wS_aopL, wS_ret, wS_retL, wS_retV, wS_do, wS_pop, wS_dead, wS_sw, wF_body, Nat.reduceAdd, Nat.zero_add, Bool.not_not, true_and, and_true, if_true, if_false, ↓reduceIte, eq_self, Value.int.injEq, Value.long.injEq, exists_eq_left', ik_b1, ik_b0, ik_bz0, ik_bz3, ik_bz3_1, ik_bz3_0, ik_cmp, ik_cmpL, ik_eI, ik_eL, ik_as, ik_i0, ik_i1, decide_eq_true_eq, decide_eq_false_iff_not, decide_true, decide_false, Bool.not_true, Bool.not_false, reduceCtorEq, forall_const, false_implies, true_implies, implies_true, true_and, and_true, and_self, false_and, and_false, Bool.and_true, Bool.true_and, not_true_eq_false, not_false_eq_true, if_true, if_false, ite_true, ite_false, ik_bz3_0, ik_bz3_1, ik_bz0, w_within, c0, c1, c2, c3, c4, fF, c7, w_length, hT2, c6, wF_eq e1, clr, w_changed, upd_at, upd_off, ad]
      · exact absurd (good.mpr ⟨q1, q2⟩) r1
    · rcases e4 with ⟨rfl, rfl, r1⟩ | ⟨rfl, r1, k', hk', rfl⟩
      · exact absurd (good.mp r1) q1
      · refine ⟨.int (-2), _, _, eq_of_wF ?_, e3, name_no (k := k) h0⟩
        unfold fX11_name
        simp (decide := true) only [wE_lit, wL_lit, wE_loc, wL_loc, wE_add, wE_sub, wE_mul, wE_and, wE_or, wE_xor, wE_shl, wE_shr, wE_ushr, wE_div, wE_rem, wE_neg, wE_i2b, wE_l2i, wL_i2l, wL_add, wL_mul, wE_fld, wL_fld, wE_arr, wL_arr, wC_cmp, wC_cmp0, wC_cmpL, wC_and, wC_or, wC_not, wC_ite, wL_ite, wA_nil, wA_int, wA_long, wE_call, wL_call, wS_skip, wS_seq, wS_set, wS_setL, wS_inc, wS_if, wS_put, wS_putL, wS_putOp, wS_putOpL, wS_ast, wS_astL, wS_aop, wS_aopL, wS_ret, wS_retL, wS_retV, wS_do, wS_pop, wS_dead, wS_sw, wF_body, Nat.reduceAdd, Nat.zero_add, Bool.not_not, true_and, and_true, if_true, if_false, ↓reduceIte, eq_self, Value.int.injEq, Value.long.injEq, exists_eq_left', ik_b1, ik_b0, ik_bz0, ik_bz3, ik_bz3_1, ik_bz3_0, ik_cmp, ik_cmpL, ik_eI, ik_eL, ik_as, ik_i0, ik_i1, decide_eq_true_eq, decide_eq_false_iff_not, decide_true, decide_false, Bool.not_true, Bool.not_false, reduceCtorEq, forall_const, false_implies, true_implies, implies_true, true_and, and_true, and_self, false_and, and_false, Bool.and_true, Bool.true_and, not_true_eq_false, not_false_eq_true, if_true, if_false, ite_true, ite_false, ik_bz3_0, ik_bz3_1, ik_bz0, w_within, c0, c1, c2, c3, c4, fF, c7, w_length, hT2, c6, wF_eq e1, clr, upd_at, upd_off]
  · refine ⟨.int (-1), x, m, eq_of_wF ?_, eq_of_wF ?_, N, B, S, h0⟩
    · unfold fX11_name
      simp (decide := true) only [wE_lit, wL_lit, wE_loc, wL_loc, wE_add, wE_sub, wE_mul, wE_and, wE_or, wE_xor, wE_shl, wE_shr, wE_ushr, wE_div, wE_rem, wE_neg, wE_i2b, wE_l2i, wL_i2l, wL_add, wL_mul, wE_fld, wL_fld, wE_arr, wL_arr, wC_cmp, wC_cmp0, wC_cmpL, wC_and, wC_or, wC_not, wC_ite, wL_ite, wA_nil, wA_int, wA_long, wE_call, wL_call, wS_skip, wS_seq, wS_set, wS_setL, wS_inc, wS_if, wS_put, wS_putL, wS_putOp, wS_putOpL, wS_ast, wS_astL, wS_aop, wS_aopL, wS_ret, wS_retL, wS_retV, wS_do, wS_pop, wS_dead, wS_sw, wF_body, Nat.reduceAdd, Nat.zero_add, Bool.not_not, true_and, and_true, if_true, if_false, ↓reduceIte, eq_self, Value.int.injEq, Value.long.injEq, exists_eq_left', ik_b1, ik_b0, ik_bz0, ik_bz3, ik_bz3_1, ik_bz3_0, ik_cmp, ik_cmpL, ik_eI, ik_eL, ik_as, w_within, fF, w_length, hT2]
      by_cases h0 : ¬ (1 ≤ a ∧ a ≤ 12)
      · simp (decide := true) only [h0, ik_i0, ik_i1, decide_eq_true_eq, decide_eq_false_iff_not, decide_true, decide_false, Bool.not_true, Bool.not_false, reduceCtorEq, forall_const, false_implies, true_implies, implies_true, true_and, and_true, and_self, false_and, and_false, Bool.and_true, Bool.true_and, not_true_eq_false, not_false_eq_true, if_true, if_false, ite_true, ite_false, ik_bz3_0, ik_bz3_1, ik_bz0]
      replace h0 := Classical.not_not.mp h0
      by_cases h1 : ¬ (0 ≤ s ∧ s ≤ 7)
      · simp (decide := true) only [h0, h1, ik_i0, ik_i1, decide_eq_true_eq, decide_eq_false_iff_not, decide_true, decide_false, Bool.not_true, Bool.not_false, reduceCtorEq, forall_const, false_implies, true_implies, implies_true, true_and, and_true, and_self, false_and, and_false, Bool.and_true, Bool.true_and, not_true_eq_false, not_false_eq_true, if_true, if_false, ite_true, ite_false, ik_bz3_0, ik_bz3_1, ik_bz0]
      replace h1 := Classical.not_not.mp h1
      by_cases h2 : ¬ (0 ≤ f ∧ f ≤ 199)
      · simp (decide := true) only [h0, h1, h2, ik_i0, ik_i1, decide_eq_true_eq, decide_eq_false_iff_not, decide_true, decide_false, Bool.not_true, Bool.not_false, reduceCtorEq, forall_const, false_implies, true_implies, implies_true, true_and, and_true, and_self, false_and, and_false, Bool.and_true, Bool.true_and, not_true_eq_false, not_false_eq_true, if_true, if_false, ite_true, ite_false, ik_bz3_0, ik_bz3_1, ik_bz0]
      replace h2 := Classical.not_not.mp h2
      by_cases h3 : ¬ (f ≤ t ∧ t ≤ 199)
      · simp (decide := true) only [h0, h1, h2, h3, ik_i0, ik_i1, decide_eq_true_eq, decide_eq_false_iff_not, decide_true, decide_false, Bool.not_true, Bool.not_false, reduceCtorEq, forall_const, false_implies, true_implies, implies_true, true_and, and_true, and_self, false_and, and_false, Bool.and_true, Bool.true_and, not_true_eq_false, not_false_eq_true, if_true, if_false, ite_true, ite_false, ik_bz3_0, ik_bz3_1, ik_bz0]
      replace h3 := Classical.not_not.mp h3
      by_cases h4 : ¬ (1 ≤ w ∧ w ≤ 100)
      · simp (decide := true) only [h0, h1, h2, h3, h4, ik_i0, ik_i1, decide_eq_true_eq, decide_eq_false_iff_not, decide_true, decide_false, Bool.not_true, Bool.not_false, reduceCtorEq, forall_const, false_implies, true_implies, implies_true, true_and, and_true, and_self, false_and, and_false, Bool.and_true, Bool.true_and, not_true_eq_false, not_false_eq_true, if_true, if_false, ite_true, ite_false, ik_bz3_0, ik_bz3_1, ik_bz0]
      replace h4 := Classical.not_not.mp h4
      by_cases h5 : 24 ≤ N
      · simp (decide := true) only [h0, h1, h2, h3, h4, h5, ik_i0, ik_i1, decide_eq_true_eq, decide_eq_false_iff_not, decide_true, decide_false, Bool.not_true, Bool.not_false, reduceCtorEq, forall_const, false_implies, true_implies, implies_true, true_and, and_true, and_self, false_and, and_false, Bool.and_true, Bool.true_and, not_true_eq_false, not_false_eq_true, if_true, if_false, ite_true, ite_false, ik_bz3_0, ik_bz3_1, ik_bz0]
      by_cases h6 : nI T < a
      · simp (decide := true) only [h0, h1, h2, h3, h4, h5, h6, ik_i0, ik_i1, decide_eq_true_eq, decide_eq_false_iff_not, decide_true, decide_false, Bool.not_true, Bool.not_false, reduceCtorEq, forall_const, false_implies, true_implies, implies_true, true_and, and_true, and_self, false_and, and_false, Bool.and_true, Bool.true_and, not_true_eq_false, not_false_eq_true, if_true, if_false, ite_true, ite_false, ik_bz3_0, ik_bz3_1, ik_bz0]
      exact absurd (And.intro (And.intro h0 (And.intro h1 (And.intro h2 (And.intro h3 h4)))) (And.intro (by omega) h6)) hc
    · unfold fX12_name
      simp (decide := true) only [wE_lit, wL_lit, wE_loc, wL_loc, wE_add, wE_sub, wE_mul, wE_and, wE_or, wE_xor, wE_shl, wE_shr, wE_ushr, wE_div, wE_rem, wE_neg, wE_i2b, wE_l2i, wL_i2l, wL_add, wL_mul, wE_fld, wL_fld, wE_arr, wL_arr, wC_cmp, wC_cmp0, wC_cmpL, wC_and, wC_or, wC_not, wC_ite, wL_ite, wA_nil, wA_int, wA_long, wE_call, wL_call, wS_skip, wS_seq, wS_set, wS_setL, wS_inc, wS_if, wS_put, wS_putL, wS_putOp, wS_putOpL, wS_ast, wS_astL, wS_aop, wS_aopL, wS_ret, wS_retL, wS_retV, wS_do, wS_pop, wS_dead, wS_sw, wF_body, Nat.reduceAdd, Nat.zero_add, Bool.not_not, true_and, and_true, if_true, if_false, ↓reduceIte, eq_self, Value.int.injEq, Value.long.injEq, exists_eq_left', ik_b1, ik_b0, ik_bz0, ik_bz3, ik_bz3_1, ik_bz3_0, ik_cmp, ik_cmpL, ik_eI, ik_eL, ik_as, i64_n20, i64_n1, l64_0, l64_1, l64_2, l64_3, l64_7, l64_12, l64_19, l64_20, l64_23, l64_24, l64_26, l64_29, l64_40, l64_50, l64_60, l64_63, l64_100, l64_160, l64_199, l64_255, l64_1000, l64_3000, l64_5000, l64_9999, l64_m1, l64_m20, w_lies, hN.2.2.1, e24, hT3]
      by_cases h5 : N = 24
      · simp (decide := true) only [h5, ik_i0, ik_i1, decide_eq_true_eq, decide_eq_false_iff_not, decide_true, decide_false, Bool.not_true, Bool.not_false, reduceCtorEq, forall_const, false_implies, true_implies, implies_true, true_and, and_true, and_self, false_and, and_false, Bool.and_true, Bool.true_and, not_true_eq_false, not_false_eq_true, if_true, if_false, ite_true, ite_false, ik_bz3_0, ik_bz3_1, ik_bz0]
      by_cases h0 : ¬ (1 ≤ a ∧ a ≤ 12)
      · simp (decide := true) only [h5, h0, ik_i0, ik_i1, decide_eq_true_eq, decide_eq_false_iff_not, decide_true, decide_false, Bool.not_true, Bool.not_false, reduceCtorEq, forall_const, false_implies, true_implies, implies_true, true_and, and_true, and_self, false_and, and_false, Bool.and_true, Bool.true_and, not_true_eq_false, not_false_eq_true, if_true, if_false, ite_true, ite_false, ik_bz3_0, ik_bz3_1, ik_bz0]
      replace h0 := Classical.not_not.mp h0
      by_cases h6 : nI T < a
      · simp (decide := true) only [h5, h0, h6, ik_i0, ik_i1, decide_eq_true_eq, decide_eq_false_iff_not, decide_true, decide_false, Bool.not_true, Bool.not_false, reduceCtorEq, forall_const, false_implies, true_implies, implies_true, true_and, and_true, and_self, false_and, and_false, Bool.and_true, Bool.true_and, not_true_eq_false, not_false_eq_true, if_true, if_false, ite_true, ite_false, ik_bz3_0, ik_bz3_1, ik_bz0]
      by_cases h1 : ¬ (0 ≤ s ∧ s ≤ 7)
      · simp (decide := true) only [h5, h0, h6, h1, ik_i0, ik_i1, decide_eq_true_eq, decide_eq_false_iff_not, decide_true, decide_false, Bool.not_true, Bool.not_false, reduceCtorEq, forall_const, false_implies, true_implies, implies_true, true_and, and_true, and_self, false_and, and_false, Bool.and_true, Bool.true_and, not_true_eq_false, not_false_eq_true, if_true, if_false, ite_true, ite_false, ik_bz3_0, ik_bz3_1, ik_bz0]
      replace h1 := Classical.not_not.mp h1
      by_cases h2 : ¬ (0 ≤ f ∧ f ≤ 199)
      · simp (decide := true) only [h5, h0, h6, h1, h2, ik_i0, ik_i1, decide_eq_true_eq, decide_eq_false_iff_not, decide_true, decide_false, Bool.not_true, Bool.not_false, reduceCtorEq, forall_const, false_implies, true_implies, implies_true, true_and, and_true, and_self, false_and, and_false, Bool.and_true, Bool.true_and, not_true_eq_false, not_false_eq_true, if_true, if_false, ite_true, ite_false, ik_bz3_0, ik_bz3_1, ik_bz0]
      replace h2 := Classical.not_not.mp h2
      by_cases h3 : ¬ (f ≤ t ∧ t ≤ 199)
      · simp (decide := true) only [h5, h0, h6, h1, h2, h3, ik_i0, ik_i1, decide_eq_true_eq, decide_eq_false_iff_not, decide_true, decide_false, Bool.not_true, Bool.not_false, reduceCtorEq, forall_const, false_implies, true_implies, implies_true, true_and, and_true, and_self, false_and, and_false, Bool.and_true, Bool.true_and, not_true_eq_false, not_false_eq_true, if_true, if_false, ite_true, ite_false, ik_bz3_0, ik_bz3_1, ik_bz0]
      replace h3 := Classical.not_not.mp h3
      by_cases h4 : ¬ (1 ≤ w ∧ w ≤ 100)
      · simp (decide := true) only [h5, h0, h6, h1, h2, h3, h4, ik_i0, ik_i1, decide_eq_true_eq, decide_eq_false_iff_not, decide_true, decide_false, Bool.not_true, Bool.not_false, reduceCtorEq, forall_const, false_implies, true_implies, implies_true, true_and, and_true, and_self, false_and, and_false, Bool.and_true, Bool.true_and, not_true_eq_false, not_false_eq_true, if_true, if_false, ite_true, ite_false, ik_bz3_0, ik_bz3_1, ik_bz0]
      replace h4 := Classical.not_not.mp h4
      exact absurd (And.intro (And.intro h0 (And.intro h1 (And.intro h2 (And.intro h3 h4)))) (And.intro (by omega) h6)) hc
