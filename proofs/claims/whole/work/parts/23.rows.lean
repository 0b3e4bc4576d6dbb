/-! rows that are added: bars, listed ones, lifted ones, copies -/
theorem rTi.mono {x m : GG} {B B' : Nat} (h : rTi x m B) (hB : B ≤ B') : rTi x m B' := by
  obtain ⟨n, h1, h2, h3, h4⟩ := h
  refine ⟨n, h1, h2, h3, fun t ht => ?_⟩
  obtain ⟨a1, a2, a3, a4, ⟨a, a5, a6⟩, ⟨b, b5, b6⟩, a7⟩ := h4 t ht
  exact ⟨a1, a2, a3, a4, ⟨a, by omega, a6⟩, ⟨b, by omega, b6⟩, a7⟩
theorem rO.mono {v : Int32} {N N' : Nat} (h : rO v N) (hN : N ≤ N') : rO v N' := by
  rcases h with h | ⟨a, h1, h2⟩
  · exact Or.inl h
  · exact Or.inr ⟨a, by omega, h2⟩
theorem rLi.mono {x m : GG} {N B N' B' : Nat} (h : rLi x m N B) (hN : N ≤ N') (hB : B ≤ B') : rLi x m N' B' := by
  obtain ⟨n, h1, h2, h3, h4⟩ := h
  refine ⟨n, h1, h2, h3, fun t ht => ?_⟩
  obtain ⟨a1, a2, a3, ⟨a, a5, a6⟩, a7, a8⟩ := h4 t ht
  exact ⟨a1, a2, a3, ⟨a, by omega, a6⟩, a7.mono hN, a8.mono hN⟩
theorem rH.mono {x m : GG} {N N' : Nat} (h : rH x m N) (hN : N ≤ N') : rH x m N' := by
  obtain ⟨⟨n, h1, h2, h3, h4⟩, h5⟩ := h
  refine ⟨⟨n, h1, h2, h3, fun t ht => ?_⟩, h5⟩
  obtain ⟨a1, a2, a3, a4, ⟨a, a5, a6⟩, a7⟩ := h4 t ht
  exact ⟨a1, a2, a3, a4, ⟨a, by omega, a6⟩, a7⟩
theorem rS.mono {x m : GG} {S B B' : Nat} (h : rS x m S B) (hB : B ≤ B') : rS x m S B' := by
  obtain ⟨h1, h2, h3, h4, h5, h6⟩ := h
  refine ⟨h1, h2, h3, h4, fun s hs => ?_, h6⟩
  obtain ⟨a1, a2, n, a3, a4, a5, a6, a7, a8⟩ := h5 s hs
  refine ⟨a1, a2, n, a3, a4, a5, a6, a7, fun t ht => ?_⟩
  obtain ⟨b1, b2, b3⟩ := a8 t ht
  refine ⟨?_, b2, b3⟩
  rcases b1 with ⟨k, c1, c2⟩ | c
  · exact Or.inl ⟨k, by omega, c2⟩
  · exact Or.inr c
theorem nI_ne_of {a M : Nat} {c : Int32} (hc : c = nI M) (ha : a < 2 ^ 31) (hM : M < 2 ^ 31) : (nI a = c) ↔ a = M := by subst hc; exact nI_eq ha hM
theorem op_bar (a b c : Int32) (x m : GG) (h : Rel x m) : ∃ v x' m', fX11_bar [.int a, .int b, .int c] x = some (v, x') ∧ fX12_bar [.int a, .int b, .int c] m = some (v, m') ∧ Rel x' m' := by
  obtain ⟨N, B, S, hT, hL, hN, hB, hTi, hLi, hH, hC, hNo, hS, hR, hQ⟩ := h
  obtain ⟨b1, b2, b3, b4⟩ := hB
  have fF : ∀ Q : Value → GG → Prop, wF fX0_full [] x Q ↔ Q (.int (if 4 ≤ B then 1 else 0)) x := fun Q => w_full (M := 4) rfl (by omega) (by omega) b2 Q
  have fF' : ∀ (g : GG) (_ : g.1 15 9 = nI B) (Q : Value → GG → Prop), wF fX0_full [] g Q ↔ Q (.int (if 4 ≤ B then 1 else 0)) g := fun g hg Q => w_full (M := 4) rfl (by omega) (by omega) hg Q
  have e4 : (nI B = 4) ↔ B = 4 := nI_ne_of rfl (by omega) (by omega)
  by_cases hc : ((1 ≤ a ∧ a ≤ 3000) ∧ (-1 ≤ b ∧ b ≤ 199) ∧ (0 ≤ c ∧ c ≤ 255)) ∧ B < 4
  · obtain ⟨⟨c1, c2, c3⟩, c5⟩ := hc
    have ix := ik_ix_nI (show B < 4 by omega) (by omega)
    have c6 : ¬ 4 ≤ B := by omega
    have c7 : ¬ B = 4 := by omega
    have c8 : ¬ nI B < 0 := by rw [Int32.not_lt]; exact nI_pos' (by omega)
    refine ⟨.int (nI B), ik_si (ik_si (ik_si (ik_si (ik_si x 0 13 0) 16 B a) 17 B b) 18 B c) 15 9 (nI (B + 1)), ik_si (ik_si (ik_si (ik_si m 10 B a) 11 B b) 12 B c) 0 3 (nI (B + 1)), eq_of_wF ?_, eq_of_wF ?_, N, B + 1, S, by simpa [ik_si] using hT, by simpa [ik_si] using hL, hN.frk ?_ ?_, ?_, (hTi.mono (by omega : B ≤ B + 1)).frk ?_ ?_, (hLi.mono (Nat.le_refl N) (by omega : B ≤ B + 1)).frk ?_ ?_, hH.frk ?_ ?_, hC.frk ?_ ?_, hNo.frk ?_ ?_, (hS.mono (by omega : B ≤ B + 1)).frk ?_ ?_, hR.fr ?_ ?_, rQ.new (by simp [ik_si])⟩
    any_goals (solve | (rw [ik_cut_si rfl]) | (rw [ik_cut_si rfl, ik_cut_si rfl]) | (rw [ik_cut_si rfl, ik_cut_si rfl, ik_cut_si rfl]) | (rw [ik_cut_si rfl, ik_cut_si rfl, ik_cut_si rfl, ik_cut_si rfl]) | (rw [ik_cut_si rfl, ik_cut_si rfl, ik_cut_si rfl, ik_cut_si rfl, ik_cut_si rfl]) | (rw [ik_cut_si rfl, ik_cut_si rfl, ik_cut_si rfl, ik_cut_si rfl, ik_cut_si rfl, ik_cut_si rfl]) | (rw [ik_cut_si rfl, ik_cut_si rfl, ik_cut_si rfl, ik_cut_si rfl, ik_cut_si rfl, ik_cut_si rfl, ik_cut_si rfl]))
    · have e : fX0_add [.int a, .int b, .int c] (ik_si x 0 13 0) = some (.int (nI B), ik_si (ik_si (ik_si (ik_si (ik_si x 0 13 0) 16 B a) 17 B b) 18 B c) 15 9 (nI (B + 1))) := by
        apply eq_of_wF
        have b2' : (ik_si x 0 13 0).1 15 9 = nI B := by simpa [ik_si] using b2
        unfold fX0_add
        simp (decide := true) only [wE_lit, wL_lit, wE_loc, wL_loc, wE_add, wE_sub, wE_mul, wE_and, wE_or, wE_xor, wE_shl, wE_shr, wE_ushr, wE_div, wE_rem, wE_neg, wE_i2b, wE_l2i, wL_i2l, wL_add, wL_mul, wE_fld, wL_fld, wE_arr, wL_arr, wC_cmp, wC_cmp0, wC_cmpL, wC_and, wC_or, wC_not, wC_ite, wL_ite, wA_nil, wA_int, wA_long, wE_call, wL_call, wS_skip, wS_seq, wS_set, wS_setL, wS_inc, wS_if, wS_put, wS_putL, wS_putOp, wS_putOpL, wS_ast, wS_astL, wS_aop, wS_aopL, wS_ret, wS_retL, wS_retV, wS_do, wS_pop, wS_dead, wS_sw, wF_body, Nat.reduceAdd, Nat.zero_add, Bool.not_not, true_and, and_true, if_true, if_false, ↓reduceIte, eq_self, Value.int.injEq, Value.long.injEq, exists_eq_left', ik_b1, ik_b0, ik_bz0, ik_bz3, ik_bz3_1, ik_bz3_0, ik_cmp, ik_cmpL, ik_eI, ik_eL, ik_as, ik_i0, ik_i1, decide_eq_true_eq, decide_eq_false_iff_not, decide_true, decide_false, Bool.not_true, Bool.not_false, reduceCtorEq, forall_const, false_implies, true_implies, implies_true, true_and, and_true, and_self, false_and, and_false, Bool.and_true, Bool.true_and, not_true_eq_false, not_false_eq_true, if_true, if_false, ite_true, ite_false, ik_bz3_0, ik_bz3_1, ik_bz0, fF' _ b2', b2', c6, c8, ix, ik_si_row, ik_si_ne, ik_si_same, Option.some.injEq, ik_bo, nI_1, nI_pred]
      unfold fX11_bar
      simp (decide := true) only [wE_lit, wL_lit, wE_loc, wL_loc, wE_add, wE_sub, wE_mul, wE_and, wE_or, wE_xor, wE_shl, wE_shr, wE_ushr, wE_div, wE_rem, wE_neg, wE_i2b, wE_l2i, wL_i2l, wL_add, wL_mul, wE_fld, wL_fld, wE_arr, wL_arr, wC_cmp, wC_cmp0, wC_cmpL, wC_and, wC_or, wC_not, wC_ite, wL_ite, wA_nil, wA_int, wA_long, wE_call, wL_call, wS_skip, wS_seq, wS_set, wS_setL, wS_inc, wS_if, wS_put, wS_putL, wS_putOp, wS_putOpL, wS_ast, wS_astL, wS_aop, wS_aopL, wS_ret, wS_retL, wS_retV, wS_do, wS_pop, wS_dead, wS_sw, wF_body, Nat.reduceAdd, Nat.zero_add, Bool.not_not, true_and, and_true, if_true, if_false, ↓reduceIte, eq_self, Value.int.injEq, Value.long.injEq, exists_eq_left', ik_b1, ik_b0, ik_bz0, ik_bz3, ik_bz3_1, ik_bz3_0, ik_cmp, ik_cmpL, ik_eI, ik_eL, ik_as, ik_i0, ik_i1, decide_eq_true_eq, decide_eq_false_iff_not, decide_true, decide_false, Bool.not_true, Bool.not_false, reduceCtorEq, forall_const, false_implies, true_implies, implies_true, true_and, and_true, and_self, false_and, and_false, Bool.and_true, Bool.true_and, not_true_eq_false, not_false_eq_true, if_true, if_false, ite_true, ite_false, ik_bz3_0, ik_bz3_1, ik_bz0, w_within, fF, c1, c2, c3, c6, w_changed, wF_eq e]
    · unfold fX12_bar
      simp (decide := true) only [wE_lit, wL_lit, wE_loc, wL_loc, wE_add, wE_sub, wE_mul, wE_and, wE_or, wE_xor, wE_shl, wE_shr, wE_ushr, wE_div, wE_rem, wE_neg, wE_i2b, wE_l2i, wL_i2l, wL_add, wL_mul, wE_fld, wL_fld, wE_arr, wL_arr, wC_cmp, wC_cmp0, wC_cmpL, wC_and, wC_or, wC_not, wC_ite, wL_ite, wA_nil, wA_int, wA_long, wE_call, wL_call, wS_skip, wS_seq, wS_set, wS_setL, wS_inc, wS_if, wS_put, wS_putL, wS_putOp, wS_putOpL, wS_ast, wS_astL, wS_aop, wS_aopL, wS_ret, wS_retL, wS_retV, wS_do, wS_pop, wS_dead, wS_sw, wF_body, Nat.reduceAdd, Nat.zero_add, Bool.not_not, true_and, and_true, if_true, if_false, ↓reduceIte, eq_self, Value.int.injEq, Value.long.injEq, exists_eq_left', ik_b1, ik_b0, ik_bz0, ik_bz3, ik_bz3_1, ik_bz3_0, ik_cmp, ik_cmpL, ik_eI, ik_eL, ik_as, ik_i0, ik_i1, decide_eq_true_eq, decide_eq_false_iff_not, decide_true, decide_false, Bool.not_true, Bool.not_false, reduceCtorEq, forall_const, false_implies, true_implies, implies_true, true_and, and_true, and_self, false_and, and_false, Bool.and_true, Bool.true_and, not_true_eq_false, not_false_eq_true, if_true, if_false, ite_true, ite_false, ik_bz3_0, ik_bz3_1, ik_bz0, i64_n20, i64_n1, l64_0, l64_1, l64_2, l64_3, l64_7, l64_12, l64_19, l64_20, l64_23, l64_24, l64_26, l64_29, l64_40, l64_50, l64_60, l64_63, l64_100, l64_160, l64_199, l64_255, l64_1000, l64_3000, l64_5000, l64_9999, l64_m1, l64_m20, i64_n1, w_lies, c1, c2, c3, b3, e4, c7, ix, ik_si_row, ik_si_ne, ik_si_same, Option.some.injEq, ik_bo, nI_1, nI_pred]
    · refine ⟨by omega, by simp [ik_si], by simp [ik_si], fun t hlt => ?_⟩
      by_cases e : t = B
      · subst e
        simp only [ik_si]
        simp
        exact ⟨c1, c2, c3⟩
      · have h1 := b4 t (by omega)
        simpa [ik_si, e] using h1
  · refine ⟨.int (-1), x, m, eq_of_wF ?_, eq_of_wF ?_, N, B, S, hT, hL, hN, ⟨b1, b2, b3, b4⟩, hTi, hLi, hH, hC, hNo, hS, hR, hQ⟩
    · unfold fX11_bar
      simp (decide := true) only [wE_lit, wL_lit, wE_loc, wL_loc, wE_add, wE_sub, wE_mul, wE_and, wE_or, wE_xor, wE_shl, wE_shr, wE_ushr, wE_div, wE_rem, wE_neg, wE_i2b, wE_l2i, wL_i2l, wL_add, wL_mul, wE_fld, wL_fld, wE_arr, wL_arr, wC_cmp, wC_cmp0, wC_cmpL, wC_and, wC_or, wC_not, wC_ite, wL_ite, wA_nil, wA_int, wA_long, wE_call, wL_call, wS_skip, wS_seq, wS_set, wS_setL, wS_inc, wS_if, wS_put, wS_putL, wS_putOp, wS_putOpL, wS_ast, wS_astL, wS_aop, wS_aopL, wS_ret, wS_retL, wS_retV, wS_do, wS_pop, wS_dead, wS_sw, wF_body, Nat.reduceAdd, Nat.zero_add, Bool.not_not, true_and, and_true, if_true, if_false, ↓reduceIte, eq_self, Value.int.injEq, Value.long.injEq, exists_eq_left', ik_b1, ik_b0, ik_bz0, ik_bz3, ik_bz3_1, ik_bz3_0, ik_cmp, ik_cmpL, ik_eI, ik_eL, ik_as, w_within, fF]
      by_cases h1 : 1 ≤ a ∧ a ≤ 3000 <;> by_cases h2 : -1 ≤ b ∧ b ≤ 199 <;> by_cases h3 : 0 ≤ c ∧ c ≤ 255 <;> by_cases h5 : 4 ≤ B <;> first | exact absurd (And.intro (And.intro h1 (And.intro h2 h3)) (by omega)) hc | simp (decide := true) only [h1, h2, h3, h5, ik_i0, ik_i1, decide_eq_true_eq, decide_eq_false_iff_not, decide_true, decide_false, Bool.not_true, Bool.not_false, reduceCtorEq, forall_const, false_implies, true_implies, implies_true, true_and, and_true, and_self, false_and, and_false, Bool.and_true, Bool.true_and, not_true_eq_false, not_false_eq_true, if_true, if_false, ite_true, ite_false, ik_bz3_0, ik_bz3_1, ik_bz0]
    · unfold fX12_bar
      simp (decide := true) only [wE_lit, wL_lit, wE_loc, wL_loc, wE_add, wE_sub, wE_mul, wE_and, wE_or, wE_xor, wE_shl, wE_shr, wE_ushr, wE_div, wE_rem, wE_neg, wE_i2b, wE_l2i, wL_i2l, wL_add, wL_mul, wE_fld, wL_fld, wE_arr, wL_arr, wC_cmp, wC_cmp0, wC_cmpL, wC_and, wC_or, wC_not, wC_ite, wL_ite, wA_nil, wA_int, wA_long, wE_call, wL_call, wS_skip, wS_seq, wS_set, wS_setL, wS_inc, wS_if, wS_put, wS_putL, wS_putOp, wS_putOpL, wS_ast, wS_astL, wS_aop, wS_aopL, wS_ret, wS_retL, wS_retV, wS_do, wS_pop, wS_dead, wS_sw, wF_body, Nat.reduceAdd, Nat.zero_add, Bool.not_not, true_and, and_true, if_true, if_false, ↓reduceIte, eq_self, Value.int.injEq, Value.long.injEq, exists_eq_left', ik_b1, ik_b0, ik_bz0, ik_bz3, ik_bz3_1, ik_bz3_0, ik_cmp, ik_cmpL, ik_eI, ik_eL, ik_as, i64_n20, i64_n1, l64_0, l64_1, l64_2, l64_3, l64_7, l64_12, l64_19, l64_20, l64_23, l64_24, l64_26, l64_29, l64_40, l64_50, l64_60, l64_63, l64_100, l64_160, l64_199, l64_255, l64_1000, l64_3000, l64_5000, l64_9999, l64_m1, l64_m20, i64_n1, w_lies, b3, e4]
      by_cases h1 : 1 ≤ a ∧ a ≤ 3000 <;> by_cases h2 : -1 ≤ b ∧ b ≤ 199 <;> by_cases h3 : 0 ≤ c ∧ c ≤ 255 <;> by_cases h5 : B = 4 <;> first | exact absurd (And.intro (And.intro h1 (And.intro h2 h3)) (by omega)) hc | simp (decide := true) only [h1, h2, h3, h5, ik_i0, ik_i1, decide_eq_true_eq, decide_eq_false_iff_not, decide_true, decide_false, Bool.not_true, Bool.not_false, reduceCtorEq, forall_const, false_implies, true_implies, implies_true, true_and, and_true, and_self, false_and, and_false, Bool.and_true, Bool.true_and, not_true_eq_false, not_false_eq_true, if_true, if_false, ite_true, ite_false, ik_bz3_0, ik_bz3_1, ik_bz0]
