theorem rkN_le (V : Nat → Nat) (i : Nat) : rkN V i ≤ i := bgc_le _ _
theorem lN_i32 (n : Nat) : (lN n).toInt32 = nI n := lN_i n
theorem w_wrongX {g : GG} {N k q n : Nat} {V : Nat → Nat} (hk : k < 4) (hN : N ≤ 24) (eN : g.1 6 6 = nI N) (hn : n ≤ 400) (hg : g.1 1 1 = nI n) (hq : 8 * q ≤ n) (hV : ∀ i, i < N → g.2 62 (24 * k + i) = lN (V i) ∧ V i < 2 ^ 63) (Q : Value → GG → Prop) : wF fX11_firstWrong [.int (nI k), .int (nI q)] g Q ↔ Q (.int (ckV (nuA (g.1 2)) V q N)) g := by
  refine wF_eq (eq_of_wF ?_) Q
  have m2 : ∀ a, (2 : Int32) * nI a = nI (2 * a) := fun a => by rw [show (2 : Int32) = nI 2 from rfl, pk_mul]
  unfold fX11_firstWrong
  simp (decide := true) only [wE_lit, wL_lit, wE_loc, wL_loc, wE_add, wE_sub, wE_mul, wE_and, wE_or, wE_xor, wE_shl, wE_shr, wE_ushr, wE_div, wE_rem, wE_neg, wE_i2b, wE_l2i, wL_i2l, wL_add, wL_mul, wE_fld, wL_fld, wE_arr, wL_arr, wC_cmp, wC_cmp0, wC_cmpL, wC_and, wC_or, wC_not, wC_ite, wL_ite, wA_nil, wA_int, wA_long, wE_call, wL_call, wS_skip, wS_seq, wS_set, wS_setL, wS_inc, wS_if, wS_put, wS_putL, wS_putOp, wS_putOpL, wS_ast, wS_astL, wS_aop, wS_aopL, wS_ret, wS_retL, wS_retV, wS_do, wS_pop, wS_dead, wS_sw, wF_body, Nat.reduceAdd, Nat.zero_add, Bool.not_not, true_and, and_true, if_true, if_false, ↓reduceIte, eq_self, Value.int.injEq, Value.long.injEq, exists_eq_left', ik_b1, ik_b0, ik_bz0, ik_bz3, ik_bz3_1, ik_bz3_0, ik_cmp, ik_cmpL, ik_eI, ik_eL, ik_as, ik_i0, ik_i1, decide_eq_true_eq, decide_eq_false_iff_not, decide_true, decide_false, Bool.not_true, Bool.not_false, reduceCtorEq, forall_const, false_implies, true_implies, implies_true, true_and, and_true, and_self, false_and, and_false, Bool.and_true, Bool.true_and, not_true_eq_false, not_false_eq_true, if_true, if_false, ite_true, ite_false, ik_bz3_0, ik_bz3_1, ik_bz0]
  refine wS_for _ _ (fun i σ => σ.1 4 = nI i ∧ σ.1 1 = nI k ∧ σ.1 2 = nI q ∧ σ.1 3 = nI (2 * rkN V i) ∧ σ.2.2 = g ∧ ckF (nuA (g.1 2)) V q i = none ∧ rkN V i ≤ q) 0 N _ ⟨by simp [upd, nI_0], by simp [upd, ik_eI], by simp [upd, ik_eI], by simp [upd, rkN, bgc, nI_0], rfl, rfl, Nat.zero_le _⟩ (by omega) (by omega) ?_ ?_ ?_
  · rintro i ⟨s1, s2, s3⟩ h1 ⟨h2, -, -, -, h3, -⟩
    simp only at h2 h3
    subst h3
    simp (decide := true) only [wE_lit, wL_lit, wE_loc, wL_loc, wE_add, wE_sub, wE_mul, wE_and, wE_or, wE_xor, wE_shl, wE_shr, wE_ushr, wE_div, wE_rem, wE_neg, wE_i2b, wE_l2i, wL_i2l, wL_add, wL_mul, wE_fld, wL_fld, wE_arr, wL_arr, wC_cmp, wC_cmp0, wC_cmpL, wC_and, wC_or, wC_not, wC_ite, wL_ite, wA_nil, wA_int, wA_long, wE_call, wL_call, wS_skip, wS_seq, wS_set, wS_setL, wS_inc, wS_if, wS_put, wS_putL, wS_putOp, wS_putOpL, wS_ast, wS_astL, wS_aop, wS_aopL, wS_ret, wS_retL, wS_retV, wS_do, wS_pop, wS_dead, wS_sw, wF_body, Nat.reduceAdd, Nat.zero_add, Bool.not_not, true_and, and_true, if_true, if_false, ↓reduceIte, eq_self, Value.int.injEq, Value.long.injEq, exists_eq_left', ik_b1, ik_b0, ik_bz0, ik_bz3, ik_bz3_1, ik_bz3_0, ik_cmp, ik_cmpL, ik_eI, ik_eL, ik_as, ik_i0, ik_i1, decide_eq_true_eq, decide_eq_false_iff_not, decide_true, decide_false, Bool.not_true, Bool.not_false, reduceCtorEq, forall_const, false_implies, true_implies, implies_true, true_and, and_true, and_self, false_and, and_false, Bool.and_true, Bool.true_and, not_true_eq_false, not_false_eq_true, if_true, if_false, ite_true, ite_false, ik_bz3_0, ik_bz3_1, ik_bz0, w_cnt6, h2, eN, nI_ltI (show i < 2 ^ 31 by omega) (show N < 2 ^ 31 by omega)]
  · rintro i ⟨s1, s2, s3⟩ h1 ⟨h2, h3, h4, h5, h6, h7, h8⟩
    simp only at h2 h3 h4 h5 h6
    subst h6
    obtain ⟨v1, v2⟩ := hV i h1
    have od := w_odds2 hk (show i < 24 by omega) s3
    rw [v1] at od
    have rl := rkN_le V i
    by_cases c : V i = 0
    · have c0 : (lN (V i) = 0) = True := eq_true ((lN_eq0 v2).mpr c)
      have nf : ckF (nuA (s3.1 2)) V q (i + 1) = none := by rw [ckF_n h7]; unfold ckR; rw [if_pos c]
      simp (decide := true) only [wE_lit, wL_lit, wE_loc, wL_loc, wE_add, wE_sub, wE_mul, wE_and, wE_or, wE_xor, wE_shl, wE_shr, wE_ushr, wE_div, wE_rem, wE_neg, wE_i2b, wE_l2i, wL_i2l, wL_add, wL_mul, wE_fld, wL_fld, wE_arr, wL_arr, wC_cmp, wC_cmp0, wC_cmpL, wC_and, wC_or, wC_not, wC_ite, wL_ite, wA_nil, wA_int, wA_long, wE_call, wL_call, wS_skip, wS_seq, wS_set, wS_setL, wS_inc, wS_if, wS_put, wS_putL, wS_putOp, wS_putOpL, wS_ast, wS_astL, wS_aop, wS_aopL, wS_ret, wS_retL, wS_retV, wS_do, wS_pop, wS_dead, wS_sw, wF_body, Nat.reduceAdd, Nat.zero_add, Bool.not_not, true_and, and_true, if_true, if_false, ↓reduceIte, eq_self, Value.int.injEq, Value.long.injEq, exists_eq_left', ik_b1, ik_b0, ik_bz0, ik_bz3, ik_bz3_1, ik_bz3_0, ik_cmp, ik_cmpL, ik_eI, ik_eL, ik_as, ik_i0, ik_i1, decide_eq_true_eq, decide_eq_false_iff_not, decide_true, decide_false, Bool.not_true, Bool.not_false, reduceCtorEq, forall_const, false_implies, true_implies, implies_true, true_and, and_true, and_self, false_and, and_false, Bool.and_true, Bool.true_and, not_true_eq_false, not_false_eq_true, if_true, if_false, ite_true, ite_false, ik_bz3_0, ik_bz3_1, ik_bz0, h2, h3, h4, h5, od, c0, upd_at, upd_off, nI_1, nI_add, rkN_n c]
      exact ⟨nf, h8⟩
    · have c0 : (lN (V i) = 0) = False := eq_false (fun z => c ((lN_eq0 v2).mp z))
      have ge : (nI (2 * rkN V i) ≥ nI (2 * q)) ↔ rkN V i = q := by
        show nI (2 * q) ≤ nI (2 * rkN V i) ↔ _
        rw [nI_leI (by omega) (by omega)]
        omega
      by_cases c1 : rkN V i = q
      · have gT := eq_true (ge.mpr c1)
        have r : ckV (nuA (s3.1 2)) V q N = nI (2 * q) := ckV_s h1 h7 (by unfold ckR; rw [if_neg c, if_pos c1])
        simp (decide := true) only [wE_lit, wL_lit, wE_loc, wL_loc, wE_add, wE_sub, wE_mul, wE_and, wE_or, wE_xor, wE_shl, wE_shr, wE_ushr, wE_div, wE_rem, wE_neg, wE_i2b, wE_l2i, wL_i2l, wL_add, wL_mul, wE_fld, wL_fld, wE_arr, wL_arr, wC_cmp, wC_cmp0, wC_cmpL, wC_and, wC_or, wC_not, wC_ite, wL_ite, wA_nil, wA_int, wA_long, wE_call, wL_call, wS_skip, wS_seq, wS_set, wS_setL, wS_inc, wS_if, wS_put, wS_putL, wS_putOp, wS_putOpL, wS_ast, wS_astL, wS_aop, wS_aopL, wS_ret, wS_retL, wS_retV, wS_do, wS_pop, wS_dead, wS_sw, wF_body, Nat.reduceAdd, Nat.zero_add, Bool.not_not, true_and, and_true, if_true, if_false, ↓reduceIte, eq_self, Value.int.injEq, Value.long.injEq, exists_eq_left', ik_b1, ik_b0, ik_bz0, ik_bz3, ik_bz3_1, ik_bz3_0, ik_cmp, ik_cmpL, ik_eI, ik_eL, ik_as, ik_i0, ik_i1, decide_eq_true_eq, decide_eq_false_iff_not, decide_true, decide_false, Bool.not_true, Bool.not_false, reduceCtorEq, forall_const, false_implies, true_implies, implies_true, true_and, and_true, and_self, false_and, and_false, Bool.and_true, Bool.true_and, not_true_eq_false, not_false_eq_true, if_true, if_false, ite_true, ite_false, ik_bz3_0, ik_bz3_1, ik_bz0, h2, h3, h4, h5, od, c0, m2, gT, r]
      · have gF := eq_false (fun z => c1 (ge.mp z))
        have n1 := w_numX hn hg (show 4 * (2 * rkN V i) + 3 < n by omega)
        have n2 := w_numX hn hg (show 4 * (2 * rkN V i + 1) + 3 < n by omega)
        have p1 : nI (2 * rkN V i) + 1 = nI (2 * rkN V i + 1) := by show nI _ + nI 1 = _; rw [nI_add]
        by_cases c2 : nuA (s3.1 2) (2 * rkN V i) = nI i
        · by_cases c3 : nuA (s3.1 2) (2 * rkN V i + 1) = nI (V i)
          · have nf : ckF (nuA (s3.1 2)) V q (i + 1) = none := by rw [ckF_n h7]; unfold ckR; rw [if_neg c, if_neg c1, if_neg (fun z => z c2), if_neg (fun z => z c3)]
            have p2 : nI (2 * rkN V i) + 2 = nI (2 * rkN V (i + 1)) := by show nI _ + nI 2 = _; rw [nI_add, rkN_y c, Nat.mul_add]
            simp (decide := true) only [wE_lit, wL_lit, wE_loc, wL_loc, wE_add, wE_sub, wE_mul, wE_and, wE_or, wE_xor, wE_shl, wE_shr, wE_ushr, wE_div, wE_rem, wE_neg, wE_i2b, wE_l2i, wL_i2l, wL_add, wL_mul, wE_fld, wL_fld, wE_arr, wL_arr, wC_cmp, wC_cmp0, wC_cmpL, wC_and, wC_or, wC_not, wC_ite, wL_ite, wA_nil, wA_int, wA_long, wE_call, wL_call, wS_skip, wS_seq, wS_set, wS_setL, wS_inc, wS_if, wS_put, wS_putL, wS_putOp, wS_putOpL, wS_ast, wS_astL, wS_aop, wS_aopL, wS_ret, wS_retL, wS_retV, wS_do, wS_pop, wS_dead, wS_sw, wF_body, Nat.reduceAdd, Nat.zero_add, Bool.not_not, true_and, and_true, if_true, if_false, ↓reduceIte, eq_self, Value.int.injEq, Value.long.injEq, exists_eq_left', ik_b1, ik_b0, ik_bz0, ik_bz3, ik_bz3_1, ik_bz3_0, ik_cmp, ik_cmpL, ik_eI, ik_eL, ik_as, ik_i0, ik_i1, decide_eq_true_eq, decide_eq_false_iff_not, decide_true, decide_false, Bool.not_true, Bool.not_false, reduceCtorEq, forall_const, false_implies, true_implies, implies_true, true_and, and_true, and_self, false_and, and_false, Bool.and_true, Bool.true_and, not_true_eq_false, not_false_eq_true, if_true, if_false, ite_true, ite_false, ik_bz3_0, ik_bz3_1, ik_bz0, h2, h3, h4, h5, od, c0, m2, gF, n1, c2, p1, n2, lN_i32, c3, upd_at, upd_off, p2, nI_1, nI_add]
            exact ⟨nf, by rw [rkN_y c]; omega⟩
          · have r : ckV (nuA (s3.1 2)) V q N = nI (2 * rkN V i + 1) := ckV_s h1 h7 (by unfold ckR; rw [if_neg c, if_neg c1, if_neg (fun z => z c2), if_pos c3])
            simp (decide := true) only [wE_lit, wL_lit, wE_loc, wL_loc, wE_add, wE_sub, wE_mul, wE_and, wE_or, wE_xor, wE_shl, wE_shr, wE_ushr, wE_div, wE_rem, wE_neg, wE_i2b, wE_l2i, wL_i2l, wL_add, wL_mul, wE_fld, wL_fld, wE_arr, wL_arr, wC_cmp, wC_cmp0, wC_cmpL, wC_and, wC_or, wC_not, wC_ite, wL_ite, wA_nil, wA_int, wA_long, wE_call, wL_call, wS_skip, wS_seq, wS_set, wS_setL, wS_inc, wS_if, wS_put, wS_putL, wS_putOp, wS_putOpL, wS_ast, wS_astL, wS_aop, wS_aopL, wS_ret, wS_retL, wS_retV, wS_do, wS_pop, wS_dead, wS_sw, wF_body, Nat.reduceAdd, Nat.zero_add, Bool.not_not, true_and, and_true, if_true, if_false, ↓reduceIte, eq_self, Value.int.injEq, Value.long.injEq, exists_eq_left', ik_b1, ik_b0, ik_bz0, ik_bz3, ik_bz3_1, ik_bz3_0, ik_cmp, ik_cmpL, ik_eI, ik_eL, ik_as, ik_i0, ik_i1, decide_eq_true_eq, decide_eq_false_iff_not, decide_true, decide_false, Bool.not_true, Bool.not_false, reduceCtorEq, forall_const, false_implies, true_implies, implies_true, true_and, and_true, and_self, false_and, and_false, Bool.and_true, Bool.true_and, not_true_eq_false, not_false_eq_true, if_true, if_false, ite_true, ite_false, ik_bz3_0, ik_bz3_1, ik_bz0, h2, h3, h4, h5, od, c0, m2, gF, n1, c2, p1, n2, lN_i32, c3, r]
        · have r : ckV (nuA (s3.1 2)) V q N = nI (2 * rkN V i) := ckV_s h1 h7 (by unfold ckR; rw [if_neg c, if_neg c1, if_pos c2])
          simp (decide := true) only [wE_lit, wL_lit, wE_loc, wL_loc, wE_add, wE_sub, wE_mul, wE_and, wE_or, wE_xor, wE_shl, wE_shr, wE_ushr, wE_div, wE_rem, wE_neg, wE_i2b, wE_l2i, wL_i2l, wL_add, wL_mul, wE_fld, wL_fld, wE_arr, wL_arr, wC_cmp, wC_cmp0, wC_cmpL, wC_and, wC_or, wC_not, wC_ite, wL_ite, wA_nil, wA_int, wA_long, wE_call, wL_call, wS_skip, wS_seq, wS_set, wS_setL, wS_inc, wS_if, wS_put, wS_putL, wS_putOp, wS_putOpL, wS_ast, wS_astL, wS_aop, wS_aopL, wS_ret, wS_retL, wS_retV, wS_do, wS_pop, wS_dead, wS_sw, wF_body, Nat.reduceAdd, Nat.zero_add, Bool.not_not, true_and, and_true, if_true, if_false, ↓reduceIte, eq_self, Value.int.injEq, Value.long.injEq, exists_eq_left', ik_b1, ik_b0, ik_bz0, ik_bz3, ik_bz3_1, ik_bz3_0, ik_cmp, ik_cmpL, ik_eI, ik_eL, ik_as, ik_i0, ik_i1, decide_eq_true_eq, decide_eq_false_iff_not, decide_true, decide_false, Bool.not_true, Bool.not_false, reduceCtorEq, forall_const, false_implies, true_implies, implies_true, true_and, and_true, and_self, false_and, and_false, Bool.and_true, Bool.true_and, not_true_eq_false, not_false_eq_true, if_true, if_false, ite_true, ite_false, ik_bz3_0, ik_bz3_1, ik_bz0, h2, h3, h4, h5, od, c0, m2, gF, n1, c2, r]
  · rintro ⟨s1, s2, s3⟩ ⟨h2, h3, h4, h5, h6, h7, h8⟩
    simp only at h4 h5 h6
    subst h6
    have rl := rkN_le V N
    have lt : (nI (2 * rkN V N) < nI (2 * q)) ↔ ¬ rkN V N = q := by
      rw [nI_ltI (by omega) (by omega)]
      omega
    by_cases c : rkN V N = q
    · have r : ckV (nuA (s3.1 2)) V q N = -1 := by unfold ckV; rw [h7]; exact if_pos c
      have lF := eq_false (fun z => (lt.mp z) c)
      simp (decide := true) only [wE_lit, wL_lit, wE_loc, wL_loc, wE_add, wE_sub, wE_mul, wE_and, wE_or, wE_xor, wE_shl, wE_shr, wE_ushr, wE_div, wE_rem, wE_neg, wE_i2b, wE_l2i, wL_i2l, wL_add, wL_mul, wE_fld, wL_fld, wE_arr, wL_arr, wC_cmp, wC_cmp0, wC_cmpL, wC_and, wC_or, wC_not, wC_ite, wL_ite, wA_nil, wA_int, wA_long, wE_call, wL_call, wS_skip, wS_seq, wS_set, wS_setL, wS_inc, wS_if, wS_put, wS_putL, wS_putOp, wS_putOpL, wS_ast, wS_astL, wS_aop, wS_aopL, wS_ret, wS_retL, wS_retV, wS_do, wS_pop, wS_dead, wS_sw, wF_body, Nat.reduceAdd, Nat.zero_add, Bool.not_not, true_and, and_true, if_true, if_false, ↓reduceIte, eq_self, Value.int.injEq, Value.long.injEq, exists_eq_left', ik_b1, ik_b0, ik_bz0, ik_bz3, ik_bz3_1, ik_bz3_0, ik_cmp, ik_cmpL, ik_eI, ik_eL, ik_as, ik_i0, ik_i1, decide_eq_true_eq, decide_eq_false_iff_not, decide_true, decide_false, Bool.not_true, Bool.not_false, reduceCtorEq, forall_const, false_implies, true_implies, implies_true, true_and, and_true, and_self, false_and, and_false, Bool.and_true, Bool.true_and, not_true_eq_false, not_false_eq_true, if_true, if_false, ite_true, ite_false, ik_bz3_0, ik_bz3_1, ik_bz0, wE_ite, h4, h5, m2, lF, r]
    · have r : ckV (nuA (s3.1 2)) V q N = nI (2 * rkN V N) := by unfold ckV; rw [h7]; exact if_neg c
      have lT := eq_true (lt.mpr c)
      simp (decide := true) only [wE_lit, wL_lit, wE_loc, wL_loc, wE_add, wE_sub, wE_mul, wE_and, wE_or, wE_xor, wE_shl, wE_shr, wE_ushr, wE_div, wE_rem, wE_neg, wE_i2b, wE_l2i, wL_i2l, wL_add, wL_mul, wE_fld, wL_fld, wE_arr, wL_arr, wC_cmp, wC_cmp0, wC_cmpL, wC_and, wC_or, wC_not, wC_ite, wL_ite, wA_nil, wA_int, wA_long, wE_call, wL_call, wS_skip, wS_seq, wS_set, wS_setL, wS_inc, wS_if, wS_put, wS_putL, wS_putOp, wS_putOpL, wS_ast, wS_astL, wS_aop, wS_aopL, wS_ret, wS_retL, wS_retV, wS_do, wS_pop, wS_dead, wS_sw, wF_body, Nat.reduceAdd, Nat.zero_add, Bool.not_not, true_and, and_true, if_true, if_false, ↓reduceIte, eq_self, Value.int.injEq, Value.long.injEq, exists_eq_left', ik_b1, ik_b0, ik_bz0, ik_bz3, ik_bz3_1, ik_bz3_0, ik_cmp, ik_cmpL, ik_eI, ik_eL, ik_as, ik_i0, ik_i1, decide_eq_true_eq, decide_eq_false_iff_not, decide_true, decide_false, Bool.not_true, Bool.not_false, reduceCtorEq, forall_const, false_implies, true_implies, implies_true, true_and, and_true, and_self, false_and, and_false, Bool.and_true, Bool.true_and, not_true_eq_false, not_false_eq_true, if_true, if_false, ite_true, ite_false, ik_bz3_0, ik_bz3_1, ik_bz0, wE_ite, h4, h5, m2, lT, r]
theorem nI_d8 {q : Nat} (hq : q < 2 ^ 31) : nI q / 8 = nI (q / 8) := by
  apply Int32.toInt_inj.mp
  rw [Int32.toInt_div_of_ne_right _ _ (by decide), nI_toInt hq, nI_toInt (by omega), show (8 : Int32).toInt = 8 from rfl]
  exact (Int.ofNat_tdiv q 8).symm
/-- the same as weighed2, where only rE and what stands ready is known -/
theorem weighed3 {x m : GG} {N B S : Nat} (h : rE x m N B S) (hQ : rQ x m) (hB : 0 < B) : ∃ (g : GG) (V : Nat → Nat → Nat) (W : Nat), fX11_weigh [] x = some (.null, g) ∧ (∃ m1, fX12_fills [.int 0] m = some (.null, m1) ∧ eqM m m1 ∧ m1.2 0 69 = lN W ∧ ∀ k i, k < B → i < N → m1.2 45 (24 * k + i) = lN (V k i)) ∧ eqW x g ∧ rQ g m ∧ g.2 48 13 = lN W ∧ W ≤ 33177600000000 ∧ (∀ k i, V k i ≤ 33177600000000) ∧ ∀ k i, k < B → i < 24 → g.2 62 (24 * k + i) = lN (if i < N then V k i else 0) := by
  have hA := h
  obtain ⟨-, hL, hN, hBb, hTi, hLi, hH, -, -, hS, hR, -⟩ := h
  have hB4 := hBb.1
  have hN24 := hN.1
  obtain ⟨c1, M, L, hD⟩ := hR.d
  obtain ⟨n, ln1, ln2, ln3, ln4⟩ := hLi
  obtain ⟨⟨Hn, hn1, hn2, hn3, hn4⟩, hh⟩ := hH
  obtain ⟨T, t1, t2, t3, t4⟩ := hTi
  obtain ⟨g, e1, k1, k2, k3, k4⟩ := w_weighed hA hQ hD ln1 ln3 hn3 hn1 t3 t1 hB
  have wts : ∀ i, i < N → wtN m i ≤ 100 := fun i hi => by
    obtain ⟨-, -, -, -, hw, -⟩ := hN
    obtain ⟨-, -, -, -, -, -, -, w1, w2⟩ := hw i hi
    exact (wtN_ex w1 w2).2.2
  refine ⟨g, fun k i => SF N B S T m (ftW m S n Hn L 0) true true (fO (wtN m) k i), SF N B S T m (ftW m S n Hn L 0) true true (fun _ => wtN m), e1, ?_, k1, k2, k3, SF_b hN24 hB4 hB (fun k i _ hi => wts i hi), fun k i => SF_b hN24 hB4 hB (fun k' i' _ hi => Nat.le_trans (fO_le _ _ _ _ _) (wts i' hi)), fun k i hk hi => ?_⟩
  · obtain ⟨_, m1, e2, rfl, q1, -, q3, q4⟩ := w_fills hA hD ln3 ln1 hn3 hn1 t3 t1 hB (eqM.rfl' m) 0
    exact ⟨m1, e2, q1, q3, q4⟩
  · rw [k4 k i (by omega) hi]
    by_cases c : i < N
    · rw [if_pos ⟨hk, c⟩, if_pos c]
    · rw [if_neg (fun z => c z.2), if_neg c]
theorem op_check (a b : Int32) (x m : GG) (h : Rel x m) : ∃ v x' m', fX11_check [.int a, .int b] x = some (v, x') ∧ fX12_check [.int a, .int b] m = some (v, m') ∧ Rel x' m' := by
  have h0 := h
  obtain ⟨N, B, S, h⟩ := h
  have hA := h
  obtain ⟨hT, hL, hN, hB, hTi, hLi, hH, hC, hNo, hS, hR, hQ⟩ := h
  have hB4 := hB.1
  have hN24 := hN.1
  have fB := w_barHas hB.2.1 hB.1
  have mB := w_isBar (show B < 2 ^ 31 by omega) hB.2.2.1
  obtain ⟨n, n1, n2, n3, n4⟩ := hT
  have len : ∀ Q : Value → GG → Prop, wF fX9_length [] x Q ↔ Q (.int (nI n)) x := fun Q => by
    refine wF_eq (eq_of_wF ?_) Q
    unfold fX9_length
    simp (decide := true) only [wE_lit, wL_lit, wE_loc, wL_loc, wE_add, wE_sub, wE_mul, wE_and, wE_or, wE_xor, wE_shl, wE_shr, wE_ushr, wE_div, wE_rem, wE_neg, wE_i2b, wE_l2i, wL_i2l, wL_add, wL_mul, wE_fld, wL_fld, wE_arr, wL_arr, wC_cmp, wC_cmp0, wC_cmpL, wC_and, wC_or, wC_not, wC_ite, wL_ite, wA_nil, wA_int, wA_long, wE_call, wL_call, wS_skip, wS_seq, wS_set, wS_setL, wS_inc, wS_if, wS_put, wS_putL, wS_putOp, wS_putOpL, wS_ast, wS_astL, wS_aop, wS_aopL, wS_ret, wS_retL, wS_retV, wS_do, wS_pop, wS_dead, wS_sw, wF_body, Nat.reduceAdd, Nat.zero_add, Bool.not_not, true_and, and_true, if_true, if_false, ↓reduceIte, eq_self, Value.int.injEq, Value.long.injEq, exists_eq_left', ik_b1, ik_b0, ik_bz0, ik_bz3, ik_bz3_1, ik_bz3_0, ik_cmp, ik_cmpL, ik_eI, ik_eL, ik_as, n2]
  have d8 := nI_d8 (q := n) (by omega)
  by_cases c : isI a B
  · by_cases c2 : b < 0
    · refine ⟨.int (-2), x, m, eq_of_wF ?_, eq_of_wF ?_, h0⟩
      · unfold fX11_check
        simp (decide := true) only [wE_lit, wL_lit, wE_loc, wL_loc, wE_add, wE_sub, wE_mul, wE_and, wE_or, wE_xor, wE_shl, wE_shr, wE_ushr, wE_div, wE_rem, wE_neg, wE_i2b, wE_l2i, wL_i2l, wL_add, wL_mul, wE_fld, wL_fld, wE_arr, wL_arr, wC_cmp, wC_cmp0, wC_cmpL, wC_and, wC_or, wC_not, wC_ite, wL_ite, wA_nil, wA_int, wA_long, wE_call, wL_call, wS_skip, wS_seq, wS_set, wS_setL, wS_inc, wS_if, wS_put, wS_putL, wS_putOp, wS_putOpL, wS_ast, wS_astL, wS_aop, wS_aopL, wS_ret, wS_retL, wS_retV, wS_do, wS_pop, wS_dead, wS_sw, wF_body, Nat.reduceAdd, Nat.zero_add, Bool.not_not, true_and, and_true, if_true, if_false, ↓reduceIte, eq_self, Value.int.injEq, Value.long.injEq, exists_eq_left', ik_b1, ik_b0, ik_bz0, ik_bz3, ik_bz3_1, ik_bz3_0, ik_cmp, ik_cmpL, ik_eI, ik_eL, ik_as, ik_i0, ik_i1, decide_eq_true_eq, decide_eq_false_iff_not, decide_true, decide_false, Bool.not_true, Bool.not_false, reduceCtorEq, forall_const, false_implies, true_implies, implies_true, true_and, and_true, and_self, false_and, and_false, Bool.and_true, Bool.true_and, not_true_eq_false, not_false_eq_true, if_true, if_false, ite_true, ite_false, ik_bz3_0, ik_bz3_1, ik_bz0, exists_eq', fB, c, c2]
      · unfold fX12_check
        simp (decide := true) only [wE_lit, wL_lit, wE_loc, wL_loc, wE_add, wE_sub, wE_mul, wE_and, wE_or, wE_xor, wE_shl, wE_shr, wE_ushr, wE_div, wE_rem, wE_neg, wE_i2b, wE_l2i, wL_i2l, wL_add, wL_mul, wE_fld, wL_fld, wE_arr, wL_arr, wC_cmp, wC_cmp0, wC_cmpL, wC_and, wC_or, wC_not, wC_ite, wL_ite, wA_nil, wA_int, wA_long, wE_call, wL_call, wS_skip, wS_seq, wS_set, wS_setL, wS_inc, wS_if, wS_put, wS_putL, wS_putOp, wS_putOpL, wS_ast, wS_astL, wS_aop, wS_aopL, wS_ret, wS_retL, wS_retV, wS_do, wS_pop, wS_dead, wS_sw, wF_body, Nat.reduceAdd, Nat.zero_add, Bool.not_not, true_and, and_true, if_true, if_false, ↓reduceIte, eq_self, Value.int.injEq, Value.long.injEq, exists_eq_left', ik_b1, ik_b0, ik_bz0, ik_bz3, ik_bz3_1, ik_bz3_0, ik_cmp, ik_cmpL, ik_eI, ik_eL, ik_as, ik_i0, ik_i1, decide_eq_true_eq, decide_eq_false_iff_not, decide_true, decide_false, Bool.not_true, Bool.not_false, reduceCtorEq, forall_const, false_implies, true_implies, implies_true, true_and, and_true, and_self, false_and, and_false, Bool.and_true, Bool.true_and, not_true_eq_false, not_false_eq_true, if_true, if_false, ite_true, ite_false, ik_bz3_0, ik_bz3_1, ik_bz0, exists_eq', mB, c, c2]
    · by_cases c3 : b > nI (n / 8)
      · have c3' : nI (n / 8) < b := c3
        refine ⟨.int (-2), x, m, eq_of_wF ?_, eq_of_wF ?_, h0⟩
        · unfold fX11_check
          simp (decide := true) only [wE_lit, wL_lit, wE_loc, wL_loc, wE_add, wE_sub, wE_mul, wE_and, wE_or, wE_xor, wE_shl, wE_shr, wE_ushr, wE_div, wE_rem, wE_neg, wE_i2b, wE_l2i, wL_i2l, wL_add, wL_mul, wE_fld, wL_fld, wE_arr, wL_arr, wC_cmp, wC_cmp0, wC_cmpL, wC_and, wC_or, wC_not, wC_ite, wL_ite, wA_nil, wA_int, wA_long, wE_call, wL_call, wS_skip, wS_seq, wS_set, wS_setL, wS_inc, wS_if, wS_put, wS_putL, wS_putOp, wS_putOpL, wS_ast, wS_astL, wS_aop, wS_aopL, wS_ret, wS_retL, wS_retV, wS_do, wS_pop, wS_dead, wS_sw, wF_body, Nat.reduceAdd, Nat.zero_add, Bool.not_not, true_and, and_true, if_true, if_false, ↓reduceIte, eq_self, Value.int.injEq, Value.long.injEq, exists_eq_left', ik_b1, ik_b0, ik_bz0, ik_bz3, ik_bz3_1, ik_bz3_0, ik_cmp, ik_cmpL, ik_eI, ik_eL, ik_as, ik_i0, ik_i1, decide_eq_true_eq, decide_eq_false_iff_not, decide_true, decide_false, Bool.not_true, Bool.not_false, reduceCtorEq, forall_const, false_implies, true_implies, implies_true, true_and, and_true, and_self, false_and, and_false, Bool.and_true, Bool.true_and, not_true_eq_false, not_false_eq_true, if_true, if_false, ite_true, ite_false, ik_bz3_0, ik_bz3_1, ik_bz0, exists_eq', fB, c, c2, len, d8, c3, c3']
        · unfold fX12_check
          simp (decide := true) only [wE_lit, wL_lit, wE_loc, wL_loc, wE_add, wE_sub, wE_mul, wE_and, wE_or, wE_xor, wE_shl, wE_shr, wE_ushr, wE_div, wE_rem, wE_neg, wE_i2b, wE_l2i, wL_i2l, wL_add, wL_mul, wE_fld, wL_fld, wE_arr, wL_arr, wC_cmp, wC_cmp0, wC_cmpL, wC_and, wC_or, wC_not, wC_ite, wL_ite, wA_nil, wA_int, wA_long, wE_call, wL_call, wS_skip, wS_seq, wS_set, wS_setL, wS_inc, wS_if, wS_put, wS_putL, wS_putOp, wS_putOpL, wS_ast, wS_astL, wS_aop, wS_aopL, wS_ret, wS_retL, wS_retV, wS_do, wS_pop, wS_dead, wS_sw, wF_body, Nat.reduceAdd, Nat.zero_add, Bool.not_not, true_and, and_true, if_true, if_false, ↓reduceIte, eq_self, Value.int.injEq, Value.long.injEq, exists_eq_left', ik_b1, ik_b0, ik_bz0, ik_bz3, ik_bz3_1, ik_bz3_0, ik_cmp, ik_cmpL, ik_eI, ik_eL, ik_as, ik_i0, ik_i1, decide_eq_true_eq, decide_eq_false_iff_not, decide_true, decide_false, Bool.not_true, Bool.not_false, reduceCtorEq, forall_const, false_implies, true_implies, implies_true, true_and, and_true, and_self, false_and, and_false, Bool.and_true, Bool.true_and, not_true_eq_false, not_false_eq_true, if_true, if_false, ite_true, ite_false, ik_bz3_0, ik_bz3_1, ik_bz0, exists_eq', mB, c, c2, n3, d8, c3, c3']
      · obtain ⟨k, hk, rfl⟩ := isI_ex (by omega) c
        obtain ⟨q, hq1, rfl⟩ := nI_of3 (x := b) (a := n / 8) (by omega) (Int32.not_lt.mp c2) (Int32.not_lt.mp c3)
        have c3' : ¬ nI (n / 8) < nI q := c3
        have hq : 8 * q ≤ n := by omega
        obtain ⟨m0, hm0⟩ : ∃ m0, m0 = ik_si m 0 1 0 := ⟨_, rfl⟩
        have em : ∀ a j, kEm a j = true → m0.1 a j = m.1 a j := fun a j hk => by
          rw [hm0]
          by_cases z : a = 0
          · subst z
            rw [ik_si_ne _ _ _ _ _ (by have := kEm_0 hk; omega)]
          · rw [ik_si_row _ _ _ _ _ z]
        have hE0 : rE x m0 N B S := hA.e.fr (fun _ _ _ => rfl) em
        have hQ0 : rQ x m0 := hQ.fr rfl rfl (cut_of2 (fun a j hk => em a j (km_sub hk (by simp))) k0_no)
        obtain ⟨g, V, W, e1, ⟨m1, e2, q1, q2, q3⟩, k1, k2, k3, b1, b2, k4⟩ := weighed3 hE0 hQ0 (show 0 < B by omega)
        have V63 : ∀ i, V k i < 2 ^ 63 := fun i => by have := b2 k i; omega
        have gx : ∀ j, g.1 2 j = x.1 2 j := fun j => k1 2 j rfl
        have wx := w_wrongX (g := g) (N := N) (k := k) (q := q) (n := n) (V := V k) (by omega) hN24 (by rw [k1 6 6 rfl]; exact hN.2.1) n1 (by rw [k1 1 1 rfl]; exact n2) hq (fun i hi => ⟨by have := k4 k i hk (by omega); rw [if_pos hi] at this; exact this, V63 i⟩)
        rw [show g.1 2 = x.1 2 from funext gx] at wx
        -- the reference
        have Y : wF fX12_check [.int (nI k), .int (nI q)] m (fun v g' => v = .int (ckV (nuA (x.1 2)) (V k) q N) ∧ g' = m1) := by
          have m2 : ∀ a, (2 : Int32) * nI a = nI (2 * a) := fun a => by rw [show (2 : Int32) = nI 2 from rfl, pk_mul]
          unfold fX12_check
          simp (decide := true) only [wE_lit, wL_lit, wE_loc, wL_loc, wE_add, wE_sub, wE_mul, wE_and, wE_or, wE_xor, wE_shl, wE_shr, wE_ushr, wE_div, wE_rem, wE_neg, wE_i2b, wE_l2i, wL_i2l, wL_add, wL_mul, wE_fld, wL_fld, wE_arr, wL_arr, wC_cmp, wC_cmp0, wC_cmpL, wC_and, wC_or, wC_not, wC_ite, wL_ite, wA_nil, wA_int, wA_long, wE_call, wL_call, wS_skip, wS_seq, wS_set, wS_setL, wS_inc, wS_if, wS_put, wS_putL, wS_putOp, wS_putOpL, wS_ast, wS_astL, wS_aop, wS_aopL, wS_ret, wS_retL, wS_retV, wS_do, wS_pop, wS_dead, wS_sw, wF_body, Nat.reduceAdd, Nat.zero_add, Bool.not_not, true_and, and_true, if_true, if_false, ↓reduceIte, eq_self, Value.int.injEq, Value.long.injEq, exists_eq_left', ik_b1, ik_b0, ik_bz0, ik_bz3, ik_bz3_1, ik_bz3_0, ik_cmp, ik_cmpL, ik_eI, ik_eL, ik_as, ik_i0, ik_i1, decide_eq_true_eq, decide_eq_false_iff_not, decide_true, decide_false, Bool.not_true, Bool.not_false, reduceCtorEq, forall_const, false_implies, true_implies, implies_true, true_and, and_true, and_self, false_and, and_false, Bool.and_true, Bool.true_and, not_true_eq_false, not_false_eq_true, if_true, if_false, ite_true, ite_false, ik_bz3_0, ik_bz3_1, ik_bz0, mB, isI, c, c2, n3, d8, c3, c3', ← hm0, wF_eq e2]
          refine wS_for _ _ (fun i σ => σ.1 4 = nI i ∧ σ.1 1 = nI k ∧ σ.1 2 = nI q ∧ σ.1 3 = nI (rkN (V k) i) ∧ σ.2.2 = m1 ∧ ckF (nuA (x.1 2)) (V k) q i = none ∧ rkN (V k) i ≤ q) 0 N _ ⟨by simp [upd, nI_0], by simp [upd, ik_eI], by simp [upd, ik_eI], by simp [upd, rkN, bgc, nI_0], rfl, rfl, Nat.zero_le _⟩ (by omega) (by omega) ?_ ?_ ?_
          · rintro i ⟨s1, s2, s3⟩ h1 ⟨h2, -, -, -, h3, -⟩
            simp only at h2 h3
            subst h3
            exact wc_1 (by show s3.1 0 2 = _; rw [q1.2 2 (by decide)]; exact hE0.2.2.1.2.2.1) (by omega) h1 h2
          · rintro i ⟨s1, s2, s3⟩ h1 ⟨h2, h3, h4, h5, h6, h7, h8⟩
            simp only at h2 h3 h4 h5 h6
            subst h6
            have v1 := q3 k i hk h1
            have rl := rkN_le (V k) i
            have ix := ik_ix_nI (show 24 * k + i < 96 by omega) (by omega)
            have e62 : (24 : Int32) * nI k + nI i = nI (24 * k + i) := by rw [show (24 : Int32) = nI 24 from rfl, pk_mul, nI_add]
            by_cases d : V k i = 0
            · have c0 : (lN (V k i) = 0) = True := eq_true ((lN_eq0 (V63 i)).mpr d)
              have nf : ckF (nuA (x.1 2)) (V k) q (i + 1) = none := by rw [ckF_n h7]; unfold ckR; rw [if_pos d]
              simp (decide := true) only [wE_lit, wL_lit, wE_loc, wL_loc, wE_add, wE_sub, wE_mul, wE_and, wE_or, wE_xor, wE_shl, wE_shr, wE_ushr, wE_div, wE_rem, wE_neg, wE_i2b, wE_l2i, wL_i2l, wL_add, wL_mul, wE_fld, wL_fld, wE_arr, wL_arr, wC_cmp, wC_cmp0, wC_cmpL, wC_and, wC_or, wC_not, wC_ite, wL_ite, wA_nil, wA_int, wA_long, wE_call, wL_call, wS_skip, wS_seq, wS_set, wS_setL, wS_inc, wS_if, wS_put, wS_putL, wS_putOp, wS_putOpL, wS_ast, wS_astL, wS_aop, wS_aopL, wS_ret, wS_retL, wS_retV, wS_do, wS_pop, wS_dead, wS_sw, wF_body, Nat.reduceAdd, Nat.zero_add, Bool.not_not, true_and, and_true, if_true, if_false, ↓reduceIte, eq_self, Value.int.injEq, Value.long.injEq, exists_eq_left', ik_b1, ik_b0, ik_bz0, ik_bz3, ik_bz3_1, ik_bz3_0, ik_cmp, ik_cmpL, ik_eI, ik_eL, ik_as, ik_i0, ik_i1, decide_eq_true_eq, decide_eq_false_iff_not, decide_true, decide_false, Bool.not_true, Bool.not_false, reduceCtorEq, forall_const, false_implies, true_implies, implies_true, true_and, and_true, and_self, false_and, and_false, Bool.and_true, Bool.true_and, not_true_eq_false, not_false_eq_true, if_true, if_false, ite_true, ite_false, ik_bz3_0, ik_bz3_1, ik_bz0, h2, h3, h4, h5, e62, ix, Option.some.injEq, v1, c0, upd_at, upd_off, nI_1, nI_add, rkN_n d]
              exact ⟨nf, h8⟩
            · have c0 : (lN (V k i) = 0) = False := eq_false (fun z => d ((lN_eq0 (V63 i)).mp z))
              have eqq : (nI (rkN (V k) i) = nI q) ↔ rkN (V k) i = q := nI_eq (by omega) (by omega)
              by_cases d1 : rkN (V k) i = q
              · have gT := eq_true (eqq.mpr d1)
                have r : ckV (nuA (x.1 2)) (V k) q N = nI (2 * q) := ckV_s h1 h7 (by unfold ckR; rw [if_neg d, if_pos d1])
                simp (decide := true) only [wE_lit, wL_lit, wE_loc, wL_loc, wE_add, wE_sub, wE_mul, wE_and, wE_or, wE_xor, wE_shl, wE_shr, wE_ushr, wE_div, wE_rem, wE_neg, wE_i2b, wE_l2i, wL_i2l, wL_add, wL_mul, wE_fld, wL_fld, wE_arr, wL_arr, wC_cmp, wC_cmp0, wC_cmpL, wC_and, wC_or, wC_not, wC_ite, wL_ite, wA_nil, wA_int, wA_long, wE_call, wL_call, wS_skip, wS_seq, wS_set, wS_setL, wS_inc, wS_if, wS_put, wS_putL, wS_putOp, wS_putOpL, wS_ast, wS_astL, wS_aop, wS_aopL, wS_ret, wS_retL, wS_retV, wS_do, wS_pop, wS_dead, wS_sw, wF_body, Nat.reduceAdd, Nat.zero_add, Bool.not_not, true_and, and_true, if_true, if_false, ↓reduceIte, eq_self, Value.int.injEq, Value.long.injEq, exists_eq_left', ik_b1, ik_b0, ik_bz0, ik_bz3, ik_bz3_1, ik_bz3_0, ik_cmp, ik_cmpL, ik_eI, ik_eL, ik_as, ik_i0, ik_i1, decide_eq_true_eq, decide_eq_false_iff_not, decide_true, decide_false, Bool.not_true, Bool.not_false, reduceCtorEq, forall_const, false_implies, true_implies, implies_true, true_and, and_true, and_self, false_and, and_false, Bool.and_true, Bool.true_and, not_true_eq_false, not_false_eq_true, if_true, if_false, ite_true, ite_false, ik_bz3_0, ik_bz3_1, ik_bz0, h2, h3, h4, h5, e62, ix, Option.some.injEq, v1, c0, m2, gT, r]
              · have gF := eq_false (fun z => d1 (eqq.mp z))
                have by' : ∀ j, j < n → x.1 2 j = s3.1 1 j &&& 255 := fun j hj => by
                  rw [q1.1 1 (by omega), hm0, ik_si_row _ _ _ _ _ (by decide)]
                  exact (n4 j hj).1
                have u1 := w_numM n1 (show 4 * (2 * rkN (V k) i) + 3 < n by omega) by'
                have u2 := w_numM n1 (show 4 * (2 * rkN (V k) i + 1) + 3 < n by omega) by'
                have p1 : nI (2 * rkN (V k) i) + 1 = nI (2 * rkN (V k) i + 1) := by show nI _ + nI 1 = _; rw [nI_add]
                by_cases d2 : nuA (x.1 2) (2 * rkN (V k) i) = nI i
                · by_cases d3 : nuA (x.1 2) (2 * rkN (V k) i + 1) = nI (V k i)
                  · have nf : ckF (nuA (x.1 2)) (V k) q (i + 1) = none := by rw [ckF_n h7]; unfold ckR; rw [if_neg d, if_neg d1, if_neg (fun z => z d2), if_neg (fun z => z d3)]
                    simp (decide := true) only [wE_lit, wL_lit, wE_loc, wL_loc, wE_add, wE_sub, wE_mul, wE_and, wE_or, wE_xor, wE_shl, wE_shr, wE_ushr, wE_div, wE_rem, wE_neg, wE_i2b, wE_l2i, wL_i2l, wL_add, wL_mul, wE_fld, wL_fld, wE_arr, wL_arr, wC_cmp, wC_cmp0, wC_cmpL, wC_and, wC_or, wC_not, wC_ite, wL_ite, wA_nil, wA_int, wA_long, wE_call, wL_call, wS_skip, wS_seq, wS_set, wS_setL, wS_inc, wS_if, wS_put, wS_putL, wS_putOp, wS_putOpL, wS_ast, wS_astL, wS_aop, wS_aopL, wS_ret, wS_retL, wS_retV, wS_do, wS_pop, wS_dead, wS_sw, wF_body, Nat.reduceAdd, Nat.zero_add, Bool.not_not, true_and, and_true, if_true, if_false, ↓reduceIte, eq_self, Value.int.injEq, Value.long.injEq, exists_eq_left', ik_b1, ik_b0, ik_bz0, ik_bz3, ik_bz3_1, ik_bz3_0, ik_cmp, ik_cmpL, ik_eI, ik_eL, ik_as, ik_i0, ik_i1, decide_eq_true_eq, decide_eq_false_iff_not, decide_true, decide_false, Bool.not_true, Bool.not_false, reduceCtorEq, forall_const, false_implies, true_implies, implies_true, true_and, and_true, and_self, false_and, and_false, Bool.and_true, Bool.true_and, not_true_eq_false, not_false_eq_true, if_true, if_false, ite_true, ite_false, ik_bz3_0, ik_bz3_1, ik_bz0, h2, h3, h4, h5, e62, ix, Option.some.injEq, v1, c0, m2, gF, u1, d2, p1, u2, lN_i32, d3, upd_at, upd_off, nI_1, nI_add, rkN_y d]
                    exact ⟨nf, by omega⟩
                  · have r : ckV (nuA (x.1 2)) (V k) q N = nI (2 * rkN (V k) i + 1) := ckV_s h1 h7 (by unfold ckR; rw [if_neg d, if_neg d1, if_neg (fun z => z d2), if_pos d3])
                    simp (decide := true) only [wE_lit, wL_lit, wE_loc, wL_loc, wE_add, wE_sub, wE_mul, wE_and, wE_or, wE_xor, wE_shl, wE_shr, wE_ushr, wE_div, wE_rem, wE_neg, wE_i2b, wE_l2i, wL_i2l, wL_add, wL_mul, wE_fld, wL_fld, wE_arr, wL_arr, wC_cmp, wC_cmp0, wC_cmpL, wC_and, wC_or, wC_not, wC_ite, wL_ite, wA_nil, wA_int, wA_long, wE_call, wL_call, wS_skip, wS_seq, wS_set, wS_setL, wS_inc, wS_if, wS_put, wS_putL, wS_putOp, wS_putOpL, wS_ast, wS_astL, wS_aop, wS_aopL, wS_ret, wS_retL, wS_retV, wS_do, wS_pop, wS_dead, wS_sw, wF_body, Nat.reduceAdd, Nat.zero_add, Bool.not_not, true_and, and_true, if_true, if_false, ↓reduceIte, eq_self, Value.int.injEq, Value.long.injEq, exists_eq_left', ik_b1, ik_b0, ik_bz0, ik_bz3, ik_bz3_1, ik_bz3_0, ik_cmp, ik_cmpL, ik_eI, ik_eL, ik_as, ik_i0, ik_i1, decide_eq_true_eq, decide_eq_false_iff_not, decide_true, decide_false, Bool.not_true, Bool.not_false, reduceCtorEq, forall_const, false_implies, true_implies, implies_true, true_and, and_true, and_self, false_and, and_false, Bool.and_true, Bool.true_and, not_true_eq_false, not_false_eq_true, if_true, if_false, ite_true, ite_false, ik_bz3_0, ik_bz3_1, ik_bz0, h2, h3, h4, h5, e62, ix, Option.some.injEq, v1, c0, m2, gF, u1, d2, p1, u2, lN_i32, d3, r]
                · have r : ckV (nuA (x.1 2)) (V k) q N = nI (2 * rkN (V k) i) := ckV_s h1 h7 (by unfold ckR; rw [if_neg d, if_neg d1, if_pos d2])
                  simp (decide := true) only [wE_lit, wL_lit, wE_loc, wL_loc, wE_add, wE_sub, wE_mul, wE_and, wE_or, wE_xor, wE_shl, wE_shr, wE_ushr, wE_div, wE_rem, wE_neg, wE_i2b, wE_l2i, wL_i2l, wL_add, wL_mul, wE_fld, wL_fld, wE_arr, wL_arr, wC_cmp, wC_cmp0, wC_cmpL, wC_and, wC_or, wC_not, wC_ite, wL_ite, wA_nil, wA_int, wA_long, wE_call, wL_call, wS_skip, wS_seq, wS_set, wS_setL, wS_inc, wS_if, wS_put, wS_putL, wS_putOp, wS_putOpL, wS_ast, wS_astL, wS_aop, wS_aopL, wS_ret, wS_retL, wS_retV, wS_do, wS_pop, wS_dead, wS_sw, wF_body, Nat.reduceAdd, Nat.zero_add, Bool.not_not, true_and, and_true, if_true, if_false, ↓reduceIte, eq_self, Value.int.injEq, Value.long.injEq, exists_eq_left', ik_b1, ik_b0, ik_bz0, ik_bz3, ik_bz3_1, ik_bz3_0, ik_cmp, ik_cmpL, ik_eI, ik_eL, ik_as, ik_i0, ik_i1, decide_eq_true_eq, decide_eq_false_iff_not, decide_true, decide_false, Bool.not_true, Bool.not_false, reduceCtorEq, forall_const, false_implies, true_implies, implies_true, true_and, and_true, and_self, false_and, and_false, Bool.and_true, Bool.true_and, not_true_eq_false, not_false_eq_true, if_true, if_false, ite_true, ite_false, ik_bz3_0, ik_bz3_1, ik_bz0, h2, h3, h4, h5, e62, ix, Option.some.injEq, v1, c0, m2, gF, u1, d2, r]
          · rintro ⟨s1, s2, s3⟩ ⟨h2, h3, h4, h5, h6, h7, h8⟩
            simp only at h4 h5 h6
            subst h6
            have rl := rkN_le (V k) N
            have eqq : (nI (rkN (V k) N) = nI q) ↔ rkN (V k) N = q := nI_eq (by omega) (by omega)
            by_cases d : rkN (V k) N = q
            · have r : ckV (nuA (x.1 2)) (V k) q N = -1 := by unfold ckV; rw [h7]; exact if_pos d
              have lT := eq_true (eqq.mpr d)
              simp (decide := true) only [wE_lit, wL_lit, wE_loc, wL_loc, wE_add, wE_sub, wE_mul, wE_and, wE_or, wE_xor, wE_shl, wE_shr, wE_ushr, wE_div, wE_rem, wE_neg, wE_i2b, wE_l2i, wL_i2l, wL_add, wL_mul, wE_fld, wL_fld, wE_arr, wL_arr, wC_cmp, wC_cmp0, wC_cmpL, wC_and, wC_or, wC_not, wC_ite, wL_ite, wA_nil, wA_int, wA_long, wE_call, wL_call, wS_skip, wS_seq, wS_set, wS_setL, wS_inc, wS_if, wS_put, wS_putL, wS_putOp, wS_putOpL, wS_ast, wS_astL, wS_aop, wS_aopL, wS_ret, wS_retL, wS_retV, wS_do, wS_pop, wS_dead, wS_sw, wF_body, Nat.reduceAdd, Nat.zero_add, Bool.not_not, true_and, and_true, if_true, if_false, ↓reduceIte, eq_self, Value.int.injEq, Value.long.injEq, exists_eq_left', ik_b1, ik_b0, ik_bz0, ik_bz3, ik_bz3_1, ik_bz3_0, ik_cmp, ik_cmpL, ik_eI, ik_eL, ik_as, ik_i0, ik_i1, decide_eq_true_eq, decide_eq_false_iff_not, decide_true, decide_false, Bool.not_true, Bool.not_false, reduceCtorEq, forall_const, false_implies, true_implies, implies_true, true_and, and_true, and_self, false_and, and_false, Bool.and_true, Bool.true_and, not_true_eq_false, not_false_eq_true, if_true, if_false, ite_true, ite_false, ik_bz3_0, ik_bz3_1, ik_bz0, wE_ite, h4, h5, m2, lT, r]
            · have r : ckV (nuA (x.1 2)) (V k) q N = nI (2 * rkN (V k) N) := by unfold ckV; rw [h7]; exact if_neg d
              have lF := eq_false (fun z => d (eqq.mp z))
              simp (decide := true) only [wE_lit, wL_lit, wE_loc, wL_loc, wE_add, wE_sub, wE_mul, wE_and, wE_or, wE_xor, wE_shl, wE_shr, wE_ushr, wE_div, wE_rem, wE_neg, wE_i2b, wE_l2i, wL_i2l, wL_add, wL_mul, wE_fld, wL_fld, wE_arr, wL_arr, wC_cmp, wC_cmp0, wC_cmpL, wC_and, wC_or, wC_not, wC_ite, wL_ite, wA_nil, wA_int, wA_long, wE_call, wL_call, wS_skip, wS_seq, wS_set, wS_setL, wS_inc, wS_if, wS_put, wS_putL, wS_putOp, wS_putOpL, wS_ast, wS_astL, wS_aop, wS_aopL, wS_ret, wS_retL, wS_retV, wS_do, wS_pop, wS_dead, wS_sw, wF_body, Nat.reduceAdd, Nat.zero_add, Bool.not_not, true_and, and_true, if_true, if_false, ↓reduceIte, eq_self, Value.int.injEq, Value.long.injEq, exists_eq_left', ik_b1, ik_b0, ik_bz0, ik_bz3, ik_bz3_1, ik_bz3_0, ik_cmp, ik_cmpL, ik_eI, ik_eL, ik_as, ik_i0, ik_i1, decide_eq_true_eq, decide_eq_false_iff_not, decide_true, decide_false, Bool.not_true, Bool.not_false, reduceCtorEq, forall_const, false_implies, true_implies, implies_true, true_and, and_true, and_self, false_and, and_false, Bool.and_true, Bool.true_and, not_true_eq_false, not_false_eq_true, if_true, if_false, ite_true, ite_false, ik_bz3_0, ik_bz3_1, ik_bz0, wE_ite, h4, h5, m2, lF, r]
        obtain ⟨_, m1', ey, rfl, rfl⟩ := Y
        obtain ⟨y, hy⟩ : ∃ y, y = ik_si g 1 1 0 := ⟨_, rfl⟩
        have X : fX11_check [.int (nI k), .int (nI q)] x = some (.int (ckV (nuA (x.1 2)) (V k) q N), y) := by
          apply eq_of_wF
          unfold fX11_check
          simp (decide := true) only [wE_lit, wL_lit, wE_loc, wL_loc, wE_add, wE_sub, wE_mul, wE_and, wE_or, wE_xor, wE_shl, wE_shr, wE_ushr, wE_div, wE_rem, wE_neg, wE_i2b, wE_l2i, wL_i2l, wL_add, wL_mul, wE_fld, wL_fld, wE_arr, wL_arr, wC_cmp, wC_cmp0, wC_cmpL, wC_and, wC_or, wC_not, wC_ite, wL_ite, wA_nil, wA_int, wA_long, wE_call, wL_call, wS_skip, wS_seq, wS_set, wS_setL, wS_inc, wS_if, wS_put, wS_putL, wS_putOp, wS_putOpL, wS_ast, wS_astL, wS_aop, wS_aopL, wS_ret, wS_retL, wS_retV, wS_do, wS_pop, wS_dead, wS_sw, wF_body, Nat.reduceAdd, Nat.zero_add, Bool.not_not, true_and, and_true, if_true, if_false, ↓reduceIte, eq_self, Value.int.injEq, Value.long.injEq, exists_eq_left', ik_b1, ik_b0, ik_bz0, ik_bz3, ik_bz3_1, ik_bz3_0, ik_cmp, ik_cmpL, ik_eI, ik_eL, ik_as, ik_i0, ik_i1, decide_eq_true_eq, decide_eq_false_iff_not, decide_true, decide_false, Bool.not_true, Bool.not_false, reduceCtorEq, forall_const, false_implies, true_implies, implies_true, true_and, and_true, and_self, false_and, and_false, Bool.and_true, Bool.true_and, not_true_eq_false, not_false_eq_true, if_true, if_false, ite_true, ite_false, ik_bz3_0, ik_bz3_1, ik_bz0, fB, isI, c, c2, len, d8, c3, c3', wF_eq e1, wx, fX9_clear, upd_at, upd_off, ← hy]
        have x1 : (ik_si x 1 1 0).1 1 1 = 0 := ik_si_same _ _ _ _
        have mz : m0.1 0 1 = 0 := by rw [hm0]; exact ik_si_same _ _ _ _
        have hA0 : rA (ik_si x 1 1 0) m0 N B S := hA.frT (fun a j hk => by
          by_cases z : a = 1
          · subst z; cases hk
          · rw [ik_si_row _ _ _ _ _ z]) (fun _ _ _ => rfl) em (by rw [x1, mz]; exact rT.none _ _)
        have w0 : eqW (ik_si x 1 1 0) y := fun a j hk => by
          rw [hy]
          by_cases z : a = 1
          · subst z
            by_cases z2 : j = 1
            · subst z2; rw [ik_si_same, ik_si_same]
            · rw [ik_si_ne _ _ _ _ _ z2, ik_si_ne _ _ _ _ _ z2]; exact k1 1 j hk
          · rw [ik_si_row _ _ _ _ _ z, ik_si_row _ _ _ _ _ z]; exact k1 a j hk
        have rq : rQ y m0 := k2.s (by rw [hy, ik_si_row _ _ _ _ _ (by decide)]) (fun a j hk => by
          rw [hy]
          by_cases z : a = 1
          · subst z; cases hk
          · rw [ik_si_row _ _ _ _ _ z]) (by rw [hy]; rfl)
        exact ⟨_, y, m1', X, ey, N, B, S, hA0.w w0 q1 (rq.m q1)⟩
  · refine ⟨.int (-2), x, m, eq_of_wF ?_, eq_of_wF ?_, h0⟩
    · unfold fX11_check
      simp (decide := true) only [wE_lit, wL_lit, wE_loc, wL_loc, wE_add, wE_sub, wE_mul, wE_and, wE_or, wE_xor, wE_shl, wE_shr, wE_ushr, wE_div, wE_rem, wE_neg, wE_i2b, wE_l2i, wL_i2l, wL_add, wL_mul, wE_fld, wL_fld, wE_arr, wL_arr, wC_cmp, wC_cmp0, wC_cmpL, wC_and, wC_or, wC_not, wC_ite, wL_ite, wA_nil, wA_int, wA_long, wE_call, wL_call, wS_skip, wS_seq, wS_set, wS_setL, wS_inc, wS_if, wS_put, wS_putL, wS_putOp, wS_putOpL, wS_ast, wS_astL, wS_aop, wS_aopL, wS_ret, wS_retL, wS_retV, wS_do, wS_pop, wS_dead, wS_sw, wF_body, Nat.reduceAdd, Nat.zero_add, Bool.not_not, true_and, and_true, if_true, if_false, ↓reduceIte, eq_self, Value.int.injEq, Value.long.injEq, exists_eq_left', ik_b1, ik_b0, ik_bz0, ik_bz3, ik_bz3_1, ik_bz3_0, ik_cmp, ik_cmpL, ik_eI, ik_eL, ik_as, ik_i0, ik_i1, decide_eq_true_eq, decide_eq_false_iff_not, decide_true, decide_false, Bool.not_true, Bool.not_false, reduceCtorEq, forall_const, false_implies, true_implies, implies_true, true_and, and_true, and_self, false_and, and_false, Bool.and_true, Bool.true_and, not_true_eq_false, not_false_eq_true, if_true, if_false, ite_true, ite_false, ik_bz3_0, ik_bz3_1, ik_bz0, exists_eq', fB, c]
    · unfold fX12_check
      simp (decide := true) only [wE_lit, wL_lit, wE_loc, wL_loc, wE_add, wE_sub, wE_mul, wE_and, wE_or, wE_xor, wE_shl, wE_shr, wE_ushr, wE_div, wE_rem, wE_neg, wE_i2b, wE_l2i, wL_i2l, wL_add, wL_mul, wE_fld, wL_fld, wE_arr, wL_arr, wC_cmp, wC_cmp0, wC_cmpL, wC_and, wC_or, wC_not, wC_ite, wL_ite, wA_nil, wA_int, wA_long, wE_call, wL_call, wS_skip, wS_seq, wS_set, wS_setL, wS_inc, wS_if, wS_put, wS_putL, wS_putOp, wS_putOpL, wS_ast, wS_astL, wS_aop, wS_aopL, wS_ret, wS_retL, wS_retV, wS_do, wS_pop, wS_dead, wS_sw, wF_body, Nat.reduceAdd, Nat.zero_add, Bool.not_not, true_and, and_true, if_true, if_false, ↓reduceIte, eq_self, Value.int.injEq, Value.long.injEq, exists_eq_left', ik_b1, ik_b0, ik_bz0, ik_bz3, ik_bz3_1, ik_bz3_0, ik_cmp, ik_cmpL, ik_eI, ik_eL, ik_as, ik_i0, ik_i1, decide_eq_true_eq, decide_eq_false_iff_not, decide_true, decide_false, Bool.not_true, Bool.not_false, reduceCtorEq, forall_const, false_implies, true_implies, implies_true, true_and, and_true, and_self, false_and, and_false, Bool.and_true, Bool.true_and, not_true_eq_false, not_false_eq_true, if_true, if_false, ite_true, ite_false, ik_bz3_0, ik_bz3_1, ik_bz0, exists_eq', mB, c]
