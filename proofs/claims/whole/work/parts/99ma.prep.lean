theorem w_prepare {m y : GG} {N B S T n : Nat} {c : Nat → Nat} {M : Nat} {L : List (Nat × RC)} (h : rE y m N B S) (hD : rlD c M L y m) (hn : n ≤ 20) (hmn : m.1 0 7 = nI n) (hmT : m.1 0 6 = nI T) (hT20 : T ≤ 20) (h13 : y.1 0 13 = 0) :
    wF fX11_prepare [] y (fun v g => v = .null ∧ eqW y g ∧ g.2 = y.2 ∧ RD B N S T n L g m ∧ g.1 0 13 = 1 ∧ g.1 0 14 = 0) := by
  have hN24 := h.2.2.1.1
  have hB4 := h.2.2.2.1.1
  have hS6 := h.2.2.2.2.2.2.2.2.2.1.1
  have tie : ∀ g, eqW y g → T ≤ 20 ∧ g.1 15 10 = nI T ∧ ∀ t, t < T → g.1 19 t = m.1 35 t ∧ g.1 20 t = m.1 36 t ∧ g.1 21 t = m.1 37 t ∧ (0 ≤ m.1 35 t ∧ m.1 35 t ≤ 2) ∧ (∃ a, a < B ∧ m.1 36 t = nI a) ∧ (∃ b, b < B ∧ m.1 37 t = nI b) ∧ m.1 36 t ≠ m.1 37 t := by
    intro g hg
    obtain ⟨n', t1, t2, t3, t4⟩ := (h.z hg.z).2.2.2.2.1
    have en : n' = T := (nI_eq (by omega) (by omega)).mp (t3.symm.trans hmT)
    subst en
    exact ⟨t1, t2, t4⟩
  have eB : ∀ g, eqW y g → g.1 15 9 = nI B := fun g hg => (h.z hg.z).2.2.2.1.2.1
  have eN : ∀ g, eqW y g → g.1 6 6 = nI N := fun g hg => (h.z hg.z).2.2.1.2.1
  have hT := (tie y (eqW.rfl' y)).1
  unfold fX11_prepare
  simp (decide := true) only [wE_lit, wL_lit, wE_loc, wL_loc, wE_add, wE_sub, wE_mul, wE_and, wE_or, wE_xor, wE_shl, wE_shr, wE_ushr, wE_div, wE_rem, wE_neg, wE_i2b, wE_l2i, wL_i2l, wL_add, wL_mul, wE_fld, wL_fld, wE_arr, wL_arr, wC_cmp, wC_cmp0, wC_cmpL, wC_and, wC_or, wC_not, wC_ite, wL_ite, wA_nil, wA_int, wA_long, wE_call, wL_call, wS_skip, wS_seq, wS_set, wS_setL, wS_inc, wS_if, wS_put, wS_putL, wS_putOp, wS_putOpL, wS_ast, wS_astL, wS_aop, wS_aopL, wS_ret, wS_retL, wS_retV, wS_do, wS_pop, wS_dead, wS_sw, wF_body, Nat.reduceAdd, Nat.zero_add, Bool.not_not, true_and, and_true, if_true, if_false, ↓reduceIte, eq_self, Value.int.injEq, Value.long.injEq, exists_eq_left', ik_b1, ik_b0, ik_bz0, ik_bz3, ik_bz3_1, ik_bz3_0, ik_cmp, ik_cmpL, ik_eI, ik_eL, ik_as, ik_i0, ik_i1, decide_eq_true_eq, decide_eq_false_iff_not, decide_true, decide_false, Bool.not_true, Bool.not_false, reduceCtorEq, forall_const, false_implies, true_implies, implies_true, true_and, and_true, and_self, false_and, and_false, Bool.and_true, Bool.true_and, not_true_eq_false, not_false_eq_true, if_true, if_false, ite_true, ite_false, ik_bz3_0, ik_bz3_1, ik_bz0, w_cnt0, w_cnt6, h13, eB y (eqW.rfl' y), eN y (eqW.rfl' y)]
  refine wF_mono (w_begin2 hB4 hN24 y) ?_
  rintro _ g1 ⟨rfl, a1, a2, a3, a4, a5⟩
  refine ⟨rfl, ?_⟩
  refine wS_for _ _ (fun i σ => σ.1 1 = nI i ∧ eqW y σ.2.2 ∧ σ.2.2.2 = y.2 ∧ σ.2.2.1 48 = g1.1 48 ∧ σ.2.2.1 56 = g1.1 56 ∧ ∀ i', i' < i → σ.2.2.1 57 i' = ik_nw m i' ∧ σ.2.2.1 58 i' = m.1 9 i') 0 N _ ⟨by simp [upd, nI_0], a1, a2, rfl, rfl, fun i' hi => by omega⟩ (by omega) (by omega) ?_ ?_ ?_
  · rintro i ⟨s1, s2, s3⟩ b1 ⟨b2, b3, -⟩
    simp only at b2 b3
    simp (decide := true) only [wE_lit, wL_lit, wE_loc, wL_loc, wE_add, wE_sub, wE_mul, wE_and, wE_or, wE_xor, wE_shl, wE_shr, wE_ushr, wE_div, wE_rem, wE_neg, wE_i2b, wE_l2i, wL_i2l, wL_add, wL_mul, wE_fld, wL_fld, wE_arr, wL_arr, wC_cmp, wC_cmp0, wC_cmpL, wC_and, wC_or, wC_not, wC_ite, wL_ite, wA_nil, wA_int, wA_long, wE_call, wL_call, wS_skip, wS_seq, wS_set, wS_setL, wS_inc, wS_if, wS_put, wS_putL, wS_putOp, wS_putOpL, wS_ast, wS_astL, wS_aop, wS_aopL, wS_ret, wS_retL, wS_retV, wS_do, wS_pop, wS_dead, wS_sw, wF_body, Nat.reduceAdd, Nat.zero_add, Bool.not_not, true_and, and_true, if_true, if_false, ↓reduceIte, eq_self, Value.int.injEq, Value.long.injEq, exists_eq_left', ik_b1, ik_b0, ik_bz0, ik_bz3, ik_bz3_1, ik_bz3_0, ik_cmp, ik_cmpL, ik_eI, ik_eL, ik_as, ik_i0, ik_i1, decide_eq_true_eq, decide_eq_false_iff_not, decide_true, decide_false, Bool.not_true, Bool.not_false, reduceCtorEq, forall_const, false_implies, true_implies, implies_true, true_and, and_true, and_self, false_and, and_false, Bool.and_true, Bool.true_and, not_true_eq_false, not_false_eq_true, if_true, if_false, ite_true, ite_false, ik_bz3_0, ik_bz3_1, ik_bz0, w_cnt6, b2, eN s3 b3, nI_ltI (show i < 2 ^ 31 by omega) (show N < 2 ^ 31 by omega)]
  · rintro i ⟨s1, s2, s3⟩ b1 ⟨b2, b3, b4, b5, b6, b7⟩
    simp only at b2 b3 b4 b5 b6 b7
    have hz := h.z b3.z
    have wd := w_wide6 hz.2.1 hz.2.2.1 b1
    have wg := w_weight6 hz.2.2.1 b1
    simp (decide := true) only [wE_lit, wL_lit, wE_loc, wL_loc, wE_add, wE_sub, wE_mul, wE_and, wE_or, wE_xor, wE_shl, wE_shr, wE_ushr, wE_div, wE_rem, wE_neg, wE_i2b, wE_l2i, wL_i2l, wL_add, wL_mul, wE_fld, wL_fld, wE_arr, wL_arr, wC_cmp, wC_cmp0, wC_cmpL, wC_and, wC_or, wC_not, wC_ite, wL_ite, wA_nil, wA_int, wA_long, wE_call, wL_call, wS_skip, wS_seq, wS_set, wS_setL, wS_inc, wS_if, wS_put, wS_putL, wS_putOp, wS_putOpL, wS_ast, wS_astL, wS_aop, wS_aopL, wS_ret, wS_retL, wS_retV, wS_do, wS_pop, wS_dead, wS_sw, wF_body, Nat.reduceAdd, Nat.zero_add, Bool.not_not, true_and, and_true, if_true, if_false, ↓reduceIte, eq_self, Value.int.injEq, Value.long.injEq, exists_eq_left', ik_b1, ik_b0, ik_bz0, ik_bz3, ik_bz3_1, ik_bz3_0, ik_cmp, ik_cmpL, ik_eI, ik_eL, ik_as, ik_i0, ik_i1, decide_eq_true_eq, decide_eq_false_iff_not, decide_true, decide_false, Bool.not_true, Bool.not_false, reduceCtorEq, forall_const, false_implies, true_implies, implies_true, true_and, and_true, and_self, false_and, and_false, Bool.and_true, Bool.true_and, not_true_eq_false, not_false_eq_true, if_true, if_false, ite_true, ite_false, ik_bz3_0, ik_bz3_1, ik_bz0, b2, wd, wg, w_setName (show i < 24 by omega), upd_at, upd_off, nI_1, nI_add]
    refine ⟨(b3.si _ (kW_ge (by decide))).si _ (kW_ge (by decide)), b4, ?_, ?_, fun i' hi => ?_⟩
    · rw [ik_si_row _ _ _ _ _ (by decide), ik_si_row _ _ _ _ _ (by decide)]; exact b5
    · rw [ik_si_row _ _ _ _ _ (by decide), ik_si_row _ _ _ _ _ (by decide)]; exact b6
    · rw [ik_si_row _ 58 57 _ _ (by decide)]
      by_cases e : i' = i
      · subst e
        rw [ik_si_same, ik_si_same]
        exact ⟨rfl, rfl⟩
      · rw [ik_si_ne _ _ _ _ _ e, ik_si_ne _ _ _ _ _ e, ik_si_row _ 57 58 _ _ (by decide)]
        exact b7 i' (by omega)
  rintro ⟨s1, s2, s3⟩ ⟨b2, b3, b4, b5, b6, b7⟩
  simp only at b3 b4 b5 b6 b7
  simp (decide := true) only [wE_lit, wL_lit, wE_loc, wL_loc, wE_add, wE_sub, wE_mul, wE_and, wE_or, wE_xor, wE_shl, wE_shr, wE_ushr, wE_div, wE_rem, wE_neg, wE_i2b, wE_l2i, wL_i2l, wL_add, wL_mul, wE_fld, wL_fld, wE_arr, wL_arr, wC_cmp, wC_cmp0, wC_cmpL, wC_and, wC_or, wC_not, wC_ite, wL_ite, wA_nil, wA_int, wA_long, wE_call, wL_call, wS_skip, wS_seq, wS_set, wS_setL, wS_inc, wS_if, wS_put, wS_putL, wS_putOp, wS_putOpL, wS_ast, wS_astL, wS_aop, wS_aopL, wS_ret, wS_retL, wS_retV, wS_do, wS_pop, wS_dead, wS_sw, wF_body, Nat.reduceAdd, Nat.zero_add, Bool.not_not, true_and, and_true, if_true, if_false, ↓reduceIte, eq_self, Value.int.injEq, Value.long.injEq, exists_eq_left', ik_b1, ik_b0, ik_bz0, ik_bz3, ik_bz3_1, ik_bz3_0, ik_cmp, ik_cmpL, ik_eI, ik_eL, ik_as, ik_i0, ik_i1, decide_eq_true_eq, decide_eq_false_iff_not, decide_true, decide_false, Bool.not_true, Bool.not_false, reduceCtorEq, forall_const, false_implies, true_implies, implies_true, true_and, and_true, and_self, false_and, and_false, Bool.and_true, Bool.true_and, not_true_eq_false, not_false_eq_true, if_true, if_false, ite_true, ite_false, ik_bz3_0, ik_bz3_1, ik_bz0]
  refine wS_for _ _ (fun t σ => σ.1 1 = nI t ∧ eqW y σ.2.2 ∧ σ.2.2.2 = y.2 ∧ (∀ c, c ≠ 56 → σ.2.2.1 c = s3.1 c) ∧ ∀ q k i j, q < k → k < B → i < N → j < N → ib (σ.2.2.1 56 ((q * 4 + k) * 24 + i)) j = prB m t q k i j) 0 T _ ⟨by simp [upd, nI_0], b3, b4, fun _ _ => rfl, fun q k i j hq hk hi hj => ?_⟩ (by omega) (by omega) ?_ ?_ ?_
  · show ib (s3.1 56 _) j = _
    rw [b6, a5 _ (by omega), ib_m1 (by omega)]
    rfl
  · rintro t ⟨t1, t2, t3⟩ d1 ⟨d2, d3, -⟩
    simp only at d2 d3
    simp (decide := true) only [wE_lit, wL_lit, wE_loc, wL_loc, wE_add, wE_sub, wE_mul, wE_and, wE_or, wE_xor, wE_shl, wE_shr, wE_ushr, wE_div, wE_rem, wE_neg, wE_i2b, wE_l2i, wL_i2l, wL_add, wL_mul, wE_fld, wL_fld, wE_arr, wL_arr, wC_cmp, wC_cmp0, wC_cmpL, wC_and, wC_or, wC_not, wC_ite, wL_ite, wA_nil, wA_int, wA_long, wE_call, wL_call, wS_skip, wS_seq, wS_set, wS_setL, wS_inc, wS_if, wS_put, wS_putL, wS_putOp, wS_putOpL, wS_ast, wS_astL, wS_aop, wS_aopL, wS_ret, wS_retL, wS_retV, wS_do, wS_pop, wS_dead, wS_sw, wF_body, Nat.reduceAdd, Nat.zero_add, Bool.not_not, true_and, and_true, if_true, if_false, ↓reduceIte, eq_self, Value.int.injEq, Value.long.injEq, exists_eq_left', ik_b1, ik_b0, ik_bz0, ik_bz3, ik_bz3_1, ik_bz3_0, ik_cmp, ik_cmpL, ik_eI, ik_eL, ik_as, ik_i0, ik_i1, decide_eq_true_eq, decide_eq_false_iff_not, decide_true, decide_false, Bool.not_true, Bool.not_false, reduceCtorEq, forall_const, false_implies, true_implies, implies_true, true_and, and_true, and_self, false_and, and_false, Bool.and_true, Bool.true_and, not_true_eq_false, not_false_eq_true, if_true, if_false, ite_true, ite_false, ik_bz3_0, ik_bz3_1, ik_bz0, w_cntT, d2, (tie t3 d3).2.1, nI_ltI (show t < 2 ^ 31 by omega) (show T < 2 ^ 31 by omega)]
  · rintro t ⟨t1, t2, t3⟩ d1 ⟨d2, d3, d4, d5, d6⟩
    simp only at d2 d3 d4 d5 d6
    obtain ⟨-, u1, u2⟩ := tie t3 d3
    obtain ⟨v19, v20, v21, vs, ⟨a, ha, ea⟩, ⟨b, hb, eb⟩, hne⟩ := u2 t d1
    have hab : a ≠ b := fun q => hne (by rw [ea, eb, q])
    have f1 := w_tieFirst u1 hT d1
    have f2 := w_tieSecond u1 hT d1
    rw [v20, ea] at f1
    rw [v21, eb] at f2
    simp (decide := true) only [wE_lit, wL_lit, wE_loc, wL_loc, wE_add, wE_sub, wE_mul, wE_and, wE_or, wE_xor, wE_shl, wE_shr, wE_ushr, wE_div, wE_rem, wE_neg, wE_i2b, wE_l2i, wL_i2l, wL_add, wL_mul, wE_fld, wL_fld, wE_arr, wL_arr, wC_cmp, wC_cmp0, wC_cmpL, wC_and, wC_or, wC_not, wC_ite, wL_ite, wA_nil, wA_int, wA_long, wE_call, wL_call, wS_skip, wS_seq, wS_set, wS_setL, wS_inc, wS_if, wS_put, wS_putL, wS_putOp, wS_putOpL, wS_ast, wS_astL, wS_aop, wS_aopL, wS_ret, wS_retL, wS_retV, wS_do, wS_pop, wS_dead, wS_sw, wF_body, Nat.reduceAdd, Nat.zero_add, Bool.not_not, true_and, and_true, if_true, if_false, ↓reduceIte, eq_self, Value.int.injEq, Value.long.injEq, exists_eq_left', ik_b1, ik_b0, ik_bz0, ik_bz3, ik_bz3_1, ik_bz3_0, ik_cmp, ik_cmpL, ik_eI, ik_eL, ik_as, ik_i0, ik_i1, decide_eq_true_eq, decide_eq_false_iff_not, decide_true, decide_false, Bool.not_true, Bool.not_false, reduceCtorEq, forall_const, false_implies, true_implies, implies_true, true_and, and_true, and_self, false_and, and_false, Bool.and_true, Bool.true_and, not_true_eq_false, not_false_eq_true, if_true, if_false, ite_true, ite_false, ik_bz3_0, ik_bz3_1, ik_bz0, d2, f1, f2, upd_at, upd_off]
    refine wS_for _ _ (fun i σ => σ.1 4 = nI i ∧ σ.1 1 = nI t ∧ σ.1 2 = nI a ∧ σ.1 3 = nI b ∧ eqW y σ.2.2 ∧ σ.2.2.2 = y.2 ∧ (∀ c, c ≠ 56 → σ.2.2.1 c = s3.1 c) ∧ ∀ q k i' j, q < k → k < B → i' < N → j < N → ib (σ.2.2.1 56 ((q * 4 + k) * 24 + i')) j = prT m t i q k i' j) 0 N _ ⟨by simp [upd, nI_0], by simp [upd, d2], by simp [upd], by simp [upd], d3, d4, d5, fun q k i j hq hk hi hj => (d6 q k i j hq hk hi hj).trans (prT_0 m t q k i j).symm⟩ (by omega) (by omega) ?_ ?_ ?_
    · rintro i ⟨r1, r2, r3⟩ p1 ⟨p2, -, -, -, p3, -⟩
      simp only at p2 p3
      simp (decide := true) only [wE_lit, wL_lit, wE_loc, wL_loc, wE_add, wE_sub, wE_mul, wE_and, wE_or, wE_xor, wE_shl, wE_shr, wE_ushr, wE_div, wE_rem, wE_neg, wE_i2b, wE_l2i, wL_i2l, wL_add, wL_mul, wE_fld, wL_fld, wE_arr, wL_arr, wC_cmp, wC_cmp0, wC_cmpL, wC_and, wC_or, wC_not, wC_ite, wL_ite, wA_nil, wA_int, wA_long, wE_call, wL_call, wS_skip, wS_seq, wS_set, wS_setL, wS_inc, wS_if, wS_put, wS_putL, wS_putOp, wS_putOpL, wS_ast, wS_astL, wS_aop, wS_aopL, wS_ret, wS_retL, wS_retV, wS_do, wS_pop, wS_dead, wS_sw, wF_body, Nat.reduceAdd, Nat.zero_add, Bool.not_not, true_and, and_true, if_true, if_false, ↓reduceIte, eq_self, Value.int.injEq, Value.long.injEq, exists_eq_left', ik_b1, ik_b0, ik_bz0, ik_bz3, ik_bz3_1, ik_bz3_0, ik_cmp, ik_cmpL, ik_eI, ik_eL, ik_as, ik_i0, ik_i1, decide_eq_true_eq, decide_eq_false_iff_not, decide_true, decide_false, Bool.not_true, Bool.not_false, reduceCtorEq, forall_const, false_implies, true_implies, implies_true, true_and, and_true, and_self, false_and, and_false, Bool.and_true, Bool.true_and, not_true_eq_false, not_false_eq_true, if_true, if_false, ite_true, ite_false, ik_bz3_0, ik_bz3_1, ik_bz0, w_cnt6, p2, eN r3 p3, nI_ltI (show i < 2 ^ 31 by omega) (show N < 2 ^ 31 by omega)]
    · rintro i ⟨r1, r2, r3⟩ p1 ⟨p2, p3, p4, p5, p6, p7, p8, p9⟩
      simp only at p2 p3 p4 p5 p6 p7 p8 p9
      obtain ⟨-, w1', w2'⟩ := tie r3 p6
      obtain ⟨g2, q1, q2, q3, q4, q5⟩ := w_tie1 (h.z p6.z).2.2.1 hB4 hT w1' d1 (w2' t d1).1 vs ha hb ea eb hab p1 p9
      rw [wS_seq, q5 r1 r2 _ _ p3 p4 p5 p2]
      simp (decide := true) only [wE_lit, wL_lit, wE_loc, wL_loc, wE_add, wE_sub, wE_mul, wE_and, wE_or, wE_xor, wE_shl, wE_shr, wE_ushr, wE_div, wE_rem, wE_neg, wE_i2b, wE_l2i, wL_i2l, wL_add, wL_mul, wE_fld, wL_fld, wE_arr, wL_arr, wC_cmp, wC_cmp0, wC_cmpL, wC_and, wC_or, wC_not, wC_ite, wL_ite, wA_nil, wA_int, wA_long, wE_call, wL_call, wS_skip, wS_seq, wS_set, wS_setL, wS_inc, wS_if, wS_put, wS_putL, wS_putOp, wS_putOpL, wS_ast, wS_astL, wS_aop, wS_aopL, wS_ret, wS_retL, wS_retV, wS_do, wS_pop, wS_dead, wS_sw, wF_body, Nat.reduceAdd, Nat.zero_add, Bool.not_not, true_and, and_true, if_true, if_false, ↓reduceIte, eq_self, Value.int.injEq, Value.long.injEq, exists_eq_left', ik_b1, ik_b0, ik_bz0, ik_bz3, ik_bz3_1, ik_bz3_0, ik_cmp, ik_cmpL, ik_eI, ik_eL, ik_as, ik_i0, ik_i1, decide_eq_true_eq, decide_eq_false_iff_not, decide_true, decide_false, Bool.not_true, Bool.not_false, reduceCtorEq, forall_const, false_implies, true_implies, implies_true, true_and, and_true, and_self, false_and, and_false, Bool.and_true, Bool.true_and, not_true_eq_false, not_false_eq_true, if_true, if_false, ite_true, ite_false, ik_bz3_0, ik_bz3_1, ik_bz0, p2, p3, p4, p5, upd_at, upd_off, nI_1, nI_add]
      exact ⟨p6.tr q1, q2.trans p7, fun c hc => (q3 c hc).trans (p8 c hc), q4⟩
    · rintro ⟨r1, r2, r3⟩ ⟨p2, p3, p4, p5, p6, p7, p8, p9⟩
      simp only at p3 p6 p7 p8 p9
      simp (decide := true) only [wE_lit, wL_lit, wE_loc, wL_loc, wE_add, wE_sub, wE_mul, wE_and, wE_or, wE_xor, wE_shl, wE_shr, wE_ushr, wE_div, wE_rem, wE_neg, wE_i2b, wE_l2i, wL_i2l, wL_add, wL_mul, wE_fld, wL_fld, wE_arr, wL_arr, wC_cmp, wC_cmp0, wC_cmpL, wC_and, wC_or, wC_not, wC_ite, wL_ite, wA_nil, wA_int, wA_long, wE_call, wL_call, wS_skip, wS_seq, wS_set, wS_setL, wS_inc, wS_if, wS_put, wS_putL, wS_putOp, wS_putOpL, wS_ast, wS_astL, wS_aop, wS_aopL, wS_ret, wS_retL, wS_retV, wS_do, wS_pop, wS_dead, wS_sw, wF_body, Nat.reduceAdd, Nat.zero_add, Bool.not_not, true_and, and_true, if_true, if_false, ↓reduceIte, eq_self, Value.int.injEq, Value.long.injEq, exists_eq_left', ik_b1, ik_b0, ik_bz0, ik_bz3, ik_bz3_1, ik_bz3_0, ik_cmp, ik_cmpL, ik_eI, ik_eL, ik_as, ik_i0, ik_i1, decide_eq_true_eq, decide_eq_false_iff_not, decide_true, decide_false, Bool.not_true, Bool.not_false, reduceCtorEq, forall_const, false_implies, true_implies, implies_true, true_and, and_true, and_self, false_and, and_false, Bool.and_true, Bool.true_and, not_true_eq_false, not_false_eq_true, if_true, if_false, ite_true, ite_false, ik_bz3_0, ik_bz3_1, ik_bz0, p3, upd_at, upd_off, nI_1, nI_add]
      exact ⟨p6, p7, p8, fun q k i j hq hk hi hj => (p9 q k i j hq hk hi hj).trans (prT_N hi)⟩
  rintro ⟨t1, t2, t3⟩ ⟨d2, d3, d4, d5, d6⟩
  simp only at d3 d4 d5 d6
  simp (decide := true) only [wE_lit, wL_lit, wE_loc, wL_loc, wE_add, wE_sub, wE_mul, wE_and, wE_or, wE_xor, wE_shl, wE_shr, wE_ushr, wE_div, wE_rem, wE_neg, wE_i2b, wE_l2i, wL_i2l, wL_add, wL_mul, wE_fld, wL_fld, wE_arr, wL_arr, wC_cmp, wC_cmp0, wC_cmpL, wC_and, wC_or, wC_not, wC_ite, wL_ite, wA_nil, wA_int, wA_long, wE_call, wL_call, wS_skip, wS_seq, wS_set, wS_setL, wS_inc, wS_if, wS_put, wS_putL, wS_putOp, wS_putOpL, wS_ast, wS_astL, wS_aop, wS_aopL, wS_ret, wS_retL, wS_retV, wS_do, wS_pop, wS_dead, wS_sw, wF_body, Nat.reduceAdd, Nat.zero_add, Bool.not_not, true_and, and_true, if_true, if_false, ↓reduceIte, eq_self, Value.int.injEq, Value.long.injEq, exists_eq_left', ik_b1, ik_b0, ik_bz0, ik_bz3, ik_bz3_1, ik_bz3_0, ik_cmp, ik_cmpL, ik_eI, ik_eL, ik_as, ik_i0, ik_i1, decide_eq_true_eq, decide_eq_false_iff_not, decide_true, decide_false, Bool.not_true, Bool.not_false, reduceCtorEq, forall_const, false_implies, true_implies, implies_true, true_and, and_true, and_self, false_and, and_false, Bool.and_true, Bool.true_and, not_true_eq_false, not_false_eq_true, if_true, if_false, ite_true, ite_false, ik_bz3_0, ik_bz3_1, ik_bz0]
  refine wF_mono (w_readX (h.z d3.z) (eqL.rfl' t3)) ?_
  rintro _ g4 ⟨rfl, k1, k2⟩
  refine ⟨rfl, ?_⟩
  have k3 := d3.tr k1.w
  have k4 : g4.2 = y.2 := k1.2.2.trans d4
  have r48 : ∀ j, g4.1 48 j = g1.1 48 j := fun j => by rw [k1.1 48 (by decide) (by decide) (by decide) (by decide) (by decide) (by decide), d5 48 (by decide), b5]
  have r57 : ∀ i, i < N → g4.1 57 i = ik_nw m i ∧ g4.1 58 i = m.1 9 i := fun i hi => by
    rw [k1.1 57 (by decide) (by decide) (by decide) (by decide) (by decide) (by decide), d5 57 (by decide), k1.1 58 (by decide) (by decide) (by decide) (by decide) (by decide) (by decide), d5 58 (by decide)]
    exact b7 i hi
  have r56 : ∀ q k i j, q < k → k < B → i < N → j < N → ib (g4.1 56 ((q * 4 + k) * 24 + i)) j = prB m T q k i j := fun q k i j hq hk hi hj => by
    rw [k1.1 56 (by decide) (by decide) (by decide) (by decide) (by decide) (by decide)]
    exact d6 q k i j hq hk hi hj
  have fin : ∀ g, eqW y g → g.2 = y.2 → (∀ c, c ≠ 35 → c ≠ 38 → c ≠ 63 → g.1 c = g4.1 c) → (∀ k i, k < B → i < N → g.1 63 (24 * k + i) = nI (agB m S n L k i)) → eqW y (ik_si (ik_si g 0 13 1) 0 14 0) ∧ (ik_si (ik_si g 0 13 1) 0 14 0).2 = y.2 ∧ RD B N S T n L (ik_si (ik_si g 0 13 1) 0 14 0) m ∧ (ik_si (ik_si g 0 13 1) 0 14 0).1 0 13 = 1 ∧ (ik_si (ik_si g 0 13 1) 0 14 0).1 0 14 = 0 := by
    intro g z1 z2 z3 z4
    have f : ∀ c, c ≠ 0 → (ik_si (ik_si g 0 13 1) 0 14 0).1 c = g.1 c := fun c hc => by rw [ik_si_row _ _ _ _ _ hc, ik_si_row _ _ _ _ _ hc]
    have f' : ∀ c, c ≠ 0 → c ≠ 35 → c ≠ 38 → c ≠ 63 → (ik_si (ik_si g 0 13 1) 0 14 0).1 c = g4.1 c := fun c h0 h1 h2 h3 => (f c h0).trans (z3 c h1 h2 h3)
    refine ⟨(z1.si _ rfl).si _ rfl, z2, ⟨k2.fr ?_ ?_ ?_ ?_ ?_, ?_, ?_, fun i hi => ?_, fun q k i j hq hk hi hj => ?_, fun k i hk hi => ?_⟩, ?_, ik_si_same _ _ _ _⟩
    · rw [f' 49 (by decide) (by decide) (by decide) (by decide)]
    · exact f' 50 (by decide) (by decide) (by decide) (by decide)
    · exact f' 51 (by decide) (by decide) (by decide) (by decide)
    · exact f' 52 (by decide) (by decide) (by decide) (by decide)
    · exact f' 53 (by decide) (by decide) (by decide) (by decide)
    · rw [f' 48 (by decide) (by decide) (by decide) (by decide), r48]; exact a3
    · rw [f' 48 (by decide) (by decide) (by decide) (by decide), r48]; exact a4
    · rw [f' 57 (by decide) (by decide) (by decide) (by decide), f' 58 (by decide) (by decide) (by decide) (by decide)]; exact r57 i hi
    · rw [f' 56 (by decide) (by decide) (by decide) (by decide)]; exact r56 q k i j hq hk hi hj
    · rw [f 63 (by decide)]; exact z4 k i hk hi
    · rw [ik_si_ne _ _ _ _ _ (by decide)]; exact ik_si_same _ _ _ _
  refine wS_for _ _ (fun k σ => σ.1 1 = nI k ∧ eqW y σ.2.2 ∧ σ.2.2.2 = y.2 ∧ (∀ c, c ≠ 35 → c ≠ 38 → c ≠ 63 → σ.2.2.1 c = g4.1 c) ∧ ∀ k' i, k' < k → i < N → σ.2.2.1 63 (24 * k' + i) = nI (agB m S n L k' i)) 0 B _ ⟨by simp [upd, nI_0], k3, k4, fun _ _ _ _ => rfl, fun k' i hk => by omega⟩ (by omega) (by omega) ?_ ?_ ?_
  · rintro k ⟨r1, r2, r3⟩ p1 ⟨p2, p3, -⟩
    simp only at p2 p3
    exact wc_bars hB4 (eB r3 p3) p1 p2
  · rintro k ⟨r1, r2, r3⟩ p1 ⟨p2, p3, p4, p5, p6⟩
    simp only at p2 p3 p4 p5 p6
    simp (decide := true) only [wE_lit, wL_lit, wE_loc, wL_loc, wE_add, wE_sub, wE_mul, wE_and, wE_or, wE_xor, wE_shl, wE_shr, wE_ushr, wE_div, wE_rem, wE_neg, wE_i2b, wE_l2i, wL_i2l, wL_add, wL_mul, wE_fld, wL_fld, wE_arr, wL_arr, wC_cmp, wC_cmp0, wC_cmpL, wC_and, wC_or, wC_not, wC_ite, wL_ite, wA_nil, wA_int, wA_long, wE_call, wL_call, wS_skip, wS_seq, wS_set, wS_setL, wS_inc, wS_if, wS_put, wS_putL, wS_putOp, wS_putOpL, wS_ast, wS_astL, wS_aop, wS_aopL, wS_ret, wS_retL, wS_retV, wS_do, wS_pop, wS_dead, wS_sw, wF_body, Nat.reduceAdd, Nat.zero_add, Bool.not_not, true_and, and_true, if_true, if_false, ↓reduceIte, eq_self, Value.int.injEq, Value.long.injEq, exists_eq_left', ik_b1, ik_b0, ik_bz0, ik_bz3, ik_bz3_1, ik_bz3_0, ik_cmp, ik_cmpL, ik_eI, ik_eL, ik_as, ik_i0, ik_i1, decide_eq_true_eq, decide_eq_false_iff_not, decide_true, decide_false, Bool.not_true, Bool.not_false, reduceCtorEq, forall_const, false_implies, true_implies, implies_true, true_and, and_true, and_self, false_and, and_false, Bool.and_true, Bool.true_and, not_true_eq_false, not_false_eq_true, if_true, if_false, ite_true, ite_false, ik_bz3_0, ik_bz3_1, ik_bz0]
    refine wS_for _ _ (fun i σ => σ.1 2 = nI i ∧ σ.1 1 = nI k ∧ eqW y σ.2.2 ∧ σ.2.2.2 = y.2 ∧ (∀ c, c ≠ 35 → c ≠ 38 → c ≠ 63 → σ.2.2.1 c = g4.1 c) ∧ (∀ k' i', k' < k → i' < N → σ.2.2.1 63 (24 * k' + i') = nI (agB m S n L k' i')) ∧ ∀ i', i' < i → σ.2.2.1 63 (24 * k + i') = nI (agB m S n L k i')) 0 N _ ⟨by simp [upd, nI_0], by simp [upd, p2], p3, p4, p5, p6, fun i' hi => by omega⟩ (by omega) (by omega) ?_ ?_ ?_
    · rintro i ⟨q1, q2, q3⟩ o1 ⟨o2, -, o3, -⟩
      simp only at o2 o3
      exact wc_names hN24 (eN q3 o3) o1 o2
    · rintro i ⟨q1, q2, q3⟩ o1 ⟨o2, o3, o4, o5, o6, o7, o8⟩
      simp only at o2 o3 o4 o5 o6 o7 o8
      obtain ⟨_, g5, e5, rfl, f5⟩ := w_reasonsX (h.z o4.z) (hD.w o4) hn hmn (eqF.rfl' q3) p1 o1
      have ix := ik_ix_nI (show 24 * k + i < 96 by omega) (by omega)
      have e62 : nI k * (24 : Int32) + nI i = nI (24 * k + i) := by rw [show (24 : Int32) = nI 24 from rfl, pk_mul, nI_add, Nat.mul_comm]
      simp (decide := true) only [wE_lit, wL_lit, wE_loc, wL_loc, wE_add, wE_sub, wE_mul, wE_and, wE_or, wE_xor, wE_shl, wE_shr, wE_ushr, wE_div, wE_rem, wE_neg, wE_i2b, wE_l2i, wL_i2l, wL_add, wL_mul, wE_fld, wL_fld, wE_arr, wL_arr, wC_cmp, wC_cmp0, wC_cmpL, wC_and, wC_or, wC_not, wC_ite, wL_ite, wA_nil, wA_int, wA_long, wE_call, wL_call, wS_skip, wS_seq, wS_set, wS_setL, wS_inc, wS_if, wS_put, wS_putL, wS_putOp, wS_putOpL, wS_ast, wS_astL, wS_aop, wS_aopL, wS_ret, wS_retL, wS_retV, wS_do, wS_pop, wS_dead, wS_sw, wF_body, Nat.reduceAdd, Nat.zero_add, Bool.not_not, true_and, and_true, if_true, if_false, ↓reduceIte, eq_self, Value.int.injEq, Value.long.injEq, exists_eq_left', ik_b1, ik_b0, ik_bz0, ik_bz3, ik_bz3_1, ik_bz3_0, ik_cmp, ik_cmpL, ik_eI, ik_eL, ik_as, ik_i0, ik_i1, decide_eq_true_eq, decide_eq_false_iff_not, decide_true, decide_false, Bool.not_true, Bool.not_false, reduceCtorEq, forall_const, false_implies, true_implies, implies_true, true_and, and_true, and_self, false_and, and_false, Bool.and_true, Bool.true_and, not_true_eq_false, not_false_eq_true, if_true, if_false, ite_true, ite_false, ik_bz3_0, ik_bz3_1, ik_bz0, o2, o3, e62, ix, Option.some.injEq, wF_eq e5, upd_at, upd_off, nI_1, nI_add]
      have r63 : g5.1 63 = q3.1 63 := f5.1 63 (by decide) (by decide)
      refine ⟨(o4.tr f5.w).si _ (kW_ge (by decide)), f5.2.2.trans o5, fun c h1 h2 h3 => ?_, fun k' i' hk hi => ?_, fun i' hi => ?_⟩
      · rw [ik_si_row _ _ _ _ _ h3, f5.1 c h1 h2]; exact o6 c h1 h2 h3
      · rw [ik_si_ne _ _ _ _ _ (by omega), r63]; exact o7 k' i' hk hi
      · by_cases e : i' = i
        · subst e; exact ik_si_same _ _ _ _
        · rw [ik_si_ne _ _ _ _ _ (by omega), r63]; exact o8 i' (by omega)
    · rintro ⟨q1, q2, q3⟩ ⟨o2, o3, o4, o5, o6, o7, o8⟩
      simp only at o3 o4 o5 o6 o7 o8
      simp (decide := true) only [wE_lit, wL_lit, wE_loc, wL_loc, wE_add, wE_sub, wE_mul, wE_and, wE_or, wE_xor, wE_shl, wE_shr, wE_ushr, wE_div, wE_rem, wE_neg, wE_i2b, wE_l2i, wL_i2l, wL_add, wL_mul, wE_fld, wL_fld, wE_arr, wL_arr, wC_cmp, wC_cmp0, wC_cmpL, wC_and, wC_or, wC_not, wC_ite, wL_ite, wA_nil, wA_int, wA_long, wE_call, wL_call, wS_skip, wS_seq, wS_set, wS_setL, wS_inc, wS_if, wS_put, wS_putL, wS_putOp, wS_putOpL, wS_ast, wS_astL, wS_aop, wS_aopL, wS_ret, wS_retL, wS_retV, wS_do, wS_pop, wS_dead, wS_sw, wF_body, Nat.reduceAdd, Nat.zero_add, Bool.not_not, true_and, and_true, if_true, if_false, ↓reduceIte, eq_self, Value.int.injEq, Value.long.injEq, exists_eq_left', ik_b1, ik_b0, ik_bz0, ik_bz3, ik_bz3_1, ik_bz3_0, ik_cmp, ik_cmpL, ik_eI, ik_eL, ik_as, ik_i0, ik_i1, decide_eq_true_eq, decide_eq_false_iff_not, decide_true, decide_false, Bool.not_true, Bool.not_false, reduceCtorEq, forall_const, false_implies, true_implies, implies_true, true_and, and_true, and_self, false_and, and_false, Bool.and_true, Bool.true_and, not_true_eq_false, not_false_eq_true, if_true, if_false, ite_true, ite_false, ik_bz3_0, ik_bz3_1, ik_bz0, o3, upd_at, upd_off, nI_1, nI_add]
      refine ⟨o4, o5, o6, fun k' i hk hi => ?_⟩
      by_cases e : k' = k
      · subst e; exact o8 i hi
      · exact o7 k' i (by omega) hi
  · rintro ⟨r1, r2, r3⟩ ⟨p2, p3, p4, p5, p6⟩
    simp only at p3 p4 p5 p6
    simp (decide := true) only [wE_lit, wL_lit, wE_loc, wL_loc, wE_add, wE_sub, wE_mul, wE_and, wE_or, wE_xor, wE_shl, wE_shr, wE_ushr, wE_div, wE_rem, wE_neg, wE_i2b, wE_l2i, wL_i2l, wL_add, wL_mul, wE_fld, wL_fld, wE_arr, wL_arr, wC_cmp, wC_cmp0, wC_cmpL, wC_and, wC_or, wC_not, wC_ite, wL_ite, wA_nil, wA_int, wA_long, wE_call, wL_call, wS_skip, wS_seq, wS_set, wS_setL, wS_inc, wS_if, wS_put, wS_putL, wS_putOp, wS_putOpL, wS_ast, wS_astL, wS_aop, wS_aopL, wS_ret, wS_retL, wS_retV, wS_do, wS_pop, wS_dead, wS_sw, wF_body, Nat.reduceAdd, Nat.zero_add, Bool.not_not, true_and, and_true, if_true, if_false, ↓reduceIte, eq_self, Value.int.injEq, Value.long.injEq, exists_eq_left', ik_b1, ik_b0, ik_bz0, ik_bz3, ik_bz3_1, ik_bz3_0, ik_cmp, ik_cmpL, ik_eI, ik_eL, ik_as, ik_i0, ik_i1, decide_eq_true_eq, decide_eq_false_iff_not, decide_true, decide_false, Bool.not_true, Bool.not_false, reduceCtorEq, forall_const, false_implies, true_implies, implies_true, true_and, and_true, and_self, false_and, and_false, Bool.and_true, Bool.true_and, not_true_eq_false, not_false_eq_true, if_true, if_false, ite_true, ite_false, ik_bz3_0, ik_bz3_1, ik_bz0]
    exact fin r3 p3 p4 p5 p6
