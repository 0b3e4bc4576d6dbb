/-! the reference's fillings -/
theorem w_tableOf {g : GG} {N B : Nat} {u : Nat → Nat} {R : Nat → Nat → Nat} (hB : B ≤ 4) (e3 : g.1 0 3 = nI B) (hN : N ≤ 24) (hu : ∀ k, k < B → u k < N ∧ g.1 20 k = nI (u k)) (h44 : ∀ k i, k < B → i < N → g.1 44 (24 * k + i) = nI (R k i)) (Q : Value → GG → Prop) : wF fX12_tableOf [] g Q ↔ Q (.int (nI (rsA (fun k => R k (u k)) B))) g := by
  refine wF_eq (eq_of_wF ?_) Q
  unfold fX12_tableOf
  simp (decide := true) only [wE_lit, wL_lit, wE_loc, wL_loc, wE_add, wE_sub, wE_mul, wE_and, wE_or, wE_xor, wE_shl, wE_shr, wE_ushr, wE_div, wE_rem, wE_neg, wE_i2b, wE_l2i, wL_i2l, wL_add, wL_mul, wE_fld, wL_fld, wE_arr, wL_arr, wC_cmp, wC_cmp0, wC_cmpL, wC_and, wC_or, wC_not, wC_ite, wL_ite, wA_nil, wA_int, wA_long, wE_call, wL_call, wS_skip, wS_seq, wS_set, wS_setL, wS_inc, wS_if, wS_put, wS_putL, wS_putOp, wS_putOpL, wS_ast, wS_astL, wS_aop, wS_aopL, wS_ret, wS_retL, wS_retV, wS_do, wS_pop, wS_dead, wS_sw, wF_body, Nat.reduceAdd, Nat.zero_add, Bool.not_not, true_and, and_true, if_true, if_false, ↓reduceIte, eq_self, Value.int.injEq, Value.long.injEq, exists_eq_left', ik_b1, ik_b0, ik_bz0, ik_bz3, ik_bz3_1, ik_bz3_0, ik_cmp, ik_cmpL, ik_eI, ik_eL, ik_as, ik_i0, ik_i1, decide_eq_true_eq, decide_eq_false_iff_not, decide_true, decide_false, Bool.not_true, Bool.not_false, reduceCtorEq, forall_const, false_implies, true_implies, implies_true, true_and, and_true, and_self, false_and, and_false, Bool.and_true, Bool.true_and, not_true_eq_false, not_false_eq_true, if_true, if_false, ite_true, ite_false, ik_bz3_0, ik_bz3_1, ik_bz0]
  refine wS_for _ _ (fun k σ => σ.1 2 = nI k ∧ σ.1 1 = nI (rsA (fun k => R k (u k)) k) ∧ σ.2.2 = g) 0 B _ ⟨by simp [upd, nI_0], by simp [upd, rsA, nI_0], rfl⟩ (by omega) (by omega) ?_ ?_ ?_
  · rintro k ⟨s1, s2, s3⟩ h1 ⟨h2, -, h3⟩
    simp only at h2 h3
    subst h3
    exact wc_1 e3 (by omega) h1 h2
  · rintro k ⟨s1, s2, s3⟩ h1 ⟨h2, h3, h4⟩
    simp only at h2 h3 h4
    subst h4
    obtain ⟨u1, u2⟩ := hu k h1
    have ix := ik_ix_nI (show 24 * k + u k < 96 by omega) (by omega)
    have e62 : (24 : Int32) * nI k + nI (u k) = nI (24 * k + u k) := by rw [show (24 : Int32) = nI 24 from rfl, pk_mul, nI_add]
    simp (decide := true) only [wE_lit, wL_lit, wE_loc, wL_loc, wE_add, wE_sub, wE_mul, wE_and, wE_or, wE_xor, wE_shl, wE_shr, wE_ushr, wE_div, wE_rem, wE_neg, wE_i2b, wE_l2i, wL_i2l, wL_add, wL_mul, wE_fld, wL_fld, wE_arr, wL_arr, wC_cmp, wC_cmp0, wC_cmpL, wC_and, wC_or, wC_not, wC_ite, wL_ite, wA_nil, wA_int, wA_long, wE_call, wL_call, wS_skip, wS_seq, wS_set, wS_setL, wS_inc, wS_if, wS_put, wS_putL, wS_putOp, wS_putOpL, wS_ast, wS_astL, wS_aop, wS_aopL, wS_ret, wS_retL, wS_retV, wS_do, wS_pop, wS_dead, wS_sw, wF_body, Nat.reduceAdd, Nat.zero_add, Bool.not_not, true_and, and_true, if_true, if_false, ↓reduceIte, eq_self, Value.int.injEq, Value.long.injEq, exists_eq_left', ik_b1, ik_b0, ik_bz0, ik_bz3, ik_bz3_1, ik_bz3_0, ik_cmp, ik_cmpL, ik_eI, ik_eL, ik_as, ik_i0, ik_i1, decide_eq_true_eq, decide_eq_false_iff_not, decide_true, decide_false, Bool.not_true, Bool.not_false, reduceCtorEq, forall_const, false_implies, true_implies, implies_true, true_and, and_true, and_self, false_and, and_false, Bool.and_true, Bool.true_and, not_true_eq_false, not_false_eq_true, if_true, if_false, ite_true, ite_false, ik_bz3_0, ik_bz3_1, ik_bz0, h2, h3, ik_ix_nI (show k < 4 by omega) (by omega), Option.some.injEq, u2, e62, ix, h44 k (u k) h1 u1, nI_or, upd_at, upd_off, nI_1, nI_add]
    rfl
  · rintro ⟨s1, s2, s3⟩ ⟨h2, h3, h4⟩
    simp only at h3 h4
    subst h4
    simp (decide := true) only [wE_lit, wL_lit, wE_loc, wL_loc, wE_add, wE_sub, wE_mul, wE_and, wE_or, wE_xor, wE_shl, wE_shr, wE_ushr, wE_div, wE_rem, wE_neg, wE_i2b, wE_l2i, wL_i2l, wL_add, wL_mul, wE_fld, wL_fld, wE_arr, wL_arr, wC_cmp, wC_cmp0, wC_cmpL, wC_and, wC_or, wC_not, wC_ite, wL_ite, wA_nil, wA_int, wA_long, wE_call, wL_call, wS_skip, wS_seq, wS_set, wS_setL, wS_inc, wS_if, wS_put, wS_putL, wS_putOp, wS_putOpL, wS_ast, wS_astL, wS_aop, wS_aopL, wS_ret, wS_retL, wS_retV, wS_do, wS_pop, wS_dead, wS_sw, wF_body, Nat.reduceAdd, Nat.zero_add, Bool.not_not, true_and, and_true, if_true, if_false, ↓reduceIte, eq_self, Value.int.injEq, Value.long.injEq, exists_eq_left', ik_b1, ik_b0, ik_bz0, ik_bz3, ik_bz3_1, ik_bz3_0, ik_cmp, ik_cmpL, ik_eI, ik_eL, ik_as, ik_i0, ik_i1, decide_eq_true_eq, decide_eq_false_iff_not, decide_true, decide_false, Bool.not_true, Bool.not_false, reduceCtorEq, forall_const, false_implies, true_implies, implies_true, true_and, and_true, and_self, false_and, and_false, Bool.and_true, Bool.true_and, not_true_eq_false, not_false_eq_true, if_true, if_false, ite_true, ite_false, ik_bz3_0, ik_bz3_1, ik_bz0, h3]
/-- a filling is found: it is counted, and what it is worth -/
theorem w_hit {m g : GG} {B : Nat} {u : Nat → Nat} {s1 : Nat → Int32} {s2 : Nat → Int64} {R : Value → GG → Prop} (hB : B ≤ 4) (e3 : g.1 0 3 = nI B) (hu : ∀ k, k < B → u k < 24 ∧ g.1 20 k = nI (u k)) (hw : ∀ k, k < B → g.1 9 (u k) = nI (wtN m (u k)) ∧ wtN m (u k) ≤ 100) :
    wS (sSeq (sPutOp 0 67 0 (sLit 1)) (sSeq (sSetL 4 (sLitL 1)) (sSeq (sSeq (sSet 6 (sLit 0)) (sWh (sCmp 2 (sLoc 6) (sFld 0 3)) (sSeq (sSetL 4 (sBinL 1 (sLocL 4) (sI2l (sArr 9 24 (sArr 20 4 (sLoc 6)))))) (sInc 6 1)) ik_fuel)) (sSeq (sPutOpL 0 69 (sLocL 4)) (sSeq (sSet 6 (sLit 0)) (sWh (sCmp 2 (sLoc 6) (sFld 0 3)) (sSeq (sAopL 45 96 (sBin 0 (sBin 2 (sLit 24) (sLoc 6)) (sArr 20 4 (sLoc 6))) (sLocL 4)) (sInc 6 1)) ik_fuel)))))) (s1, s2, g)
      (fun σ => σ.1 1 = s1 1 ∧ (∀ a, a ≠ 0 → σ.2.2.1 a = g.1 a) ∧ (∀ j, j ≠ 67 → σ.2.2.1 0 j = g.1 0 j) ∧ σ.2.2.1 0 67 = g.1 0 67 + 1 ∧ σ.2.2.2 0 69 = g.2 0 69 + lN (pwN (fun _ => wtN m) u B) ∧ ∀ k i, k < B → i < 24 → σ.2.2.2 45 (24 * k + i) = g.2 45 (24 * k + i) + lN (if u k = i then pwN (fun _ => wtN m) u B else 0)) R := by
  obtain ⟨g1, hg1⟩ : ∃ g1, g1 = ik_si g 0 67 (g.1 0 67 + 1) := ⟨_, rfl⟩
  have f1 : ∀ a, a ≠ 0 → g1.1 a = g.1 a := fun a ha => by rw [hg1, ik_si_row _ _ _ _ _ ha]
  have f2 : ∀ j, j ≠ 67 → g1.1 0 j = g.1 0 j := fun j hj => by rw [hg1, ik_si_ne _ _ _ _ _ hj]
  have f3 : g1.2 = g.2 := by rw [hg1]; rfl
  have bo : ik_bo 0 (g.1 0 67) 1 = some (g.1 0 67 + 1) := rfl
  have e3' : g1.1 0 3 = nI B := by rw [f2 3 (by decide)]; exact e3
  simp (decide := true) only [wE_lit, wL_lit, wE_loc, wL_loc, wE_add, wE_sub, wE_mul, wE_and, wE_or, wE_xor, wE_shl, wE_shr, wE_ushr, wE_div, wE_rem, wE_neg, wE_i2b, wE_l2i, wL_i2l, wL_add, wL_mul, wE_fld, wL_fld, wE_arr, wL_arr, wC_cmp, wC_cmp0, wC_cmpL, wC_and, wC_or, wC_not, wC_ite, wL_ite, wA_nil, wA_int, wA_long, wE_call, wL_call, wS_skip, wS_seq, wS_set, wS_setL, wS_inc, wS_if, wS_put, wS_putL, wS_putOp, wS_putOpL, wS_ast, wS_astL, wS_aop, wS_aopL, wS_ret, wS_retL, wS_retV, wS_do, wS_pop, wS_dead, wS_sw, wF_body, Nat.reduceAdd, Nat.zero_add, Bool.not_not, true_and, and_true, if_true, if_false, ↓reduceIte, eq_self, Value.int.injEq, Value.long.injEq, exists_eq_left', ik_b1, ik_b0, ik_bz0, ik_bz3, ik_bz3_1, ik_bz3_0, ik_cmp, ik_cmpL, ik_eI, ik_eL, ik_as, ik_i0, ik_i1, decide_eq_true_eq, decide_eq_false_iff_not, decide_true, decide_false, Bool.not_true, Bool.not_false, reduceCtorEq, forall_const, false_implies, true_implies, implies_true, true_and, and_true, and_self, false_and, and_false, Bool.and_true, Bool.true_and, not_true_eq_false, not_false_eq_true, if_true, if_false, ite_true, ite_false, ik_bz3_0, ik_bz3_1, ik_bz0, bo, Option.some.injEq, ← hg1]
  refine wS_for _ _ (fun k σ => σ.1 6 = nI k ∧ σ.1 1 = s1 1 ∧ σ.2.1 4 = lN (pwN (fun _ => wtN m) u k) ∧ σ.2.2 = g1) 0 B _ ⟨by simp [upd, nI_0], by simp [upd], by simp [vp_updL, pwN]; rfl, rfl⟩ (by omega) (by omega) ?_ ?_ ?_
  · rintro k ⟨t1, t2, t3⟩ h1 ⟨h2, -, -, h3⟩
    simp only at h2 h3
    subst h3
    exact wc_1 e3' (by omega) h1 h2
  · rintro k ⟨t1, t2, t3⟩ h1 ⟨h2, h3, h4, h5⟩
    simp only at h2 h3 h4 h5
    subst h5
    obtain ⟨u1, u2⟩ := hu k h1
    obtain ⟨w1, w2⟩ := hw k h1
    simp (decide := true) only [wE_lit, wL_lit, wE_loc, wL_loc, wE_add, wE_sub, wE_mul, wE_and, wE_or, wE_xor, wE_shl, wE_shr, wE_ushr, wE_div, wE_rem, wE_neg, wE_i2b, wE_l2i, wL_i2l, wL_add, wL_mul, wE_fld, wL_fld, wE_arr, wL_arr, wC_cmp, wC_cmp0, wC_cmpL, wC_and, wC_or, wC_not, wC_ite, wL_ite, wA_nil, wA_int, wA_long, wE_call, wL_call, wS_skip, wS_seq, wS_set, wS_setL, wS_inc, wS_if, wS_put, wS_putL, wS_putOp, wS_putOpL, wS_ast, wS_astL, wS_aop, wS_aopL, wS_ret, wS_retL, wS_retV, wS_do, wS_pop, wS_dead, wS_sw, wF_body, Nat.reduceAdd, Nat.zero_add, Bool.not_not, true_and, and_true, if_true, if_false, ↓reduceIte, eq_self, Value.int.injEq, Value.long.injEq, exists_eq_left', ik_b1, ik_b0, ik_bz0, ik_bz3, ik_bz3_1, ik_bz3_0, ik_cmp, ik_cmpL, ik_eI, ik_eL, ik_as, ik_i0, ik_i1, decide_eq_true_eq, decide_eq_false_iff_not, decide_true, decide_false, Bool.not_true, Bool.not_false, reduceCtorEq, forall_const, false_implies, true_implies, implies_true, true_and, and_true, and_self, false_and, and_false, Bool.and_true, Bool.true_and, not_true_eq_false, not_false_eq_true, if_true, if_false, ite_true, ite_false, ik_bz3_0, ik_bz3_1, ik_bz0, h2, h3, h4, ik_ix_nI (show k < 4 by omega) (by omega), Option.some.injEq, f1 20 (by decide), f1 9 (by decide), u2, ik_ix_nI u1 (by omega), w1, i64_nI (show wtN m (u k) < 2 ^ 31 by omega), lN_mul, upd_at, upd_off, vp_updL, nI_1, nI_add]
    rfl
  · rintro ⟨t1, t2, t3⟩ ⟨h2, h3, h4, h5⟩
    simp only at h3 h4 h5
    subst h5
    obtain ⟨P, hP⟩ : ∃ P, P = pwN (fun _ => wtN m) u B := ⟨_, rfl⟩
    rw [← hP] at h4 ⊢
    obtain ⟨g2, hg2⟩ : ∃ g2, g2 = ik_sl t3 0 69 (t3.2 0 69 + lN P) := ⟨_, rfl⟩
    simp (decide := true) only [wE_lit, wL_lit, wE_loc, wL_loc, wE_add, wE_sub, wE_mul, wE_and, wE_or, wE_xor, wE_shl, wE_shr, wE_ushr, wE_div, wE_rem, wE_neg, wE_i2b, wE_l2i, wL_i2l, wL_add, wL_mul, wE_fld, wL_fld, wE_arr, wL_arr, wC_cmp, wC_cmp0, wC_cmpL, wC_and, wC_or, wC_not, wC_ite, wL_ite, wA_nil, wA_int, wA_long, wE_call, wL_call, wS_skip, wS_seq, wS_set, wS_setL, wS_inc, wS_if, wS_put, wS_putL, wS_putOp, wS_putOpL, wS_ast, wS_astL, wS_aop, wS_aopL, wS_ret, wS_retL, wS_retV, wS_do, wS_pop, wS_dead, wS_sw, wF_body, Nat.reduceAdd, Nat.zero_add, Bool.not_not, true_and, and_true, if_true, if_false, ↓reduceIte, eq_self, Value.int.injEq, Value.long.injEq, exists_eq_left', ik_b1, ik_b0, ik_bz0, ik_bz3, ik_bz3_1, ik_bz3_0, ik_cmp, ik_cmpL, ik_eI, ik_eL, ik_as, ik_i0, ik_i1, decide_eq_true_eq, decide_eq_false_iff_not, decide_true, decide_false, Bool.not_true, Bool.not_false, reduceCtorEq, forall_const, false_implies, true_implies, implies_true, true_and, and_true, and_self, false_and, and_false, Bool.and_true, Bool.true_and, not_true_eq_false, not_false_eq_true, if_true, if_false, ite_true, ite_false, ik_bz3_0, ik_bz3_1, ik_bz0, h4, ← hg2]
    have r1 : g2.1 = t3.1 := by rw [hg2]; rfl
    refine wS_for _ _ (fun k σ => σ.1 6 = nI k ∧ σ.1 1 = s1 1 ∧ σ.2.1 4 = lN P ∧ σ.2.2.1 = t3.1 ∧ σ.2.2.2 0 = g2.2 0 ∧ ∀ k' i, k' < B → i < 24 → σ.2.2.2 45 (24 * k' + i) = g.2 45 (24 * k' + i) + lN (if k' < k ∧ u k' = i then P else 0)) 0 B _ ⟨by simp [upd, nI_0], by simp [upd, h3], h4, r1, rfl, fun k' i _ _ => ?_⟩ (by omega) (by omega) ?_ ?_ ?_
    · rw [if_neg (fun z => Nat.not_lt_zero _ z.1), lN_z]
      show g2.2 45 _ = _
      rw [hg2, ik_sl_row _ _ _ _ _ (by decide), f3]
    · rintro k ⟨q1, q2, q3⟩ a1 ⟨a2, -, -, a3, -⟩
      simp only at a2 a3
      exact wc_1 (by show q3.1 0 3 = _; rw [a3]; exact e3') (by omega) a1 a2
    · rintro k ⟨q1, q2, q3⟩ a1 ⟨a2, a3, a4, a5, a6, a7⟩
      simp only at a2 a3 a4 a5 a6 a7
      obtain ⟨u1, u2⟩ := hu k a1
      have ix := ik_ix_nI (show 24 * k + u k < 96 by omega) (by omega)
      have e62 : (24 : Int32) * nI k + nI (u k) = nI (24 * k + u k) := by rw [show (24 : Int32) = nI 24 from rfl, pk_mul, nI_add]
      have u2' : q3.1 20 k = nI (u k) := by rw [a5, f1 20 (by decide)]; exact u2
      simp (decide := true) only [wE_lit, wL_lit, wE_loc, wL_loc, wE_add, wE_sub, wE_mul, wE_and, wE_or, wE_xor, wE_shl, wE_shr, wE_ushr, wE_div, wE_rem, wE_neg, wE_i2b, wE_l2i, wL_i2l, wL_add, wL_mul, wE_fld, wL_fld, wE_arr, wL_arr, wC_cmp, wC_cmp0, wC_cmpL, wC_and, wC_or, wC_not, wC_ite, wL_ite, wA_nil, wA_int, wA_long, wE_call, wL_call, wS_skip, wS_seq, wS_set, wS_setL, wS_inc, wS_if, wS_put, wS_putL, wS_putOp, wS_putOpL, wS_ast, wS_astL, wS_aop, wS_aopL, wS_ret, wS_retL, wS_retV, wS_do, wS_pop, wS_dead, wS_sw, wF_body, Nat.reduceAdd, Nat.zero_add, Bool.not_not, true_and, and_true, if_true, if_false, ↓reduceIte, eq_self, Value.int.injEq, Value.long.injEq, exists_eq_left', ik_b1, ik_b0, ik_bz0, ik_bz3, ik_bz3_1, ik_bz3_0, ik_cmp, ik_cmpL, ik_eI, ik_eL, ik_as, ik_i0, ik_i1, decide_eq_true_eq, decide_eq_false_iff_not, decide_true, decide_false, Bool.not_true, Bool.not_false, reduceCtorEq, forall_const, false_implies, true_implies, implies_true, true_and, and_true, and_self, false_and, and_false, Bool.and_true, Bool.true_and, not_true_eq_false, not_false_eq_true, if_true, if_false, ite_true, ite_false, ik_bz3_0, ik_bz3_1, ik_bz0, a2, a3, a4, ik_ix_nI (show k < 4 by omega) (by omega), Option.some.injEq, u2', e62, ix, upd_at, upd_off, nI_1, nI_add]
      refine ⟨a5, ?_, fun k' i hk hi => ?_⟩
      · rw [ik_sl_row _ _ _ _ _ (by decide)]; exact a6
      · by_cases e : 24 * k' + i = 24 * k + u k
        · have ek : k' = k := by omega
          have ei : i = u k := by omega
          subst ek ei
          rw [ik_sl_same, a7 _ _ hk hi, if_neg (fun z => Nat.lt_irrefl _ z.1), lN_z, if_pos ⟨Nat.lt_succ_self _, rfl⟩]
        · have : (ik_sl q3 45 (24 * k + u k) (q3.2 45 (24 * k + u k) + lN P)).2 45 (24 * k' + i) = q3.2 45 (24 * k' + i) := by simp [ik_sl, e]
          rw [this, a7 k' i hk hi]
          by_cases c : k' < k ∧ u k' = i
          · rw [if_pos c, if_pos ⟨by omega, c.2⟩]
          · rw [if_neg c, if_neg (fun z => by
              by_cases ek : k' = k
              · subst ek; exact e (by rw [z.2])
              · exact c ⟨by omega, z.2⟩)]
    · rintro ⟨q1, q2, q3⟩ ⟨a2, a3, a4, a5, a6, a7⟩
      simp only at a3 a5 a6 a7
      refine ⟨a3, fun a ha => by rw [a5]; exact f1 a ha, fun j hj => by rw [a5]; exact f2 j hj, ?_, ?_, fun k i hk hi => ?_⟩
      · show q3.1 0 67 = _
        rw [a5, hg1]
        exact ik_si_same _ _ _ _
      · show q3.2 0 69 = _
        rw [a6, hg2, ik_sl_same, f3]
      · rw [a7 k i hk hi]
        by_cases c : u k = i
        · rw [if_pos ⟨hk, c⟩, if_pos c]
        · rw [if_neg (fun z => c z.2), if_neg c]
theorem or_z {a b X : Int32} : ((a ||| b) &&& X = 0) ↔ (a &&& X = 0 ∧ b &&& X = 0) := by
  simp only [ib_z, ib_and, ib_or]
  constructor
  · intro h
    refine ⟨fun j hj => ?_, fun j hj => ?_⟩ <;> (have := h j hj; revert this; cases ib a j <;> cases ib b j <;> cases ib X j <;> simp)
  · rintro ⟨h1, h2⟩ j hj
    have q1 := h1 j hj
    have q2 := h2 j hj
    revert q1 q2
    cases ib a j <;> cases ib b j <;> cases ib X j <;> simp
theorem rsA_z {r : Nat → Nat} {X : Int32} : ∀ {B : Nat}, (nI (rsA r B) &&& X = 0) ↔ ∀ k, k < B → nI (r k) &&& X = 0
  | 0 => ⟨fun _ k hk => absurd hk (Nat.not_lt_zero _), fun _ => by show nI 0 &&& X = 0; rw [ib_z]; intro j _; rw [ib_and, nI_0, ib_0, Bool.false_and]⟩
  | B + 1 => by
    show (nI (rsA r B ||| r B) &&& X = 0) ↔ _
    rw [← nI_or, or_z, rsA_z (B := B)]
    constructor
    · rintro ⟨h1, h2⟩ k hk
      by_cases e : k = B
      · subst e; exact h2
      · exact h1 k (by omega)
    · exact fun h => ⟨fun k hk => h k (by omega), h B (by omega)⟩
theorem bit_a {w : Int32} {p : Nat} (hp : p < 31) : (w &&& nI (2 ^ p) = 0) ↔ ib w p = false := by
  have p31 : 2 ^ p < 2 ^ 31 := Nat.pow_lt_pow_right (by decide) hp
  rw [ib_z]
  constructor
  · intro h
    have := h p (by omega)
    rw [ib_and, ib_nI p31, Nat.testBit_two_pow_self, Bool.and_true] at this
    exact this
  · intro h j hj
    rw [ib_and, ib_nI p31, Nat.testBit_two_pow]
    by_cases e : p = j
    · subst e; rw [h, Bool.false_and]
    · rw [decide_eq_false e, Bool.and_false]
theorem bit_b {w : Int32} {p : Nat} (hp : p < 31) : (nI (2 ^ p) &&& (w ^^^ -1) = 0) ↔ ib w p = true := by
  have p31 : 2 ^ p < 2 ^ 31 := Nat.pow_lt_pow_right (by decide) hp
  rw [ib_z]
  constructor
  · intro h
    have := h p (by omega)
    rw [ib_and, ib_not _ (by omega), ib_nI p31, Nat.testBit_two_pow_self, Bool.true_and] at this
    simpa using this
  · intro h j hj
    rw [ib_and, ib_not _ hj, ib_nI p31, Nat.testBit_two_pow]
    by_cases e : p = j
    · subst e; rw [h]; simp
    · rw [decide_eq_false e, Bool.false_and]
/-- which names fit, by the habit of the house -/
def ftW (m : GG) (S n H : Nat) (L : List (Nat × RC)) (wo : Int32) : Nat → Nat → Bool := ftB m S n L wo (ik_hb m (m.1 0 11) false H) (ik_hb m (m.1 0 11) true H)
theorem ftW_rs (m : GG) (S n H : Nat) (L : List (Nat × RC)) (wo : Int32) (k i : Nat) : ftW m S n H L wo k i = decide (nI (rsN m S n H L k i) &&& (wo ^^^ -1) = 0) := by
  unfold ftW ftB rsN
  rw [← agB_or2]
  have : (if ik_hb m (m.1 0 11) false H ≤ m.1 10 k - ik_nw m i ∧ m.1 10 k - ik_nw m i ≤ ik_hb m (m.1 0 11) true H then (0 : Int32) else 1) = if inkB m H k i = true then 1 else 0 := by
    unfold inkB
    by_cases q1 : m.1 10 k - ik_nw m i < ik_hb m (m.1 0 11) false H
    · have : ¬ ik_hb m (m.1 0 11) false H ≤ m.1 10 k - ik_nw m i := by rw [Int32.not_le]; exact q1
      simp [q1, this]
    · have q1' : ik_hb m (m.1 0 11) false H ≤ m.1 10 k - ik_nw m i := by rw [Int32.not_lt] at q1; exact q1
      by_cases q2 : ik_hb m (m.1 0 11) true H < m.1 10 k - ik_nw m i
      · have : ¬ m.1 10 k - ik_nw m i ≤ ik_hb m (m.1 0 11) true H := by rw [Int32.not_le]; exact q2
        simp [q2, this]
      · have q2' : m.1 10 k - ik_nw m i ≤ ik_hb m (m.1 0 11) true H := by rw [Int32.not_lt] at q2; exact q2
        simp [q1, q2, q1', q2']
  rw [this]
theorem spk_z {wo st : Int32} {t o : Bool} (h0 : st &&& (wo ^^^ -1) = 0) : (spk wo st t o &&& (wo ^^^ -1) = 0) ↔ ((decide (wo &&& 16 = 0) = true → t = false) ∧ (decide (wo &&& 2 = 0) = true → o = false)) := by
  have z0 : (0 : Int32) &&& (wo ^^^ -1) = 0 := by rw [ib_z]; intro j _; rw [ib_and, ib_0, Bool.false_and]
  have a4 : (wo &&& 16 = 0) ↔ ib wo 4 = false := bit_a (p := 4) (by decide)
  have a1 : (wo &&& 2 = 0) ↔ ib wo 1 = false := bit_a (p := 1) (by decide)
  have b4 : ((16 : Int32) &&& (wo ^^^ -1) = 0) ↔ ib wo 4 = true := bit_b (p := 4) (by decide)
  have b1 : ((2 : Int32) &&& (wo ^^^ -1) = 0) ↔ ib wo 1 = true := bit_b (p := 1) (by decide)
  have ht : ((if t = true then (16 : Int32) else 0) &&& (wo ^^^ -1) = 0) ↔ (ib wo 4 = false → t = false) := by
    cases t
    · simp [z0]
    · rw [if_pos rfl, b4]; cases ib wo 4 <;> simp
  have ho : ((if o = true then (2 : Int32) else 0) &&& (wo ^^^ -1) = 0) ↔ (ib wo 1 = false → o = false) := by
    cases o
    · simp [z0]
    · rw [if_pos rfl, b1]; cases ib wo 1 <;> simp
  rw [decide_eq_true_iff, decide_eq_true_iff, a4, a1, ← ht, ← ho]
  unfold spk
  by_cases c : (st ||| (if t = true then 16 else 0)) &&& (wo ^^^ -1) = 0
  · rw [if_pos c, or_z, or_z]
    exact ⟨fun z => ⟨z.1.2, z.2⟩, fun z => ⟨⟨h0, z.1⟩, z.2⟩⟩
  · rw [if_neg c]
    rw [or_z] at c ⊢
    exact ⟨fun z => absurd z c, fun z => absurd ⟨h0, z.1⟩ c⟩
/-- a row that the reference counts is a filling -/
theorem hit_iff (m : GG) (B S T n H : Nat) (L : List (Nat × RC)) (wo : Int32) (u : Nat → Nat) : (nI (rsA (fun k => rsN m S n H L k (u k)) B) &&& (wo ^^^ -1) = 0 ∧ spk wo (nI (rsA (fun k => rsN m S n H L k (u k)) B)) (tiA m u T) (otA m u S) &&& (wo ^^^ -1) = 0) ↔ FB B S T m (ftW m S n H L wo) (decide (wo &&& 16 = 0)) (decide (wo &&& 2 = 0)) u = true := by
  unfold FB
  rw [clB_iff]
  have e1 : (nI (rsA (fun k => rsN m S n H L k (u k)) B) &&& (wo ^^^ -1) = 0) ↔ ∀ k, k < B → ftW m S n H L wo k (u k) = true := by
    rw [rsA_z]
    simp only [ftW_rs, decide_eq_true_iff]
  constructor
  · rintro ⟨h1, h2⟩
    obtain ⟨q1, q2⟩ := (spk_z h1).mp h2
    exact ⟨e1.mp h1, q1, q2⟩
  · rintro ⟨h1, h2, h3⟩
    have h1' := e1.mpr h1
    exact ⟨h1', (spk_z h1').mpr ⟨h2, h3⟩⟩
theorem pwN_1 {u : Nat → Nat} : ∀ B, pwN (fun _ _ => 1) u B = 1
  | 0 => rfl
  | B + 1 => by
    show pwN (fun _ _ => 1) u B * 1 = 1
    rw [pwN_1 B]
theorem pwN_fO {w : Nat → Nat} {u : Nat → Nat} {k i : Nat} : ∀ B, pwN (fO w k i) u B = if k < B ∧ u k ≠ i then 0 else pwN (fun _ => w) u B
  | 0 => by rw [if_neg (fun z => Nat.not_lt_zero _ z.1)]; rfl
  | B + 1 => by
    show pwN (fO w k i) u B * fO w k i B (u B) = _
    rw [pwN_fO B]
    by_cases e : B = k
    · subst e
      rw [if_neg (fun z => Nat.lt_irrefl _ z.1)]
      unfold fO
      by_cases c : u B = i
      · rw [if_neg (fun z => z.2 c), if_neg (fun z => z.2 c)]
        rfl
      · rw [if_pos ⟨rfl, c⟩, if_pos ⟨Nat.lt_succ_self _, c⟩, Nat.mul_zero]
    · rw [fO_off (fun z => e z)]
      by_cases c : k < B ∧ u k ≠ i
      · rw [if_pos c, if_pos ⟨by omega, c.2⟩, Nat.zero_mul]
      · rw [if_neg c, if_neg (fun z => c ⟨by omega, z.2⟩)]
        rfl
