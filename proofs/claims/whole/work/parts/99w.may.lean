/-! may, odds -/
theorem w_odds2 {k i : Nat} (hk : k < 4) (hi : i < 24) (g : GG) (Q : Value → GG → Prop) : wF fX2_odds [.int (nI k), .int (nI i)] g Q ↔ Q (.long (g.2 62 (24 * k + i))) g := by
  refine wF_eq (eq_of_wF ?_) Q
  have ix := ik_ix_nI (show 24 * k + i < 96 by omega) (by omega)
  have e62 : nI k * (24 : Int32) + nI i = nI (24 * k + i) := by rw [show (24 : Int32) = nI 24 from rfl, pk_mul, nI_add, Nat.mul_comm]
  unfold fX2_odds
  simp (decide := true) only [wE_lit, wL_lit, wE_loc, wL_loc, wE_add, wE_sub, wE_mul, wE_and, wE_or, wE_xor, wE_shl, wE_shr, wE_ushr, wE_div, wE_rem, wE_neg, wE_i2b, wE_l2i, wL_i2l, wL_add, wL_mul, wE_fld, wL_fld, wE_arr, wL_arr, wC_cmp, wC_cmp0, wC_cmpL, wC_and, wC_or, wC_not, wC_ite, wL_ite, wA_nil, wA_int, wA_long, wE_call, wL_call, wS_skip, wS_seq, wS_set, wS_setL, wS_inc, wS_if, wS_put, wS_putL, wS_putOp, wS_putOpL, wS_ast, wS_astL, wS_aop, wS_aopL, wS_ret, wS_retL, wS_retV, wS_do, wS_pop, wS_dead, wS_sw, wF_body, Nat.reduceAdd, Nat.zero_add, Bool.not_not, true_and, and_true, if_true, if_false, ↓reduceIte, eq_self, Value.int.injEq, Value.long.injEq, exists_eq_left', ik_b1, ik_b0, ik_bz0, ik_bz3, ik_bz3_1, ik_bz3_0, ik_cmp, ik_cmpL, ik_eI, ik_eL, ik_as, ik_i0, ik_i1, decide_eq_true_eq, decide_eq_false_iff_not, decide_true, decide_false, Bool.not_true, Bool.not_false, reduceCtorEq, forall_const, false_implies, true_implies, implies_true, true_and, and_true, and_self, false_and, and_false, Bool.and_true, Bool.true_and, not_true_eq_false, not_false_eq_true, if_true, if_false, ite_true, ite_false, ik_bz3_0, ik_bz3_1, ik_bz0, w_isBar2 hk, w_isName2 hi, e62, ix, Option.some.injEq]
theorem w_all2 (g : GG) (Q : Value → GG → Prop) : wF fX2_all [] g Q ↔ Q (.long (g.2 48 13)) g := by
  refine wF_eq (eq_of_wF ?_) Q
  unfold fX2_all
  simp (decide := true) only [wE_lit, wL_lit, wE_loc, wL_loc, wE_add, wE_sub, wE_mul, wE_and, wE_or, wE_xor, wE_shl, wE_shr, wE_ushr, wE_div, wE_rem, wE_neg, wE_i2b, wE_l2i, wL_i2l, wL_add, wL_mul, wE_fld, wL_fld, wE_arr, wL_arr, wC_cmp, wC_cmp0, wC_cmpL, wC_and, wC_or, wC_not, wC_ite, wL_ite, wA_nil, wA_int, wA_long, wE_call, wL_call, wS_skip, wS_seq, wS_set, wS_setL, wS_inc, wS_if, wS_put, wS_putL, wS_putOp, wS_putOpL, wS_ast, wS_astL, wS_aop, wS_aopL, wS_ret, wS_retL, wS_retV, wS_do, wS_pop, wS_dead, wS_sw, wF_body, Nat.reduceAdd, Nat.zero_add, Bool.not_not, true_and, and_true, if_true, if_false, ↓reduceIte, eq_self, Value.int.injEq, Value.long.injEq, exists_eq_left', ik_b1, ik_b0, ik_bz0, ik_bz3, ik_bz3_1, ik_bz3_0, ik_cmp, ik_cmpL, ik_eI, ik_eL, ik_as, ik_i0, ik_i1, decide_eq_true_eq, decide_eq_false_iff_not, decide_true, decide_false, Bool.not_true, Bool.not_false, reduceCtorEq, forall_const, false_implies, true_implies, implies_true, true_and, and_true, and_self, false_and, and_false, Bool.and_true, Bool.true_and, not_true_eq_false, not_false_eq_true, if_true, if_false, ite_true, ite_false, ik_bz3_0, ik_bz3_1, ik_bz0]
/-- the names that are worth something -/
def myB (N : Nat) (V : Nat → Nat) : Nat := ik_bs (fun i => decide (i < N) && decide (V i ≠ 0)) 24
theorem myB_lt (N : Nat) (V : Nat → Nat) : myB N V < 2 ^ 24 := ik_bs_lt _ _
theorem myB_bit {N : Nat} {V : Nat → Nat} (hN : N ≤ 24) (j : Nat) : (myB N V).testBit j = (decide (j < N) && decide (V j ≠ 0)) := by
  unfold myB
  rw [ik_bs_bit]
  by_cases c : j < N
  · simp [c, show j < 24 by omega]
  · simp [c]
theorem my_ext {N : Nat} {V : Nat → Nat} (hN : N ≤ 24) {r : Int32} (h : ∀ j, j < 32 → ib r j = (decide (j < N) && decide (V j ≠ 0))) : r = nI (myB N V) := by
  refine ib_ext (fun j hj => ?_)
  have l := myB_lt N V
  rw [h j hj, ib_nI (by omega), myB_bit hN]
theorem w_may2 {g : GG} {N k : Nat} {V : Nat → Nat} (hk : k < 4) (hN : N ≤ 24) (hV : ∀ i, i < 24 → g.2 62 (24 * k + i) = lN (if i < N then V i else 0) ∧ V i < 2 ^ 63) (Q : Value → GG → Prop) : wF fX2_may [.int (nI k)] g Q ↔ Q (.int (nI (myB N V))) g := by
  refine wF_eq (eq_of_wF ?_) Q
  unfold fX2_may
  simp (decide := true) only [wE_lit, wL_lit, wE_loc, wL_loc, wE_add, wE_sub, wE_mul, wE_and, wE_or, wE_xor, wE_shl, wE_shr, wE_ushr, wE_div, wE_rem, wE_neg, wE_i2b, wE_l2i, wL_i2l, wL_add, wL_mul, wE_fld, wL_fld, wE_arr, wL_arr, wC_cmp, wC_cmp0, wC_cmpL, wC_and, wC_or, wC_not, wC_ite, wL_ite, wA_nil, wA_int, wA_long, wE_call, wL_call, wS_skip, wS_seq, wS_set, wS_setL, wS_inc, wS_if, wS_put, wS_putL, wS_putOp, wS_putOpL, wS_ast, wS_astL, wS_aop, wS_aopL, wS_ret, wS_retL, wS_retV, wS_do, wS_pop, wS_dead, wS_sw, wF_body, Nat.reduceAdd, Nat.zero_add, Bool.not_not, true_and, and_true, if_true, if_false, ↓reduceIte, eq_self, Value.int.injEq, Value.long.injEq, exists_eq_left', ik_b1, ik_b0, ik_bz0, ik_bz3, ik_bz3_1, ik_bz3_0, ik_cmp, ik_cmpL, ik_eI, ik_eL, ik_as, ik_i0, ik_i1, decide_eq_true_eq, decide_eq_false_iff_not, decide_true, decide_false, Bool.not_true, Bool.not_false, reduceCtorEq, forall_const, false_implies, true_implies, implies_true, true_and, and_true, and_self, false_and, and_false, Bool.and_true, Bool.true_and, not_true_eq_false, not_false_eq_true, if_true, if_false, ite_true, ite_false, ik_bz3_0, ik_bz3_1, ik_bz0]
  refine wS_for _ _ (fun i σ => σ.1 3 = nI i ∧ σ.1 1 = nI k ∧ σ.2.2 = g ∧ ∀ j, j < 32 → ib (σ.1 2) j = (decide (j < i) && (decide (j < N) && decide (V j ≠ 0)))) 0 24 _ ⟨by simp [upd, nI_0], by simp [upd, ik_eI], rfl, fun j hj => ?_⟩ (by omega) (by omega) ?_ ?_ ?_
  · have q : ∀ f : Nat → Int32, ib (upd (upd f 2 0) 3 0 2) j = (decide (j < 0) && (decide (j < N) && decide (V j ≠ 0))) := fun f => by
      rw [upd_off _ _ _ _ (by decide), upd_at, ib_0]
      simp
    exact q (fun _ => 0)
  · rintro i ⟨s1, s2, s3⟩ h1 ⟨h2, -⟩
    exact wc_L (n := 24) (by omega) h1 h2
  · rintro i ⟨s1, s2, s3⟩ h1 ⟨h2, h3, h4, h5⟩
    simp only at h2 h3 h4 h5
    subst h4
    obtain ⟨v1, v2⟩ := hV i h1
    have p31 : 2 ^ i < 2 ^ 31 := Nat.pow_lt_pow_right (by decide) (by omega)
    by_cases c : i < N ∧ V i ≠ 0
    · have c0 : ¬ lN (if i < N then V i else 0) = 0 := by
        rw [if_pos c.1, lN_eq0 v2]; exact c.2
      simp (decide := true) only [wE_lit, wL_lit, wE_loc, wL_loc, wE_add, wE_sub, wE_mul, wE_and, wE_or, wE_xor, wE_shl, wE_shr, wE_ushr, wE_div, wE_rem, wE_neg, wE_i2b, wE_l2i, wL_i2l, wL_add, wL_mul, wE_fld, wL_fld, wE_arr, wL_arr, wC_cmp, wC_cmp0, wC_cmpL, wC_and, wC_or, wC_not, wC_ite, wL_ite, wA_nil, wA_int, wA_long, wE_call, wL_call, wS_skip, wS_seq, wS_set, wS_setL, wS_inc, wS_if, wS_put, wS_putL, wS_putOp, wS_putOpL, wS_ast, wS_astL, wS_aop, wS_aopL, wS_ret, wS_retL, wS_retV, wS_do, wS_pop, wS_dead, wS_sw, wF_body, Nat.reduceAdd, Nat.zero_add, Bool.not_not, true_and, and_true, if_true, if_false, ↓reduceIte, eq_self, Value.int.injEq, Value.long.injEq, exists_eq_left', ik_b1, ik_b0, ik_bz0, ik_bz3, ik_bz3_1, ik_bz3_0, ik_cmp, ik_cmpL, ik_eI, ik_eL, ik_as, ik_i0, ik_i1, decide_eq_true_eq, decide_eq_false_iff_not, decide_true, decide_false, Bool.not_true, Bool.not_false, reduceCtorEq, forall_const, false_implies, true_implies, implies_true, true_and, and_true, and_self, false_and, and_false, Bool.and_true, Bool.true_and, not_true_eq_false, not_false_eq_true, if_true, if_false, ite_true, ite_false, ik_bz3_0, ik_bz3_1, ik_bz0, h2, h3, w_odds2 hk h1, v1, c0, upd_at, upd_off, nI_pow i (by omega), nI_1, nI_add]
      intro j hj
      rw [ib_or, h5 j hj, ib_nI p31, Nat.testBit_two_pow]
      by_cases e : i = j
      · subst e
        simp [c.1, c.2]
      · rw [show decide (j < i + 1) = decide (j < i) from decide_eq_decide.mpr (by omega)]
        simp [e]
    · have c0 : lN (if i < N then V i else 0) = 0 := by
        by_cases c1 : i < N
        · rw [if_pos c1, lN_eq0 v2]
          exact Classical.byContradiction (fun z => c ⟨c1, z⟩)
        · rw [if_neg c1]; rfl
      simp (decide := true) only [wE_lit, wL_lit, wE_loc, wL_loc, wE_add, wE_sub, wE_mul, wE_and, wE_or, wE_xor, wE_shl, wE_shr, wE_ushr, wE_div, wE_rem, wE_neg, wE_i2b, wE_l2i, wL_i2l, wL_add, wL_mul, wE_fld, wL_fld, wE_arr, wL_arr, wC_cmp, wC_cmp0, wC_cmpL, wC_and, wC_or, wC_not, wC_ite, wL_ite, wA_nil, wA_int, wA_long, wE_call, wL_call, wS_skip, wS_seq, wS_set, wS_setL, wS_inc, wS_if, wS_put, wS_putL, wS_putOp, wS_putOpL, wS_ast, wS_astL, wS_aop, wS_aopL, wS_ret, wS_retL, wS_retV, wS_do, wS_pop, wS_dead, wS_sw, wF_body, Nat.reduceAdd, Nat.zero_add, Bool.not_not, true_and, and_true, if_true, if_false, ↓reduceIte, eq_self, Value.int.injEq, Value.long.injEq, exists_eq_left', ik_b1, ik_b0, ik_bz0, ik_bz3, ik_bz3_1, ik_bz3_0, ik_cmp, ik_cmpL, ik_eI, ik_eL, ik_as, ik_i0, ik_i1, decide_eq_true_eq, decide_eq_false_iff_not, decide_true, decide_false, Bool.not_true, Bool.not_false, reduceCtorEq, forall_const, false_implies, true_implies, implies_true, true_and, and_true, and_self, false_and, and_false, Bool.and_true, Bool.true_and, not_true_eq_false, not_false_eq_true, if_true, if_false, ite_true, ite_false, ik_bz3_0, ik_bz3_1, ik_bz0, h2, h3, w_odds2 hk h1, v1, c0, upd_at, upd_off, nI_1, nI_add]
      intro j hj
      rw [h5 j hj]
      by_cases e : j = i
      · subst e
        rw [show (decide (j < N) && decide (V j ≠ 0)) = false by
          cases q : (decide (j < N) && decide (V j ≠ 0)) with
          | false => rfl
          | true => exact absurd (by simpa using q) c]
        simp
      · rw [show decide (j < i + 1) = decide (j < i) from decide_eq_decide.mpr (by omega)]
  · rintro ⟨s1, s2, s3⟩ ⟨h2, h3, h4, h5⟩
    simp only at h4 h5
    subst h4
    have e : s1 2 = nI (myB N V) := my_ext hN (fun j hj => by
      rw [h5 j hj]
      by_cases c : j < N
      · simp [c, show j < 24 by omega]
      · simp [c])
    simp (decide := true) only [wE_lit, wL_lit, wE_loc, wL_loc, wE_add, wE_sub, wE_mul, wE_and, wE_or, wE_xor, wE_shl, wE_shr, wE_ushr, wE_div, wE_rem, wE_neg, wE_i2b, wE_l2i, wL_i2l, wL_add, wL_mul, wE_fld, wL_fld, wE_arr, wL_arr, wC_cmp, wC_cmp0, wC_cmpL, wC_and, wC_or, wC_not, wC_ite, wL_ite, wA_nil, wA_int, wA_long, wE_call, wL_call, wS_skip, wS_seq, wS_set, wS_setL, wS_inc, wS_if, wS_put, wS_putL, wS_putOp, wS_putOpL, wS_ast, wS_astL, wS_aop, wS_aopL, wS_ret, wS_retL, wS_retV, wS_do, wS_pop, wS_dead, wS_sw, wF_body, Nat.reduceAdd, Nat.zero_add, Bool.not_not, true_and, and_true, if_true, if_false, ↓reduceIte, eq_self, Value.int.injEq, Value.long.injEq, exists_eq_left', ik_b1, ik_b0, ik_bz0, ik_bz3, ik_bz3_1, ik_bz3_0, ik_cmp, ik_cmpL, ik_eI, ik_eL, ik_as, ik_i0, ik_i1, decide_eq_true_eq, decide_eq_false_iff_not, decide_true, decide_false, Bool.not_true, Bool.not_false, reduceCtorEq, forall_const, false_implies, true_implies, implies_true, true_and, and_true, and_self, false_and, and_false, Bool.and_true, Bool.true_and, not_true_eq_false, not_false_eq_true, if_true, if_false, ite_true, ite_false, ik_bz3_0, ik_bz3_1, ik_bz0, e]
theorem w_mayOf {g : GG} {N k : Nat} {V : Nat → Nat} (hk : k < 4) (hN : N ≤ 24) (e2 : g.1 0 2 = nI N) (hV : ∀ i, i < N → g.2 45 (24 * k + i) = lN (V i) ∧ V i < 2 ^ 63) (Q : Value → GG → Prop) : wF fX12_mayOf [.int (nI k)] g Q ↔ Q (.int (nI (myB N V))) g := by
  refine wF_eq (eq_of_wF ?_) Q
  unfold fX12_mayOf
  simp (decide := true) only [wE_lit, wL_lit, wE_loc, wL_loc, wE_add, wE_sub, wE_mul, wE_and, wE_or, wE_xor, wE_shl, wE_shr, wE_ushr, wE_div, wE_rem, wE_neg, wE_i2b, wE_l2i, wL_i2l, wL_add, wL_mul, wE_fld, wL_fld, wE_arr, wL_arr, wC_cmp, wC_cmp0, wC_cmpL, wC_and, wC_or, wC_not, wC_ite, wL_ite, wA_nil, wA_int, wA_long, wE_call, wL_call, wS_skip, wS_seq, wS_set, wS_setL, wS_inc, wS_if, wS_put, wS_putL, wS_putOp, wS_putOpL, wS_ast, wS_astL, wS_aop, wS_aopL, wS_ret, wS_retL, wS_retV, wS_do, wS_pop, wS_dead, wS_sw, wF_body, Nat.reduceAdd, Nat.zero_add, Bool.not_not, true_and, and_true, if_true, if_false, ↓reduceIte, eq_self, Value.int.injEq, Value.long.injEq, exists_eq_left', ik_b1, ik_b0, ik_bz0, ik_bz3, ik_bz3_1, ik_bz3_0, ik_cmp, ik_cmpL, ik_eI, ik_eL, ik_as, ik_i0, ik_i1, decide_eq_true_eq, decide_eq_false_iff_not, decide_true, decide_false, Bool.not_true, Bool.not_false, reduceCtorEq, forall_const, false_implies, true_implies, implies_true, true_and, and_true, and_self, false_and, and_false, Bool.and_true, Bool.true_and, not_true_eq_false, not_false_eq_true, if_true, if_false, ite_true, ite_false, ik_bz3_0, ik_bz3_1, ik_bz0]
  refine wS_for _ _ (fun i σ => σ.1 3 = nI i ∧ σ.1 1 = nI k ∧ σ.2.2 = g ∧ ∀ j, j < 32 → ib (σ.1 2) j = (decide (j < i) && decide (V j ≠ 0))) 0 N _ ⟨by simp [upd, nI_0], by simp [upd, ik_eI], rfl, fun j hj => ?_⟩ (by omega) (by omega) ?_ ?_ ?_
  · have q : ∀ f : Nat → Int32, ib (upd (upd f 2 0) 3 0 2) j = (decide (j < 0) && decide (V j ≠ 0)) := fun f => by
      rw [upd_off _ _ _ _ (by decide), upd_at, ib_0]
      simp
    exact q (fun _ => 0)
  · rintro i ⟨s1, s2, s3⟩ h1 ⟨h2, -, h3, -⟩
    simp only at h2 h3
    subst h3
    exact wc_1 e2 (by omega) h1 h2
  · rintro i ⟨s1, s2, s3⟩ h1 ⟨h2, h3, h4, h5⟩
    simp only at h2 h3 h4 h5
    subst h4
    obtain ⟨v1, v2⟩ := hV i h1
    have p31 : 2 ^ i < 2 ^ 31 := Nat.pow_lt_pow_right (by decide) (by omega)
    have ix := ik_ix_nI (show 24 * k + i < 96 by omega) (by omega)
    have e62 : (24 : Int32) * nI k + nI i = nI (24 * k + i) := by rw [show (24 : Int32) = nI 24 from rfl, pk_mul, nI_add]
    have pz : (lN (V i) > (0 : Int64)) ↔ V i ≠ 0 := by
      show (0 : Int64) < lN (V i) ↔ _
      rw [← lN_0, lN_ltB (by decide) v2]
      omega
    by_cases c : V i ≠ 0
    · have c0 := eq_true (pz.mpr c)
      simp (decide := true) only [wE_lit, wL_lit, wE_loc, wL_loc, wE_add, wE_sub, wE_mul, wE_and, wE_or, wE_xor, wE_shl, wE_shr, wE_ushr, wE_div, wE_rem, wE_neg, wE_i2b, wE_l2i, wL_i2l, wL_add, wL_mul, wE_fld, wL_fld, wE_arr, wL_arr, wC_cmp, wC_cmp0, wC_cmpL, wC_and, wC_or, wC_not, wC_ite, wL_ite, wA_nil, wA_int, wA_long, wE_call, wL_call, wS_skip, wS_seq, wS_set, wS_setL, wS_inc, wS_if, wS_put, wS_putL, wS_putOp, wS_putOpL, wS_ast, wS_astL, wS_aop, wS_aopL, wS_ret, wS_retL, wS_retV, wS_do, wS_pop, wS_dead, wS_sw, wF_body, Nat.reduceAdd, Nat.zero_add, Bool.not_not, true_and, and_true, if_true, if_false, ↓reduceIte, eq_self, Value.int.injEq, Value.long.injEq, exists_eq_left', ik_b1, ik_b0, ik_bz0, ik_bz3, ik_bz3_1, ik_bz3_0, ik_cmp, ik_cmpL, ik_eI, ik_eL, ik_as, ik_i0, ik_i1, decide_eq_true_eq, decide_eq_false_iff_not, decide_true, decide_false, Bool.not_true, Bool.not_false, reduceCtorEq, forall_const, false_implies, true_implies, implies_true, true_and, and_true, and_self, false_and, and_false, Bool.and_true, Bool.true_and, not_true_eq_false, not_false_eq_true, if_true, if_false, ite_true, ite_false, ik_bz3_0, ik_bz3_1, ik_bz0, wE_ite, h2, h3, e62, ix, Option.some.injEq, v1, c0, upd_at, upd_off, nI_pow i (by omega), nI_1, nI_add]
      intro j hj
      rw [ib_or, h5 j hj, ib_nI p31, Nat.testBit_two_pow]
      by_cases e : i = j
      · subst e
        simp [c]
      · rw [show decide (j < i + 1) = decide (j < i) from decide_eq_decide.mpr (by omega)]
        simp [e]
    · have c0 := eq_false (fun z => c (pz.mp z))
      simp (decide := true) only [wE_lit, wL_lit, wE_loc, wL_loc, wE_add, wE_sub, wE_mul, wE_and, wE_or, wE_xor, wE_shl, wE_shr, wE_ushr, wE_div, wE_rem, wE_neg, wE_i2b, wE_l2i, wL_i2l, wL_add, wL_mul, wE_fld, wL_fld, wE_arr, wL_arr, wC_cmp, wC_cmp0, wC_cmpL, wC_and, wC_or, wC_not, wC_ite, wL_ite, wA_nil, wA_int, wA_long, wE_call, wL_call, wS_skip, wS_seq, wS_set, wS_setL, wS_inc, wS_if, wS_put, wS_putL, wS_putOp, wS_putOpL, wS_ast, wS_astL, wS_aop, wS_aopL, wS_ret, wS_retL, wS_retV, wS_do, wS_pop, wS_dead, wS_sw, wF_body, Nat.reduceAdd, Nat.zero_add, Bool.not_not, true_and, and_true, if_true, if_false, ↓reduceIte, eq_self, Value.int.injEq, Value.long.injEq, exists_eq_left', ik_b1, ik_b0, ik_bz0, ik_bz3, ik_bz3_1, ik_bz3_0, ik_cmp, ik_cmpL, ik_eI, ik_eL, ik_as, ik_i0, ik_i1, decide_eq_true_eq, decide_eq_false_iff_not, decide_true, decide_false, Bool.not_true, Bool.not_false, reduceCtorEq, forall_const, false_implies, true_implies, implies_true, true_and, and_true, and_self, false_and, and_false, Bool.and_true, Bool.true_and, not_true_eq_false, not_false_eq_true, if_true, if_false, ite_true, ite_false, ik_bz3_0, ik_bz3_1, ik_bz0, wE_ite, h2, h3, e62, ix, Option.some.injEq, v1, c0, upd_at, upd_off, nI_1, nI_add]
      intro j hj
      rw [ib_or, h5 j hj, ib_0, Bool.or_false]
      by_cases e : j = i
      · subst e
        simp [c]
      · rw [show decide (j < i + 1) = decide (j < i) from decide_eq_decide.mpr (by omega)]
  · rintro ⟨s1, s2, s3⟩ ⟨h2, h3, h4, h5⟩
    simp only at h4 h5
    subst h4
    have e : s1 2 = nI (myB N V) := my_ext hN h5
    simp (decide := true) only [wE_lit, wL_lit, wE_loc, wL_loc, wE_add, wE_sub, wE_mul, wE_and, wE_or, wE_xor, wE_shl, wE_shr, wE_ushr, wE_div, wE_rem, wE_neg, wE_i2b, wE_l2i, wL_i2l, wL_add, wL_mul, wE_fld, wL_fld, wE_arr, wL_arr, wC_cmp, wC_cmp0, wC_cmpL, wC_and, wC_or, wC_not, wC_ite, wL_ite, wA_nil, wA_int, wA_long, wE_call, wL_call, wS_skip, wS_seq, wS_set, wS_setL, wS_inc, wS_if, wS_put, wS_putL, wS_putOp, wS_putOpL, wS_ast, wS_astL, wS_aop, wS_aopL, wS_ret, wS_retL, wS_retV, wS_do, wS_pop, wS_dead, wS_sw, wF_body, Nat.reduceAdd, Nat.zero_add, Bool.not_not, true_and, and_true, if_true, if_false, ↓reduceIte, eq_self, Value.int.injEq, Value.long.injEq, exists_eq_left', ik_b1, ik_b0, ik_bz0, ik_bz3, ik_bz3_1, ik_bz3_0, ik_cmp, ik_cmpL, ik_eI, ik_eL, ik_as, ik_i0, ik_i1, decide_eq_true_eq, decide_eq_false_iff_not, decide_true, decide_false, Bool.not_true, Bool.not_false, reduceCtorEq, forall_const, false_implies, true_implies, implies_true, true_and, and_true, and_self, false_and, and_false, Bool.and_true, Bool.true_and, not_true_eq_false, not_false_eq_true, if_true, if_false, ite_true, ite_false, ik_bz3_0, ik_bz3_1, ik_bz0, e]
/-- class and reference have weighed all fillings -/
theorem weighed2 {x m : GG} {N B S : Nat} (h : rA x m N B S) (hB : 0 < B) : ∃ (g m1 : GG) (V : Nat → Nat → Nat) (W : Nat), fX11_weigh [] x = some (.null, g) ∧ (∀ m0, eqM m m0 → ∃ m1, fX12_fills [.int 0] m0 = some (.null, m1) ∧ eqM m m1 ∧ m1.2 0 69 = lN W ∧ ∀ k i, k < B → i < N → m1.2 45 (24 * k + i) = lN (V k i)) ∧ eqW x g ∧ rQ g m ∧ g.2 48 13 = lN W ∧ W ≤ 33177600000000 ∧ (∀ k i, V k i ≤ 33177600000000) ∧ ∀ k i, k < B → i < 24 → g.2 62 (24 * k + i) = lN (if i < N then V k i else 0) := by
  have hA := h
  obtain ⟨hT, hL, hN, hBb, hTi, hLi, hH, hC, hNo, hS, hR, hQ⟩ := h
  have hB4 := hBb.1
  have hN24 := hN.1
  obtain ⟨c1, M, L, hD⟩ := hR.d
  obtain ⟨n, ln1, ln2, ln3, ln4⟩ := hLi
  obtain ⟨⟨Hn, hn1, hn2, hn3, hn4⟩, hh⟩ := hH
  obtain ⟨T, t1, t2, t3, t4⟩ := hTi
  obtain ⟨g, e1, k1, k2, k3, k4⟩ := w_weighed hA.e hQ hD ln1 ln3 hn3 hn1 t3 t1 hB
  have wts : ∀ i, i < N → wtN m i ≤ 100 := fun i hi => by
    obtain ⟨-, -, -, -, hw, -⟩ := hN
    obtain ⟨-, -, -, -, -, -, -, w1, w2⟩ := hw i hi
    exact (wtN_ex w1 w2).2.2
  refine ⟨g, m, fun k i => SF N B S T m (ftW m S n Hn L 0) true true (fO (wtN m) k i), SF N B S T m (ftW m S n Hn L 0) true true (fun _ => wtN m), e1, fun m0 hm => ?_, k1, k2, k3, SF_b hN24 hB4 hB (fun k i _ hi => wts i hi), fun k i => SF_b hN24 hB4 hB (fun k' i' _ hi => Nat.le_trans (fO_le _ _ _ _ _) (wts i' hi)), fun k i hk hi => ?_⟩
  · obtain ⟨_, m1, e2, rfl, q1, -, q3, q4⟩ := w_fills hA.e hD ln3 ln1 hn3 hn1 t3 t1 hB hm 0
    exact ⟨m1, e2, q1, q3, q4⟩
  · rw [k4 k i (by omega) hi]
    by_cases c : i < N
    · rw [if_pos ⟨hk, c⟩, if_pos c]
    · rw [if_neg (fun z => c z.2), if_neg c]
theorem op_may (a : Int32) (x m : GG) (h : Rel x m) : ∃ v x' m', fX11_may [.int a] x = some (v, x') ∧ fX12_may [.int a] m = some (v, m') ∧ Rel x' m' := by
  have h0 := h
  obtain ⟨N, B, S, h⟩ := h
  have hA := h
  obtain ⟨hT, hL, hN, hB, hTi, hLi, hH, hC, hNo, hS, hR, hQ⟩ := h
  have hB4 := hB.1
  have hN24 := hN.1
  have fB := w_barHas hB.2.1 hB.1
  have mB := w_isBar (show B < 2 ^ 31 by omega) hB.2.2.1
  by_cases c : isI a B
  · obtain ⟨k, hk, rfl⟩ := isI_ex (by omega) c
    obtain ⟨g, -, V, W, e1, ff, k1, k2, k3, b1, b2, k4⟩ := weighed2 hA (show 0 < B by omega)
    obtain ⟨m1, e2, q1, q2, q3⟩ := ff m (eqM.rfl' m)
    have f1 := w_may2 (g := g) (N := N) (k := k) (V := V k) (by omega) hN24 (fun i hi => ⟨k4 k i hk hi, by have := b2 k i; omega⟩)
    have f2 := w_mayOf (g := m1) (N := N) (k := k) (V := V k) (by omega) hN24 (by rw [q1.2 2 (by decide)]; exact hN.2.2.1) (fun i hi => ⟨q3 k i hk hi, by have := b2 k i; omega⟩)
    refine ⟨.int (nI (myB N (V k))), g, m1, eq_of_wF ?_, eq_of_wF ?_, N, B, S, hA.w k1 q1 (k2.m q1)⟩
    · unfold fX11_may
      simp (decide := true) only [wE_lit, wL_lit, wE_loc, wL_loc, wE_add, wE_sub, wE_mul, wE_and, wE_or, wE_xor, wE_shl, wE_shr, wE_ushr, wE_div, wE_rem, wE_neg, wE_i2b, wE_l2i, wL_i2l, wL_add, wL_mul, wE_fld, wL_fld, wE_arr, wL_arr, wC_cmp, wC_cmp0, wC_cmpL, wC_and, wC_or, wC_not, wC_ite, wL_ite, wA_nil, wA_int, wA_long, wE_call, wL_call, wS_skip, wS_seq, wS_set, wS_setL, wS_inc, wS_if, wS_put, wS_putL, wS_putOp, wS_putOpL, wS_ast, wS_astL, wS_aop, wS_aopL, wS_ret, wS_retL, wS_retV, wS_do, wS_pop, wS_dead, wS_sw, wF_body, Nat.reduceAdd, Nat.zero_add, Bool.not_not, true_and, and_true, if_true, if_false, ↓reduceIte, eq_self, Value.int.injEq, Value.long.injEq, exists_eq_left', ik_b1, ik_b0, ik_bz0, ik_bz3, ik_bz3_1, ik_bz3_0, ik_cmp, ik_cmpL, ik_eI, ik_eL, ik_as, ik_i0, ik_i1, decide_eq_true_eq, decide_eq_false_iff_not, decide_true, decide_false, Bool.not_true, Bool.not_false, reduceCtorEq, forall_const, false_implies, true_implies, implies_true, true_and, and_true, and_self, false_and, and_false, Bool.and_true, Bool.true_and, not_true_eq_false, not_false_eq_true, if_true, if_false, ite_true, ite_false, ik_bz3_0, ik_bz3_1, ik_bz0, fB, isI, c, wF_eq e1, f1]
    · unfold fX12_may
      simp (decide := true) only [wE_lit, wL_lit, wE_loc, wL_loc, wE_add, wE_sub, wE_mul, wE_and, wE_or, wE_xor, wE_shl, wE_shr, wE_ushr, wE_div, wE_rem, wE_neg, wE_i2b, wE_l2i, wL_i2l, wL_add, wL_mul, wE_fld, wL_fld, wE_arr, wL_arr, wC_cmp, wC_cmp0, wC_cmpL, wC_and, wC_or, wC_not, wC_ite, wL_ite, wA_nil, wA_int, wA_long, wE_call, wL_call, wS_skip, wS_seq, wS_set, wS_setL, wS_inc, wS_if, wS_put, wS_putL, wS_putOp, wS_putOpL, wS_ast, wS_astL, wS_aop, wS_aopL, wS_ret, wS_retL, wS_retV, wS_do, wS_pop, wS_dead, wS_sw, wF_body, Nat.reduceAdd, Nat.zero_add, Bool.not_not, true_and, and_true, if_true, if_false, ↓reduceIte, eq_self, Value.int.injEq, Value.long.injEq, exists_eq_left', ik_b1, ik_b0, ik_bz0, ik_bz3, ik_bz3_1, ik_bz3_0, ik_cmp, ik_cmpL, ik_eI, ik_eL, ik_as, ik_i0, ik_i1, decide_eq_true_eq, decide_eq_false_iff_not, decide_true, decide_false, Bool.not_true, Bool.not_false, reduceCtorEq, forall_const, false_implies, true_implies, implies_true, true_and, and_true, and_self, false_and, and_false, Bool.and_true, Bool.true_and, not_true_eq_false, not_false_eq_true, if_true, if_false, ite_true, ite_false, ik_bz3_0, ik_bz3_1, ik_bz0, mB, isI, c, wF_eq e2, f2]
  · refine ⟨.int (-1), x, m, eq_of_wF ?_, eq_of_wF ?_, h0⟩
    · unfold fX11_may
      simp (decide := true) only [wE_lit, wL_lit, wE_loc, wL_loc, wE_add, wE_sub, wE_mul, wE_and, wE_or, wE_xor, wE_shl, wE_shr, wE_ushr, wE_div, wE_rem, wE_neg, wE_i2b, wE_l2i, wL_i2l, wL_add, wL_mul, wE_fld, wL_fld, wE_arr, wL_arr, wC_cmp, wC_cmp0, wC_cmpL, wC_and, wC_or, wC_not, wC_ite, wL_ite, wA_nil, wA_int, wA_long, wE_call, wL_call, wS_skip, wS_seq, wS_set, wS_setL, wS_inc, wS_if, wS_put, wS_putL, wS_putOp, wS_putOpL, wS_ast, wS_astL, wS_aop, wS_aopL, wS_ret, wS_retL, wS_retV, wS_do, wS_pop, wS_dead, wS_sw, wF_body, Nat.reduceAdd, Nat.zero_add, Bool.not_not, true_and, and_true, if_true, if_false, ↓reduceIte, eq_self, Value.int.injEq, Value.long.injEq, exists_eq_left', ik_b1, ik_b0, ik_bz0, ik_bz3, ik_bz3_1, ik_bz3_0, ik_cmp, ik_cmpL, ik_eI, ik_eL, ik_as, ik_i0, ik_i1, decide_eq_true_eq, decide_eq_false_iff_not, decide_true, decide_false, Bool.not_true, Bool.not_false, reduceCtorEq, forall_const, false_implies, true_implies, implies_true, true_and, and_true, and_self, false_and, and_false, Bool.and_true, Bool.true_and, not_true_eq_false, not_false_eq_true, if_true, if_false, ite_true, ite_false, ik_bz3_0, ik_bz3_1, ik_bz0, fB, c]
    · unfold fX12_may
      simp (decide := true) only [wE_lit, wL_lit, wE_loc, wL_loc, wE_add, wE_sub, wE_mul, wE_and, wE_or, wE_xor, wE_shl, wE_shr, wE_ushr, wE_div, wE_rem, wE_neg, wE_i2b, wE_l2i, wL_i2l, wL_add, wL_mul, wE_fld, wL_fld, wE_arr, wL_arr, wC_cmp, wC_cmp0, wC_cmpL, wC_and, wC_or, wC_not, wC_ite, wL_ite, wA_nil, wA_int, wA_long, wE_call, wL_call, wS_skip, wS_seq, wS_set, wS_setL, wS_inc, wS_if, wS_put, wS_putL, wS_putOp, wS_putOpL, wS_ast, wS_astL, wS_aop, wS_aopL, wS_ret, wS_retL, wS_retV, wS_do, wS_pop, wS_dead, wS_sw, wF_body, Nat.reduceAdd, Nat.zero_add, Bool.not_not, true_and, and_true, if_true, if_false, ↓reduceIte, eq_self, Value.int.injEq, Value.long.injEq, exists_eq_left', ik_b1, ik_b0, ik_bz0, ik_bz3, ik_bz3_1, ik_bz3_0, ik_cmp, ik_cmpL, ik_eI, ik_eL, ik_as, ik_i0, ik_i1, decide_eq_true_eq, decide_eq_false_iff_not, decide_true, decide_false, Bool.not_true, Bool.not_false, reduceCtorEq, forall_const, false_implies, true_implies, implies_true, true_and, and_true, and_self, false_and, and_false, Bool.and_true, Bool.true_and, not_true_eq_false, not_false_eq_true, if_true, if_false, ite_true, ite_false, ik_bz3_0, ik_bz3_1, ik_bz0, mB, c]
theorem op_odds (a b : Int32) (x m : GG) (h : Rel x m) : ∃ v x' m', fX11_odds [.int a, .int b] x = some (v, x') ∧ fX12_odds [.int a, .int b] m = some (v, m') ∧ Rel x' m' := by
  have h0 := h
  obtain ⟨N, B, S, h⟩ := h
  have hA := h
  obtain ⟨hT, hL, hN, hB, hTi, hLi, hH, hC, hNo, hS, hR, hQ⟩ := h
  have hB4 := hB.1
  have hN24 := hN.1
  have fB := w_barHas hB.2.1 hB.1
  have mB := w_isBar (show B < 2 ^ 31 by omega) hB.2.2.1
  have fN := w_nameHas hN.2.1 hN.1
  have mN := w_isName (show N < 2 ^ 31 by omega) hN.2.2.1
  by_cases c : isI a B
  · by_cases d : b = -1
    · subst d
      obtain ⟨k, hk, rfl⟩ := isI_ex (by omega) c
      obtain ⟨g, -, V, W, e1, ff, k1, k2, k3, b1, b2, k4⟩ := weighed2 hA (show 0 < B by omega)
      obtain ⟨m1, e2, q1, q2, q3⟩ := ff m (eqM.rfl' m)
      refine ⟨.long (lN W), g, m1, eq_of_wF ?_, eq_of_wF ?_, N, B, S, hA.w k1 q1 (k2.m q1)⟩
      · unfold fX11_odds
        simp (decide := true) only [wE_lit, wL_lit, wE_loc, wL_loc, wE_add, wE_sub, wE_mul, wE_and, wE_or, wE_xor, wE_shl, wE_shr, wE_ushr, wE_div, wE_rem, wE_neg, wE_i2b, wE_l2i, wL_i2l, wL_add, wL_mul, wE_fld, wL_fld, wE_arr, wL_arr, wC_cmp, wC_cmp0, wC_cmpL, wC_and, wC_or, wC_not, wC_ite, wL_ite, wA_nil, wA_int, wA_long, wE_call, wL_call, wS_skip, wS_seq, wS_set, wS_setL, wS_inc, wS_if, wS_put, wS_putL, wS_putOp, wS_putOpL, wS_ast, wS_astL, wS_aop, wS_aopL, wS_ret, wS_retL, wS_retV, wS_do, wS_pop, wS_dead, wS_sw, wF_body, Nat.reduceAdd, Nat.zero_add, Bool.not_not, true_and, and_true, if_true, if_false, ↓reduceIte, eq_self, Value.int.injEq, Value.long.injEq, exists_eq_left', ik_b1, ik_b0, ik_bz0, ik_bz3, ik_bz3_1, ik_bz3_0, ik_cmp, ik_cmpL, ik_eI, ik_eL, ik_as, ik_i0, ik_i1, decide_eq_true_eq, decide_eq_false_iff_not, decide_true, decide_false, Bool.not_true, Bool.not_false, reduceCtorEq, forall_const, false_implies, true_implies, implies_true, true_and, and_true, and_self, false_and, and_false, Bool.and_true, Bool.true_and, not_true_eq_false, not_false_eq_true, if_true, if_false, ite_true, ite_false, ik_bz3_0, ik_bz3_1, ik_bz0, fB, isI, c, wF_eq e1, w_all2, k3]
      · unfold fX12_odds
        simp (decide := true) only [wE_lit, wL_lit, wE_loc, wL_loc, wE_add, wE_sub, wE_mul, wE_and, wE_or, wE_xor, wE_shl, wE_shr, wE_ushr, wE_div, wE_rem, wE_neg, wE_i2b, wE_l2i, wL_i2l, wL_add, wL_mul, wE_fld, wL_fld, wE_arr, wL_arr, wC_cmp, wC_cmp0, wC_cmpL, wC_and, wC_or, wC_not, wC_ite, wL_ite, wA_nil, wA_int, wA_long, wE_call, wL_call, wS_skip, wS_seq, wS_set, wS_setL, wS_inc, wS_if, wS_put, wS_putL, wS_putOp, wS_putOpL, wS_ast, wS_astL, wS_aop, wS_aopL, wS_ret, wS_retL, wS_retV, wS_do, wS_pop, wS_dead, wS_sw, wF_body, Nat.reduceAdd, Nat.zero_add, Bool.not_not, true_and, and_true, if_true, if_false, ↓reduceIte, eq_self, Value.int.injEq, Value.long.injEq, exists_eq_left', ik_b1, ik_b0, ik_bz0, ik_bz3, ik_bz3_1, ik_bz3_0, ik_cmp, ik_cmpL, ik_eI, ik_eL, ik_as, ik_i0, ik_i1, decide_eq_true_eq, decide_eq_false_iff_not, decide_true, decide_false, Bool.not_true, Bool.not_false, reduceCtorEq, forall_const, false_implies, true_implies, implies_true, true_and, and_true, and_self, false_and, and_false, Bool.and_true, Bool.true_and, not_true_eq_false, not_false_eq_true, if_true, if_false, ite_true, ite_false, ik_bz3_0, ik_bz3_1, ik_bz0, mB, isI, c, wF_eq e2, q2]
    · by_cases d2 : isI b N
      · obtain ⟨k, hk, rfl⟩ := isI_ex (by omega) c
        obtain ⟨i, hi, rfl⟩ := isI_ex (by omega) d2
        obtain ⟨g, -, V, W, e1, ff, k1, k2, k3, b1, b2, k4⟩ := weighed2 hA (show 0 < B by omega)
        obtain ⟨m1, e2, q1, q2, q3⟩ := ff m (eqM.rfl' m)
        have v1 := k4 k i hk (by omega)
        rw [if_pos hi] at v1
        have ix := ik_ix_nI (show 24 * k + i < 96 by omega) (by omega)
        have e62 : (24 : Int32) * nI k + nI i = nI (24 * k + i) := by rw [show (24 : Int32) = nI 24 from rfl, pk_mul, nI_add]
        refine ⟨.long (lN (V k i)), g, m1, eq_of_wF ?_, eq_of_wF ?_, N, B, S, hA.w k1 q1 (k2.m q1)⟩
        · unfold fX11_odds
          simp (decide := true) only [wE_lit, wL_lit, wE_loc, wL_loc, wE_add, wE_sub, wE_mul, wE_and, wE_or, wE_xor, wE_shl, wE_shr, wE_ushr, wE_div, wE_rem, wE_neg, wE_i2b, wE_l2i, wL_i2l, wL_add, wL_mul, wE_fld, wL_fld, wE_arr, wL_arr, wC_cmp, wC_cmp0, wC_cmpL, wC_and, wC_or, wC_not, wC_ite, wL_ite, wA_nil, wA_int, wA_long, wE_call, wL_call, wS_skip, wS_seq, wS_set, wS_setL, wS_inc, wS_if, wS_put, wS_putL, wS_putOp, wS_putOpL, wS_ast, wS_astL, wS_aop, wS_aopL, wS_ret, wS_retL, wS_retV, wS_do, wS_pop, wS_dead, wS_sw, wF_body, Nat.reduceAdd, Nat.zero_add, Bool.not_not, true_and, and_true, if_true, if_false, ↓reduceIte, eq_self, Value.int.injEq, Value.long.injEq, exists_eq_left', ik_b1, ik_b0, ik_bz0, ik_bz3, ik_bz3_1, ik_bz3_0, ik_cmp, ik_cmpL, ik_eI, ik_eL, ik_as, ik_i0, ik_i1, decide_eq_true_eq, decide_eq_false_iff_not, decide_true, decide_false, Bool.not_true, Bool.not_false, reduceCtorEq, forall_const, false_implies, true_implies, implies_true, true_and, and_true, and_self, false_and, and_false, Bool.and_true, Bool.true_and, not_true_eq_false, not_false_eq_true, if_true, if_false, ite_true, ite_false, ik_bz3_0, ik_bz3_1, ik_bz0, fB, fN, isI, c, d, d2, wF_eq e1, w_odds2 (show k < 4 by omega) (show i < 24 by omega), v1]
        · unfold fX12_odds
          simp (decide := true) only [wE_lit, wL_lit, wE_loc, wL_loc, wE_add, wE_sub, wE_mul, wE_and, wE_or, wE_xor, wE_shl, wE_shr, wE_ushr, wE_div, wE_rem, wE_neg, wE_i2b, wE_l2i, wL_i2l, wL_add, wL_mul, wE_fld, wL_fld, wE_arr, wL_arr, wC_cmp, wC_cmp0, wC_cmpL, wC_and, wC_or, wC_not, wC_ite, wL_ite, wA_nil, wA_int, wA_long, wE_call, wL_call, wS_skip, wS_seq, wS_set, wS_setL, wS_inc, wS_if, wS_put, wS_putL, wS_putOp, wS_putOpL, wS_ast, wS_astL, wS_aop, wS_aopL, wS_ret, wS_retL, wS_retV, wS_do, wS_pop, wS_dead, wS_sw, wF_body, Nat.reduceAdd, Nat.zero_add, Bool.not_not, true_and, and_true, if_true, if_false, ↓reduceIte, eq_self, Value.int.injEq, Value.long.injEq, exists_eq_left', ik_b1, ik_b0, ik_bz0, ik_bz3, ik_bz3_1, ik_bz3_0, ik_cmp, ik_cmpL, ik_eI, ik_eL, ik_as, ik_i0, ik_i1, decide_eq_true_eq, decide_eq_false_iff_not, decide_true, decide_false, Bool.not_true, Bool.not_false, reduceCtorEq, forall_const, false_implies, true_implies, implies_true, true_and, and_true, and_self, false_and, and_false, Bool.and_true, Bool.true_and, not_true_eq_false, not_false_eq_true, if_true, if_false, ite_true, ite_false, ik_bz3_0, ik_bz3_1, ik_bz0, mB, mN, isI, c, d, d2, wF_eq e2, e62, ix, Option.some.injEq, q3 k i hk hi]
      · refine ⟨.long (-1), x, m, eq_of_wF ?_, eq_of_wF ?_, h0⟩
        · unfold fX11_odds
          simp (decide := true) only [wE_lit, wL_lit, wE_loc, wL_loc, wE_add, wE_sub, wE_mul, wE_and, wE_or, wE_xor, wE_shl, wE_shr, wE_ushr, wE_div, wE_rem, wE_neg, wE_i2b, wE_l2i, wL_i2l, wL_add, wL_mul, wE_fld, wL_fld, wE_arr, wL_arr, wC_cmp, wC_cmp0, wC_cmpL, wC_and, wC_or, wC_not, wC_ite, wL_ite, wA_nil, wA_int, wA_long, wE_call, wL_call, wS_skip, wS_seq, wS_set, wS_setL, wS_inc, wS_if, wS_put, wS_putL, wS_putOp, wS_putOpL, wS_ast, wS_astL, wS_aop, wS_aopL, wS_ret, wS_retL, wS_retV, wS_do, wS_pop, wS_dead, wS_sw, wF_body, Nat.reduceAdd, Nat.zero_add, Bool.not_not, true_and, and_true, if_true, if_false, ↓reduceIte, eq_self, Value.int.injEq, Value.long.injEq, exists_eq_left', ik_b1, ik_b0, ik_bz0, ik_bz3, ik_bz3_1, ik_bz3_0, ik_cmp, ik_cmpL, ik_eI, ik_eL, ik_as, ik_i0, ik_i1, decide_eq_true_eq, decide_eq_false_iff_not, decide_true, decide_false, Bool.not_true, Bool.not_false, reduceCtorEq, forall_const, false_implies, true_implies, implies_true, true_and, and_true, and_self, false_and, and_false, Bool.and_true, Bool.true_and, not_true_eq_false, not_false_eq_true, if_true, if_false, ite_true, ite_false, ik_bz3_0, ik_bz3_1, ik_bz0, fB, fN, c, d, d2]
          exact ⟨_, rfl⟩
        · unfold fX12_odds
          simp (decide := true) only [wE_lit, wL_lit, wE_loc, wL_loc, wE_add, wE_sub, wE_mul, wE_and, wE_or, wE_xor, wE_shl, wE_shr, wE_ushr, wE_div, wE_rem, wE_neg, wE_i2b, wE_l2i, wL_i2l, wL_add, wL_mul, wE_fld, wL_fld, wE_arr, wL_arr, wC_cmp, wC_cmp0, wC_cmpL, wC_and, wC_or, wC_not, wC_ite, wL_ite, wA_nil, wA_int, wA_long, wE_call, wL_call, wS_skip, wS_seq, wS_set, wS_setL, wS_inc, wS_if, wS_put, wS_putL, wS_putOp, wS_putOpL, wS_ast, wS_astL, wS_aop, wS_aopL, wS_ret, wS_retL, wS_retV, wS_do, wS_pop, wS_dead, wS_sw, wF_body, Nat.reduceAdd, Nat.zero_add, Bool.not_not, true_and, and_true, if_true, if_false, ↓reduceIte, eq_self, Value.int.injEq, Value.long.injEq, exists_eq_left', ik_b1, ik_b0, ik_bz0, ik_bz3, ik_bz3_1, ik_bz3_0, ik_cmp, ik_cmpL, ik_eI, ik_eL, ik_as, ik_i0, ik_i1, decide_eq_true_eq, decide_eq_false_iff_not, decide_true, decide_false, Bool.not_true, Bool.not_false, reduceCtorEq, forall_const, false_implies, true_implies, implies_true, true_and, and_true, and_self, false_and, and_false, Bool.and_true, Bool.true_and, not_true_eq_false, not_false_eq_true, if_true, if_false, ite_true, ite_false, ik_bz3_0, ik_bz3_1, ik_bz0, mB, mN, c, d, d2]
          exact ⟨_, rfl⟩
  · refine ⟨.long (-1), x, m, eq_of_wF ?_, eq_of_wF ?_, h0⟩
    · unfold fX11_odds
      simp (decide := true) only [wE_lit, wL_lit, wE_loc, wL_loc, wE_add, wE_sub, wE_mul, wE_and, wE_or, wE_xor, wE_shl, wE_shr, wE_ushr, wE_div, wE_rem, wE_neg, wE_i2b, wE_l2i, wL_i2l, wL_add, wL_mul, wE_fld, wL_fld, wE_arr, wL_arr, wC_cmp, wC_cmp0, wC_cmpL, wC_and, wC_or, wC_not, wC_ite, wL_ite, wA_nil, wA_int, wA_long, wE_call, wL_call, wS_skip, wS_seq, wS_set, wS_setL, wS_inc, wS_if, wS_put, wS_putL, wS_putOp, wS_putOpL, wS_ast, wS_astL, wS_aop, wS_aopL, wS_ret, wS_retL, wS_retV, wS_do, wS_pop, wS_dead, wS_sw, wF_body, Nat.reduceAdd, Nat.zero_add, Bool.not_not, true_and, and_true, if_true, if_false, ↓reduceIte, eq_self, Value.int.injEq, Value.long.injEq, exists_eq_left', ik_b1, ik_b0, ik_bz0, ik_bz3, ik_bz3_1, ik_bz3_0, ik_cmp, ik_cmpL, ik_eI, ik_eL, ik_as, ik_i0, ik_i1, decide_eq_true_eq, decide_eq_false_iff_not, decide_true, decide_false, Bool.not_true, Bool.not_false, reduceCtorEq, forall_const, false_implies, true_implies, implies_true, true_and, and_true, and_self, false_and, and_false, Bool.and_true, Bool.true_and, not_true_eq_false, not_false_eq_true, if_true, if_false, ite_true, ite_false, ik_bz3_0, ik_bz3_1, ik_bz0, fB, c]
    · unfold fX12_odds
      simp (decide := true) only [wE_lit, wL_lit, wE_loc, wL_loc, wE_add, wE_sub, wE_mul, wE_and, wE_or, wE_xor, wE_shl, wE_shr, wE_ushr, wE_div, wE_rem, wE_neg, wE_i2b, wE_l2i, wL_i2l, wL_add, wL_mul, wE_fld, wL_fld, wE_arr, wL_arr, wC_cmp, wC_cmp0, wC_cmpL, wC_and, wC_or, wC_not, wC_ite, wL_ite, wA_nil, wA_int, wA_long, wE_call, wL_call, wS_skip, wS_seq, wS_set, wS_setL, wS_inc, wS_if, wS_put, wS_putL, wS_putOp, wS_putOpL, wS_ast, wS_astL, wS_aop, wS_aopL, wS_ret, wS_retL, wS_retV, wS_do, wS_pop, wS_dead, wS_sw, wF_body, Nat.reduceAdd, Nat.zero_add, Bool.not_not, true_and, and_true, if_true, if_false, ↓reduceIte, eq_self, Value.int.injEq, Value.long.injEq, exists_eq_left', ik_b1, ik_b0, ik_bz0, ik_bz3, ik_bz3_1, ik_bz3_0, ik_cmp, ik_cmpL, ik_eI, ik_eL, ik_as, ik_i0, ik_i1, decide_eq_true_eq, decide_eq_false_iff_not, decide_true, decide_false, Bool.not_true, Bool.not_false, reduceCtorEq, forall_const, false_implies, true_implies, implies_true, true_and, and_true, and_self, false_and, and_false, Bool.and_true, Bool.true_and, not_true_eq_false, not_false_eq_true, if_true, if_false, ite_true, ite_false, ik_bz3_0, ik_bz3_1, ik_bz0, mB, c]
