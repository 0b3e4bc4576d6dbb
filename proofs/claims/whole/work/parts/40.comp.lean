/-! one name against another -/
theorem ik_sub0 {a b : Int32} (h : a - b = 0) : a = b := by
  have := Int32.sub_add_cancel a b
  rw [h, Int32.zero_add] at this
  exact this.symm
theorem ik_cw_at {a b : Nat → Int32} {t : Nat} (h : ik_cw a b t = 0) (hn : ¬ a t - b t = 0) : ∀ {k : Nat}, t < k → ik_cw a b k = a t - b t
  | 0, hk => by omega
  | k + 1, hk => by
    unfold ik_cw
    by_cases e : t = k
    · subst e
      rw [h, if_neg (by simp)]
    · rw [ik_cw_at h hn (k := k) (by omega), if_pos hn]
theorem ik_cw_no {a b : Nat → Int32} {t : Nat} (h : ik_cw a b t = 0) (hn : a t = b t) : ik_cw a b (t + 1) = 0 := by
  unfold ik_cw
  rw [h, if_neg (by simp), hn, Int32.sub_self]
theorem w_comparedM {m : GG} {i j ni nj : Nat} (hi : i < 24) (hj : j < 24) (e5 : m.1 5 i = nI ni) (f5 : m.1 5 j = nI nj) (hni : ni ≤ 12) (hnj : nj ≤ 12) (Q : Value → GG → Prop) : wF fX12_compared [.int (nI i), .int (nI j)] m Q ↔ Q (.int (ik_cn (m.1 5) (m.1 4) i j)) m := by
  refine wF_eq (eq_of_wF ?_) Q
  unfold fX12_compared ik_cn
  generalize ha : ik_lt (m.1 5 i) (fun k => m.1 4 (12 * i + k)) = a
  generalize hb : ik_lt (m.1 5 j) (fun k => m.1 4 (12 * j + k)) = b
  simp (decide := true) only [wE_lit, wL_lit, wE_loc, wL_loc, wE_add, wE_sub, wE_mul, wE_and, wE_or, wE_xor, wE_shl, wE_shr, wE_ushr, wE_div, wE_rem, wE_neg, wE_i2b, wE_l2i, wL_i2l, wL_add, wL_mul, wE_fld, wL_fld, wE_arr, wL_arr, wC_cmp, wC_cmp0, wC_cmpL, wC_and, wC_or, wC_not, wC_ite, wL_ite, wA_nil, wA_int, wA_long, wE_call, wL_call, wS_skip, wS_seq, wS_set, wS_setL, wS_inc, wS_if, wS_put, wS_putL, wS_putOp, wS_putOpL, wS_ast, wS_astL, wS_aop, wS_aopL, wS_ret, wS_retL, wS_retV, wS_do, wS_pop, wS_dead, wS_sw, wF_body, Nat.reduceAdd, Nat.zero_add, Bool.not_not, true_and, and_true, if_true, if_false, ↓reduceIte, eq_self, Value.int.injEq, Value.long.injEq, exists_eq_left', ik_b1, ik_b0, ik_bz0, ik_bz3, ik_bz3_1, ik_bz3_0, ik_cmp, ik_cmpL, ik_eI, ik_eL, ik_as, ik_i0, ik_i1, decide_eq_true_eq, decide_eq_false_iff_not, decide_true, decide_false, Bool.not_true, Bool.not_false, reduceCtorEq, forall_const, false_implies, true_implies, implies_true, true_and, and_true, and_self, false_and, and_false, Bool.and_true, Bool.true_and, not_true_eq_false, not_false_eq_true, if_true, if_false, ite_true, ite_false, ik_bz3_0, ik_bz3_1, ik_bz0]
  refine wS_for _ _ (fun t σ => σ.1 3 = nI t ∧ σ.1 1 = nI i ∧ σ.1 2 = nI j ∧ ik_cw a b t = 0 ∧ σ.2.2 = m) 0 12 _ (by simp [upd, ik_eI, nI_0, ik_cw]) (by omega) (by omega) ?_ ?_ ?_
  · rintro t ⟨s1, s2, s3⟩ h1 ⟨h2, h3, h4, h5, h6⟩
    exact wc_L (n := 12) (by omega) h1 h2
  · rintro t ⟨s1, s2, s3⟩ h1 ⟨h2, h3, h4, h5, h6⟩
    simp only at h2 h3 h4 h5 h6
    subst h6
    have ea : a t = if nI t < nI ni then s3.1 4 (12 * i + t) else 0 := by rw [← ha]; unfold ik_lt; rw [e5]
    have eb : b t = if nI t < nI nj then s3.1 4 (12 * j + t) else 0 := by rw [← hb]; unfold ik_lt; rw [f5]
    have i1 := ik_ix_nI hi (by omega)
    have i2 := ik_ix_nI hj (by omega)
    have i3 := ik_ix_nI (show 12 * i + t < 288 by omega) (by omega)
    have i4 := ik_ix_nI (show 12 * j + t < 288 by omega) (by omega)
    have fin : (¬ a t = b t → a t - b t = ik_cw a b 12) ∧ (a t = b t → ik_cw a b (t + 1) = 0) := ⟨fun e => (ik_cw_at h5 (fun h => e (ik_sub0 h)) (show t < 12 by omega)).symm, fun e => ik_cw_no h5 e⟩
    by_cases d1 : nI t < nI ni <;> by_cases d2 : nI t < nI nj <;> (simp (decide := true) only [d1, d2, if_true, if_false] at ea eb; rw [ea, eb] at fin; simp (decide := true) only [wE_lit, wL_lit, wE_loc, wL_loc, wE_add, wE_sub, wE_mul, wE_and, wE_or, wE_xor, wE_shl, wE_shr, wE_ushr, wE_div, wE_rem, wE_neg, wE_i2b, wE_l2i, wL_i2l, wL_add, wL_mul, wE_fld, wL_fld, wE_arr, wL_arr, wC_cmp, wC_cmp0, wC_cmpL, wC_and, wC_or, wC_not, wC_ite, wL_ite, wA_nil, wA_int, wA_long, wE_call, wL_call, wS_skip, wS_seq, wS_set, wS_setL, wS_inc, wS_if, wS_put, wS_putL, wS_putOp, wS_putOpL, wS_ast, wS_astL, wS_aop, wS_aopL, wS_ret, wS_retL, wS_retV, wS_do, wS_pop, wS_dead, wS_sw, wF_body, Nat.reduceAdd, Nat.zero_add, Bool.not_not, true_and, and_true, if_true, if_false, ↓reduceIte, eq_self, Value.int.injEq, Value.long.injEq, exists_eq_left', ik_b1, ik_b0, ik_bz0, ik_bz3, ik_bz3_1, ik_bz3_0, ik_cmp, ik_cmpL, ik_eI, ik_eL, ik_as, ik_i0, ik_i1, decide_eq_true_eq, decide_eq_false_iff_not, decide_true, decide_false, Bool.not_true, Bool.not_false, reduceCtorEq, forall_const, false_implies, true_implies, implies_true, true_and, and_true, and_self, false_and, and_false, Bool.and_true, Bool.true_and, not_true_eq_false, not_false_eq_true, if_true, if_false, ite_true, ite_false, ik_bz3_0, ik_bz3_1, ik_bz0, wE_ite, h2, h3, h4, e5, f5, d1, d2, i1, i2, i3, i4, Option.some.injEq, show (12 : Int32) = nI 12 from rfl, pk_mul, nI_add, upd_at, upd_off, nI_1]; simpa using fin)
  · rintro ⟨s1, s2, s3⟩ ⟨h2, h3, h4, h5, h6⟩
    simp only at h2 h3 h4 h5 h6
    subst h6
    rw [h5]
    simp (decide := true) only [wE_lit, wL_lit, wE_loc, wL_loc, wE_add, wE_sub, wE_mul, wE_and, wE_or, wE_xor, wE_shl, wE_shr, wE_ushr, wE_div, wE_rem, wE_neg, wE_i2b, wE_l2i, wL_i2l, wL_add, wL_mul, wE_fld, wL_fld, wE_arr, wL_arr, wC_cmp, wC_cmp0, wC_cmpL, wC_and, wC_or, wC_not, wC_ite, wL_ite, wA_nil, wA_int, wA_long, wE_call, wL_call, wS_skip, wS_seq, wS_set, wS_setL, wS_inc, wS_if, wS_put, wS_putL, wS_putOp, wS_putOpL, wS_ast, wS_astL, wS_aop, wS_aopL, wS_ret, wS_retL, wS_retV, wS_do, wS_pop, wS_dead, wS_sw, wF_body, Nat.reduceAdd, Nat.zero_add, Bool.not_not, true_and, and_true, if_true, if_false, ↓reduceIte, eq_self, Value.int.injEq, Value.long.injEq, exists_eq_left', ik_b1, ik_b0, ik_bz0, ik_bz3, ik_bz3_1, ik_bz3_0, ik_cmp, ik_cmpL, ik_eI, ik_eL, ik_as, ik_i0, ik_i1, decide_eq_true_eq, decide_eq_false_iff_not, decide_true, decide_false, Bool.not_true, Bool.not_false, reduceCtorEq, forall_const, false_implies, true_implies, implies_true, true_and, and_true, and_self, false_and, and_false, Bool.and_true, Bool.true_and, not_true_eq_false, not_false_eq_true, if_true, if_false, ite_true, ite_false, ik_bz3_0, ik_bz3_1, ik_bz0]
