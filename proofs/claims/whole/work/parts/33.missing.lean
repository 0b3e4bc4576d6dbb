/-! what is missing -/
def ik_eqs (m : GG) (n : Int32) : Nat → Bool := fun t => decide (m.1 51 t = n)
def ik_gts (m : GG) (n : Int32) : Nat → Bool := fun t => decide (n < m.1 51 t)
def ik_low (m : GG) (n : Int32) : Nat → Int32 → Int32 := fun t a => if ¬ m.1 51 t = 0 ∧ m.1 51 t < n then nI t else a
def ik_high (m : GG) (n : Int32) : Nat → Int32 → Int32 := fun t a => if n < m.1 51 t ∧ a = -1 then nI t else a
theorem ik_high_no {m : GG} {n : Int32} : ∀ {k : Nat}, (∀ q, q < k → ik_gts m n q = false) → ik_fd (ik_high m n) (-1) k = -1
  | 0, _ => rfl
  | k + 1, h => by
    show ik_high m n k _ = -1
    rw [ik_high_no (fun q hq => h q (by omega))]
    have := h k (by omega)
    unfold ik_gts at this
    unfold ik_high
    rw [decide_eq_false_iff_not] at this
    simp [this]
theorem nI_m1 {t : Nat} (ht : t < 2 ^ 31) : ¬ nI t = -1 := by
  intro h
  have := congrArg Int32.toInt h
  rw [nI_toInt ht] at this
  have e : (-1 : Int32).toInt = -1 := rfl
  omega
theorem ik_high_at {m : GG} {n : Int32} {t : Nat} (h31 : t < 2 ^ 31) (h1 : ik_gts m n t = true) (h0 : ∀ q, q < t → ik_gts m n q = false) : ∀ {k : Nat}, t < k → ik_fd (ik_high m n) (-1) k = nI t
  | 0, h => by omega
  | k + 1, h => by
    show ik_high m n k _ = nI t
    by_cases e : t = k
    · subst e
      rw [ik_high_no h0]
      unfold ik_gts at h1
      rw [decide_eq_true_eq] at h1
      unfold ik_high
      simp [h1]
    · rw [ik_high_at h31 h1 h0 (k := k) (by omega)]
      unfold ik_high
      simp [nI_m1 h31]
theorem ik_any_first {p : Nat → Bool} : ∀ {n : Nat}, ik_any p n = true → ∃ t, t < n ∧ p t = true ∧ ∀ q, q < t → p q = false
  | 0, h => by cases h
  | n + 1, h => by
    unfold ik_any at h
    cases e : ik_any p n
    · rw [e, Bool.false_or] at h
      exact ⟨n, by omega, h, ik_any_off e⟩
    · obtain ⟨t, h1, h2, h3⟩ := ik_any_first e
      exact ⟨t, by omega, h2, h3⟩
theorem w_misses {x m : GG} {S : Nat} (hS : S ≤ 6) (hx : x.1 25 7 = nI S) (hn : ∀ s, s < S → x.1 34 s = m.1 51 s) (n : Int32) (Q : Value → GG → Prop) : wF fX8_misses [.int n] x Q ↔ Q (.int (if ik_any (ik_eqs m n) S = true then 0 else ik_b2 (ik_any (ik_gts m n) S))) x := by
  refine wF_eq (eq_of_wF ?_) Q
  unfold fX8_misses
  simp (decide := true) only [wE_lit, wL_lit, wE_loc, wL_loc, wE_add, wE_sub, wE_mul, wE_and, wE_or, wE_xor, wE_shl, wE_shr, wE_ushr, wE_div, wE_rem, wE_neg, wE_i2b, wE_l2i, wL_i2l, wL_add, wL_mul, wE_fld, wL_fld, wE_arr, wL_arr, wC_cmp, wC_cmp0, wC_cmpL, wC_and, wC_or, wC_not, wC_ite, wL_ite, wA_nil, wA_int, wA_long, wE_call, wL_call, wS_skip, wS_seq, wS_set, wS_setL, wS_inc, wS_if, wS_put, wS_putL, wS_putOp, wS_putOpL, wS_ast, wS_astL, wS_aop, wS_aopL, wS_ret, wS_retL, wS_retV, wS_do, wS_pop, wS_dead, wS_sw, wF_body, Nat.reduceAdd, Nat.zero_add, Bool.not_not, true_and, and_true, if_true, if_false, ↓reduceIte, eq_self, Value.int.injEq, Value.long.injEq, exists_eq_left', ik_b1, ik_b0, ik_bz0, ik_bz3, ik_bz3_1, ik_bz3_0, ik_cmp, ik_cmpL, ik_eI, ik_eL, ik_as, ik_i0, ik_i1, decide_eq_true_eq, decide_eq_false_iff_not, decide_true, decide_false, Bool.not_true, Bool.not_false, reduceCtorEq, forall_const, false_implies, true_implies, implies_true, true_and, and_true, and_self, false_and, and_false, Bool.and_true, Bool.true_and, not_true_eq_false, not_false_eq_true, if_true, if_false, ite_true, ite_false, ik_bz3_0, ik_bz3_1, ik_bz0]
  refine wS_for _ _ (fun t σ => σ.1 3 = nI t ∧ σ.1 1 = n ∧ (∀ q, q < t → ik_eqs m n q = false) ∧ σ.1 2 = ik_b2 (ik_any (ik_gts m n) t) ∧ σ.2.2 = x) 0 S _ (by simp [upd, ik_eI, nI_0, ik_any, ik_b2]) (by omega) (by omega) ?_ ?_ ?_
  · rintro t ⟨s1, s2, s3⟩ h1 ⟨h2, h3, h4, h5, h6⟩
    simp only at h2 h3 h4 h5 h6
    subst h6
    exact wc_X (M := 6) hx (by omega) (by omega) h1 h2
  · rintro t ⟨s1, s2, s3⟩ h1 ⟨h2, h3, h4, h5, h6⟩
    simp only at h2 h3 h4 h5 h6
    subst h6
    simp (decide := true) only [wE_lit, wL_lit, wE_loc, wL_loc, wE_add, wE_sub, wE_mul, wE_and, wE_or, wE_xor, wE_shl, wE_shr, wE_ushr, wE_div, wE_rem, wE_neg, wE_i2b, wE_l2i, wL_i2l, wL_add, wL_mul, wE_fld, wL_fld, wE_arr, wL_arr, wC_cmp, wC_cmp0, wC_cmpL, wC_and, wC_or, wC_not, wC_ite, wL_ite, wA_nil, wA_int, wA_long, wE_call, wL_call, wS_skip, wS_seq, wS_set, wS_setL, wS_inc, wS_if, wS_put, wS_putL, wS_putOp, wS_putOpL, wS_ast, wS_astL, wS_aop, wS_aopL, wS_ret, wS_retL, wS_retV, wS_do, wS_pop, wS_dead, wS_sw, wF_body, Nat.reduceAdd, Nat.zero_add, Bool.not_not, true_and, and_true, if_true, if_false, ↓reduceIte, eq_self, Value.int.injEq, Value.long.injEq, exists_eq_left', ik_b1, ik_b0, ik_bz0, ik_bz3, ik_bz3_1, ik_bz3_0, ik_cmp, ik_cmpL, ik_eI, ik_eL, ik_as, wE_ite2, h2, h3, h5, hn t h1, ik_ix_nI (show t < 6 by omega) (by omega), Option.some.injEq, upd_at, upd_off, nI_1, nI_add]
    rw [show ik_any (ik_gts m n) (t + 1) = (ik_any (ik_gts m n) t || ik_gts m n t) from rfl]
    cases c3 : ik_any (ik_gts m n) t <;> by_cases d1 : m.1 51 t = n <;> by_cases d2 : n < m.1 51 t <;> simp (decide := true) only [d1, d2, ik_i0, ik_i1, decide_eq_true_eq, decide_eq_false_iff_not, decide_true, decide_false, Bool.not_true, Bool.not_false, reduceCtorEq, forall_const, false_implies, true_implies, implies_true, true_and, and_true, and_self, false_and, and_false, Bool.and_true, Bool.true_and, not_true_eq_false, not_false_eq_true, if_true, if_false, ite_true, ite_false, ik_bz3_0, ik_bz3_1, ik_bz0, upd_at, upd_off, h2, h3, nI_1, nI_add, ik_b2, ik_gts, Bool.false_or, Bool.true_or] <;> first | (rw [ik_any_yes h1 (by unfold ik_eqs; simp [d1])]; rfl) | (intro q hq; by_cases e : q = t; (subst e; unfold ik_eqs; simp [d1]); exact h4 q (by omega)) | skip
  · rintro ⟨s1, s2, s3⟩ ⟨h2, h3, h4, h5, h6⟩
    simp only at h2 h3 h4 h5 h6
    subst h6
    rw [ik_any_no h4]
    simp (decide := true) only [wE_lit, wL_lit, wE_loc, wL_loc, wE_add, wE_sub, wE_mul, wE_and, wE_or, wE_xor, wE_shl, wE_shr, wE_ushr, wE_div, wE_rem, wE_neg, wE_i2b, wE_l2i, wL_i2l, wL_add, wL_mul, wE_fld, wL_fld, wE_arr, wL_arr, wC_cmp, wC_cmp0, wC_cmpL, wC_and, wC_or, wC_not, wC_ite, wL_ite, wA_nil, wA_int, wA_long, wE_call, wL_call, wS_skip, wS_seq, wS_set, wS_setL, wS_inc, wS_if, wS_put, wS_putL, wS_putOp, wS_putOpL, wS_ast, wS_astL, wS_aop, wS_aopL, wS_ret, wS_retL, wS_retV, wS_do, wS_pop, wS_dead, wS_sw, wF_body, Nat.reduceAdd, Nat.zero_add, Bool.not_not, true_and, and_true, if_true, if_false, ↓reduceIte, eq_self, Value.int.injEq, Value.long.injEq, exists_eq_left', ik_b1, ik_b0, ik_bz0, ik_bz3, ik_bz3_1, ik_bz3_0, ik_cmp, ik_cmpL, ik_eI, ik_eL, ik_as, ik_i0, ik_i1, decide_eq_true_eq, decide_eq_false_iff_not, decide_true, decide_false, Bool.not_true, Bool.not_false, reduceCtorEq, forall_const, false_implies, true_implies, implies_true, true_and, and_true, and_self, false_and, and_false, Bool.and_true, Bool.true_and, not_true_eq_false, not_false_eq_true, if_true, if_false, ite_true, ite_false, ik_bz3_0, ik_bz3_1, ik_bz0, h5]
    cases ik_any (ik_gts m n) S <;> simp (decide := true) [ik_b2]
theorem w_noteBelow {x m : GG} {S : Nat} (hS : S ≤ 6) (hx : x.1 25 7 = nI S) (hn : ∀ s, s < S → x.1 34 s = m.1 51 s) (n : Int32) (Q : Value → GG → Prop) : wF fX8_noteBelow [.int n] x Q ↔ Q (.int (ik_fd (ik_low m n) 0 S)) x := by
  refine wF_eq (eq_of_wF ?_) Q
  unfold fX8_noteBelow
  simp (decide := true) only [wE_lit, wL_lit, wE_loc, wL_loc, wE_add, wE_sub, wE_mul, wE_and, wE_or, wE_xor, wE_shl, wE_shr, wE_ushr, wE_div, wE_rem, wE_neg, wE_i2b, wE_l2i, wL_i2l, wL_add, wL_mul, wE_fld, wL_fld, wE_arr, wL_arr, wC_cmp, wC_cmp0, wC_cmpL, wC_and, wC_or, wC_not, wC_ite, wL_ite, wA_nil, wA_int, wA_long, wE_call, wL_call, wS_skip, wS_seq, wS_set, wS_setL, wS_inc, wS_if, wS_put, wS_putL, wS_putOp, wS_putOpL, wS_ast, wS_astL, wS_aop, wS_aopL, wS_ret, wS_retL, wS_retV, wS_do, wS_pop, wS_dead, wS_sw, wF_body, Nat.reduceAdd, Nat.zero_add, Bool.not_not, true_and, and_true, if_true, if_false, ↓reduceIte, eq_self, Value.int.injEq, Value.long.injEq, exists_eq_left', ik_b1, ik_b0, ik_bz0, ik_bz3, ik_bz3_1, ik_bz3_0, ik_cmp, ik_cmpL, ik_eI, ik_eL, ik_as, ik_i0, ik_i1, decide_eq_true_eq, decide_eq_false_iff_not, decide_true, decide_false, Bool.not_true, Bool.not_false, reduceCtorEq, forall_const, false_implies, true_implies, implies_true, true_and, and_true, and_self, false_and, and_false, Bool.and_true, Bool.true_and, not_true_eq_false, not_false_eq_true, if_true, if_false, ite_true, ite_false, ik_bz3_0, ik_bz3_1, ik_bz0]
  refine wS_fd _ _ (ik_low m n) 0 S 3 2 _ (by omega) (by simp [upd]) (by simp [upd]) (fun t s1 ht' h1 => wc_X (M := 6) hx (by omega) (by omega) ht' h1) (fun t s1 hlt h1 hk => ?_) (fun s1 h1 h2 hk => ?_)
  · have k1 := hk 1 (by decide) (by decide)
    have e1 := hn t hlt
    simp (decide := true) only [upd_off, Nat.reduceAdd, Nat.zero_add, Bool.not_not, true_and, and_true, if_true, if_false, ↓reduceIte, eq_self, Value.int.injEq, Value.long.injEq, exists_eq_left', ik_b1, ik_b0, ik_bz0, ik_bz3, ik_bz3_1, ik_bz3_0, ik_cmp, ik_cmpL, ik_eI, ik_eL, ik_as] at k1
    simp (decide := true) only [wE_lit, wL_lit, wE_loc, wL_loc, wE_add, wE_sub, wE_mul, wE_and, wE_or, wE_xor, wE_shl, wE_shr, wE_ushr, wE_div, wE_rem, wE_neg, wE_i2b, wE_l2i, wL_i2l, wL_add, wL_mul, wE_fld, wL_fld, wE_arr, wL_arr, wC_cmp, wC_cmp0, wC_cmpL, wC_and, wC_or, wC_not, wC_ite, wL_ite, wA_nil, wA_int, wA_long, wE_call, wL_call, wS_skip, wS_seq, wS_set, wS_setL, wS_inc, wS_if, wS_put, wS_putL, wS_putOp, wS_putOpL, wS_ast, wS_astL, wS_aop, wS_aopL, wS_ret, wS_retL, wS_retV, wS_do, wS_pop, wS_dead, wS_sw, wF_body, Nat.reduceAdd, Nat.zero_add, Bool.not_not, true_and, and_true, if_true, if_false, ↓reduceIte, eq_self, Value.int.injEq, Value.long.injEq, exists_eq_left', ik_b1, ik_b0, ik_bz0, ik_bz3, ik_bz3_1, ik_bz3_0, ik_cmp, ik_cmpL, ik_eI, ik_eL, ik_as, h1, k1, e1, ik_ix_nI (show t < 6 by omega) (by omega), Option.some.injEq, upd_at, upd_off, nI_1, nI_add, ik_low]
    by_cases d1 : m.1 51 t = 0 <;> by_cases d2 : m.1 51 t < n <;> simp (decide := true) only [d1, d2, ik_i0, ik_i1, decide_eq_true_eq, decide_eq_false_iff_not, decide_true, decide_false, Bool.not_true, Bool.not_false, reduceCtorEq, forall_const, false_implies, true_implies, implies_true, true_and, and_true, and_self, false_and, and_false, Bool.and_true, Bool.true_and, not_true_eq_false, not_false_eq_true, if_true, if_false, ite_true, ite_false, ik_bz3_0, ik_bz3_1, ik_bz0, upd_at, upd_off, h1, nI_1, nI_add] <;> first | exact fun k a b => upd_off2 a b | exact fun k a b => upd_off _ _ _ _ a | skip
  · simp (decide := true) only [wE_lit, wL_lit, wE_loc, wL_loc, wE_add, wE_sub, wE_mul, wE_and, wE_or, wE_xor, wE_shl, wE_shr, wE_ushr, wE_div, wE_rem, wE_neg, wE_i2b, wE_l2i, wL_i2l, wL_add, wL_mul, wE_fld, wL_fld, wE_arr, wL_arr, wC_cmp, wC_cmp0, wC_cmpL, wC_and, wC_or, wC_not, wC_ite, wL_ite, wA_nil, wA_int, wA_long, wE_call, wL_call, wS_skip, wS_seq, wS_set, wS_setL, wS_inc, wS_if, wS_put, wS_putL, wS_putOp, wS_putOpL, wS_ast, wS_astL, wS_aop, wS_aopL, wS_ret, wS_retL, wS_retV, wS_do, wS_pop, wS_dead, wS_sw, wF_body, Nat.reduceAdd, Nat.zero_add, Bool.not_not, true_and, and_true, if_true, if_false, ↓reduceIte, eq_self, Value.int.injEq, Value.long.injEq, exists_eq_left', ik_b1, ik_b0, ik_bz0, ik_bz3, ik_bz3_1, ik_bz3_0, ik_cmp, ik_cmpL, ik_eI, ik_eL, ik_as, h2]
theorem w_noteAbove {x m : GG} {S : Nat} (hS : S ≤ 6) (hx : x.1 25 7 = nI S) (hn : ∀ s, s < S → x.1 34 s = m.1 51 s) (n : Int32) (Q : Value → GG → Prop) : wF fX8_noteAbove [.int n] x Q ↔ Q (.int (ik_fd (ik_high m n) (-1) S)) x := by
  refine wF_eq (eq_of_wF ?_) Q
  unfold fX8_noteAbove
  simp (decide := true) only [wE_lit, wL_lit, wE_loc, wL_loc, wE_add, wE_sub, wE_mul, wE_and, wE_or, wE_xor, wE_shl, wE_shr, wE_ushr, wE_div, wE_rem, wE_neg, wE_i2b, wE_l2i, wL_i2l, wL_add, wL_mul, wE_fld, wL_fld, wE_arr, wL_arr, wC_cmp, wC_cmp0, wC_cmpL, wC_and, wC_or, wC_not, wC_ite, wL_ite, wA_nil, wA_int, wA_long, wE_call, wL_call, wS_skip, wS_seq, wS_set, wS_setL, wS_inc, wS_if, wS_put, wS_putL, wS_putOp, wS_putOpL, wS_ast, wS_astL, wS_aop, wS_aopL, wS_ret, wS_retL, wS_retV, wS_do, wS_pop, wS_dead, wS_sw, wF_body, Nat.reduceAdd, Nat.zero_add, Bool.not_not, true_and, and_true, if_true, if_false, ↓reduceIte, eq_self, Value.int.injEq, Value.long.injEq, exists_eq_left', ik_b1, ik_b0, ik_bz0, ik_bz3, ik_bz3_1, ik_bz3_0, ik_cmp, ik_cmpL, ik_eI, ik_eL, ik_as, ik_i0, ik_i1, decide_eq_true_eq, decide_eq_false_iff_not, decide_true, decide_false, Bool.not_true, Bool.not_false, reduceCtorEq, forall_const, false_implies, true_implies, implies_true, true_and, and_true, and_self, false_and, and_false, Bool.and_true, Bool.true_and, not_true_eq_false, not_false_eq_true, if_true, if_false, ite_true, ite_false, ik_bz3_0, ik_bz3_1, ik_bz0]
  refine wS_find _ _ (ik_gts m n) S 2 _ (by omega) (by simp [upd]) (fun t s1 ht' h1 => wc_X (M := 6) hx (by omega) (by omega) ht' h1) (fun t s1 hlt h1 hk hp => ?_) (fun s1 h1 hk hp => ?_)
  · have k1 := hk 1 (by decide)
    have e1 := hn t hlt
    simp (decide := true) only [upd_off, Nat.reduceAdd, Nat.zero_add, Bool.not_not, true_and, and_true, if_true, if_false, ↓reduceIte, eq_self, Value.int.injEq, Value.long.injEq, exists_eq_left', ik_b1, ik_b0, ik_bz0, ik_bz3, ik_bz3_1, ik_bz3_0, ik_cmp, ik_cmpL, ik_eI, ik_eL, ik_as] at k1
    simp (decide := true) only [wE_lit, wL_lit, wE_loc, wL_loc, wE_add, wE_sub, wE_mul, wE_and, wE_or, wE_xor, wE_shl, wE_shr, wE_ushr, wE_div, wE_rem, wE_neg, wE_i2b, wE_l2i, wL_i2l, wL_add, wL_mul, wE_fld, wL_fld, wE_arr, wL_arr, wC_cmp, wC_cmp0, wC_cmpL, wC_and, wC_or, wC_not, wC_ite, wL_ite, wA_nil, wA_int, wA_long, wE_call, wL_call, wS_skip, wS_seq, wS_set, wS_setL, wS_inc, wS_if, wS_put, wS_putL, wS_putOp, wS_putOpL, wS_ast, wS_astL, wS_aop, wS_aopL, wS_ret, wS_retL, wS_retV, wS_do, wS_pop, wS_dead, wS_sw, wF_body, Nat.reduceAdd, Nat.zero_add, Bool.not_not, true_and, and_true, if_true, if_false, ↓reduceIte, eq_self, Value.int.injEq, Value.long.injEq, exists_eq_left', ik_b1, ik_b0, ik_bz0, ik_bz3, ik_bz3_1, ik_bz3_0, ik_cmp, ik_cmpL, ik_eI, ik_eL, ik_as, h1, k1, e1, ik_ix_nI (show t < 6 by omega) (by omega), Option.some.injEq, upd_at, nI_1, nI_add]
    by_cases d1 : n < m.1 51 t <;> simp (decide := true) only [d1, ik_i0, ik_i1, decide_eq_true_eq, decide_eq_false_iff_not, decide_true, decide_false, Bool.not_true, Bool.not_false, reduceCtorEq, forall_const, false_implies, true_implies, implies_true, true_and, and_true, and_self, false_and, and_false, Bool.and_true, Bool.true_and, not_true_eq_false, not_false_eq_true, if_true, if_false, ite_true, ite_false, ik_bz3_0, ik_bz3_1, ik_bz0, ik_gts] <;> first | exact fun k a => upd_off _ _ _ _ a | exact (ik_high_at (by omega) (by unfold ik_gts; simp [d1]) hp hlt).symm | skip
  · rw [ik_high_no hp]
    simp (decide := true) only [wE_lit, wL_lit, wE_loc, wL_loc, wE_add, wE_sub, wE_mul, wE_and, wE_or, wE_xor, wE_shl, wE_shr, wE_ushr, wE_div, wE_rem, wE_neg, wE_i2b, wE_l2i, wL_i2l, wL_add, wL_mul, wE_fld, wL_fld, wE_arr, wL_arr, wC_cmp, wC_cmp0, wC_cmpL, wC_and, wC_or, wC_not, wC_ite, wL_ite, wA_nil, wA_int, wA_long, wE_call, wL_call, wS_skip, wS_seq, wS_set, wS_setL, wS_inc, wS_if, wS_put, wS_putL, wS_putOp, wS_putOpL, wS_ast, wS_astL, wS_aop, wS_aopL, wS_ret, wS_retL, wS_retV, wS_do, wS_pop, wS_dead, wS_sw, wF_body, Nat.reduceAdd, Nat.zero_add, Bool.not_not, true_and, and_true, if_true, if_false, ↓reduceIte, eq_self, Value.int.injEq, Value.long.injEq, exists_eq_left', ik_b1, ik_b0, ik_bz0, ik_bz3, ik_bz3_1, ik_bz3_0, ik_cmp, ik_cmpL, ik_eI, ik_eL, ik_as, ik_i0, ik_i1, decide_eq_true_eq, decide_eq_false_iff_not, decide_true, decide_false, Bool.not_true, Bool.not_false, reduceCtorEq, forall_const, false_implies, true_implies, implies_true, true_and, and_true, and_self, false_and, and_false, Bool.and_true, Bool.true_and, not_true_eq_false, not_false_eq_true, if_true, if_false, ite_true, ite_false, ik_bz3_0, ik_bz3_1, ik_bz0]
theorem op_missing (n w : Int32) (x m : GG) (h : Rel x m) : ∃ v x' m', fX11_missing [.int n, .int w] x = some (v, x') ∧ fX12_missing [.int n, .int w] m = some (v, m') ∧ Rel x' m' := by
  have h0 := h
  obtain ⟨N, B, S, hT, hL, hN, hB, hTi, hLi, hH, hC, ⟨n1, n2, n3, n4⟩, hS, hR, hQ⟩ := h
  have hS6 := hS.1
  have f1 := w_misses hS6 hS.2.1 (fun t ht => (n1 t ht).1) n
  have f2 := w_noteBelow hS6 hS.2.1 (fun t ht => (n1 t ht).1) n
  have f3 := w_noteAbove hS6 hS.2.1 (fun t ht => (n1 t ht).1) n
  have e1 : (n < 1) ↔ ¬ 1 ≤ n := Int32.not_le.symm
  by_cases hc : (1 ≤ n ∧ n ≤ 40) ∧ 0 ≤ w ∧ w ≤ 1
  · obtain ⟨c1, c2⟩ := hc
    have loop : ∀ (Q : Value → GG → Prop) (P : SS → Prop), (ik_any (ik_eqs m n) S = true → Q (.int (-1)) m) → (ik_any (ik_eqs m n) S = false → ∀ s1 s2, s1 2 = w → s1 3 = ik_fd (ik_low m n) 0 S → s1 4 = ik_fd (ik_high m n) (-1) S → P (s1, s2, m)) → ∀ s1 s2, s1 1 = n → s1 2 = w → s1 3 = 0 → s1 4 = -1 → s1 5 = 0 → wS (sWh (sCmp 2 (sLoc 5) (sFld 0 4)) (sSeq (sSeq (sIf (sCmp 0 (sArr 51 6 (sLoc 5)) (sLoc 1)) (sRet 0 (sLit (-1))) sSkip) (sSeq (sIf (sAnd (sCmp0 4 (sArr 51 6 (sLoc 5))) (sCmp 2 (sArr 51 6 (sLoc 5)) (sLoc 1))) (sSet 3 (sLoc 5)) sSkip) (sIf (sAnd (sCmp 4 (sArr 51 6 (sLoc 5)) (sLoc 1)) (sCmp 0 (sLoc 4) (sLit (-1)))) (sSet 4 (sLoc 5)) sSkip))) (sInc 5 1)) ik_fuel) (s1, s2, m) P Q := by
      intro Q P yes no s1 s2 k1 k2 k3 k4 k5
      refine wS_for _ _ (fun t σ => σ.1 5 = nI t ∧ σ.1 1 = n ∧ σ.1 2 = w ∧ (∀ q, q < t → ik_eqs m n q = false) ∧ σ.1 3 = ik_fd (ik_low m n) 0 t ∧ σ.1 4 = ik_fd (ik_high m n) (-1) t ∧ σ.2.2 = m) 0 S _ ⟨by rw [nI_0]; exact k5, k1, k2, fun q hq => by omega, k3, k4, rfl⟩ (by omega) (by omega) ?_ ?_ ?_
      · rintro t ⟨s1, s2, s3⟩ h1 ⟨h2, h3, h4, h5, h6, h7, h8⟩
        simp only at h2 h3 h4 h5 h6 h7 h8
        subst h8
        exact wc_1 (by exact hS.2.2.1) (by omega) h1 h2
      · rintro t ⟨s1, s2, s3⟩ h1 ⟨h2, h3, h4, h5, h6, h7, h8⟩
        simp only at h2 h3 h4 h5 h6 h7 h8
        subst h8
        have p1 := (n1 t h1).2.1
        have z0 : (0 < s3.1 51 t) ↔ ¬ s3.1 51 t = 0 := by
          rw [← Int32.toInt_inj]
          rw [Int32.le_iff_toInt_le] at p1
          rw [Int32.lt_iff_toInt_lt]
          have z : (0 : Int32).toInt = 0 := rfl
          omega
        simp (decide := true) only [wE_lit, wL_lit, wE_loc, wL_loc, wE_add, wE_sub, wE_mul, wE_and, wE_or, wE_xor, wE_shl, wE_shr, wE_ushr, wE_div, wE_rem, wE_neg, wE_i2b, wE_l2i, wL_i2l, wL_add, wL_mul, wE_fld, wL_fld, wE_arr, wL_arr, wC_cmp, wC_cmp0, wC_cmpL, wC_and, wC_or, wC_not, wC_ite, wL_ite, wA_nil, wA_int, wA_long, wE_call, wL_call, wS_skip, wS_seq, wS_set, wS_setL, wS_inc, wS_if, wS_put, wS_putL, wS_putOp, wS_putOpL, wS_ast, wS_astL, wS_aop, wS_aopL, wS_ret, wS_retL, wS_retV, wS_do, wS_pop, wS_dead, wS_sw, wF_body, Nat.reduceAdd, Nat.zero_add, Bool.not_not, true_and, and_true, if_true, if_false, ↓reduceIte, eq_self, Value.int.injEq, Value.long.injEq, exists_eq_left', ik_b1, ik_b0, ik_bz0, ik_bz3, ik_bz3_1, ik_bz3_0, ik_cmp, ik_cmpL, ik_eI, ik_eL, ik_as, h2, h3, h4, h6, h7, z0, ik_ix_nI (show t < 6 by omega) (by omega), Option.some.injEq, upd_at, upd_off, nI_1, nI_add]
        rw [show ik_fd (ik_low s3 n) 0 (t + 1) = ik_low s3 n t (ik_fd (ik_low s3 n) 0 t) from rfl, show ik_fd (ik_high s3 n) (-1) (t + 1) = ik_high s3 n t (ik_fd (ik_high s3 n) (-1) t) from rfl]
        generalize ik_fd (ik_low s3 n) 0 t = u
        generalize ik_fd (ik_high s3 n) (-1) t = y
        unfold ik_low ik_high
        by_cases d0 : s3.1 51 t = n
        · simp (decide := true) only [d0, ik_i0, ik_i1, decide_eq_true_eq, decide_eq_false_iff_not, decide_true, decide_false, Bool.not_true, Bool.not_false, reduceCtorEq, forall_const, false_implies, true_implies, implies_true, true_and, and_true, and_self, false_and, and_false, Bool.and_true, Bool.true_and, not_true_eq_false, not_false_eq_true, if_true, if_false, ite_true, ite_false, ik_bz3_0, ik_bz3_1, ik_bz0]
          exact yes (ik_any_yes h1 (by unfold ik_eqs; simp [d0]))
        · have hq : ∀ q, q < t + 1 → ik_eqs s3 n q = false := by
            intro q hq
            by_cases e : q = t
            · subst e; unfold ik_eqs; simp [d0]
            · exact h5 q (by omega)
          by_cases d1 : s3.1 51 t = 0
          · rw [d1] at d0
            by_cases d2 : 0 < n <;> by_cases d3 : n < 0 <;> by_cases d4 : y = -1 <;> simp (decide := true) only [d0, d1, d2, d3, d4, ik_i0, ik_i1, decide_eq_true_eq, decide_eq_false_iff_not, decide_true, decide_false, Bool.not_true, Bool.not_false, reduceCtorEq, forall_const, false_implies, true_implies, implies_true, true_and, and_true, and_self, false_and, and_false, Bool.and_true, Bool.true_and, not_true_eq_false, not_false_eq_true, if_true, if_false, ite_true, ite_false, ik_bz3_0, ik_bz3_1, ik_bz0, wE_lit, wL_lit, wE_loc, wL_loc, wE_add, wE_sub, wE_mul, wE_and, wE_or, wE_xor, wE_shl, wE_shr, wE_ushr, wE_div, wE_rem, wE_neg, wE_i2b, wE_l2i, wL_i2l, wL_add, wL_mul, wE_fld, wL_fld, wE_arr, wL_arr, wC_cmp, wC_cmp0, wC_cmpL, wC_and, wC_or, wC_not, wC_ite, wL_ite, wA_nil, wA_int, wA_long, wE_call, wL_call, wS_skip, wS_seq, wS_set, wS_setL, wS_inc, wS_if, wS_put, wS_putL, wS_putOp, wS_putOpL, wS_ast, wS_astL, wS_aop, wS_aopL, wS_ret, wS_retL, wS_retV, wS_do, wS_pop, wS_dead, wS_sw, wF_body, Nat.reduceAdd, Nat.zero_add, Bool.not_not, true_and, and_true, if_true, if_false, ↓reduceIte, eq_self, Value.int.injEq, Value.long.injEq, exists_eq_left', ik_b1, ik_b0, ik_bz0, ik_bz3, ik_bz3_1, ik_bz3_0, ik_cmp, ik_cmpL, ik_eI, ik_eL, ik_as, upd_at, upd_off, h2, h3, h4, h6, h7, nI_1, nI_add] <;> first | exact hq | skip
          · by_cases d2 : s3.1 51 t < n <;> by_cases d3 : n < s3.1 51 t <;> by_cases d4 : y = -1 <;> simp (decide := true) only [d0, d1, d2, d3, d4, ik_i0, ik_i1, decide_eq_true_eq, decide_eq_false_iff_not, decide_true, decide_false, Bool.not_true, Bool.not_false, reduceCtorEq, forall_const, false_implies, true_implies, implies_true, true_and, and_true, and_self, false_and, and_false, Bool.and_true, Bool.true_and, not_true_eq_false, not_false_eq_true, if_true, if_false, ite_true, ite_false, ik_bz3_0, ik_bz3_1, ik_bz0, wE_lit, wL_lit, wE_loc, wL_loc, wE_add, wE_sub, wE_mul, wE_and, wE_or, wE_xor, wE_shl, wE_shr, wE_ushr, wE_div, wE_rem, wE_neg, wE_i2b, wE_l2i, wL_i2l, wL_add, wL_mul, wE_fld, wL_fld, wE_arr, wL_arr, wC_cmp, wC_cmp0, wC_cmpL, wC_and, wC_or, wC_not, wC_ite, wL_ite, wA_nil, wA_int, wA_long, wE_call, wL_call, wS_skip, wS_seq, wS_set, wS_setL, wS_inc, wS_if, wS_put, wS_putL, wS_putOp, wS_putOpL, wS_ast, wS_astL, wS_aop, wS_aopL, wS_ret, wS_retL, wS_retV, wS_do, wS_pop, wS_dead, wS_sw, wF_body, Nat.reduceAdd, Nat.zero_add, Bool.not_not, true_and, and_true, if_true, if_false, ↓reduceIte, eq_self, Value.int.injEq, Value.long.injEq, exists_eq_left', ik_b1, ik_b0, ik_bz0, ik_bz3, ik_bz3_1, ik_bz3_0, ik_cmp, ik_cmpL, ik_eI, ik_eL, ik_as, upd_at, upd_off, h2, h3, h4, h6, h7, nI_1, nI_add] <;> first | exact hq | skip
      · rintro ⟨s1, s2, s3⟩ ⟨h2, h3, h4, h5, h6, h7, h8⟩
        simp only at h2 h3 h4 h5 h6 h7 h8
        subst h8
        exact no (ik_any_no h5) s1 s2 h4 h6 h7
    refine ⟨.int (if ik_any (ik_eqs m n) S = true ∨ ik_any (ik_gts m n) S = false then -1 else if w = 0 then ik_fd (ik_low m n) 0 S else ik_fd (ik_high m n) (-1) S), x, m, eq_of_wF ?_, eq_of_wF ?_, h0⟩
    · unfold fX11_missing
      simp (decide := true) only [wE_lit, wL_lit, wE_loc, wL_loc, wE_add, wE_sub, wE_mul, wE_and, wE_or, wE_xor, wE_shl, wE_shr, wE_ushr, wE_div, wE_rem, wE_neg, wE_i2b, wE_l2i, wL_i2l, wL_add, wL_mul, wE_fld, wL_fld, wE_arr, wL_arr, wC_cmp, wC_cmp0, wC_cmpL, wC_and, wC_or, wC_not, wC_ite, wL_ite, wA_nil, wA_int, wA_long, wE_call, wL_call, wS_skip, wS_seq, wS_set, wS_setL, wS_inc, wS_if, wS_put, wS_putL, wS_putOp, wS_putOpL, wS_ast, wS_astL, wS_aop, wS_aopL, wS_ret, wS_retL, wS_retV, wS_do, wS_pop, wS_dead, wS_sw, wF_body, Nat.reduceAdd, Nat.zero_add, Bool.not_not, true_and, and_true, if_true, if_false, ↓reduceIte, eq_self, Value.int.injEq, Value.long.injEq, exists_eq_left', ik_b1, ik_b0, ik_bz0, ik_bz3, ik_bz3_1, ik_bz3_0, ik_cmp, ik_cmpL, ik_eI, ik_eL, ik_as, wE_ite, w_within, f1, f2, f3, e1, c1, c2, ik_i0, ik_i1, decide_eq_true_eq, decide_eq_false_iff_not, decide_true, decide_false, Bool.not_true, Bool.not_false, reduceCtorEq, forall_const, false_implies, true_implies, implies_true, true_and, and_true, and_self, false_and, and_false, Bool.and_true, Bool.true_and, not_true_eq_false, not_false_eq_true, if_true, if_false, ite_true, ite_false, ik_bz3_0, ik_bz3_1, ik_bz0]
      cases c3 : ik_any (ik_eqs m n) S <;> cases c4 : ik_any (ik_gts m n) S <;> by_cases c5 : w = 0 <;> simp (decide := true) [c5, ik_b2]
    · unfold fX12_missing
      simp (decide := true) only [wE_lit, wL_lit, wE_loc, wL_loc, wE_add, wE_sub, wE_mul, wE_and, wE_or, wE_xor, wE_shl, wE_shr, wE_ushr, wE_div, wE_rem, wE_neg, wE_i2b, wE_l2i, wL_i2l, wL_add, wL_mul, wE_fld, wL_fld, wE_arr, wL_arr, wC_cmp, wC_cmp0, wC_cmpL, wC_and, wC_or, wC_not, wC_ite, wL_ite, wA_nil, wA_int, wA_long, wE_call, wL_call, wS_skip, wS_seq, wS_set, wS_setL, wS_inc, wS_if, wS_put, wS_putL, wS_putOp, wS_putOpL, wS_ast, wS_astL, wS_aop, wS_aopL, wS_ret, wS_retL, wS_retV, wS_do, wS_pop, wS_dead, wS_sw, wF_body, Nat.reduceAdd, Nat.zero_add, Bool.not_not, true_and, and_true, if_true, if_false, ↓reduceIte, eq_self, Value.int.injEq, Value.long.injEq, exists_eq_left', ik_b1, ik_b0, ik_bz0, ik_bz3, ik_bz3_1, ik_bz3_0, ik_cmp, ik_cmpL, ik_eI, ik_eL, ik_as, ik_i0, ik_i1, decide_eq_true_eq, decide_eq_false_iff_not, decide_true, decide_false, Bool.not_true, Bool.not_false, reduceCtorEq, forall_const, false_implies, true_implies, implies_true, true_and, and_true, and_self, false_and, and_false, Bool.and_true, Bool.true_and, not_true_eq_false, not_false_eq_true, if_true, if_false, ite_true, ite_false, ik_bz3_0, ik_bz3_1, ik_bz0, i64_n20, i64_n1, l64_0, l64_1, l64_2, l64_3, l64_7, l64_12, l64_19, l64_20, l64_23, l64_24, l64_26, l64_29, l64_40, l64_50, l64_60, l64_63, l64_100, l64_160, l64_199, l64_255, l64_1000, l64_3000, l64_5000, l64_9999, l64_m1, l64_m20, w_lies, c1, c2]
      refine loop _ _ (fun h => ?_) (fun h s1 s2 k1 k2 k3 => ?_) _ _ (by simp [upd, ik_eI]) (by simp [upd, ik_eI]) (by simp [upd]) (by simp [upd]) (by simp [upd])
      · simp (decide := true) only [h, ik_i0, ik_i1, decide_eq_true_eq, decide_eq_false_iff_not, decide_true, decide_false, Bool.not_true, Bool.not_false, reduceCtorEq, forall_const, false_implies, true_implies, implies_true, true_and, and_true, and_self, false_and, and_false, Bool.and_true, Bool.true_and, not_true_eq_false, not_false_eq_true, if_true, if_false, ite_true, ite_false, ik_bz3_0, ik_bz3_1, ik_bz0, true_or]
      · simp (decide := true) only [wE_lit, wL_lit, wE_loc, wL_loc, wE_add, wE_sub, wE_mul, wE_and, wE_or, wE_xor, wE_shl, wE_shr, wE_ushr, wE_div, wE_rem, wE_neg, wE_i2b, wE_l2i, wL_i2l, wL_add, wL_mul, wE_fld, wL_fld, wE_arr, wL_arr, wC_cmp, wC_cmp0, wC_cmpL, wC_and, wC_or, wC_not, wC_ite, wL_ite, wA_nil, wA_int, wA_long, wE_call, wL_call, wS_skip, wS_seq, wS_set, wS_setL, wS_inc, wS_if, wS_put, wS_putL, wS_putOp, wS_putOpL, wS_ast, wS_astL, wS_aop, wS_aopL, wS_ret, wS_retL, wS_retV, wS_do, wS_pop, wS_dead, wS_sw, wF_body, Nat.reduceAdd, Nat.zero_add, Bool.not_not, true_and, and_true, if_true, if_false, ↓reduceIte, eq_self, Value.int.injEq, Value.long.injEq, exists_eq_left', ik_b1, ik_b0, ik_bz0, ik_bz3, ik_bz3_1, ik_bz3_0, ik_cmp, ik_cmpL, ik_eI, ik_eL, ik_as, wE_ite, k1, k2, k3, h]
        cases c4 : ik_any (ik_gts m n) S
        · rw [ik_high_no (ik_any_off c4)]
          simp (decide := true)
        · obtain ⟨t, g1, g2, g3⟩ := ik_any_first c4
          rw [ik_high_at (by omega) g2 g3 g1]
          by_cases c5 : w = 0 <;> simp (decide := true) [c5, nI_m1 (show t < 2 ^ 31 by omega)]
  · refine ⟨.int (-1), x, m, eq_of_wF ?_, eq_of_wF ?_, h0⟩
    · have e2 : ¬ n ≤ 40 → ik_any (ik_gts m n) S = false := by
        intro h2
        refine ik_any_no fun t ht => ?_
        have h3 := (n1 t ht).2.2
        unfold ik_gts
        rw [decide_eq_false_iff_not]
        intro h4
        exact h2 (Int32.le_of_lt (Int32.lt_of_lt_of_le h4 h3))
      unfold fX11_missing
      simp (decide := true) only [wE_lit, wL_lit, wE_loc, wL_loc, wE_add, wE_sub, wE_mul, wE_and, wE_or, wE_xor, wE_shl, wE_shr, wE_ushr, wE_div, wE_rem, wE_neg, wE_i2b, wE_l2i, wL_i2l, wL_add, wL_mul, wE_fld, wL_fld, wE_arr, wL_arr, wC_cmp, wC_cmp0, wC_cmpL, wC_and, wC_or, wC_not, wC_ite, wL_ite, wA_nil, wA_int, wA_long, wE_call, wL_call, wS_skip, wS_seq, wS_set, wS_setL, wS_inc, wS_if, wS_put, wS_putL, wS_putOp, wS_putOpL, wS_ast, wS_astL, wS_aop, wS_aopL, wS_ret, wS_retL, wS_retV, wS_do, wS_pop, wS_dead, wS_sw, wF_body, Nat.reduceAdd, Nat.zero_add, Bool.not_not, true_and, and_true, if_true, if_false, ↓reduceIte, eq_self, Value.int.injEq, Value.long.injEq, exists_eq_left', ik_b1, ik_b0, ik_bz0, ik_bz3, ik_bz3_1, ik_bz3_0, ik_cmp, ik_cmpL, ik_eI, ik_eL, ik_as, wE_ite, w_within, f1, f2, f3, e1]
      by_cases h1 : 1 ≤ n <;> by_cases h2 : n ≤ 40 <;> by_cases h3 : 0 ≤ w ∧ w ≤ 1 <;> first | exact absurd (And.intro (And.intro h1 h2) h3) hc | (cases c3 : ik_any (ik_eqs m n) S <;> simp (decide := true) [h1, h3, e2 h2, ik_b2]; done) | simp (decide := true) only [h1, h3, ik_i0, ik_i1, decide_eq_true_eq, decide_eq_false_iff_not, decide_true, decide_false, Bool.not_true, Bool.not_false, reduceCtorEq, forall_const, false_implies, true_implies, implies_true, true_and, and_true, and_self, false_and, and_false, Bool.and_true, Bool.true_and, not_true_eq_false, not_false_eq_true, if_true, if_false, ite_true, ite_false, ik_bz3_0, ik_bz3_1, ik_bz0]
    · unfold fX12_missing
      simp (decide := true) only [wE_lit, wL_lit, wE_loc, wL_loc, wE_add, wE_sub, wE_mul, wE_and, wE_or, wE_xor, wE_shl, wE_shr, wE_ushr, wE_div, wE_rem, wE_neg, wE_i2b, wE_l2i, wL_i2l, wL_add, wL_mul, wE_fld, wL_fld, wE_arr, wL_arr, wC_cmp, wC_cmp0, wC_cmpL, wC_and, wC_or, wC_not, wC_ite, wL_ite, wA_nil, wA_int, wA_long, wE_call, wL_call, wS_skip, wS_seq, wS_set, wS_setL, wS_inc, wS_if, wS_put, wS_putL, wS_putOp, wS_putOpL, wS_ast, wS_astL, wS_aop, wS_aopL, wS_ret, wS_retL, wS_retV, wS_do, wS_pop, wS_dead, wS_sw, wF_body, Nat.reduceAdd, Nat.zero_add, Bool.not_not, true_and, and_true, if_true, if_false, ↓reduceIte, eq_self, Value.int.injEq, Value.long.injEq, exists_eq_left', ik_b1, ik_b0, ik_bz0, ik_bz3, ik_bz3_1, ik_bz3_0, ik_cmp, ik_cmpL, ik_eI, ik_eL, ik_as, i64_n20, i64_n1, l64_0, l64_1, l64_2, l64_3, l64_7, l64_12, l64_19, l64_20, l64_23, l64_24, l64_26, l64_29, l64_40, l64_50, l64_60, l64_63, l64_100, l64_160, l64_199, l64_255, l64_1000, l64_3000, l64_5000, l64_9999, l64_m1, l64_m20, w_lies]
      by_cases h1 : 1 ≤ n ∧ n ≤ 40 <;> by_cases h2 : 0 ≤ w ∧ w ≤ 1 <;> first | exact absurd (And.intro h1 h2) hc | simp (decide := true) only [h1, h2, ik_i0, ik_i1, decide_eq_true_eq, decide_eq_false_iff_not, decide_true, decide_false, Bool.not_true, Bool.not_false, reduceCtorEq, forall_const, false_implies, true_implies, implies_true, true_and, and_true, and_self, false_and, and_false, Bool.and_true, Bool.true_and, not_true_eq_false, not_false_eq_true, if_true, if_false, ite_true, ite_false, ik_bz3_0, ik_bz3_1, ik_bz0]
