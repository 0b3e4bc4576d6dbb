/-! how wide a name is -/
def ik_wd (w j : Nat → Int32) (c : Nat → Nat) : Nat → Int32 × Nat
  | 0 => (0, 0)
  | n + 1 => ((ik_wd w j c n).1 + (w (c n) + j (27 * (ik_wd w j c n).2 + c n)), c n)
theorem ik_wd_2 {w j : Nat → Int32} {c : Nat → Nat} : ∀ {n : Nat}, (∀ k, k < n → c k ≤ 26) → (ik_wd w j c n).2 ≤ 26
  | 0, _ => Nat.zero_le _
  | n + 1, h => h n (by omega)
theorem ik_wd_congr {w j w' j' : Nat → Int32} {c : Nat → Nat} (hw : ∀ k, k < 27 → w k = w' k) (hj : ∀ k, k < 729 → j k = j' k) : ∀ {n : Nat}, (∀ k, k < n → c k ≤ 26) → ik_wd w j c n = ik_wd w' j' c n
  | 0, _ => rfl
  | n + 1, h => by
    have h1 := ik_wd_congr (c := c) hw hj (n := n) (fun k hk => h k (by omega))
    have h2 := h n (by omega)
    have h3 := ik_wd_2 (w := w') (j := j') (c := c) (n := n) (fun k hk => h k (by omega))
    unfold ik_wd
    rw [h1, hw _ (by omega), hj _ (by omega)]
/-- the letters of name i of the reference, as numbers -/
def ik_ct (m : GG) (i : Nat) : Nat → Nat := fun k => (m.1 4 (12 * i + k)).toInt.toNat - 96
def ik_nw (m : GG) (i : Nat) : Int32 := (ik_wd (m.1 2) (m.1 3) (ik_ct m i) (m.1 5 i).toInt.toNat).1
theorem ik_c97 (c : Nat) : nI (c + 96) - 97 + 1 = nI c := by
  rw [← nI_add, Int32.sub_eq_add_neg, Int32.add_assoc, Int32.add_assoc, show nI 96 + (-97 + 1) = 0 from rfl, Int32.add_zero]
theorem w_wideOfM {x m : GG} {N : Nat} (h : rN x m N) {i : Nat} (hi : i < N) (Q : Value → GG → Prop) : wF fX12_wideOf [.int (nI i)] m Q ↔ Q (.int (ik_nw m i)) m := by
  refine wF_eq (eq_of_wF ?_) Q
  have hN := h.1
  obtain ⟨⟨n, k1, k2, e1, e2, e3⟩, -⟩ := h.2.2.2.2.1 i hi
  have en : (m.1 5 i).toInt.toNat = n := by rw [e2, nI_toInt (by omega)]; simp
  have ec : ∀ k, k < n → ∃ c, 1 ≤ c ∧ c ≤ 26 ∧ ik_ct m i k = c ∧ m.1 4 (12 * i + k) = nI (c + 96) := by
    intro k hk
    obtain ⟨c, g1, g2, g3, g4⟩ := e3 k hk
    simp only at g3 g4
    refine ⟨c, g1, g2, ?_, g4⟩
    unfold ik_ct
    rw [g4, nI_toInt (by omega)]
    omega
  have ew : ik_nw m i = (ik_wd (m.1 2) (m.1 3) (ik_ct m i) n).1 := by unfold ik_nw; rw [en]
  rw [ew]
  unfold fX12_wideOf
  simp (decide := true) only [wE_lit, wL_lit, wE_loc, wL_loc, wE_add, wE_sub, wE_mul, wE_and, wE_or, wE_xor, wE_shl, wE_shr, wE_ushr, wE_div, wE_rem, wE_neg, wE_i2b, wE_l2i, wL_i2l, wL_add, wL_mul, wE_fld, wL_fld, wE_arr, wL_arr, wC_cmp, wC_cmp0, wC_cmpL, wC_and, wC_or, wC_not, wC_ite, wL_ite, wA_nil, wA_int, wA_long, wE_call, wL_call, wS_skip, wS_seq, wS_set, wS_setL, wS_inc, wS_if, wS_put, wS_putL, wS_putOp, wS_putOpL, wS_ast, wS_astL, wS_aop, wS_aopL, wS_ret, wS_retL, wS_retV, wS_do, wS_pop, wS_dead, wS_sw, wF_body, Nat.reduceAdd, Nat.zero_add, Bool.not_not, true_and, and_true, if_true, if_false, ↓reduceIte, eq_self, Value.int.injEq, Value.long.injEq, exists_eq_left', ik_b1, ik_b0, ik_bz0, ik_bz3, ik_bz3_1, ik_bz3_0, ik_cmp, ik_cmpL, ik_eI, ik_eL, ik_as, ik_i0, ik_i1, decide_eq_true_eq, decide_eq_false_iff_not, decide_true, decide_false, Bool.not_true, Bool.not_false, reduceCtorEq, forall_const, false_implies, true_implies, implies_true, true_and, and_true, and_self, false_and, and_false, Bool.and_true, Bool.true_and, not_true_eq_false, not_false_eq_true, if_true, if_false, ite_true, ite_false, ik_bz3_0, ik_bz3_1, ik_bz0]
  refine wS_for _ _ (fun t σ => σ.1 4 = nI t ∧ σ.1 1 = nI i ∧ σ.1 2 = (ik_wd (m.1 2) (m.1 3) (ik_ct m i) t).1 ∧ σ.1 3 = nI (ik_wd (m.1 2) (m.1 3) (ik_ct m i) t).2 ∧ σ.2.2 = m) 0 n _ (by simp [upd, ik_eI, nI_0, ik_wd]) (by omega) (by omega) ?_ ?_ ?_
  · rintro t ⟨s1, s2, s3⟩ h1 ⟨h2, h3, h4, h5, h6⟩
    simp only at h2 h3 h4 h5 h6
    subst h6
    simp (decide := true) only [wE_lit, wL_lit, wE_loc, wL_loc, wE_add, wE_sub, wE_mul, wE_and, wE_or, wE_xor, wE_shl, wE_shr, wE_ushr, wE_div, wE_rem, wE_neg, wE_i2b, wE_l2i, wL_i2l, wL_add, wL_mul, wE_fld, wL_fld, wE_arr, wL_arr, wC_cmp, wC_cmp0, wC_cmpL, wC_and, wC_or, wC_not, wC_ite, wL_ite, wA_nil, wA_int, wA_long, wE_call, wL_call, wS_skip, wS_seq, wS_set, wS_setL, wS_inc, wS_if, wS_put, wS_putL, wS_putOp, wS_putOpL, wS_ast, wS_astL, wS_aop, wS_aopL, wS_ret, wS_retL, wS_retV, wS_do, wS_pop, wS_dead, wS_sw, wF_body, Nat.reduceAdd, Nat.zero_add, Bool.not_not, true_and, and_true, if_true, if_false, ↓reduceIte, eq_self, Value.int.injEq, Value.long.injEq, exists_eq_left', ik_b1, ik_b0, ik_bz0, ik_bz3, ik_bz3_1, ik_bz3_0, ik_cmp, ik_cmpL, ik_eI, ik_eL, ik_as, ik_i0, ik_i1, decide_eq_true_eq, decide_eq_false_iff_not, decide_true, decide_false, Bool.not_true, Bool.not_false, reduceCtorEq, forall_const, false_implies, true_implies, implies_true, true_and, and_true, and_self, false_and, and_false, Bool.and_true, Bool.true_and, not_true_eq_false, not_false_eq_true, if_true, if_false, ite_true, ite_false, ik_bz3_0, ik_bz3_1, ik_bz0, h2, h3, ik_ix_nI (show i < 24 by omega) (by omega), Option.some.injEq, e2, nI_ltI (show t < 2 ^ 31 by omega) (show n < 2 ^ 31 by omega)]
  · rintro t ⟨s1, s2, s3⟩ h1 ⟨h2, h3, h4, h5, h6⟩
    simp only at h2 h3 h4 h5 h6
    subst h6
    obtain ⟨c, g1, g2, g3, g4⟩ := ec t h1
    have q := ik_wd_2 (w := s3.1 2) (j := s3.1 3) (c := ik_ct s3 i) (n := t) (fun k hk => by obtain ⟨c, a1, a2, a3, a4⟩ := ec k (by omega); omega)
    have ex : ik_wd (s3.1 2) (s3.1 3) (ik_ct s3 i) (t + 1) = ((ik_wd (s3.1 2) (s3.1 3) (ik_ct s3 i) t).1 + (s3.1 2 c + s3.1 3 (27 * (ik_wd (s3.1 2) (s3.1 3) (ik_ct s3 i) t).2 + c)), c) := by
      show (_, ik_ct s3 i t) = _
      rw [g3]
    rw [ex]
    generalize ik_wd (s3.1 2) (s3.1 3) (ik_ct s3 i) t = p at *
    simp (decide := true) only [wE_lit, wL_lit, wE_loc, wL_loc, wE_add, wE_sub, wE_mul, wE_and, wE_or, wE_xor, wE_shl, wE_shr, wE_ushr, wE_div, wE_rem, wE_neg, wE_i2b, wE_l2i, wL_i2l, wL_add, wL_mul, wE_fld, wL_fld, wE_arr, wL_arr, wC_cmp, wC_cmp0, wC_cmpL, wC_and, wC_or, wC_not, wC_ite, wL_ite, wA_nil, wA_int, wA_long, wE_call, wL_call, wS_skip, wS_seq, wS_set, wS_setL, wS_inc, wS_if, wS_put, wS_putL, wS_putOp, wS_putOpL, wS_ast, wS_astL, wS_aop, wS_aopL, wS_ret, wS_retL, wS_retV, wS_do, wS_pop, wS_dead, wS_sw, wF_body, Nat.reduceAdd, Nat.zero_add, Bool.not_not, true_and, and_true, if_true, if_false, ↓reduceIte, eq_self, Value.int.injEq, Value.long.injEq, exists_eq_left', ik_b1, ik_b0, ik_bz0, ik_bz3, ik_bz3_1, ik_bz3_0, ik_cmp, ik_cmpL, ik_eI, ik_eL, ik_as, ik_i0, ik_i1, decide_eq_true_eq, decide_eq_false_iff_not, decide_true, decide_false, Bool.not_true, Bool.not_false, reduceCtorEq, forall_const, false_implies, true_implies, implies_true, true_and, and_true, and_self, false_and, and_false, Bool.and_true, Bool.true_and, not_true_eq_false, not_false_eq_true, if_true, if_false, ite_true, ite_false, ik_bz3_0, ik_bz3_1, ik_bz0, h2, h3, h4, h5, show (12 : Int32) = nI 12 from rfl, show (27 : Int32) = nI 27 from rfl, pk_mul, nI_add, ik_ix_nI (show 12 * i + t < 288 by omega) (by omega), Option.some.injEq, g4, ik_c97, upd_at, upd_off, ik_ix_nI (show c < 27 by omega) (by omega), ik_ix_nI (show 27 * p.2 + c < 729 by omega) (by omega), nI_1]
  · rintro ⟨s1, s2, s3⟩ ⟨h2, h3, h4, h5, h6⟩
    simp only at h2 h3 h4 h5 h6
    subst h6
    simp (decide := true) only [wE_lit, wL_lit, wE_loc, wL_loc, wE_add, wE_sub, wE_mul, wE_and, wE_or, wE_xor, wE_shl, wE_shr, wE_ushr, wE_div, wE_rem, wE_neg, wE_i2b, wE_l2i, wL_i2l, wL_add, wL_mul, wE_fld, wL_fld, wE_arr, wL_arr, wC_cmp, wC_cmp0, wC_cmpL, wC_and, wC_or, wC_not, wC_ite, wL_ite, wA_nil, wA_int, wA_long, wE_call, wL_call, wS_skip, wS_seq, wS_set, wS_setL, wS_inc, wS_if, wS_put, wS_putL, wS_putOp, wS_putOpL, wS_ast, wS_astL, wS_aop, wS_aopL, wS_ret, wS_retL, wS_retV, wS_do, wS_pop, wS_dead, wS_sw, wF_body, Nat.reduceAdd, Nat.zero_add, Bool.not_not, true_and, and_true, if_true, if_false, ↓reduceIte, eq_self, Value.int.injEq, Value.long.injEq, exists_eq_left', ik_b1, ik_b0, ik_bz0, ik_bz3, ik_bz3_1, ik_bz3_0, ik_cmp, ik_cmpL, ik_eI, ik_eL, ik_as, ik_i0, ik_i1, decide_eq_true_eq, decide_eq_false_iff_not, decide_true, decide_false, Bool.not_true, Bool.not_false, reduceCtorEq, forall_const, false_implies, true_implies, implies_true, true_and, and_true, and_self, false_and, and_false, Bool.and_true, Bool.true_and, not_true_eq_false, not_false_eq_true, if_true, if_false, ite_true, ite_false, ik_bz3_0, ik_bz3_1, ik_bz0, h4]
theorem w_letter7 {x m : GG} {N : Nat} (h : rN x m N) {i n k : Nat} (hi : i < N) (hn : n ≤ 12) (en : x.1 9 i = nI n) (hk : k < n) (Q : Value → GG → Prop) : wF fX10_letter_7 [.int (nI i), .int (nI k)] x Q ↔ Q (.int (x.1 8 (12 * i + k))) x := by
  refine wF_eq (eq_of_wF ?_) Q
  have hN := h.1
  have p1 := nI_pos' (n := i) (by omega)
  have p2 := nI_lt (show i < 24 by omega) (by omega)
  have p3 := nI_pos' (n := k) (by omega)
  have p4 := nI_lt (show k < 12 by omega) (by omega)
  have p5 := nI_lt hk (by omega)
  have e0 : x.1 7 0 = nI 24 := h.2.2.2.1
  unfold fX10_letter_7
  simp (decide := true) only [wE_lit, wL_lit, wE_loc, wL_loc, wE_add, wE_sub, wE_mul, wE_and, wE_or, wE_xor, wE_shl, wE_shr, wE_ushr, wE_div, wE_rem, wE_neg, wE_i2b, wE_l2i, wL_i2l, wL_add, wL_mul, wE_fld, wL_fld, wE_arr, wL_arr, wC_cmp, wC_cmp0, wC_cmpL, wC_and, wC_or, wC_not, wC_ite, wL_ite, wA_nil, wA_int, wA_long, wE_call, wL_call, wS_skip, wS_seq, wS_set, wS_setL, wS_inc, wS_if, wS_put, wS_putL, wS_putOp, wS_putOpL, wS_ast, wS_astL, wS_aop, wS_aopL, wS_ret, wS_retL, wS_retV, wS_do, wS_pop, wS_dead, wS_sw, wF_body, Nat.reduceAdd, Nat.zero_add, Bool.not_not, true_and, and_true, if_true, if_false, ↓reduceIte, eq_self, Value.int.injEq, Value.long.injEq, exists_eq_left', ik_b1, ik_b0, ik_bz0, ik_bz3, ik_bz3_1, ik_bz3_0, ik_cmp, ik_cmpL, ik_eI, ik_eL, ik_as, ik_i0, ik_i1, decide_eq_true_eq, decide_eq_false_iff_not, decide_true, decide_false, Bool.not_true, Bool.not_false, reduceCtorEq, forall_const, false_implies, true_implies, implies_true, true_and, and_true, and_self, false_and, and_false, Bool.and_true, Bool.true_and, not_true_eq_false, not_false_eq_true, if_true, if_false, ite_true, ite_false, ik_bz3_0, ik_bz3_1, ik_bz0, wE_ite, e0, show (12 : Int32) = nI 12 from rfl, p1, p2, p3, p4, p5, en, upd_at, upd_off, ik_ix_nI (show i < 24 by omega) (by omega), Option.some.injEq, pk_mul, nI_add, show i * 12 + k = 12 * i + k by omega, ik_ix_nI (show 12 * i + k < 288 by omega) (by omega)]
theorem w_length7 {x m : GG} {N : Nat} (h : rN x m N) {i : Nat} (hi : i < N) (Q : Value → GG → Prop) : wF fX10_length_7 [.int (nI i)] x Q ↔ Q (.int (x.1 9 i)) x := by
  refine wF_eq (eq_of_wF ?_) Q
  have hN := h.1
  have p1 := nI_pos' (n := i) (by omega)
  have p2 := nI_lt (show i < 24 by omega) (by omega)
  have e0 : x.1 7 0 = nI 24 := h.2.2.2.1
  unfold fX10_length_7
  simp (decide := true) only [wE_lit, wL_lit, wE_loc, wL_loc, wE_add, wE_sub, wE_mul, wE_and, wE_or, wE_xor, wE_shl, wE_shr, wE_ushr, wE_div, wE_rem, wE_neg, wE_i2b, wE_l2i, wL_i2l, wL_add, wL_mul, wE_fld, wL_fld, wE_arr, wL_arr, wC_cmp, wC_cmp0, wC_cmpL, wC_and, wC_or, wC_not, wC_ite, wL_ite, wA_nil, wA_int, wA_long, wE_call, wL_call, wS_skip, wS_seq, wS_set, wS_setL, wS_inc, wS_if, wS_put, wS_putL, wS_putOp, wS_putOpL, wS_ast, wS_astL, wS_aop, wS_aopL, wS_ret, wS_retL, wS_retV, wS_do, wS_pop, wS_dead, wS_sw, wF_body, Nat.reduceAdd, Nat.zero_add, Bool.not_not, true_and, and_true, if_true, if_false, ↓reduceIte, eq_self, Value.int.injEq, Value.long.injEq, exists_eq_left', ik_b1, ik_b0, ik_bz0, ik_bz3, ik_bz3_1, ik_bz3_0, ik_cmp, ik_cmpL, ik_eI, ik_eL, ik_as, ik_i0, ik_i1, decide_eq_true_eq, decide_eq_false_iff_not, decide_true, decide_false, Bool.not_true, Bool.not_false, reduceCtorEq, forall_const, false_implies, true_implies, implies_true, true_and, and_true, and_self, false_and, and_false, Bool.and_true, Bool.true_and, not_true_eq_false, not_false_eq_true, if_true, if_false, ite_true, ite_false, ik_bz3_0, ik_bz3_1, ik_bz0, wE_ite, e0, p1, p2, ik_ix_nI (show i < 24 by omega) (by omega), Option.some.injEq]
theorem w_wideOf4 {g : GG} {c : Nat} (hc : c < 27) (Q : Value → GG → Prop) : wF fX4_wideOf [.int (nI c)] g Q ↔ Q (.int (g.1 4 c)) g := by
  refine wF_eq (eq_of_wF ?_) Q
  have p1 := nI_pos' (n := c) (by omega)
  have p2 := nI_lt hc (by omega)
  unfold fX4_wideOf
  simp (decide := true) only [wE_lit, wL_lit, wE_loc, wL_loc, wE_add, wE_sub, wE_mul, wE_and, wE_or, wE_xor, wE_shl, wE_shr, wE_ushr, wE_div, wE_rem, wE_neg, wE_i2b, wE_l2i, wL_i2l, wL_add, wL_mul, wE_fld, wL_fld, wE_arr, wL_arr, wC_cmp, wC_cmp0, wC_cmpL, wC_and, wC_or, wC_not, wC_ite, wL_ite, wA_nil, wA_int, wA_long, wE_call, wL_call, wS_skip, wS_seq, wS_set, wS_setL, wS_inc, wS_if, wS_put, wS_putL, wS_putOp, wS_putOpL, wS_ast, wS_astL, wS_aop, wS_aopL, wS_ret, wS_retL, wS_retV, wS_do, wS_pop, wS_dead, wS_sw, wF_body, Nat.reduceAdd, Nat.zero_add, Bool.not_not, true_and, and_true, if_true, if_false, ↓reduceIte, eq_self, Value.int.injEq, Value.long.injEq, exists_eq_left', ik_b1, ik_b0, ik_bz0, ik_bz3, ik_bz3_1, ik_bz3_0, ik_cmp, ik_cmpL, ik_eI, ik_eL, ik_as, ik_i0, ik_i1, decide_eq_true_eq, decide_eq_false_iff_not, decide_true, decide_false, Bool.not_true, Bool.not_false, reduceCtorEq, forall_const, false_implies, true_implies, implies_true, true_and, and_true, and_self, false_and, and_false, Bool.and_true, Bool.true_and, not_true_eq_false, not_false_eq_true, if_true, if_false, ite_true, ite_false, ik_bz3_0, ik_bz3_1, ik_bz0, wE_ite, show (27 : Int32) = nI 27 from rfl, p1, p2, ik_ix_nI hc (by omega), Option.some.injEq]
theorem w_joinOf4 {g : GG} {a c : Nat} (ha : a < 27) (hc : c < 27) (Q : Value → GG → Prop) : wF fX4_joinOf [.int (nI a), .int (nI c)] g Q ↔ Q (.int (g.1 5 (27 * a + c))) g := by
  refine wF_eq (eq_of_wF ?_) Q
  have p1 := nI_pos' (n := c) (by omega)
  have p2 := nI_lt hc (by omega)
  have p3 := nI_pos' (n := a) (by omega)
  have p4 := nI_lt ha (by omega)
  unfold fX4_joinOf
  simp (decide := true) only [wE_lit, wL_lit, wE_loc, wL_loc, wE_add, wE_sub, wE_mul, wE_and, wE_or, wE_xor, wE_shl, wE_shr, wE_ushr, wE_div, wE_rem, wE_neg, wE_i2b, wE_l2i, wL_i2l, wL_add, wL_mul, wE_fld, wL_fld, wE_arr, wL_arr, wC_cmp, wC_cmp0, wC_cmpL, wC_and, wC_or, wC_not, wC_ite, wL_ite, wA_nil, wA_int, wA_long, wE_call, wL_call, wS_skip, wS_seq, wS_set, wS_setL, wS_inc, wS_if, wS_put, wS_putL, wS_putOp, wS_putOpL, wS_ast, wS_astL, wS_aop, wS_aopL, wS_ret, wS_retL, wS_retV, wS_do, wS_pop, wS_dead, wS_sw, wF_body, Nat.reduceAdd, Nat.zero_add, Bool.not_not, true_and, and_true, if_true, if_false, ↓reduceIte, eq_self, Value.int.injEq, Value.long.injEq, exists_eq_left', ik_b1, ik_b0, ik_bz0, ik_bz3, ik_bz3_1, ik_bz3_0, ik_cmp, ik_cmpL, ik_eI, ik_eL, ik_as, ik_i0, ik_i1, decide_eq_true_eq, decide_eq_false_iff_not, decide_true, decide_false, Bool.not_true, Bool.not_false, reduceCtorEq, forall_const, false_implies, true_implies, implies_true, true_and, and_true, and_self, false_and, and_false, Bool.and_true, Bool.true_and, not_true_eq_false, not_false_eq_true, if_true, if_false, ite_true, ite_false, ik_bz3_0, ik_bz3_1, ik_bz0, wE_ite, show (27 : Int32) = nI 27 from rfl, p1, p2, p3, p4, pk_mul, nI_add, show a * 27 + c = 27 * a + c by omega, ik_ix_nI (show 27 * a + c < 729 by omega) (by omega), Option.some.injEq]
