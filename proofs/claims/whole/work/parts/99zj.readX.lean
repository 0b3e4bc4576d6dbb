/-- the class reads a sheet -/
theorem w_readSX {g0 : GG} {B S N T : Nat} {c : Nat → Nat} (h26 : g0.1 26 0 = nI 144) (h25 : g0.1 25 7 = nI S) (hS : S < 6) (hB : B ≤ 4) (hN : N ≤ 160) (hT : T ≤ 400) (hNT : N ≤ T) (h11 : g0.1 1 1 = nI T) (hc : ∀ k, k < N → c k < 256 ∧ g0.1 2 k = nI (c k)) :
    wF fX8_read [.int (nI N), .int (nI B)] g0 (fun v g => fsX S g0 g ∧ ((∃ e, tEnd B c N = .inl e ∧ v = .int (nI e)) ∨ ∃ st brk n fr ln bg, tEnd B c N = .inr (st, brk, n, fr, ln, bg) ∧ TI B c N st brk n fr ln bg ∧ st ≠ 0 ∧ v = .int 0 ∧ CX S c n fr ln bg g)) := by
  unfold fX8_read
  simp (decide := true) only [wE_lit, wL_lit, wE_loc, wL_loc, wE_add, wE_sub, wE_mul, wE_and, wE_or, wE_xor, wE_shl, wE_shr, wE_ushr, wE_div, wE_rem, wE_neg, wE_i2b, wE_l2i, wL_i2l, wL_add, wL_mul, wE_fld, wL_fld, wE_arr, wL_arr, wC_cmp, wC_cmp0, wC_cmpL, wC_and, wC_or, wC_not, wC_ite, wL_ite, wA_nil, wA_int, wA_long, wE_call, wL_call, wS_skip, wS_seq, wS_set, wS_setL, wS_inc, wS_if, wS_put, wS_putL, wS_putOp, wS_putOpL, wS_ast, wS_astL, wS_aop, wS_aopL, wS_ret, wS_retL, wS_retV, wS_do, wS_pop, wS_dead, wS_sw, wF_body, Nat.reduceAdd, Nat.zero_add, Bool.not_not, true_and, and_true, if_true, if_false, ↓reduceIte, eq_self, Value.int.injEq, Value.long.injEq, exists_eq_left', ik_b1, ik_b0, ik_bz0, ik_bz3, ik_bz3_1, ik_bz3_0, ik_cmp, ik_cmpL, ik_eI, ik_eL, ik_as, ik_i0, ik_i1, decide_eq_true_eq, decide_eq_false_iff_not, decide_true, decide_false, Bool.not_true, Bool.not_false, reduceCtorEq, forall_const, false_implies, true_implies, implies_true, true_and, and_true, and_self, false_and, and_false, Bool.and_true, Bool.true_and, not_true_eq_false, not_false_eq_true, if_true, if_false, ite_true, ite_false, ik_bz3_0, ik_bz3_1, ik_bz0]
  refine wS_for _ _ (fun p σ => ∃ st brk n fr ln bg, tr B c p = .inr (st, brk, n, fr, ln, bg) ∧ σ.1 6 = nI p ∧ σ.1 2 = nI N ∧ σ.1 3 = nI B ∧ σ.1 4 = nI st ∧ σ.1 5 = ik_b2 brk ∧ fsX S g0 σ.2.2 ∧ CX S c n fr ln bg σ.2.2) 0 N _ ⟨0, true, 0, fun _ => 0, fun _ => 0, fun _ => false, rfl, by simp [upd, nI_0], by simp [upd, ik_eI], by simp [upd, ik_eI], by simp [upd, nI_0], by simp [upd]; rfl, (fsX.rfl' S g0).si _ (by omega), ik_si_same _ _ _ _, fun t ht => by omega⟩ (by omega) (by omega) ?_ ?_ ?_
  · rintro p ⟨s1, s2, s3⟩ h1 ⟨st, brk, n, fr, ln, bg, h2, h3, h4, -⟩
    simp only at h3 h4
    simp (decide := true) only [wE_lit, wL_lit, wE_loc, wL_loc, wE_add, wE_sub, wE_mul, wE_and, wE_or, wE_xor, wE_shl, wE_shr, wE_ushr, wE_div, wE_rem, wE_neg, wE_i2b, wE_l2i, wL_i2l, wL_add, wL_mul, wE_fld, wL_fld, wE_arr, wL_arr, wC_cmp, wC_cmp0, wC_cmpL, wC_and, wC_or, wC_not, wC_ite, wL_ite, wA_nil, wA_int, wA_long, wE_call, wL_call, wS_skip, wS_seq, wS_set, wS_setL, wS_inc, wS_if, wS_put, wS_putL, wS_putOp, wS_putOpL, wS_ast, wS_astL, wS_aop, wS_aopL, wS_ret, wS_retL, wS_retV, wS_do, wS_pop, wS_dead, wS_sw, wF_body, Nat.reduceAdd, Nat.zero_add, Bool.not_not, true_and, and_true, if_true, if_false, ↓reduceIte, eq_self, Value.int.injEq, Value.long.injEq, exists_eq_left', ik_b1, ik_b0, ik_bz0, ik_bz3, ik_bz3_1, ik_bz3_0, ik_cmp, ik_cmpL, ik_eI, ik_eL, ik_as, ik_i0, ik_i1, decide_eq_true_eq, decide_eq_false_iff_not, decide_true, decide_false, Bool.not_true, Bool.not_false, reduceCtorEq, forall_const, false_implies, true_implies, implies_true, true_and, and_true, and_self, false_and, and_false, Bool.and_true, Bool.true_and, not_true_eq_false, not_false_eq_true, if_true, if_false, ite_true, ite_false, ik_bz3_0, ik_bz3_1, ik_bz0, h3, h4, nI_ltI (show p < 2 ^ 31 by omega) (show N < 2 ^ 31 by omega)]
  · rintro p ⟨s1, s2, s3⟩ h1 ⟨st, brk, n, fr, ln, bg, h2, h3, h4, h5, h6, h7, h8, h9⟩
    simp only at h3 h4 h5 h6 h7 h8 h9
    obtain ⟨i1, i2, i3, i4, i5, i6, i7, i8⟩ := tr_TI h2
    have l12 : ∀ t, t < n → ln t ≤ 12 := fun t ht => by
      rcases i6 t ht with ⟨-, -, z, -⟩ | ⟨-, -, z, -⟩ <;> omega
    obtain ⟨c1, c2⟩ := hc p h1
    have at' : ∀ Q : Value → GG → Prop, wF fX9_at [.int (nI p)] s3 Q ↔ Q (.int (nI (c p))) s3 := fun Q => by
      rw [w_at9 hT (by rw [h8.1 1 (by decide) (by decide) (by decide) (by decide) (by decide)]; exact h11) (show p < T by omega), h8.1 2 (by decide) (by decide) (by decide) (by decide) (by decide), c2]
    have k26 : s3.1 26 0 = nI 144 := by rw [h8.1 26 (by decide) (by decide) (by decide) (by decide) (by decide)]; exact h26
    have k25 : s3.1 25 7 = nI S := by rw [h8.2.1 7 (by decide)]; exact h25
    have le := w_letX c1 s3
    -- a fault: all ends there
    have flt : ∀ f, ts B (c p) p st brk n fr ln bg = .inl f → 1 ≤ f → f ≤ 4 → tEnd B c N = .inl (1000 * f + p) ∧ (nI f = 0) = False ∧ (1000 : Int32) * nI f + nI p = nI (1000 * f + p) := fun f e f1 f4 => ⟨tEnd_f h2 e h1, eq_false (fun z => by have := (nI_eq (by omega) (by omega)).mp (z.trans nI_0.symm); omega), by rw [show (1000 : Int32) = nI 1000 from rfl, pk_mul, nI_add]⟩
    have f1' : ∀ e' : Nat, tEnd B c N = .inl e' → ((∃ e, tEnd B c N = .inl e ∧ Value.int (nI e') = .int (nI e)) ∨ ∃ st brk n fr ln bg, tEnd B c N = .inr (st, brk, n, fr, ln, bg) ∧ TI B c N st brk n fr ln bg ∧ st ≠ 0 ∧ Value.int (nI e') = .int 0 ∧ CX S c n fr ln bg s3) := fun e' h => Or.inl ⟨e', h, rfl⟩
    by_cases s0 : st = 0
    · subst s0
      have h6' : s1 4 = 0 := h6
      rcases w_beginTok (p := p) k26 k25 hS hB c1 h8 h9 i1 l12 with ⟨f, e1, e2, e3, e4⟩ | ⟨l, e1, g', e2, e3, e4, e5, e6⟩
      · obtain ⟨z1, z2, z3⟩ := flt f e1 e2 e3
        have fin := f1' _ z1
        cases d : sg_let (c p) with
        | true =>
          rw [d] at le
          simp (decide := true) only [wE_lit, wL_lit, wE_loc, wL_loc, wE_add, wE_sub, wE_mul, wE_and, wE_or, wE_xor, wE_shl, wE_shr, wE_ushr, wE_div, wE_rem, wE_neg, wE_i2b, wE_l2i, wL_i2l, wL_add, wL_mul, wE_fld, wL_fld, wE_arr, wL_arr, wC_cmp, wC_cmp0, wC_cmpL, wC_and, wC_or, wC_not, wC_ite, wL_ite, wA_nil, wA_int, wA_long, wE_call, wL_call, wS_skip, wS_seq, wS_set, wS_setL, wS_inc, wS_if, wS_put, wS_putL, wS_putOp, wS_putOpL, wS_ast, wS_astL, wS_aop, wS_aopL, wS_ret, wS_retL, wS_retV, wS_do, wS_pop, wS_dead, wS_sw, wF_body, Nat.reduceAdd, Nat.zero_add, Bool.not_not, true_and, and_true, if_true, if_false, ↓reduceIte, eq_self, Value.int.injEq, Value.long.injEq, exists_eq_left', ik_b1, ik_b0, ik_bz0, ik_bz3, ik_bz3_1, ik_bz3_0, ik_cmp, ik_cmpL, ik_eI, ik_eL, ik_as, ik_i0, ik_i1, decide_eq_true_eq, decide_eq_false_iff_not, decide_true, decide_false, Bool.not_true, Bool.not_false, reduceCtorEq, forall_const, false_implies, true_implies, implies_true, true_and, and_true, and_self, false_and, and_false, Bool.and_true, Bool.true_and, not_true_eq_false, not_false_eq_true, if_true, if_false, ite_true, ite_false, ik_bz3_0, ik_bz3_1, ik_bz0, wE_ite, h3, h4, h5, h6', h7, at', e4, le, show ik_b2 true = 1 from rfl, upd_at, upd_off, z2, z3]
          exact ⟨h8, by simpa only [Value.int.injEq] using fin⟩
        | false =>
          rw [d] at le
          simp (decide := true) only [wE_lit, wL_lit, wE_loc, wL_loc, wE_add, wE_sub, wE_mul, wE_and, wE_or, wE_xor, wE_shl, wE_shr, wE_ushr, wE_div, wE_rem, wE_neg, wE_i2b, wE_l2i, wL_i2l, wL_add, wL_mul, wE_fld, wL_fld, wE_arr, wL_arr, wC_cmp, wC_cmp0, wC_cmpL, wC_and, wC_or, wC_not, wC_ite, wL_ite, wA_nil, wA_int, wA_long, wE_call, wL_call, wS_skip, wS_seq, wS_set, wS_setL, wS_inc, wS_if, wS_put, wS_putL, wS_putOp, wS_putOpL, wS_ast, wS_astL, wS_aop, wS_aopL, wS_ret, wS_retL, wS_retV, wS_do, wS_pop, wS_dead, wS_sw, wF_body, Nat.reduceAdd, Nat.zero_add, Bool.not_not, true_and, and_true, if_true, if_false, ↓reduceIte, eq_self, Value.int.injEq, Value.long.injEq, exists_eq_left', ik_b1, ik_b0, ik_bz0, ik_bz3, ik_bz3_1, ik_bz3_0, ik_cmp, ik_cmpL, ik_eI, ik_eL, ik_as, ik_i0, ik_i1, decide_eq_true_eq, decide_eq_false_iff_not, decide_true, decide_false, Bool.not_true, Bool.not_false, reduceCtorEq, forall_const, false_implies, true_implies, implies_true, true_and, and_true, and_self, false_and, and_false, Bool.and_true, Bool.true_and, not_true_eq_false, not_false_eq_true, if_true, if_false, ite_true, ite_false, ik_bz3_0, ik_bz3_1, ik_bz0, wE_ite, h3, h4, h5, h6', h7, at', e4, le, show ik_b2 false = 0 from rfl, upd_at, upd_off, z2, z3]
          exact ⟨h8, by simpa only [Value.int.injEq] using fin⟩
      · have nx := tr_n h2 e1
        have le' := w_letX c1 g'
        cases d : sg_let (c p) with
        | true =>
          rw [d] at le' nx
          simp (decide := true) only [wE_lit, wL_lit, wE_loc, wL_loc, wE_add, wE_sub, wE_mul, wE_and, wE_or, wE_xor, wE_shl, wE_shr, wE_ushr, wE_div, wE_rem, wE_neg, wE_i2b, wE_l2i, wL_i2l, wL_add, wL_mul, wE_fld, wL_fld, wE_arr, wL_arr, wC_cmp, wC_cmp0, wC_cmpL, wC_and, wC_or, wC_not, wC_ite, wL_ite, wA_nil, wA_int, wA_long, wE_call, wL_call, wS_skip, wS_seq, wS_set, wS_setL, wS_inc, wS_if, wS_put, wS_putL, wS_putOp, wS_putOpL, wS_ast, wS_astL, wS_aop, wS_aopL, wS_ret, wS_retL, wS_retV, wS_do, wS_pop, wS_dead, wS_sw, wF_body, Nat.reduceAdd, Nat.zero_add, Bool.not_not, true_and, and_true, if_true, if_false, ↓reduceIte, eq_self, Value.int.injEq, Value.long.injEq, exists_eq_left', ik_b1, ik_b0, ik_bz0, ik_bz3, ik_bz3_1, ik_bz3_0, ik_cmp, ik_cmpL, ik_eI, ik_eL, ik_as, ik_i0, ik_i1, decide_eq_true_eq, decide_eq_false_iff_not, decide_true, decide_false, Bool.not_true, Bool.not_false, reduceCtorEq, forall_const, false_implies, true_implies, implies_true, true_and, and_true, and_self, false_and, and_false, Bool.and_true, Bool.true_and, not_true_eq_false, not_false_eq_true, if_true, if_false, ite_true, ite_false, ik_bz3_0, ik_bz3_1, ik_bz0, wE_ite, h3, h4, h5, h6', h7, at', e6, le', show ik_b2 true = 1 from rfl, upd_at, upd_off, nI_1, nI_add]
          exact ⟨1, brk, n + 1, _, _, _, nx, rfl, rfl, e2, e3⟩
        | false =>
          rw [d] at le' nx
          simp (decide := true) only [wE_lit, wL_lit, wE_loc, wL_loc, wE_add, wE_sub, wE_mul, wE_and, wE_or, wE_xor, wE_shl, wE_shr, wE_ushr, wE_div, wE_rem, wE_neg, wE_i2b, wE_l2i, wL_i2l, wL_add, wL_mul, wE_fld, wL_fld, wE_arr, wL_arr, wC_cmp, wC_cmp0, wC_cmpL, wC_and, wC_or, wC_not, wC_ite, wL_ite, wA_nil, wA_int, wA_long, wE_call, wL_call, wS_skip, wS_seq, wS_set, wS_setL, wS_inc, wS_if, wS_put, wS_putL, wS_putOp, wS_putOpL, wS_ast, wS_astL, wS_aop, wS_aopL, wS_ret, wS_retL, wS_retV, wS_do, wS_pop, wS_dead, wS_sw, wF_body, Nat.reduceAdd, Nat.zero_add, Bool.not_not, true_and, and_true, if_true, if_false, ↓reduceIte, eq_self, Value.int.injEq, Value.long.injEq, exists_eq_left', ik_b1, ik_b0, ik_bz0, ik_bz3, ik_bz3_1, ik_bz3_0, ik_cmp, ik_cmpL, ik_eI, ik_eL, ik_as, ik_i0, ik_i1, decide_eq_true_eq, decide_eq_false_iff_not, decide_true, decide_false, Bool.not_true, Bool.not_false, reduceCtorEq, forall_const, false_implies, true_implies, implies_true, true_and, and_true, and_self, false_and, and_false, Bool.and_true, Bool.true_and, not_true_eq_false, not_false_eq_true, if_true, if_false, ite_true, ite_false, ik_bz3_0, ik_bz3_1, ik_bz0, wE_ite, h3, h4, h5, h6', h7, at', e6, le', show ik_b2 false = 0 from rfl, upd_at, upd_off, nI_1, nI_add]
          exact ⟨2, brk, n + 1, _, _, _, nx, rfl, rfl, e2, e3⟩
    · have n1 := i3 s0
      have s0' : (nI st = 0) = False := eq_false (fun z => s0 ((nI_eq (by omega) (by omega)).mp (z.trans nI_0.symm)))
      have q32 : (nI (c p) = 32) = (c p = 32) := propext (nI_eq (b := 32) (by omega) (by omega))
      have q47 : (nI (c p) = 47) = (c p = 47) := propext (nI_eq (b := 47) (by omega) (by omega))
      by_cases d1 : c p = 32
      · have e1 : ts B (c p) p st brk n fr ln bg = .inr (0, false, n, fr, ln, bg) := by
          unfold ts
          rw [if_neg s0, if_pos (Or.inl d1), decide_eq_false (show ¬ c p = 47 by omega)]
        have nx := tr_n h2 e1
        have d1' := eq_true d1
        have d2' : (c p = 47) = False := eq_false (by omega)
        simp (decide := true) only [wE_lit, wL_lit, wE_loc, wL_loc, wE_add, wE_sub, wE_mul, wE_and, wE_or, wE_xor, wE_shl, wE_shr, wE_ushr, wE_div, wE_rem, wE_neg, wE_i2b, wE_l2i, wL_i2l, wL_add, wL_mul, wE_fld, wL_fld, wE_arr, wL_arr, wC_cmp, wC_cmp0, wC_cmpL, wC_and, wC_or, wC_not, wC_ite, wL_ite, wA_nil, wA_int, wA_long, wE_call, wL_call, wS_skip, wS_seq, wS_set, wS_setL, wS_inc, wS_if, wS_put, wS_putL, wS_putOp, wS_putOpL, wS_ast, wS_astL, wS_aop, wS_aopL, wS_ret, wS_retL, wS_retV, wS_do, wS_pop, wS_dead, wS_sw, wF_body, Nat.reduceAdd, Nat.zero_add, Bool.not_not, true_and, and_true, if_true, if_false, ↓reduceIte, eq_self, Value.int.injEq, Value.long.injEq, exists_eq_left', ik_b1, ik_b0, ik_bz0, ik_bz3, ik_bz3_1, ik_bz3_0, ik_cmp, ik_cmpL, ik_eI, ik_eL, ik_as, ik_i0, ik_i1, decide_eq_true_eq, decide_eq_false_iff_not, decide_true, decide_false, Bool.not_true, Bool.not_false, reduceCtorEq, forall_const, false_implies, true_implies, implies_true, true_and, and_true, and_self, false_and, and_false, Bool.and_true, Bool.true_and, not_true_eq_false, not_false_eq_true, if_true, if_false, ite_true, ite_false, ik_bz3_0, ik_bz3_1, ik_bz0, wE_ite, h3, h4, h5, h6, s0', h7, at', q32, q47, d1', d2', upd_at, upd_off, nI_1, nI_add]
        exact ⟨0, false, n, fr, ln, bg, nx, rfl, rfl, h8, h9⟩
      · by_cases d2 : c p = 47
        · have e1 : ts B (c p) p st brk n fr ln bg = .inr (0, true, n, fr, ln, bg) := by
            unfold ts
            rw [if_neg s0, if_pos (Or.inr d2), decide_eq_true d2]
          have nx := tr_n h2 e1
          have d1' := eq_false d1
          have d2' := eq_true d2
          simp (decide := true) only [wE_lit, wL_lit, wE_loc, wL_loc, wE_add, wE_sub, wE_mul, wE_and, wE_or, wE_xor, wE_shl, wE_shr, wE_ushr, wE_div, wE_rem, wE_neg, wE_i2b, wE_l2i, wL_i2l, wL_add, wL_mul, wE_fld, wL_fld, wE_arr, wL_arr, wC_cmp, wC_cmp0, wC_cmpL, wC_and, wC_or, wC_not, wC_ite, wL_ite, wA_nil, wA_int, wA_long, wE_call, wL_call, wS_skip, wS_seq, wS_set, wS_setL, wS_inc, wS_if, wS_put, wS_putL, wS_putOp, wS_putOpL, wS_ast, wS_astL, wS_aop, wS_aopL, wS_ret, wS_retL, wS_retV, wS_do, wS_pop, wS_dead, wS_sw, wF_body, Nat.reduceAdd, Nat.zero_add, Bool.not_not, true_and, and_true, if_true, if_false, ↓reduceIte, eq_self, Value.int.injEq, Value.long.injEq, exists_eq_left', ik_b1, ik_b0, ik_bz0, ik_bz3, ik_bz3_1, ik_bz3_0, ik_cmp, ik_cmpL, ik_eI, ik_eL, ik_as, ik_i0, ik_i1, decide_eq_true_eq, decide_eq_false_iff_not, decide_true, decide_false, Bool.not_true, Bool.not_false, reduceCtorEq, forall_const, false_implies, true_implies, implies_true, true_and, and_true, and_self, false_and, and_false, Bool.and_true, Bool.true_and, not_true_eq_false, not_false_eq_true, if_true, if_false, ite_true, ite_false, ik_bz3_0, ik_bz3_1, ik_bz0, wE_ite, h3, h4, h5, h6, s0', h7, at', q32, q47, d1', d2', upd_at, upd_off, nI_1, nI_add]
          exact ⟨0, true, n, fr, ln, bg, nx, rfl, rfl, h8, h9⟩
        · have d1' := eq_false d1
          have d2' := eq_false d2
          have nsep : ¬ (c p = 32 ∨ c p = 47) := fun z => z.elim d1 d2
          have st1 : (nI st = 1) = (st = 1) := propext (nI_eq (b := 1) (by omega) (by omega))
          by_cases d3 : st = 1
          · subst d3
            have h6' : s1 4 = 1 := h6
            cases d4 : sg_let (c p) with
            | true =>
              rw [d4] at le
              have lg := let_ge d4
              obtain ⟨j1, j2⟩ := i7 rfl
              have sl := w_slot S (n - 1) s3
              have k258 : s3.1 25 8 = nI (n - 1 + 1) := by rw [show n - 1 + 1 = n by omega]; exact h9.1
              obtain ⟨y1, y2, y3, y4⟩ := h9.2 (n - 1) (by omega)
              have ll := l12 (n - 1) (by omega)
              by_cases d5 : 12 ≤ ln (n - 1)
              · have e1 : ts B (c p) p 1 brk n fr ln bg = .inl 2 := by
                  unfold ts
                  rw [if_neg (by decide), if_neg nsep, if_pos ⟨rfl, d4⟩, if_pos d5]
                obtain ⟨z1, z2, z3⟩ := flt 2 e1 (by omega) (by omega)
                have z3' : (1000 : Int32) * 2 + nI p = nI (1000 * 2 + p) := z3
                have gr := w_grow26n k26 (show 24 * S + (n - 1) < 144 by omega) (by rw [y2, show ln (n - 1) = 12 by omega]) (nI (c p - 96))
                have fin := f1' _ z1
                simp (decide := true) only [wE_lit, wL_lit, wE_loc, wL_loc, wE_add, wE_sub, wE_mul, wE_and, wE_or, wE_xor, wE_shl, wE_shr, wE_ushr, wE_div, wE_rem, wE_neg, wE_i2b, wE_l2i, wL_i2l, wL_add, wL_mul, wE_fld, wL_fld, wE_arr, wL_arr, wC_cmp, wC_cmp0, wC_cmpL, wC_and, wC_or, wC_not, wC_ite, wL_ite, wA_nil, wA_int, wA_long, wE_call, wL_call, wS_skip, wS_seq, wS_set, wS_setL, wS_inc, wS_if, wS_put, wS_putL, wS_putOp, wS_putOpL, wS_ast, wS_astL, wS_aop, wS_aopL, wS_ret, wS_retL, wS_retV, wS_do, wS_pop, wS_dead, wS_sw, wF_body, Nat.reduceAdd, Nat.zero_add, Bool.not_not, true_and, and_true, if_true, if_false, ↓reduceIte, eq_self, Value.int.injEq, Value.long.injEq, exists_eq_left', ik_b1, ik_b0, ik_bz0, ik_bz3, ik_bz3_1, ik_bz3_0, ik_cmp, ik_cmpL, ik_eI, ik_eL, ik_as, ik_i0, ik_i1, decide_eq_true_eq, decide_eq_false_iff_not, decide_true, decide_false, Bool.not_true, Bool.not_false, reduceCtorEq, forall_const, false_implies, true_implies, implies_true, true_and, and_true, and_self, false_and, and_false, Bool.and_true, Bool.true_and, not_true_eq_false, not_false_eq_true, if_true, if_false, ite_true, ite_false, ik_bz3_0, ik_bz3_1, ik_bz0, wE_ite, h3, h4, h5, h6', h7, at', q32, q47, d1', d2', le, show ik_b2 true = 1 from rfl, k25, k258, nI_pred, sl, let_sub lg.1, gr, upd_at, upd_off, z3']
                exact ⟨h8, by simpa only [Value.int.injEq] using fin⟩
              · have e1 : ts B (c p) p 1 brk n fr ln bg = .inr (1, brk, n, fr, updN ln (n - 1) (ln (n - 1) + 1), bg) := by
                  unfold ts
                  rw [if_neg (by decide), if_neg nsep, if_pos ⟨rfl, d4⟩, if_neg d5]
                have nx := tr_n h2 e1
                obtain ⟨q, hq⟩ : ∃ q, q = 24 * S + (n - 1) := ⟨_, rfl⟩
                have gr := w_grow26 k26 (show 24 * S + (n - 1) < 144 by omega) (show ln (n - 1) < 12 by omega) y2 (nI (c p - 96))
                rw [← hq] at gr
                obtain ⟨g', hg'⟩ : ∃ g', g' = ik_si (ik_si s3 27 (12 * q + ln (n - 1)) (nI (c p - 96))) 28 q (nI (ln (n - 1) + 1)) := ⟨_, rfl⟩
                rw [← hg'] at gr
                have fr' : fsX S g0 g' := by rw [hg']; exact (h8.si _ (by omega)).si _ (by omega)
                have cx' : CX S c n fr (updN ln (n - 1) (ln (n - 1) + 1)) bg g' := by
                  refine ⟨by rw [hg', ik_si_row _ _ _ _ _ (by decide), ik_si_row _ _ _ _ _ (by decide)]; exact h9.1, fun t ht => ?_⟩
                  obtain ⟨x1, x2, x3, x4⟩ := h9.2 t ht
                  have r29 : g'.1 29 = s3.1 29 := by rw [hg', ik_si_row _ _ _ _ _ (by decide), ik_si_row _ _ _ _ _ (by decide)]
                  have r30 : g'.1 30 = s3.1 30 := by rw [hg', ik_si_row _ _ _ _ _ (by decide), ik_si_row _ _ _ _ _ (by decide)]
                  rw [r29, r30]
                  refine ⟨x1, ?_, fun j hj => ?_, x4⟩
                  · by_cases et : t = n - 1
                    · subst et
                      rw [updN_at, ← hq, hg']
                      exact ik_si_same _ _ _ _
                    · rw [updN_off et, hg', ik_si_ne _ _ _ _ _ (by omega), ik_si_row _ _ _ _ _ (by decide)]; exact x2
                  · have r27 : g'.1 27 = (ik_si s3 27 (12 * q + ln (n - 1)) (nI (c p - 96))).1 27 := by rw [hg', ik_si_row _ 28 27 _ _ (by decide)]
                    rw [r27]
                    by_cases et : t = n - 1
                    · subst et
                      rw [updN_at] at hj
                      rw [← hq]
                      by_cases ej : j = ln (n - 1)
                      · subst ej
                        rw [ik_si_same, j2]
                      · rw [ik_si_ne _ _ _ _ _ (by omega), hq]; exact x3 j (by omega)
                    · rw [updN_off et] at hj
                      have := l12 t ht
                      rw [ik_si_ne _ _ _ _ _ (by omega)]
                      exact x3 j hj
                rw [← hq] at sl
                simp (decide := true) only [wE_lit, wL_lit, wE_loc, wL_loc, wE_add, wE_sub, wE_mul, wE_and, wE_or, wE_xor, wE_shl, wE_shr, wE_ushr, wE_div, wE_rem, wE_neg, wE_i2b, wE_l2i, wL_i2l, wL_add, wL_mul, wE_fld, wL_fld, wE_arr, wL_arr, wC_cmp, wC_cmp0, wC_cmpL, wC_and, wC_or, wC_not, wC_ite, wL_ite, wA_nil, wA_int, wA_long, wE_call, wL_call, wS_skip, wS_seq, wS_set, wS_setL, wS_inc, wS_if, wS_put, wS_putL, wS_putOp, wS_putOpL, wS_ast, wS_astL, wS_aop, wS_aopL, wS_ret, wS_retL, wS_retV, wS_do, wS_pop, wS_dead, wS_sw, wF_body, Nat.reduceAdd, Nat.zero_add, Bool.not_not, true_and, and_true, if_true, if_false, ↓reduceIte, eq_self, Value.int.injEq, Value.long.injEq, exists_eq_left', ik_b1, ik_b0, ik_bz0, ik_bz3, ik_bz3_1, ik_bz3_0, ik_cmp, ik_cmpL, ik_eI, ik_eL, ik_as, ik_i0, ik_i1, decide_eq_true_eq, decide_eq_false_iff_not, decide_true, decide_false, Bool.not_true, Bool.not_false, reduceCtorEq, forall_const, false_implies, true_implies, implies_true, true_and, and_true, and_self, false_and, and_false, Bool.and_true, Bool.true_and, not_true_eq_false, not_false_eq_true, if_true, if_false, ite_true, ite_false, ik_bz3_0, ik_bz3_1, ik_bz0, wE_ite, h3, h4, h5, h6', h7, at', q32, q47, d1', d2', le, show ik_b2 true = 1 from rfl, k25, k258, nI_pred, sl, let_sub lg.1, gr, upd_at, upd_off, nI_1, nI_add]
                exact ⟨1, brk, n, fr, _, bg, nx, rfl, rfl, fr', cx'⟩
            | false =>
              rw [d4] at le
              have e1 : ts B (c p) p 1 brk n fr ln bg = .inl 1 := by
                unfold ts
                rw [if_neg (by decide), if_neg nsep, if_neg (fun z => by rw [d4] at z; cases z.2)]
              obtain ⟨z1, z2, z3⟩ := flt 1 e1 (by omega) (by omega)
              have z3' : (1000 : Int32) * 1 + nI p = nI (1000 * 1 + p) := z3
              have fin := f1' _ z1
              simp (decide := true) only [wE_lit, wL_lit, wE_loc, wL_loc, wE_add, wE_sub, wE_mul, wE_and, wE_or, wE_xor, wE_shl, wE_shr, wE_ushr, wE_div, wE_rem, wE_neg, wE_i2b, wE_l2i, wL_i2l, wL_add, wL_mul, wE_fld, wL_fld, wE_arr, wL_arr, wC_cmp, wC_cmp0, wC_cmpL, wC_and, wC_or, wC_not, wC_ite, wL_ite, wA_nil, wA_int, wA_long, wE_call, wL_call, wS_skip, wS_seq, wS_set, wS_setL, wS_inc, wS_if, wS_put, wS_putL, wS_putOp, wS_putOpL, wS_ast, wS_astL, wS_aop, wS_aopL, wS_ret, wS_retL, wS_retV, wS_do, wS_pop, wS_dead, wS_sw, wF_body, Nat.reduceAdd, Nat.zero_add, Bool.not_not, true_and, and_true, if_true, if_false, ↓reduceIte, eq_self, Value.int.injEq, Value.long.injEq, exists_eq_left', ik_b1, ik_b0, ik_bz0, ik_bz3, ik_bz3_1, ik_bz3_0, ik_cmp, ik_cmpL, ik_eI, ik_eL, ik_as, ik_i0, ik_i1, decide_eq_true_eq, decide_eq_false_iff_not, decide_true, decide_false, Bool.not_true, Bool.not_false, reduceCtorEq, forall_const, false_implies, true_implies, implies_true, true_and, and_true, and_self, false_and, and_false, Bool.and_true, Bool.true_and, not_true_eq_false, not_false_eq_true, if_true, if_false, ite_true, ite_false, ik_bz3_0, ik_bz3_1, ik_bz0, wE_ite, h3, h4, h5, h6', h7, at', q32, q47, d1', d2', le, show ik_b2 false = 0 from rfl, upd_at, upd_off, z3']
              exact ⟨h8, by simpa only [Value.int.injEq] using fin⟩
          · have e1 : ts B (c p) p st brk n fr ln bg = .inl 1 := by
              unfold ts
              rw [if_neg s0, if_neg nsep, if_neg (fun z => d3 z.1)]
            obtain ⟨z1, z2, z3⟩ := flt 1 e1 (by omega) (by omega)
            have z3' : (1000 : Int32) * 1 + nI p = nI (1000 * 1 + p) := z3
            have d3' := eq_false d3
            have fin := f1' _ z1
            simp (decide := true) only [wE_lit, wL_lit, wE_loc, wL_loc, wE_add, wE_sub, wE_mul, wE_and, wE_or, wE_xor, wE_shl, wE_shr, wE_ushr, wE_div, wE_rem, wE_neg, wE_i2b, wE_l2i, wL_i2l, wL_add, wL_mul, wE_fld, wL_fld, wE_arr, wL_arr, wC_cmp, wC_cmp0, wC_cmpL, wC_and, wC_or, wC_not, wC_ite, wL_ite, wA_nil, wA_int, wA_long, wE_call, wL_call, wS_skip, wS_seq, wS_set, wS_setL, wS_inc, wS_if, wS_put, wS_putL, wS_putOp, wS_putOpL, wS_ast, wS_astL, wS_aop, wS_aopL, wS_ret, wS_retL, wS_retV, wS_do, wS_pop, wS_dead, wS_sw, wF_body, Nat.reduceAdd, Nat.zero_add, Bool.not_not, true_and, and_true, if_true, if_false, ↓reduceIte, eq_self, Value.int.injEq, Value.long.injEq, exists_eq_left', ik_b1, ik_b0, ik_bz0, ik_bz3, ik_bz3_1, ik_bz3_0, ik_cmp, ik_cmpL, ik_eI, ik_eL, ik_as, ik_i0, ik_i1, decide_eq_true_eq, decide_eq_false_iff_not, decide_true, decide_false, Bool.not_true, Bool.not_false, reduceCtorEq, forall_const, false_implies, true_implies, implies_true, true_and, and_true, and_self, false_and, and_false, Bool.and_true, Bool.true_and, not_true_eq_false, not_false_eq_true, if_true, if_false, ite_true, ite_false, ik_bz3_0, ik_bz3_1, ik_bz0, wE_ite, h3, h4, h5, h6, s0', st1, d3', h7, at', q32, q47, d1', d2', upd_at, upd_off, z3']
            exact ⟨h8, by simpa only [Value.int.injEq] using fin⟩
  · rintro ⟨s1, s2, s3⟩ ⟨st, brk, n, fr, ln, bg, h2, h3, h4, h5, h6, h7, h8, h9⟩
    simp only at h4 h6 h8 h9
    by_cases s0 : st = 0
    · subst s0
      have h6' : s1 4 = 0 := h6
      have e : (1000 : Int32) + nI N = nI (1000 + N) := by show nI 1000 + nI N = _; rw [nI_add]
      simp (decide := true) only [wE_lit, wL_lit, wE_loc, wL_loc, wE_add, wE_sub, wE_mul, wE_and, wE_or, wE_xor, wE_shl, wE_shr, wE_ushr, wE_div, wE_rem, wE_neg, wE_i2b, wE_l2i, wL_i2l, wL_add, wL_mul, wE_fld, wL_fld, wE_arr, wL_arr, wC_cmp, wC_cmp0, wC_cmpL, wC_and, wC_or, wC_not, wC_ite, wL_ite, wA_nil, wA_int, wA_long, wE_call, wL_call, wS_skip, wS_seq, wS_set, wS_setL, wS_inc, wS_if, wS_put, wS_putL, wS_putOp, wS_putOpL, wS_ast, wS_astL, wS_aop, wS_aopL, wS_ret, wS_retL, wS_retV, wS_do, wS_pop, wS_dead, wS_sw, wF_body, Nat.reduceAdd, Nat.zero_add, Bool.not_not, true_and, and_true, if_true, if_false, ↓reduceIte, eq_self, Value.int.injEq, Value.long.injEq, exists_eq_left', ik_b1, ik_b0, ik_bz0, ik_bz3, ik_bz3_1, ik_bz3_0, ik_cmp, ik_cmpL, ik_eI, ik_eL, ik_as, ik_i0, ik_i1, decide_eq_true_eq, decide_eq_false_iff_not, decide_true, decide_false, Bool.not_true, Bool.not_false, reduceCtorEq, forall_const, false_implies, true_implies, implies_true, true_and, and_true, and_self, false_and, and_false, Bool.and_true, Bool.true_and, not_true_eq_false, not_false_eq_true, if_true, if_false, ite_true, ite_false, ik_bz3_0, ik_bz3_1, ik_bz0, wE_ite, h4, h6', e]
      exact ⟨h8, Or.inl ⟨1000 + N, tEnd_0 h2, rfl⟩⟩
    · have i2 := (tr_TI h2).2.1
      have s0' : (nI st = 0) = False := eq_false (fun z => s0 ((nI_eq (by omega) (by omega)).mp (z.trans nI_0.symm)))
      simp (decide := true) only [wE_lit, wL_lit, wE_loc, wL_loc, wE_add, wE_sub, wE_mul, wE_and, wE_or, wE_xor, wE_shl, wE_shr, wE_ushr, wE_div, wE_rem, wE_neg, wE_i2b, wE_l2i, wL_i2l, wL_add, wL_mul, wE_fld, wL_fld, wE_arr, wL_arr, wC_cmp, wC_cmp0, wC_cmpL, wC_and, wC_or, wC_not, wC_ite, wL_ite, wA_nil, wA_int, wA_long, wE_call, wL_call, wS_skip, wS_seq, wS_set, wS_setL, wS_inc, wS_if, wS_put, wS_putL, wS_putOp, wS_putOpL, wS_ast, wS_astL, wS_aop, wS_aopL, wS_ret, wS_retL, wS_retV, wS_do, wS_pop, wS_dead, wS_sw, wF_body, Nat.reduceAdd, Nat.zero_add, Bool.not_not, true_and, and_true, if_true, if_false, ↓reduceIte, eq_self, Value.int.injEq, Value.long.injEq, exists_eq_left', ik_b1, ik_b0, ik_bz0, ik_bz3, ik_bz3_1, ik_bz3_0, ik_cmp, ik_cmpL, ik_eI, ik_eL, ik_as, ik_i0, ik_i1, decide_eq_true_eq, decide_eq_false_iff_not, decide_true, decide_false, Bool.not_true, Bool.not_false, reduceCtorEq, forall_const, false_implies, true_implies, implies_true, true_and, and_true, and_self, false_and, and_false, Bool.and_true, Bool.true_and, not_true_eq_false, not_false_eq_true, if_true, if_false, ite_true, ite_false, ik_bz3_0, ik_bz3_1, ik_bz0, wE_ite, h4, h6, s0']
      exact ⟨h8, Or.inr ⟨st, brk, n, fr, ln, bg, tEnd_y h2 s0, tr_TI h2, s0, h9⟩⟩
