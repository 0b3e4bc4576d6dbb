theorem ik_b8 : ∀ b : Fin 128, (nI b.val).toInt8.toInt32 = nI b.val := by decide +kernel
theorem ik_lb8 {b : Nat} (h : ik_lb b) : ik_by b = nI b ∧ (nI b).toInt8.toInt32 = nI b := by
  unfold ik_lb at h
  exact ⟨ik_by_low ⟨b, by omega⟩, ik_b8 ⟨b, by omega⟩⟩
def ik_m1 (m : GG) (N n : Nat) (b : Nat → Nat) : GG := ik_mm (ik_si (ik_si m 0 1 0) 5 N (nI n)) N n b
def ik_nG (g : GG) (N n : Nat) (b : Nat → Nat) (l s : Nat) : Prop := (∀ q, q < n → ik_lb (b q)) ∧ ∀ i, i < N → ik_cn (g.1 l) (g.1 s) i N ≠ 0
theorem w_nameM {m : GG} {N n T : Nat} {b : Nat → Nat} (hN : N < 24) (h2 : m.1 0 2 = nI N) (hn0 : 1 ≤ n) (hn : n ≤ 12) (hT : T ≤ 400) (hnT : n ≤ T) (h1 : m.1 0 1 = nI T) (hb : ∀ k, k < T → b k < 256 ∧ m.1 1 k = ik_by (b k)) (hl : ∀ i, i < N → ∃ l, l ≤ 12 ∧ m.1 5 i = nI l) {s f t w : Int32} (c1 : 0 ≤ s ∧ s ≤ 7) (c2 : 0 ≤ f ∧ f ≤ 199) (c3 : f ≤ t ∧ t ≤ 199) (c4 : 1 ≤ w ∧ w ≤ 100) :
    wF fX12_name [.int (nI n), .int s, .int f, .int t, .int w] m (fun v g => (v = .int (nI N) ∧ g = ik_si (ik_si (ik_si (ik_si (ik_si (ik_m1 m N n b) 6 N s) 7 N f) 8 N t) 9 N w) 0 2 (nI (N + 1)) ∧ ik_nG (ik_m1 m N n b) N n b 5 4) ∨
      (v = .int (-2) ∧ ¬ ik_nG (ik_m1 m N n b) N n b 5 4 ∧ ∃ k, k ≤ n ∧ g = ik_mm (ik_si (ik_si m 0 1 0) 5 N (nI n)) N k b)) := by
  have q1 : ¬ nI N = 24 := fun h => by have := (nI_ne_of (M := 24) (c := 24) rfl (show N < 2 ^ 31 by omega) (by omega)).mp h; omega
  have q2 : 1 ≤ nI n ∧ nI n ≤ 12 := ⟨nI_le (a := 1) hn0 (by omega), nI_le (b := 12) hn (by omega)⟩
  have q3 : ¬ nI T < nI n := nI_nlt hnT (by omega)
  have ix := ik_ix_nI (show N < 24 by omega) (by omega)
  obtain ⟨y, hy⟩ : ∃ y, y = ik_si (ik_si m 0 1 0) 5 N (nI n) := ⟨_, rfl⟩
  have y02 : y.1 0 2 = nI N := by rw [hy, ik_si_row _ _ _ _ _ (by decide), ik_si_ne _ _ _ _ _ (by decide)]; exact h2
  have y1 : y.1 1 = m.1 1 := by rw [hy]; simp (decide := true) only [ik_si_row]
  have y5 : ∀ i, i < N → y.1 5 i = m.1 5 i := fun i hi => by rw [hy, ik_si_ne _ _ _ _ _ (by omega), ik_si_row _ _ _ _ _ (by decide)]
  have y5N : y.1 5 N = nI n := by rw [hy, ik_si_same]
  unfold fX12_name ik_nG ik_m1
  simp (decide := true) only [wE_lit, wL_lit, wE_loc, wL_loc, wE_add, wE_sub, wE_mul, wE_and, wE_or, wE_xor, wE_shl, wE_shr, wE_ushr, wE_div, wE_rem, wE_neg, wE_i2b, wE_l2i, wL_i2l, wL_add, wL_mul, wE_fld, wL_fld, wE_arr, wL_arr, wC_cmp, wC_cmp0, wC_cmpL, wC_and, wC_or, wC_not, wC_ite, wL_ite, wA_nil, wA_int, wA_long, wE_call, wL_call, wS_skip, wS_seq, wS_set, wS_setL, wS_inc, wS_if, wS_put, wS_putL, wS_putOp, wS_putOpL, wS_ast, wS_astL, wS_aop, wS_aopL, wS_ret, wS_retL, wS_retV, wS_do, wS_pop, wS_dead, wS_sw, wF_body, Nat.reduceAdd, Nat.zero_add, Bool.not_not, true_and, and_true, if_true, if_false, ↓reduceIte, eq_self, Value.int.injEq, Value.long.injEq, exists_eq_left', ik_b1, ik_b0, ik_bz0, ik_bz3, ik_bz3_1, ik_bz3_0, ik_cmp, ik_cmpL, ik_eI, ik_eL, ik_as, ik_i0, ik_i1, decide_eq_true_eq, decide_eq_false_iff_not, decide_true, decide_false, Bool.not_true, Bool.not_false, reduceCtorEq, forall_const, false_implies, true_implies, implies_true, true_and, and_true, and_self, false_and, and_false, Bool.and_true, Bool.true_and, not_true_eq_false, not_false_eq_true, if_true, if_false, ite_true, ite_false, ik_bz3_0, ik_bz3_1, ik_bz0, i64_n20, i64_n1, l64_0, l64_1, l64_2, l64_3, l64_7, l64_12, l64_19, l64_20, l64_23, l64_24, l64_26, l64_29, l64_40, l64_50, l64_60, l64_63, l64_100, l64_160, l64_199, l64_255, l64_1000, l64_3000, l64_5000, l64_9999, l64_m1, l64_m20, w_lies, h2, h1, q1, q2, q3, c1, c2, c3, c4, ik_si_row, ik_si_ne, ix, Option.some.injEq, ← hy]
  refine wS_for _ _ (fun k σ => σ.1 6 = nI k ∧ σ.1 1 = nI n ∧ σ.1 2 = s ∧ σ.1 3 = f ∧ σ.1 4 = t ∧ σ.1 5 = w ∧ (∀ q, q < k → ik_lb (b q)) ∧ σ.2.2 = ik_mm y N k b) 0 n _ (by simp [upd, ik_eI, nI_0, ik_mm_0]) (by omega) (by omega) ?_ ?_ ?_
  · rintro k ⟨s1, s2, s3⟩ hk ⟨e1, e2, e3, e4, e5, e6, e7, e8⟩
    simp only at e1 e2 e3 e4 e5 e6 e8
    simp (decide := true) only [wE_lit, wL_lit, wE_loc, wL_loc, wE_add, wE_sub, wE_mul, wE_and, wE_or, wE_xor, wE_shl, wE_shr, wE_ushr, wE_div, wE_rem, wE_neg, wE_i2b, wE_l2i, wL_i2l, wL_add, wL_mul, wE_fld, wL_fld, wE_arr, wL_arr, wC_cmp, wC_cmp0, wC_cmpL, wC_and, wC_or, wC_not, wC_ite, wL_ite, wA_nil, wA_int, wA_long, wE_call, wL_call, wS_skip, wS_seq, wS_set, wS_setL, wS_inc, wS_if, wS_put, wS_putL, wS_putOp, wS_putOpL, wS_ast, wS_astL, wS_aop, wS_aopL, wS_ret, wS_retL, wS_retV, wS_do, wS_pop, wS_dead, wS_sw, wF_body, Nat.reduceAdd, Nat.zero_add, Bool.not_not, true_and, and_true, if_true, if_false, ↓reduceIte, eq_self, Value.int.injEq, Value.long.injEq, exists_eq_left', ik_b1, ik_b0, ik_bz0, ik_bz3, ik_bz3_1, ik_bz3_0, ik_cmp, ik_cmpL, ik_eI, ik_eL, ik_as, ik_i0, ik_i1, decide_eq_true_eq, decide_eq_false_iff_not, decide_true, decide_false, Bool.not_true, Bool.not_false, reduceCtorEq, forall_const, false_implies, true_implies, implies_true, true_and, and_true, and_self, false_and, and_false, Bool.and_true, Bool.true_and, not_true_eq_false, not_false_eq_true, if_true, if_false, ite_true, ite_false, ik_bz3_0, ik_bz3_1, ik_bz0, e1, e2, nI_ltI (show k < 2 ^ 31 by omega) (show n < 2 ^ 31 by omega)]
  · rintro k ⟨s1, s2, s3⟩ hk ⟨e1, e2, e3, e4, e5, e6, e7, e8⟩
    simp only at e1 e2 e3 e4 e5 e6 e8
    subst e8
    obtain ⟨b1, b2⟩ := hb k (by omega)
    have f1 : (ik_mm y N k b).1 1 k = ik_by (b k) := by rw [mm_off (by decide), y1]; exact b2
    have f2 : (ik_mm y N k b).1 0 2 = nI N := by rw [mm_off (by decide)]; exact y02
    by_cases c : ik_lb (b k)
    · have c' := (ik_lbM b1).mpr c
      obtain ⟨g1, g2⟩ := ik_lb8 c
      rw [g1] at c' f1
      simp (decide := true) only [wE_lit, wL_lit, wE_loc, wL_loc, wE_add, wE_sub, wE_mul, wE_and, wE_or, wE_xor, wE_shl, wE_shr, wE_ushr, wE_div, wE_rem, wE_neg, wE_i2b, wE_l2i, wL_i2l, wL_add, wL_mul, wE_fld, wL_fld, wE_arr, wL_arr, wC_cmp, wC_cmp0, wC_cmpL, wC_and, wC_or, wC_not, wC_ite, wL_ite, wA_nil, wA_int, wA_long, wE_call, wL_call, wS_skip, wS_seq, wS_set, wS_setL, wS_inc, wS_if, wS_put, wS_putL, wS_putOp, wS_putOpL, wS_ast, wS_astL, wS_aop, wS_aopL, wS_ret, wS_retL, wS_retV, wS_do, wS_pop, wS_dead, wS_sw, wF_body, Nat.reduceAdd, Nat.zero_add, Bool.not_not, true_and, and_true, if_true, if_false, ↓reduceIte, eq_self, Value.int.injEq, Value.long.injEq, exists_eq_left', ik_b1, ik_b0, ik_bz0, ik_bz3, ik_bz3_1, ik_bz3_0, ik_cmp, ik_cmpL, ik_eI, ik_eL, ik_as, ik_i0, ik_i1, decide_eq_true_eq, decide_eq_false_iff_not, decide_true, decide_false, Bool.not_true, Bool.not_false, reduceCtorEq, forall_const, false_implies, true_implies, implies_true, true_and, and_true, and_self, false_and, and_false, Bool.and_true, Bool.true_and, not_true_eq_false, not_false_eq_true, if_true, if_false, ite_true, ite_false, ik_bz3_0, ik_bz3_1, ik_bz0, e1, e2, e3, e4, e5, e6, w_letterM, f1, f2, c', ik_ix_nI (show k < 400 by omega) (by omega), Option.some.injEq, show (12 : Int32) = nI 12 from rfl, pk_mul, nI_add, ik_ix_nI (show 12 * N + k < 288 by omega) (by omega), g2, ik_mm_s, upd_at, upd_off, nI_1]
      intro q hq
      by_cases e : q = k
      · rw [e]; exact c
      · exact e7 q (by omega)
    · have c' : ¬ (97 ≤ ik_by (b k) ∧ ik_by (b k) ≤ 122) := fun h => c ((ik_lbM b1).mp h)
      simp (decide := true) only [wE_lit, wL_lit, wE_loc, wL_loc, wE_add, wE_sub, wE_mul, wE_and, wE_or, wE_xor, wE_shl, wE_shr, wE_ushr, wE_div, wE_rem, wE_neg, wE_i2b, wE_l2i, wL_i2l, wL_add, wL_mul, wE_fld, wL_fld, wE_arr, wL_arr, wC_cmp, wC_cmp0, wC_cmpL, wC_and, wC_or, wC_not, wC_ite, wL_ite, wA_nil, wA_int, wA_long, wE_call, wL_call, wS_skip, wS_seq, wS_set, wS_setL, wS_inc, wS_if, wS_put, wS_putL, wS_putOp, wS_putOpL, wS_ast, wS_astL, wS_aop, wS_aopL, wS_ret, wS_retL, wS_retV, wS_do, wS_pop, wS_dead, wS_sw, wF_body, Nat.reduceAdd, Nat.zero_add, Bool.not_not, true_and, and_true, if_true, if_false, ↓reduceIte, eq_self, Value.int.injEq, Value.long.injEq, exists_eq_left', ik_b1, ik_b0, ik_bz0, ik_bz3, ik_bz3_1, ik_bz3_0, ik_cmp, ik_cmpL, ik_eI, ik_eL, ik_as, ik_i0, ik_i1, decide_eq_true_eq, decide_eq_false_iff_not, decide_true, decide_false, Bool.not_true, Bool.not_false, reduceCtorEq, forall_const, false_implies, true_implies, implies_true, true_and, and_true, and_self, false_and, and_false, Bool.and_true, Bool.true_and, not_true_eq_false, not_false_eq_true, if_true, if_false, ite_true, ite_false, ik_bz3_0, ik_bz3_1, ik_bz0, e1, e2, e3, e4, e5, e6, w_letterM, f1, f2, c', ik_ix_nI (show k < 400 by omega) (by omega), Option.some.injEq]
      exact Or.inr ⟨fun h => c (h.1 k hk), k, by omega, rfl⟩
  · rintro ⟨s1, s2, s3⟩ ⟨e1, e2, e3, e4, e5, e6, e7, e8⟩
    simp only at e1 e2 e3 e4 e5 e6 e8
    subst e8
    obtain ⟨g, hg⟩ : ∃ g, g = ik_mm y N n b := ⟨_, rfl⟩
    have g02 : g.1 0 2 = nI N := by rw [hg, mm_off (by decide)]; exact y02
    rw [← hg]
    simp (decide := true) only [wE_lit, wL_lit, wE_loc, wL_loc, wE_add, wE_sub, wE_mul, wE_and, wE_or, wE_xor, wE_shl, wE_shr, wE_ushr, wE_div, wE_rem, wE_neg, wE_i2b, wE_l2i, wL_i2l, wL_add, wL_mul, wE_fld, wL_fld, wE_arr, wL_arr, wC_cmp, wC_cmp0, wC_cmpL, wC_and, wC_or, wC_not, wC_ite, wL_ite, wA_nil, wA_int, wA_long, wE_call, wL_call, wS_skip, wS_seq, wS_set, wS_setL, wS_inc, wS_if, wS_put, wS_putL, wS_putOp, wS_putOpL, wS_ast, wS_astL, wS_aop, wS_aopL, wS_ret, wS_retL, wS_retV, wS_do, wS_pop, wS_dead, wS_sw, wF_body, Nat.reduceAdd, Nat.zero_add, Bool.not_not, true_and, and_true, if_true, if_false, ↓reduceIte, eq_self, Value.int.injEq, Value.long.injEq, exists_eq_left', ik_b1, ik_b0, ik_bz0, ik_bz3, ik_bz3_1, ik_bz3_0, ik_cmp, ik_cmpL, ik_eI, ik_eL, ik_as, ik_i0, ik_i1, decide_eq_true_eq, decide_eq_false_iff_not, decide_true, decide_false, Bool.not_true, Bool.not_false, reduceCtorEq, forall_const, false_implies, true_implies, implies_true, true_and, and_true, and_self, false_and, and_false, Bool.and_true, Bool.true_and, not_true_eq_false, not_false_eq_true, if_true, if_false, ite_true, ite_false, ik_bz3_0, ik_bz3_1, ik_bz0]
    refine wS_for _ _ (fun k σ => σ.1 6 = nI k ∧ σ.1 2 = s ∧ σ.1 3 = f ∧ σ.1 4 = t ∧ σ.1 5 = w ∧ (∀ q, q < k → ik_cn (g.1 5) (g.1 4) q N ≠ 0) ∧ σ.2.2 = g) 0 N _ (by simp [upd, nI_0, e3, e4, e5, e6]) (by omega) (by omega) ?_ ?_ ?_
    · rintro k ⟨s1, s2, s3⟩ hk ⟨e1, e3, e4, e5, e6, e7, e8⟩
      simp only at e1 e3 e4 e5 e6 e8
      subst e8
      exact wc_1 (by exact g02) (by omega) hk e1
    · rintro k ⟨s1, s2, s3⟩ hk ⟨e1, e3, e4, e5, e6, e9, e8⟩
      simp only at e1 e3 e4 e5 e6 e8
      subst e8
      obtain ⟨l, l1, l2⟩ := hl k hk
      have f1 := w_comparedM (m := s3) (i := k) (j := N) (by omega) hN (ni := l) (nj := n) (by rw [hg, mm_off (by decide), y5 k hk]; exact l2) (by rw [hg, mm_off (by decide)]; exact y5N) l1 hn
      simp (decide := true) only [wE_lit, wL_lit, wE_loc, wL_loc, wE_add, wE_sub, wE_mul, wE_and, wE_or, wE_xor, wE_shl, wE_shr, wE_ushr, wE_div, wE_rem, wE_neg, wE_i2b, wE_l2i, wL_i2l, wL_add, wL_mul, wE_fld, wL_fld, wE_arr, wL_arr, wC_cmp, wC_cmp0, wC_cmpL, wC_and, wC_or, wC_not, wC_ite, wL_ite, wA_nil, wA_int, wA_long, wE_call, wL_call, wS_skip, wS_seq, wS_set, wS_setL, wS_inc, wS_if, wS_put, wS_putL, wS_putOp, wS_putOpL, wS_ast, wS_astL, wS_aop, wS_aopL, wS_ret, wS_retL, wS_retV, wS_do, wS_pop, wS_dead, wS_sw, wF_body, Nat.reduceAdd, Nat.zero_add, Bool.not_not, true_and, and_true, if_true, if_false, ↓reduceIte, eq_self, Value.int.injEq, Value.long.injEq, exists_eq_left', ik_b1, ik_b0, ik_bz0, ik_bz3, ik_bz3_1, ik_bz3_0, ik_cmp, ik_cmpL, ik_eI, ik_eL, ik_as, ik_i0, ik_i1, decide_eq_true_eq, decide_eq_false_iff_not, decide_true, decide_false, Bool.not_true, Bool.not_false, reduceCtorEq, forall_const, false_implies, true_implies, implies_true, true_and, and_true, and_self, false_and, and_false, Bool.and_true, Bool.true_and, not_true_eq_false, not_false_eq_true, if_true, if_false, ite_true, ite_false, ik_bz3_0, ik_bz3_1, ik_bz0, e1, e3, e4, e5, e6, g02, f1, upd_at, upd_off, nI_1]
      refine ⟨fun h => Or.inr ⟨fun h2 => h2.2 k hk h, n, Nat.le_refl _, hg⟩, fun h q hq => ?_⟩
      by_cases e : q = k
      · rw [e]; exact h
      · exact e9 q (by omega)
    · rintro ⟨s1, s2, s3⟩ ⟨e1, e3, e4, e5, e6, e9, e8⟩
      simp only at e1 e3 e4 e5 e6 e8
      subst e8
      simp (decide := true) only [wE_lit, wL_lit, wE_loc, wL_loc, wE_add, wE_sub, wE_mul, wE_and, wE_or, wE_xor, wE_shl, wE_shr, wE_ushr, wE_div, wE_rem, wE_neg, wE_i2b, wE_l2i, wL_i2l, wL_add, wL_mul, wE_fld, wL_fld, wE_arr, wL_arr, wC_cmp, wC_cmp0, wC_cmpL, wC_and, wC_or, wC_not, wC_ite, wL_ite, wA_nil, wA_int, wA_long, wE_call, wL_call, wS_skip, wS_seq, wS_set, wS_setL, wS_inc, wS_if, wS_put, wS_putL, wS_putOp, wS_putOpL, wS_ast, wS_astL, wS_aop, wS_aopL, wS_ret, wS_retL, wS_retV, wS_do, wS_pop, wS_dead, wS_sw, wF_body, Nat.reduceAdd, Nat.zero_add, Bool.not_not, true_and, and_true, if_true, if_false, ↓reduceIte, eq_self, Value.int.injEq, Value.long.injEq, exists_eq_left', ik_b1, ik_b0, ik_bz0, ik_bz3, ik_bz3_1, ik_bz3_0, ik_cmp, ik_cmpL, ik_eI, ik_eL, ik_as, ik_i0, ik_i1, decide_eq_true_eq, decide_eq_false_iff_not, decide_true, decide_false, Bool.not_true, Bool.not_false, reduceCtorEq, forall_const, false_implies, true_implies, implies_true, true_and, and_true, and_self, false_and, and_false, Bool.and_true, Bool.true_and, not_true_eq_false, not_false_eq_true, if_true, if_false, ite_true, ite_false, ik_bz3_0, ik_bz3_1, ik_bz0, e3, e4, e5, e6, g02, ix, Option.some.injEq, ik_si_row, ik_si_same, ik_bo, nI_1, nI_pred]
      exact Or.inl ⟨e7, e9⟩
