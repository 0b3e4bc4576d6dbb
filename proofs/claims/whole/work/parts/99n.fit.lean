/-! which names fit under each bar by themselves -/
def ftB (m : GG) (S n : Nat) (L : List (Nat × RC)) (wo lo hi : Int32) (k i : Nat) : Bool := decide ((nI (agB m S n L k i) ||| (if lo ≤ m.1 10 k - ik_nw m i ∧ m.1 10 k - ik_nw m i ≤ hi then 0 else 1)) &&& (wo ^^^ -1) = 0)
theorem w_wide2 {i : Nat} (hi : i < 24) (g : GG) (Q : Value → GG → Prop) : wF fX2_wide [.int (nI i)] g Q ↔ Q (.int (g.1 57 i)) g := by
  refine wF_eq (eq_of_wF ?_) Q
  unfold fX2_wide
  simp (decide := true) only [wE_lit, wL_lit, wE_loc, wL_loc, wE_add, wE_sub, wE_mul, wE_and, wE_or, wE_xor, wE_shl, wE_shr, wE_ushr, wE_div, wE_rem, wE_neg, wE_i2b, wE_l2i, wL_i2l, wL_add, wL_mul, wE_fld, wL_fld, wE_arr, wL_arr, wC_cmp, wC_cmp0, wC_cmpL, wC_and, wC_or, wC_not, wC_ite, wL_ite, wA_nil, wA_int, wA_long, wE_call, wL_call, wS_skip, wS_seq, wS_set, wS_setL, wS_inc, wS_if, wS_put, wS_putL, wS_putOp, wS_putOpL, wS_ast, wS_astL, wS_aop, wS_aopL, wS_ret, wS_retL, wS_retV, wS_do, wS_pop, wS_dead, wS_sw, wF_body, Nat.reduceAdd, Nat.zero_add, Bool.not_not, true_and, and_true, if_true, if_false, ↓reduceIte, eq_self, Value.int.injEq, Value.long.injEq, exists_eq_left', ik_b1, ik_b0, ik_bz0, ik_bz3, ik_bz3_1, ik_bz3_0, ik_cmp, ik_cmpL, ik_eI, ik_eL, ik_as, ik_i0, ik_i1, decide_eq_true_eq, decide_eq_false_iff_not, decide_true, decide_false, Bool.not_true, Bool.not_false, reduceCtorEq, forall_const, false_implies, true_implies, implies_true, true_and, and_true, and_self, false_and, and_false, Bool.and_true, Bool.true_and, not_true_eq_false, not_false_eq_true, if_true, if_false, ite_true, ite_false, ik_bz3_0, ik_bz3_1, ik_bz0, wE_ite, w_isName2 hi, ik_ix_nI hi (by omega), Option.some.injEq]
theorem w_setFits {k : Nat} (hk : k < 4) (r : Int32) (g : GG) (Q : Value → GG → Prop) : wF fX2_setFits [.int (nI k), .int r] g Q ↔ Q .null (ik_si g 55 k r) := by
  refine wF_eq (eq_of_wF ?_) Q
  unfold fX2_setFits
  simp (decide := true) only [wE_lit, wL_lit, wE_loc, wL_loc, wE_add, wE_sub, wE_mul, wE_and, wE_or, wE_xor, wE_shl, wE_shr, wE_ushr, wE_div, wE_rem, wE_neg, wE_i2b, wE_l2i, wL_i2l, wL_add, wL_mul, wE_fld, wL_fld, wE_arr, wL_arr, wC_cmp, wC_cmp0, wC_cmpL, wC_and, wC_or, wC_not, wC_ite, wL_ite, wA_nil, wA_int, wA_long, wE_call, wL_call, wS_skip, wS_seq, wS_set, wS_setL, wS_inc, wS_if, wS_put, wS_putL, wS_putOp, wS_putOpL, wS_ast, wS_astL, wS_aop, wS_aopL, wS_ret, wS_retL, wS_retV, wS_do, wS_pop, wS_dead, wS_sw, wF_body, Nat.reduceAdd, Nat.zero_add, Bool.not_not, true_and, and_true, if_true, if_false, ↓reduceIte, eq_self, Value.int.injEq, Value.long.injEq, exists_eq_left', ik_b1, ik_b0, ik_bz0, ik_bz3, ik_bz3_1, ik_bz3_0, ik_cmp, ik_cmpL, ik_eI, ik_eL, ik_as, ik_i0, ik_i1, decide_eq_true_eq, decide_eq_false_iff_not, decide_true, decide_false, Bool.not_true, Bool.not_false, reduceCtorEq, forall_const, false_implies, true_implies, implies_true, true_and, and_true, and_self, false_and, and_false, Bool.and_true, Bool.true_and, not_true_eq_false, not_false_eq_true, if_true, if_false, ite_true, ite_false, ik_bz3_0, ik_bz3_1, ik_bz0, w_isBar2 hk, ik_ix_nI hk (by omega), Option.some.injEq]
theorem w_heed (a b : Bool) (g : GG) (Q : Value → GG → Prop) : wF fX2_heed [.int (ik_b2 a), .int (ik_b2 b)] g Q ↔ Q .null (ik_si (ik_si g 48 11 (ik_b2 a)) 48 12 (ik_b2 b)) := by
  refine wF_eq (eq_of_wF ?_) Q
  unfold fX2_heed
  simp (decide := true) only [wE_lit, wL_lit, wE_loc, wL_loc, wE_add, wE_sub, wE_mul, wE_and, wE_or, wE_xor, wE_shl, wE_shr, wE_ushr, wE_div, wE_rem, wE_neg, wE_i2b, wE_l2i, wL_i2l, wL_add, wL_mul, wE_fld, wL_fld, wE_arr, wL_arr, wC_cmp, wC_cmp0, wC_cmpL, wC_and, wC_or, wC_not, wC_ite, wL_ite, wA_nil, wA_int, wA_long, wE_call, wL_call, wS_skip, wS_seq, wS_set, wS_setL, wS_inc, wS_if, wS_put, wS_putL, wS_putOp, wS_putOpL, wS_ast, wS_astL, wS_aop, wS_aopL, wS_ret, wS_retL, wS_retV, wS_do, wS_pop, wS_dead, wS_sw, wF_body, Nat.reduceAdd, Nat.zero_add, Bool.not_not, true_and, and_true, if_true, if_false, ↓reduceIte, eq_self, Value.int.injEq, Value.long.injEq, exists_eq_left', ik_b1, ik_b0, ik_bz0, ik_bz3, ik_bz3_1, ik_bz3_0, ik_cmp, ik_cmpL, ik_eI, ik_eL, ik_as, ik_i0, ik_i1, decide_eq_true_eq, decide_eq_false_iff_not, decide_true, decide_false, Bool.not_true, Bool.not_false, reduceCtorEq, forall_const, false_implies, true_implies, implies_true, true_and, and_true, and_self, false_and, and_false, Bool.and_true, Bool.true_and, not_true_eq_false, not_false_eq_true, if_true, if_false, ite_true, ite_false, ik_bz3_0, ik_bz3_1, ik_bz0, ik_bz3b]
def eqT (g g' : GG) : Prop := (∀ a, a ≠ 48 → a ≠ 55 → g'.1 a = g.1 a) ∧ (∀ j, j ≠ 11 → j ≠ 12 → g'.1 48 j = g.1 48 j) ∧ g'.2 = g.2
theorem eqT.w {x y : GG} (h : eqT x y) : eqW x y := fun a j hk => by
  have := kW_lt hk
  rw [h.1 a (by omega) (by omega)]
theorem w_fit {m y : GG} {N B S T n : Nat} {L : List (Nat × RC)} (h : rE y m N B S) (hR : RD B N S T n L y m) (wo lo hi : Int32) :
    wF fX11_fit [.int wo, .int lo, .int hi] y (fun v g => v = .null ∧ eqT y g ∧ g.1 48 11 = ik_b2 (decide (wo &&& 16 = 0)) ∧ g.1 48 12 = ik_b2 (decide (wo &&& 2 = 0)) ∧ ∀ k, k < B → ∀ j, j < 32 → ib (g.1 55 k) j = (decide (j < N) && ftB m S n L wo lo hi k j)) := by
  have hN24 := h.2.2.1.1
  have hB4 := h.2.2.2.1.1
  obtain ⟨r1, r2, r3, r4, r5, r6⟩ := hR
  have pw : ∀ i, i < N → (1 : Int32) <<< (nI i &&& 31) = nI (2 ^ i) := fun i hi => nI_pow i (by omega)
  have bo : ∀ a b : Int32, ik_bo 4 a b = some (a ||| b) := fun _ _ => rfl
  unfold fX11_fit
  simp (decide := true) only [wE_lit, wL_lit, wE_loc, wL_loc, wE_add, wE_sub, wE_mul, wE_and, wE_or, wE_xor, wE_shl, wE_shr, wE_ushr, wE_div, wE_rem, wE_neg, wE_i2b, wE_l2i, wL_i2l, wL_add, wL_mul, wE_fld, wL_fld, wE_arr, wL_arr, wC_cmp, wC_cmp0, wC_cmpL, wC_and, wC_or, wC_not, wC_ite, wL_ite, wA_nil, wA_int, wA_long, wE_call, wL_call, wS_skip, wS_seq, wS_set, wS_setL, wS_inc, wS_if, wS_put, wS_putL, wS_putOp, wS_putOpL, wS_ast, wS_astL, wS_aop, wS_aopL, wS_ret, wS_retL, wS_retV, wS_do, wS_pop, wS_dead, wS_sw, wF_body, Nat.reduceAdd, Nat.zero_add, Bool.not_not, true_and, and_true, if_true, if_false, ↓reduceIte, eq_self, Value.int.injEq, Value.long.injEq, exists_eq_left', ik_b1, ik_b0, ik_bz0, ik_bz3, ik_bz3_1, ik_bz3_0, ik_cmp, ik_cmpL, ik_eI, ik_eL, ik_as, ik_i0, ik_i1, decide_eq_true_eq, decide_eq_false_iff_not, decide_true, decide_false, Bool.not_true, Bool.not_false, reduceCtorEq, forall_const, false_implies, true_implies, implies_true, true_and, and_true, and_self, false_and, and_false, Bool.and_true, Bool.true_and, not_true_eq_false, not_false_eq_true, if_true, if_false, ite_true, ite_false, ik_bz3_0, ik_bz3_1, ik_bz0]
  refine wS_for _ _ (fun k σ => σ.1 4 = nI k ∧ σ.1 1 = wo ∧ σ.1 2 = lo ∧ σ.1 3 = hi ∧ (∀ a, a ≠ 55 → σ.2.2.1 a = y.1 a) ∧ σ.2.2.2 = y.2 ∧ ∀ k', k' < k → ∀ j, j < 32 → ib (σ.2.2.1 55 k') j = (decide (j < N) && ftB m S n L wo lo hi k' j)) 0 B _ ⟨by simp [upd, nI_0], by simp [upd, ik_eI], by simp [upd, ik_eI], by simp [upd, ik_eI], fun _ _ => rfl, rfl, fun k' hk => by omega⟩ (by omega) (by omega) ?_ ?_ ?_
  · rintro k ⟨s1, s2, s3⟩ a1 ⟨a2, -, -, -, a3, -⟩
    simp only at a2 a3
    exact wc_bars hB4 (by rw [a3 15 (by decide)]; exact h.2.2.2.1.2.1) a1 a2
  · rintro k ⟨s1, s2, s3⟩ a1 ⟨a2, a3, a4, a5, a6, a7, a8⟩
    simp only at a2 a3 a4 a5 a6 a7 a8
    simp (decide := true) only [wE_lit, wL_lit, wE_loc, wL_loc, wE_add, wE_sub, wE_mul, wE_and, wE_or, wE_xor, wE_shl, wE_shr, wE_ushr, wE_div, wE_rem, wE_neg, wE_i2b, wE_l2i, wL_i2l, wL_add, wL_mul, wE_fld, wL_fld, wE_arr, wL_arr, wC_cmp, wC_cmp0, wC_cmpL, wC_and, wC_or, wC_not, wC_ite, wL_ite, wA_nil, wA_int, wA_long, wE_call, wL_call, wS_skip, wS_seq, wS_set, wS_setL, wS_inc, wS_if, wS_put, wS_putL, wS_putOp, wS_putOpL, wS_ast, wS_astL, wS_aop, wS_aopL, wS_ret, wS_retL, wS_retV, wS_do, wS_pop, wS_dead, wS_sw, wF_body, Nat.reduceAdd, Nat.zero_add, Bool.not_not, true_and, and_true, if_true, if_false, ↓reduceIte, eq_self, Value.int.injEq, Value.long.injEq, exists_eq_left', ik_b1, ik_b0, ik_bz0, ik_bz3, ik_bz3_1, ik_bz3_0, ik_cmp, ik_cmpL, ik_eI, ik_eL, ik_as, ik_i0, ik_i1, decide_eq_true_eq, decide_eq_false_iff_not, decide_true, decide_false, Bool.not_true, Bool.not_false, reduceCtorEq, forall_const, false_implies, true_implies, implies_true, true_and, and_true, and_self, false_and, and_false, Bool.and_true, Bool.true_and, not_true_eq_false, not_false_eq_true, if_true, if_false, ite_true, ite_false, ik_bz3_0, ik_bz3_1, ik_bz0]
    have hB3 : rB s3 m B := h.2.2.2.1.fr (by rw [a6 15 (by decide)]) rfl (a6 16 (by decide)) (a6 17 (by decide)) (a6 18 (by decide)) rfl rfl rfl
    have ink := w_ink0 hB3 a1
    refine wS_for _ _ (fun i σ => σ.1 6 = nI i ∧ σ.1 4 = nI k ∧ σ.1 1 = wo ∧ σ.1 2 = lo ∧ σ.1 3 = hi ∧ σ.2.2 = s3 ∧ ∀ j, j < 32 → ib (σ.1 5) j = (decide (j < i) && ftB m S n L wo lo hi k j)) 0 N _ ⟨by simp [upd, nI_0], by simp [upd, a2], by simp [upd, a3], by simp [upd, a4], by simp [upd, a5], rfl, fun j hj => ?_⟩ (by omega) (by omega) ?_ ?_ ?_
    · show ib (upd (upd s1 5 0) 6 0 5) j = _
      rw [upd_off _ _ _ _ (by decide), upd_at, ib_0]
      simp
    · rintro i ⟨t1, t2, t3⟩ b1 ⟨b2, -, -, -, -, b3, -⟩
      simp only at b2 b3
      subst b3
      exact wc_names hN24 (by rw [a6 6 (by decide)]; exact h.2.2.1.2.1) b1 b2
    · rintro i ⟨t1, t2, t3⟩ b1 ⟨b2, b3, b4, b5, b6, b7, b8⟩
      simp only at b2 b3 b4 b5 b6 b7 b8
      subst b7
      have w57 : t3.1 57 i = ik_nw m i := by rw [a6 57 (by decide)]; exact (r4 i b1).1
      have w63 : t3.1 63 (24 * k + i) = nI (agB m S n L k i) := by rw [a6 63 (by decide)]; exact r6 k i a1 b1
      have ix := ik_ix_nI (show 24 * k + i < 96 by omega) (by omega)
      have e62 : nI k * (24 : Int32) + nI i = nI (24 * k + i) := by rw [show (24 : Int32) = nI 24 from rfl, pk_mul, nI_add, Nat.mul_comm]
      have p31 : 2 ^ i < 2 ^ 31 := Nat.pow_lt_pow_right (by decide) (by omega)
      have yes : ftB m S n L wo lo hi k i = true → ∀ j, j < 32 → ib (t1 5 ||| nI (2 ^ i)) j = (decide (j < i + 1) && ftB m S n L wo lo hi k j) := by
        intro q j hj
        rw [ib_or, b8 j hj, ib_nI p31, Nat.testBit_two_pow]
        by_cases e : i = j
        · subst e
          rw [q]
          simp
        · rw [show decide (j < i + 1) = decide (j < i) from decide_eq_decide.mpr (by omega)]
          simp [e]
      have no : ftB m S n L wo lo hi k i = false → ∀ j, j < 32 → ib (t1 5) j = (decide (j < i + 1) && ftB m S n L wo lo hi k j) := by
        intro q j hj
        rw [b8 j hj]
        by_cases e : j = i
        · subst e
          rw [q]
          simp
        · rw [show decide (j < i + 1) = decide (j < i) from decide_eq_decide.mpr (by omega)]
      by_cases c : lo ≤ m.1 10 k - ik_nw m i ∧ m.1 10 k - ik_nw m i ≤ hi
      · by_cases d : (nI (agB m S n L k i) ||| 0) &&& (wo ^^^ -1) = 0
        · have f := yes (by unfold ftB; rw [if_pos c]; exact decide_eq_true d)
          simp (decide := true) only [wE_lit, wL_lit, wE_loc, wL_loc, wE_add, wE_sub, wE_mul, wE_and, wE_or, wE_xor, wE_shl, wE_shr, wE_ushr, wE_div, wE_rem, wE_neg, wE_i2b, wE_l2i, wL_i2l, wL_add, wL_mul, wE_fld, wL_fld, wE_arr, wL_arr, wC_cmp, wC_cmp0, wC_cmpL, wC_and, wC_or, wC_not, wC_ite, wL_ite, wA_nil, wA_int, wA_long, wE_call, wL_call, wS_skip, wS_seq, wS_set, wS_setL, wS_inc, wS_if, wS_put, wS_putL, wS_putOp, wS_putOpL, wS_ast, wS_astL, wS_aop, wS_aopL, wS_ret, wS_retL, wS_retV, wS_do, wS_pop, wS_dead, wS_sw, wF_body, Nat.reduceAdd, Nat.zero_add, Bool.not_not, true_and, and_true, if_true, if_false, ↓reduceIte, eq_self, Value.int.injEq, Value.long.injEq, exists_eq_left', ik_b1, ik_b0, ik_bz0, ik_bz3, ik_bz3_1, ik_bz3_0, ik_cmp, ik_cmpL, ik_eI, ik_eL, ik_as, ik_i0, ik_i1, decide_eq_true_eq, decide_eq_false_iff_not, decide_true, decide_false, Bool.not_true, Bool.not_false, reduceCtorEq, forall_const, false_implies, true_implies, implies_true, true_and, and_true, and_self, false_and, and_false, Bool.and_true, Bool.true_and, not_true_eq_false, not_false_eq_true, if_true, if_false, ite_true, ite_false, ik_bz3_0, ik_bz3_1, ik_bz0, wE_ite, b2, b3, b4, b5, b6, ink, w_wide2 (show i < 24 by omega), w57, e62, ix, Option.some.injEq, w63, w_within, c, d, upd_at, upd_off, pw i b1, nI_1, nI_add]
          exact f
        · have f := no (by unfold ftB; rw [if_pos c]; exact decide_eq_false d)
          simp (decide := true) only [wE_lit, wL_lit, wE_loc, wL_loc, wE_add, wE_sub, wE_mul, wE_and, wE_or, wE_xor, wE_shl, wE_shr, wE_ushr, wE_div, wE_rem, wE_neg, wE_i2b, wE_l2i, wL_i2l, wL_add, wL_mul, wE_fld, wL_fld, wE_arr, wL_arr, wC_cmp, wC_cmp0, wC_cmpL, wC_and, wC_or, wC_not, wC_ite, wL_ite, wA_nil, wA_int, wA_long, wE_call, wL_call, wS_skip, wS_seq, wS_set, wS_setL, wS_inc, wS_if, wS_put, wS_putL, wS_putOp, wS_putOpL, wS_ast, wS_astL, wS_aop, wS_aopL, wS_ret, wS_retL, wS_retV, wS_do, wS_pop, wS_dead, wS_sw, wF_body, Nat.reduceAdd, Nat.zero_add, Bool.not_not, true_and, and_true, if_true, if_false, ↓reduceIte, eq_self, Value.int.injEq, Value.long.injEq, exists_eq_left', ik_b1, ik_b0, ik_bz0, ik_bz3, ik_bz3_1, ik_bz3_0, ik_cmp, ik_cmpL, ik_eI, ik_eL, ik_as, ik_i0, ik_i1, decide_eq_true_eq, decide_eq_false_iff_not, decide_true, decide_false, Bool.not_true, Bool.not_false, reduceCtorEq, forall_const, false_implies, true_implies, implies_true, true_and, and_true, and_self, false_and, and_false, Bool.and_true, Bool.true_and, not_true_eq_false, not_false_eq_true, if_true, if_false, ite_true, ite_false, ik_bz3_0, ik_bz3_1, ik_bz0, wE_ite, b2, b3, b4, b5, b6, ink, w_wide2 (show i < 24 by omega), w57, e62, ix, Option.some.injEq, w63, w_within, c, d, upd_at, upd_off, pw i b1, nI_1, nI_add]
          exact f
      · by_cases d : (nI (agB m S n L k i) ||| 1) &&& (wo ^^^ -1) = 0
        · have f := yes (by unfold ftB; rw [if_neg c]; exact decide_eq_true d)
          simp (decide := true) only [wE_lit, wL_lit, wE_loc, wL_loc, wE_add, wE_sub, wE_mul, wE_and, wE_or, wE_xor, wE_shl, wE_shr, wE_ushr, wE_div, wE_rem, wE_neg, wE_i2b, wE_l2i, wL_i2l, wL_add, wL_mul, wE_fld, wL_fld, wE_arr, wL_arr, wC_cmp, wC_cmp0, wC_cmpL, wC_and, wC_or, wC_not, wC_ite, wL_ite, wA_nil, wA_int, wA_long, wE_call, wL_call, wS_skip, wS_seq, wS_set, wS_setL, wS_inc, wS_if, wS_put, wS_putL, wS_putOp, wS_putOpL, wS_ast, wS_astL, wS_aop, wS_aopL, wS_ret, wS_retL, wS_retV, wS_do, wS_pop, wS_dead, wS_sw, wF_body, Nat.reduceAdd, Nat.zero_add, Bool.not_not, true_and, and_true, if_true, if_false, ↓reduceIte, eq_self, Value.int.injEq, Value.long.injEq, exists_eq_left', ik_b1, ik_b0, ik_bz0, ik_bz3, ik_bz3_1, ik_bz3_0, ik_cmp, ik_cmpL, ik_eI, ik_eL, ik_as, ik_i0, ik_i1, decide_eq_true_eq, decide_eq_false_iff_not, decide_true, decide_false, Bool.not_true, Bool.not_false, reduceCtorEq, forall_const, false_implies, true_implies, implies_true, true_and, and_true, and_self, false_and, and_false, Bool.and_true, Bool.true_and, not_true_eq_false, not_false_eq_true, if_true, if_false, ite_true, ite_false, ik_bz3_0, ik_bz3_1, ik_bz0, wE_ite, b2, b3, b4, b5, b6, ink, w_wide2 (show i < 24 by omega), w57, e62, ix, Option.some.injEq, w63, w_within, c, d, upd_at, upd_off, pw i b1, nI_1, nI_add]
          exact f
        · have f := no (by unfold ftB; rw [if_neg c]; exact decide_eq_false d)
          simp (decide := true) only [wE_lit, wL_lit, wE_loc, wL_loc, wE_add, wE_sub, wE_mul, wE_and, wE_or, wE_xor, wE_shl, wE_shr, wE_ushr, wE_div, wE_rem, wE_neg, wE_i2b, wE_l2i, wL_i2l, wL_add, wL_mul, wE_fld, wL_fld, wE_arr, wL_arr, wC_cmp, wC_cmp0, wC_cmpL, wC_and, wC_or, wC_not, wC_ite, wL_ite, wA_nil, wA_int, wA_long, wE_call, wL_call, wS_skip, wS_seq, wS_set, wS_setL, wS_inc, wS_if, wS_put, wS_putL, wS_putOp, wS_putOpL, wS_ast, wS_astL, wS_aop, wS_aopL, wS_ret, wS_retL, wS_retV, wS_do, wS_pop, wS_dead, wS_sw, wF_body, Nat.reduceAdd, Nat.zero_add, Bool.not_not, true_and, and_true, if_true, if_false, ↓reduceIte, eq_self, Value.int.injEq, Value.long.injEq, exists_eq_left', ik_b1, ik_b0, ik_bz0, ik_bz3, ik_bz3_1, ik_bz3_0, ik_cmp, ik_cmpL, ik_eI, ik_eL, ik_as, ik_i0, ik_i1, decide_eq_true_eq, decide_eq_false_iff_not, decide_true, decide_false, Bool.not_true, Bool.not_false, reduceCtorEq, forall_const, false_implies, true_implies, implies_true, true_and, and_true, and_self, false_and, and_false, Bool.and_true, Bool.true_and, not_true_eq_false, not_false_eq_true, if_true, if_false, ite_true, ite_false, ik_bz3_0, ik_bz3_1, ik_bz0, wE_ite, b2, b3, b4, b5, b6, ink, w_wide2 (show i < 24 by omega), w57, e62, ix, Option.some.injEq, w63, w_within, c, d, upd_at, upd_off, pw i b1, nI_1, nI_add]
          exact f
    · rintro ⟨t1, t2, t3⟩ ⟨b2, b3, b4, b5, b6, b7, b8⟩
      simp only at b3 b4 b5 b6 b7 b8
      subst b7
      simp (decide := true) only [wE_lit, wL_lit, wE_loc, wL_loc, wE_add, wE_sub, wE_mul, wE_and, wE_or, wE_xor, wE_shl, wE_shr, wE_ushr, wE_div, wE_rem, wE_neg, wE_i2b, wE_l2i, wL_i2l, wL_add, wL_mul, wE_fld, wL_fld, wE_arr, wL_arr, wC_cmp, wC_cmp0, wC_cmpL, wC_and, wC_or, wC_not, wC_ite, wL_ite, wA_nil, wA_int, wA_long, wE_call, wL_call, wS_skip, wS_seq, wS_set, wS_setL, wS_inc, wS_if, wS_put, wS_putL, wS_putOp, wS_putOpL, wS_ast, wS_astL, wS_aop, wS_aopL, wS_ret, wS_retL, wS_retV, wS_do, wS_pop, wS_dead, wS_sw, wF_body, Nat.reduceAdd, Nat.zero_add, Bool.not_not, true_and, and_true, if_true, if_false, ↓reduceIte, eq_self, Value.int.injEq, Value.long.injEq, exists_eq_left', ik_b1, ik_b0, ik_bz0, ik_bz3, ik_bz3_1, ik_bz3_0, ik_cmp, ik_cmpL, ik_eI, ik_eL, ik_as, ik_i0, ik_i1, decide_eq_true_eq, decide_eq_false_iff_not, decide_true, decide_false, Bool.not_true, Bool.not_false, reduceCtorEq, forall_const, false_implies, true_implies, implies_true, true_and, and_true, and_self, false_and, and_false, Bool.and_true, Bool.true_and, not_true_eq_false, not_false_eq_true, if_true, if_false, ite_true, ite_false, ik_bz3_0, ik_bz3_1, ik_bz0, b3, w_setFits (show k < 4 by omega), upd_at, upd_off, nI_1, nI_add]
      refine ⟨b4, b5, b6, fun a ha => ?_, a7, fun k' hk j hj => ?_⟩
      · rw [ik_si_row _ _ _ _ _ ha]; exact a6 a ha
      · by_cases e : k' = k
        · subst e; rw [ik_si_same]; exact b8 j hj
        · rw [ik_si_ne _ _ _ _ _ e]; exact a8 k' (by omega) j hj
  · rintro ⟨s1, s2, s3⟩ ⟨a2, a3, a4, a5, a6, a7, a8⟩
    simp only at a3 a6 a7 a8
    have hd := w_heed (decide (wo &&& 16 = 0)) (decide (wo &&& 2 = 0)) s3
    obtain ⟨g5, hg5⟩ : ∃ g5, g5 = ik_si (ik_si s3 48 11 (ik_b2 (decide (wo &&& 16 = 0)))) 48 12 (ik_b2 (decide (wo &&& 2 = 0))) := ⟨_, rfl⟩
    have fin : eqT y g5 ∧ g5.1 48 11 = ik_b2 (decide (wo &&& 16 = 0)) ∧ g5.1 48 12 = ik_b2 (decide (wo &&& 2 = 0)) ∧ ∀ k, k < B → ∀ j, j < 32 → ib (g5.1 55 k) j = (decide (j < N) && ftB m S n L wo lo hi k j) := by
      subst hg5
      refine ⟨⟨fun a h1 h2 => ?_, fun j h1 h2 => ?_, a7⟩, ?_, ik_si_same _ _ _ _, fun k hk j hj => ?_⟩
      · rw [ik_si_row _ _ _ _ _ h1, ik_si_row _ _ _ _ _ h1]; exact a6 a h2
      · rw [ik_si_ne _ _ _ _ _ h2, ik_si_ne _ _ _ _ _ h1, a6 48 (by decide)]
      · rw [ik_si_ne _ _ _ _ _ (by decide)]; exact ik_si_same _ _ _ _
      · rw [ik_si_row _ _ _ _ _ (by decide), ik_si_row _ _ _ _ _ (by decide)]; exact a8 k hk j hj
    rw [← hg5] at hd
    by_cases c1 : wo &&& 16 = 0
    · by_cases c2 : wo &&& 2 = 0
      · rw [decide_eq_true c1, decide_eq_true c2] at hd
        have hd' : ∀ Q : Value → GG → Prop, wF fX2_heed [.int 1, .int 1] s3 Q ↔ Q .null g5 := hd
        simp (decide := true) only [wE_lit, wL_lit, wE_loc, wL_loc, wE_add, wE_sub, wE_mul, wE_and, wE_or, wE_xor, wE_shl, wE_shr, wE_ushr, wE_div, wE_rem, wE_neg, wE_i2b, wE_l2i, wL_i2l, wL_add, wL_mul, wE_fld, wL_fld, wE_arr, wL_arr, wC_cmp, wC_cmp0, wC_cmpL, wC_and, wC_or, wC_not, wC_ite, wL_ite, wA_nil, wA_int, wA_long, wE_call, wL_call, wS_skip, wS_seq, wS_set, wS_setL, wS_inc, wS_if, wS_put, wS_putL, wS_putOp, wS_putOpL, wS_ast, wS_astL, wS_aop, wS_aopL, wS_ret, wS_retL, wS_retV, wS_do, wS_pop, wS_dead, wS_sw, wF_body, Nat.reduceAdd, Nat.zero_add, Bool.not_not, true_and, and_true, if_true, if_false, ↓reduceIte, eq_self, Value.int.injEq, Value.long.injEq, exists_eq_left', ik_b1, ik_b0, ik_bz0, ik_bz3, ik_bz3_1, ik_bz3_0, ik_cmp, ik_cmpL, ik_eI, ik_eL, ik_as, ik_i0, ik_i1, decide_eq_true_eq, decide_eq_false_iff_not, decide_true, decide_false, Bool.not_true, Bool.not_false, reduceCtorEq, forall_const, false_implies, true_implies, implies_true, true_and, and_true, and_self, false_and, and_false, Bool.and_true, Bool.true_and, not_true_eq_false, not_false_eq_true, if_true, if_false, ite_true, ite_false, ik_bz3_0, ik_bz3_1, ik_bz0, wE_ite2, a3, c1, c2, hd']
        simpa (decide := true) only [c1, c2, ik_i0, ik_i1, decide_eq_true_eq, decide_eq_false_iff_not, decide_true, decide_false, Bool.not_true, Bool.not_false, reduceCtorEq, forall_const, false_implies, true_implies, implies_true, true_and, and_true, and_self, false_and, and_false, Bool.and_true, Bool.true_and, not_true_eq_false, not_false_eq_true, if_true, if_false, ite_true, ite_false, ik_bz3_0, ik_bz3_1, ik_bz0] using fin
      · rw [decide_eq_true c1, decide_eq_false c2] at hd
        have hd' : ∀ Q : Value → GG → Prop, wF fX2_heed [.int 1, .int 0] s3 Q ↔ Q .null g5 := hd
        simp (decide := true) only [wE_lit, wL_lit, wE_loc, wL_loc, wE_add, wE_sub, wE_mul, wE_and, wE_or, wE_xor, wE_shl, wE_shr, wE_ushr, wE_div, wE_rem, wE_neg, wE_i2b, wE_l2i, wL_i2l, wL_add, wL_mul, wE_fld, wL_fld, wE_arr, wL_arr, wC_cmp, wC_cmp0, wC_cmpL, wC_and, wC_or, wC_not, wC_ite, wL_ite, wA_nil, wA_int, wA_long, wE_call, wL_call, wS_skip, wS_seq, wS_set, wS_setL, wS_inc, wS_if, wS_put, wS_putL, wS_putOp, wS_putOpL, wS_ast, wS_astL, wS_aop, wS_aopL, wS_ret, wS_retL, wS_retV, wS_do, wS_pop, wS_dead, wS_sw, wF_body, Nat.reduceAdd, Nat.zero_add, Bool.not_not, true_and, and_true, if_true, if_false, ↓reduceIte, eq_self, Value.int.injEq, Value.long.injEq, exists_eq_left', ik_b1, ik_b0, ik_bz0, ik_bz3, ik_bz3_1, ik_bz3_0, ik_cmp, ik_cmpL, ik_eI, ik_eL, ik_as, ik_i0, ik_i1, decide_eq_true_eq, decide_eq_false_iff_not, decide_true, decide_false, Bool.not_true, Bool.not_false, reduceCtorEq, forall_const, false_implies, true_implies, implies_true, true_and, and_true, and_self, false_and, and_false, Bool.and_true, Bool.true_and, not_true_eq_false, not_false_eq_true, if_true, if_false, ite_true, ite_false, ik_bz3_0, ik_bz3_1, ik_bz0, wE_ite2, a3, c1, c2, hd']
        simpa (decide := true) only [c1, c2, ik_i0, ik_i1, decide_eq_true_eq, decide_eq_false_iff_not, decide_true, decide_false, Bool.not_true, Bool.not_false, reduceCtorEq, forall_const, false_implies, true_implies, implies_true, true_and, and_true, and_self, false_and, and_false, Bool.and_true, Bool.true_and, not_true_eq_false, not_false_eq_true, if_true, if_false, ite_true, ite_false, ik_bz3_0, ik_bz3_1, ik_bz0] using fin
    · by_cases c2 : wo &&& 2 = 0
      · rw [decide_eq_false c1, decide_eq_true c2] at hd
        have hd' : ∀ Q : Value → GG → Prop, wF fX2_heed [.int 0, .int 1] s3 Q ↔ Q .null g5 := hd
        simp (decide := true) only [wE_lit, wL_lit, wE_loc, wL_loc, wE_add, wE_sub, wE_mul, wE_and, wE_or, wE_xor, wE_shl, wE_shr, wE_ushr, wE_div, wE_rem, wE_neg, wE_i2b, wE_l2i, wL_i2l, wL_add, wL_mul, wE_fld, wL_fld, wE_arr, wL_arr, wC_cmp, wC_cmp0, wC_cmpL, wC_and, wC_or, wC_not, wC_ite, wL_ite, wA_nil, wA_int, wA_long, wE_call, wL_call, wS_skip, wS_seq, wS_set, wS_setL, wS_inc, wS_if, wS_put, wS_putL, wS_putOp, wS_putOpL, wS_ast, wS_astL, wS_aop, wS_aopL, wS_ret, wS_retL, wS_retV, wS_do, wS_pop, wS_dead, wS_sw, wF_body, Nat.reduceAdd, Nat.zero_add, Bool.not_not, true_and, and_true, if_true, if_false, ↓reduceIte, eq_self, Value.int.injEq, Value.long.injEq, exists_eq_left', ik_b1, ik_b0, ik_bz0, ik_bz3, ik_bz3_1, ik_bz3_0, ik_cmp, ik_cmpL, ik_eI, ik_eL, ik_as, ik_i0, ik_i1, decide_eq_true_eq, decide_eq_false_iff_not, decide_true, decide_false, Bool.not_true, Bool.not_false, reduceCtorEq, forall_const, false_implies, true_implies, implies_true, true_and, and_true, and_self, false_and, and_false, Bool.and_true, Bool.true_and, not_true_eq_false, not_false_eq_true, if_true, if_false, ite_true, ite_false, ik_bz3_0, ik_bz3_1, ik_bz0, wE_ite2, a3, c1, c2, hd']
        simpa (decide := true) only [c1, c2, ik_i0, ik_i1, decide_eq_true_eq, decide_eq_false_iff_not, decide_true, decide_false, Bool.not_true, Bool.not_false, reduceCtorEq, forall_const, false_implies, true_implies, implies_true, true_and, and_true, and_self, false_and, and_false, Bool.and_true, Bool.true_and, not_true_eq_false, not_false_eq_true, if_true, if_false, ite_true, ite_false, ik_bz3_0, ik_bz3_1, ik_bz0] using fin
      · rw [decide_eq_false c1, decide_eq_false c2] at hd
        have hd' : ∀ Q : Value → GG → Prop, wF fX2_heed [.int 0, .int 0] s3 Q ↔ Q .null g5 := hd
        simp (decide := true) only [wE_lit, wL_lit, wE_loc, wL_loc, wE_add, wE_sub, wE_mul, wE_and, wE_or, wE_xor, wE_shl, wE_shr, wE_ushr, wE_div, wE_rem, wE_neg, wE_i2b, wE_l2i, wL_i2l, wL_add, wL_mul, wE_fld, wL_fld, wE_arr, wL_arr, wC_cmp, wC_cmp0, wC_cmpL, wC_and, wC_or, wC_not, wC_ite, wL_ite, wA_nil, wA_int, wA_long, wE_call, wL_call, wS_skip, wS_seq, wS_set, wS_setL, wS_inc, wS_if, wS_put, wS_putL, wS_putOp, wS_putOpL, wS_ast, wS_astL, wS_aop, wS_aopL, wS_ret, wS_retL, wS_retV, wS_do, wS_pop, wS_dead, wS_sw, wF_body, Nat.reduceAdd, Nat.zero_add, Bool.not_not, true_and, and_true, if_true, if_false, ↓reduceIte, eq_self, Value.int.injEq, Value.long.injEq, exists_eq_left', ik_b1, ik_b0, ik_bz0, ik_bz3, ik_bz3_1, ik_bz3_0, ik_cmp, ik_cmpL, ik_eI, ik_eL, ik_as, ik_i0, ik_i1, decide_eq_true_eq, decide_eq_false_iff_not, decide_true, decide_false, Bool.not_true, Bool.not_false, reduceCtorEq, forall_const, false_implies, true_implies, implies_true, true_and, and_true, and_self, false_and, and_false, Bool.and_true, Bool.true_and, not_true_eq_false, not_false_eq_true, if_true, if_false, ite_true, ite_false, ik_bz3_0, ik_bz3_1, ik_bz0, wE_ite2, a3, c1, c2, hd']
        simpa (decide := true) only [c1, c2, ik_i0, ik_i1, decide_eq_true_eq, decide_eq_false_iff_not, decide_true, decide_false, Bool.not_true, Bool.not_false, reduceCtorEq, forall_const, false_implies, true_implies, implies_true, true_and, and_true, and_self, false_and, and_false, Bool.and_true, Bool.true_and, not_true_eq_false, not_false_eq_true, if_true, if_false, ite_true, ite_false, ik_bz3_0, ik_bz3_1, ik_bz0] using fin
/-- with that all stands ready for a search -/
theorem RD.sr {m y g : GG} {N B S T n : Nat} {L : List (Nat × RC)} {ft : Nat → Nat → Bool} {td ld : Bool} (h : rE y m N B S) (hR : RD B N S T n L y m) (hT : eqT y g) (h11 : g.1 48 11 = ik_b2 td) (h12 : g.1 48 12 = ik_b2 ld) (h55 : ∀ k, k < B → ∀ j, j < 32 → ib (g.1 55 k) j = (decide (j < N) && ft k j)) : RD B N S T n L g m ∧ ∃ M, SR B N T M g m (24 * S) (toldP m S) ft td ld := by
  have hN24 := h.2.2.1.1
  have hB4 := h.2.2.2.1.1
  have hS6 := h.2.2.2.2.2.2.2.2.2.1.1
  obtain ⟨r1, r2, r3, r4, r5, r6⟩ := hR
  have f : ∀ a, a ≠ 48 → a ≠ 55 → g.1 a = y.1 a := hT.1
  have hL : LN B g (24 * S) (toldP m S) := r1.fr (by rw [f 49 (by decide) (by decide)]) (f 50 (by decide) (by decide)) (f 51 (by decide) (by decide)) (f 52 (by decide) (by decide)) (f 53 (by decide) (by decide))
  have q2 : g.1 48 9 = nI B := by rw [hT.2.1 9 (by decide) (by decide)]; exact r2
  have q3 : g.1 48 10 = nI N := by rw [hT.2.1 10 (by decide) (by decide)]; exact r3
  have q4 : ∀ i, i < N → g.1 57 i = ik_nw m i ∧ g.1 58 i = m.1 9 i := fun i hi => by rw [f 57 (by decide) (by decide), f 58 (by decide) (by decide)]; exact r4 i hi
  have q5 : ∀ q k i j, q < k → k < B → i < N → j < N → ib (g.1 56 ((q * 4 + k) * 24 + i)) j = prB m T q k i j := fun q k i j a b c d => by rw [f 56 (by decide) (by decide)]; exact r5 q k i j a b c d
  refine ⟨⟨hL, q2, q3, q4, q5, fun k i hk hi => by rw [f 63 (by decide) (by decide)]; exact r6 k i hk hi⟩, ?_⟩
  obtain ⟨M, hM⟩ := hL
  refine ⟨M, hM, by omega, hN24, hB4, q2, q3, h11, h12, fun i hi => ?_, q5, h55⟩
  obtain ⟨-, -, -, -, hw, -⟩ := h.2.2.1
  obtain ⟨-, -, -, -, -, -, -, w1, w2⟩ := hw i hi
  exact ⟨(q4 i hi).1, nw_btw h.2.1 h.2.2.1 hi, (q4 i hi).2, w1, w2⟩
