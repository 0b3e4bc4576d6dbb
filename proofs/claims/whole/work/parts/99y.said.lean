/-! how many bits, lowest first -/
theorem and_pred_odd (a : Nat) : (2 * a + 1) &&& (2 * a) = 2 * a := by
  apply Nat.eq_of_testBit_eq
  intro j
  rw [Nat.testBit_and]
  cases j with
  | zero => simp [Nat.testBit_zero]
  | succ j =>
    rw [Nat.testBit_succ, Nat.testBit_succ, show (2 * a + 1) / 2 = a by omega, show 2 * a / 2 = a by omega, Bool.and_self]
theorem and_pred_even {a : Nat} (h : 0 < a) : (2 * a) &&& (2 * a - 1) = 2 * (a &&& (a - 1)) := by
  apply Nat.eq_of_testBit_eq
  intro j
  rw [Nat.testBit_and]
  cases j with
  | zero => simp [Nat.testBit_zero]
  | succ j =>
    rw [Nat.testBit_succ, Nat.testBit_succ, Nat.testBit_succ, show (2 * a - 1) / 2 = a - 1 by omega, show 2 * a / 2 = a by omega, Nat.mul_div_cancel_left _ (by decide), Nat.testBit_and]
theorem pop_and : ∀ (w n : Nat), 0 < n → n < 2 ^ w → pop w (n &&& (n - 1)) + 1 = pop w n
  | 0, n, h1, h2 => by rw [Nat.pow_zero] at h2; omega
  | w + 1, n, h1, h2 => by
    have hp : 2 ^ (w + 1) = 2 * 2 ^ w := by rw [Nat.pow_succ, Nat.mul_comm]
    show (n &&& (n - 1)) % 2 + pop w ((n &&& (n - 1)) / 2) + 1 = n % 2 + pop w (n / 2)
    obtain ⟨a, rfl | rfl⟩ : ∃ a, n = 2 * a ∨ n = 2 * a + 1 := ⟨n / 2, by omega⟩
    · have ih := pop_and w a (by omega) (by omega)
      rw [and_pred_even (by omega), show 2 * (a &&& (a - 1)) % 2 = 0 by omega, show 2 * (a &&& (a - 1)) / 2 = a &&& (a - 1) by omega, show 2 * a % 2 = 0 by omega, show 2 * a / 2 = a by omega]
      omega
    · rw [show 2 * a + 1 - 1 = 2 * a by omega, and_pred_odd, show 2 * a % 2 = 0 by omega, show 2 * a / 2 = a by omega, show (2 * a + 1) % 2 = 1 by omega, show (2 * a + 1) / 2 = a by omega]
      omega
theorem pop_0 : ∀ w, pop w 0 = 0
  | 0 => rfl
  | w + 1 => by
    show 0 % 2 + pop w (0 / 2) = 0
    rw [show (0 : Nat) / 2 = 0 from rfl, pop_0 w]
theorem w_sizeOf {n : Nat} (hn : n < 2 ^ 24) (g : GG) (Q : Value → GG → Prop) : wF fX12_sizeOf [.int (nI n)] g Q ↔ Q (.int (nI (pop 24 n))) g := by
  refine wF_eq (eq_of_wF ?_) Q
  obtain ⟨P, hP⟩ : ∃ P : Nat → Nat, P = pop 24 := ⟨_, rfl⟩
  obtain ⟨X, hX⟩ : ∃ X : Nat, X = 2 ^ 24 := ⟨_, rfl⟩
  have P0 : P 0 = 0 := by rw [hP]; exact pop_0 24
  have Pl : P n ≤ 24 := by rw [hP]; exact pop_le 24 n
  have Pa : ∀ v, 0 < v → v < X → P (v &&& (v - 1)) + 1 = P v := fun v h1 h2 => by rw [hP]; exact pop_and 24 v h1 (by rw [← hX]; exact h2)
  have Xl : X < 2 ^ 31 := by rw [hX]; decide
  rw [← hX] at hn
  rw [← hP]
  clear hP hX
  unfold fX12_sizeOf
  simp (decide := true) only [wE_lit, wL_lit, wE_loc, wL_loc, wE_add, wE_sub, wE_mul, wE_and, wE_or, wE_xor, wE_shl, wE_shr, wE_ushr, wE_div, wE_rem, wE_neg, wE_i2b, wE_l2i, wL_i2l, wL_add, wL_mul, wE_fld, wL_fld, wE_arr, wL_arr, wC_cmp, wC_cmp0, wC_cmpL, wC_and, wC_or, wC_not, wC_ite, wL_ite, wA_nil, wA_int, wA_long, wE_call, wL_call, wS_skip, wS_seq, wS_set, wS_setL, wS_inc, wS_if, wS_put, wS_putL, wS_putOp, wS_putOpL, wS_ast, wS_astL, wS_aop, wS_aopL, wS_ret, wS_retL, wS_retV, wS_do, wS_pop, wS_dead, wS_sw, wF_body, Nat.reduceAdd, Nat.zero_add, Bool.not_not, true_and, and_true, if_true, if_false, ↓reduceIte, eq_self, Value.int.injEq, Value.long.injEq, exists_eq_left', ik_b1, ik_b0, ik_bz0, ik_bz3, ik_bz3_1, ik_bz3_0, ik_cmp, ik_cmpL, ik_eI, ik_eL, ik_as, ik_i0, ik_i1, decide_eq_true_eq, decide_eq_false_iff_not, decide_true, decide_false, Bool.not_true, Bool.not_false, reduceCtorEq, forall_const, false_implies, true_implies, implies_true, true_and, and_true, and_self, false_and, and_false, Bool.and_true, Bool.true_and, not_true_eq_false, not_false_eq_true, if_true, if_false, ite_true, ite_false, ik_bz3_0, ik_bz3_1, ik_bz0]
  refine wS_wh _ _ (fun k σ => ∃ v c, v < X ∧ k = P v ∧ c + P v = P n ∧ σ.1 2 = nI v ∧ σ.1 1 = nI c ∧ σ.2.2 = g) ?_ ik_fuel (P n) _ (by unfold ik_fuel; omega) ⟨n, 0, hn, rfl, by omega, by simp [upd, ik_eI], by simp [upd, nI_0], rfl⟩
  rintro k ⟨s1, s2, s3⟩ ⟨v, c, h1, h2, h3, h4, h5, h6⟩
  simp only at h4 h5 h6
  subst h6
  by_cases v0 : v = 0
  · subst v0
    rw [P0] at h3
    rw [show c = P n by omega] at h5
    simp (decide := true) only [wE_lit, wL_lit, wE_loc, wL_loc, wE_add, wE_sub, wE_mul, wE_and, wE_or, wE_xor, wE_shl, wE_shr, wE_ushr, wE_div, wE_rem, wE_neg, wE_i2b, wE_l2i, wL_i2l, wL_add, wL_mul, wE_fld, wL_fld, wE_arr, wL_arr, wC_cmp, wC_cmp0, wC_cmpL, wC_and, wC_or, wC_not, wC_ite, wL_ite, wA_nil, wA_int, wA_long, wE_call, wL_call, wS_skip, wS_seq, wS_set, wS_setL, wS_inc, wS_if, wS_put, wS_putL, wS_putOp, wS_putOpL, wS_ast, wS_astL, wS_aop, wS_aopL, wS_ret, wS_retL, wS_retV, wS_do, wS_pop, wS_dead, wS_sw, wF_body, Nat.reduceAdd, Nat.zero_add, Bool.not_not, true_and, and_true, if_true, if_false, ↓reduceIte, eq_self, Value.int.injEq, Value.long.injEq, exists_eq_left', ik_b1, ik_b0, ik_bz0, ik_bz3, ik_bz3_1, ik_bz3_0, ik_cmp, ik_cmpL, ik_eI, ik_eL, ik_as, ik_i0, ik_i1, decide_eq_true_eq, decide_eq_false_iff_not, decide_true, decide_false, Bool.not_true, Bool.not_false, reduceCtorEq, forall_const, false_implies, true_implies, implies_true, true_and, and_true, and_self, false_and, and_false, Bool.and_true, Bool.true_and, not_true_eq_false, not_false_eq_true, if_true, if_false, ite_true, ite_false, ik_bz3_0, ik_bz3_1, ik_bz0, h4, nI_0, h5]
  · have vz : (nI v = 0) = False := eq_false (fun q => v0 ((nI_eq (by omega) (by omega)).mp (q.trans nI_0.symm)))
    have pa := Pa v (by omega) h1
    have ep : nI v - 1 = nI (v - 1) := by
      have := nI_pred (v - 1)
      rw [show v - 1 + 1 = v by omega] at this
      exact this
    simp (decide := true) only [wE_lit, wL_lit, wE_loc, wL_loc, wE_add, wE_sub, wE_mul, wE_and, wE_or, wE_xor, wE_shl, wE_shr, wE_ushr, wE_div, wE_rem, wE_neg, wE_i2b, wE_l2i, wL_i2l, wL_add, wL_mul, wE_fld, wL_fld, wE_arr, wL_arr, wC_cmp, wC_cmp0, wC_cmpL, wC_and, wC_or, wC_not, wC_ite, wL_ite, wA_nil, wA_int, wA_long, wE_call, wL_call, wS_skip, wS_seq, wS_set, wS_setL, wS_inc, wS_if, wS_put, wS_putL, wS_putOp, wS_putOpL, wS_ast, wS_astL, wS_aop, wS_aopL, wS_ret, wS_retL, wS_retV, wS_do, wS_pop, wS_dead, wS_sw, wF_body, Nat.reduceAdd, Nat.zero_add, Bool.not_not, true_and, and_true, if_true, if_false, ↓reduceIte, eq_self, Value.int.injEq, Value.long.injEq, exists_eq_left', ik_b1, ik_b0, ik_bz0, ik_bz3, ik_bz3_1, ik_bz3_0, ik_cmp, ik_cmpL, ik_eI, ik_eL, ik_as, ik_i0, ik_i1, decide_eq_true_eq, decide_eq_false_iff_not, decide_true, decide_false, Bool.not_true, Bool.not_false, reduceCtorEq, forall_const, false_implies, true_implies, implies_true, true_and, and_true, and_self, false_and, and_false, Bool.and_true, Bool.true_and, not_true_eq_false, not_false_eq_true, if_true, if_false, ite_true, ite_false, ik_bz3_0, ik_bz3_1, ik_bz0, h4, vz, h5, upd_at, upd_off, ep, nI_and (show v < 2 ^ 31 by omega) (show v - 1 < 2 ^ 31 by omega), nI_1, nI_add]
    exact ⟨_, by omega, v &&& (v - 1), c + 1, Nat.lt_of_le_of_lt Nat.and_le_left h1, rfl, by omega, rfl, rfl⟩
/-! which is the likeliest -/
def am (F : Nat → Nat) : Nat → Nat
  | 0 => 0
  | n + 1 => if F (am F n) < F n then n else am F n
theorem am_y {F : Nat → Nat} {n : Nat} (h : F (am F n) < F n) : am F (n + 1) = n := if_pos h
theorem am_n {F : Nat → Nat} {n : Nat} (h : ¬ F (am F n) < F n) : am F (n + 1) = am F n := if_neg h
theorem am_lt {F : Nat → Nat} : ∀ {n : Nat}, 0 < n → am F n < n
  | 0, h => absurd h (by decide)
  | n + 1, _ => by
    by_cases c : F (am F n) < F n
    · rw [am_y c]; exact Nat.lt_succ_self _
    · rw [am_n c]
      by_cases n0 : n = 0
      · subst n0; exact Nat.lt_succ_self 0
      · have := am_lt (F := F) (n := n) (by omega)
        omega
theorem am_max {F : Nat → Nat} : ∀ {n i : Nat}, i < n → F i ≤ F (am F n)
  | 0, _, h => absurd h (Nat.not_lt_zero _)
  | n + 1, i, h => by
    by_cases c : F (am F n) < F n
    · rw [am_y c]
      by_cases e : i = n
      · subst e; exact Nat.le_refl _
      · have := am_max (F := F) (n := n) (i := i) (by omega)
        omega
    · rw [am_n c]
      by_cases e : i = n
      · subst e; omega
      · exact am_max (F := F) (n := n) (i := i) (by omega)
theorem am_z {F : Nat → Nat} {N : Nat} (h : ∀ i, N ≤ i → F i = 0) : ∀ d, am F (N + d) = am F N
  | 0 => rfl
  | d + 1 => by
    rw [show N + (d + 1) = N + d + 1 by omega, am_n (by rw [h (N + d) (by omega)]; omega)]
    exact am_z h d
theorem am_f {F : Nat → Nat} {f : Nat} (h : ∀ j, j < f → F j = 0) : ∀ n, n ≤ f → am F n = 0
  | 0, _ => rfl
  | n + 1, hn => by rw [am_n (by rw [h n (by omega)]; omega)]; exact am_f h n (by omega)
theorem am_f1 {F : Nat → Nat} {f : Nat} (h : ∀ j, j < f → F j = 0) (hf : 0 < F f) : am F (f + 1) = f := by
  have e := am_f h f (Nat.le_refl _)
  by_cases f0 : f = 0
  · subst f0
    rw [am_n (by rw [e]; omega), e]
  · rw [am_y (by rw [e, h 0 (by omega)]; exact hf)]
theorem w_likeliest {g : GG} {N k : Nat} {V : Nat → Nat} (hk : k < 4) (hN : N ≤ 24) (hV : ∀ i, i < 24 → g.2 62 (24 * k + i) = lN (if i < N then V i else 0) ∧ V i < 2 ^ 63) (Q : Value → GG → Prop) : wF fX2_likeliest [.int (nI k)] g Q ↔ Q (.int (nI (am (fun i => if i < N then V i else 0) 24))) g := by
  refine wF_eq (eq_of_wF ?_) Q
  obtain ⟨F, hF⟩ : ∃ F : Nat → Nat, F = fun i => if i < N then V i else 0 := ⟨_, rfl⟩
  have hV' : ∀ i, i < 24 → g.2 62 (24 * k + i) = lN (F i) ∧ F i < 2 ^ 63 := fun i hi => by
    rw [hF]
    refine ⟨(hV i hi).1, ?_⟩
    have := (hV i hi).2
    dsimp only
    split <;> omega
  rw [← hF]
  unfold fX2_likeliest
  simp (decide := true) only [wE_lit, wL_lit, wE_loc, wL_loc, wE_add, wE_sub, wE_mul, wE_and, wE_or, wE_xor, wE_shl, wE_shr, wE_ushr, wE_div, wE_rem, wE_neg, wE_i2b, wE_l2i, wL_i2l, wL_add, wL_mul, wE_fld, wL_fld, wE_arr, wL_arr, wC_cmp, wC_cmp0, wC_cmpL, wC_and, wC_or, wC_not, wC_ite, wL_ite, wA_nil, wA_int, wA_long, wE_call, wL_call, wS_skip, wS_seq, wS_set, wS_setL, wS_inc, wS_if, wS_put, wS_putL, wS_putOp, wS_putOpL, wS_ast, wS_astL, wS_aop, wS_aopL, wS_ret, wS_retL, wS_retV, wS_do, wS_pop, wS_dead, wS_sw, wF_body, Nat.reduceAdd, Nat.zero_add, Bool.not_not, true_and, and_true, if_true, if_false, ↓reduceIte, eq_self, Value.int.injEq, Value.long.injEq, exists_eq_left', ik_b1, ik_b0, ik_bz0, ik_bz3, ik_bz3_1, ik_bz3_0, ik_cmp, ik_cmpL, ik_eI, ik_eL, ik_as, ik_i0, ik_i1, decide_eq_true_eq, decide_eq_false_iff_not, decide_true, decide_false, Bool.not_true, Bool.not_false, reduceCtorEq, forall_const, false_implies, true_implies, implies_true, true_and, and_true, and_self, false_and, and_false, Bool.and_true, Bool.true_and, not_true_eq_false, not_false_eq_true, if_true, if_false, ite_true, ite_false, ik_bz3_0, ik_bz3_1, ik_bz0]
  refine wS_for _ _ (fun i σ => σ.1 3 = nI i ∧ σ.1 1 = nI k ∧ σ.1 2 = nI (am F i) ∧ σ.2.2 = g) 1 24 _ ⟨by simp [upd]; rfl, by simp [upd, ik_eI], by simp [upd, am, nI_0], rfl⟩ (by omega) (by omega) ?_ ?_ ?_
  · rintro i ⟨s1, s2, s3⟩ h1 ⟨h2, -⟩
    exact wc_L (n := 24) (by omega) h1 h2
  · rintro i ⟨s1, s2, s3⟩ h1 ⟨h2, h3, h4, h5⟩
    simp only at h2 h3 h4 h5
    subst h5
    have al : am F i < 24 := by
      by_cases i0 : i = 0
      · subst i0; show (0 : Nat) < 24; decide
      · have := am_lt (F := F) (n := i) (by omega)
        omega
    have lt : (lN (F i) > lN (F (am F i))) ↔ F (am F i) < F i := lN_ltB (hV' _ al).2 (hV' i h1).2
    by_cases c : F (am F i) < F i
    · have cT := eq_true (lt.mpr c)
      simp (decide := true) only [wE_lit, wL_lit, wE_loc, wL_loc, wE_add, wE_sub, wE_mul, wE_and, wE_or, wE_xor, wE_shl, wE_shr, wE_ushr, wE_div, wE_rem, wE_neg, wE_i2b, wE_l2i, wL_i2l, wL_add, wL_mul, wE_fld, wL_fld, wE_arr, wL_arr, wC_cmp, wC_cmp0, wC_cmpL, wC_and, wC_or, wC_not, wC_ite, wL_ite, wA_nil, wA_int, wA_long, wE_call, wL_call, wS_skip, wS_seq, wS_set, wS_setL, wS_inc, wS_if, wS_put, wS_putL, wS_putOp, wS_putOpL, wS_ast, wS_astL, wS_aop, wS_aopL, wS_ret, wS_retL, wS_retV, wS_do, wS_pop, wS_dead, wS_sw, wF_body, Nat.reduceAdd, Nat.zero_add, Bool.not_not, true_and, and_true, if_true, if_false, ↓reduceIte, eq_self, Value.int.injEq, Value.long.injEq, exists_eq_left', ik_b1, ik_b0, ik_bz0, ik_bz3, ik_bz3_1, ik_bz3_0, ik_cmp, ik_cmpL, ik_eI, ik_eL, ik_as, ik_i0, ik_i1, decide_eq_true_eq, decide_eq_false_iff_not, decide_true, decide_false, Bool.not_true, Bool.not_false, reduceCtorEq, forall_const, false_implies, true_implies, implies_true, true_and, and_true, and_self, false_and, and_false, Bool.and_true, Bool.true_and, not_true_eq_false, not_false_eq_true, if_true, if_false, ite_true, ite_false, ik_bz3_0, ik_bz3_1, ik_bz0, h2, h3, h4, w_odds2 hk h1, w_odds2 hk al, (hV' i h1).1, (hV' _ al).1, cT, upd_at, upd_off, nI_1, nI_add, am_y c]
    · have cF := eq_false (fun z => c (lt.mp z))
      simp (decide := true) only [wE_lit, wL_lit, wE_loc, wL_loc, wE_add, wE_sub, wE_mul, wE_and, wE_or, wE_xor, wE_shl, wE_shr, wE_ushr, wE_div, wE_rem, wE_neg, wE_i2b, wE_l2i, wL_i2l, wL_add, wL_mul, wE_fld, wL_fld, wE_arr, wL_arr, wC_cmp, wC_cmp0, wC_cmpL, wC_and, wC_or, wC_not, wC_ite, wL_ite, wA_nil, wA_int, wA_long, wE_call, wL_call, wS_skip, wS_seq, wS_set, wS_setL, wS_inc, wS_if, wS_put, wS_putL, wS_putOp, wS_putOpL, wS_ast, wS_astL, wS_aop, wS_aopL, wS_ret, wS_retL, wS_retV, wS_do, wS_pop, wS_dead, wS_sw, wF_body, Nat.reduceAdd, Nat.zero_add, Bool.not_not, true_and, and_true, if_true, if_false, ↓reduceIte, eq_self, Value.int.injEq, Value.long.injEq, exists_eq_left', ik_b1, ik_b0, ik_bz0, ik_bz3, ik_bz3_1, ik_bz3_0, ik_cmp, ik_cmpL, ik_eI, ik_eL, ik_as, ik_i0, ik_i1, decide_eq_true_eq, decide_eq_false_iff_not, decide_true, decide_false, Bool.not_true, Bool.not_false, reduceCtorEq, forall_const, false_implies, true_implies, implies_true, true_and, and_true, and_self, false_and, and_false, Bool.and_true, Bool.true_and, not_true_eq_false, not_false_eq_true, if_true, if_false, ite_true, ite_false, ik_bz3_0, ik_bz3_1, ik_bz0, h2, h3, h4, w_odds2 hk h1, w_odds2 hk al, (hV' i h1).1, (hV' _ al).1, cF, upd_at, upd_off, nI_1, nI_add, am_n c]
  · rintro ⟨s1, s2, s3⟩ ⟨h2, h3, h4, h5⟩
    simp only at h4 h5
    subst h5
    simp (decide := true) only [wE_lit, wL_lit, wE_loc, wL_loc, wE_add, wE_sub, wE_mul, wE_and, wE_or, wE_xor, wE_shl, wE_shr, wE_ushr, wE_div, wE_rem, wE_neg, wE_i2b, wE_l2i, wL_i2l, wL_add, wL_mul, wE_fld, wL_fld, wE_arr, wL_arr, wC_cmp, wC_cmp0, wC_cmpL, wC_and, wC_or, wC_not, wC_ite, wL_ite, wA_nil, wA_int, wA_long, wE_call, wL_call, wS_skip, wS_seq, wS_set, wS_setL, wS_inc, wS_if, wS_put, wS_putL, wS_putOp, wS_putOpL, wS_ast, wS_astL, wS_aop, wS_aopL, wS_ret, wS_retL, wS_retV, wS_do, wS_pop, wS_dead, wS_sw, wF_body, Nat.reduceAdd, Nat.zero_add, Bool.not_not, true_and, and_true, if_true, if_false, ↓reduceIte, eq_self, Value.int.injEq, Value.long.injEq, exists_eq_left', ik_b1, ik_b0, ik_bz0, ik_bz3, ik_bz3_1, ik_bz3_0, ik_cmp, ik_cmpL, ik_eI, ik_eL, ik_as, ik_i0, ik_i1, decide_eq_true_eq, decide_eq_false_iff_not, decide_true, decide_false, Bool.not_true, Bool.not_false, reduceCtorEq, forall_const, false_implies, true_implies, implies_true, true_and, and_true, and_self, false_and, and_false, Bool.and_true, Bool.true_and, not_true_eq_false, not_false_eq_true, if_true, if_false, ite_true, ite_false, ik_bz3_0, ik_bz3_1, ik_bz0, h4]
theorem least_of {p : Nat → Bool} : ∀ {n : Nat}, ik_any p n = true → ∃ f, f < n ∧ p f = true ∧ ∀ j, j < f → p j = false
  | 0, h => by cases h
  | n + 1, h => by
    cases c : ik_any p n with
    | true =>
      obtain ⟨f, h1, h2, h3⟩ := least_of c
      exact ⟨f, by omega, h2, h3⟩
    | false =>
      have e : ik_any p (n + 1) = (ik_any p n || p n) := rfl
      rw [e, c, Bool.false_or] at h
      refine ⟨n, Nat.lt_succ_self _, h, fun j hj => ?_⟩
      cases d : p j with
      | false => rfl
      | true => rw [ik_any_ex.mpr ⟨j, hj, d⟩] at c; cases c
/-- whether all names of a set are of one sort -/
def oneB (N : Nat) (V : Nat → Nat) (m : GG) (f : Nat) (i : Nat) : Bool := !ik_any (fun i => (decide (i < N) && decide (V i ≠ 0)) && !decide (m.1 6 i = m.1 6 f)) i
theorem w_oneSort {x m : GG} {N f : Nat} {V : Nat → Nat} (h : rN x m N) (hf : f < N) (hf1 : V f ≠ 0) (hf2 : ∀ j, j < f → V j = 0) (Q : Value → GG → Prop) : wF fX6_oneSort [.int (nI (myB N V))] x Q ↔ Q (.int (if oneB N V m f N = true then m.1 6 f else -1)) x := by
  refine wF_eq (eq_of_wF ?_) Q
  have hN24 := h.1
  have srt : ∀ i, i < N → x.1 10 i = m.1 6 i ∧ ¬ m.1 6 i = -1 := fun i hi => by
    obtain ⟨-, -, -, -, hw, -⟩ := h
    obtain ⟨-, a1, -, -, -, a2, -⟩ := hw i hi
    refine ⟨a1, fun z => ?_⟩
    rw [z] at a2
    exact absurd a2.1 (by decide)
  unfold fX6_oneSort
  simp (decide := true) only [wE_lit, wL_lit, wE_loc, wL_loc, wE_add, wE_sub, wE_mul, wE_and, wE_or, wE_xor, wE_shl, wE_shr, wE_ushr, wE_div, wE_rem, wE_neg, wE_i2b, wE_l2i, wL_i2l, wL_add, wL_mul, wE_fld, wL_fld, wE_arr, wL_arr, wC_cmp, wC_cmp0, wC_cmpL, wC_and, wC_or, wC_not, wC_ite, wL_ite, wA_nil, wA_int, wA_long, wE_call, wL_call, wS_skip, wS_seq, wS_set, wS_setL, wS_inc, wS_if, wS_put, wS_putL, wS_putOp, wS_putOpL, wS_ast, wS_astL, wS_aop, wS_aopL, wS_ret, wS_retL, wS_retV, wS_do, wS_pop, wS_dead, wS_sw, wF_body, Nat.reduceAdd, Nat.zero_add, Bool.not_not, true_and, and_true, if_true, if_false, ↓reduceIte, eq_self, Value.int.injEq, Value.long.injEq, exists_eq_left', ik_b1, ik_b0, ik_bz0, ik_bz3, ik_bz3_1, ik_bz3_0, ik_cmp, ik_cmpL, ik_eI, ik_eL, ik_as, ik_i0, ik_i1, decide_eq_true_eq, decide_eq_false_iff_not, decide_true, decide_false, Bool.not_true, Bool.not_false, reduceCtorEq, forall_const, false_implies, true_implies, implies_true, true_and, and_true, and_self, false_and, and_false, Bool.and_true, Bool.true_and, not_true_eq_false, not_false_eq_true, if_true, if_false, ite_true, ite_false, ik_bz3_0, ik_bz3_1, ik_bz0]
  refine wS_for _ _ (fun i σ => σ.1 3 = nI i ∧ σ.1 1 = nI (myB N V) ∧ σ.2.2 = x ∧ σ.1 2 = (if f < i then m.1 6 f else -1) ∧ oneB N V m f i = true) 0 N _ ⟨by simp [upd, nI_0], by simp [upd, ik_eI], rfl, by simp [upd], rfl⟩ (by omega) (by omega) ?_ ?_ ?_
  · rintro i ⟨s1, s2, s3⟩ h1 ⟨h2, -, h3, -⟩
    simp only at h2 h3
    subst h3
    exact wc_X (M := 24) h.2.1 hN24 (by omega) h1 h2
  · rintro i ⟨s1, s2, s3⟩ h1 ⟨h2, h3, h4, h5, h6⟩
    simp only at h2 h3 h4 h5
    subst h4
    have bb := w_bitb (nI (myB N V)) (show i < 32 by omega) s3
    rw [ib_nI (by have := myB_lt N V; omega), myB_bit hN24, decide_eq_true h1, Bool.true_and] at bb
    obtain ⟨r1, r2⟩ := srt i h1
    have ix := ik_ix_nI (show i < 24 by omega) (by omega)
    have stp : oneB N V m f (i + 1) = (oneB N V m f i && !(decide (V i ≠ 0) && !decide (m.1 6 i = m.1 6 f))) := by
      unfold oneB
      show (!(ik_any _ i || ((decide (i < N) && decide (V i ≠ 0)) && !decide (m.1 6 i = m.1 6 f)))) = _
      rw [decide_eq_true h1, Bool.true_and, Bool.not_or]
    by_cases c : V i ≠ 0
    · rw [decide_eq_true c] at bb stp
      have fi : f ≤ i := by
        apply Classical.byContradiction
        intro z
        exact c (hf2 i (by omega))
      by_cases e : f = i
      · subst e
        rw [if_neg (Nat.lt_irrefl _)] at h5
        rw [h6] at stp
        have st1 : oneB N V m f (f + 1) = true := by rw [stp]; simp
        simp (decide := true) only [wE_lit, wL_lit, wE_loc, wL_loc, wE_add, wE_sub, wE_mul, wE_and, wE_or, wE_xor, wE_shl, wE_shr, wE_ushr, wE_div, wE_rem, wE_neg, wE_i2b, wE_l2i, wL_i2l, wL_add, wL_mul, wE_fld, wL_fld, wE_arr, wL_arr, wC_cmp, wC_cmp0, wC_cmpL, wC_and, wC_or, wC_not, wC_ite, wL_ite, wA_nil, wA_int, wA_long, wE_call, wL_call, wS_skip, wS_seq, wS_set, wS_setL, wS_inc, wS_if, wS_put, wS_putL, wS_putOp, wS_putOpL, wS_ast, wS_astL, wS_aop, wS_aopL, wS_ret, wS_retL, wS_retV, wS_do, wS_pop, wS_dead, wS_sw, wF_body, Nat.reduceAdd, Nat.zero_add, Bool.not_not, true_and, and_true, if_true, if_false, ↓reduceIte, eq_self, Value.int.injEq, Value.long.injEq, exists_eq_left', ik_b1, ik_b0, ik_bz0, ik_bz3, ik_bz3_1, ik_bz3_0, ik_cmp, ik_cmpL, ik_eI, ik_eL, ik_as, ik_i0, ik_i1, decide_eq_true_eq, decide_eq_false_iff_not, decide_true, decide_false, Bool.not_true, Bool.not_false, reduceCtorEq, forall_const, false_implies, true_implies, implies_true, true_and, and_true, and_self, false_and, and_false, Bool.and_true, Bool.true_and, not_true_eq_false, not_false_eq_true, if_true, if_false, ite_true, ite_false, ik_bz3_0, ik_bz3_1, ik_bz0, h2, h3, bb, show ik_b2 true = 1 from rfl, h5, ix, Option.some.injEq, r1, upd_at, upd_off, nI_1, nI_add, st1, Nat.lt_succ_self]
      · have lt : f < i := by omega
        rw [if_pos lt] at h5
        obtain ⟨-, f2⟩ := srt f hf
        by_cases d : m.1 6 i = m.1 6 f
        · rw [h6] at stp
          have st1 : oneB N V m f (i + 1) = true := by rw [stp, decide_eq_true d]; simp
          have d' : (m.1 6 f = m.1 6 i) = True := eq_true d.symm
          simp (decide := true) only [wE_lit, wL_lit, wE_loc, wL_loc, wE_add, wE_sub, wE_mul, wE_and, wE_or, wE_xor, wE_shl, wE_shr, wE_ushr, wE_div, wE_rem, wE_neg, wE_i2b, wE_l2i, wL_i2l, wL_add, wL_mul, wE_fld, wL_fld, wE_arr, wL_arr, wC_cmp, wC_cmp0, wC_cmpL, wC_and, wC_or, wC_not, wC_ite, wL_ite, wA_nil, wA_int, wA_long, wE_call, wL_call, wS_skip, wS_seq, wS_set, wS_setL, wS_inc, wS_if, wS_put, wS_putL, wS_putOp, wS_putOpL, wS_ast, wS_astL, wS_aop, wS_aopL, wS_ret, wS_retL, wS_retV, wS_do, wS_pop, wS_dead, wS_sw, wF_body, Nat.reduceAdd, Nat.zero_add, Bool.not_not, true_and, and_true, if_true, if_false, ↓reduceIte, eq_self, Value.int.injEq, Value.long.injEq, exists_eq_left', ik_b1, ik_b0, ik_bz0, ik_bz3, ik_bz3_1, ik_bz3_0, ik_cmp, ik_cmpL, ik_eI, ik_eL, ik_as, ik_i0, ik_i1, decide_eq_true_eq, decide_eq_false_iff_not, decide_true, decide_false, Bool.not_true, Bool.not_false, reduceCtorEq, forall_const, false_implies, true_implies, implies_true, true_and, and_true, and_self, false_and, and_false, Bool.and_true, Bool.true_and, not_true_eq_false, not_false_eq_true, if_true, if_false, ite_true, ite_false, ik_bz3_0, ik_bz3_1, ik_bz0, h2, h3, bb, show ik_b2 true = 1 from rfl, h5, f2, ix, Option.some.injEq, r1, d', upd_at, upd_off, nI_1, nI_add, st1, show f < i + 1 by omega, d]
          exact ⟨_, rfl⟩
        · have d' : (m.1 6 f = m.1 6 i) = False := eq_false (fun z => d z.symm)
          have no : oneB N V m f N = false := by
            unfold oneB
            rw [ik_any_ex.mpr ⟨i, h1, by rw [decide_eq_true h1, decide_eq_true c, decide_eq_false d]; rfl⟩]
            rfl
          simp (decide := true) only [wE_lit, wL_lit, wE_loc, wL_loc, wE_add, wE_sub, wE_mul, wE_and, wE_or, wE_xor, wE_shl, wE_shr, wE_ushr, wE_div, wE_rem, wE_neg, wE_i2b, wE_l2i, wL_i2l, wL_add, wL_mul, wE_fld, wL_fld, wE_arr, wL_arr, wC_cmp, wC_cmp0, wC_cmpL, wC_and, wC_or, wC_not, wC_ite, wL_ite, wA_nil, wA_int, wA_long, wE_call, wL_call, wS_skip, wS_seq, wS_set, wS_setL, wS_inc, wS_if, wS_put, wS_putL, wS_putOp, wS_putOpL, wS_ast, wS_astL, wS_aop, wS_aopL, wS_ret, wS_retL, wS_retV, wS_do, wS_pop, wS_dead, wS_sw, wF_body, Nat.reduceAdd, Nat.zero_add, Bool.not_not, true_and, and_true, if_true, if_false, ↓reduceIte, eq_self, Value.int.injEq, Value.long.injEq, exists_eq_left', ik_b1, ik_b0, ik_bz0, ik_bz3, ik_bz3_1, ik_bz3_0, ik_cmp, ik_cmpL, ik_eI, ik_eL, ik_as, ik_i0, ik_i1, decide_eq_true_eq, decide_eq_false_iff_not, decide_true, decide_false, Bool.not_true, Bool.not_false, reduceCtorEq, forall_const, false_implies, true_implies, implies_true, true_and, and_true, and_self, false_and, and_false, Bool.and_true, Bool.true_and, not_true_eq_false, not_false_eq_true, if_true, if_false, ite_true, ite_false, ik_bz3_0, ik_bz3_1, ik_bz0, h2, h3, bb, show ik_b2 true = 1 from rfl, h5, f2, ix, Option.some.injEq, r1, d', no]
    · rw [decide_eq_false c] at bb stp
      have st1 : oneB N V m f (i + 1) = true := by rw [stp, h6]; rfl
      have fi : f ≠ i := fun e => by subst e; exact c hf1
      have ff : (if f < i + 1 then m.1 6 f else -1) = (if f < i then m.1 6 f else -1) := by
        by_cases q : f < i
        · rw [if_pos q, if_pos (by omega)]
        · rw [if_neg q, if_neg (by omega)]
      simp (decide := true) only [wE_lit, wL_lit, wE_loc, wL_loc, wE_add, wE_sub, wE_mul, wE_and, wE_or, wE_xor, wE_shl, wE_shr, wE_ushr, wE_div, wE_rem, wE_neg, wE_i2b, wE_l2i, wL_i2l, wL_add, wL_mul, wE_fld, wL_fld, wE_arr, wL_arr, wC_cmp, wC_cmp0, wC_cmpL, wC_and, wC_or, wC_not, wC_ite, wL_ite, wA_nil, wA_int, wA_long, wE_call, wL_call, wS_skip, wS_seq, wS_set, wS_setL, wS_inc, wS_if, wS_put, wS_putL, wS_putOp, wS_putOpL, wS_ast, wS_astL, wS_aop, wS_aopL, wS_ret, wS_retL, wS_retV, wS_do, wS_pop, wS_dead, wS_sw, wF_body, Nat.reduceAdd, Nat.zero_add, Bool.not_not, true_and, and_true, if_true, if_false, ↓reduceIte, eq_self, Value.int.injEq, Value.long.injEq, exists_eq_left', ik_b1, ik_b0, ik_bz0, ik_bz3, ik_bz3_1, ik_bz3_0, ik_cmp, ik_cmpL, ik_eI, ik_eL, ik_as, ik_i0, ik_i1, decide_eq_true_eq, decide_eq_false_iff_not, decide_true, decide_false, Bool.not_true, Bool.not_false, reduceCtorEq, forall_const, false_implies, true_implies, implies_true, true_and, and_true, and_self, false_and, and_false, Bool.and_true, Bool.true_and, not_true_eq_false, not_false_eq_true, if_true, if_false, ite_true, ite_false, ik_bz3_0, ik_bz3_1, ik_bz0, h2, h3, bb, show ik_b2 false = 0 from rfl, h5, upd_at, upd_off, nI_1, nI_add, st1, ff]
  · rintro ⟨s1, s2, s3⟩ ⟨h2, h3, h4, h5, h6⟩
    simp only at h4 h5
    subst h4
    rw [if_pos hf] at h5
    rw [if_pos h6]
    simp (decide := true) only [wE_lit, wL_lit, wE_loc, wL_loc, wE_add, wE_sub, wE_mul, wE_and, wE_or, wE_xor, wE_shl, wE_shr, wE_ushr, wE_div, wE_rem, wE_neg, wE_i2b, wE_l2i, wL_i2l, wL_add, wL_mul, wE_fld, wL_fld, wE_arr, wL_arr, wC_cmp, wC_cmp0, wC_cmpL, wC_and, wC_or, wC_not, wC_ite, wL_ite, wA_nil, wA_int, wA_long, wE_call, wL_call, wS_skip, wS_seq, wS_set, wS_setL, wS_inc, wS_if, wS_put, wS_putL, wS_putOp, wS_putOpL, wS_ast, wS_astL, wS_aop, wS_aopL, wS_ret, wS_retL, wS_retV, wS_do, wS_pop, wS_dead, wS_sw, wF_body, Nat.reduceAdd, Nat.zero_add, Bool.not_not, true_and, and_true, if_true, if_false, ↓reduceIte, eq_self, Value.int.injEq, Value.long.injEq, exists_eq_left', ik_b1, ik_b0, ik_bz0, ik_bz3, ik_bz3_1, ik_bz3_0, ik_cmp, ik_cmpL, ik_eI, ik_eL, ik_as, ik_i0, ik_i1, decide_eq_true_eq, decide_eq_false_iff_not, decide_true, decide_false, Bool.not_true, Bool.not_false, reduceCtorEq, forall_const, false_implies, true_implies, implies_true, true_and, and_true, and_self, false_and, and_false, Bool.and_true, Bool.true_and, not_true_eq_false, not_false_eq_true, if_true, if_false, ite_true, ite_false, ik_bz3_0, ik_bz3_1, ik_bz0, h5]
