/-! the reference goes over all rows of names, one by one -/
theorem succ_div {a N : Nat} (h : a % N + 1 < N) : (a + 1) / N = a / N := by
  have hN : 0 < N := by omega
  have e := Nat.div_add_mod a N
  rw [show a + 1 = N * (a / N) + (a % N + 1) by omega, Nat.mul_add_div hN, Nat.div_eq_of_lt h]
  rfl
theorem succ_divp {a N e : Nat} (h : a % N + 1 < N) (he : 1 ≤ e) : (a + 1) / N ^ e = a / N ^ e := by
  obtain ⟨d, rfl⟩ : ∃ d, e = d + 1 := ⟨e - 1, by omega⟩
  rw [Nat.pow_succ, Nat.mul_comm, ← Nat.div_div_eq_div_mul, ← Nat.div_div_eq_div_mul, succ_div h]
/-- r ends in j greatest digits: what comes behind it -/
theorem row_next {N B r j a : Nat} (hN : 0 < N) (hj : j < B) (ha : r + 1 = N ^ j * (a + 1)) (hd : a % N + 1 < N) (q : Nat) (hq : q < B) : row N B (r + 1) q = if q = B - 1 - j then row N B r q + 1 else if B - 1 - j < q then 0 else row N B r q := by
  have pj : 0 < N ^ j := Nat.pow_pos hN
  have er : r = N ^ j * a + (N ^ j - 1) := by
    rw [Nat.mul_add, Nat.mul_one] at ha
    omega
  have rd : r / N ^ j = a := by
    rw [er, Nat.mul_add_div pj, Nat.div_eq_of_lt (by omega), Nat.add_zero]
  unfold row
  by_cases c1 : q = B - 1 - j
  · rw [if_pos c1, c1, show B - 1 - (B - 1 - j) = j by omega, rd, ha, Nat.mul_div_cancel_left _ pj]
    have e := Nat.div_add_mod a N
    rw [show a + 1 = N * (a / N) + (a % N + 1) by omega, Nat.mul_add_mod, Nat.mod_eq_of_lt hd]
  · rw [if_neg c1]
    by_cases c2 : B - 1 - j < q
    · rw [if_pos c2, ha]
      obtain ⟨e, he⟩ : ∃ e, e = B - 1 - q := ⟨_, rfl⟩
      obtain ⟨f, hf⟩ : ∃ f, j = e + (f + 1) := ⟨j - e - 1, by omega⟩
      rw [← he, hf, Nat.pow_add, Nat.mul_assoc, Nat.mul_div_cancel_left _ (Nat.pow_pos hN), Nat.pow_succ, Nat.mul_comm (N ^ f) N, Nat.mul_assoc]
      exact Nat.mul_mod_right _ _
    · rw [if_neg c2]
      obtain ⟨e, he⟩ : ∃ e, B - 1 - q = j + e ∧ 1 ≤ e := ⟨B - 1 - q - j, by omega, by omega⟩
      rw [he.1, Nat.pow_add, ← Nat.div_div_eq_div_mul, ← Nat.div_div_eq_div_mul, rd, ha, Nat.mul_div_cancel_left _ pj, succ_divp hd he.2]
theorem row_top {N B r j a : Nat} (hN : 0 < N) (hj : j < B) (ha : r + 1 = N ^ j * (a + 1)) : row N B r (B - 1 - j) = a % N := by
  have pj : 0 < N ^ j := Nat.pow_pos hN
  have er : r = N ^ j * a + (N ^ j - 1) := by
    rw [Nat.mul_add, Nat.mul_one] at ha
    omega
  unfold row
  rw [show B - 1 - (B - 1 - j) = j by omega]
  congr 1
  rw [er, Nat.mul_add_div pj, Nat.div_eq_of_lt (by omega), Nat.add_zero]
theorem row_0 (N B k : Nat) : row N B 0 k = 0 := by
  unfold row
  rw [Nat.zero_div, Nat.zero_mod]
/-- the digits of row r are under the bars -/
def rwU (N B r : Nat) (g : GG) : Prop := ∀ k, k < B → g.1 20 k = nI (row N B r k)
theorem w_beginsM {m g : GG} {N B : Nat} (hN : N ≤ 24) (eN : m.1 0 2 = nI N) (hB : B ≤ 4) (eB : m.1 0 3 = nI B) (hb : 0 < B) (hm : eqM m g) :
    wF fX12_begins [] g (fun v g' => v = .int (ik_b2 (decide (0 < N ^ B))) ∧ eqM m g' ∧ (∀ a, a ≠ 20 → g'.1 a = g.1 a) ∧ g'.2 = g.2 ∧ rwU N B 0 g') := by
  have e2 : ∀ g' : GG, (∀ a, a ≠ 20 → g'.1 a = g.1 a) → g'.1 0 2 = nI N := fun g' h => by rw [h 0 (by decide), hm.2 2 (by decide)]; exact eN
  have e3 : ∀ g' : GG, (∀ a, a ≠ 20 → g'.1 a = g.1 a) → g'.1 0 3 = nI B := fun g' h => by rw [h 0 (by decide), hm.2 3 (by decide)]; exact eB
  have pB : (nI B > (0 : Int32)) = True := eq_true (by show (0 : Int32) < nI B; rw [← nI_0, nI_ltI (by omega) (by omega)]; omega)
  have pN : (nI N > (0 : Int32)) ↔ 0 < N ^ B := by
    show (0 : Int32) < nI N ↔ _
    rw [← nI_0, nI_ltI (by omega) (by omega)]
    constructor
    · exact fun h => Nat.pow_pos h
    · intro h
      apply Classical.byContradiction
      intro n
      have : N = 0 := by omega
      subst this
      rw [Nat.zero_pow hb] at h
      exact absurd h (Nat.lt_irrefl _)
  unfold fX12_begins
  simp (decide := true) only [wE_lit, wL_lit, wE_loc, wL_loc, wE_add, wE_sub, wE_mul, wE_and, wE_or, wE_xor, wE_shl, wE_shr, wE_ushr, wE_div, wE_rem, wE_neg, wE_i2b, wE_l2i, wL_i2l, wL_add, wL_mul, wE_fld, wL_fld, wE_arr, wL_arr, wC_cmp, wC_cmp0, wC_cmpL, wC_and, wC_or, wC_not, wC_ite, wL_ite, wA_nil, wA_int, wA_long, wE_call, wL_call, wS_skip, wS_seq, wS_set, wS_setL, wS_inc, wS_if, wS_put, wS_putL, wS_putOp, wS_putOpL, wS_ast, wS_astL, wS_aop, wS_aopL, wS_ret, wS_retL, wS_retV, wS_do, wS_pop, wS_dead, wS_sw, wF_body, Nat.reduceAdd, Nat.zero_add, Bool.not_not, true_and, and_true, if_true, if_false, ↓reduceIte, eq_self, Value.int.injEq, Value.long.injEq, exists_eq_left', ik_b1, ik_b0, ik_bz0, ik_bz3, ik_bz3_1, ik_bz3_0, ik_cmp, ik_cmpL, ik_eI, ik_eL, ik_as, ik_i0, ik_i1, decide_eq_true_eq, decide_eq_false_iff_not, decide_true, decide_false, Bool.not_true, Bool.not_false, reduceCtorEq, forall_const, false_implies, true_implies, implies_true, true_and, and_true, and_self, false_and, and_false, Bool.and_true, Bool.true_and, not_true_eq_false, not_false_eq_true, if_true, if_false, ite_true, ite_false, ik_bz3_0, ik_bz3_1, ik_bz0]
  refine wS_for _ _ (fun k σ => σ.1 1 = nI k ∧ eqM m σ.2.2 ∧ (∀ a, a ≠ 20 → σ.2.2.1 a = g.1 a) ∧ σ.2.2.2 = g.2 ∧ ∀ q, q < k → σ.2.2.1 20 q = 0) 0 4 _ ⟨by simp [upd, nI_0], hm, fun _ _ => rfl, rfl, fun q hq => by omega⟩ (by omega) (by omega) ?_ ?_ ?_
  · rintro k ⟨s1, s2, s3⟩ h1 ⟨h2, -⟩
    exact wc_L (n := 4) (by omega) h1 h2
  · rintro k ⟨s1, s2, s3⟩ h1 ⟨h2, h3, h4, h5, h6⟩
    simp only at h2 h3 h4 h5 h6
    simp (decide := true) only [wE_lit, wL_lit, wE_loc, wL_loc, wE_add, wE_sub, wE_mul, wE_and, wE_or, wE_xor, wE_shl, wE_shr, wE_ushr, wE_div, wE_rem, wE_neg, wE_i2b, wE_l2i, wL_i2l, wL_add, wL_mul, wE_fld, wL_fld, wE_arr, wL_arr, wC_cmp, wC_cmp0, wC_cmpL, wC_and, wC_or, wC_not, wC_ite, wL_ite, wA_nil, wA_int, wA_long, wE_call, wL_call, wS_skip, wS_seq, wS_set, wS_setL, wS_inc, wS_if, wS_put, wS_putL, wS_putOp, wS_putOpL, wS_ast, wS_astL, wS_aop, wS_aopL, wS_ret, wS_retL, wS_retV, wS_do, wS_pop, wS_dead, wS_sw, wF_body, Nat.reduceAdd, Nat.zero_add, Bool.not_not, true_and, and_true, if_true, if_false, ↓reduceIte, eq_self, Value.int.injEq, Value.long.injEq, exists_eq_left', ik_b1, ik_b0, ik_bz0, ik_bz3, ik_bz3_1, ik_bz3_0, ik_cmp, ik_cmpL, ik_eI, ik_eL, ik_as, ik_i0, ik_i1, decide_eq_true_eq, decide_eq_false_iff_not, decide_true, decide_false, Bool.not_true, Bool.not_false, reduceCtorEq, forall_const, false_implies, true_implies, implies_true, true_and, and_true, and_self, false_and, and_false, Bool.and_true, Bool.true_and, not_true_eq_false, not_false_eq_true, if_true, if_false, ite_true, ite_false, ik_bz3_0, ik_bz3_1, ik_bz0, h2, ik_ix_nI (show k < 4 by omega) (by omega), Option.some.injEq, upd_at, upd_off, nI_1, nI_add]
    refine ⟨h3.si _ (by omega), fun a ha => ?_, h5, fun q hq => ?_⟩
    · rw [ik_si_row _ _ _ _ _ ha]; exact h4 a ha
    · by_cases e : q = k
      · subst e; exact ik_si_same _ _ _ _
      · rw [ik_si_ne _ _ _ _ _ e]; exact h6 q (by omega)
  · rintro ⟨s1, s2, s3⟩ ⟨h2, h3, h4, h5, h6⟩
    simp only at h3 h4 h5 h6
    have fin : eqM m s3 ∧ (∀ a, a ≠ 20 → s3.1 a = g.1 a) ∧ s3.2 = g.2 ∧ rwU N B 0 s3 := ⟨h3, h4, h5, fun k hk => by rw [h6 k (by omega), row_0, nI_0]⟩
    by_cases c : 0 < N ^ B
    · have cT := eq_true (pN.mpr c)
      rw [decide_eq_true c]
      simp (decide := true) only [wE_lit, wL_lit, wE_loc, wL_loc, wE_add, wE_sub, wE_mul, wE_and, wE_or, wE_xor, wE_shl, wE_shr, wE_ushr, wE_div, wE_rem, wE_neg, wE_i2b, wE_l2i, wL_i2l, wL_add, wL_mul, wE_fld, wL_fld, wE_arr, wL_arr, wC_cmp, wC_cmp0, wC_cmpL, wC_and, wC_or, wC_not, wC_ite, wL_ite, wA_nil, wA_int, wA_long, wE_call, wL_call, wS_skip, wS_seq, wS_set, wS_setL, wS_inc, wS_if, wS_put, wS_putL, wS_putOp, wS_putOpL, wS_ast, wS_astL, wS_aop, wS_aopL, wS_ret, wS_retL, wS_retV, wS_do, wS_pop, wS_dead, wS_sw, wF_body, Nat.reduceAdd, Nat.zero_add, Bool.not_not, true_and, and_true, if_true, if_false, ↓reduceIte, eq_self, Value.int.injEq, Value.long.injEq, exists_eq_left', ik_b1, ik_b0, ik_bz0, ik_bz3, ik_bz3_1, ik_bz3_0, ik_cmp, ik_cmpL, ik_eI, ik_eL, ik_as, ik_i0, ik_i1, decide_eq_true_eq, decide_eq_false_iff_not, decide_true, decide_false, Bool.not_true, Bool.not_false, reduceCtorEq, forall_const, false_implies, true_implies, implies_true, true_and, and_true, and_self, false_and, and_false, Bool.and_true, Bool.true_and, not_true_eq_false, not_false_eq_true, if_true, if_false, ite_true, ite_false, ik_bz3_0, ik_bz3_1, ik_bz0, wE_ite2, e2 s3 h4, e3 s3 h4, pB, cT, show ik_b2 true = 1 from rfl]
      exact fin
    · have cF := eq_false (fun z => c (pN.mp z))
      rw [decide_eq_false c]
      simp (decide := true) only [wE_lit, wL_lit, wE_loc, wL_loc, wE_add, wE_sub, wE_mul, wE_and, wE_or, wE_xor, wE_shl, wE_shr, wE_ushr, wE_div, wE_rem, wE_neg, wE_i2b, wE_l2i, wL_i2l, wL_add, wL_mul, wE_fld, wL_fld, wE_arr, wL_arr, wC_cmp, wC_cmp0, wC_cmpL, wC_and, wC_or, wC_not, wC_ite, wL_ite, wA_nil, wA_int, wA_long, wE_call, wL_call, wS_skip, wS_seq, wS_set, wS_setL, wS_inc, wS_if, wS_put, wS_putL, wS_putOp, wS_putOpL, wS_ast, wS_astL, wS_aop, wS_aopL, wS_ret, wS_retL, wS_retV, wS_do, wS_pop, wS_dead, wS_sw, wF_body, Nat.reduceAdd, Nat.zero_add, Bool.not_not, true_and, and_true, if_true, if_false, ↓reduceIte, eq_self, Value.int.injEq, Value.long.injEq, exists_eq_left', ik_b1, ik_b0, ik_bz0, ik_bz3, ik_bz3_1, ik_bz3_0, ik_cmp, ik_cmpL, ik_eI, ik_eL, ik_as, ik_i0, ik_i1, decide_eq_true_eq, decide_eq_false_iff_not, decide_true, decide_false, Bool.not_true, Bool.not_false, reduceCtorEq, forall_const, false_implies, true_implies, implies_true, true_and, and_true, and_self, false_and, and_false, Bool.and_true, Bool.true_and, not_true_eq_false, not_false_eq_true, if_true, if_false, ite_true, ite_false, ik_bz3_0, ik_bz3_1, ik_bz0, wE_ite2, e2 s3 h4, e3 s3 h4, pB, cF, show ik_b2 false = 0 from rfl]
      exact fin
theorem w_goesOnN {m g : GG} {N B r : Nat} (hN : N ≤ 24) (eN : m.1 0 2 = nI N) (hB : B ≤ 4) (eB : m.1 0 3 = nI B) (hb : 0 < B) (hm : eqM m g) (hr : r < N ^ B) (hu : rwU N B r g) :
    wF fX12_goesOnNames [] g (fun v g' => v = .int (ik_b2 (decide (r + 1 < N ^ B))) ∧ eqM m g' ∧ (∀ a, a ≠ 20 → g'.1 a = g.1 a) ∧ g'.2 = g.2 ∧ (r + 1 < N ^ B → rwU N B (r + 1) g')) := by
  have hN0 : 0 < N := by
    apply Classical.byContradiction
    intro n
    have : N = 0 := by omega
    subst this
    rw [Nat.zero_pow hb] at hr
    exact absurd hr (Nat.not_lt_zero _)
  have e2 : ∀ g' : GG, (∀ a, a ≠ 20 → g'.1 a = g.1 a) → g'.1 0 2 = nI (N - 1 + 1) := fun g' h => by rw [h 0 (by decide), hm.2 2 (by decide), show N - 1 + 1 = N by omega]; exact eN
  have e3 : ∀ g' : GG, (∀ a, a ≠ 20 → g'.1 a = g.1 a) → g'.1 0 3 = nI (B - 1 + 1) := fun g' h => by rw [h 0 (by decide), hm.2 3 (by decide), show B - 1 + 1 = B by omega]; exact eB
  unfold fX12_goesOnNames
  simp (decide := true) only [wE_lit, wL_lit, wE_loc, wL_loc, wE_add, wE_sub, wE_mul, wE_and, wE_or, wE_xor, wE_shl, wE_shr, wE_ushr, wE_div, wE_rem, wE_neg, wE_i2b, wE_l2i, wL_i2l, wL_add, wL_mul, wE_fld, wL_fld, wE_arr, wL_arr, wC_cmp, wC_cmp0, wC_cmpL, wC_and, wC_or, wC_not, wC_ite, wL_ite, wA_nil, wA_int, wA_long, wE_call, wL_call, wS_skip, wS_seq, wS_set, wS_setL, wS_inc, wS_if, wS_put, wS_putL, wS_putOp, wS_putOpL, wS_ast, wS_astL, wS_aop, wS_aopL, wS_ret, wS_retL, wS_retV, wS_do, wS_pop, wS_dead, wS_sw, wF_body, Nat.reduceAdd, Nat.zero_add, Bool.not_not, true_and, and_true, if_true, if_false, ↓reduceIte, eq_self, Value.int.injEq, Value.long.injEq, exists_eq_left', ik_b1, ik_b0, ik_bz0, ik_bz3, ik_bz3_1, ik_bz3_0, ik_cmp, ik_cmpL, ik_eI, ik_eL, ik_as, ik_i0, ik_i1, decide_eq_true_eq, decide_eq_false_iff_not, decide_true, decide_false, Bool.not_true, Bool.not_false, reduceCtorEq, forall_const, false_implies, true_implies, implies_true, true_and, and_true, and_self, false_and, and_false, Bool.and_true, Bool.true_and, not_true_eq_false, not_false_eq_true, if_true, if_false, ite_true, ite_false, ik_bz3_0, ik_bz3_1, ik_bz0, e3 g (fun _ _ => rfl), nI_pred]
  refine wS_wh _ _ (fun k σ => ∃ j a, k = B - j ∧ j ≤ B ∧ σ.1 1 = nI (B - j) - 1 ∧ r + 1 = N ^ j * (a + 1) ∧ eqM m σ.2.2 ∧ (∀ a, a ≠ 20 → σ.2.2.1 a = g.1 a) ∧ σ.2.2.2 = g.2 ∧ ∀ q, q < B → σ.2.2.1 20 q = if B - j ≤ q then 0 else nI (row N B r q)) ?_ ik_fuel B _ (by unfold ik_fuel; omega) ⟨0, r, by omega, by omega, ?_, by rw [Nat.pow_zero, Nat.one_mul], hm, fun _ _ => rfl, rfl, fun q hq => by rw [if_neg (by omega)]; exact hu q hq⟩
  · rintro k ⟨s1, s2, s3⟩ ⟨j, a, h1, h2, h3, h4, h5, h6, h7, h8⟩
    simp only at h3 h5 h6 h7 h8
    by_cases jB : j = B
    · subst jB
      have h3' : s1 1 = -1 := by rw [h3, Nat.sub_self]; rfl
      have nr : ¬ r + 1 < N ^ j := by
        rw [h4]
        have : N ^ j * 1 ≤ N ^ j * (a + 1) := Nat.mul_le_mul_left _ (by omega)
        omega
      rw [decide_eq_false nr]
      simp (decide := true) only [wE_lit, wL_lit, wE_loc, wL_loc, wE_add, wE_sub, wE_mul, wE_and, wE_or, wE_xor, wE_shl, wE_shr, wE_ushr, wE_div, wE_rem, wE_neg, wE_i2b, wE_l2i, wL_i2l, wL_add, wL_mul, wE_fld, wL_fld, wE_arr, wL_arr, wC_cmp, wC_cmp0, wC_cmpL, wC_and, wC_or, wC_not, wC_ite, wL_ite, wA_nil, wA_int, wA_long, wE_call, wL_call, wS_skip, wS_seq, wS_set, wS_setL, wS_inc, wS_if, wS_put, wS_putL, wS_putOp, wS_putOpL, wS_ast, wS_astL, wS_aop, wS_aopL, wS_ret, wS_retL, wS_retV, wS_do, wS_pop, wS_dead, wS_sw, wF_body, Nat.reduceAdd, Nat.zero_add, Bool.not_not, true_and, and_true, if_true, if_false, ↓reduceIte, eq_self, Value.int.injEq, Value.long.injEq, exists_eq_left', ik_b1, ik_b0, ik_bz0, ik_bz3, ik_bz3_1, ik_bz3_0, ik_cmp, ik_cmpL, ik_eI, ik_eL, ik_as, ik_i0, ik_i1, decide_eq_true_eq, decide_eq_false_iff_not, decide_true, decide_false, Bool.not_true, Bool.not_false, reduceCtorEq, forall_const, false_implies, true_implies, implies_true, true_and, and_true, and_self, false_and, and_false, Bool.and_true, Bool.true_and, not_true_eq_false, not_false_eq_true, if_true, if_false, ite_true, ite_false, ik_bz3_0, ik_bz3_1, ik_bz0, h3', show ik_b2 false = 0 from rfl]
      exact ⟨h5, h6, h7, fun z => absurd z nr⟩
    · obtain ⟨K, hK⟩ : ∃ K, K = B - 1 - j := ⟨_, rfl⟩
      have h3' : s1 1 = nI K := by rw [h3, show B - j = K + 1 by omega]; exact nI_pred K
      have K4 : K < 4 := by omega
      have ge : (0 ≤ nI K) = True := eq_true (nI_pos' (by omega))
      have ng : (nI K < 0) = False := eq_false (by rw [Int32.not_lt]; exact nI_pos' (by omega))
      have ixK := ik_ix_nI K4 (by omega)
      have top := row_top (N := N) (B := B) hN0 (show j < B by omega) h4
      rw [← hK] at top
      have am : a % N < N := Nat.mod_lt _ hN0
      have c20 : s3.1 20 K = nI (a % N) := by rw [h8 K (by omega), if_neg (by omega), top]
      have eq : (nI (a % N) = nI (N - 1)) ↔ a % N = N - 1 := nI_eq (by omega) (by omega)
      by_cases c : a % N = N - 1
      · have cT := eq_true (eq.mpr c)
        simp (decide := true) only [wE_lit, wL_lit, wE_loc, wL_loc, wE_add, wE_sub, wE_mul, wE_and, wE_or, wE_xor, wE_shl, wE_shr, wE_ushr, wE_div, wE_rem, wE_neg, wE_i2b, wE_l2i, wL_i2l, wL_add, wL_mul, wE_fld, wL_fld, wE_arr, wL_arr, wC_cmp, wC_cmp0, wC_cmpL, wC_and, wC_or, wC_not, wC_ite, wL_ite, wA_nil, wA_int, wA_long, wE_call, wL_call, wS_skip, wS_seq, wS_set, wS_setL, wS_inc, wS_if, wS_put, wS_putL, wS_putOp, wS_putOpL, wS_ast, wS_astL, wS_aop, wS_aopL, wS_ret, wS_retL, wS_retV, wS_do, wS_pop, wS_dead, wS_sw, wF_body, Nat.reduceAdd, Nat.zero_add, Bool.not_not, true_and, and_true, if_true, if_false, ↓reduceIte, eq_self, Value.int.injEq, Value.long.injEq, exists_eq_left', ik_b1, ik_b0, ik_bz0, ik_bz3, ik_bz3_1, ik_bz3_0, ik_cmp, ik_cmpL, ik_eI, ik_eL, ik_as, ik_i0, ik_i1, decide_eq_true_eq, decide_eq_false_iff_not, decide_true, decide_false, Bool.not_true, Bool.not_false, reduceCtorEq, forall_const, false_implies, true_implies, implies_true, true_and, and_true, and_self, false_and, and_false, Bool.and_true, Bool.true_and, not_true_eq_false, not_false_eq_true, if_true, if_false, ite_true, ite_false, ik_bz3_0, ik_bz3_1, ik_bz0, h3', ge, ixK, Option.some.injEq, c20, e2 s3 h6, nI_pred, cT, upd_at, upd_off]
        refine ⟨B - (j + 1), by omega, j + 1, a / N, rfl, by omega, ?_, ?_, h5.si _ (by omega), fun b hb => ?_, h7, fun q hq => ?_⟩
        · by_cases k0 : K = 0
          · rw [k0, show B - (j + 1) = 0 by omega]
            rfl
          · rw [show B - (j + 1) = (K - 1) + 1 by omega, nI_pred, show K = (K - 1) + 1 by omega]
            exact pk_m1 _
        · have e := Nat.div_add_mod a N
          have : a + 1 = N * (a / N + 1) := by rw [Nat.mul_add, Nat.mul_one]; omega
          rw [h4, this, Nat.pow_succ, Nat.mul_assoc]
        · rw [ik_si_row _ _ _ _ _ hb]; exact h6 b hb
        · by_cases e : q = K
          · subst e
            rw [ik_si_same, if_pos (by omega)]
          · rw [ik_si_ne _ _ _ _ _ e, h8 q hq]
            by_cases c2 : B - j ≤ q
            · rw [if_pos c2, if_pos (by omega)]
            · rw [if_neg c2, if_neg (by omega)]
      · have cF := eq_false (fun z => c (eq.mp z))
        have nx := row_next (N := N) (B := B) (r := r) (j := j) (a := a) hN0 (by omega) h4 (by omega)
        have lt : r + 1 < N ^ B := by
          have pj : 0 < N ^ (j + 1) := Nat.pow_pos hN0
          obtain ⟨f, hf⟩ : ∃ f, B = (j + 1) + f := ⟨B - (j + 1), by omega⟩
          have er : r / N ^ j = a := by
            have pj' : 0 < N ^ j := Nat.pow_pos hN0
            have er : r = N ^ j * a + (N ^ j - 1) := by
              rw [Nat.mul_add, Nat.mul_one] at h4
              omega
            rw [er, Nat.mul_add_div pj', Nat.div_eq_of_lt (by omega), Nat.add_zero]
          have al : a < N ^ (f + 1) := by
            rw [← er]
            refine Nat.div_lt_of_lt_mul ?_
            rw [← Nat.pow_add, show j + (f + 1) = B by omega]
            exact hr
          have al2 : a + 1 < N ^ (f + 1) := by
            apply Classical.byContradiction
            intro n
            have ea : a + 1 = N ^ (f + 1) := by omega
            have : (a + 1) % N = 0 := by rw [ea, Nat.pow_succ]; exact Nat.mul_mod_left _ _
            have e1 : (a + 1) % N = a % N + 1 := by
              have e := Nat.div_add_mod a N
              rw [show a + 1 = N * (a / N) + (a % N + 1) by omega, Nat.mul_add_mod, Nat.mod_eq_of_lt (by omega)]
            omega
          rw [h4, show B = j + (f + 1) by omega, Nat.pow_add]
          exact Nat.mul_lt_mul_of_pos_left al2 (Nat.pow_pos hN0)
        rw [decide_eq_true lt]
        have bo : ik_bo 0 (nI (a % N)) 1 = some (nI (a % N + 1)) := by show some (nI _ + nI 1) = _; rw [nI_add]
        simp (decide := true) only [wE_lit, wL_lit, wE_loc, wL_loc, wE_add, wE_sub, wE_mul, wE_and, wE_or, wE_xor, wE_shl, wE_shr, wE_ushr, wE_div, wE_rem, wE_neg, wE_i2b, wE_l2i, wL_i2l, wL_add, wL_mul, wE_fld, wL_fld, wE_arr, wL_arr, wC_cmp, wC_cmp0, wC_cmpL, wC_and, wC_or, wC_not, wC_ite, wL_ite, wA_nil, wA_int, wA_long, wE_call, wL_call, wS_skip, wS_seq, wS_set, wS_setL, wS_inc, wS_if, wS_put, wS_putL, wS_putOp, wS_putOpL, wS_ast, wS_astL, wS_aop, wS_aopL, wS_ret, wS_retL, wS_retV, wS_do, wS_pop, wS_dead, wS_sw, wF_body, Nat.reduceAdd, Nat.zero_add, Bool.not_not, true_and, and_true, if_true, if_false, ↓reduceIte, eq_self, Value.int.injEq, Value.long.injEq, exists_eq_left', ik_b1, ik_b0, ik_bz0, ik_bz3, ik_bz3_1, ik_bz3_0, ik_cmp, ik_cmpL, ik_eI, ik_eL, ik_as, ik_i0, ik_i1, decide_eq_true_eq, decide_eq_false_iff_not, decide_true, decide_false, Bool.not_true, Bool.not_false, reduceCtorEq, forall_const, false_implies, true_implies, implies_true, true_and, and_true, and_self, false_and, and_false, Bool.and_true, Bool.true_and, not_true_eq_false, not_false_eq_true, if_true, if_false, ite_true, ite_false, ik_bz3_0, ik_bz3_1, ik_bz0, h3', ge, ng, ixK, Option.some.injEq, c20, e2 s3 h6, nI_pred, cF, bo, show ik_b2 true = 1 from rfl]
        refine ⟨h5.si _ (by omega), fun b hb => ?_, h7, fun _ q hq => ?_⟩
        · rw [ik_si_row _ _ _ _ _ hb]; exact h6 b hb
        · rw [nx q hq, ← hK]
          by_cases e : q = K
          · subst e
            rw [ik_si_same, if_pos rfl, top]
          · rw [ik_si_ne _ _ _ _ _ e, h8 q hq, if_neg e]
            by_cases c2 : B - j ≤ q
            · rw [if_pos c2, if_pos (by omega), nI_0]
            · rw [if_neg c2, if_neg (by omega)]
  · show upd (ik_eI 0 [.inr 0] []) 1 (nI (B - 1)) 1 = nI (B - 0) - 1
    rw [upd_at, Nat.sub_zero]
    obtain ⟨d, rfl⟩ : ∃ d, B = d + 1 := ⟨B - 1, by omega⟩
    exact (nI_pred d).symm
