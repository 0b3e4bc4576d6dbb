/-! a row of names, one for each bar, as a number of base 24 -/
def dgt (q k : Nat) : Nat := q / 24 ^ k % 24
def OKr (r : Int32) (B N : Nat) : Prop := ∃ q, q < 24 ^ B ∧ r = nI q ∧ ∀ k, k < B → dgt q k < N
theorem dgt_lt (q k : Nat) : dgt q k < 24 := Nat.mod_lt _ (by decide)
theorem dgt_z {q d : Nat} (hd : d < 24) : dgt (24 * q + d) 0 = d := by unfold dgt; simp only [Nat.pow_zero, Nat.div_one]; omega
theorem dgt_s (q d k : Nat) (hd : d < 24) : dgt (24 * q + d) (k + 1) = dgt q k := by
  unfold dgt
  rw [Nat.pow_succ, Nat.mul_comm (24 ^ k) 24, ← Nat.div_div_eq_div_mul, show (24 * q + d) / 24 = q by omega]
theorem pw24 {B : Nat} (h : B ≤ 4) : 24 ^ B ≤ 331776 := Nat.pow_le_pow_right (n := 24) (by decide) h
theorem nI_d24 {q : Nat} (hq : q < 2 ^ 31) : nI q / 24 = nI (q / 24) := by
  apply Int32.toInt_inj.mp
  rw [Int32.toInt_div_of_ne_right _ _ (by decide), nI_toInt hq, nI_toInt (by omega), show (24 : Int32).toInt = 24 from rfl]
  exact (Int.ofNat_tdiv q 24).symm
theorem nI_m24 {q : Nat} (hq : q < 2 ^ 31) : nI q - nI q / 24 * 24 = nI (q % 24) := by
  apply Int32.toInt_inj.mp
  rw [nI_d24 hq, show (24 : Int32) = nI 24 from rfl, pk_mul, Int32.toInt_sub, nI_toInt hq, nI_toInt (by omega), nI_toInt (by omega), show ((q : Int) - ((q / 24 * 24 : Nat) : Int)) = ((q % 24 : Nat) : Int) by omega]
  apply Int.bmod_eq_of_le <;> omega
theorem nI_m24' {q : Nat} (hq : q < 2 ^ 31) : nI q - nI (q / 24) * 24 = nI (q % 24) := by rw [← nI_d24 hq]; exact nI_m24 hq
theorem i32_dm (r : Int32) : r = r / 24 * 24 + (r - r / 24 * 24) := by
  rw [Int32.add_comm, Int32.sub_add_cancel]
theorem OKr_step {r : Int32} {B N d : Nat} (hB : B ≤ 3) (hN : N ≤ 24) (h : OKr (r / 24) B N) (hd : d < N) (e : r - r / 24 * 24 = nI d) : OKr r (B + 1) N := by
  obtain ⟨q, h1, h2, h3⟩ := h
  refine ⟨24 * q + d, by rw [Nat.pow_succ]; omega, ?_, fun k hk => ?_⟩
  · rw [i32_dm r, e, h2, show (24 : Int32) = nI 24 from rfl, pk_mul, nI_add, Nat.mul_comm]
  · cases k with
    | zero => rw [dgt_z (by omega)]; exact hd
    | succ k => rw [dgt_s _ _ _ (by omega)]; exact h3 k (by omega)
theorem eqX.s {x y : GG} (h : eqX x y) {a : Nat} (j : Nat) (v : Int32) (ha : a = 31 ∨ a = 59 ∨ a = 60 ∨ a = 64 ∨ a = 65) : eqX x (ik_si y a j v) := by
  have e : ∀ b, b ≠ 31 → b ≠ 59 → b ≠ 60 → b ≠ 64 → b ≠ 65 → (ik_si y a j v).1 b = y.1 b := fun b h1 h2 h3 h4 h5 => ik_si_row _ _ _ _ _ (by omega)
  refine ⟨fun b h1 h2 h3 h4 h5 h6 h7 h8 h9 h10 h11 h12 h13 h14 => ?_, fun k hk => ?_, fun k hk => ?_, fun k hk => ?_, fun k hk => ?_, h.2.2.2.2.2⟩
  · rw [e b h2 h10 h11 h13 h14]; exact h.1 b h1 h2 h3 h4 h5 h6 h7 h8 h9 h10 h11 h12 h13 h14
  all_goals rw [e _ (by decide) (by decide) (by decide) (by decide) (by decide)]
  · exact h.2.1 k hk
  · exact h.2.2.1 k hk
  · exact h.2.2.2.1 k hk
  · exact h.2.2.2.2.1 k hk
theorem w_rowsOf {g : GG} {B : Nat} (hB : B ≤ 4) (e : g.1 0 3 = nI B) (Q : Value → GG → Prop) : wF fX12_rowsOf [] g Q ↔ Q (.int (nI (24 ^ B))) g := by
  refine wF_eq (eq_of_wF ?_) Q
  unfold fX12_rowsOf
  simp (decide := true) only [wE_lit, wL_lit, wE_loc, wL_loc, wE_add, wE_sub, wE_mul, wE_and, wE_or, wE_xor, wE_shl, wE_shr, wE_ushr, wE_div, wE_rem, wE_neg, wE_i2b, wE_l2i, wL_i2l, wL_add, wL_mul, wE_fld, wL_fld, wE_arr, wL_arr, wC_cmp, wC_cmp0, wC_cmpL, wC_and, wC_or, wC_not, wC_ite, wL_ite, wA_nil, wA_int, wA_long, wE_call, wL_call, wS_skip, wS_seq, wS_set, wS_setL, wS_inc, wS_if, wS_put, wS_putL, wS_putOp, wS_putOpL, wS_ast, wS_astL, wS_aop, wS_aopL, wS_ret, wS_retL, wS_retV, wS_do, wS_pop, wS_dead, wS_sw, wF_body, Nat.reduceAdd, Nat.zero_add, Bool.not_not, true_and, and_true, if_true, if_false, ↓reduceIte, eq_self, Value.int.injEq, Value.long.injEq, exists_eq_left', ik_b1, ik_b0, ik_bz0, ik_bz3, ik_bz3_1, ik_bz3_0, ik_cmp, ik_cmpL, ik_eI, ik_eL, ik_as, ik_i0, ik_i1, decide_eq_true_eq, decide_eq_false_iff_not, decide_true, decide_false, Bool.not_true, Bool.not_false, reduceCtorEq, forall_const, false_implies, true_implies, implies_true, true_and, and_true, and_self, false_and, and_false, Bool.and_true, Bool.true_and, not_true_eq_false, not_false_eq_true, if_true, if_false, ite_true, ite_false, ik_bz3_0, ik_bz3_1, ik_bz0]
  refine wS_for _ _ (fun k σ => σ.1 2 = nI k ∧ σ.1 1 = nI (24 ^ k) ∧ σ.2.2 = g) 0 B _ ⟨by simp [upd, nI_0], by simp [upd]; rfl, rfl⟩ (by omega) (by omega) ?_ ?_ ?_
  · rintro k ⟨s1, s2, s3⟩ h1 ⟨h2, h3, h4⟩
    simp only at h2 h3 h4
    subst h4
    exact wc_1 e (by omega) h1 h2
  · rintro k ⟨s1, s2, s3⟩ h1 ⟨h2, h3, h4⟩
    simp only at h2 h3 h4
    subst h4
    simp (decide := true) only [wE_lit, wL_lit, wE_loc, wL_loc, wE_add, wE_sub, wE_mul, wE_and, wE_or, wE_xor, wE_shl, wE_shr, wE_ushr, wE_div, wE_rem, wE_neg, wE_i2b, wE_l2i, wL_i2l, wL_add, wL_mul, wE_fld, wL_fld, wE_arr, wL_arr, wC_cmp, wC_cmp0, wC_cmpL, wC_and, wC_or, wC_not, wC_ite, wL_ite, wA_nil, wA_int, wA_long, wE_call, wL_call, wS_skip, wS_seq, wS_set, wS_setL, wS_inc, wS_if, wS_put, wS_putL, wS_putOp, wS_putOpL, wS_ast, wS_astL, wS_aop, wS_aopL, wS_ret, wS_retL, wS_retV, wS_do, wS_pop, wS_dead, wS_sw, wF_body, Nat.reduceAdd, Nat.zero_add, Bool.not_not, true_and, and_true, if_true, if_false, ↓reduceIte, eq_self, Value.int.injEq, Value.long.injEq, exists_eq_left', ik_b1, ik_b0, ik_bz0, ik_bz3, ik_bz3_1, ik_bz3_0, ik_cmp, ik_cmpL, ik_eI, ik_eL, ik_as, ik_i0, ik_i1, decide_eq_true_eq, decide_eq_false_iff_not, decide_true, decide_false, Bool.not_true, Bool.not_false, reduceCtorEq, forall_const, false_implies, true_implies, implies_true, true_and, and_true, and_self, false_and, and_false, Bool.and_true, Bool.true_and, not_true_eq_false, not_false_eq_true, if_true, if_false, ite_true, ite_false, ik_bz3_0, ik_bz3_1, ik_bz0, upd_at, upd_off, h2, h3, show (24 : Int32) = nI 24 from rfl, pk_mul, nI_add, nI_1, Nat.pow_succ]
  · rintro ⟨s1, s2, s3⟩ ⟨h2, h3, h4⟩
    simp only at h3 h4
    subst h4
    simp (decide := true) only [wE_lit, wL_lit, wE_loc, wL_loc, wE_add, wE_sub, wE_mul, wE_and, wE_or, wE_xor, wE_shl, wE_shr, wE_ushr, wE_div, wE_rem, wE_neg, wE_i2b, wE_l2i, wL_i2l, wL_add, wL_mul, wE_fld, wL_fld, wE_arr, wL_arr, wC_cmp, wC_cmp0, wC_cmpL, wC_and, wC_or, wC_not, wC_ite, wL_ite, wA_nil, wA_int, wA_long, wE_call, wL_call, wS_skip, wS_seq, wS_set, wS_setL, wS_inc, wS_if, wS_put, wS_putL, wS_putOp, wS_putOpL, wS_ast, wS_astL, wS_aop, wS_aopL, wS_ret, wS_retL, wS_retV, wS_do, wS_pop, wS_dead, wS_sw, wF_body, Nat.reduceAdd, Nat.zero_add, Bool.not_not, true_and, and_true, if_true, if_false, ↓reduceIte, eq_self, Value.int.injEq, Value.long.injEq, exists_eq_left', ik_b1, ik_b0, ik_bz0, ik_bz3, ik_bz3_1, ik_bz3_0, ik_cmp, ik_cmpL, ik_eI, ik_eL, ik_as, ik_i0, ik_i1, decide_eq_true_eq, decide_eq_false_iff_not, decide_true, decide_false, Bool.not_true, Bool.not_false, reduceCtorEq, forall_const, false_implies, true_implies, implies_true, true_and, and_true, and_self, false_and, and_false, Bool.and_true, Bool.true_and, not_true_eq_false, not_false_eq_true, if_true, if_false, ite_true, ite_false, ik_bz3_0, ik_bz3_1, ik_bz0, h3]
theorem w_takes1 {m g : GG} {N B q : Nat} (hN : N ≤ 24) (eN : m.1 0 2 = nI N) (hB : B ≤ 4) (eB : m.1 0 3 = nI B) (hm : eqM m g) (hq : q < 24 ^ B) (hd : ∀ k, k < B → dgt q k < N) : wF fX12_takes [.int (nI q)] g (fun v g' => v = .int 1 ∧ eqM m g' ∧ ∀ k, k < B → g'.1 20 k = nI (dgt q k)) := by
  have hp := pw24 hB
  unfold fX12_takes
  simp (decide := true) only [wE_lit, wL_lit, wE_loc, wL_loc, wE_add, wE_sub, wE_mul, wE_and, wE_or, wE_xor, wE_shl, wE_shr, wE_ushr, wE_div, wE_rem, wE_neg, wE_i2b, wE_l2i, wL_i2l, wL_add, wL_mul, wE_fld, wL_fld, wE_arr, wL_arr, wC_cmp, wC_cmp0, wC_cmpL, wC_and, wC_or, wC_not, wC_ite, wL_ite, wA_nil, wA_int, wA_long, wE_call, wL_call, wS_skip, wS_seq, wS_set, wS_setL, wS_inc, wS_if, wS_put, wS_putL, wS_putOp, wS_putOpL, wS_ast, wS_astL, wS_aop, wS_aopL, wS_ret, wS_retL, wS_retV, wS_do, wS_pop, wS_dead, wS_sw, wF_body, Nat.reduceAdd, Nat.zero_add, Bool.not_not, true_and, and_true, if_true, if_false, ↓reduceIte, eq_self, Value.int.injEq, Value.long.injEq, exists_eq_left', ik_b1, ik_b0, ik_bz0, ik_bz3, ik_bz3_1, ik_bz3_0, ik_cmp, ik_cmpL, ik_eI, ik_eL, ik_as, ik_i0, ik_i1, decide_eq_true_eq, decide_eq_false_iff_not, decide_true, decide_false, Bool.not_true, Bool.not_false, reduceCtorEq, forall_const, false_implies, true_implies, implies_true, true_and, and_true, and_self, false_and, and_false, Bool.and_true, Bool.true_and, not_true_eq_false, not_false_eq_true, if_true, if_false, ite_true, ite_false, ik_bz3_0, ik_bz3_1, ik_bz0]
  refine wS_for _ _ (fun k σ => σ.1 3 = nI k ∧ σ.1 2 = nI (q / 24 ^ k) ∧ eqM m σ.2.2 ∧ ∀ j, j < k → σ.2.2.1 20 j = nI (dgt q j)) 0 B _ ⟨by simp [upd, ik_eI, nI_0], by simp [upd], hm, fun j hj => by omega⟩ (by omega) (by omega) ?_ ?_ ?_
  · rintro k ⟨s1, s2, s3⟩ h1 ⟨h2, h3, h4, h5⟩
    simp only at h2 h3 h4 h5
    exact wc_1 (by rw [h4.2 3 (by decide)]; exact eB) (by omega) h1 h2
  · rintro k ⟨s1, s2, s3⟩ h1 ⟨h2, h3, h4, h5⟩
    simp only at h2 h3 h4 h5
    have hle : q / 24 ^ k ≤ q := Nat.div_le_self _ _
    have dk := hd k h1
    have ed : q / 24 ^ k % 24 = dgt q k := rfl
    have nle : ¬ nI N ≤ nI (dgt q k) := by rw [Int32.not_le]; exact nI_lt dk (by omega)
    have e3 := h4.si (a := 20) (j := k) (nI (dgt q k)) (by omega)
    have eN' : (ik_si s3 20 k (nI (dgt q k))).1 0 2 = nI N := by rw [e3.2 2 (by decide)]; exact eN
    have eA : (ik_si s3 20 k (nI (dgt q k))).1 20 k = nI (dgt q k) := ik_si_same _ _ _ _
    simp (decide := true) only [wE_lit, wL_lit, wE_loc, wL_loc, wE_add, wE_sub, wE_mul, wE_and, wE_or, wE_xor, wE_shl, wE_shr, wE_ushr, wE_div, wE_rem, wE_neg, wE_i2b, wE_l2i, wL_i2l, wL_add, wL_mul, wE_fld, wL_fld, wE_arr, wL_arr, wC_cmp, wC_cmp0, wC_cmpL, wC_and, wC_or, wC_not, wC_ite, wL_ite, wA_nil, wA_int, wA_long, wE_call, wL_call, wS_skip, wS_seq, wS_set, wS_setL, wS_inc, wS_if, wS_put, wS_putL, wS_putOp, wS_putOpL, wS_ast, wS_astL, wS_aop, wS_aopL, wS_ret, wS_retL, wS_retV, wS_do, wS_pop, wS_dead, wS_sw, wF_body, Nat.reduceAdd, Nat.zero_add, Bool.not_not, true_and, and_true, if_true, if_false, ↓reduceIte, eq_self, Value.int.injEq, Value.long.injEq, exists_eq_left', ik_b1, ik_b0, ik_bz0, ik_bz3, ik_bz3_1, ik_bz3_0, ik_cmp, ik_cmpL, ik_eI, ik_eL, ik_as, ik_i0, ik_i1, decide_eq_true_eq, decide_eq_false_iff_not, decide_true, decide_false, Bool.not_true, Bool.not_false, reduceCtorEq, forall_const, false_implies, true_implies, implies_true, true_and, and_true, and_self, false_and, and_false, Bool.and_true, Bool.true_and, not_true_eq_false, not_false_eq_true, if_true, if_false, ite_true, ite_false, ik_bz3_0, ik_bz3_1, ik_bz0, upd_at, upd_off, h2, h3, ik_ix_nI (show k < 4 by omega) (by omega), Option.some.injEq, nI_m24' (show q / 24 ^ k < 2 ^ 31 by omega), nI_d24 (show q / 24 ^ k < 2 ^ 31 by omega), ed, eN', eA, nle, nI_add, nI_1]
    refine ⟨?_, e3, fun j hj => ?_⟩
    · rw [Nat.pow_succ, Nat.div_div_eq_div_mul]
    · by_cases e : j = k
      · subst e; exact eA
      · rw [ik_si_ne _ _ _ _ _ (by omega)]; exact h5 j (by omega)
  · rintro ⟨s1, s2, s3⟩ ⟨h2, h3, h4, h5⟩
    simp only at h4 h5
    simp (decide := true) only [wE_lit, wL_lit, wE_loc, wL_loc, wE_add, wE_sub, wE_mul, wE_and, wE_or, wE_xor, wE_shl, wE_shr, wE_ushr, wE_div, wE_rem, wE_neg, wE_i2b, wE_l2i, wL_i2l, wL_add, wL_mul, wE_fld, wL_fld, wE_arr, wL_arr, wC_cmp, wC_cmp0, wC_cmpL, wC_and, wC_or, wC_not, wC_ite, wL_ite, wA_nil, wA_int, wA_long, wE_call, wL_call, wS_skip, wS_seq, wS_set, wS_setL, wS_inc, wS_if, wS_put, wS_putL, wS_putOp, wS_putOpL, wS_ast, wS_astL, wS_aop, wS_aopL, wS_ret, wS_retL, wS_retV, wS_do, wS_pop, wS_dead, wS_sw, wF_body, Nat.reduceAdd, Nat.zero_add, Bool.not_not, true_and, and_true, if_true, if_false, ↓reduceIte, eq_self, Value.int.injEq, Value.long.injEq, exists_eq_left', ik_b1, ik_b0, ik_bz0, ik_bz3, ik_bz3_1, ik_bz3_0, ik_cmp, ik_cmpL, ik_eI, ik_eL, ik_as, ik_i0, ik_i1, decide_eq_true_eq, decide_eq_false_iff_not, decide_true, decide_false, Bool.not_true, Bool.not_false, reduceCtorEq, forall_const, false_implies, true_implies, implies_true, true_and, and_true, and_self, false_and, and_false, Bool.and_true, Bool.true_and, not_true_eq_false, not_false_eq_true, if_true, if_false, ite_true, ite_false, ik_bz3_0, ik_bz3_1, ik_bz0]
    exact ⟨h4, h5⟩
theorem w_takes0 {m g : GG} {N B : Nat} {r : Int32} (hN : N ≤ 24) (eN : m.1 0 2 = nI N) (hB : B ≤ 4) (eB : m.1 0 3 = nI B) (hm : eqM m g) {q : Nat} (hq : q < 24 ^ B) (hd : ¬ ∀ k, k < B → dgt q k < N) : wF fX12_takes [.int (nI q)] g (fun v g' => v = .int 0 ∧ eqM m g') := by
  have hp := pw24 hB
  unfold fX12_takes
  simp (decide := true) only [wE_lit, wL_lit, wE_loc, wL_loc, wE_add, wE_sub, wE_mul, wE_and, wE_or, wE_xor, wE_shl, wE_shr, wE_ushr, wE_div, wE_rem, wE_neg, wE_i2b, wE_l2i, wL_i2l, wL_add, wL_mul, wE_fld, wL_fld, wE_arr, wL_arr, wC_cmp, wC_cmp0, wC_cmpL, wC_and, wC_or, wC_not, wC_ite, wL_ite, wA_nil, wA_int, wA_long, wE_call, wL_call, wS_skip, wS_seq, wS_set, wS_setL, wS_inc, wS_if, wS_put, wS_putL, wS_putOp, wS_putOpL, wS_ast, wS_astL, wS_aop, wS_aopL, wS_ret, wS_retL, wS_retV, wS_do, wS_pop, wS_dead, wS_sw, wF_body, Nat.reduceAdd, Nat.zero_add, Bool.not_not, true_and, and_true, if_true, if_false, ↓reduceIte, eq_self, Value.int.injEq, Value.long.injEq, exists_eq_left', ik_b1, ik_b0, ik_bz0, ik_bz3, ik_bz3_1, ik_bz3_0, ik_cmp, ik_cmpL, ik_eI, ik_eL, ik_as, ik_i0, ik_i1, decide_eq_true_eq, decide_eq_false_iff_not, decide_true, decide_false, Bool.not_true, Bool.not_false, reduceCtorEq, forall_const, false_implies, true_implies, implies_true, true_and, and_true, and_self, false_and, and_false, Bool.and_true, Bool.true_and, not_true_eq_false, not_false_eq_true, if_true, if_false, ite_true, ite_false, ik_bz3_0, ik_bz3_1, ik_bz0]
  refine wS_for _ _ (fun k σ => σ.1 3 = nI k ∧ σ.1 2 = nI (q / 24 ^ k) ∧ eqM m σ.2.2 ∧ ∀ j, j < k → dgt q j < N) 0 B _ ⟨by simp [upd, ik_eI, nI_0], by simp [upd], hm, fun j hj => by omega⟩ (by omega) (by omega) ?_ ?_ ?_
  · rintro k ⟨s1, s2, s3⟩ h1 ⟨h2, h3, h4, h5⟩
    simp only at h2 h3 h4 h5
    exact wc_1 (by rw [h4.2 3 (by decide)]; exact eB) (by omega) h1 h2
  · rintro k ⟨s1, s2, s3⟩ h1 ⟨h2, h3, h4, h5⟩
    simp only at h2 h3 h4 h5
    have hle : q / 24 ^ k ≤ q := Nat.div_le_self _ _
    have ed : q / 24 ^ k % 24 = dgt q k := rfl
    have dl := dgt_lt q k
    have e3 := h4.si (a := 20) (j := k) (nI (dgt q k)) (by omega)
    have eN' : (ik_si s3 20 k (nI (dgt q k))).1 0 2 = nI N := by rw [e3.2 2 (by decide)]; exact eN
    have eA : (ik_si s3 20 k (nI (dgt q k))).1 20 k = nI (dgt q k) := ik_si_same _ _ _ _
    by_cases dk : dgt q k < N
    · have nle : ¬ nI N ≤ nI (dgt q k) := by rw [Int32.not_le]; exact nI_lt dk (by omega)
      simp (decide := true) only [wE_lit, wL_lit, wE_loc, wL_loc, wE_add, wE_sub, wE_mul, wE_and, wE_or, wE_xor, wE_shl, wE_shr, wE_ushr, wE_div, wE_rem, wE_neg, wE_i2b, wE_l2i, wL_i2l, wL_add, wL_mul, wE_fld, wL_fld, wE_arr, wL_arr, wC_cmp, wC_cmp0, wC_cmpL, wC_and, wC_or, wC_not, wC_ite, wL_ite, wA_nil, wA_int, wA_long, wE_call, wL_call, wS_skip, wS_seq, wS_set, wS_setL, wS_inc, wS_if, wS_put, wS_putL, wS_putOp, wS_putOpL, wS_ast, wS_astL, wS_aop, wS_aopL, wS_ret, wS_retL, wS_retV, wS_do, wS_pop, wS_dead, wS_sw, wF_body, Nat.reduceAdd, Nat.zero_add, Bool.not_not, true_and, and_true, if_true, if_false, ↓reduceIte, eq_self, Value.int.injEq, Value.long.injEq, exists_eq_left', ik_b1, ik_b0, ik_bz0, ik_bz3, ik_bz3_1, ik_bz3_0, ik_cmp, ik_cmpL, ik_eI, ik_eL, ik_as, ik_i0, ik_i1, decide_eq_true_eq, decide_eq_false_iff_not, decide_true, decide_false, Bool.not_true, Bool.not_false, reduceCtorEq, forall_const, false_implies, true_implies, implies_true, true_and, and_true, and_self, false_and, and_false, Bool.and_true, Bool.true_and, not_true_eq_false, not_false_eq_true, if_true, if_false, ite_true, ite_false, ik_bz3_0, ik_bz3_1, ik_bz0, upd_at, upd_off, h2, h3, ik_ix_nI (show k < 4 by omega) (by omega), Option.some.injEq, nI_m24' (show q / 24 ^ k < 2 ^ 31 by omega), nI_d24 (show q / 24 ^ k < 2 ^ 31 by omega), ed, eN', eA, nle, nI_add, nI_1]
      refine ⟨?_, e3, fun j hj => ?_⟩
      · rw [Nat.pow_succ, Nat.div_div_eq_div_mul]
      · by_cases e : j = k
        · subst e; exact dk
        · exact h5 j (by omega)
    · have nle : nI N ≤ nI (dgt q k) := by rw [Int32.le_iff_toInt_le, nI_toInt (by omega), nI_toInt (by omega)]; omega
      simp (decide := true) only [wE_lit, wL_lit, wE_loc, wL_loc, wE_add, wE_sub, wE_mul, wE_and, wE_or, wE_xor, wE_shl, wE_shr, wE_ushr, wE_div, wE_rem, wE_neg, wE_i2b, wE_l2i, wL_i2l, wL_add, wL_mul, wE_fld, wL_fld, wE_arr, wL_arr, wC_cmp, wC_cmp0, wC_cmpL, wC_and, wC_or, wC_not, wC_ite, wL_ite, wA_nil, wA_int, wA_long, wE_call, wL_call, wS_skip, wS_seq, wS_set, wS_setL, wS_inc, wS_if, wS_put, wS_putL, wS_putOp, wS_putOpL, wS_ast, wS_astL, wS_aop, wS_aopL, wS_ret, wS_retL, wS_retV, wS_do, wS_pop, wS_dead, wS_sw, wF_body, Nat.reduceAdd, Nat.zero_add, Bool.not_not, true_and, and_true, if_true, if_false, ↓reduceIte, eq_self, Value.int.injEq, Value.long.injEq, exists_eq_left', ik_b1, ik_b0, ik_bz0, ik_bz3, ik_bz3_1, ik_bz3_0, ik_cmp, ik_cmpL, ik_eI, ik_eL, ik_as, ik_i0, ik_i1, decide_eq_true_eq, decide_eq_false_iff_not, decide_true, decide_false, Bool.not_true, Bool.not_false, reduceCtorEq, forall_const, false_implies, true_implies, implies_true, true_and, and_true, and_self, false_and, and_false, Bool.and_true, Bool.true_and, not_true_eq_false, not_false_eq_true, if_true, if_false, ite_true, ite_false, ik_bz3_0, ik_bz3_1, ik_bz0, upd_at, upd_off, h2, h3, ik_ix_nI (show k < 4 by omega) (by omega), Option.some.injEq, nI_m24' (show q / 24 ^ k < 2 ^ 31 by omega), nI_d24 (show q / 24 ^ k < 2 ^ 31 by omega), ed, eN', eA, nle, nI_add, nI_1]
      exact e3
  · rintro ⟨s1, s2, s3⟩ ⟨h2, h3, h4, h5⟩
    exact absurd h5 hd
theorem wc_bars {y : GG} {B k i : Nat} {s1 : Nat → Int32} {s2 : Nat → Int64} (hB : B ≤ 4) (e : y.1 15 9 = nI B) (hk : k ≤ B) (h : s1 i = nI k) : wC (sAnd (sCmp 2 (sLoc i) (sCall fX0_count sNil)) (sCmp 2 (sLoc i) (sLit 4))) (s1, s2, y) (fun b g => b = decide (k < B) ∧ g = y) := by
  simp (decide := true) only [wE_lit, wL_lit, wE_loc, wL_loc, wE_add, wE_sub, wE_mul, wE_and, wE_or, wE_xor, wE_shl, wE_shr, wE_ushr, wE_div, wE_rem, wE_neg, wE_i2b, wE_l2i, wL_i2l, wL_add, wL_mul, wE_fld, wL_fld, wE_arr, wL_arr, wC_cmp, wC_cmp0, wC_cmpL, wC_and, wC_or, wC_not, wC_ite, wL_ite, wA_nil, wA_int, wA_long, wE_call, wL_call, wS_skip, wS_seq, wS_set, wS_setL, wS_inc, wS_if, wS_put, wS_putL, wS_putOp, wS_putOpL, wS_ast, wS_astL, wS_aop, wS_aopL, wS_ret, wS_retL, wS_retV, wS_do, wS_pop, wS_dead, wS_sw, wF_body, Nat.reduceAdd, Nat.zero_add, Bool.not_not, true_and, and_true, if_true, if_false, ↓reduceIte, eq_self, Value.int.injEq, Value.long.injEq, exists_eq_left', ik_b1, ik_b0, ik_bz0, ik_bz3, ik_bz3_1, ik_bz3_0, ik_cmp, ik_cmpL, ik_eI, ik_eL, ik_as, ik_i0, ik_i1, decide_eq_true_eq, decide_eq_false_iff_not, decide_true, decide_false, Bool.not_true, Bool.not_false, reduceCtorEq, forall_const, false_implies, true_implies, implies_true, true_and, and_true, and_self, false_and, and_false, Bool.and_true, Bool.true_and, not_true_eq_false, not_false_eq_true, if_true, if_false, ite_true, ite_false, ik_bz3_0, ik_bz3_1, ik_bz0, fX0_count, h, e, nI_ltI (show k < 2 ^ 31 by omega) (show B < 2 ^ 31 by omega), show (4 : Int32) = nI 4 from rfl, nI_ltI (show k < 2 ^ 31 by omega) (show 4 < 2 ^ 31 by omega)]
  by_cases h1 : k < B
  · have h2 : k < 4 := by omega
    simp [h1, h2]
  · simp [h1]
theorem w_lay1 {x m y : GG} {N B S q : Nat} (h : rE x m N B S) (hx : eqX x y) (hq : q < 24 ^ B) (hd : ∀ k, k < B → dgt q k < N) : wF fX11_lay [.int (nI q)] y (fun v g => v = .int 1 ∧ eqX x g ∧ ∀ k, k < B → g.1 64 k = nI (dgt q k) ∧ g.1 65 k = ik_nw m (dgt q k)) := by
  have hB := h.2.2.2.1.1
  have hN := h.2.2.1.1
  have hp := pw24 hB
  unfold fX11_lay
  simp (decide := true) only [wE_lit, wL_lit, wE_loc, wL_loc, wE_add, wE_sub, wE_mul, wE_and, wE_or, wE_xor, wE_shl, wE_shr, wE_ushr, wE_div, wE_rem, wE_neg, wE_i2b, wE_l2i, wL_i2l, wL_add, wL_mul, wE_fld, wL_fld, wE_arr, wL_arr, wC_cmp, wC_cmp0, wC_cmpL, wC_and, wC_or, wC_not, wC_ite, wL_ite, wA_nil, wA_int, wA_long, wE_call, wL_call, wS_skip, wS_seq, wS_set, wS_setL, wS_inc, wS_if, wS_put, wS_putL, wS_putOp, wS_putOpL, wS_ast, wS_astL, wS_aop, wS_aopL, wS_ret, wS_retL, wS_retV, wS_do, wS_pop, wS_dead, wS_sw, wF_body, Nat.reduceAdd, Nat.zero_add, Bool.not_not, true_and, and_true, if_true, if_false, ↓reduceIte, eq_self, Value.int.injEq, Value.long.injEq, exists_eq_left', ik_b1, ik_b0, ik_bz0, ik_bz3, ik_bz3_1, ik_bz3_0, ik_cmp, ik_cmpL, ik_eI, ik_eL, ik_as, ik_i0, ik_i1, decide_eq_true_eq, decide_eq_false_iff_not, decide_true, decide_false, Bool.not_true, Bool.not_false, reduceCtorEq, forall_const, false_implies, true_implies, implies_true, true_and, and_true, and_self, false_and, and_false, Bool.and_true, Bool.true_and, not_true_eq_false, not_false_eq_true, if_true, if_false, ite_true, ite_false, ik_bz3_0, ik_bz3_1, ik_bz0]
  refine wS_for _ _ (fun k σ => σ.1 3 = nI k ∧ σ.1 2 = nI (q / 24 ^ k) ∧ eqX x σ.2.2 ∧ ∀ j, j < k → σ.2.2.1 64 j = nI (dgt q j) ∧ σ.2.2.1 65 j = ik_nw m (dgt q j)) 0 B _ ⟨by simp [upd, ik_eI, nI_0], by simp [upd], hx, fun j hj => by omega⟩ (by omega) (by omega) ?_ ?_ ?_
  · rintro k ⟨s1, s2, s3⟩ h1 ⟨h2, h3, h4, h5⟩
    simp only at h2 h3 h4 h5
    exact wc_bars hB (h.eq h4 (eqM.rfl' m)).2.2.2.1.2.1 h1 h2
  · rintro k ⟨s1, s2, s3⟩ h1 ⟨h2, h3, h4, h5⟩
    simp only at h2 h3 h4 h5
    have hle : q / 24 ^ k ≤ q := Nat.div_le_self _ _
    have dk := hd k h1
    have ed : q / 24 ^ k % 24 = dgt q k := rfl
    have a1 := h.eq h4 (eqM.rfl' m)
    have e3 := h4.s (a := 64) k (nI (dgt q k)) (by omega)
    have a2 := h.eq e3 (eqM.rfl' m)
    have e4 := e3.s (a := 65) k (ik_nw m (dgt q k)) (by omega)
    have ok := isI_nI (show N < 2 ^ 31 by omega) dk
    have fN : ∀ Q : Value → GG → Prop, wF fX6_has [.int (nI (dgt q k))] s3 Q ↔ Q (.int 1) s3 := fun Q => by rw [w_nameHas a1.2.2.1.2.1 hN (nI (dgt q k)), if_pos ok]
    have wd := w_wide6 a2.2.1 a2.2.2.1 dk
    simp (decide := true) only [wE_lit, wL_lit, wE_loc, wL_loc, wE_add, wE_sub, wE_mul, wE_and, wE_or, wE_xor, wE_shl, wE_shr, wE_ushr, wE_div, wE_rem, wE_neg, wE_i2b, wE_l2i, wL_i2l, wL_add, wL_mul, wE_fld, wL_fld, wE_arr, wL_arr, wC_cmp, wC_cmp0, wC_cmpL, wC_and, wC_or, wC_not, wC_ite, wL_ite, wA_nil, wA_int, wA_long, wE_call, wL_call, wS_skip, wS_seq, wS_set, wS_setL, wS_inc, wS_if, wS_put, wS_putL, wS_putOp, wS_putOpL, wS_ast, wS_astL, wS_aop, wS_aopL, wS_ret, wS_retL, wS_retV, wS_do, wS_pop, wS_dead, wS_sw, wF_body, Nat.reduceAdd, Nat.zero_add, Bool.not_not, true_and, and_true, if_true, if_false, ↓reduceIte, eq_self, Value.int.injEq, Value.long.injEq, exists_eq_left', ik_b1, ik_b0, ik_bz0, ik_bz3, ik_bz3_1, ik_bz3_0, ik_cmp, ik_cmpL, ik_eI, ik_eL, ik_as, ik_i0, ik_i1, decide_eq_true_eq, decide_eq_false_iff_not, decide_true, decide_false, Bool.not_true, Bool.not_false, reduceCtorEq, forall_const, false_implies, true_implies, implies_true, true_and, and_true, and_self, false_and, and_false, Bool.and_true, Bool.true_and, not_true_eq_false, not_false_eq_true, if_true, if_false, ite_true, ite_false, ik_bz3_0, ik_bz3_1, ik_bz0, upd_at, upd_off, h2, h3, ik_ix_nI (show k < 4 by omega) (by omega), Option.some.injEq, nI_m24' (show q / 24 ^ k < 2 ^ 31 by omega), nI_d24 (show q / 24 ^ k < 2 ^ 31 by omega), ed, fN, wd, nI_add, nI_1]
    refine ⟨?_, e4, fun j hj => ?_⟩
    · rw [Nat.pow_succ, Nat.div_div_eq_div_mul]
    · by_cases e : j = k
      · subst e
        exact ⟨by rw [ik_si_row _ _ _ _ _ (by decide)]; exact ik_si_same _ _ _ _, ik_si_same _ _ _ _⟩
      · rw [ik_si_row _ _ _ _ _ (by decide), ik_si_ne _ _ _ _ _ e, ik_si_ne _ _ _ _ _ e, ik_si_row _ _ _ _ _ (by decide)]; exact h5 j (by omega)
  · rintro ⟨s1, s2, s3⟩ ⟨h2, h3, h4, h5⟩
    simp only at h3 h4 h5
    rw [Nat.div_eq_of_lt hq, nI_0] at h3
    simp (decide := true) only [wE_lit, wL_lit, wE_loc, wL_loc, wE_add, wE_sub, wE_mul, wE_and, wE_or, wE_xor, wE_shl, wE_shr, wE_ushr, wE_div, wE_rem, wE_neg, wE_i2b, wE_l2i, wL_i2l, wL_add, wL_mul, wE_fld, wL_fld, wE_arr, wL_arr, wC_cmp, wC_cmp0, wC_cmpL, wC_and, wC_or, wC_not, wC_ite, wL_ite, wA_nil, wA_int, wA_long, wE_call, wL_call, wS_skip, wS_seq, wS_set, wS_setL, wS_inc, wS_if, wS_put, wS_putL, wS_putOp, wS_putOpL, wS_ast, wS_astL, wS_aop, wS_aopL, wS_ret, wS_retL, wS_retV, wS_do, wS_pop, wS_dead, wS_sw, wF_body, Nat.reduceAdd, Nat.zero_add, Bool.not_not, true_and, and_true, if_true, if_false, ↓reduceIte, eq_self, Value.int.injEq, Value.long.injEq, exists_eq_left', ik_b1, ik_b0, ik_bz0, ik_bz3, ik_bz3_1, ik_bz3_0, ik_cmp, ik_cmpL, ik_eI, ik_eL, ik_as, ik_i0, ik_i1, decide_eq_true_eq, decide_eq_false_iff_not, decide_true, decide_false, Bool.not_true, Bool.not_false, reduceCtorEq, forall_const, false_implies, true_implies, implies_true, true_and, and_true, and_self, false_and, and_false, Bool.and_true, Bool.true_and, not_true_eq_false, not_false_eq_true, if_true, if_false, ite_true, ite_false, ik_bz3_0, ik_bz3_1, ik_bz0, wE_ite, h3]
    exact ⟨h4, h5⟩
theorem w_lay0 {x m y : GG} {N B S : Nat} {r : Int32} (h : rE x m N B S) (hx : eqX x y) (hr : ¬ OKr r B N) : wF fX11_lay [.int r] y (fun v g => v = .int 0 ∧ eqX x g) := by
  have hB := h.2.2.2.1.1
  have hN := h.2.2.1.1
  unfold fX11_lay
  simp (decide := true) only [wE_lit, wL_lit, wE_loc, wL_loc, wE_add, wE_sub, wE_mul, wE_and, wE_or, wE_xor, wE_shl, wE_shr, wE_ushr, wE_div, wE_rem, wE_neg, wE_i2b, wE_l2i, wL_i2l, wL_add, wL_mul, wE_fld, wL_fld, wE_arr, wL_arr, wC_cmp, wC_cmp0, wC_cmpL, wC_and, wC_or, wC_not, wC_ite, wL_ite, wA_nil, wA_int, wA_long, wE_call, wL_call, wS_skip, wS_seq, wS_set, wS_setL, wS_inc, wS_if, wS_put, wS_putL, wS_putOp, wS_putOpL, wS_ast, wS_astL, wS_aop, wS_aopL, wS_ret, wS_retL, wS_retV, wS_do, wS_pop, wS_dead, wS_sw, wF_body, Nat.reduceAdd, Nat.zero_add, Bool.not_not, true_and, and_true, if_true, if_false, ↓reduceIte, eq_self, Value.int.injEq, Value.long.injEq, exists_eq_left', ik_b1, ik_b0, ik_bz0, ik_bz3, ik_bz3_1, ik_bz3_0, ik_cmp, ik_cmpL, ik_eI, ik_eL, ik_as, ik_i0, ik_i1, decide_eq_true_eq, decide_eq_false_iff_not, decide_true, decide_false, Bool.not_true, Bool.not_false, reduceCtorEq, forall_const, false_implies, true_implies, implies_true, true_and, and_true, and_self, false_and, and_false, Bool.and_true, Bool.true_and, not_true_eq_false, not_false_eq_true, if_true, if_false, ite_true, ite_false, ik_bz3_0, ik_bz3_1, ik_bz0]
  refine wS_for _ _ (fun k σ => σ.1 3 = nI k ∧ eqX x σ.2.2 ∧ ¬ OKr (σ.1 2) (B - k) N) 0 B _ ⟨by simp [upd, ik_eI, nI_0], hx, by simpa [upd] using hr⟩ (by omega) (by omega) ?_ ?_ ?_
  · rintro k ⟨s1, s2, s3⟩ h1 ⟨h2, h3, h4⟩
    simp only at h2 h3 h4
    exact wc_bars hB (h.eq h3 (eqM.rfl' m)).2.2.2.1.2.1 h1 h2
  · rintro k ⟨s1, s2, s3⟩ h1 ⟨h2, h3, h4⟩
    simp only at h2 h3 h4
    have a1 := h.eq h3 (eqM.rfl' m)
    by_cases ok : isI (s1 2 - s1 2 / 24 * 24) N
    · have fN : ∀ Q : Value → GG → Prop, wF fX6_has [.int (s1 2 - s1 2 / 24 * 24)] s3 Q ↔ Q (.int 1) s3 := fun Q => by rw [w_nameHas a1.2.2.1.2.1 hN, if_pos ok]
      obtain ⟨d, d1, d2⟩ := isI_ex (by omega) ok
      have e3 := h3.s (a := 64) k (nI d) (by omega)
      have a2 := h.eq e3 (eqM.rfl' m)
      have e4 := e3.s (a := 65) k (ik_nw m d) (by omega)
      have wd := w_wide6 a2.2.1 a2.2.2.1 d1
      rw [d2] at fN
      simp (decide := true) only [wE_lit, wL_lit, wE_loc, wL_loc, wE_add, wE_sub, wE_mul, wE_and, wE_or, wE_xor, wE_shl, wE_shr, wE_ushr, wE_div, wE_rem, wE_neg, wE_i2b, wE_l2i, wL_i2l, wL_add, wL_mul, wE_fld, wL_fld, wE_arr, wL_arr, wC_cmp, wC_cmp0, wC_cmpL, wC_and, wC_or, wC_not, wC_ite, wL_ite, wA_nil, wA_int, wA_long, wE_call, wL_call, wS_skip, wS_seq, wS_set, wS_setL, wS_inc, wS_if, wS_put, wS_putL, wS_putOp, wS_putOpL, wS_ast, wS_astL, wS_aop, wS_aopL, wS_ret, wS_retL, wS_retV, wS_do, wS_pop, wS_dead, wS_sw, wF_body, Nat.reduceAdd, Nat.zero_add, Bool.not_not, true_and, and_true, if_true, if_false, ↓reduceIte, eq_self, Value.int.injEq, Value.long.injEq, exists_eq_left', ik_b1, ik_b0, ik_bz0, ik_bz3, ik_bz3_1, ik_bz3_0, ik_cmp, ik_cmpL, ik_eI, ik_eL, ik_as, ik_i0, ik_i1, decide_eq_true_eq, decide_eq_false_iff_not, decide_true, decide_false, Bool.not_true, Bool.not_false, reduceCtorEq, forall_const, false_implies, true_implies, implies_true, true_and, and_true, and_self, false_and, and_false, Bool.and_true, Bool.true_and, not_true_eq_false, not_false_eq_true, if_true, if_false, ite_true, ite_false, ik_bz3_0, ik_bz3_1, ik_bz0, upd_at, upd_off, h2, d2, ik_ix_nI (show k < 4 by omega) (by omega), Option.some.injEq, fN, wd, nI_add, nI_1]
      refine ⟨e4, fun hk => h4 ?_⟩
      rw [show B - k = (B - (k + 1)) + 1 by omega]
      exact OKr_step (by omega) hN hk d1 d2
    · have fN : ∀ Q : Value → GG → Prop, wF fX6_has [.int (s1 2 - s1 2 / 24 * 24)] s3 Q ↔ Q (.int 0) s3 := fun Q => by rw [w_nameHas a1.2.2.1.2.1 hN, if_neg ok]
      simp (decide := true) only [wE_lit, wL_lit, wE_loc, wL_loc, wE_add, wE_sub, wE_mul, wE_and, wE_or, wE_xor, wE_shl, wE_shr, wE_ushr, wE_div, wE_rem, wE_neg, wE_i2b, wE_l2i, wL_i2l, wL_add, wL_mul, wE_fld, wL_fld, wE_arr, wL_arr, wC_cmp, wC_cmp0, wC_cmpL, wC_and, wC_or, wC_not, wC_ite, wL_ite, wA_nil, wA_int, wA_long, wE_call, wL_call, wS_skip, wS_seq, wS_set, wS_setL, wS_inc, wS_if, wS_put, wS_putL, wS_putOp, wS_putOpL, wS_ast, wS_astL, wS_aop, wS_aopL, wS_ret, wS_retL, wS_retV, wS_do, wS_pop, wS_dead, wS_sw, wF_body, Nat.reduceAdd, Nat.zero_add, Bool.not_not, true_and, and_true, if_true, if_false, ↓reduceIte, eq_self, Value.int.injEq, Value.long.injEq, exists_eq_left', ik_b1, ik_b0, ik_bz0, ik_bz3, ik_bz3_1, ik_bz3_0, ik_cmp, ik_cmpL, ik_eI, ik_eL, ik_as, ik_i0, ik_i1, decide_eq_true_eq, decide_eq_false_iff_not, decide_true, decide_false, Bool.not_true, Bool.not_false, reduceCtorEq, forall_const, false_implies, true_implies, implies_true, true_and, and_true, and_self, false_and, and_false, Bool.and_true, Bool.true_and, not_true_eq_false, not_false_eq_true, if_true, if_false, ite_true, ite_false, ik_bz3_0, ik_bz3_1, ik_bz0, upd_at, upd_off, h2, Option.some.injEq, fN]
      exact h3
  · rintro ⟨s1, s2, s3⟩ ⟨h2, h3, h4⟩
    simp only at h3 h4
    have h0 : ¬ s1 2 = 0 := fun e => h4 ⟨0, by simp, e, fun k hk => by omega⟩
    simp (decide := true) only [wE_lit, wL_lit, wE_loc, wL_loc, wE_add, wE_sub, wE_mul, wE_and, wE_or, wE_xor, wE_shl, wE_shr, wE_ushr, wE_div, wE_rem, wE_neg, wE_i2b, wE_l2i, wL_i2l, wL_add, wL_mul, wE_fld, wL_fld, wE_arr, wL_arr, wC_cmp, wC_cmp0, wC_cmpL, wC_and, wC_or, wC_not, wC_ite, wL_ite, wA_nil, wA_int, wA_long, wE_call, wL_call, wS_skip, wS_seq, wS_set, wS_setL, wS_inc, wS_if, wS_put, wS_putL, wS_putOp, wS_putOpL, wS_ast, wS_astL, wS_aop, wS_aopL, wS_ret, wS_retL, wS_retV, wS_do, wS_pop, wS_dead, wS_sw, wF_body, Nat.reduceAdd, Nat.zero_add, Bool.not_not, true_and, and_true, if_true, if_false, ↓reduceIte, eq_self, Value.int.injEq, Value.long.injEq, exists_eq_left', ik_b1, ik_b0, ik_bz0, ik_bz3, ik_bz3_1, ik_bz3_0, ik_cmp, ik_cmpL, ik_eI, ik_eL, ik_as, ik_i0, ik_i1, decide_eq_true_eq, decide_eq_false_iff_not, decide_true, decide_false, Bool.not_true, Bool.not_false, reduceCtorEq, forall_const, false_implies, true_implies, implies_true, true_and, and_true, and_self, false_and, and_false, Bool.and_true, Bool.true_and, not_true_eq_false, not_false_eq_true, if_true, if_false, ite_true, ite_false, ik_bz3_0, ik_bz3_1, ik_bz0, wE_ite, h0]
    exact h3
/-- what the reference asks of a row first -/
theorem OKr_q {q B N : Nat} (hB : B ≤ 4) (hq : q < 2 ^ 31) : OKr (nI q) B N ↔ (q < 24 ^ B ∧ ∀ k, k < B → dgt q k < N) := by
  have := pw24 hB
  constructor
  · rintro ⟨p, h1, h2, h3⟩
    have e := (nI_eq hq (by omega)).mp h2
    subst e
    exact ⟨h1, h3⟩
  · exact fun h => ⟨q, h.1, rfl, h.2⟩
theorem isI_24 {B : Nat} (hB : B ≤ 4) (r : Int32) : (0 ≤ r ∧ r ≤ nI (24 ^ B) - 1) ↔ isI r (24 ^ B) := by
  have := pw24 hB
  rw [le_pred (by omega)]
theorem w_row0 {m g : GG} {N B : Nat} {r : Int32} (hN : N ≤ 24) (eN : m.1 0 2 = nI N) (hB : B ≤ 4) (eB : m.1 0 3 = nI B) (hm : eqM m g) (hr : ¬ OKr r B N) (hl : isI r (24 ^ B)) : wF fX12_takes [.int r] g (fun v g' => v = .int 0 ∧ eqM m g') := by
  have := pw24 hB
  obtain ⟨q, q1, rfl⟩ := isI_ex (by omega) hl
  exact w_takes0 (r := 0) hN eN hB eB hm q1 (fun h => hr ⟨q, q1, rfl, h⟩)
