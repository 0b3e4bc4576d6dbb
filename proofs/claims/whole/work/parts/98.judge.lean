/-! judge: all reasons against a row of names -/
theorem w_inkX {y m : GG} {N B S H k i : Nat} (h : rE y m N B S) (hH : m.1 0 8 = nI H) (hH60 : H ≤ 60) (hk : k < B) (hi : i < N) (Q : Value → GG → Prop) : wF fX11_inkReason [.int (nI k), .int (nI i)] y Q ↔ Q (.int (if inkB m H k i = true then 1 else 0)) y := by
  refine wF_eq (eq_of_wF ?_) Q
  have ink := w_ink0 h.2.2.2.1 hk
  have wd := w_wide6 h.2.1 h.2.2.1 hi
  obtain ⟨⟨Hn', hn1', hn2', hn3', hn4'⟩, hhh⟩ := h.2.2.2.2.2.2.1
  have eH : Hn' = H := (nI_eq (by omega) (by omega)).mp (hn3'.symm.trans hH)
  subst eH
  have ht' : ∀ t, t < Hn' → y.1 40 t = m.1 41 t ∧ y.1 41 t = m.1 42 t ∧ y.1 42 t = m.1 43 t ∧ ∃ a, a < N ∧ m.1 42 t = nI a := fun t h => ⟨(hn4' t h).1, (hn4' t h).2.1, (hn4' t h).2.2.1, (hn4' t h).2.2.2.2.1⟩
  obtain ⟨hou, hou1, hou2, hou3⟩ := hhh
  have le := w_least h.2.1 h.2.2.1 hn1' hn2' ht' (nI hou)
  have gr := w_greatest h.2.1 h.2.2.1 hn1' hn2' ht' (nI hou)
  unfold fX11_inkReason inkB
  rw [hou3]
  simp (decide := true) only [wE_lit, wL_lit, wE_loc, wL_loc, wE_add, wE_sub, wE_mul, wE_and, wE_or, wE_xor, wE_shl, wE_shr, wE_ushr, wE_div, wE_rem, wE_neg, wE_i2b, wE_l2i, wL_i2l, wL_add, wL_mul, wE_fld, wL_fld, wE_arr, wL_arr, wC_cmp, wC_cmp0, wC_cmpL, wC_and, wC_or, wC_not, wC_ite, wL_ite, wA_nil, wA_int, wA_long, wE_call, wL_call, wS_skip, wS_seq, wS_set, wS_setL, wS_inc, wS_if, wS_put, wS_putL, wS_putOp, wS_putOpL, wS_ast, wS_astL, wS_aop, wS_aopL, wS_ret, wS_retL, wS_retV, wS_do, wS_pop, wS_dead, wS_sw, wF_body, Nat.reduceAdd, Nat.zero_add, Bool.not_not, true_and, and_true, if_true, if_false, ↓reduceIte, eq_self, Value.int.injEq, Value.long.injEq, exists_eq_left', ik_b1, ik_b0, ik_bz0, ik_bz3, ik_bz3_1, ik_bz3_0, ik_cmp, ik_cmpL, ik_eI, ik_eL, ik_as, ik_i0, ik_i1, decide_eq_true_eq, decide_eq_false_iff_not, decide_true, decide_false, Bool.not_true, Bool.not_false, reduceCtorEq, forall_const, false_implies, true_implies, implies_true, true_and, and_true, and_self, false_and, and_false, Bool.and_true, Bool.true_and, not_true_eq_false, not_false_eq_true, if_true, if_false, ite_true, ite_false, ik_bz3_0, ik_bz3_1, ik_bz0, wE_ite2, ink, wd, hou2, le, gr, w_within, upd_at, upd_off]
  by_cases q1 : m.1 10 k - ik_nw m i < ik_hb m (nI hou) false Hn'
  · have : ¬ ik_hb m (nI hou) false Hn' ≤ m.1 10 k - ik_nw m i := by rw [Int32.not_le]; exact q1
    simp [q1, this]
  · have q1' : ik_hb m (nI hou) false Hn' ≤ m.1 10 k - ik_nw m i := by rw [Int32.not_lt] at q1; exact q1
    by_cases q2 : ik_hb m (nI hou) true Hn' < m.1 10 k - ik_nw m i
    · have : ¬ m.1 10 k - ik_nw m i ≤ ik_hb m (nI hou) true Hn' := by rw [Int32.not_le]; exact q2
      simp [q2, this]
    · have q2' : m.1 10 k - ik_nw m i ≤ ik_hb m (nI hou) true Hn' := by rw [Int32.not_lt] at q2; exact q2
      simp [q1, q2, q1', q2']
/-- the reasons against a name under a bar, as a number -/
def rsN (m : GG) (S n H : Nat) (L : List (Nat × RC)) (k i : Nat) : Nat := agB m S n L k i + (if inkB m H k i = true then 1 else 0)
theorem rsN_lt (m : GG) (S n H : Nat) (L : List (Nat × RC)) (k i : Nat) : rsN m S n H L k i < 64 ∧ (rsN m S n H L k i).testBit 1 = false := by
  unfold rsN agB
  cases grG m k i S <;> cases rlH (valM m k i) k L <;> cases ik_any (liF m k i) n <;> cases yrB m k i <;> cases inkB m H k i <;> decide
/-- of a row of names: what is against each of them alone -/
def rsA (r : Nat → Nat) : Nat → Nat
  | 0 => 0
  | k + 1 => rsA r k ||| r k
theorem rsA_lt {r : Nat → Nat} (h : ∀ k, r k < 64 ∧ (r k).testBit 1 = false) : ∀ k, rsA r k < 64 ∧ (rsA r k).testBit 1 = false
  | 0 => ⟨show (0 : Nat) < 64 by decide, show (0 : Nat).testBit 1 = false by decide⟩
  | k + 1 => by
    obtain ⟨h1, h2⟩ := rsA_lt h k
    obtain ⟨h3, h4⟩ := h k
    refine ⟨Nat.or_lt_two_pow (n := 6) h1 h3, ?_⟩
    show (rsA r k ||| r k).testBit 1 = false
    rw [Nat.testBit_or, h2, h4]
    rfl
theorem w_asks {x m g : GG} {N B S n H : Nat} {c : Nat → Nat} {M : Nat} {L : List (Nat × RC)} (h : rE x m N B S) (hR : rlD c M L x m) (hmn : m.1 0 7 = nI n) (hn : n ≤ 20) (hH : m.1 0 8 = nI H) (hH60 : H ≤ 60) (hm : eqM m g) :
    wF fX12_asks [] g (fun v g' => v = .null ∧ eqM m g' ∧ g'.1 20 = g.1 20 ∧ g'.2 = g.2 ∧ ∀ k i, k < B → i < N → g'.1 44 (24 * k + i) = nI (rsN m S n H L k i)) := by
  have hN24 := h.2.2.1.1
  have hB4 := h.2.2.2.1.1
  unfold fX12_asks
  simp (decide := true) only [wE_lit, wL_lit, wE_loc, wL_loc, wE_add, wE_sub, wE_mul, wE_and, wE_or, wE_xor, wE_shl, wE_shr, wE_ushr, wE_div, wE_rem, wE_neg, wE_i2b, wE_l2i, wL_i2l, wL_add, wL_mul, wE_fld, wL_fld, wE_arr, wL_arr, wC_cmp, wC_cmp0, wC_cmpL, wC_and, wC_or, wC_not, wC_ite, wL_ite, wA_nil, wA_int, wA_long, wE_call, wL_call, wS_skip, wS_seq, wS_set, wS_setL, wS_inc, wS_if, wS_put, wS_putL, wS_putOp, wS_putOpL, wS_ast, wS_astL, wS_aop, wS_aopL, wS_ret, wS_retL, wS_retV, wS_do, wS_pop, wS_dead, wS_sw, wF_body, Nat.reduceAdd, Nat.zero_add, Bool.not_not, true_and, and_true, if_true, if_false, ↓reduceIte, eq_self, Value.int.injEq, Value.long.injEq, exists_eq_left', ik_b1, ik_b0, ik_bz0, ik_bz3, ik_bz3_1, ik_bz3_0, ik_cmp, ik_cmpL, ik_eI, ik_eL, ik_as, ik_i0, ik_i1, decide_eq_true_eq, decide_eq_false_iff_not, decide_true, decide_false, Bool.not_true, Bool.not_false, reduceCtorEq, forall_const, false_implies, true_implies, implies_true, true_and, and_true, and_self, false_and, and_false, Bool.and_true, Bool.true_and, not_true_eq_false, not_false_eq_true, if_true, if_false, ite_true, ite_false, ik_bz3_0, ik_bz3_1, ik_bz0]
  refine wS_for _ _ (fun k σ => σ.1 1 = nI k ∧ eqM m σ.2.2 ∧ σ.2.2.1 20 = g.1 20 ∧ σ.2.2.2 = g.2 ∧ ∀ k' i, k' < k → i < N → σ.2.2.1 44 (24 * k' + i) = nI (rsN m S n H L k' i)) 0 B _ ⟨by simp [upd, nI_0], hm, rfl, rfl, fun k' i hk => by omega⟩ (by omega) (by omega) ?_ ?_ ?_
  · rintro k ⟨s1, s2, s3⟩ h1 ⟨h2, h3, h4, h5, h6⟩
    simp only at h2 h3
    exact wc_1 (by show s3.1 0 3 = _; rw [h3.2 3 (by decide)]; exact h.2.2.2.1.2.2.1) (by omega) h1 h2
  · rintro k ⟨s1, s2, s3⟩ h1 ⟨h2, h3, h4, h5, h6⟩
    simp only at h2 h3 h4 h5 h6
    simp (decide := true) only [wE_lit, wL_lit, wE_loc, wL_loc, wE_add, wE_sub, wE_mul, wE_and, wE_or, wE_xor, wE_shl, wE_shr, wE_ushr, wE_div, wE_rem, wE_neg, wE_i2b, wE_l2i, wL_i2l, wL_add, wL_mul, wE_fld, wL_fld, wE_arr, wL_arr, wC_cmp, wC_cmp0, wC_cmpL, wC_and, wC_or, wC_not, wC_ite, wL_ite, wA_nil, wA_int, wA_long, wE_call, wL_call, wS_skip, wS_seq, wS_set, wS_setL, wS_inc, wS_if, wS_put, wS_putL, wS_putOp, wS_putOpL, wS_ast, wS_astL, wS_aop, wS_aopL, wS_ret, wS_retL, wS_retV, wS_do, wS_pop, wS_dead, wS_sw, wF_body, Nat.reduceAdd, Nat.zero_add, Bool.not_not, true_and, and_true, if_true, if_false, ↓reduceIte, eq_self, Value.int.injEq, Value.long.injEq, exists_eq_left', ik_b1, ik_b0, ik_bz0, ik_bz3, ik_bz3_1, ik_bz3_0, ik_cmp, ik_cmpL, ik_eI, ik_eL, ik_as, ik_i0, ik_i1, decide_eq_true_eq, decide_eq_false_iff_not, decide_true, decide_false, Bool.not_true, Bool.not_false, reduceCtorEq, forall_const, false_implies, true_implies, implies_true, true_and, and_true, and_self, false_and, and_false, Bool.and_true, Bool.true_and, not_true_eq_false, not_false_eq_true, if_true, if_false, ite_true, ite_false, ik_bz3_0, ik_bz3_1, ik_bz0]
    refine wS_for _ _ (fun i σ => σ.1 2 = nI i ∧ σ.1 1 = nI k ∧ eqM m σ.2.2 ∧ σ.2.2.1 20 = g.1 20 ∧ σ.2.2.2 = g.2 ∧ (∀ k' i, k' < k → i < N → σ.2.2.1 44 (24 * k' + i) = nI (rsN m S n H L k' i)) ∧ ∀ i', i' < i → σ.2.2.1 44 (24 * k + i') = nI (rsN m S n H L k i')) 0 N _ ⟨by simp [upd, nI_0], by simp [upd, h2], h3, h4, h5, h6, fun i' hi => by omega⟩ (by omega) (by omega) ?_ ?_ ?_
    · rintro i ⟨t1, t2, t3⟩ q1 ⟨q2, q2', q3, q4, q5, q6, q7⟩
      simp only at q2 q3
      exact wc_1 (by show t3.1 0 2 = _; rw [q3.2 2 (by decide)]; exact h.2.2.1.2.2.1) (by omega) q1 q2
    · rintro i ⟨t1, t2, t3⟩ q1 ⟨q2, q2', q3, q4, q5, q6, q7⟩
      simp only at q2 q2' q3 q4 q5 q6 q7
      simp (decide := true) only [wE_lit, wL_lit, wE_loc, wL_loc, wE_add, wE_sub, wE_mul, wE_and, wE_or, wE_xor, wE_shl, wE_shr, wE_ushr, wE_div, wE_rem, wE_neg, wE_i2b, wE_l2i, wL_i2l, wL_add, wL_mul, wE_fld, wL_fld, wE_arr, wL_arr, wC_cmp, wC_cmp0, wC_cmpL, wC_and, wC_or, wC_not, wC_ite, wL_ite, wA_nil, wA_int, wA_long, wE_call, wL_call, wS_skip, wS_seq, wS_set, wS_setL, wS_inc, wS_if, wS_put, wS_putL, wS_putOp, wS_putOpL, wS_ast, wS_astL, wS_aop, wS_aopL, wS_ret, wS_retL, wS_retV, wS_do, wS_pop, wS_dead, wS_sw, wF_body, Nat.reduceAdd, Nat.zero_add, Bool.not_not, true_and, and_true, if_true, if_false, ↓reduceIte, eq_self, Value.int.injEq, Value.long.injEq, exists_eq_left', ik_b1, ik_b0, ik_bz0, ik_bz3, ik_bz3_1, ik_bz3_0, ik_cmp, ik_cmpL, ik_eI, ik_eL, ik_as, ik_i0, ik_i1, decide_eq_true_eq, decide_eq_false_iff_not, decide_true, decide_false, Bool.not_true, Bool.not_false, reduceCtorEq, forall_const, false_implies, true_implies, implies_true, true_and, and_true, and_self, false_and, and_false, Bool.and_true, Bool.true_and, not_true_eq_false, not_false_eq_true, if_true, if_false, ite_true, ite_false, ik_bz3_0, ik_bz3_1, ik_bz0, q2, q2', show (24 : Int32) = nI 24 from rfl, pk_mul, nI_add]
      refine wF_mono (w_againstOf h hR hmn hn hH hH60 q3 h1 q1) ?_
      rintro _ g1 ⟨rfl, k1, k2⟩
      have e20 : g1.1 20 = t3.1 20 := k2.1 20 (by decide) (by decide) (by decide) (by decide)
      have e44 : g1.1 44 = t3.1 44 := k2.1 44 (by decide) (by decide) (by decide) (by decide)
      have ix := ik_ix_nI (show 24 * k + i < 96 by omega) (by omega)
      simp (decide := true) only [wE_lit, wL_lit, wE_loc, wL_loc, wE_add, wE_sub, wE_mul, wE_and, wE_or, wE_xor, wE_shl, wE_shr, wE_ushr, wE_div, wE_rem, wE_neg, wE_i2b, wE_l2i, wL_i2l, wL_add, wL_mul, wE_fld, wL_fld, wE_arr, wL_arr, wC_cmp, wC_cmp0, wC_cmpL, wC_and, wC_or, wC_not, wC_ite, wL_ite, wA_nil, wA_int, wA_long, wE_call, wL_call, wS_skip, wS_seq, wS_set, wS_setL, wS_inc, wS_if, wS_put, wS_putL, wS_putOp, wS_putOpL, wS_ast, wS_astL, wS_aop, wS_aopL, wS_ret, wS_retL, wS_retV, wS_do, wS_pop, wS_dead, wS_sw, wF_body, Nat.reduceAdd, Nat.zero_add, Bool.not_not, true_and, and_true, if_true, if_false, ↓reduceIte, eq_self, Value.int.injEq, Value.long.injEq, exists_eq_left', ik_b1, ik_b0, ik_bz0, ik_bz3, ik_bz3_1, ik_bz3_0, ik_cmp, ik_cmpL, ik_eI, ik_eL, ik_as, ik_i0, ik_i1, decide_eq_true_eq, decide_eq_false_iff_not, decide_true, decide_false, Bool.not_true, Bool.not_false, reduceCtorEq, forall_const, false_implies, true_implies, implies_true, true_and, and_true, and_self, false_and, and_false, Bool.and_true, Bool.true_and, not_true_eq_false, not_false_eq_true, if_true, if_false, ite_true, ite_false, ik_bz3_0, ik_bz3_1, ik_bz0, q2, q2', ix, Option.some.injEq, upd_at, upd_off, nI_1, nI_add]
      refine ⟨k1.si _ (by omega), ?_, ?_, fun k' i' hk hi => ?_, fun i' hi => ?_⟩
      · rw [ik_si_row _ _ _ _ _ (by decide), e20]; exact q4
      · show g1.2 = g.2
        rw [k2.2.2]; exact q5
      · rw [ik_si_ne _ _ _ _ _ (by omega), e44]; exact q6 k' i' hk hi
      · by_cases e : i' = i
        · subst e; exact ik_si_same _ _ _ _
        · rw [ik_si_ne _ _ _ _ _ (by omega), e44]; exact q7 i' (by omega)
    · rintro ⟨t1, t2, t3⟩ ⟨q2, q2', q3, q4, q5, q6, q7⟩
      simp only at q2' q3 q4 q5 q6 q7
      simp (decide := true) only [wE_lit, wL_lit, wE_loc, wL_loc, wE_add, wE_sub, wE_mul, wE_and, wE_or, wE_xor, wE_shl, wE_shr, wE_ushr, wE_div, wE_rem, wE_neg, wE_i2b, wE_l2i, wL_i2l, wL_add, wL_mul, wE_fld, wL_fld, wE_arr, wL_arr, wC_cmp, wC_cmp0, wC_cmpL, wC_and, wC_or, wC_not, wC_ite, wL_ite, wA_nil, wA_int, wA_long, wE_call, wL_call, wS_skip, wS_seq, wS_set, wS_setL, wS_inc, wS_if, wS_put, wS_putL, wS_putOp, wS_putOpL, wS_ast, wS_astL, wS_aop, wS_aopL, wS_ret, wS_retL, wS_retV, wS_do, wS_pop, wS_dead, wS_sw, wF_body, Nat.reduceAdd, Nat.zero_add, Bool.not_not, true_and, and_true, if_true, if_false, ↓reduceIte, eq_self, Value.int.injEq, Value.long.injEq, exists_eq_left', ik_b1, ik_b0, ik_bz0, ik_bz3, ik_bz3_1, ik_bz3_0, ik_cmp, ik_cmpL, ik_eI, ik_eL, ik_as, ik_i0, ik_i1, decide_eq_true_eq, decide_eq_false_iff_not, decide_true, decide_false, Bool.not_true, Bool.not_false, reduceCtorEq, forall_const, false_implies, true_implies, implies_true, true_and, and_true, and_self, false_and, and_false, Bool.and_true, Bool.true_and, not_true_eq_false, not_false_eq_true, if_true, if_false, ite_true, ite_false, ik_bz3_0, ik_bz3_1, ik_bz0, q2', upd_at, upd_off, nI_1, nI_add]
      refine ⟨q3, q4, q5, fun k' i hk hi => ?_⟩
      by_cases e : k' = k
      · subst e; exact q7 i hi
      · exact q6 k' i (by omega) hi
  · rintro ⟨s1, s2, s3⟩ ⟨h2, h3, h4, h5, h6⟩
    simp only at h3 h4 h5 h6
    simp (decide := true) only [wE_lit, wL_lit, wE_loc, wL_loc, wE_add, wE_sub, wE_mul, wE_and, wE_or, wE_xor, wE_shl, wE_shr, wE_ushr, wE_div, wE_rem, wE_neg, wE_i2b, wE_l2i, wL_i2l, wL_add, wL_mul, wE_fld, wL_fld, wE_arr, wL_arr, wC_cmp, wC_cmp0, wC_cmpL, wC_and, wC_or, wC_not, wC_ite, wL_ite, wA_nil, wA_int, wA_long, wE_call, wL_call, wS_skip, wS_seq, wS_set, wS_setL, wS_inc, wS_if, wS_put, wS_putL, wS_putOp, wS_putOpL, wS_ast, wS_astL, wS_aop, wS_aopL, wS_ret, wS_retL, wS_retV, wS_do, wS_pop, wS_dead, wS_sw, wF_body, Nat.reduceAdd, Nat.zero_add, Bool.not_not, true_and, and_true, if_true, if_false, ↓reduceIte, eq_self, Value.int.injEq, Value.long.injEq, exists_eq_left', ik_b1, ik_b0, ik_bz0, ik_bz3, ik_bz3_1, ik_bz3_0, ik_cmp, ik_cmpL, ik_eI, ik_eL, ik_as, ik_i0, ik_i1, decide_eq_true_eq, decide_eq_false_iff_not, decide_true, decide_false, Bool.not_true, Bool.not_false, reduceCtorEq, forall_const, false_implies, true_implies, implies_true, true_and, and_true, and_self, false_and, and_false, Bool.and_true, Bool.true_and, not_true_eq_false, not_false_eq_true, if_true, if_false, ite_true, ite_false, ik_bz3_0, ik_bz3_1, ik_bz0]
    exact ⟨h3, h4, h5, fun k i hk hi => h6 k i hk hi⟩
theorem or_3 (a b c : Int32) : (a ||| b) ||| c = (c ||| a) ||| b := ib_ext (fun j _ => by rw [ib_or, ib_or, ib_or, ib_or]; cases ib a j <;> cases ib b j <;> cases ib c j <;> rfl)
theorem or_as (a b c : Int32) : (a ||| b) ||| c = a ||| (b ||| c) := ib_ext (fun j _ => by rw [ib_or, ib_or, ib_or, ib_or, Bool.or_assoc])
theorem and_63 {q : Nat} (h : q < 64) : nI q &&& ((63 : Int32) ^^^ -1) = 0 := by
  refine ib_ext (fun j hj => ?_)
  rw [ib_and, ib_not _ hj, ib_nI (by omega), show (63 : Int32) = nI 63 from rfl, ib_nI (by omega), ib_0]
  by_cases c : j < 6
  · have : (63 : Nat).testBit j = true := by
      have : ∀ q : Fin 6, (63 : Nat).testBit q.val = true := by decide
      exact this ⟨j, c⟩
    rw [this]
    simp
  · have p6 : 2 ^ 6 ≤ 2 ^ j := Nat.pow_le_pow_right (by decide) (by omega)
    rw [Nat.testBit_lt_two_pow (show q < 2 ^ j by omega)]
    rfl
theorem op_judge (a : Int32) (x m : GG) (h : Rel x m) : ∃ v x' m', fX11_judge [.int a] x = some (v, x') ∧ fX12_judge [.int a] m = some (v, m') ∧ Rel x' m' := by
  have h0 := h
  obtain ⟨N, B, S, h⟩ := h
  have hA := h
  obtain ⟨hT, hL, hN, hB, hTi, hLi, hH, hC, hNo, hS, hR, hQ⟩ := h
  have hB4 := hB.1
  have hN24 := hN.1
  have p24 := pw24 hB4
  have rw' := w_rowsOf hB4 hB.2.2.1
  have eqm := eqM.rfl' m
  have eqx := eqX.rfl' x
  have xB := hB.2.1
  have mB := hB.2.2.1
  by_cases z : B = 0
  · subst z
    refine ⟨.int (-1), x, m, eq_of_wF ?_, eq_of_wF ?_, h0⟩
    · unfold fX11_judge
      simp (decide := true) only [wE_lit, wL_lit, wE_loc, wL_loc, wE_add, wE_sub, wE_mul, wE_and, wE_or, wE_xor, wE_shl, wE_shr, wE_ushr, wE_div, wE_rem, wE_neg, wE_i2b, wE_l2i, wL_i2l, wL_add, wL_mul, wE_fld, wL_fld, wE_arr, wL_arr, wC_cmp, wC_cmp0, wC_cmpL, wC_and, wC_or, wC_not, wC_ite, wL_ite, wA_nil, wA_int, wA_long, wE_call, wL_call, wS_skip, wS_seq, wS_set, wS_setL, wS_inc, wS_if, wS_put, wS_putL, wS_putOp, wS_putOpL, wS_ast, wS_astL, wS_aop, wS_aopL, wS_ret, wS_retL, wS_retV, wS_do, wS_pop, wS_dead, wS_sw, wF_body, Nat.reduceAdd, Nat.zero_add, Bool.not_not, true_and, and_true, if_true, if_false, ↓reduceIte, eq_self, Value.int.injEq, Value.long.injEq, exists_eq_left', ik_b1, ik_b0, ik_bz0, ik_bz3, ik_bz3_1, ik_bz3_0, ik_cmp, ik_cmpL, ik_eI, ik_eL, ik_as, ik_i0, ik_i1, decide_eq_true_eq, decide_eq_false_iff_not, decide_true, decide_false, Bool.not_true, Bool.not_false, reduceCtorEq, forall_const, false_implies, true_implies, implies_true, true_and, and_true, and_self, false_and, and_false, Bool.and_true, Bool.true_and, not_true_eq_false, not_false_eq_true, if_true, if_false, ite_true, ite_false, ik_bz3_0, ik_bz3_1, ik_bz0, fX0_count, xB, nI_0]
    · unfold fX12_judge
      simp (decide := true) only [wE_lit, wL_lit, wE_loc, wL_loc, wE_add, wE_sub, wE_mul, wE_and, wE_or, wE_xor, wE_shl, wE_shr, wE_ushr, wE_div, wE_rem, wE_neg, wE_i2b, wE_l2i, wL_i2l, wL_add, wL_mul, wE_fld, wL_fld, wE_arr, wL_arr, wC_cmp, wC_cmp0, wC_cmpL, wC_and, wC_or, wC_not, wC_ite, wL_ite, wA_nil, wA_int, wA_long, wE_call, wL_call, wS_skip, wS_seq, wS_set, wS_setL, wS_inc, wS_if, wS_put, wS_putL, wS_putOp, wS_putOpL, wS_ast, wS_astL, wS_aop, wS_aopL, wS_ret, wS_retL, wS_retV, wS_do, wS_pop, wS_dead, wS_sw, wF_body, Nat.reduceAdd, Nat.zero_add, Bool.not_not, true_and, and_true, if_true, if_false, ↓reduceIte, eq_self, Value.int.injEq, Value.long.injEq, exists_eq_left', ik_b1, ik_b0, ik_bz0, ik_bz3, ik_bz3_1, ik_bz3_0, ik_cmp, ik_cmpL, ik_eI, ik_eL, ik_as, ik_i0, ik_i1, decide_eq_true_eq, decide_eq_false_iff_not, decide_true, decide_false, Bool.not_true, Bool.not_false, reduceCtorEq, forall_const, false_implies, true_implies, implies_true, true_and, and_true, and_self, false_and, and_false, Bool.and_true, Bool.true_and, not_true_eq_false, not_false_eq_true, if_true, if_false, ite_true, ite_false, ik_bz3_0, ik_bz3_1, ik_bz0, mB, nI_0]
  have nz : (nI B = 0) = False := eq_false (fun q => z ((nI_eq (by omega) (by omega)).mp (q.trans nI_0.symm)))
  by_cases ok : OKr a B N
  · obtain ⟨q, q1, rfl, q3⟩ := ok
    have li : (0 ≤ nI q ∧ nI q ≤ nI (24 ^ B) - 1) = True := eq_true ((isI_24 hB4 _).mpr (isI_nI (by omega) q1))
    obtain ⟨c, M, L, hD⟩ := hR.d
    obtain ⟨n, ln1, ln2, ln3, ln4⟩ := hLi
    obtain ⟨⟨Hn, hn1, hn2, hn3, hn4⟩, hh⟩ := hH
    obtain ⟨T, t1, t2, t3, t4⟩ := hTi
    obtain ⟨vl, y1, el, rfl, k7, k8⟩ := w_lay1 hA.e eqx q1 q3
    have a1 := hA.e.eq k7 eqm
    have ti := w_tiesX a1.2.2.1 a1.2.2.2.1 a1.2.2.2.2.1 t3 t1 (fun k hk => ⟨q3 k hk, (k8 k hk).1⟩)
    obtain ⟨_, y2, e2, rfl, k9, k10, k11⟩ := w_linesX hA.e k7 (fun k hk => ⟨q3 k hk, (k8 k hk).2⟩)
    obtain ⟨_, m1, et, rfl, k1, k2⟩ := w_takes1 hN24 hN.2.2.1 hB4 hB.2.2.1 eqm q1 q3
    obtain ⟨_, m2, ea, rfl, k3, k4, -, k5⟩ := w_asks hA.e hD ln3 ln1 hn3 hn1 k1
    obtain ⟨rr, hrr⟩ : ∃ rr : Nat → Nat, rr = fun k => rsN m S n Hn L k (dgt q k) := ⟨_, rfl⟩
    have rl := rsA_lt (r := rr) (fun k => by rw [hrr]; exact rsN_lt _ _ _ _ _ _ _)
    obtain ⟨v3, m3, e3, rfl, k6⟩ := w_speaks hA.e k3 (fun k hk => ⟨q3 k hk, by rw [k4]; exact k2 k hk⟩) t1 t3 63 (nI (rsA rr B)) (by rw [ib_nI (by have := (rl B).1; omega)]; exact (rl B).2)
    obtain ⟨tv, htv⟩ : ∃ tv, tv = (if tiA m (dgt q) T = true then (16 : Int32) else 0) := ⟨_, rfl⟩
    obtain ⟨ov, hov⟩ : ∃ ov, ov = (if otA m (dgt q) S = true then (2 : Int32) else 0) := ⟨_, rfl⟩
    have res : spk 63 (nI (rsA rr B)) (tiA m (dgt q) T) (otA m (dgt q) S) = (tv ||| ov) ||| nI (rsA rr B) := by
      unfold spk
      have l1 : nI (rsA rr B) ||| (if tiA m (dgt q) T = true then 16 else 0) = nI (rsA rr B ||| (if tiA m (dgt q) T = true then 16 else 0)) := by
        cases tiA m (dgt q) T
        · show nI _ ||| nI 0 = _; rw [nI_or]; rfl
        · show nI _ ||| nI 16 = _; rw [nI_or]; rfl
      have l2 : rsA rr B ||| (if tiA m (dgt q) T = true then 16 else 0) < 64 := Nat.or_lt_two_pow (n := 6) (rl B).1 (by split <;> omega)
      rw [← htv, ← hov] at *
      rw [l1, if_pos (and_63 l2), ← l1]
      exact (or_3 tv ov (nI (rsA rr B))).symm
    rw [res] at e3
    -- the class adds them up
    obtain ⟨y3, ex, e9⟩ : ∃ y3, wF fX11_judge [.int (nI q)] x (fun v g => v = .int ((tv ||| ov) ||| nI (rsA rr B)) ∧ g = y3) ∧ eqX x y3 := by
      have key : ∀ Z : Prop, (∃ y3, wF fX11_judge [.int (nI q)] x (fun v g => v = .int ((tv ||| ov) ||| nI (rsA rr B)) ∧ g = y3) ∧ eqX x y3) ∨ ¬ wF fX11_judge [.int (nI q)] x (fun v g => v = .int ((tv ||| ov) ||| nI (rsA rr B)) ∧ eqX x g) := fun Z => by
        by_cases w : wF fX11_judge [.int (nI q)] x (fun v g => v = .int ((tv ||| ov) ||| nI (rsA rr B)) ∧ eqX x g)
        · obtain ⟨v, g, e, f1, f2⟩ := w
          exact Or.inl ⟨g, ⟨v, g, e, f1, rfl⟩, f2⟩
        · exact Or.inr w
      refine (key True).resolve_right (fun w => w ?_)
      unfold fX11_judge
      simp (decide := true) only [wE_lit, wL_lit, wE_loc, wL_loc, wE_add, wE_sub, wE_mul, wE_and, wE_or, wE_xor, wE_shl, wE_shr, wE_ushr, wE_div, wE_rem, wE_neg, wE_i2b, wE_l2i, wL_i2l, wL_add, wL_mul, wE_fld, wL_fld, wE_arr, wL_arr, wC_cmp, wC_cmp0, wC_cmpL, wC_and, wC_or, wC_not, wC_ite, wL_ite, wA_nil, wA_int, wA_long, wE_call, wL_call, wS_skip, wS_seq, wS_set, wS_setL, wS_inc, wS_if, wS_put, wS_putL, wS_putOp, wS_putOpL, wS_ast, wS_astL, wS_aop, wS_aopL, wS_ret, wS_retL, wS_retV, wS_do, wS_pop, wS_dead, wS_sw, wF_body, Nat.reduceAdd, Nat.zero_add, Bool.not_not, true_and, and_true, if_true, if_false, ↓reduceIte, eq_self, Value.int.injEq, Value.long.injEq, exists_eq_left', ik_b1, ik_b0, ik_bz0, ik_bz3, ik_bz3_1, ik_bz3_0, ik_cmp, ik_cmpL, ik_eI, ik_eL, ik_as, ik_i0, ik_i1, decide_eq_true_eq, decide_eq_false_iff_not, decide_true, decide_false, Bool.not_true, Bool.not_false, reduceCtorEq, forall_const, false_implies, true_implies, implies_true, true_and, and_true, and_self, false_and, and_false, Bool.and_true, Bool.true_and, not_true_eq_false, not_false_eq_true, if_true, if_false, ite_true, ite_false, ik_bz3_0, ik_bz3_1, ik_bz0, fX0_count, xB, nz, wF_eq el, ti, wF_eq e2]
      refine wS_for _ _ (fun k σ => σ.1 3 = nI k ∧ σ.1 2 = (tv ||| ov) ||| nI (rsA rr k) ∧ eqX x σ.2.2 ∧ σ.2.2.1 64 = y1.1 64) 0 B _ ⟨by simp [upd, nI_0], by simp [upd, rsA, nI_0, htv, hov], k9, k10⟩ (by omega) (by omega) ?_ ?_ ?_
      · rintro k ⟨s1, s2, s3⟩ h1 ⟨h2, h3, h4, h5⟩
        simp only at h2 h4
        exact wc_bars hB4 (hA.e.eq h4 eqm).2.2.2.1.2.1 h1 h2
      · rintro k ⟨s1, s2, s3⟩ h1 ⟨h2, h3, h4, h5⟩
        simp only at h2 h3 h4 h5
        have a2 := hA.e.eq h4 eqm
        have hD' : rlD c M L s3 m := by
          obtain ⟨d1, d2, d3, d4, d5⟩ := hD
          refine ⟨d1, d2, fun j hj => ?_, ?_, d5⟩
          · rw [h4.1 36 (by decide) (by decide) (by decide) (by decide) (by decide) (by decide) (by decide) (by decide) (by decide) (by decide) (by decide) (by decide) (by decide) (by decide)]
            exact d3 j hj
          · rw [h4.2.2.1 3 (by decide)]
            exact d4
        have e64 : s3.1 64 k = nI (dgt q k) := by rw [h5]; exact (k8 k h1).1
        have ixk := ik_ix_nI (show k < 4 by omega) (by omega)
        obtain ⟨_, y4, e4, rfl, f1⟩ := w_reasonsX a2 hD' ln1 ln3 (eqF.rfl' s3) h1 (q3 k h1)
        have e64' : y4.1 64 = s3.1 64 := f1.1 64 (by decide) (by decide)
        have ink := w_inkX (a2.eq f1.x (eqM.rfl' m)) hn3 hn1 h1 (q3 k h1)
        have ek : (tv ||| ov) ||| nI (rsA rr k) ||| nI (rsN m S n Hn L k (dgt q k)) = (tv ||| ov) ||| nI (rsA rr (k + 1)) := by
          rw [or_as, nI_or, show rsA rr (k + 1) = rsA rr k ||| rsN m S n Hn L k (dgt q k) by show rsA rr k ||| rr k = _; rw [hrr]]
        simp (decide := true) only [wE_lit, wL_lit, wE_loc, wL_loc, wE_add, wE_sub, wE_mul, wE_and, wE_or, wE_xor, wE_shl, wE_shr, wE_ushr, wE_div, wE_rem, wE_neg, wE_i2b, wE_l2i, wL_i2l, wL_add, wL_mul, wE_fld, wL_fld, wE_arr, wL_arr, wC_cmp, wC_cmp0, wC_cmpL, wC_and, wC_or, wC_not, wC_ite, wL_ite, wA_nil, wA_int, wA_long, wE_call, wL_call, wS_skip, wS_seq, wS_set, wS_setL, wS_inc, wS_if, wS_put, wS_putL, wS_putOp, wS_putOpL, wS_ast, wS_astL, wS_aop, wS_aopL, wS_ret, wS_retL, wS_retV, wS_do, wS_pop, wS_dead, wS_sw, wF_body, Nat.reduceAdd, Nat.zero_add, Bool.not_not, true_and, and_true, if_true, if_false, ↓reduceIte, eq_self, Value.int.injEq, Value.long.injEq, exists_eq_left', ik_b1, ik_b0, ik_bz0, ik_bz3, ik_bz3_1, ik_bz3_0, ik_cmp, ik_cmpL, ik_eI, ik_eL, ik_as, ik_i0, ik_i1, decide_eq_true_eq, decide_eq_false_iff_not, decide_true, decide_false, Bool.not_true, Bool.not_false, reduceCtorEq, forall_const, false_implies, true_implies, implies_true, true_and, and_true, and_self, false_and, and_false, Bool.and_true, Bool.true_and, not_true_eq_false, not_false_eq_true, if_true, if_false, ite_true, ite_false, ik_bz3_0, ik_bz3_1, ik_bz0, h2, h3, ixk, Option.some.injEq, e64, wF_eq e4, e64', ink, agB_or2, upd_at, upd_off, nI_1, nI_add]
        exact ⟨ek, h4.tr f1.x, h5⟩
      · rintro ⟨s1, s2, s3⟩ ⟨h2, h3, h4, h5⟩
        simp only at h3 h4
        simp (decide := true) only [wE_lit, wL_lit, wE_loc, wL_loc, wE_add, wE_sub, wE_mul, wE_and, wE_or, wE_xor, wE_shl, wE_shr, wE_ushr, wE_div, wE_rem, wE_neg, wE_i2b, wE_l2i, wL_i2l, wL_add, wL_mul, wE_fld, wL_fld, wE_arr, wL_arr, wC_cmp, wC_cmp0, wC_cmpL, wC_and, wC_or, wC_not, wC_ite, wL_ite, wA_nil, wA_int, wA_long, wE_call, wL_call, wS_skip, wS_seq, wS_set, wS_setL, wS_inc, wS_if, wS_put, wS_putL, wS_putOp, wS_putOpL, wS_ast, wS_astL, wS_aop, wS_aopL, wS_ret, wS_retL, wS_retV, wS_do, wS_pop, wS_dead, wS_sw, wF_body, Nat.reduceAdd, Nat.zero_add, Bool.not_not, true_and, and_true, if_true, if_false, ↓reduceIte, eq_self, Value.int.injEq, Value.long.injEq, exists_eq_left', ik_b1, ik_b0, ik_bz0, ik_bz3, ik_bz3_1, ik_bz3_0, ik_cmp, ik_cmpL, ik_eI, ik_eL, ik_as, ik_i0, ik_i1, decide_eq_true_eq, decide_eq_false_iff_not, decide_true, decide_false, Bool.not_true, Bool.not_false, reduceCtorEq, forall_const, false_implies, true_implies, implies_true, true_and, and_true, and_self, false_and, and_false, Bool.and_true, Bool.true_and, not_true_eq_false, not_false_eq_true, if_true, if_false, ite_true, ite_false, ik_bz3_0, ik_bz3_1, ik_bz0, h3]
        exact h4
    refine ⟨.int ((tv ||| ov) ||| nI (rsA rr B)), y3, m3, eq_of_wF ex, eq_of_wF ?_, N, B, S, hA.eq e9 k6.1⟩
    unfold fX12_judge
    simp (decide := true) only [wE_lit, wL_lit, wE_loc, wL_loc, wE_add, wE_sub, wE_mul, wE_and, wE_or, wE_xor, wE_shl, wE_shr, wE_ushr, wE_div, wE_rem, wE_neg, wE_i2b, wE_l2i, wL_i2l, wL_add, wL_mul, wE_fld, wL_fld, wE_arr, wL_arr, wC_cmp, wC_cmp0, wC_cmpL, wC_and, wC_or, wC_not, wC_ite, wL_ite, wA_nil, wA_int, wA_long, wE_call, wL_call, wS_skip, wS_seq, wS_set, wS_setL, wS_inc, wS_if, wS_put, wS_putL, wS_putOp, wS_putOpL, wS_ast, wS_astL, wS_aop, wS_aopL, wS_ret, wS_retL, wS_retV, wS_do, wS_pop, wS_dead, wS_sw, wF_body, Nat.reduceAdd, Nat.zero_add, Bool.not_not, true_and, and_true, if_true, if_false, ↓reduceIte, eq_self, Value.int.injEq, Value.long.injEq, exists_eq_left', ik_b1, ik_b0, ik_bz0, ik_bz3, ik_bz3_1, ik_bz3_0, ik_cmp, ik_cmpL, ik_eI, ik_eL, ik_as, ik_i0, ik_i1, decide_eq_true_eq, decide_eq_false_iff_not, decide_true, decide_false, Bool.not_true, Bool.not_false, reduceCtorEq, forall_const, false_implies, true_implies, implies_true, true_and, and_true, and_self, false_and, and_false, Bool.and_true, Bool.true_and, not_true_eq_false, not_false_eq_true, if_true, if_false, ite_true, ite_false, ik_bz3_0, ik_bz3_1, ik_bz0, i64_n20, i64_n1, l64_0, l64_1, l64_2, l64_3, l64_7, l64_12, l64_19, l64_20, l64_23, l64_24, l64_26, l64_29, l64_40, l64_50, l64_60, l64_63, l64_100, l64_160, l64_199, l64_255, l64_1000, l64_3000, l64_5000, l64_9999, l64_m1, l64_m20, mB, nz, rw', w_lies, li, wF_eq et, wF_eq ea]
    refine wS_for _ _ (fun k σ => σ.1 3 = nI k ∧ σ.1 2 = nI (rsA rr k) ∧ σ.2.2 = m2) 0 B _ ⟨by simp [upd, nI_0], by simp [upd, rsA, nI_0], rfl⟩ (by omega) (by omega) ?_ ?_ ?_
    · rintro k ⟨s1, s2, s3⟩ h1 ⟨h2, h3, h4⟩
      simp only at h2 h4
      subst h4
      exact wc_1 (by show s3.1 0 3 = _; rw [k3.2 3 (by decide)]; exact mB) (by omega) h1 h2
    · rintro k ⟨s1, s2, s3⟩ h1 ⟨h2, h3, h4⟩
      simp only at h2 h3 h4
      subst h4
      have e20 : s3.1 20 k = nI (dgt q k) := by rw [k4]; exact k2 k h1
      have dl := dgt_lt q k
      have ixk := ik_ix_nI (show k < 4 by omega) (by omega)
      have ixr := ik_ix_nI (show 24 * k + dgt q k < 96 by omega) (by omega)
      have r44 := k5 k (dgt q k) h1 (q3 k h1)
      have ek : rsA rr (k + 1) = rsA rr k ||| rsN m S n Hn L k (dgt q k) := by show rsA rr k ||| rr k = _; rw [hrr]
      simp (decide := true) only [wE_lit, wL_lit, wE_loc, wL_loc, wE_add, wE_sub, wE_mul, wE_and, wE_or, wE_xor, wE_shl, wE_shr, wE_ushr, wE_div, wE_rem, wE_neg, wE_i2b, wE_l2i, wL_i2l, wL_add, wL_mul, wE_fld, wL_fld, wE_arr, wL_arr, wC_cmp, wC_cmp0, wC_cmpL, wC_and, wC_or, wC_not, wC_ite, wL_ite, wA_nil, wA_int, wA_long, wE_call, wL_call, wS_skip, wS_seq, wS_set, wS_setL, wS_inc, wS_if, wS_put, wS_putL, wS_putOp, wS_putOpL, wS_ast, wS_astL, wS_aop, wS_aopL, wS_ret, wS_retL, wS_retV, wS_do, wS_pop, wS_dead, wS_sw, wF_body, Nat.reduceAdd, Nat.zero_add, Bool.not_not, true_and, and_true, if_true, if_false, ↓reduceIte, eq_self, Value.int.injEq, Value.long.injEq, exists_eq_left', ik_b1, ik_b0, ik_bz0, ik_bz3, ik_bz3_1, ik_bz3_0, ik_cmp, ik_cmpL, ik_eI, ik_eL, ik_as, ik_i0, ik_i1, decide_eq_true_eq, decide_eq_false_iff_not, decide_true, decide_false, Bool.not_true, Bool.not_false, reduceCtorEq, forall_const, false_implies, true_implies, implies_true, true_and, and_true, and_self, false_and, and_false, Bool.and_true, Bool.true_and, not_true_eq_false, not_false_eq_true, if_true, if_false, ite_true, ite_false, ik_bz3_0, ik_bz3_1, ik_bz0, h2, h3, ixk, Option.some.injEq, e20, show (24 : Int32) = nI 24 from rfl, pk_mul, nI_add, ixr, r44, upd_at, upd_off, nI_1, nI_or, ek]
    · rintro ⟨s1, s2, s3⟩ ⟨h2, h3, h4⟩
      simp only at h3 h4
      subst h4
      simp (decide := true) only [wE_lit, wL_lit, wE_loc, wL_loc, wE_add, wE_sub, wE_mul, wE_and, wE_or, wE_xor, wE_shl, wE_shr, wE_ushr, wE_div, wE_rem, wE_neg, wE_i2b, wE_l2i, wL_i2l, wL_add, wL_mul, wE_fld, wL_fld, wE_arr, wL_arr, wC_cmp, wC_cmp0, wC_cmpL, wC_and, wC_or, wC_not, wC_ite, wL_ite, wA_nil, wA_int, wA_long, wE_call, wL_call, wS_skip, wS_seq, wS_set, wS_setL, wS_inc, wS_if, wS_put, wS_putL, wS_putOp, wS_putOpL, wS_ast, wS_astL, wS_aop, wS_aopL, wS_ret, wS_retL, wS_retV, wS_do, wS_pop, wS_dead, wS_sw, wF_body, Nat.reduceAdd, Nat.zero_add, Bool.not_not, true_and, and_true, if_true, if_false, ↓reduceIte, eq_self, Value.int.injEq, Value.long.injEq, exists_eq_left', ik_b1, ik_b0, ik_bz0, ik_bz3, ik_bz3_1, ik_bz3_0, ik_cmp, ik_cmpL, ik_eI, ik_eL, ik_as, ik_i0, ik_i1, decide_eq_true_eq, decide_eq_false_iff_not, decide_true, decide_false, Bool.not_true, Bool.not_false, reduceCtorEq, forall_const, false_implies, true_implies, implies_true, true_and, and_true, and_self, false_and, and_false, Bool.and_true, Bool.true_and, not_true_eq_false, not_false_eq_true, if_true, if_false, ite_true, ite_false, ik_bz3_0, ik_bz3_1, ik_bz0, h3, wF_eq e3]
  · obtain ⟨vl, y1, el, rfl, k7⟩ := w_lay0 hA.e eqx ok
    have ex : wF fX11_judge [.int a] x (fun v g => v = .int (-1) ∧ g = y1) := by
      unfold fX11_judge
      simp (decide := true) only [wE_lit, wL_lit, wE_loc, wL_loc, wE_add, wE_sub, wE_mul, wE_and, wE_or, wE_xor, wE_shl, wE_shr, wE_ushr, wE_div, wE_rem, wE_neg, wE_i2b, wE_l2i, wL_i2l, wL_add, wL_mul, wE_fld, wL_fld, wE_arr, wL_arr, wC_cmp, wC_cmp0, wC_cmpL, wC_and, wC_or, wC_not, wC_ite, wL_ite, wA_nil, wA_int, wA_long, wE_call, wL_call, wS_skip, wS_seq, wS_set, wS_setL, wS_inc, wS_if, wS_put, wS_putL, wS_putOp, wS_putOpL, wS_ast, wS_astL, wS_aop, wS_aopL, wS_ret, wS_retL, wS_retV, wS_do, wS_pop, wS_dead, wS_sw, wF_body, Nat.reduceAdd, Nat.zero_add, Bool.not_not, true_and, and_true, if_true, if_false, ↓reduceIte, eq_self, Value.int.injEq, Value.long.injEq, exists_eq_left', ik_b1, ik_b0, ik_bz0, ik_bz3, ik_bz3_1, ik_bz3_0, ik_cmp, ik_cmpL, ik_eI, ik_eL, ik_as, ik_i0, ik_i1, decide_eq_true_eq, decide_eq_false_iff_not, decide_true, decide_false, Bool.not_true, Bool.not_false, reduceCtorEq, forall_const, false_implies, true_implies, implies_true, true_and, and_true, and_self, false_and, and_false, Bool.and_true, Bool.true_and, not_true_eq_false, not_false_eq_true, if_true, if_false, ite_true, ite_false, ik_bz3_0, ik_bz3_1, ik_bz0, fX0_count, xB, nz, wF_eq el]
    by_cases li : isI a (24 ^ B)
    · have li' : (0 ≤ a ∧ a ≤ nI (24 ^ B) - 1) = True := eq_true ((isI_24 hB4 _).mpr li)
      obtain ⟨vt, m1, et, rfl, k1⟩ := w_row0 hN24 hN.2.2.1 hB4 hB.2.2.1 eqm ok li
      refine ⟨.int (-1), y1, m1, eq_of_wF ex, eq_of_wF ?_, N, B, S, hA.eq k7 k1⟩
      unfold fX12_judge
      simp (decide := true) only [wE_lit, wL_lit, wE_loc, wL_loc, wE_add, wE_sub, wE_mul, wE_and, wE_or, wE_xor, wE_shl, wE_shr, wE_ushr, wE_div, wE_rem, wE_neg, wE_i2b, wE_l2i, wL_i2l, wL_add, wL_mul, wE_fld, wL_fld, wE_arr, wL_arr, wC_cmp, wC_cmp0, wC_cmpL, wC_and, wC_or, wC_not, wC_ite, wL_ite, wA_nil, wA_int, wA_long, wE_call, wL_call, wS_skip, wS_seq, wS_set, wS_setL, wS_inc, wS_if, wS_put, wS_putL, wS_putOp, wS_putOpL, wS_ast, wS_astL, wS_aop, wS_aopL, wS_ret, wS_retL, wS_retV, wS_do, wS_pop, wS_dead, wS_sw, wF_body, Nat.reduceAdd, Nat.zero_add, Bool.not_not, true_and, and_true, if_true, if_false, ↓reduceIte, eq_self, Value.int.injEq, Value.long.injEq, exists_eq_left', ik_b1, ik_b0, ik_bz0, ik_bz3, ik_bz3_1, ik_bz3_0, ik_cmp, ik_cmpL, ik_eI, ik_eL, ik_as, ik_i0, ik_i1, decide_eq_true_eq, decide_eq_false_iff_not, decide_true, decide_false, Bool.not_true, Bool.not_false, reduceCtorEq, forall_const, false_implies, true_implies, implies_true, true_and, and_true, and_self, false_and, and_false, Bool.and_true, Bool.true_and, not_true_eq_false, not_false_eq_true, if_true, if_false, ite_true, ite_false, ik_bz3_0, ik_bz3_1, ik_bz0, i64_n20, i64_n1, l64_0, l64_1, l64_2, l64_3, l64_7, l64_12, l64_19, l64_20, l64_23, l64_24, l64_26, l64_29, l64_40, l64_50, l64_60, l64_63, l64_100, l64_160, l64_199, l64_255, l64_1000, l64_3000, l64_5000, l64_9999, l64_m1, l64_m20, mB, nz, rw', w_lies, li', wF_eq et]
    · have li' : (0 ≤ a ∧ a ≤ nI (24 ^ B) - 1) = False := eq_false (fun z => li ((isI_24 hB4 _).mp z))
      refine ⟨.int (-1), y1, m, eq_of_wF ex, eq_of_wF ?_, N, B, S, hA.eq k7 eqm⟩
      unfold fX12_judge
      simp (decide := true) only [wE_lit, wL_lit, wE_loc, wL_loc, wE_add, wE_sub, wE_mul, wE_and, wE_or, wE_xor, wE_shl, wE_shr, wE_ushr, wE_div, wE_rem, wE_neg, wE_i2b, wE_l2i, wL_i2l, wL_add, wL_mul, wE_fld, wL_fld, wE_arr, wL_arr, wC_cmp, wC_cmp0, wC_cmpL, wC_and, wC_or, wC_not, wC_ite, wL_ite, wA_nil, wA_int, wA_long, wE_call, wL_call, wS_skip, wS_seq, wS_set, wS_setL, wS_inc, wS_if, wS_put, wS_putL, wS_putOp, wS_putOpL, wS_ast, wS_astL, wS_aop, wS_aopL, wS_ret, wS_retL, wS_retV, wS_do, wS_pop, wS_dead, wS_sw, wF_body, Nat.reduceAdd, Nat.zero_add, Bool.not_not, true_and, and_true, if_true, if_false, ↓reduceIte, eq_self, Value.int.injEq, Value.long.injEq, exists_eq_left', ik_b1, ik_b0, ik_bz0, ik_bz3, ik_bz3_1, ik_bz3_0, ik_cmp, ik_cmpL, ik_eI, ik_eL, ik_as, ik_i0, ik_i1, decide_eq_true_eq, decide_eq_false_iff_not, decide_true, decide_false, Bool.not_true, Bool.not_false, reduceCtorEq, forall_const, false_implies, true_implies, implies_true, true_and, and_true, and_self, false_and, and_false, Bool.and_true, Bool.true_and, not_true_eq_false, not_false_eq_true, if_true, if_false, ite_true, ite_false, ik_bz3_0, ik_bz3_1, ik_bz0, i64_n20, i64_n1, l64_0, l64_1, l64_2, l64_3, l64_7, l64_12, l64_19, l64_20, l64_23, l64_24, l64_26, l64_29, l64_40, l64_50, l64_60, l64_63, l64_100, l64_160, l64_199, l64_255, l64_1000, l64_3000, l64_5000, l64_9999, l64_m1, l64_m20, mB, nz, rw', w_lies, li']
