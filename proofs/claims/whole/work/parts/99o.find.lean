/-! what the class's searches find -/
theorem w_hopeful {B : Nat} {y : GG} {ld : Bool} (hB : 0 < B) (hB4 : B ≤ 4) (e9 : y.1 48 9 = nI B) (e12 : y.1 48 12 = ik_b2 ld) (e5 : y.1 49 5 = 0 ∨ y.1 49 5 = 1) (Q : Value → GG → Prop) : wF fX2_hopeful [] y Q ↔ Q (.int (ik_b2 (!(ld && !decide (y.1 49 5 = 0))))) y := by
  refine wF_eq (eq_of_wF ?_) Q
  have p1 : (nI B > (0 : Int32)) = True := eq_true (by show (0 : Int32) < nI B; rw [← nI_0, nI_ltI (by omega) (by omega)]; omega)
  unfold fX2_hopeful
  cases ld with
  | false =>
    have e12' : y.1 48 12 = 0 := e12
    simp (decide := true) only [wE_lit, wL_lit, wE_loc, wL_loc, wE_add, wE_sub, wE_mul, wE_and, wE_or, wE_xor, wE_shl, wE_shr, wE_ushr, wE_div, wE_rem, wE_neg, wE_i2b, wE_l2i, wL_i2l, wL_add, wL_mul, wE_fld, wL_fld, wE_arr, wL_arr, wC_cmp, wC_cmp0, wC_cmpL, wC_and, wC_or, wC_not, wC_ite, wL_ite, wA_nil, wA_int, wA_long, wE_call, wL_call, wS_skip, wS_seq, wS_set, wS_setL, wS_inc, wS_if, wS_put, wS_putL, wS_putOp, wS_putOpL, wS_ast, wS_astL, wS_aop, wS_aopL, wS_ret, wS_retL, wS_retV, wS_do, wS_pop, wS_dead, wS_sw, wF_body, Nat.reduceAdd, Nat.zero_add, Bool.not_not, true_and, and_true, if_true, if_false, ↓reduceIte, eq_self, Value.int.injEq, Value.long.injEq, exists_eq_left', ik_b1, ik_b0, ik_bz0, ik_bz3, ik_bz3_1, ik_bz3_0, ik_cmp, ik_cmpL, ik_eI, ik_eL, ik_as, ik_i0, ik_i1, decide_eq_true_eq, decide_eq_false_iff_not, decide_true, decide_false, Bool.not_true, Bool.not_false, reduceCtorEq, forall_const, false_implies, true_implies, implies_true, true_and, and_true, and_self, false_and, and_false, Bool.and_true, Bool.true_and, not_true_eq_false, not_false_eq_true, if_true, if_false, ite_true, ite_false, ik_bz3_0, ik_bz3_1, ik_bz0, wE_ite2, e9, p1, e12', Bool.false_and, Bool.not_false, show ik_b2 true = 1 from rfl]
  | true =>
    have e12' : y.1 48 12 = 1 := e12
    rcases e5 with e | e <;> simp (decide := true) only [wE_lit, wL_lit, wE_loc, wL_loc, wE_add, wE_sub, wE_mul, wE_and, wE_or, wE_xor, wE_shl, wE_shr, wE_ushr, wE_div, wE_rem, wE_neg, wE_i2b, wE_l2i, wL_i2l, wL_add, wL_mul, wE_fld, wL_fld, wE_arr, wL_arr, wC_cmp, wC_cmp0, wC_cmpL, wC_and, wC_or, wC_not, wC_ite, wL_ite, wA_nil, wA_int, wA_long, wE_call, wL_call, wS_skip, wS_seq, wS_set, wS_setL, wS_inc, wS_if, wS_put, wS_putL, wS_putOp, wS_putOpL, wS_ast, wS_astL, wS_aop, wS_aopL, wS_ret, wS_retL, wS_retV, wS_do, wS_pop, wS_dead, wS_sw, wF_body, Nat.reduceAdd, Nat.zero_add, Bool.not_not, true_and, and_true, if_true, if_false, ↓reduceIte, eq_self, Value.int.injEq, Value.long.injEq, exists_eq_left', ik_b1, ik_b0, ik_bz0, ik_bz3, ik_bz3_1, ik_bz3_0, ik_cmp, ik_cmpL, ik_eI, ik_eL, ik_as, ik_i0, ik_i1, decide_eq_true_eq, decide_eq_false_iff_not, decide_true, decide_false, Bool.not_true, Bool.not_false, reduceCtorEq, forall_const, false_implies, true_implies, implies_true, true_and, and_true, and_self, false_and, and_false, Bool.and_true, Bool.true_and, not_true_eq_false, not_false_eq_true, if_true, if_false, ite_true, ite_false, ik_bz3_0, ik_bz3_1, ik_bz0, wE_ite2, e9, p1, e12', fX5_broken, e, Bool.true_and, show ik_b2 true = 1 from rfl, show ik_b2 false = 0 from rfl]
theorem hop_t {ld : Bool} {v : Int32} : (ld = true ∧ ¬ v = 0) ↔ (!(ld && !decide (v = 0))) = false := by
  by_cases c : v = 0 <;> cases ld <;> simp [c]
theorem w_number {x m y : GG} {N B S T A : Nat} {M : Nat → Nat} {ft : Nat → Nat → Bool} {td ld : Bool} (h : rE x m N B S) (hy : SR B N T M y m A (toldP m S) ft td ld) (hmT : m.1 0 6 = nI T) (hT : T ≤ 20) (hB : 0 < B) :
    wF fX2_number [] y (fun v g => eqS y g ∧ g.2 = y.2 ∧ v = .int (nI (SF N B S T m ft td ld (fun _ _ => 1)))) := by
  have hB4 := hy.2.2.2.1
  have ho := w_hopeful hB hB4 hy.2.2.2.2.1 hy.2.2.2.2.2.2.2.1 hy.1.1
  have sf := nst_SF (w := fun _ _ => 1) (ft := ft) (td := td) (ld := ld) h hmT hT hy.1 hB (fun _ => 0)
  obtain ⟨_, g1, e1, k1, k2, k3, rfl⟩ := w_count hy B 5 0 (fun _ => 0) y (by omega) hB (by omega) (eqS.rfl' y) (fun q hq => by omega)
  have e1' : fX2_countFrom_f4 [.int 0] y = _ := e1
  unfold fX2_number
  cases hb : (!(ld && !decide (y.1 49 5 = 0))) with
  | true =>
    rw [hb] at ho
    rw [if_neg (fun z => by have := hop_t.mp z; rw [hb] at this; cases this)] at sf
    rw [← sf]
    simp (decide := true) only [wE_lit, wL_lit, wE_loc, wL_loc, wE_add, wE_sub, wE_mul, wE_and, wE_or, wE_xor, wE_shl, wE_shr, wE_ushr, wE_div, wE_rem, wE_neg, wE_i2b, wE_l2i, wL_i2l, wL_add, wL_mul, wE_fld, wL_fld, wE_arr, wL_arr, wC_cmp, wC_cmp0, wC_cmpL, wC_and, wC_or, wC_not, wC_ite, wL_ite, wA_nil, wA_int, wA_long, wE_call, wL_call, wS_skip, wS_seq, wS_set, wS_setL, wS_inc, wS_if, wS_put, wS_putL, wS_putOp, wS_putOpL, wS_ast, wS_astL, wS_aop, wS_aopL, wS_ret, wS_retL, wS_retV, wS_do, wS_pop, wS_dead, wS_sw, wF_body, Nat.reduceAdd, Nat.zero_add, Bool.not_not, true_and, and_true, if_true, if_false, ↓reduceIte, eq_self, Value.int.injEq, Value.long.injEq, exists_eq_left', ik_b1, ik_b0, ik_bz0, ik_bz3, ik_bz3_1, ik_bz3_0, ik_cmp, ik_cmpL, ik_eI, ik_eL, ik_as, ik_i0, ik_i1, decide_eq_true_eq, decide_eq_false_iff_not, decide_true, decide_false, Bool.not_true, Bool.not_false, reduceCtorEq, forall_const, false_implies, true_implies, implies_true, true_and, and_true, and_self, false_and, and_false, Bool.and_true, Bool.true_and, not_true_eq_false, not_false_eq_true, if_true, if_false, ite_true, ite_false, ik_bz3_0, ik_bz3_1, ik_bz0, wE_ite, ho, show ik_b2 true = 1 from rfl, wF_eq e1']
    exact ⟨k1, k3⟩
  | false =>
    rw [hb] at ho
    rw [if_pos (hop_t.mpr hb)] at sf
    rw [← sf]
    simp (decide := true) only [wE_lit, wL_lit, wE_loc, wL_loc, wE_add, wE_sub, wE_mul, wE_and, wE_or, wE_xor, wE_shl, wE_shr, wE_ushr, wE_div, wE_rem, wE_neg, wE_i2b, wE_l2i, wL_i2l, wL_add, wL_mul, wE_fld, wL_fld, wE_arr, wL_arr, wC_cmp, wC_cmp0, wC_cmpL, wC_and, wC_or, wC_not, wC_ite, wL_ite, wA_nil, wA_int, wA_long, wE_call, wL_call, wS_skip, wS_seq, wS_set, wS_setL, wS_inc, wS_if, wS_put, wS_putL, wS_putOp, wS_putOpL, wS_ast, wS_astL, wS_aop, wS_aopL, wS_ret, wS_retL, wS_retV, wS_do, wS_pop, wS_dead, wS_sw, wF_body, Nat.reduceAdd, Nat.zero_add, Bool.not_not, true_and, and_true, if_true, if_false, ↓reduceIte, eq_self, Value.int.injEq, Value.long.injEq, exists_eq_left', ik_b1, ik_b0, ik_bz0, ik_bz3, ik_bz3_1, ik_bz3_0, ik_cmp, ik_cmpL, ik_eI, ik_eL, ik_as, ik_i0, ik_i1, decide_eq_true_eq, decide_eq_false_iff_not, decide_true, decide_false, Bool.not_true, Bool.not_false, reduceCtorEq, forall_const, false_implies, true_implies, implies_true, true_and, and_true, and_self, false_and, and_false, Bool.and_true, Bool.true_and, not_true_eq_false, not_false_eq_true, if_true, if_false, ite_true, ite_false, ik_bz3_0, ik_bz3_1, ik_bz0, wE_ite, ho, show ik_b2 false = 0 from rfl, nI_0]
    exact eqS.rfl' y
/-- what the odds are, as they stand -/
def WT (N B S T : Nat) (m : GG) (ft : Nat → Nat → Bool) (td ld : Bool) (g2 : Nat → Nat → Int64) : Prop := g2 48 13 = lN (SF N B S T m ft td ld (fun _ => wtN m)) ∧ ∀ j i, j < 4 → i < 24 → g2 62 (24 * j + i) = lN (if j < B ∧ i < N then SF N B S T m ft td ld (fO (wtN m) j i) else 0)
theorem w_weighAll {x m y : GG} {N B S T A : Nat} {M : Nat → Nat} {ft : Nat → Nat → Bool} {td ld : Bool} (h : rE x m N B S) (hy : SR B N T M y m A (toldP m S) ft td ld) (hmT : m.1 0 6 = nI T) (hT : T ≤ 20) (hB : 0 < B) :
    wF fX2_weighAll [] y (fun v g => v = .null ∧ eqS y g ∧ WT N B S T m ft td ld g.2) := by
  have hB4 := hy.2.2.2.1
  unfold fX2_weighAll
  simp (decide := true) only [wE_lit, wL_lit, wE_loc, wL_loc, wE_add, wE_sub, wE_mul, wE_and, wE_or, wE_xor, wE_shl, wE_shr, wE_ushr, wE_div, wE_rem, wE_neg, wE_i2b, wE_l2i, wL_i2l, wL_add, wL_mul, wE_fld, wL_fld, wE_arr, wL_arr, wC_cmp, wC_cmp0, wC_cmpL, wC_and, wC_or, wC_not, wC_ite, wL_ite, wA_nil, wA_int, wA_long, wE_call, wL_call, wS_skip, wS_seq, wS_set, wS_setL, wS_inc, wS_if, wS_put, wS_putL, wS_putOp, wS_putOpL, wS_ast, wS_astL, wS_aop, wS_aopL, wS_ret, wS_retL, wS_retV, wS_do, wS_pop, wS_dead, wS_sw, wF_body, Nat.reduceAdd, Nat.zero_add, Bool.not_not, true_and, and_true, if_true, if_false, ↓reduceIte, eq_self, Value.int.injEq, Value.long.injEq, exists_eq_left', ik_b1, ik_b0, ik_bz0, ik_bz3, ik_bz3_1, ik_bz3_0, ik_cmp, ik_cmpL, ik_eI, ik_eL, ik_as, ik_i0, ik_i1, decide_eq_true_eq, decide_eq_false_iff_not, decide_true, decide_false, Bool.not_true, Bool.not_false, reduceCtorEq, forall_const, false_implies, true_implies, implies_true, true_and, and_true, and_self, false_and, and_false, Bool.and_true, Bool.true_and, not_true_eq_false, not_false_eq_true, if_true, if_false, ite_true, ite_false, ik_bz3_0, ik_bz3_1, ik_bz0]
  refine wS_for _ _ (fun k σ => σ.1 1 = nI k ∧ σ.2.2.1 = y.1 ∧ ∀ j, j < k → σ.2.2.2 62 j = 0) 0 96 _ ⟨by simp [upd, nI_0], rfl, fun j hj => by omega⟩ (by omega) (by omega) ?_ ?_ ?_
  · rintro k ⟨s1, s2, s3⟩ h1 ⟨h2, -⟩
    exact wc_L (n := 96) (by omega) h1 h2
  · rintro k ⟨s1, s2, s3⟩ h1 ⟨h2, h3, h4⟩
    simp only at h2 h3 h4
    simp (decide := true) only [wE_lit, wL_lit, wE_loc, wL_loc, wE_add, wE_sub, wE_mul, wE_and, wE_or, wE_xor, wE_shl, wE_shr, wE_ushr, wE_div, wE_rem, wE_neg, wE_i2b, wE_l2i, wL_i2l, wL_add, wL_mul, wE_fld, wL_fld, wE_arr, wL_arr, wC_cmp, wC_cmp0, wC_cmpL, wC_and, wC_or, wC_not, wC_ite, wL_ite, wA_nil, wA_int, wA_long, wE_call, wL_call, wS_skip, wS_seq, wS_set, wS_setL, wS_inc, wS_if, wS_put, wS_putL, wS_putOp, wS_putOpL, wS_ast, wS_astL, wS_aop, wS_aopL, wS_ret, wS_retL, wS_retV, wS_do, wS_pop, wS_dead, wS_sw, wF_body, Nat.reduceAdd, Nat.zero_add, Bool.not_not, true_and, and_true, if_true, if_false, ↓reduceIte, eq_self, Value.int.injEq, Value.long.injEq, exists_eq_left', ik_b1, ik_b0, ik_bz0, ik_bz3, ik_bz3_1, ik_bz3_0, ik_cmp, ik_cmpL, ik_eI, ik_eL, ik_as, ik_i0, ik_i1, decide_eq_true_eq, decide_eq_false_iff_not, decide_true, decide_false, Bool.not_true, Bool.not_false, reduceCtorEq, forall_const, false_implies, true_implies, implies_true, true_and, and_true, and_self, false_and, and_false, Bool.and_true, Bool.true_and, not_true_eq_false, not_false_eq_true, if_true, if_false, ite_true, ite_false, ik_bz3_0, ik_bz3_1, ik_bz0, h2, ik_ix_nI (show k < 96 by omega) (by omega), Option.some.injEq, upd_at, upd_off, nI_1, nI_add]
    refine ⟨h3, fun j hj => ?_⟩
    by_cases e : j = k
    · subst e; exact ik_sl_same _ _ _ _
    · have : (ik_sl s3 62 k 0).2 62 j = s3.2 62 j := by simp [ik_sl, e]
      rw [this]; exact h4 j (by omega)
  · rintro ⟨s1, s2, s3⟩ ⟨h2, h3, h4⟩
    simp only at h3 h4
    have hs : eqS y s3 := ⟨fun a _ _ _ _ => by rw [h3], fun j _ => by rw [h3]⟩
    have hy3 := hy.eqS hs
    have ho := w_hopeful hB hB4 hy3.2.2.2.2.1 hy3.2.2.2.2.2.2.2.1 hy3.1.1
    have sf : ∀ w, _ := fun w => nst_SF (w := w) (ft := ft) (td := td) (ld := ld) h hmT hT hy3.1 hB (fun _ => 0)
    obtain ⟨_, g1, e1, k1, k2, k3, k4, rfl⟩ := w_weighF hy3 B 5 0 (fun _ => 0) s3 1 (by omega) hB (by omega) (eqS.rfl' s3) (fun q hq => by omega)
    have e1' : fX2_weighFrom_f4 [.int 0, .long 1] s3 = _ := e1
    cases hb : (!(ld && !decide (s3.1 49 5 = 0))) with
    | true =>
      rw [hb] at ho
      have ng : ¬ (ld = true ∧ ¬ s3.1 49 5 = 0) := fun z => by have := hop_t.mp z; rw [hb] at this; cases this
      have sf' : ∀ w, nst (cdB M s3 m T ft td ld) w N B 0 (fun _ => 0) = SF N B S T m ft td ld w := fun w => by have := sf w; rw [if_neg ng] at this; exact this
      simp (decide := true) only [wE_lit, wL_lit, wE_loc, wL_loc, wE_add, wE_sub, wE_mul, wE_and, wE_or, wE_xor, wE_shl, wE_shr, wE_ushr, wE_div, wE_rem, wE_neg, wE_i2b, wE_l2i, wL_i2l, wL_add, wL_mul, wE_fld, wL_fld, wE_arr, wL_arr, wC_cmp, wC_cmp0, wC_cmpL, wC_and, wC_or, wC_not, wC_ite, wL_ite, wA_nil, wA_int, wA_long, wE_call, wL_call, wS_skip, wS_seq, wS_set, wS_setL, wS_inc, wS_if, wS_put, wS_putL, wS_putOp, wS_putOpL, wS_ast, wS_astL, wS_aop, wS_aopL, wS_ret, wS_retL, wS_retV, wS_do, wS_pop, wS_dead, wS_sw, wF_body, Nat.reduceAdd, Nat.zero_add, Bool.not_not, true_and, and_true, if_true, if_false, ↓reduceIte, eq_self, Value.int.injEq, Value.long.injEq, exists_eq_left', ik_b1, ik_b0, ik_bz0, ik_bz3, ik_bz3_1, ik_bz3_0, ik_cmp, ik_cmpL, ik_eI, ik_eL, ik_as, ik_i0, ik_i1, decide_eq_true_eq, decide_eq_false_iff_not, decide_true, decide_false, Bool.not_true, Bool.not_false, reduceCtorEq, forall_const, false_implies, true_implies, implies_true, true_and, and_true, and_self, false_and, and_false, Bool.and_true, Bool.true_and, not_true_eq_false, not_false_eq_true, if_true, if_false, ite_true, ite_false, ik_bz3_0, ik_bz3_1, ik_bz0, ho, show ik_b2 true = 1 from rfl, wF_eq e1']
      refine ⟨hs.tr k1, ?_, fun j i hj hi => ?_⟩
      · rw [ik_sl_same, Nat.one_mul, sf']
      · have : (ik_sl g1 48 13 (lN (1 * nst (cdB M s3 m T ft td ld) (fun _ => wtN m) N B 0 fun _ => 0))).2 62 (24 * j + i) = g1.2 62 (24 * j + i) := by rw [ik_sl_row _ _ _ _ _ (by decide)]
        rw [this, k4 j i hj hi, h4 _ (by omega), Int64.zero_add]
        by_cases c : j < B ∧ i < N
        · rw [if_pos ⟨Nat.zero_le _, c⟩, if_pos c, Nat.one_mul, sf']
        · rw [if_neg (fun z => c z.2), if_neg c]
    | false =>
      rw [hb] at ho
      have ng := hop_t.mpr hb
      have sf' : ∀ w, SF N B S T m ft td ld w = 0 := fun w => by have := sf w; rw [if_pos ng] at this; exact this.symm
      simp (decide := true) only [wE_lit, wL_lit, wE_loc, wL_loc, wE_add, wE_sub, wE_mul, wE_and, wE_or, wE_xor, wE_shl, wE_shr, wE_ushr, wE_div, wE_rem, wE_neg, wE_i2b, wE_l2i, wL_i2l, wL_add, wL_mul, wE_fld, wL_fld, wE_arr, wL_arr, wC_cmp, wC_cmp0, wC_cmpL, wC_and, wC_or, wC_not, wC_ite, wL_ite, wA_nil, wA_int, wA_long, wE_call, wL_call, wS_skip, wS_seq, wS_set, wS_setL, wS_inc, wS_if, wS_put, wS_putL, wS_putOp, wS_putOpL, wS_ast, wS_astL, wS_aop, wS_aopL, wS_ret, wS_retL, wS_retV, wS_do, wS_pop, wS_dead, wS_sw, wF_body, Nat.reduceAdd, Nat.zero_add, Bool.not_not, true_and, and_true, if_true, if_false, ↓reduceIte, eq_self, Value.int.injEq, Value.long.injEq, exists_eq_left', ik_b1, ik_b0, ik_bz0, ik_bz3, ik_bz3_1, ik_bz3_0, ik_cmp, ik_cmpL, ik_eI, ik_eL, ik_as, ik_i0, ik_i1, decide_eq_true_eq, decide_eq_false_iff_not, decide_true, decide_false, Bool.not_true, Bool.not_false, reduceCtorEq, forall_const, false_implies, true_implies, implies_true, true_and, and_true, and_self, false_and, and_false, Bool.and_true, Bool.true_and, not_true_eq_false, not_false_eq_true, if_true, if_false, ite_true, ite_false, ik_bz3_0, ik_bz3_1, ik_bz0, ho, show ik_b2 false = 0 from rfl]
      refine ⟨hs.sl _ _ _, ?_, fun j i hj hi => ?_⟩
      · rw [ik_sl_same, sf']
        rfl
      · have : (ik_sl s3 48 13 0).2 62 (24 * j + i) = s3.2 62 (24 * j + i) := by rw [ik_sl_row _ _ _ _ _ (by decide)]
        rw [this, h4 _ (by omega)]
        simp only [sf', ite_self]
        rfl
theorem sm_le {f g : Nat → Nat} : ∀ {n : Nat}, (∀ i, i < n → f i ≤ g i) → sm f n ≤ sm g n
  | 0, _ => Nat.le_refl _
  | n + 1, h => by
    show sm f n + f n ≤ sm g n + g n
    exact Nat.add_le_add (sm_le (n := n) (fun i hi => h i (by omega))) (h n (by omega))
theorem nst_le {cd : Nat → (Nat → Nat) → Nat → Bool} {w w' : Nat → Nat → Nat} {N : Nat} (hw : ∀ k i, w k i ≤ w' k i) : ∀ (d k : Nat) (u : Nat → Nat), nst cd w N d k u ≤ nst cd w' N d k u
  | 0, _, _ => Nat.le_refl _
  | d + 1, k, u => by
    refine sm_le (fun i _ => ?_)
    by_cases c : cd k u i = true
    · rw [if_pos c, if_pos c]
      exact Nat.mul_le_mul (hw k i) (nst_le hw d (k + 1) (updN u k i))
    · rw [if_neg c, if_neg c]
      exact Nat.le_refl _
theorem fO_le (w : Nat → Nat) (j i : Nat) (k i' : Nat) : fO w j i k i' ≤ w i' := by
  unfold fO
  split <;> omega
/-- how many names bar k has in some filling -/
noncomputable def ctF (N B S T : Nat) (m : GG) (ft : Nat → Nat → Bool) (k : Nat) : Nat := bgc (fun i => decide (i < N) && decide (0 < SF N B S T m ft true true (fO w1 k i))) 24
theorem w_fewest {x m y : GG} {N B S T A : Nat} {M : Nat → Nat} {ft : Nat → Nat → Bool} (h : rE x m N B S) (hy : SR B N T M y m A (toldP m S) ft true true) (hmT : m.1 0 6 = nI T) (hT : T ≤ 20) (hB : 0 < B) :
    wF fX2_fewest [] y (fun v g => eqS y g ∧ g.2 = y.2 ∧ ∃ f, f ≤ 24 ∧ v = .int (nI f) ∧ ∀ q, 1 ≤ q → q ≤ 24 → (q ≤ f ↔ ∀ k, k < B → q ≤ ctF N B S T m ft k)) := by
  have hB4 := hy.2.2.2.1
  have hN24 := hy.2.2.1
  unfold fX2_fewest
  simp (decide := true) only [wE_lit, wL_lit, wE_loc, wL_loc, wE_add, wE_sub, wE_mul, wE_and, wE_or, wE_xor, wE_shl, wE_shr, wE_ushr, wE_div, wE_rem, wE_neg, wE_i2b, wE_l2i, wL_i2l, wL_add, wL_mul, wE_fld, wL_fld, wE_arr, wL_arr, wC_cmp, wC_cmp0, wC_cmpL, wC_and, wC_or, wC_not, wC_ite, wL_ite, wA_nil, wA_int, wA_long, wE_call, wL_call, wS_skip, wS_seq, wS_set, wS_setL, wS_inc, wS_if, wS_put, wS_putL, wS_putOp, wS_putOpL, wS_ast, wS_astL, wS_aop, wS_aopL, wS_ret, wS_retL, wS_retV, wS_do, wS_pop, wS_dead, wS_sw, wF_body, Nat.reduceAdd, Nat.zero_add, Bool.not_not, true_and, and_true, if_true, if_false, ↓reduceIte, eq_self, Value.int.injEq, Value.long.injEq, exists_eq_left', ik_b1, ik_b0, ik_bz0, ik_bz3, ik_bz3_1, ik_bz3_0, ik_cmp, ik_cmpL, ik_eI, ik_eL, ik_as, ik_i0, ik_i1, decide_eq_true_eq, decide_eq_false_iff_not, decide_true, decide_false, Bool.not_true, Bool.not_false, reduceCtorEq, forall_const, false_implies, true_implies, implies_true, true_and, and_true, and_self, false_and, and_false, Bool.and_true, Bool.true_and, not_true_eq_false, not_false_eq_true, if_true, if_false, ite_true, ite_false, ik_bz3_0, ik_bz3_1, ik_bz0]
  refine wS_for _ _ (fun k σ => σ.1 1 = nI k ∧ eqS y σ.2.2 ∧ σ.2.2.2 = y.2 ∧ ∀ j, j < k → σ.2.2.1 61 j = 0) 0 4 _ ⟨by simp [upd, nI_0], eqS.rfl' y, rfl, fun j hj => by omega⟩ (by omega) (by omega) ?_ ?_ ?_
  · rintro k ⟨s1, s2, s3⟩ h1 ⟨h2, -⟩
    exact wc_L (n := 4) (by omega) h1 h2
  · rintro k ⟨s1, s2, s3⟩ h1 ⟨h2, h3, h4, h5⟩
    simp only at h2 h3 h4 h5
    simp (decide := true) only [wE_lit, wL_lit, wE_loc, wL_loc, wE_add, wE_sub, wE_mul, wE_and, wE_or, wE_xor, wE_shl, wE_shr, wE_ushr, wE_div, wE_rem, wE_neg, wE_i2b, wE_l2i, wL_i2l, wL_add, wL_mul, wE_fld, wL_fld, wE_arr, wL_arr, wC_cmp, wC_cmp0, wC_cmpL, wC_and, wC_or, wC_not, wC_ite, wL_ite, wA_nil, wA_int, wA_long, wE_call, wL_call, wS_skip, wS_seq, wS_set, wS_setL, wS_inc, wS_if, wS_put, wS_putL, wS_putOp, wS_putOpL, wS_ast, wS_astL, wS_aop, wS_aopL, wS_ret, wS_retL, wS_retV, wS_do, wS_pop, wS_dead, wS_sw, wF_body, Nat.reduceAdd, Nat.zero_add, Bool.not_not, true_and, and_true, if_true, if_false, ↓reduceIte, eq_self, Value.int.injEq, Value.long.injEq, exists_eq_left', ik_b1, ik_b0, ik_bz0, ik_bz3, ik_bz3_1, ik_bz3_0, ik_cmp, ik_cmpL, ik_eI, ik_eL, ik_as, ik_i0, ik_i1, decide_eq_true_eq, decide_eq_false_iff_not, decide_true, decide_false, Bool.not_true, Bool.not_false, reduceCtorEq, forall_const, false_implies, true_implies, implies_true, true_and, and_true, and_self, false_and, and_false, Bool.and_true, Bool.true_and, not_true_eq_false, not_false_eq_true, if_true, if_false, ite_true, ite_false, ik_bz3_0, ik_bz3_1, ik_bz0, h2, ik_ix_nI (show k < 4 by omega) (by omega), Option.some.injEq, upd_at, upd_off, nI_1, nI_add]
    refine ⟨h3.si _ (by omega), h4, fun j hj => ?_⟩
    by_cases e : j = k
    · subst e; exact ik_si_same _ _ _ _
    · rw [ik_si_ne _ _ _ _ _ e]; exact h5 j (by omega)
  · rintro ⟨s1, s2, s3⟩ ⟨h2, h3, h4, h5⟩
    simp only at h3 h4 h5
    have hy3 := hy.eqS h3
    have ho := w_hopeful hB hB4 hy3.2.2.2.2.1 hy3.2.2.2.2.2.2.2.1 hy3.1.1
    have sf : ∀ w, _ := fun w => nst_SF (w := w) (ft := ft) (td := true) (ld := true) h hmT hT hy3.1 hB (fun _ => 0)
    obtain ⟨_, g1, e1, k1, k2, k3, k4, rfl⟩ := w_reachF hy3 B 5 0 (fun _ => 0) s3 (by omega) hB (by omega) (eqS.rfl' s3) (fun q hq => by omega)
    have none : (∀ w : Nat → Nat → Nat, (∀ k i, w k i ≤ 1) → SF N B S T m ft true true w = 0) → ∀ q, 1 ≤ q → q ≤ 24 → (q ≤ 0 ↔ ∀ k, k < B → q ≤ ctF N B S T m ft k) := by
      intro z q q1 q2
      refine ⟨fun a => by omega, fun a => ?_⟩
      have := a 0 hB
      have c0 : ctF N B S T m ft 0 = 0 := by
        unfold ctF
        rw [bgc_congr (q := fun _ => false) (fun i _ => by rw [z _ (fun k i' => fO_le w1 0 i k i')]; simp)]
        rfl
      omega
    cases hb : (!(true && !decide (s3.1 49 5 = 0))) with
    | false =>
      rw [hb] at ho
      have sf' : ∀ w, SF N B S T m ft true true w = 0 := fun w => by have := sf w; rw [if_pos (hop_t.mpr hb)] at this; exact this.symm
      simp (decide := true) only [wE_lit, wL_lit, wE_loc, wL_loc, wE_add, wE_sub, wE_mul, wE_and, wE_or, wE_xor, wE_shl, wE_shr, wE_ushr, wE_div, wE_rem, wE_neg, wE_i2b, wE_l2i, wL_i2l, wL_add, wL_mul, wE_fld, wL_fld, wE_arr, wL_arr, wC_cmp, wC_cmp0, wC_cmpL, wC_and, wC_or, wC_not, wC_ite, wL_ite, wA_nil, wA_int, wA_long, wE_call, wL_call, wS_skip, wS_seq, wS_set, wS_setL, wS_inc, wS_if, wS_put, wS_putL, wS_putOp, wS_putOpL, wS_ast, wS_astL, wS_aop, wS_aopL, wS_ret, wS_retL, wS_retV, wS_do, wS_pop, wS_dead, wS_sw, wF_body, Nat.reduceAdd, Nat.zero_add, Bool.not_not, true_and, and_true, if_true, if_false, ↓reduceIte, eq_self, Value.int.injEq, Value.long.injEq, exists_eq_left', ik_b1, ik_b0, ik_bz0, ik_bz3, ik_bz3_1, ik_bz3_0, ik_cmp, ik_cmpL, ik_eI, ik_eL, ik_as, ik_i0, ik_i1, decide_eq_true_eq, decide_eq_false_iff_not, decide_true, decide_false, Bool.not_true, Bool.not_false, reduceCtorEq, forall_const, false_implies, true_implies, implies_true, true_and, and_true, and_self, false_and, and_false, Bool.and_true, Bool.true_and, not_true_eq_false, not_false_eq_true, if_true, if_false, ite_true, ite_false, ik_bz3_0, ik_bz3_1, ik_bz0, ho, show ik_b2 false = 0 from rfl]
      exact ⟨h3, h4, 0, by omega, by rw [nI_0], none (fun w _ => sf' w)⟩
    | true =>
      rw [hb] at ho
      have ng : ¬ (true = true ∧ ¬ s3.1 49 5 = 0) := fun z => by have := hop_t.mp z; rw [hb] at this; cases this
      have sf' : ∀ w, nst (cdB M s3 m T ft true true) w N B 0 (fun _ => 0) = SF N B S T m ft true true w := fun w => by have := sf w; rw [if_neg ng] at this; exact this
      cases hr : decide (0 < nst (cdB M s3 m T ft true true) (fun _ => w1) N B 0 (fun _ => 0)) with
      | false =>
        rw [hr] at e1
        have e1' : fX2_reachFrom_f4 [.int 0] s3 = some (.int 0, g1) := e1
        simp (decide := true) only [wE_lit, wL_lit, wE_loc, wL_loc, wE_add, wE_sub, wE_mul, wE_and, wE_or, wE_xor, wE_shl, wE_shr, wE_ushr, wE_div, wE_rem, wE_neg, wE_i2b, wE_l2i, wL_i2l, wL_add, wL_mul, wE_fld, wL_fld, wE_arr, wL_arr, wC_cmp, wC_cmp0, wC_cmpL, wC_and, wC_or, wC_not, wC_ite, wL_ite, wA_nil, wA_int, wA_long, wE_call, wL_call, wS_skip, wS_seq, wS_set, wS_setL, wS_inc, wS_if, wS_put, wS_putL, wS_putOp, wS_putOpL, wS_ast, wS_astL, wS_aop, wS_aopL, wS_ret, wS_retL, wS_retV, wS_do, wS_pop, wS_dead, wS_sw, wF_body, Nat.reduceAdd, Nat.zero_add, Bool.not_not, true_and, and_true, if_true, if_false, ↓reduceIte, eq_self, Value.int.injEq, Value.long.injEq, exists_eq_left', ik_b1, ik_b0, ik_bz0, ik_bz3, ik_bz3_1, ik_bz3_0, ik_cmp, ik_cmpL, ik_eI, ik_eL, ik_as, ik_i0, ik_i1, decide_eq_true_eq, decide_eq_false_iff_not, decide_true, decide_false, Bool.not_true, Bool.not_false, reduceCtorEq, forall_const, false_implies, true_implies, implies_true, true_and, and_true, and_self, false_and, and_false, Bool.and_true, Bool.true_and, not_true_eq_false, not_false_eq_true, if_true, if_false, ite_true, ite_false, ik_bz3_0, ik_bz3_1, ik_bz0, ho, show ik_b2 true = 1 from rfl, wF_eq e1']
        refine ⟨h3.tr k1, k3.trans h4, 0, by omega, by rw [nI_0], none (fun w hw => ?_)⟩
        rw [← sf' w]
        have := nst_le (cd := cdB M s3 m T ft true true) (w := w) (w' := fun _ => w1) (N := N) hw B 0 (fun _ => 0)
        have := of_decide_eq_false hr
        omega
      | true =>
        rw [hr] at e1
        have e1' : fX2_reachFrom_f4 [.int 0] s3 = some (.int 1, g1) := e1
        have cell : ∀ k, k < B → g1.1 61 k = nI (ik_bs (fun i => decide (i < N) && decide (0 < SF N B S T m ft true true (fO w1 k i))) 24) := by
          intro k hk
          refine ib_ext (fun j hj => ?_)
          have l := ik_bs_lt (fun i => decide (i < N) && decide (0 < SF N B S T m ft true true (fO w1 k i))) 24
          rw [k4 k j (by omega) hj, h5 k (by omega), ib_0, Bool.false_or, ib_nI (by omega), ik_bs_bit, ← sf' (fO w1 k j)]
          by_cases c : j < N
          · by_cases c2 : 0 < nst (cdB M s3 m T ft true true) (fO w1 k j) N B 0 (fun _ => 0)
            · simp [c, c2, hk, show j < 24 by omega]
            · simp [c, c2]
          · simp [c]
        simp (decide := true) only [wE_lit, wL_lit, wE_loc, wL_loc, wE_add, wE_sub, wE_mul, wE_and, wE_or, wE_xor, wE_shl, wE_shr, wE_ushr, wE_div, wE_rem, wE_neg, wE_i2b, wE_l2i, wL_i2l, wL_add, wL_mul, wE_fld, wL_fld, wE_arr, wL_arr, wC_cmp, wC_cmp0, wC_cmpL, wC_and, wC_or, wC_not, wC_ite, wL_ite, wA_nil, wA_int, wA_long, wE_call, wL_call, wS_skip, wS_seq, wS_set, wS_setL, wS_inc, wS_if, wS_put, wS_putL, wS_putOp, wS_putOpL, wS_ast, wS_astL, wS_aop, wS_aopL, wS_ret, wS_retL, wS_retV, wS_do, wS_pop, wS_dead, wS_sw, wF_body, Nat.reduceAdd, Nat.zero_add, Bool.not_not, true_and, and_true, if_true, if_false, ↓reduceIte, eq_self, Value.int.injEq, Value.long.injEq, exists_eq_left', ik_b1, ik_b0, ik_bz0, ik_bz3, ik_bz3_1, ik_bz3_0, ik_cmp, ik_cmpL, ik_eI, ik_eL, ik_as, ik_i0, ik_i1, decide_eq_true_eq, decide_eq_false_iff_not, decide_true, decide_false, Bool.not_true, Bool.not_false, reduceCtorEq, forall_const, false_implies, true_implies, implies_true, true_and, and_true, and_self, false_and, and_false, Bool.and_true, Bool.true_and, not_true_eq_false, not_false_eq_true, if_true, if_false, ite_true, ite_false, ik_bz3_0, ik_bz3_1, ik_bz0, ho, show ik_b2 true = 1 from rfl, wF_eq e1']
        refine wS_for _ _ (fun k σ => σ.1 2 = nI k ∧ σ.2.2 = g1 ∧ ∃ f, f ≤ 24 ∧ σ.1 1 = nI f ∧ ∀ q, q ≤ 24 → (q ≤ f ↔ ∀ k', k' < k → q ≤ ctF N B S T m ft k')) 0 B _ ⟨by simp [upd, nI_0], rfl, 24, Nat.le_refl _, by simp [upd]; rfl, fun q hq => ⟨fun _ k' hk => by omega, fun _ => hq⟩⟩ (by omega) (by omega) ?_ ?_ ?_
        · rintro k ⟨t1, t2, t3⟩ a1 ⟨a2, a3, -⟩
          simp only at a2 a3
          subst a3
          have e9 : t3.1 48 9 = nI B := by rw [k1.1 48 (by decide) (by decide) (by decide) (by decide)]; exact hy3.2.2.2.2.1
          exact wc_X (M := 4) e9 hB4 (by omega) a1 a2
        · rintro k ⟨t1, t2, t3⟩ a1 ⟨a2, a3, f, a4, a5, a6⟩
          simp only at a2 a3 a5
          subst a3
          have l := ik_bs_lt (fun i => decide (i < N) && decide (0 < SF N B S T m ft true true (fO w1 k i))) 24
          have bc := w_bitCount l t3
          have ec : bgc (ik_bs (fun i => decide (i < N) && decide (0 < SF N B S T m ft true true (fO w1 k i))) 24).testBit 24 = ctF N B S T m ft k := by
            unfold ctF
            refine bgc_congr (fun t ht => ?_)
            rw [ik_bs_bit]
            simp [ht]
          have cl : ctF N B S T m ft k ≤ 24 := bgc_le _ _
          rw [ec] at bc
          by_cases c : f ≤ ctF N B S T m ft k
          · have ci : (nI f ≤ nI (ctF N B S T m ft k)) = True := eq_true ((nI_leI (by omega) (by omega)).mpr c)
            simp (decide := true) only [wE_lit, wL_lit, wE_loc, wL_loc, wE_add, wE_sub, wE_mul, wE_and, wE_or, wE_xor, wE_shl, wE_shr, wE_ushr, wE_div, wE_rem, wE_neg, wE_i2b, wE_l2i, wL_i2l, wL_add, wL_mul, wE_fld, wL_fld, wE_arr, wL_arr, wC_cmp, wC_cmp0, wC_cmpL, wC_and, wC_or, wC_not, wC_ite, wL_ite, wA_nil, wA_int, wA_long, wE_call, wL_call, wS_skip, wS_seq, wS_set, wS_setL, wS_inc, wS_if, wS_put, wS_putL, wS_putOp, wS_putOpL, wS_ast, wS_astL, wS_aop, wS_aopL, wS_ret, wS_retL, wS_retV, wS_do, wS_pop, wS_dead, wS_sw, wF_body, Nat.reduceAdd, Nat.zero_add, Bool.not_not, true_and, and_true, if_true, if_false, ↓reduceIte, eq_self, Value.int.injEq, Value.long.injEq, exists_eq_left', ik_b1, ik_b0, ik_bz0, ik_bz3, ik_bz3_1, ik_bz3_0, ik_cmp, ik_cmpL, ik_eI, ik_eL, ik_as, ik_i0, ik_i1, decide_eq_true_eq, decide_eq_false_iff_not, decide_true, decide_false, Bool.not_true, Bool.not_false, reduceCtorEq, forall_const, false_implies, true_implies, implies_true, true_and, and_true, and_self, false_and, and_false, Bool.and_true, Bool.true_and, not_true_eq_false, not_false_eq_true, if_true, if_false, ite_true, ite_false, ik_bz3_0, ik_bz3_1, ik_bz0, a2, ik_ix_nI (show k < 4 by omega) (by omega), Option.some.injEq, cell k a1, a5, bc, w_minJ, ci, upd_at, upd_off, nI_1, nI_add]
            refine ⟨f, a4, rfl, fun q hq => ?_⟩
            rw [a6 q hq]
            constructor
            · intro z k' hk'
              by_cases e : k' = k
              · subst e
                have := (a6 q hq).mpr z
                omega
              · exact z k' (by omega)
            · exact fun z k' hk' => z k' (by omega)
          · have ci : (nI f ≤ nI (ctF N B S T m ft k)) = False := eq_false (fun z => c ((nI_leI (by omega) (by omega)).mp z))
            simp (decide := true) only [wE_lit, wL_lit, wE_loc, wL_loc, wE_add, wE_sub, wE_mul, wE_and, wE_or, wE_xor, wE_shl, wE_shr, wE_ushr, wE_div, wE_rem, wE_neg, wE_i2b, wE_l2i, wL_i2l, wL_add, wL_mul, wE_fld, wL_fld, wE_arr, wL_arr, wC_cmp, wC_cmp0, wC_cmpL, wC_and, wC_or, wC_not, wC_ite, wL_ite, wA_nil, wA_int, wA_long, wE_call, wL_call, wS_skip, wS_seq, wS_set, wS_setL, wS_inc, wS_if, wS_put, wS_putL, wS_putOp, wS_putOpL, wS_ast, wS_astL, wS_aop, wS_aopL, wS_ret, wS_retL, wS_retV, wS_do, wS_pop, wS_dead, wS_sw, wF_body, Nat.reduceAdd, Nat.zero_add, Bool.not_not, true_and, and_true, if_true, if_false, ↓reduceIte, eq_self, Value.int.injEq, Value.long.injEq, exists_eq_left', ik_b1, ik_b0, ik_bz0, ik_bz3, ik_bz3_1, ik_bz3_0, ik_cmp, ik_cmpL, ik_eI, ik_eL, ik_as, ik_i0, ik_i1, decide_eq_true_eq, decide_eq_false_iff_not, decide_true, decide_false, Bool.not_true, Bool.not_false, reduceCtorEq, forall_const, false_implies, true_implies, implies_true, true_and, and_true, and_self, false_and, and_false, Bool.and_true, Bool.true_and, not_true_eq_false, not_false_eq_true, if_true, if_false, ite_true, ite_false, ik_bz3_0, ik_bz3_1, ik_bz0, a2, ik_ix_nI (show k < 4 by omega) (by omega), Option.some.injEq, cell k a1, a5, bc, w_minJ, ci, upd_at, upd_off, nI_1, nI_add]
            refine ⟨ctF N B S T m ft k, cl, rfl, fun q hq => ?_⟩
            constructor
            · intro z k' hk'
              by_cases e : k' = k
              · subst e; exact z
              · exact (a6 q hq).mp (by omega) k' (by omega)
            · exact fun z => z k (by omega)
        · rintro ⟨t1, t2, t3⟩ ⟨a2, a3, f, a4, a5, a6⟩
          simp only at a3 a5
          subst a3
          simp (decide := true) only [wE_lit, wL_lit, wE_loc, wL_loc, wE_add, wE_sub, wE_mul, wE_and, wE_or, wE_xor, wE_shl, wE_shr, wE_ushr, wE_div, wE_rem, wE_neg, wE_i2b, wE_l2i, wL_i2l, wL_add, wL_mul, wE_fld, wL_fld, wE_arr, wL_arr, wC_cmp, wC_cmp0, wC_cmpL, wC_and, wC_or, wC_not, wC_ite, wL_ite, wA_nil, wA_int, wA_long, wE_call, wL_call, wS_skip, wS_seq, wS_set, wS_setL, wS_inc, wS_if, wS_put, wS_putL, wS_putOp, wS_putOpL, wS_ast, wS_astL, wS_aop, wS_aopL, wS_ret, wS_retL, wS_retV, wS_do, wS_pop, wS_dead, wS_sw, wF_body, Nat.reduceAdd, Nat.zero_add, Bool.not_not, true_and, and_true, if_true, if_false, ↓reduceIte, eq_self, Value.int.injEq, Value.long.injEq, exists_eq_left', ik_b1, ik_b0, ik_bz0, ik_bz3, ik_bz3_1, ik_bz3_0, ik_cmp, ik_cmpL, ik_eI, ik_eL, ik_as, ik_i0, ik_i1, decide_eq_true_eq, decide_eq_false_iff_not, decide_true, decide_false, Bool.not_true, Bool.not_false, reduceCtorEq, forall_const, false_implies, true_implies, implies_true, true_and, and_true, and_self, false_and, and_false, Bool.and_true, Bool.true_and, not_true_eq_false, not_false_eq_true, if_true, if_false, ite_true, ite_false, ik_bz3_0, ik_bz3_1, ik_bz0, a5]
          exact ⟨h3.tr k1, k3.trans h4, f, a4, rfl, fun q _ hq => a6 q hq⟩
