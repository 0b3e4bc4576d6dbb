/-! given away by which reason -/
theorem SF_1 {N B S T : Nat} {m : GG} {ft : Nat → Nat → Bool} {td ld : Bool} (hN : N ≤ 24) (hB : B ≤ 4) : SF N B S T m ft td ld (fun _ _ => 1) ≤ 331776 := by
  have p2 := NB_lt hN hB
  have : SF N B S T m ft td ld (fun _ _ => 1) ≤ N ^ B * 1 := by
    rw [SF_row]
    refine sm_b (fun r hr => ?_)
    by_cases c : FB B S T m ft td ld (row N B r) = true
    · rw [Frow_y c, pwN_1]
      exact Nat.le_refl _
    · rw [Frow_n c]
      exact Nat.zero_le _
  omega
/-- the best of the first, and how many -/
def gv (F : Nat → Nat) : Nat → Nat × Nat
  | 0 => (0, F 0)
  | p + 1 => if (gv F p).2 < F (p + 1) then (p + 1, F (p + 1)) else gv F p
theorem gv_b {F : Nat → Nat} {c : Nat} (h : ∀ p, F p ≤ c) : ∀ p, (gv F p).1 ≤ p ∧ (gv F p).2 ≤ c
  | 0 => ⟨Nat.le_refl _, h 0⟩
  | p + 1 => by
    have i := gv_b h p
    show (if (gv F p).2 < F (p + 1) then (p + 1, F (p + 1)) else gv F p).1 ≤ _ ∧ (if (gv F p).2 < F (p + 1) then (p + 1, F (p + 1)) else gv F p).2 ≤ c
    split
    · exact ⟨Nat.le_refl _, h _⟩
    · exact ⟨by omega, i.2⟩
theorem gv_y {F : Nat → Nat} {p : Nat} (h : (gv F p).2 < F (p + 1)) : gv F (p + 1) = (p + 1, F (p + 1)) := if_pos h
theorem gv_n {F : Nat → Nat} {p : Nat} (h : ¬ (gv F p).2 < F (p + 1)) : gv F (p + 1) = gv F p := if_neg h
theorem op_given (x m : GG) (h : Rel x m) : ∃ v x' m', fX11_given [] x = some (v, x') ∧ fX12_given [] m = some (v, m') ∧ Rel x' m' := by
  have h0 := h
  obtain ⟨N, B, S, h⟩ := h
  have hA := h
  obtain ⟨hT, hL, hN, hB, hTi, hLi, hH, hC, hNo, hS, hR, hQ⟩ := h
  have hB4 := hB.1
  have hN24 := hN.1
  have xB := hB.2.1
  have mB := hB.2.2.1
  by_cases z : B = 0
  · subst z
    refine ⟨.int (-1), x, m, eq_of_wF ?_, eq_of_wF ?_, h0⟩
    · unfold fX11_given
      simp (decide := true) only [wE_lit, wL_lit, wE_loc, wL_loc, wE_add, wE_sub, wE_mul, wE_and, wE_or, wE_xor, wE_shl, wE_shr, wE_ushr, wE_div, wE_rem, wE_neg, wE_i2b, wE_l2i, wL_i2l, wL_add, wL_mul, wE_fld, wL_fld, wE_arr, wL_arr, wC_cmp, wC_cmp0, wC_cmpL, wC_and, wC_or, wC_not, wC_ite, wL_ite, wA_nil, wA_int, wA_long, wE_call, wL_call, wS_skip, wS_seq, wS_set, wS_setL, wS_inc, wS_if, wS_put, wS_putL, wS_putOp, wS_putOpL, wS_ast, wS_astL, wS_aop, wS_aopL, wS_ret, wS_retL, wS_retV, wS_do, wS_pop, wS_dead, wS_sw, wF_body, Nat.reduceAdd, Nat.zero_add, Bool.not_not, true_and, and_true, if_true, if_false, ↓reduceIte, eq_self, Value.int.injEq, Value.long.injEq, exists_eq_left', ik_b1, ik_b0, ik_bz0, ik_bz3, ik_bz3_1, ik_bz3_0, ik_cmp, ik_cmpL, ik_eI, ik_eL, ik_as, ik_i0, ik_i1, decide_eq_true_eq, decide_eq_false_iff_not, decide_true, decide_false, Bool.not_true, Bool.not_false, reduceCtorEq, forall_const, false_implies, true_implies, implies_true, true_and, and_true, and_self, false_and, and_false, Bool.and_true, Bool.true_and, not_true_eq_false, not_false_eq_true, if_true, if_false, ite_true, ite_false, ik_bz3_0, ik_bz3_1, ik_bz0, w_cnt0, xB, nI_0]
    · unfold fX12_given
      simp (decide := true) only [wE_lit, wL_lit, wE_loc, wL_loc, wE_add, wE_sub, wE_mul, wE_and, wE_or, wE_xor, wE_shl, wE_shr, wE_ushr, wE_div, wE_rem, wE_neg, wE_i2b, wE_l2i, wL_i2l, wL_add, wL_mul, wE_fld, wL_fld, wE_arr, wL_arr, wC_cmp, wC_cmp0, wC_cmpL, wC_and, wC_or, wC_not, wC_ite, wL_ite, wA_nil, wA_int, wA_long, wE_call, wL_call, wS_skip, wS_seq, wS_set, wS_setL, wS_inc, wS_if, wS_put, wS_putL, wS_putOp, wS_putOpL, wS_ast, wS_astL, wS_aop, wS_aopL, wS_ret, wS_retL, wS_retV, wS_do, wS_pop, wS_dead, wS_sw, wF_body, Nat.reduceAdd, Nat.zero_add, Bool.not_not, true_and, and_true, if_true, if_false, ↓reduceIte, eq_self, Value.int.injEq, Value.long.injEq, exists_eq_left', ik_b1, ik_b0, ik_bz0, ik_bz3, ik_bz3_1, ik_bz3_0, ik_cmp, ik_cmpL, ik_eI, ik_eL, ik_as, ik_i0, ik_i1, decide_eq_true_eq, decide_eq_false_iff_not, decide_true, decide_false, Bool.not_true, Bool.not_false, reduceCtorEq, forall_const, false_implies, true_implies, implies_true, true_and, and_true, and_self, false_and, and_false, Bool.and_true, Bool.true_and, not_true_eq_false, not_false_eq_true, if_true, if_false, ite_true, ite_false, ik_bz3_0, ik_bz3_1, ik_bz0, mB, nI_0]
  have nz : (nI B = 0) = False := eq_false (fun q => z ((nI_eq (by omega) (by omega)).mp (q.trans nI_0.symm)))
  have hB0 : 0 < B := by omega
  obtain ⟨c1, M, L, hD⟩ := hR.d
  obtain ⟨n, ln1, ln2, ln3, ln4⟩ := hLi
  obtain ⟨⟨Hn, hn1, hn2, hn3, hn4⟩, hh⟩ := hH
  obtain ⟨T, t1, t2, t3, t4⟩ := hTi
  obtain ⟨F, hF⟩ : ∃ F : Nat → Nat, F = fun p => SF N B S T m (ftW m S n Hn L (nI (2 ^ p))) (decide (nI (2 ^ p) &&& 16 = 0)) (decide (nI (2 ^ p) &&& 2 = 0)) (fun _ _ => 1) := ⟨_, rfl⟩
  have Fb : ∀ p, F p ≤ 331776 := fun p => by rw [hF]; exact SF_1 hN24 hB4
  have p2 : ∀ p, p < 6 → nI (2 ^ p) * 2 = nI (2 ^ (p + 1)) := fun p _ => by rw [show (2 : Int32) = nI 2 from rfl, pk_mul, Nat.pow_succ]
  have pl : ∀ p, p ≤ 6 → (nI (2 ^ p) ≤ 32 ↔ p < 6) := by
    intro p hp
    have : ∀ q : Fin 7, (nI (2 ^ q.val) ≤ 32 ↔ q.val < 6) := by decide
    exact this ⟨p, by omega⟩
  have cx : ∀ p g, eqW x g → rQ g m → ∃ g', fX11_countWithout [.int (nI (2 ^ p))] g = some (.int (nI (F p)), g') ∧ eqW x g' ∧ rQ g' m := by
    intro p g hg hq
    obtain ⟨g', e1, k1, k2⟩ := w_countW (hA.e.z hg.z) hq (hD.w hg) ln1 ln3 hn3 hn1 t3 t1 hB0 (nI (2 ^ p))
    rw [hF]
    exact ⟨g', e1, hg.tr k1, k2⟩
  have cm : ∀ p g, eqM m g → ∃ g', fX12_fills [.int (nI (2 ^ p))] g = some (.null, g') ∧ eqM m g' ∧ g'.1 0 67 = nI (F p) := by
    intro p g hg
    obtain ⟨_, g', e1, rfl, k1, k2, -⟩ := w_fills hA.e hD ln3 ln1 hn3 hn1 t3 t1 hB0 hg (nI (2 ^ p))
    rw [hF]
    exact ⟨g', e1, k1, k2⟩
  have X : wF fX11_given [] x (fun v g => v = .int (nI (2 ^ (gv F 5).1)) ∧ eqW x g ∧ rQ g m) := by
    obtain ⟨g0, e0, k1, k2⟩ := cx 0 x (eqW.rfl' x) hQ
    have e0' : fX11_countWithout [.int 1] x = _ := e0
    unfold fX11_given
    simp (decide := true) only [wE_lit, wL_lit, wE_loc, wL_loc, wE_add, wE_sub, wE_mul, wE_and, wE_or, wE_xor, wE_shl, wE_shr, wE_ushr, wE_div, wE_rem, wE_neg, wE_i2b, wE_l2i, wL_i2l, wL_add, wL_mul, wE_fld, wL_fld, wE_arr, wL_arr, wC_cmp, wC_cmp0, wC_cmpL, wC_and, wC_or, wC_not, wC_ite, wL_ite, wA_nil, wA_int, wA_long, wE_call, wL_call, wS_skip, wS_seq, wS_set, wS_setL, wS_inc, wS_if, wS_put, wS_putL, wS_putOp, wS_putOpL, wS_ast, wS_astL, wS_aop, wS_aopL, wS_ret, wS_retL, wS_retV, wS_do, wS_pop, wS_dead, wS_sw, wF_body, Nat.reduceAdd, Nat.zero_add, Bool.not_not, true_and, and_true, if_true, if_false, ↓reduceIte, eq_self, Value.int.injEq, Value.long.injEq, exists_eq_left', ik_b1, ik_b0, ik_bz0, ik_bz3, ik_bz3_1, ik_bz3_0, ik_cmp, ik_cmpL, ik_eI, ik_eL, ik_as, ik_i0, ik_i1, decide_eq_true_eq, decide_eq_false_iff_not, decide_true, decide_false, Bool.not_true, Bool.not_false, reduceCtorEq, forall_const, false_implies, true_implies, implies_true, true_and, and_true, and_self, false_and, and_false, Bool.and_true, Bool.true_and, not_true_eq_false, not_false_eq_true, if_true, if_false, ite_true, ite_false, ik_bz3_0, ik_bz3_1, ik_bz0, w_cnt0, xB, nz, wF_eq e0']
    refine wS_for _ _ (fun p σ => σ.1 3 = nI (2 ^ p) ∧ σ.1 2 = nI (gv F (p - 1)).2 ∧ σ.1 1 = nI (2 ^ (gv F (p - 1)).1) ∧ eqW x σ.2.2 ∧ rQ σ.2.2 m) 1 6 _ ⟨by simp [upd]; rfl, by simp [upd, gv], by simp [upd, gv]; rfl, k1, k2⟩ (by omega) (by omega) ?_ ?_ ?_
    · rintro p ⟨s1, s2, s3⟩ a1 ⟨a2, -⟩
      simp only at a2
      simp (decide := true) only [wE_lit, wL_lit, wE_loc, wL_loc, wE_add, wE_sub, wE_mul, wE_and, wE_or, wE_xor, wE_shl, wE_shr, wE_ushr, wE_div, wE_rem, wE_neg, wE_i2b, wE_l2i, wL_i2l, wL_add, wL_mul, wE_fld, wL_fld, wE_arr, wL_arr, wC_cmp, wC_cmp0, wC_cmpL, wC_and, wC_or, wC_not, wC_ite, wL_ite, wA_nil, wA_int, wA_long, wE_call, wL_call, wS_skip, wS_seq, wS_set, wS_setL, wS_inc, wS_if, wS_put, wS_putL, wS_putOp, wS_putOpL, wS_ast, wS_astL, wS_aop, wS_aopL, wS_ret, wS_retL, wS_retV, wS_do, wS_pop, wS_dead, wS_sw, wF_body, Nat.reduceAdd, Nat.zero_add, Bool.not_not, true_and, and_true, if_true, if_false, ↓reduceIte, eq_self, Value.int.injEq, Value.long.injEq, exists_eq_left', ik_b1, ik_b0, ik_bz0, ik_bz3, ik_bz3_1, ik_bz3_0, ik_cmp, ik_cmpL, ik_eI, ik_eL, ik_as, ik_i0, ik_i1, decide_eq_true_eq, decide_eq_false_iff_not, decide_true, decide_false, Bool.not_true, Bool.not_false, reduceCtorEq, forall_const, false_implies, true_implies, implies_true, true_and, and_true, and_self, false_and, and_false, Bool.and_true, Bool.true_and, not_true_eq_false, not_false_eq_true, if_true, if_false, ite_true, ite_false, ik_bz3_0, ik_bz3_1, ik_bz0, a2, pl p a1]
    · rintro p ⟨s1, s2, s3⟩ a1 ⟨a2, a3, a4, a5, a6⟩
      simp only at a2 a3 a4 a5 a6
      obtain ⟨g', e1, q1, q2⟩ := cx p s3 a5 a6
      by_cases p0 : p = 0
      · subst p0
        have b := gv_b Fb 0
        have lt : (nI (F 0) > nI (gv F (0 - 1)).2) = False := eq_false (fun z => by
          have : nI (gv F 0).2 < nI (F 0) := z
          rw [nI_ltI (by have := Fb 0; omega) (by have := Fb 0; omega)] at this
          exact absurd this (Nat.lt_irrefl _))
        simp (decide := true) only [wE_lit, wL_lit, wE_loc, wL_loc, wE_add, wE_sub, wE_mul, wE_and, wE_or, wE_xor, wE_shl, wE_shr, wE_ushr, wE_div, wE_rem, wE_neg, wE_i2b, wE_l2i, wL_i2l, wL_add, wL_mul, wE_fld, wL_fld, wE_arr, wL_arr, wC_cmp, wC_cmp0, wC_cmpL, wC_and, wC_or, wC_not, wC_ite, wL_ite, wA_nil, wA_int, wA_long, wE_call, wL_call, wS_skip, wS_seq, wS_set, wS_setL, wS_inc, wS_if, wS_put, wS_putL, wS_putOp, wS_putOpL, wS_ast, wS_astL, wS_aop, wS_aopL, wS_ret, wS_retL, wS_retV, wS_do, wS_pop, wS_dead, wS_sw, wF_body, Nat.reduceAdd, Nat.zero_add, Bool.not_not, true_and, and_true, if_true, if_false, ↓reduceIte, eq_self, Value.int.injEq, Value.long.injEq, exists_eq_left', ik_b1, ik_b0, ik_bz0, ik_bz3, ik_bz3_1, ik_bz3_0, ik_cmp, ik_cmpL, ik_eI, ik_eL, ik_as, ik_i0, ik_i1, decide_eq_true_eq, decide_eq_false_iff_not, decide_true, decide_false, Bool.not_true, Bool.not_false, reduceCtorEq, forall_const, false_implies, true_implies, implies_true, true_and, and_true, and_self, false_and, and_false, Bool.and_true, Bool.true_and, not_true_eq_false, not_false_eq_true, if_true, if_false, ite_true, ite_false, ik_bz3_0, ik_bz3_1, ik_bz0, a2, wF_eq e1, a3, lt, upd_at, upd_off, p2 0 (by omega)]
        exact ⟨a4, q1, q2⟩
      · have b := gv_b Fb (p - 1)
        have bF := Fb p
        have lt : (nI (F p) > nI (gv F (p - 1)).2) ↔ (gv F (p - 1)).2 < F (p - 1 + 1) := by
          rw [show p - 1 + 1 = p by omega]
          show nI (gv F (p - 1)).2 < nI (F p) ↔ _
          exact nI_ltI (by omega) (by omega)
        have sp : p + 1 - 1 = p - 1 + 1 := by omega
        by_cases c : (gv F (p - 1)).2 < F (p - 1 + 1)
        · have g1 := gv_y c
          rw [show p - 1 + 1 = p by omega] at g1
          have lT := eq_true (lt.mpr c)
          simp (decide := true) only [wE_lit, wL_lit, wE_loc, wL_loc, wE_add, wE_sub, wE_mul, wE_and, wE_or, wE_xor, wE_shl, wE_shr, wE_ushr, wE_div, wE_rem, wE_neg, wE_i2b, wE_l2i, wL_i2l, wL_add, wL_mul, wE_fld, wL_fld, wE_arr, wL_arr, wC_cmp, wC_cmp0, wC_cmpL, wC_and, wC_or, wC_not, wC_ite, wL_ite, wA_nil, wA_int, wA_long, wE_call, wL_call, wS_skip, wS_seq, wS_set, wS_setL, wS_inc, wS_if, wS_put, wS_putL, wS_putOp, wS_putOpL, wS_ast, wS_astL, wS_aop, wS_aopL, wS_ret, wS_retL, wS_retV, wS_do, wS_pop, wS_dead, wS_sw, wF_body, Nat.reduceAdd, Nat.zero_add, Bool.not_not, true_and, and_true, if_true, if_false, ↓reduceIte, eq_self, Value.int.injEq, Value.long.injEq, exists_eq_left', ik_b1, ik_b0, ik_bz0, ik_bz3, ik_bz3_1, ik_bz3_0, ik_cmp, ik_cmpL, ik_eI, ik_eL, ik_as, ik_i0, ik_i1, decide_eq_true_eq, decide_eq_false_iff_not, decide_true, decide_false, Bool.not_true, Bool.not_false, reduceCtorEq, forall_const, false_implies, true_implies, implies_true, true_and, and_true, and_self, false_and, and_false, Bool.and_true, Bool.true_and, not_true_eq_false, not_false_eq_true, if_true, if_false, ite_true, ite_false, ik_bz3_0, ik_bz3_1, ik_bz0, a2, wF_eq e1, a3, lT, upd_at, upd_off, p2 p (by omega)]
          rw [Nat.add_sub_cancel, g1]
          exact ⟨rfl, rfl, q1, q2⟩
        · have g1 := gv_n c
          rw [show p - 1 + 1 = p by omega] at g1
          have lF := eq_false (fun z => c (lt.mp z))
          simp (decide := true) only [wE_lit, wL_lit, wE_loc, wL_loc, wE_add, wE_sub, wE_mul, wE_and, wE_or, wE_xor, wE_shl, wE_shr, wE_ushr, wE_div, wE_rem, wE_neg, wE_i2b, wE_l2i, wL_i2l, wL_add, wL_mul, wE_fld, wL_fld, wE_arr, wL_arr, wC_cmp, wC_cmp0, wC_cmpL, wC_and, wC_or, wC_not, wC_ite, wL_ite, wA_nil, wA_int, wA_long, wE_call, wL_call, wS_skip, wS_seq, wS_set, wS_setL, wS_inc, wS_if, wS_put, wS_putL, wS_putOp, wS_putOpL, wS_ast, wS_astL, wS_aop, wS_aopL, wS_ret, wS_retL, wS_retV, wS_do, wS_pop, wS_dead, wS_sw, wF_body, Nat.reduceAdd, Nat.zero_add, Bool.not_not, true_and, and_true, if_true, if_false, ↓reduceIte, eq_self, Value.int.injEq, Value.long.injEq, exists_eq_left', ik_b1, ik_b0, ik_bz0, ik_bz3, ik_bz3_1, ik_bz3_0, ik_cmp, ik_cmpL, ik_eI, ik_eL, ik_as, ik_i0, ik_i1, decide_eq_true_eq, decide_eq_false_iff_not, decide_true, decide_false, Bool.not_true, Bool.not_false, reduceCtorEq, forall_const, false_implies, true_implies, implies_true, true_and, and_true, and_self, false_and, and_false, Bool.and_true, Bool.true_and, not_true_eq_false, not_false_eq_true, if_true, if_false, ite_true, ite_false, ik_bz3_0, ik_bz3_1, ik_bz0, a2, wF_eq e1, a3, lF, upd_at, upd_off, p2 p (by omega)]
          rw [Nat.add_sub_cancel, g1]
          exact ⟨rfl, a4, q1, q2⟩
    · rintro ⟨s1, s2, s3⟩ ⟨a2, a3, a4, a5, a6⟩
      simp only at a4 a5 a6
      simp (decide := true) only [wE_lit, wL_lit, wE_loc, wL_loc, wE_add, wE_sub, wE_mul, wE_and, wE_or, wE_xor, wE_shl, wE_shr, wE_ushr, wE_div, wE_rem, wE_neg, wE_i2b, wE_l2i, wL_i2l, wL_add, wL_mul, wE_fld, wL_fld, wE_arr, wL_arr, wC_cmp, wC_cmp0, wC_cmpL, wC_and, wC_or, wC_not, wC_ite, wL_ite, wA_nil, wA_int, wA_long, wE_call, wL_call, wS_skip, wS_seq, wS_set, wS_setL, wS_inc, wS_if, wS_put, wS_putL, wS_putOp, wS_putOpL, wS_ast, wS_astL, wS_aop, wS_aopL, wS_ret, wS_retL, wS_retV, wS_do, wS_pop, wS_dead, wS_sw, wF_body, Nat.reduceAdd, Nat.zero_add, Bool.not_not, true_and, and_true, if_true, if_false, ↓reduceIte, eq_self, Value.int.injEq, Value.long.injEq, exists_eq_left', ik_b1, ik_b0, ik_bz0, ik_bz3, ik_bz3_1, ik_bz3_0, ik_cmp, ik_cmpL, ik_eI, ik_eL, ik_as, ik_i0, ik_i1, decide_eq_true_eq, decide_eq_false_iff_not, decide_true, decide_false, Bool.not_true, Bool.not_false, reduceCtorEq, forall_const, false_implies, true_implies, implies_true, true_and, and_true, and_self, false_and, and_false, Bool.and_true, Bool.true_and, not_true_eq_false, not_false_eq_true, if_true, if_false, ite_true, ite_false, ik_bz3_0, ik_bz3_1, ik_bz0, a4]
      exact ⟨a5, a6⟩
  have Y : wF fX12_given [] m (fun v g => v = .int (nI (2 ^ (gv F 5).1)) ∧ eqM m g) := by
    unfold fX12_given
    simp (decide := true) only [wE_lit, wL_lit, wE_loc, wL_loc, wE_add, wE_sub, wE_mul, wE_and, wE_or, wE_xor, wE_shl, wE_shr, wE_ushr, wE_div, wE_rem, wE_neg, wE_i2b, wE_l2i, wL_i2l, wL_add, wL_mul, wE_fld, wL_fld, wE_arr, wL_arr, wC_cmp, wC_cmp0, wC_cmpL, wC_and, wC_or, wC_not, wC_ite, wL_ite, wA_nil, wA_int, wA_long, wE_call, wL_call, wS_skip, wS_seq, wS_set, wS_setL, wS_inc, wS_if, wS_put, wS_putL, wS_putOp, wS_putOpL, wS_ast, wS_astL, wS_aop, wS_aopL, wS_ret, wS_retL, wS_retV, wS_do, wS_pop, wS_dead, wS_sw, wF_body, Nat.reduceAdd, Nat.zero_add, Bool.not_not, true_and, and_true, if_true, if_false, ↓reduceIte, eq_self, Value.int.injEq, Value.long.injEq, exists_eq_left', ik_b1, ik_b0, ik_bz0, ik_bz3, ik_bz3_1, ik_bz3_0, ik_cmp, ik_cmpL, ik_eI, ik_eL, ik_as, ik_i0, ik_i1, decide_eq_true_eq, decide_eq_false_iff_not, decide_true, decide_false, Bool.not_true, Bool.not_false, reduceCtorEq, forall_const, false_implies, true_implies, implies_true, true_and, and_true, and_self, false_and, and_false, Bool.and_true, Bool.true_and, not_true_eq_false, not_false_eq_true, if_true, if_false, ite_true, ite_false, ik_bz3_0, ik_bz3_1, ik_bz0, mB, nz]
    refine wS_for _ _ (fun p σ => σ.1 3 = nI (2 ^ p) ∧ (p = 0 → σ.1 2 = -1) ∧ (0 < p → σ.1 2 = nI (gv F (p - 1)).2 ∧ σ.1 1 = nI (2 ^ (gv F (p - 1)).1)) ∧ eqM m σ.2.2) 0 6 _ ⟨by simp [upd]; rfl, fun _ => by simp [upd], fun z => absurd z (Nat.lt_irrefl _), eqM.rfl' m⟩ (by omega) (by omega) ?_ ?_ ?_
    · rintro p ⟨s1, s2, s3⟩ a1 ⟨a2, -⟩
      simp only at a2
      simp (decide := true) only [wE_lit, wL_lit, wE_loc, wL_loc, wE_add, wE_sub, wE_mul, wE_and, wE_or, wE_xor, wE_shl, wE_shr, wE_ushr, wE_div, wE_rem, wE_neg, wE_i2b, wE_l2i, wL_i2l, wL_add, wL_mul, wE_fld, wL_fld, wE_arr, wL_arr, wC_cmp, wC_cmp0, wC_cmpL, wC_and, wC_or, wC_not, wC_ite, wL_ite, wA_nil, wA_int, wA_long, wE_call, wL_call, wS_skip, wS_seq, wS_set, wS_setL, wS_inc, wS_if, wS_put, wS_putL, wS_putOp, wS_putOpL, wS_ast, wS_astL, wS_aop, wS_aopL, wS_ret, wS_retL, wS_retV, wS_do, wS_pop, wS_dead, wS_sw, wF_body, Nat.reduceAdd, Nat.zero_add, Bool.not_not, true_and, and_true, if_true, if_false, ↓reduceIte, eq_self, Value.int.injEq, Value.long.injEq, exists_eq_left', ik_b1, ik_b0, ik_bz0, ik_bz3, ik_bz3_1, ik_bz3_0, ik_cmp, ik_cmpL, ik_eI, ik_eL, ik_as, ik_i0, ik_i1, decide_eq_true_eq, decide_eq_false_iff_not, decide_true, decide_false, Bool.not_true, Bool.not_false, reduceCtorEq, forall_const, false_implies, true_implies, implies_true, true_and, and_true, and_self, false_and, and_false, Bool.and_true, Bool.true_and, not_true_eq_false, not_false_eq_true, if_true, if_false, ite_true, ite_false, ik_bz3_0, ik_bz3_1, ik_bz0, a2, pl p a1]
    · rintro p ⟨s1, s2, s3⟩ a1 ⟨a2, a3, a4, a5⟩
      simp only at a2 a3 a4 a5
      obtain ⟨g', e1, q1, q2⟩ := cm p s3 a5
      by_cases p0 : p = 0
      · subst p0
        have a3' := a3 rfl
        have lF : (nI (F 0) ≤ (-1 : Int32)) = False := eq_false (fun z => by
          have := nI_pos' (n := F 0) (by have := Fb 0; omega)
          have := Int32.le_trans this z
          exact absurd this (by decide))
        simp (decide := true) only [wE_lit, wL_lit, wE_loc, wL_loc, wE_add, wE_sub, wE_mul, wE_and, wE_or, wE_xor, wE_shl, wE_shr, wE_ushr, wE_div, wE_rem, wE_neg, wE_i2b, wE_l2i, wL_i2l, wL_add, wL_mul, wE_fld, wL_fld, wE_arr, wL_arr, wC_cmp, wC_cmp0, wC_cmpL, wC_and, wC_or, wC_not, wC_ite, wL_ite, wA_nil, wA_int, wA_long, wE_call, wL_call, wS_skip, wS_seq, wS_set, wS_setL, wS_inc, wS_if, wS_put, wS_putL, wS_putOp, wS_putOpL, wS_ast, wS_astL, wS_aop, wS_aopL, wS_ret, wS_retL, wS_retV, wS_do, wS_pop, wS_dead, wS_sw, wF_body, Nat.reduceAdd, Nat.zero_add, Bool.not_not, true_and, and_true, if_true, if_false, ↓reduceIte, eq_self, Value.int.injEq, Value.long.injEq, exists_eq_left', ik_b1, ik_b0, ik_bz0, ik_bz3, ik_bz3_1, ik_bz3_0, ik_cmp, ik_cmpL, ik_eI, ik_eL, ik_as, ik_i0, ik_i1, decide_eq_true_eq, decide_eq_false_iff_not, decide_true, decide_false, Bool.not_true, Bool.not_false, reduceCtorEq, forall_const, false_implies, true_implies, implies_true, true_and, and_true, and_self, false_and, and_false, Bool.and_true, Bool.true_and, not_true_eq_false, not_false_eq_true, if_true, if_false, ite_true, ite_false, ik_bz3_0, ik_bz3_1, ik_bz0, a2, wF_eq e1, q2, a3', lF, upd_at, upd_off, p2 0 (by omega)]
        exact ⟨⟨rfl, rfl⟩, q1⟩
      · obtain ⟨a6, a7⟩ := a4 (by omega)
        have b := gv_b Fb (p - 1)
        have bF := Fb p
        have le : (nI (F p) ≤ nI (gv F (p - 1)).2) ↔ ¬ (gv F (p - 1)).2 < F (p - 1 + 1) := by
          rw [show p - 1 + 1 = p by omega, nI_leI (by omega) (by omega)]
          omega
        by_cases c : (gv F (p - 1)).2 < F (p - 1 + 1)
        · have g1 := gv_y c
          rw [show p - 1 + 1 = p by omega] at g1
          have lF := eq_false (fun z => (le.mp z) c)
          simp (decide := true) only [wE_lit, wL_lit, wE_loc, wL_loc, wE_add, wE_sub, wE_mul, wE_and, wE_or, wE_xor, wE_shl, wE_shr, wE_ushr, wE_div, wE_rem, wE_neg, wE_i2b, wE_l2i, wL_i2l, wL_add, wL_mul, wE_fld, wL_fld, wE_arr, wL_arr, wC_cmp, wC_cmp0, wC_cmpL, wC_and, wC_or, wC_not, wC_ite, wL_ite, wA_nil, wA_int, wA_long, wE_call, wL_call, wS_skip, wS_seq, wS_set, wS_setL, wS_inc, wS_if, wS_put, wS_putL, wS_putOp, wS_putOpL, wS_ast, wS_astL, wS_aop, wS_aopL, wS_ret, wS_retL, wS_retV, wS_do, wS_pop, wS_dead, wS_sw, wF_body, Nat.reduceAdd, Nat.zero_add, Bool.not_not, true_and, and_true, if_true, if_false, ↓reduceIte, eq_self, Value.int.injEq, Value.long.injEq, exists_eq_left', ik_b1, ik_b0, ik_bz0, ik_bz3, ik_bz3_1, ik_bz3_0, ik_cmp, ik_cmpL, ik_eI, ik_eL, ik_as, ik_i0, ik_i1, decide_eq_true_eq, decide_eq_false_iff_not, decide_true, decide_false, Bool.not_true, Bool.not_false, reduceCtorEq, forall_const, false_implies, true_implies, implies_true, true_and, and_true, and_self, false_and, and_false, Bool.and_true, Bool.true_and, not_true_eq_false, not_false_eq_true, if_true, if_false, ite_true, ite_false, ik_bz3_0, ik_bz3_1, ik_bz0, a2, wF_eq e1, q2, a6, lF, upd_at, upd_off, p2 p (by omega)]
          rw [Nat.add_sub_cancel, g1]
          exact ⟨fun _ => ⟨rfl, rfl⟩, q1⟩
        · have g1 := gv_n c
          rw [show p - 1 + 1 = p by omega] at g1
          have lT := eq_true (le.mpr c)
          simp (decide := true) only [wE_lit, wL_lit, wE_loc, wL_loc, wE_add, wE_sub, wE_mul, wE_and, wE_or, wE_xor, wE_shl, wE_shr, wE_ushr, wE_div, wE_rem, wE_neg, wE_i2b, wE_l2i, wL_i2l, wL_add, wL_mul, wE_fld, wL_fld, wE_arr, wL_arr, wC_cmp, wC_cmp0, wC_cmpL, wC_and, wC_or, wC_not, wC_ite, wL_ite, wA_nil, wA_int, wA_long, wE_call, wL_call, wS_skip, wS_seq, wS_set, wS_setL, wS_inc, wS_if, wS_put, wS_putL, wS_putOp, wS_putOpL, wS_ast, wS_astL, wS_aop, wS_aopL, wS_ret, wS_retL, wS_retV, wS_do, wS_pop, wS_dead, wS_sw, wF_body, Nat.reduceAdd, Nat.zero_add, Bool.not_not, true_and, and_true, if_true, if_false, ↓reduceIte, eq_self, Value.int.injEq, Value.long.injEq, exists_eq_left', ik_b1, ik_b0, ik_bz0, ik_bz3, ik_bz3_1, ik_bz3_0, ik_cmp, ik_cmpL, ik_eI, ik_eL, ik_as, ik_i0, ik_i1, decide_eq_true_eq, decide_eq_false_iff_not, decide_true, decide_false, Bool.not_true, Bool.not_false, reduceCtorEq, forall_const, false_implies, true_implies, implies_true, true_and, and_true, and_self, false_and, and_false, Bool.and_true, Bool.true_and, not_true_eq_false, not_false_eq_true, if_true, if_false, ite_true, ite_false, ik_bz3_0, ik_bz3_1, ik_bz0, a2, wF_eq e1, q2, a6, lT, upd_at, upd_off, p2 p (by omega)]
          rw [Nat.add_sub_cancel, g1]
          exact ⟨fun _ => ⟨rfl, a7⟩, q1⟩
    · rintro ⟨s1, s2, s3⟩ ⟨a2, a3, a4, a5⟩
      simp only at a4 a5
      obtain ⟨-, a7⟩ := a4 (by decide)
      simp (decide := true) only [wE_lit, wL_lit, wE_loc, wL_loc, wE_add, wE_sub, wE_mul, wE_and, wE_or, wE_xor, wE_shl, wE_shr, wE_ushr, wE_div, wE_rem, wE_neg, wE_i2b, wE_l2i, wL_i2l, wL_add, wL_mul, wE_fld, wL_fld, wE_arr, wL_arr, wC_cmp, wC_cmp0, wC_cmpL, wC_and, wC_or, wC_not, wC_ite, wL_ite, wA_nil, wA_int, wA_long, wE_call, wL_call, wS_skip, wS_seq, wS_set, wS_setL, wS_inc, wS_if, wS_put, wS_putL, wS_putOp, wS_putOpL, wS_ast, wS_astL, wS_aop, wS_aopL, wS_ret, wS_retL, wS_retV, wS_do, wS_pop, wS_dead, wS_sw, wF_body, Nat.reduceAdd, Nat.zero_add, Bool.not_not, true_and, and_true, if_true, if_false, ↓reduceIte, eq_self, Value.int.injEq, Value.long.injEq, exists_eq_left', ik_b1, ik_b0, ik_bz0, ik_bz3, ik_bz3_1, ik_bz3_0, ik_cmp, ik_cmpL, ik_eI, ik_eL, ik_as, ik_i0, ik_i1, decide_eq_true_eq, decide_eq_false_iff_not, decide_true, decide_false, Bool.not_true, Bool.not_false, reduceCtorEq, forall_const, false_implies, true_implies, implies_true, true_and, and_true, and_self, false_and, and_false, Bool.and_true, Bool.true_and, not_true_eq_false, not_false_eq_true, if_true, if_false, ite_true, ite_false, ik_bz3_0, ik_bz3_1, ik_bz0, a7]
      exact a5
  obtain ⟨_, g, ex, rfl, k1, k2⟩ := X
  obtain ⟨_, g', em, rfl, q1⟩ := Y
  exact ⟨_, g, g', ex, em, N, B, S, hA.w k1 q1 (k2.m q1)⟩
