/-! sheets: the class keeps what was read -/
theorem w_barAtD {g : GG} {S n t : Nat} (e7 : g.1 25 7 = nI (S + 1)) (hS : S < 6) (e33 : g.1 33 S = nI n) (hn : n ≤ 24) (ht : t < n) (Q : Value → GG → Prop) : wF fX8_barAt [.int (nI S), .int (nI t)] g Q ↔ Q (.int (g.1 29 (24 * S + t))) g := by
  refine wF_eq (eq_of_wF ?_) Q
  have p1 := nI_pos' (n := S) (by omega)
  have p2 : nI S < nI (S + 1) := nI_lt (by omega) (by omega)
  have p3 : nI S < 6 := by rw [show (6 : Int32) = nI 6 from rfl, nI_ltI (by omega) (by omega)]; omega
  have p4 := nI_pos' (n := t) (by omega)
  have p5 : nI t < nI n := nI_lt ht (by omega)
  have p6 : nI t < 24 := by rw [show (24 : Int32) = nI 24 from rfl, nI_ltI (by omega) (by omega)]; omega
  have has : ∀ Q : Value → GG → Prop, wF fX8_has [.int (nI S)] g Q ↔ Q (.int 1) g := fun Q => by
    refine wF_eq (eq_of_wF ?_) Q
    unfold fX8_has
    simp (decide := true) only [wE_lit, wL_lit, wE_loc, wL_loc, wE_add, wE_sub, wE_mul, wE_and, wE_or, wE_xor, wE_shl, wE_shr, wE_ushr, wE_div, wE_rem, wE_neg, wE_i2b, wE_l2i, wL_i2l, wL_add, wL_mul, wE_fld, wL_fld, wE_arr, wL_arr, wC_cmp, wC_cmp0, wC_cmpL, wC_and, wC_or, wC_not, wC_ite, wL_ite, wA_nil, wA_int, wA_long, wE_call, wL_call, wS_skip, wS_seq, wS_set, wS_setL, wS_inc, wS_if, wS_put, wS_putL, wS_putOp, wS_putOpL, wS_ast, wS_astL, wS_aop, wS_aopL, wS_ret, wS_retL, wS_retV, wS_do, wS_pop, wS_dead, wS_sw, wF_body, Nat.reduceAdd, Nat.zero_add, Bool.not_not, true_and, and_true, if_true, if_false, ↓reduceIte, eq_self, Value.int.injEq, Value.long.injEq, exists_eq_left', ik_b1, ik_b0, ik_bz0, ik_bz3, ik_bz3_1, ik_bz3_0, ik_cmp, ik_cmpL, ik_eI, ik_eL, ik_as, ik_i0, ik_i1, decide_eq_true_eq, decide_eq_false_iff_not, decide_true, decide_false, Bool.not_true, Bool.not_false, reduceCtorEq, forall_const, false_implies, true_implies, implies_true, true_and, and_true, and_self, false_and, and_false, Bool.and_true, Bool.true_and, not_true_eq_false, not_false_eq_true, if_true, if_false, ite_true, ite_false, ik_bz3_0, ik_bz3_1, ik_bz0, wE_ite2, p1, p2, p3, e7]
  have std : ∀ Q : Value → GG → Prop, wF fX8_stands [.int (nI S), .int (nI t)] g Q ↔ Q (.int 1) g := fun Q => by
    refine wF_eq (eq_of_wF ?_) Q
    unfold fX8_stands
    simp (decide := true) only [wE_lit, wL_lit, wE_loc, wL_loc, wE_add, wE_sub, wE_mul, wE_and, wE_or, wE_xor, wE_shl, wE_shr, wE_ushr, wE_div, wE_rem, wE_neg, wE_i2b, wE_l2i, wL_i2l, wL_add, wL_mul, wE_fld, wL_fld, wE_arr, wL_arr, wC_cmp, wC_cmp0, wC_cmpL, wC_and, wC_or, wC_not, wC_ite, wL_ite, wA_nil, wA_int, wA_long, wE_call, wL_call, wS_skip, wS_seq, wS_set, wS_setL, wS_inc, wS_if, wS_put, wS_putL, wS_putOp, wS_putOpL, wS_ast, wS_astL, wS_aop, wS_aopL, wS_ret, wS_retL, wS_retV, wS_do, wS_pop, wS_dead, wS_sw, wF_body, Nat.reduceAdd, Nat.zero_add, Bool.not_not, true_and, and_true, if_true, if_false, ↓reduceIte, eq_self, Value.int.injEq, Value.long.injEq, exists_eq_left', ik_b1, ik_b0, ik_bz0, ik_bz3, ik_bz3_1, ik_bz3_0, ik_cmp, ik_cmpL, ik_eI, ik_eL, ik_as, ik_i0, ik_i1, decide_eq_true_eq, decide_eq_false_iff_not, decide_true, decide_false, Bool.not_true, Bool.not_false, reduceCtorEq, forall_const, false_implies, true_implies, implies_true, true_and, and_true, and_self, false_and, and_false, Bool.and_true, Bool.true_and, not_true_eq_false, not_false_eq_true, if_true, if_false, ite_true, ite_false, ik_bz3_0, ik_bz3_1, ik_bz0, wE_ite2, has, p4, p5, p6, e33, ik_ix_nI hS (by omega), Option.some.injEq]
  unfold fX8_barAt
  simp (decide := true) only [wE_lit, wL_lit, wE_loc, wL_loc, wE_add, wE_sub, wE_mul, wE_and, wE_or, wE_xor, wE_shl, wE_shr, wE_ushr, wE_div, wE_rem, wE_neg, wE_i2b, wE_l2i, wL_i2l, wL_add, wL_mul, wE_fld, wL_fld, wE_arr, wL_arr, wC_cmp, wC_cmp0, wC_cmpL, wC_and, wC_or, wC_not, wC_ite, wL_ite, wA_nil, wA_int, wA_long, wE_call, wL_call, wS_skip, wS_seq, wS_set, wS_setL, wS_inc, wS_if, wS_put, wS_putL, wS_putOp, wS_putOpL, wS_ast, wS_astL, wS_aop, wS_aopL, wS_ret, wS_retL, wS_retV, wS_do, wS_pop, wS_dead, wS_sw, wF_body, Nat.reduceAdd, Nat.zero_add, Bool.not_not, true_and, and_true, if_true, if_false, ↓reduceIte, eq_self, Value.int.injEq, Value.long.injEq, exists_eq_left', ik_b1, ik_b0, ik_bz0, ik_bz3, ik_bz3_1, ik_bz3_0, ik_cmp, ik_cmpL, ik_eI, ik_eL, ik_as, ik_i0, ik_i1, decide_eq_true_eq, decide_eq_false_iff_not, decide_true, decide_false, Bool.not_true, Bool.not_false, reduceCtorEq, forall_const, false_implies, true_implies, implies_true, true_and, and_true, and_self, false_and, and_false, Bool.and_true, Bool.true_and, not_true_eq_false, not_false_eq_true, if_true, if_false, ite_true, ite_false, ik_bz3_0, ik_bz3_1, ik_bz0, wE_ite, std, w_slot, ik_ix_nI (show 24 * S + t < 144 by omega) (by omega), Option.some.injEq]
theorem w_letter26z {y : GG} {q k : Nat} (e0 : y.1 26 0 = nI 144) (hq : q < 144) (en : y.1 28 q = nI 0) (hk : k < 12) (Q : Value → GG → Prop) : wF fX10_letter_26 [.int (nI q), .int (nI k)] y Q ↔ Q (.int 0) y := by
  refine wF_eq (eq_of_wF ?_) Q
  have p1 := nI_pos' (n := q) (by omega)
  have p2 : nI q < nI 144 := nI_lt hq (by omega)
  have p3 := nI_pos' (n := k) (by omega)
  have p4 : nI k < 12 := by rw [show (12 : Int32) = nI 12 from rfl, nI_ltI (by omega) (by omega)]; omega
  have p5 : ¬ nI k < nI 0 := by rw [nI_ltI (by omega) (by omega)]; omega
  unfold fX10_letter_26
  simp (decide := true) only [wE_lit, wL_lit, wE_loc, wL_loc, wE_add, wE_sub, wE_mul, wE_and, wE_or, wE_xor, wE_shl, wE_shr, wE_ushr, wE_div, wE_rem, wE_neg, wE_i2b, wE_l2i, wL_i2l, wL_add, wL_mul, wE_fld, wL_fld, wE_arr, wL_arr, wC_cmp, wC_cmp0, wC_cmpL, wC_and, wC_or, wC_not, wC_ite, wL_ite, wA_nil, wA_int, wA_long, wE_call, wL_call, wS_skip, wS_seq, wS_set, wS_setL, wS_inc, wS_if, wS_put, wS_putL, wS_putOp, wS_putOpL, wS_ast, wS_astL, wS_aop, wS_aopL, wS_ret, wS_retL, wS_retV, wS_do, wS_pop, wS_dead, wS_sw, wF_body, Nat.reduceAdd, Nat.zero_add, Bool.not_not, true_and, and_true, if_true, if_false, ↓reduceIte, eq_self, Value.int.injEq, Value.long.injEq, exists_eq_left', ik_b1, ik_b0, ik_bz0, ik_bz3, ik_bz3_1, ik_bz3_0, ik_cmp, ik_cmpL, ik_eI, ik_eL, ik_as, ik_i0, ik_i1, decide_eq_true_eq, decide_eq_false_iff_not, decide_true, decide_false, Bool.not_true, Bool.not_false, reduceCtorEq, forall_const, false_implies, true_implies, implies_true, true_and, and_true, and_self, false_and, and_false, Bool.and_true, Bool.true_and, not_true_eq_false, not_false_eq_true, if_true, if_false, ite_true, ite_false, ik_bz3_0, ik_bz3_1, ik_bz0, exists_eq', wE_ite, e0, p1, p2, p3, p4, p5, en, ik_ix_nI hq (by omega), Option.some.injEq, upd_at, upd_off]
theorem tb_or {a k j : Nat} (hk : k < 31) : (a ||| 2 ^ k).testBit j = true ↔ (a.testBit j = true ∨ k = j) := by
  rw [Nat.testBit_or, Nat.testBit_two_pow, Bool.or_eq_true, decide_eq_true_iff]
theorem w_heedA {g : GG} {q l a b : Nat} {v : Int32} (e0 : g.1 26 0 = nI 144) (hq : q < 144) (hl : l ≤ 12) (e28 : g.1 28 q = nI l) (ha : a < 16) (hb : b < 16) (e9 : g.1 25 9 = nI a) (e10 : g.1 25 10 = nI b) (hv : v = -1 ∨ ∃ k, k < 4 ∧ v = nI k) :
    ∃ a' b', a' < 16 ∧ b' < 16 ∧ (∀ j, a'.testBit j = true ↔ (a.testBit j = true ∨ (v = nI j ∧ j < 4 ∧ ik_art (g.1 28) (g.1 27) q 1))) ∧ (∀ j, b'.testBit j = true ↔ (b.testBit j = true ∨ (v = nI j ∧ j < 4 ∧ ik_art (g.1 28) (g.1 27) q 2))) ∧ ∀ Q : Value → GG → Prop, wF fX8_heedArticle [.int (nI q), .int v] g Q ↔ Q .null (ik_si (ik_si g 25 9 (nI a')) 25 10 (nI b')) := by
  have same : ik_si (ik_si g 25 9 (nI a)) 25 10 (nI b) = g := by rw [si_id e9, si_id e10]
  have len := w_length26 (y := g) e0 hq
  rw [e28] at len
  -- nothing to heed
  have none1 : (∀ j, ¬ (v = nI j ∧ j < 4 ∧ ik_art (g.1 28) (g.1 27) q 1)) → (∀ j, ¬ (v = nI j ∧ j < 4 ∧ ik_art (g.1 28) (g.1 27) q 2)) → (∀ Q : Value → GG → Prop, wF fX8_heedArticle [.int (nI q), .int v] g Q ↔ Q .null g) → _ := fun n1 n2 hQ => (⟨a, b, ha, hb, fun j => ⟨fun z => Or.inl z, fun z => z.resolve_right (n1 j)⟩, fun j => ⟨fun z => Or.inl z, fun z => z.resolve_right (n2 j)⟩, fun Q => by rw [same]; exact hQ Q⟩ : ∃ a' b', a' < 16 ∧ b' < 16 ∧ (∀ j, a'.testBit j = true ↔ (a.testBit j = true ∨ (v = nI j ∧ j < 4 ∧ ik_art (g.1 28) (g.1 27) q 1))) ∧ (∀ j, b'.testBit j = true ↔ (b.testBit j = true ∨ (v = nI j ∧ j < 4 ∧ ik_art (g.1 28) (g.1 27) q 2))) ∧ ∀ Q : Value → GG → Prop, wF fX8_heedArticle [.int (nI q), .int v] g Q ↔ Q .null (ik_si (ik_si g 25 9 (nI a')) 25 10 (nI b')))
  rcases hv with rfl | ⟨k, hk, rfl⟩
  · refine none1 (fun j z => nI_m1 (show j < 2 ^ 31 by omega) z.1.symm) (fun j z => nI_m1 (show j < 2 ^ 31 by omega) z.1.symm) (fun Q => wF_eq (eq_of_wF ?_) Q)
    unfold fX8_heedArticle
    simp (decide := true) only [wE_lit, wL_lit, wE_loc, wL_loc, wE_add, wE_sub, wE_mul, wE_and, wE_or, wE_xor, wE_shl, wE_shr, wE_ushr, wE_div, wE_rem, wE_neg, wE_i2b, wE_l2i, wL_i2l, wL_add, wL_mul, wE_fld, wL_fld, wE_arr, wL_arr, wC_cmp, wC_cmp0, wC_cmpL, wC_and, wC_or, wC_not, wC_ite, wL_ite, wA_nil, wA_int, wA_long, wE_call, wL_call, wS_skip, wS_seq, wS_set, wS_setL, wS_inc, wS_if, wS_put, wS_putL, wS_putOp, wS_putOpL, wS_ast, wS_astL, wS_aop, wS_aopL, wS_ret, wS_retL, wS_retV, wS_do, wS_pop, wS_dead, wS_sw, wF_body, Nat.reduceAdd, Nat.zero_add, Bool.not_not, true_and, and_true, if_true, if_false, ↓reduceIte, eq_self, Value.int.injEq, Value.long.injEq, exists_eq_left', ik_b1, ik_b0, ik_bz0, ik_bz3, ik_bz3_1, ik_bz3_0, ik_cmp, ik_cmpL, ik_eI, ik_eL, ik_as, ik_i0, ik_i1, decide_eq_true_eq, decide_eq_false_iff_not, decide_true, decide_false, Bool.not_true, Bool.not_false, reduceCtorEq, forall_const, false_implies, true_implies, implies_true, true_and, and_true, and_self, false_and, and_false, Bool.and_true, Bool.true_and, not_true_eq_false, not_false_eq_true, if_true, if_false, ite_true, ite_false, ik_bz3_0, ik_bz3_1, ik_bz0, exists_eq']
  · have km : ¬ nI k = -1 := nI_m1 (by omega)
    by_cases l0 : l = 0
    · subst l0
      have lt := w_letter26z e0 hq e28 (k := 0) (by omega)
      have lt' : ∀ Q : Value → GG → Prop, wF fX10_letter_26 [.int (nI q), .int 0] g Q ↔ Q (.int 0) g := lt
      refine none1 (fun j z => ?_) (fun j z => ?_) (fun Q => wF_eq (eq_of_wF ?_) Q)
      · have := z.2.2.1
        rw [e28, nI_eq (by omega) (by omega)] at this
        omega
      · have := z.2.2.1
        rw [e28, nI_eq (by omega) (by omega)] at this
        omega
      · unfold fX8_heedArticle
        simp (decide := true) only [wE_lit, wL_lit, wE_loc, wL_loc, wE_add, wE_sub, wE_mul, wE_and, wE_or, wE_xor, wE_shl, wE_shr, wE_ushr, wE_div, wE_rem, wE_neg, wE_i2b, wE_l2i, wL_i2l, wL_add, wL_mul, wE_fld, wL_fld, wE_arr, wL_arr, wC_cmp, wC_cmp0, wC_cmpL, wC_and, wC_or, wC_not, wC_ite, wL_ite, wA_nil, wA_int, wA_long, wE_call, wL_call, wS_skip, wS_seq, wS_set, wS_setL, wS_inc, wS_if, wS_put, wS_putL, wS_putOp, wS_putOpL, wS_ast, wS_astL, wS_aop, wS_aopL, wS_ret, wS_retL, wS_retV, wS_do, wS_pop, wS_dead, wS_sw, wF_body, Nat.reduceAdd, Nat.zero_add, Bool.not_not, true_and, and_true, if_true, if_false, ↓reduceIte, eq_self, Value.int.injEq, Value.long.injEq, exists_eq_left', ik_b1, ik_b0, ik_bz0, ik_bz3, ik_bz3_1, ik_bz3_0, ik_cmp, ik_cmpL, ik_eI, ik_eL, ik_as, ik_i0, ik_i1, decide_eq_true_eq, decide_eq_false_iff_not, decide_true, decide_false, Bool.not_true, Bool.not_false, reduceCtorEq, forall_const, false_implies, true_implies, implies_true, true_and, and_true, and_self, false_and, and_false, Bool.and_true, Bool.true_and, not_true_eq_false, not_false_eq_true, if_true, if_false, ite_true, ite_false, ik_bz3_0, ik_bz3_1, ik_bz0, exists_eq', km, lt']
    · have lt := w_letter26 (y := g) e0 hq hl e28 (show 0 < l by omega)
      have lt' : ∀ Q : Value → GG → Prop, wF fX10_letter_26 [.int (nI q), .int 0] g Q ↔ Q (.int (g.1 27 (12 * q))) g := lt
      by_cases c1 : g.1 27 (12 * q) = 1
      · rw [c1] at lt'
        have pw := nI_pow k (by omega)
        by_cases l1 : l = 1
        · subst l1
          have art : ik_art (g.1 28) (g.1 27) q 1 := ⟨e28, c1, fun z => by omega⟩
          have nart : ¬ ik_art (g.1 28) (g.1 27) q 2 := fun z => by
            have := z.1
            rw [e28, nI_eq (by omega) (by omega)] at this
            omega
          have bo : ik_bo 4 (nI a) (nI (2 ^ k)) = some (nI (a ||| 2 ^ k)) := by show some (nI a ||| nI (2 ^ k)) = _; rw [nI_or]
          have len' : ∀ g' : GG, g' = ik_si g 25 9 (nI (a ||| 2 ^ k)) → ∀ Q : Value → GG → Prop, wF fX10_length_26 [.int (nI q)] g' Q ↔ Q (.int (nI 1)) g' := fun g' hg' Q => by
            rw [w_length26 (y := g') (by rw [hg', ik_si_row _ _ _ _ _ (by decide)]; exact e0) hq, hg', ik_si_row _ _ _ _ _ (by decide), e28]
          have n1 : (nI 1 = (1 : Int32)) = True := eq_true rfl
          have n2 : (nI 1 = (2 : Int32)) = False := by decide
          have e10' : (ik_si g 25 9 (nI (a ||| 2 ^ k))).1 25 10 = nI b := by rw [ik_si_ne _ _ _ _ _ (by decide)]; exact e10
          refine ⟨a ||| 2 ^ k, b, Nat.or_lt_two_pow (n := 4) ha (Nat.pow_lt_pow_right (by decide) hk), hb, fun j => ?_, fun j => ⟨fun z => Or.inl z, fun z => z.resolve_right (fun w => nart w.2.2)⟩, fun Q => ?_⟩
          · rw [tb_or (by omega)]
            constructor
            · rintro (z | z)
              · exact Or.inl z
              · subst z; exact Or.inr ⟨rfl, hk, art⟩
            · rintro (z | z)
              · exact Or.inl z
              · exact Or.inr ((nI_eq (by omega) (by omega)).mp z.1)
          · rw [si_id e10']
            refine wF_eq (eq_of_wF ?_) Q
            unfold fX8_heedArticle
            simp (decide := true) only [wE_lit, wL_lit, wE_loc, wL_loc, wE_add, wE_sub, wE_mul, wE_and, wE_or, wE_xor, wE_shl, wE_shr, wE_ushr, wE_div, wE_rem, wE_neg, wE_i2b, wE_l2i, wL_i2l, wL_add, wL_mul, wE_fld, wL_fld, wE_arr, wL_arr, wC_cmp, wC_cmp0, wC_cmpL, wC_and, wC_or, wC_not, wC_ite, wL_ite, wA_nil, wA_int, wA_long, wE_call, wL_call, wS_skip, wS_seq, wS_set, wS_setL, wS_inc, wS_if, wS_put, wS_putL, wS_putOp, wS_putOpL, wS_ast, wS_astL, wS_aop, wS_aopL, wS_ret, wS_retL, wS_retV, wS_do, wS_pop, wS_dead, wS_sw, wF_body, Nat.reduceAdd, Nat.zero_add, Bool.not_not, true_and, and_true, if_true, if_false, ↓reduceIte, eq_self, Value.int.injEq, Value.long.injEq, exists_eq_left', ik_b1, ik_b0, ik_bz0, ik_bz3, ik_bz3_1, ik_bz3_0, ik_cmp, ik_cmpL, ik_eI, ik_eL, ik_as, ik_i0, ik_i1, decide_eq_true_eq, decide_eq_false_iff_not, decide_true, decide_false, Bool.not_true, Bool.not_false, reduceCtorEq, forall_const, false_implies, true_implies, implies_true, true_and, and_true, and_self, false_and, and_false, Bool.and_true, Bool.true_and, not_true_eq_false, not_false_eq_true, if_true, if_false, ite_true, ite_false, ik_bz3_0, ik_bz3_1, ik_bz0, exists_eq', km, lt', len, n1, e9, pw, bo, Option.some.injEq, len' _ rfl, n2]
        · have n1 : (nI l = (1 : Int32)) = False := eq_false (fun z => l1 ((nI_eq (b := 1) (by omega) (by omega)).mp z))
          have nart : ¬ ik_art (g.1 28) (g.1 27) q 1 := fun z => by
            have := z.1
            rw [e28, nI_eq (by omega) (by omega)] at this
            omega
          by_cases l2 : l = 2
          · subst l2
            have n2 : (nI 2 = (2 : Int32)) = True := eq_true rfl
            have lt2 := w_letter26 (y := g) e0 hq hl e28 (show 1 < 2 by omega)
            have lt2' : ∀ Q : Value → GG → Prop, wF fX10_letter_26 [.int (nI q), .int 1] g Q ↔ Q (.int (g.1 27 (12 * q + 1))) g := lt2
            by_cases c2 : g.1 27 (12 * q + 1) = 14
            · rw [c2] at lt2'
              have art : ik_art (g.1 28) (g.1 27) q 2 := ⟨e28, c1, fun _ => c2⟩
              have bo : ik_bo 4 (nI b) (nI (2 ^ k)) = some (nI (b ||| 2 ^ k)) := by show some (nI b ||| nI (2 ^ k)) = _; rw [nI_or]
              refine ⟨a, b ||| 2 ^ k, ha, Nat.or_lt_two_pow (n := 4) hb (Nat.pow_lt_pow_right (by decide) hk), fun j => ⟨fun z => Or.inl z, fun z => z.resolve_right (fun w => nart w.2.2)⟩, fun j => ?_, fun Q => ?_⟩
              · rw [tb_or (by omega)]
                constructor
                · rintro (z | z)
                  · exact Or.inl z
                  · subst z; exact Or.inr ⟨rfl, hk, art⟩
                · rintro (z | z)
                  · exact Or.inl z
                  · exact Or.inr ((nI_eq (by omega) (by omega)).mp z.1)
              · rw [si_id e9]
                refine wF_eq (eq_of_wF ?_) Q
                unfold fX8_heedArticle
                simp (decide := true) only [wE_lit, wL_lit, wE_loc, wL_loc, wE_add, wE_sub, wE_mul, wE_and, wE_or, wE_xor, wE_shl, wE_shr, wE_ushr, wE_div, wE_rem, wE_neg, wE_i2b, wE_l2i, wL_i2l, wL_add, wL_mul, wE_fld, wL_fld, wE_arr, wL_arr, wC_cmp, wC_cmp0, wC_cmpL, wC_and, wC_or, wC_not, wC_ite, wL_ite, wA_nil, wA_int, wA_long, wE_call, wL_call, wS_skip, wS_seq, wS_set, wS_setL, wS_inc, wS_if, wS_put, wS_putL, wS_putOp, wS_putOpL, wS_ast, wS_astL, wS_aop, wS_aopL, wS_ret, wS_retL, wS_retV, wS_do, wS_pop, wS_dead, wS_sw, wF_body, Nat.reduceAdd, Nat.zero_add, Bool.not_not, true_and, and_true, if_true, if_false, ↓reduceIte, eq_self, Value.int.injEq, Value.long.injEq, exists_eq_left', ik_b1, ik_b0, ik_bz0, ik_bz3, ik_bz3_1, ik_bz3_0, ik_cmp, ik_cmpL, ik_eI, ik_eL, ik_as, ik_i0, ik_i1, decide_eq_true_eq, decide_eq_false_iff_not, decide_true, decide_false, Bool.not_true, Bool.not_false, reduceCtorEq, forall_const, false_implies, true_implies, implies_true, true_and, and_true, and_self, false_and, and_false, Bool.and_true, Bool.true_and, not_true_eq_false, not_false_eq_true, if_true, if_false, ite_true, ite_false, ik_bz3_0, ik_bz3_1, ik_bz0, exists_eq', km, lt', len, n1, n2, lt2', e10, pw, bo, Option.some.injEq]
            · have nart2 : ¬ ik_art (g.1 28) (g.1 27) q 2 := fun z => c2 (z.2.2 rfl)
              refine none1 (fun j z => nart z.2.2) (fun j z => nart2 z.2.2) (fun Q => wF_eq (eq_of_wF ?_) Q)
              unfold fX8_heedArticle
              simp (decide := true) only [wE_lit, wL_lit, wE_loc, wL_loc, wE_add, wE_sub, wE_mul, wE_and, wE_or, wE_xor, wE_shl, wE_shr, wE_ushr, wE_div, wE_rem, wE_neg, wE_i2b, wE_l2i, wL_i2l, wL_add, wL_mul, wE_fld, wL_fld, wE_arr, wL_arr, wC_cmp, wC_cmp0, wC_cmpL, wC_and, wC_or, wC_not, wC_ite, wL_ite, wA_nil, wA_int, wA_long, wE_call, wL_call, wS_skip, wS_seq, wS_set, wS_setL, wS_inc, wS_if, wS_put, wS_putL, wS_putOp, wS_putOpL, wS_ast, wS_astL, wS_aop, wS_aopL, wS_ret, wS_retL, wS_retV, wS_do, wS_pop, wS_dead, wS_sw, wF_body, Nat.reduceAdd, Nat.zero_add, Bool.not_not, true_and, and_true, if_true, if_false, ↓reduceIte, eq_self, Value.int.injEq, Value.long.injEq, exists_eq_left', ik_b1, ik_b0, ik_bz0, ik_bz3, ik_bz3_1, ik_bz3_0, ik_cmp, ik_cmpL, ik_eI, ik_eL, ik_as, ik_i0, ik_i1, decide_eq_true_eq, decide_eq_false_iff_not, decide_true, decide_false, Bool.not_true, Bool.not_false, reduceCtorEq, forall_const, false_implies, true_implies, implies_true, true_and, and_true, and_self, false_and, and_false, Bool.and_true, Bool.true_and, not_true_eq_false, not_false_eq_true, if_true, if_false, ite_true, ite_false, ik_bz3_0, ik_bz3_1, ik_bz0, exists_eq', km, lt', len, n1, n2, lt2', c2]
          · have n2 : (nI l = (2 : Int32)) = False := eq_false (fun z => l2 ((nI_eq (b := 2) (by omega) (by omega)).mp z))
            have nart2 : ¬ ik_art (g.1 28) (g.1 27) q 2 := fun z => by
              have := z.1
              rw [e28, nI_eq (by omega) (by omega)] at this
              omega
            refine none1 (fun j z => nart z.2.2) (fun j z => nart2 z.2.2) (fun Q => wF_eq (eq_of_wF ?_) Q)
            unfold fX8_heedArticle
            simp (decide := true) only [wE_lit, wL_lit, wE_loc, wL_loc, wE_add, wE_sub, wE_mul, wE_and, wE_or, wE_xor, wE_shl, wE_shr, wE_ushr, wE_div, wE_rem, wE_neg, wE_i2b, wE_l2i, wL_i2l, wL_add, wL_mul, wE_fld, wL_fld, wE_arr, wL_arr, wC_cmp, wC_cmp0, wC_cmpL, wC_and, wC_or, wC_not, wC_ite, wL_ite, wA_nil, wA_int, wA_long, wE_call, wL_call, wS_skip, wS_seq, wS_set, wS_setL, wS_inc, wS_if, wS_put, wS_putL, wS_putOp, wS_putOpL, wS_ast, wS_astL, wS_aop, wS_aopL, wS_ret, wS_retL, wS_retV, wS_do, wS_pop, wS_dead, wS_sw, wF_body, Nat.reduceAdd, Nat.zero_add, Bool.not_not, true_and, and_true, if_true, if_false, ↓reduceIte, eq_self, Value.int.injEq, Value.long.injEq, exists_eq_left', ik_b1, ik_b0, ik_bz0, ik_bz3, ik_bz3_1, ik_bz3_0, ik_cmp, ik_cmpL, ik_eI, ik_eL, ik_as, ik_i0, ik_i1, decide_eq_true_eq, decide_eq_false_iff_not, decide_true, decide_false, Bool.not_true, Bool.not_false, reduceCtorEq, forall_const, false_implies, true_implies, implies_true, true_and, and_true, and_self, false_and, and_false, Bool.and_true, Bool.true_and, not_true_eq_false, not_false_eq_true, if_true, if_false, ite_true, ite_false, ik_bz3_0, ik_bz3_1, ik_bz0, exists_eq', km, lt', len, n1, n2]
      · refine none1 (fun j z => c1 z.2.2.2.1) (fun j z => c1 z.2.2.2.1) (fun Q => wF_eq (eq_of_wF ?_) Q)
        unfold fX8_heedArticle
        simp (decide := true) only [wE_lit, wL_lit, wE_loc, wL_loc, wE_add, wE_sub, wE_mul, wE_and, wE_or, wE_xor, wE_shl, wE_shr, wE_ushr, wE_div, wE_rem, wE_neg, wE_i2b, wE_l2i, wL_i2l, wL_add, wL_mul, wE_fld, wL_fld, wE_arr, wL_arr, wC_cmp, wC_cmp0, wC_cmpL, wC_and, wC_or, wC_not, wC_ite, wL_ite, wA_nil, wA_int, wA_long, wE_call, wL_call, wS_skip, wS_seq, wS_set, wS_setL, wS_inc, wS_if, wS_put, wS_putL, wS_putOp, wS_putOpL, wS_ast, wS_astL, wS_aop, wS_aopL, wS_ret, wS_retL, wS_retV, wS_do, wS_pop, wS_dead, wS_sw, wF_body, Nat.reduceAdd, Nat.zero_add, Bool.not_not, true_and, and_true, if_true, if_false, ↓reduceIte, eq_self, Value.int.injEq, Value.long.injEq, exists_eq_left', ik_b1, ik_b0, ik_bz0, ik_bz3, ik_bz3_1, ik_bz3_0, ik_cmp, ik_cmpL, ik_eI, ik_eL, ik_as, ik_i0, ik_i1, decide_eq_true_eq, decide_eq_false_iff_not, decide_true, decide_false, Bool.not_true, Bool.not_false, reduceCtorEq, forall_const, false_implies, true_implies, implies_true, true_and, and_true, and_self, false_and, and_false, Bool.and_true, Bool.true_and, not_true_eq_false, not_false_eq_true, if_true, if_false, ite_true, ite_false, ik_bz3_0, ik_bz3_1, ik_bz0, exists_eq', km, lt', c1]
/-- what was kept, in the class -/
def ShX (S n : Nat) (w : Int32) (g0 g : GG) : Prop := (∀ a, a ≠ 25 → a ≠ 32 → a ≠ 33 → a ≠ 34 → g.1 a = g0.1 a) ∧ (∀ j, j ≠ 7 → j ≠ 9 → j ≠ 10 → g.1 25 j = g0.1 25 j) ∧ g.2 = g0.2 ∧ g.1 25 7 = nI (S + 1) ∧ g.1 32 S = w ∧ (∀ j, j ≠ S → g.1 32 j = g0.1 32 j) ∧ g.1 33 S = nI n ∧ (∀ j, j ≠ S → g.1 33 j = g0.1 33 j) ∧ g.1 34 S = 0 ∧ ∀ j, j ≠ S → g.1 34 j = g0.1 34 j
theorem w_addX {g0 : GG} {S n a b : Nat} {w : Int32} (h26 : g0.1 26 0 = nI 144) (h25 : g0.1 25 7 = nI S) (hS : S < 6) (h8 : g0.1 25 8 = nI n) (hn1 : 1 ≤ n) (hn : n ≤ 24) (ha : a < 16) (hb : b < 16) (e9 : g0.1 25 9 = nI a) (e10 : g0.1 25 10 = nI b) (htk : ∀ t, t < n → (∃ l, l ≤ 12 ∧ g0.1 28 (24 * S + t) = nI l) ∧ (g0.1 29 (24 * S + t) = -1 ∨ ∃ k, k < 4 ∧ g0.1 29 (24 * S + t) = nI k)) :
    wF fX8_add [.int w] g0 (fun v g => v = .int (nI S) ∧ ShX S n w g0 g ∧ ∃ a' b', a' < 16 ∧ b' < 16 ∧ g.1 25 9 = nI a' ∧ g.1 25 10 = nI b' ∧ (∀ j, a'.testBit j = true ↔ (a.testBit j = true ∨ ∃ t, t + 1 < n ∧ g0.1 29 (24 * S + t + 1) = nI j ∧ j < 4 ∧ ik_art (g0.1 28) (g0.1 27) (24 * S + t) 1)) ∧ ∀ j, b'.testBit j = true ↔ (b.testBit j = true ∨ ∃ t, t + 1 < n ∧ g0.1 29 (24 * S + t + 1) = nI j ∧ j < 4 ∧ ik_art (g0.1 28) (g0.1 27) (24 * S + t) 2)) := by
  have full : ∀ Q : Value → GG → Prop, wF fX8_full [] g0 Q ↔ Q (.int 0) g0 := fun Q => by
    refine wF_eq (eq_of_wF ?_) Q
    have : (nI S ≥ 6) = False := eq_false (fun z => by
      have z' : nI 6 ≤ nI S := z
      rw [nI_leI (by omega) (by omega)] at z'
      omega)
    unfold fX8_full
    simp (decide := true) only [wE_lit, wL_lit, wE_loc, wL_loc, wE_add, wE_sub, wE_mul, wE_and, wE_or, wE_xor, wE_shl, wE_shr, wE_ushr, wE_div, wE_rem, wE_neg, wE_i2b, wE_l2i, wL_i2l, wL_add, wL_mul, wE_fld, wL_fld, wE_arr, wL_arr, wC_cmp, wC_cmp0, wC_cmpL, wC_and, wC_or, wC_not, wC_ite, wL_ite, wA_nil, wA_int, wA_long, wE_call, wL_call, wS_skip, wS_seq, wS_set, wS_setL, wS_inc, wS_if, wS_put, wS_putL, wS_putOp, wS_putOpL, wS_ast, wS_astL, wS_aop, wS_aopL, wS_ret, wS_retL, wS_retV, wS_do, wS_pop, wS_dead, wS_sw, wF_body, Nat.reduceAdd, Nat.zero_add, Bool.not_not, true_and, and_true, if_true, if_false, ↓reduceIte, eq_self, Value.int.injEq, Value.long.injEq, exists_eq_left', ik_b1, ik_b0, ik_bz0, ik_bz3, ik_bz3_1, ik_bz3_0, ik_cmp, ik_cmpL, ik_eI, ik_eL, ik_as, ik_i0, ik_i1, decide_eq_true_eq, decide_eq_false_iff_not, decide_true, decide_false, Bool.not_true, Bool.not_false, reduceCtorEq, forall_const, false_implies, true_implies, implies_true, true_and, and_true, and_self, false_and, and_false, Bool.and_true, Bool.true_and, not_true_eq_false, not_false_eq_true, if_true, if_false, ite_true, ite_false, ik_bz3_0, ik_bz3_1, ik_bz0, wE_ite2, h25, this]
  have ng : (nI S < 0) = False := eq_false (by rw [Int32.not_lt]; exact nI_pos' (by omega))
  have ix := ik_ix_nI hS (by omega)
  have bo : ik_bo 0 (nI S) 1 = some (nI (S + 1)) := by show some (nI S + nI 1) = _; rw [nI_add]
  have s1 : (ik_si g0 32 S w).1 25 = g0.1 25 := ik_si_row _ _ _ _ _ (by decide)
  have s2 : (ik_si (ik_si g0 32 S w) 33 S (nI n)).1 25 = g0.1 25 := by rw [ik_si_row _ _ _ _ _ (by decide)]; exact s1
  obtain ⟨g1, hg1⟩ : ∃ g1, g1 = ik_si (ik_si (ik_si (ik_si g0 32 S w) 33 S (nI n)) 34 S 0) 25 7 (nI (S + 1)) := ⟨_, rfl⟩
  have s3 : (ik_si (ik_si (ik_si g0 32 S w) 33 S (nI n)) 34 S 0).1 25 = g0.1 25 := by rw [ik_si_row _ _ _ _ _ (by decide)]; exact s2
  have f1 : ∀ a, a ≠ 25 → a ≠ 32 → a ≠ 33 → a ≠ 34 → g1.1 a = g0.1 a := fun a a1 a2 a3 a4 => by rw [hg1, ik_si_row _ _ _ _ _ a1, ik_si_row _ _ _ _ _ a4, ik_si_row _ _ _ _ _ a3, ik_si_row _ _ _ _ _ a2]
  have f25 : ∀ j, j ≠ 7 → g1.1 25 j = g0.1 25 j := fun j hj => by rw [hg1, ik_si_ne _ _ _ _ _ hj, s3]
  have k7 : g1.1 25 7 = nI (S + 1) := by rw [hg1]; exact ik_si_same _ _ _ _
  have k33 : g1.1 33 S = nI n := by rw [hg1, ik_si_row _ _ _ _ _ (by decide), ik_si_row _ _ _ _ _ (by decide)]; exact ik_si_same _ _ _ _
  have sh : ∀ g, (∀ a, a ≠ 25 → g.1 a = g1.1 a) → (∀ j, j ≠ 9 → j ≠ 10 → g.1 25 j = g1.1 25 j) → g.2 = g0.2 → ShX S n w g0 g := by
    intro g r1 r2 r3
    refine ⟨fun a a1 a2 a3 a4 => (r1 a a1).trans (f1 a a1 a2 a3 a4), fun j j1 j2 j3 => (r2 j j2 j3).trans (f25 j j1), r3, (r2 7 (by decide) (by decide)).trans k7, ?_, fun j hj => ?_, (by rw [r1 33 (by decide)]; exact k33), fun j hj => ?_, ?_, fun j hj => ?_⟩
    · rw [r1 32 (by decide), hg1, ik_si_row _ _ _ _ _ (by decide), ik_si_row _ _ _ _ _ (by decide), ik_si_row _ _ _ _ _ (by decide)]; exact ik_si_same _ _ _ _
    · rw [r1 32 (by decide), hg1, ik_si_row _ _ _ _ _ (by decide), ik_si_row _ _ _ _ _ (by decide), ik_si_row _ _ _ _ _ (by decide), ik_si_ne _ _ _ _ _ hj]
    · rw [r1 33 (by decide), hg1, ik_si_row _ _ _ _ _ (by decide), ik_si_row _ _ _ _ _ (by decide), ik_si_ne _ _ _ _ _ hj, ik_si_row _ _ _ _ _ (by decide)]
    · rw [r1 34 (by decide), hg1, ik_si_row _ _ _ _ _ (by decide)]; exact ik_si_same _ _ _ _
    · rw [r1 34 (by decide), hg1, ik_si_row _ _ _ _ _ (by decide), ik_si_ne _ _ _ _ _ hj, ik_si_row _ _ _ _ _ (by decide), ik_si_row _ _ _ _ _ (by decide)]
  unfold fX8_add
  simp (decide := true) only [wE_lit, wL_lit, wE_loc, wL_loc, wE_add, wE_sub, wE_mul, wE_and, wE_or, wE_xor, wE_shl, wE_shr, wE_ushr, wE_div, wE_rem, wE_neg, wE_i2b, wE_l2i, wL_i2l, wL_add, wL_mul, wE_fld, wL_fld, wE_arr, wL_arr, wC_cmp, wC_cmp0, wC_cmpL, wC_and, wC_or, wC_not, wC_ite, wL_ite, wA_nil, wA_int, wA_long, wE_call, wL_call, wS_skip, wS_seq, wS_set, wS_setL, wS_inc, wS_if, wS_put, wS_putL, wS_putOp, wS_putOpL, wS_ast, wS_astL, wS_aop, wS_aopL, wS_ret, wS_retL, wS_retV, wS_do, wS_pop, wS_dead, wS_sw, wF_body, Nat.reduceAdd, Nat.zero_add, Bool.not_not, true_and, and_true, if_true, if_false, ↓reduceIte, eq_self, Value.int.injEq, Value.long.injEq, exists_eq_left', ik_b1, ik_b0, ik_bz0, ik_bz3, ik_bz3_1, ik_bz3_0, ik_cmp, ik_cmpL, ik_eI, ik_eL, ik_as, ik_i0, ik_i1, decide_eq_true_eq, decide_eq_false_iff_not, decide_true, decide_false, Bool.not_true, Bool.not_false, reduceCtorEq, forall_const, false_implies, true_implies, implies_true, true_and, and_true, and_self, false_and, and_false, Bool.and_true, Bool.true_and, not_true_eq_false, not_false_eq_true, if_true, if_false, ite_true, ite_false, ik_bz3_0, ik_bz3_1, ik_bz0, full, h25, ng, ix, Option.some.injEq, s1, s2, s3, h8, bo, ← hg1]
  refine wS_for _ _ (fun t σ => 1 ≤ t ∧ σ.1 2 = nI t ∧ (∀ a, a ≠ 25 → σ.2.2.1 a = g1.1 a) ∧ (∀ j, j ≠ 9 → j ≠ 10 → σ.2.2.1 25 j = g1.1 25 j) ∧ σ.2.2.2 = g0.2 ∧ ∃ a' b', a' < 16 ∧ b' < 16 ∧ σ.2.2.1 25 9 = nI a' ∧ σ.2.2.1 25 10 = nI b' ∧ (∀ j, a'.testBit j = true ↔ (a.testBit j = true ∨ ∃ t', t' + 1 < n ∧ t' + 1 < t ∧ g0.1 29 (24 * S + t' + 1) = nI j ∧ j < 4 ∧ ik_art (g0.1 28) (g0.1 27) (24 * S + t') 1)) ∧ ∀ j, b'.testBit j = true ↔ (b.testBit j = true ∨ ∃ t', t' + 1 < n ∧ t' + 1 < t ∧ g0.1 29 (24 * S + t' + 1) = nI j ∧ j < 4 ∧ ik_art (g0.1 28) (g0.1 27) (24 * S + t') 2)) 1 n _ ⟨Nat.le_refl _, by simp [upd]; rfl, fun _ _ => rfl, fun _ _ _ => rfl, by rw [hg1]; rfl, a, b, ha, hb, (f25 9 (by decide)).trans e9, (f25 10 (by decide)).trans e10, fun j => ⟨fun z => Or.inl z, fun z => z.resolve_right (fun ⟨t', _, w2, _⟩ => by omega)⟩, fun j => ⟨fun z => Or.inl z, fun z => z.resolve_right (fun ⟨t', _, w2, _⟩ => by omega)⟩⟩ (by omega) (by omega) ?_ ?_ ?_
  · rintro t ⟨u1, u2, u3⟩ q1 ⟨-, q2, q3, q4, -⟩
    simp only at q2 q3 q4
    have e8 : u3.1 25 8 = nI n := by rw [q4 8 (by decide) (by decide), f25 8 (by decide)]; exact h8
    simp (decide := true) only [wE_lit, wL_lit, wE_loc, wL_loc, wE_add, wE_sub, wE_mul, wE_and, wE_or, wE_xor, wE_shl, wE_shr, wE_ushr, wE_div, wE_rem, wE_neg, wE_i2b, wE_l2i, wL_i2l, wL_add, wL_mul, wE_fld, wL_fld, wE_arr, wL_arr, wC_cmp, wC_cmp0, wC_cmpL, wC_and, wC_or, wC_not, wC_ite, wL_ite, wA_nil, wA_int, wA_long, wE_call, wL_call, wS_skip, wS_seq, wS_set, wS_setL, wS_inc, wS_if, wS_put, wS_putL, wS_putOp, wS_putOpL, wS_ast, wS_astL, wS_aop, wS_aopL, wS_ret, wS_retL, wS_retV, wS_do, wS_pop, wS_dead, wS_sw, wF_body, Nat.reduceAdd, Nat.zero_add, Bool.not_not, true_and, and_true, if_true, if_false, ↓reduceIte, eq_self, Value.int.injEq, Value.long.injEq, exists_eq_left', ik_b1, ik_b0, ik_bz0, ik_bz3, ik_bz3_1, ik_bz3_0, ik_cmp, ik_cmpL, ik_eI, ik_eL, ik_as, ik_i0, ik_i1, decide_eq_true_eq, decide_eq_false_iff_not, decide_true, decide_false, Bool.not_true, Bool.not_false, reduceCtorEq, forall_const, false_implies, true_implies, implies_true, true_and, and_true, and_self, false_and, and_false, Bool.and_true, Bool.true_and, not_true_eq_false, not_false_eq_true, if_true, if_false, ite_true, ite_false, ik_bz3_0, ik_bz3_1, ik_bz0, q2, e8, nI_ltI (show t < 2 ^ 31 by omega) (show n < 2 ^ 31 by omega)]
  · rintro t ⟨u1, u2, u3⟩ q1 ⟨q0, q2, q3, q4, q5, a', b', q6, q7, q8, q9, q10, q11⟩
    simp only at q2 q3 q4 q5 q8 q9
    have u7 : u3.1 25 7 = nI (S + 1) := by rw [q4 7 (by decide) (by decide)]; exact k7
    have r28 : u3.1 28 = g0.1 28 := by rw [q3 28 (by decide)]; exact f1 28 (by decide) (by decide) (by decide) (by decide)
    have r27 : u3.1 27 = g0.1 27 := by rw [q3 27 (by decide)]; exact f1 27 (by decide) (by decide) (by decide) (by decide)
    have r29 : u3.1 29 = g0.1 29 := by rw [q3 29 (by decide)]; exact f1 29 (by decide) (by decide) (by decide) (by decide)
    have r26 : u3.1 26 0 = nI 144 := by rw [q3 26 (by decide), f1 26 (by decide) (by decide) (by decide) (by decide)]; exact h26
    have bar := w_barAtD (g := u3) u7 hS (by rw [q3 33 (by decide)]; exact k33) hn q1
    rw [r29] at bar
    obtain ⟨p, hp⟩ : ∃ p, t = p + 1 := ⟨t - 1, by omega⟩
    subst hp
    obtain ⟨⟨l, l1, l2⟩, -⟩ := htk p (by omega)
    obtain ⟨-, bv⟩ := htk (p + 1) q1
    obtain ⟨a2, b2, z1, z2, z3, z4, z5⟩ := w_heedA (g := u3) (q := 24 * S + p) (l := l) r26 (by omega) l1 (by rw [r28]; exact l2) q6 q7 q8 q9 bv
    have sl := w_slot S p u3
    rw [r28, r27] at z3 z4
    have dn : nI (p + 1) - 1 = nI p := nI_pred p
    simp (decide := true) only [wE_lit, wL_lit, wE_loc, wL_loc, wE_add, wE_sub, wE_mul, wE_and, wE_or, wE_xor, wE_shl, wE_shr, wE_ushr, wE_div, wE_rem, wE_neg, wE_i2b, wE_l2i, wL_i2l, wL_add, wL_mul, wE_fld, wL_fld, wE_arr, wL_arr, wC_cmp, wC_cmp0, wC_cmpL, wC_and, wC_or, wC_not, wC_ite, wL_ite, wA_nil, wA_int, wA_long, wE_call, wL_call, wS_skip, wS_seq, wS_set, wS_setL, wS_inc, wS_if, wS_put, wS_putL, wS_putOp, wS_putOpL, wS_ast, wS_astL, wS_aop, wS_aopL, wS_ret, wS_retL, wS_retV, wS_do, wS_pop, wS_dead, wS_sw, wF_body, Nat.reduceAdd, Nat.zero_add, Bool.not_not, true_and, and_true, if_true, if_false, ↓reduceIte, eq_self, Value.int.injEq, Value.long.injEq, exists_eq_left', ik_b1, ik_b0, ik_bz0, ik_bz3, ik_bz3_1, ik_bz3_0, ik_cmp, ik_cmpL, ik_eI, ik_eL, ik_as, ik_i0, ik_i1, decide_eq_true_eq, decide_eq_false_iff_not, decide_true, decide_false, Bool.not_true, Bool.not_false, reduceCtorEq, forall_const, false_implies, true_implies, implies_true, true_and, and_true, and_self, false_and, and_false, Bool.and_true, Bool.true_and, not_true_eq_false, not_false_eq_true, if_true, if_false, ite_true, ite_false, ik_bz3_0, ik_bz3_1, ik_bz0, q2, u7, nI_pred, sl, bar, z5, upd_at, upd_off, nI_1, nI_add]
    refine ⟨by omega, fun c hc => by rw [ik_si_row _ _ _ _ _ hc, ik_si_row _ _ _ _ _ hc]; exact q3 c hc, fun j j1 j2 => by rw [ik_si_ne _ _ _ _ _ j2, ik_si_ne _ _ _ _ _ j1]; exact q4 j j1 j2, q5, a2, b2, z1, z2, by rw [ik_si_ne _ _ _ _ _ (by decide)]; exact ik_si_same _ _ _ _, ik_si_same _ _ _ _, fun j => ?_, fun j => ?_⟩
    · rw [z3 j, q10 j]
      constructor
      · rintro ((z | ⟨t', w1, w2, w3⟩) | z)
        · exact Or.inl z
        · exact Or.inr ⟨t', w1, by omega, w3⟩
        · exact Or.inr ⟨p, q1, by omega, z⟩
      · rintro (z | ⟨t', w1, w2, w3⟩)
        · exact Or.inl (Or.inl z)
        · by_cases e : t' = p
          · subst e; exact Or.inr w3
          · exact Or.inl (Or.inr ⟨t', w1, by omega, w3⟩)
    · rw [z4 j, q11 j]
      constructor
      · rintro ((z | ⟨t', w1, w2, w3⟩) | z)
        · exact Or.inl z
        · exact Or.inr ⟨t', w1, by omega, w3⟩
        · exact Or.inr ⟨p, q1, by omega, z⟩
      · rintro (z | ⟨t', w1, w2, w3⟩)
        · exact Or.inl (Or.inl z)
        · by_cases e : t' = p
          · subst e; exact Or.inr w3
          · exact Or.inl (Or.inr ⟨t', w1, by omega, w3⟩)
  · rintro ⟨u1, u2, u3⟩ ⟨q0, q2, q3, q4, q5, a', b', q6, q7, q8, q9, q10, q11⟩
    simp only at q3 q4 q5 q8 q9
    have u7 : u3.1 25 7 = nI (S + 1) := by rw [q4 7 (by decide) (by decide)]; exact k7
    simp (decide := true) only [wE_lit, wL_lit, wE_loc, wL_loc, wE_add, wE_sub, wE_mul, wE_and, wE_or, wE_xor, wE_shl, wE_shr, wE_ushr, wE_div, wE_rem, wE_neg, wE_i2b, wE_l2i, wL_i2l, wL_add, wL_mul, wE_fld, wL_fld, wE_arr, wL_arr, wC_cmp, wC_cmp0, wC_cmpL, wC_and, wC_or, wC_not, wC_ite, wL_ite, wA_nil, wA_int, wA_long, wE_call, wL_call, wS_skip, wS_seq, wS_set, wS_setL, wS_inc, wS_if, wS_put, wS_putL, wS_putOp, wS_putOpL, wS_ast, wS_astL, wS_aop, wS_aopL, wS_ret, wS_retL, wS_retV, wS_do, wS_pop, wS_dead, wS_sw, wF_body, Nat.reduceAdd, Nat.zero_add, Bool.not_not, true_and, and_true, if_true, if_false, ↓reduceIte, eq_self, Value.int.injEq, Value.long.injEq, exists_eq_left', ik_b1, ik_b0, ik_bz0, ik_bz3, ik_bz3_1, ik_bz3_0, ik_cmp, ik_cmpL, ik_eI, ik_eL, ik_as, ik_i0, ik_i1, decide_eq_true_eq, decide_eq_false_iff_not, decide_true, decide_false, Bool.not_true, Bool.not_false, reduceCtorEq, forall_const, false_implies, true_implies, implies_true, true_and, and_true, and_self, false_and, and_false, Bool.and_true, Bool.true_and, not_true_eq_false, not_false_eq_true, if_true, if_false, ite_true, ite_false, ik_bz3_0, ik_bz3_1, ik_bz0, u7, nI_pred]
    refine ⟨sh u3 q3 q4 q5, a', b', q6, q7, q8, q9, fun j => ?_, fun j => ?_⟩
    · rw [q10 j]
      exact ⟨fun z => z.imp id (fun ⟨t', w1, w2, w3⟩ => ⟨t', w1, w3⟩), fun z => z.imp id (fun ⟨t', w1, w3⟩ => ⟨t', w1, w1, w3⟩)⟩
    · rw [q11 j]
      exact ⟨fun z => z.imp id (fun ⟨t', w1, w2, w3⟩ => ⟨t', w1, w3⟩), fun z => z.imp id (fun ⟨t', w1, w3⟩ => ⟨t', w1, w1, w3⟩)⟩
