/-! grammar: the token ahead of a bar -/
def isWd (m : GG) (s q : Nat) (an : Bool) : Bool := !decide (m.1 16 (24 * s + q) < 4) && decide (m.1 18 (24 * s + q) - m.1 17 (24 * s + q) = if an = true then 2 else 1) && decide (m.1 15 (160 * s + (m.1 17 (24 * s + q)).toInt.toNat) = 97) && (!an || decide (m.1 15 (160 * s + (m.1 17 (24 * s + q)).toInt.toNat + 1) = 110))
def grF (m : GG) (k i s t : Nat) : Bool := decide (m.1 16 (24 * s + t) = nI k) && ((isWd m s (t - 1) false && ik_vb m i) || (isWd m s (t - 1) true && !ik_vb m i))
theorem rS.tok {x m : GG} {S B : Nat} (h : rS x m S B) {s : Nat} (hs : s < S) : ∃ n : Nat, 1 ≤ n ∧ n ≤ 24 ∧ x.1 33 s = nI n ∧ m.1 14 s = nI n ∧ ∀ t, t < n → rK (x.1 29 (24 * s + t)) (x.1 28 (24 * s + t)) (fun k => x.1 27 (12 * (24 * s + t) + k)) (m.1 16 (24 * s + t)) (m.1 17 (24 * s + t)) (m.1 18 (24 * s + t)) (fun k => m.1 15 (160 * s + k)) B := by
  obtain ⟨-, -, -, -, h5, -⟩ := h
  obtain ⟨-, -, n, n1, n2, n3, n4, n5, n6⟩ := h5 s hs
  exact ⟨n, n1, n2, n3, n4, fun t ht => (n6 t ht).1⟩
theorem w_isWord {x m : GG} {S B s q n : Nat} (h : rS x m S B) (hB : B ≤ 4) (hs : s < S) (e : m.1 14 s = nI n) (hn : n ≤ 24) (hq : q < n) (an : Bool) (Q : Value → GG → Prop) : wF fX12_isWord [.int (nI (24 * s + q)), .int (nI s), .int (ik_b2 an)] m Q ↔ Q (.int (ik_b2 (isWd m s q an))) m := by
  refine wF_eq (eq_of_wF ?_) Q
  have hS := h.1
  obtain ⟨n', n1, n2, n3, n4, n5⟩ := h.tok hs
  have en : n = n' := (nI_eq (by omega) (by omega)).mp (e.symm.trans n4)
  subst en
  have ix := ik_ix_nI (show 24 * s + q < 144 by omega) (by omega)
  unfold fX12_isWord
  rcases n5 q hq with ⟨k, k1, k2, k3, k4⟩ | ⟨k1, k2, f, l, l1, l2, l3, l4, l5, l6, l7⟩
  · have lt : nI k < 4 := by rw [show (4 : Int32) = nI 4 from rfl, nI_ltI (by omega) (by omega)]; omega
    have : isWd m s q an = false := by unfold isWd; rw [k3]; simp [lt]
    simp (decide := true) only [wE_lit, wL_lit, wE_loc, wL_loc, wE_add, wE_sub, wE_mul, wE_and, wE_or, wE_xor, wE_shl, wE_shr, wE_ushr, wE_div, wE_rem, wE_neg, wE_i2b, wE_l2i, wL_i2l, wL_add, wL_mul, wE_fld, wL_fld, wE_arr, wL_arr, wC_cmp, wC_cmp0, wC_cmpL, wC_and, wC_or, wC_not, wC_ite, wL_ite, wA_nil, wA_int, wA_long, wE_call, wL_call, wS_skip, wS_seq, wS_set, wS_setL, wS_inc, wS_if, wS_put, wS_putL, wS_putOp, wS_putOpL, wS_ast, wS_astL, wS_aop, wS_aopL, wS_ret, wS_retL, wS_retV, wS_do, wS_pop, wS_dead, wS_sw, wF_body, Nat.reduceAdd, Nat.zero_add, Bool.not_not, true_and, and_true, if_true, if_false, ↓reduceIte, eq_self, Value.int.injEq, Value.long.injEq, exists_eq_left', ik_b1, ik_b0, ik_bz0, ik_bz3, ik_bz3_1, ik_bz3_0, ik_cmp, ik_cmpL, ik_eI, ik_eL, ik_as, ik_i0, ik_i1, decide_eq_true_eq, decide_eq_false_iff_not, decide_true, decide_false, Bool.not_true, Bool.not_false, reduceCtorEq, forall_const, false_implies, true_implies, implies_true, true_and, and_true, and_self, false_and, and_false, Bool.and_true, Bool.true_and, not_true_eq_false, not_false_eq_true, if_true, if_false, ite_true, ite_false, ik_bz3_0, ik_bz3_1, ik_bz0, ix, Option.some.injEq, k3, lt, this, ik_b2]
  · have nlt : ¬ (4 : Int32) < 4 := by decide
    have hd : nI (f + l) - nI f = nI l := by rw [pk_sub (by omega)]; congr 1; omega
    have hl2 : (nI l = 2) ↔ l = 2 := nI_ne_of rfl (by omega) (by omega)
    have hl1 : (nI l = 1) ↔ l = 1 := nI_ne_of rfl (by omega) (by omega)
    have ff := nI_nat (a := f) (by omega)
    have ixf := ik_ix_nI (show 160 * s + f < 960 by omega) (by omega)
    have W : isWd m s q an = (decide (l = if an = true then 2 else 1) && decide (m.1 15 (160 * s + f) = 97) && (!an || decide (m.1 15 (160 * s + f + 1) = 110))) := by
      unfold isWd
      rw [k2, l5, l4, hd, ff]
      cases an
      · simp [nlt, hl1]
      · simp [nlt, hl2]
    rw [W]
    cases an with
    | false =>
      by_cases c1 : l = 1
      · subst c1
        have hd' : nI (f + 1) - nI f = 1 := hd
        simp (decide := true) only [wE_lit, wL_lit, wE_loc, wL_loc, wE_add, wE_sub, wE_mul, wE_and, wE_or, wE_xor, wE_shl, wE_shr, wE_ushr, wE_div, wE_rem, wE_neg, wE_i2b, wE_l2i, wL_i2l, wL_add, wL_mul, wE_fld, wL_fld, wE_arr, wL_arr, wC_cmp, wC_cmp0, wC_cmpL, wC_and, wC_or, wC_not, wC_ite, wL_ite, wA_nil, wA_int, wA_long, wE_call, wL_call, wS_skip, wS_seq, wS_set, wS_setL, wS_inc, wS_if, wS_put, wS_putL, wS_putOp, wS_putOpL, wS_ast, wS_astL, wS_aop, wS_aopL, wS_ret, wS_retL, wS_retV, wS_do, wS_pop, wS_dead, wS_sw, wF_body, Nat.reduceAdd, Nat.zero_add, Bool.not_not, true_and, and_true, if_true, if_false, ↓reduceIte, eq_self, Value.int.injEq, Value.long.injEq, exists_eq_left', ik_b1, ik_b0, ik_bz0, ik_bz3, ik_bz3_1, ik_bz3_0, ik_cmp, ik_cmpL, ik_eI, ik_eL, ik_as, ik_i0, ik_i1, decide_eq_true_eq, decide_eq_false_iff_not, decide_true, decide_false, Bool.not_true, Bool.not_false, reduceCtorEq, forall_const, false_implies, true_implies, implies_true, true_and, and_true, and_self, false_and, and_false, Bool.and_true, Bool.true_and, not_true_eq_false, not_false_eq_true, if_true, if_false, ite_true, ite_false, ik_bz3_0, ik_bz3_1, ik_bz0, wE_ite2, ik_b2, ix, Option.some.injEq, k2, l4, l5, hd', upd_at, upd_off, show (160 : Int32) = nI 160 from rfl, pk_mul, nI_add, ixf]
        by_cases c2 : m.1 15 (160 * s + f) = 97 <;> simp [c2]
      · simp (decide := true) only [wE_lit, wL_lit, wE_loc, wL_loc, wE_add, wE_sub, wE_mul, wE_and, wE_or, wE_xor, wE_shl, wE_shr, wE_ushr, wE_div, wE_rem, wE_neg, wE_i2b, wE_l2i, wL_i2l, wL_add, wL_mul, wE_fld, wL_fld, wE_arr, wL_arr, wC_cmp, wC_cmp0, wC_cmpL, wC_and, wC_or, wC_not, wC_ite, wL_ite, wA_nil, wA_int, wA_long, wE_call, wL_call, wS_skip, wS_seq, wS_set, wS_setL, wS_inc, wS_if, wS_put, wS_putL, wS_putOp, wS_putOpL, wS_ast, wS_astL, wS_aop, wS_aopL, wS_ret, wS_retL, wS_retV, wS_do, wS_pop, wS_dead, wS_sw, wF_body, Nat.reduceAdd, Nat.zero_add, Bool.not_not, true_and, and_true, if_true, if_false, ↓reduceIte, eq_self, Value.int.injEq, Value.long.injEq, exists_eq_left', ik_b1, ik_b0, ik_bz0, ik_bz3, ik_bz3_1, ik_bz3_0, ik_cmp, ik_cmpL, ik_eI, ik_eL, ik_as, ik_i0, ik_i1, decide_eq_true_eq, decide_eq_false_iff_not, decide_true, decide_false, Bool.not_true, Bool.not_false, reduceCtorEq, forall_const, false_implies, true_implies, implies_true, true_and, and_true, and_self, false_and, and_false, Bool.and_true, Bool.true_and, not_true_eq_false, not_false_eq_true, if_true, if_false, ite_true, ite_false, ik_bz3_0, ik_bz3_1, ik_bz0, wE_ite2, ik_b2, ix, Option.some.injEq, k2, l4, l5, hd, hl1, c1, Bool.false_and]
        exact ⟨_, rfl⟩
    | true =>
      by_cases c1 : l = 2
      · subst c1
        have hd' : nI (f + 2) - nI f = 2 := hd
        have ixf2 := ik_ix_nI (show 160 * s + f + 1 < 960 by omega) (by omega)
        simp (decide := true) only [wE_lit, wL_lit, wE_loc, wL_loc, wE_add, wE_sub, wE_mul, wE_and, wE_or, wE_xor, wE_shl, wE_shr, wE_ushr, wE_div, wE_rem, wE_neg, wE_i2b, wE_l2i, wL_i2l, wL_add, wL_mul, wE_fld, wL_fld, wE_arr, wL_arr, wC_cmp, wC_cmp0, wC_cmpL, wC_and, wC_or, wC_not, wC_ite, wL_ite, wA_nil, wA_int, wA_long, wE_call, wL_call, wS_skip, wS_seq, wS_set, wS_setL, wS_inc, wS_if, wS_put, wS_putL, wS_putOp, wS_putOpL, wS_ast, wS_astL, wS_aop, wS_aopL, wS_ret, wS_retL, wS_retV, wS_do, wS_pop, wS_dead, wS_sw, wF_body, Nat.reduceAdd, Nat.zero_add, Bool.not_not, true_and, and_true, if_true, if_false, ↓reduceIte, eq_self, Value.int.injEq, Value.long.injEq, exists_eq_left', ik_b1, ik_b0, ik_bz0, ik_bz3, ik_bz3_1, ik_bz3_0, ik_cmp, ik_cmpL, ik_eI, ik_eL, ik_as, ik_i0, ik_i1, decide_eq_true_eq, decide_eq_false_iff_not, decide_true, decide_false, Bool.not_true, Bool.not_false, reduceCtorEq, forall_const, false_implies, true_implies, implies_true, true_and, and_true, and_self, false_and, and_false, Bool.and_true, Bool.true_and, not_true_eq_false, not_false_eq_true, if_true, if_false, ite_true, ite_false, ik_bz3_0, ik_bz3_1, ik_bz0, wE_ite2, ik_b2, ix, Option.some.injEq, k2, l4, l5, hd', upd_at, upd_off, show (160 : Int32) = nI 160 from rfl, pk_mul, nI_add, nI_1, ixf, ixf2]
        by_cases c2 : m.1 15 (160 * s + f) = 97 <;> by_cases c3 : m.1 15 (160 * s + f + 1) = 110 <;> simp [c2, c3]
      · simp (decide := true) only [wE_lit, wL_lit, wE_loc, wL_loc, wE_add, wE_sub, wE_mul, wE_and, wE_or, wE_xor, wE_shl, wE_shr, wE_ushr, wE_div, wE_rem, wE_neg, wE_i2b, wE_l2i, wL_i2l, wL_add, wL_mul, wE_fld, wL_fld, wE_arr, wL_arr, wC_cmp, wC_cmp0, wC_cmpL, wC_and, wC_or, wC_not, wC_ite, wL_ite, wA_nil, wA_int, wA_long, wE_call, wL_call, wS_skip, wS_seq, wS_set, wS_setL, wS_inc, wS_if, wS_put, wS_putL, wS_putOp, wS_putOpL, wS_ast, wS_astL, wS_aop, wS_aopL, wS_ret, wS_retL, wS_retV, wS_do, wS_pop, wS_dead, wS_sw, wF_body, Nat.reduceAdd, Nat.zero_add, Bool.not_not, true_and, and_true, if_true, if_false, ↓reduceIte, eq_self, Value.int.injEq, Value.long.injEq, exists_eq_left', ik_b1, ik_b0, ik_bz0, ik_bz3, ik_bz3_1, ik_bz3_0, ik_cmp, ik_cmpL, ik_eI, ik_eL, ik_as, ik_i0, ik_i1, decide_eq_true_eq, decide_eq_false_iff_not, decide_true, decide_false, Bool.not_true, Bool.not_false, reduceCtorEq, forall_const, false_implies, true_implies, implies_true, true_and, and_true, and_self, false_and, and_false, Bool.and_true, Bool.true_and, not_true_eq_false, not_false_eq_true, if_true, if_false, ite_true, ite_false, ik_bz3_0, ik_bz3_1, ik_bz0, wE_ite2, ik_b2, ix, Option.some.injEq, k2, l4, l5, hd, hl2, c1, Bool.false_and]
        exact ⟨_, rfl⟩
/-- the reference looks for a token of the sheets that speaks against it -/
theorem w_grammarM {x m : GG} {S B k i : Nat} (h : rS x m S B) (hB : B ≤ 4) (hi : i < 24) (G : Bool) (hG : G = true ↔ ∃ s t n, s < S ∧ m.1 14 s = nI n ∧ n ≤ 24 ∧ 1 ≤ t ∧ t < n ∧ grF m k i s t = true) (Q : Value → GG → Prop) : wF fX12_isAgainstGrammar [.int (nI k), .int (nI i)] m Q ↔ Q (.int (ik_b2 G)) m := by
  refine wF_eq (eq_of_wF ?_) Q
  have hS := h.1
  have vo := fun Q => w_vowelM (g := m) (i := i) hi Q
  unfold fX12_isAgainstGrammar
  simp (decide := true) only [wE_lit, wL_lit, wE_loc, wL_loc, wE_add, wE_sub, wE_mul, wE_and, wE_or, wE_xor, wE_shl, wE_shr, wE_ushr, wE_div, wE_rem, wE_neg, wE_i2b, wE_l2i, wL_i2l, wL_add, wL_mul, wE_fld, wL_fld, wE_arr, wL_arr, wC_cmp, wC_cmp0, wC_cmpL, wC_and, wC_or, wC_not, wC_ite, wL_ite, wA_nil, wA_int, wA_long, wE_call, wL_call, wS_skip, wS_seq, wS_set, wS_setL, wS_inc, wS_if, wS_put, wS_putL, wS_putOp, wS_putOpL, wS_ast, wS_astL, wS_aop, wS_aopL, wS_ret, wS_retL, wS_retV, wS_do, wS_pop, wS_dead, wS_sw, wF_body, Nat.reduceAdd, Nat.zero_add, Bool.not_not, true_and, and_true, if_true, if_false, ↓reduceIte, eq_self, Value.int.injEq, Value.long.injEq, exists_eq_left', ik_b1, ik_b0, ik_bz0, ik_bz3, ik_bz3_1, ik_bz3_0, ik_cmp, ik_cmpL, ik_eI, ik_eL, ik_as, ik_i0, ik_i1, decide_eq_true_eq, decide_eq_false_iff_not, decide_true, decide_false, Bool.not_true, Bool.not_false, reduceCtorEq, forall_const, false_implies, true_implies, implies_true, true_and, and_true, and_self, false_and, and_false, Bool.and_true, Bool.true_and, not_true_eq_false, not_false_eq_true, if_true, if_false, ite_true, ite_false, ik_bz3_0, ik_bz3_1, ik_bz0]
  refine wS_for _ _ (fun s σ => σ.1 3 = nI s ∧ σ.1 1 = nI k ∧ σ.1 2 = nI i ∧ σ.2.2 = m ∧ ∀ s' t n, s' < s → m.1 14 s' = nI n → n ≤ 24 → 1 ≤ t → t < n → grF m k i s' t = false) 0 S _ ⟨by simp [upd, nI_0], by simp [upd, ik_eI], by simp [upd, ik_eI], rfl, fun s' t n h1 => by omega⟩ (by omega) (by omega) ?_ ?_ ?_
  · rintro s ⟨s1, s2, s3⟩ hs ⟨h1, h2, h3, h4, h5⟩
    simp only at h1 h4
    subst h4
    exact wc_1 (by exact h.2.2.1) (by omega) hs h1
  · rintro s ⟨s1, s2, s3⟩ hs ⟨h1, h2, h3, h4, h5⟩
    simp only at h1 h2 h3 h4
    subst h4
    obtain ⟨n, n1, n2, n3, n4, n5⟩ := h.tok hs
    have ixs := ik_ix_nI (show s < 6 by omega) (by omega)
    simp (decide := true) only [wE_lit, wL_lit, wE_loc, wL_loc, wE_add, wE_sub, wE_mul, wE_and, wE_or, wE_xor, wE_shl, wE_shr, wE_ushr, wE_div, wE_rem, wE_neg, wE_i2b, wE_l2i, wL_i2l, wL_add, wL_mul, wE_fld, wL_fld, wE_arr, wL_arr, wC_cmp, wC_cmp0, wC_cmpL, wC_and, wC_or, wC_not, wC_ite, wL_ite, wA_nil, wA_int, wA_long, wE_call, wL_call, wS_skip, wS_seq, wS_set, wS_setL, wS_inc, wS_if, wS_put, wS_putL, wS_putOp, wS_putOpL, wS_ast, wS_astL, wS_aop, wS_aopL, wS_ret, wS_retL, wS_retV, wS_do, wS_pop, wS_dead, wS_sw, wF_body, Nat.reduceAdd, Nat.zero_add, Bool.not_not, true_and, and_true, if_true, if_false, ↓reduceIte, eq_self, Value.int.injEq, Value.long.injEq, exists_eq_left', ik_b1, ik_b0, ik_bz0, ik_bz3, ik_bz3_1, ik_bz3_0, ik_cmp, ik_cmpL, ik_eI, ik_eL, ik_as, ik_i0, ik_i1, decide_eq_true_eq, decide_eq_false_iff_not, decide_true, decide_false, Bool.not_true, Bool.not_false, reduceCtorEq, forall_const, false_implies, true_implies, implies_true, true_and, and_true, and_self, false_and, and_false, Bool.and_true, Bool.true_and, not_true_eq_false, not_false_eq_true, if_true, if_false, ite_true, ite_false, ik_bz3_0, ik_bz3_1, ik_bz0]
    refine wS_for _ _ (fun t σ => σ.1 4 = nI t ∧ σ.1 3 = nI s ∧ σ.1 1 = nI k ∧ σ.1 2 = nI i ∧ σ.2.2 = s3 ∧ 1 ≤ t ∧ ∀ t', 1 ≤ t' → t' < t → grF s3 k i s t' = false) 1 n _ ⟨by simp [upd]; rfl, by simp [upd, h1], by simp [upd, h2], by simp [upd, h3], rfl, Nat.le_refl _, fun t' a b => by omega⟩ n1 (by omega) ?_ ?_ ?_
    · rintro t ⟨u1, u2, u3⟩ ht ⟨b1, b2, b3, b4, b5, b6, b7⟩
      simp only at b1 b2 b5
      subst b5
      simp (decide := true) only [wE_lit, wL_lit, wE_loc, wL_loc, wE_add, wE_sub, wE_mul, wE_and, wE_or, wE_xor, wE_shl, wE_shr, wE_ushr, wE_div, wE_rem, wE_neg, wE_i2b, wE_l2i, wL_i2l, wL_add, wL_mul, wE_fld, wL_fld, wE_arr, wL_arr, wC_cmp, wC_cmp0, wC_cmpL, wC_and, wC_or, wC_not, wC_ite, wL_ite, wA_nil, wA_int, wA_long, wE_call, wL_call, wS_skip, wS_seq, wS_set, wS_setL, wS_inc, wS_if, wS_put, wS_putL, wS_putOp, wS_putOpL, wS_ast, wS_astL, wS_aop, wS_aopL, wS_ret, wS_retL, wS_retV, wS_do, wS_pop, wS_dead, wS_sw, wF_body, Nat.reduceAdd, Nat.zero_add, Bool.not_not, true_and, and_true, if_true, if_false, ↓reduceIte, eq_self, Value.int.injEq, Value.long.injEq, exists_eq_left', ik_b1, ik_b0, ik_bz0, ik_bz3, ik_bz3_1, ik_bz3_0, ik_cmp, ik_cmpL, ik_eI, ik_eL, ik_as, ik_i0, ik_i1, decide_eq_true_eq, decide_eq_false_iff_not, decide_true, decide_false, Bool.not_true, Bool.not_false, reduceCtorEq, forall_const, false_implies, true_implies, implies_true, true_and, and_true, and_self, false_and, and_false, Bool.and_true, Bool.true_and, not_true_eq_false, not_false_eq_true, if_true, if_false, ite_true, ite_false, ik_bz3_0, ik_bz3_1, ik_bz0, b1, b2, ixs, Option.some.injEq, n4, nI_ltI (show t < 2 ^ 31 by omega) (show n < 2 ^ 31 by omega)]
    · rintro t ⟨u1, u2, u3⟩ ht ⟨b1, b2, b3, b4, b5, b6, b7⟩
      simp only at b1 b2 b3 b4 b5
      subst b5
      have ix := ik_ix_nI (show 24 * s + t < 144 by omega) (by omega)
      have ep : nI (24 * s + t) - 1 = nI (24 * s + (t - 1)) := by
        have := nI_pred (24 * s + (t - 1))
        rw [show 24 * s + (t - 1) + 1 = 24 * s + t by omega] at this
        exact this
      have w0 : ∀ Q : Value → GG → Prop, wF fX12_isWord [.int (nI (24 * s + (t - 1))), .int (nI s), .int 0] u3 Q ↔ _ := fun Q => w_isWord h hB hs n4 n2 (show t - 1 < n by omega) false Q
      have w1 : ∀ Q : Value → GG → Prop, wF fX12_isWord [.int (nI (24 * s + (t - 1))), .int (nI s), .int 1] u3 Q ↔ _ := fun Q => w_isWord h hB hs n4 n2 (show t - 1 < n by omega) true Q
      have yes : grF u3 k i s t = true → ik_b2 G = 1 := fun hh => by rw [hG.mpr ⟨s, t, n, hs, n4, n2, b6, ht, hh⟩]; rfl
      have nx : grF u3 k i s t = false → 1 ≤ t + 1 ∧ ∀ t', 1 ≤ t' → t' < t + 1 → grF u3 k i s t' = false := fun hh => ⟨by omega, fun t' a b => by
        by_cases e : t' = t
        · rw [e]; exact hh
        · exact b7 t' a (by omega)⟩
      simp (decide := true) only [wE_lit, wL_lit, wE_loc, wL_loc, wE_add, wE_sub, wE_mul, wE_and, wE_or, wE_xor, wE_shl, wE_shr, wE_ushr, wE_div, wE_rem, wE_neg, wE_i2b, wE_l2i, wL_i2l, wL_add, wL_mul, wE_fld, wL_fld, wE_arr, wL_arr, wC_cmp, wC_cmp0, wC_cmpL, wC_and, wC_or, wC_not, wC_ite, wL_ite, wA_nil, wA_int, wA_long, wE_call, wL_call, wS_skip, wS_seq, wS_set, wS_setL, wS_inc, wS_if, wS_put, wS_putL, wS_putOp, wS_putOpL, wS_ast, wS_astL, wS_aop, wS_aopL, wS_ret, wS_retL, wS_retV, wS_do, wS_pop, wS_dead, wS_sw, wF_body, Nat.reduceAdd, Nat.zero_add, Bool.not_not, true_and, and_true, if_true, if_false, ↓reduceIte, eq_self, Value.int.injEq, Value.long.injEq, exists_eq_left', ik_b1, ik_b0, ik_bz0, ik_bz3, ik_bz3_1, ik_bz3_0, ik_cmp, ik_cmpL, ik_eI, ik_eL, ik_as, b1, b2, b3, b4, upd_at, upd_off, show (24 : Int32) = nI 24 from rfl, pk_mul, nI_add, ix, Option.some.injEq, nI_1, ep, w0, w1, vo, ik_b2_0]
      by_cases c0 : u3.1 16 (24 * s + t) = nI k
      · have e0 : grF u3 k i s t = ((isWd u3 s (t - 1) false && ik_vb u3 i) || (isWd u3 s (t - 1) true && !ik_vb u3 i)) := by unfold grF; simp [c0]
        cases hw0 : isWd u3 s (t - 1) false <;> cases hw1 : isWd u3 s (t - 1) true <;> cases hv : ik_vb u3 i
        all_goals
          rw [hw0, hw1, hv] at e0
          simp (decide := true) only [ik_i0, ik_i1, decide_eq_true_eq, decide_eq_false_iff_not, decide_true, decide_false, Bool.not_true, Bool.not_false, reduceCtorEq, forall_const, false_implies, true_implies, implies_true, true_and, and_true, and_self, false_and, and_false, Bool.and_true, Bool.true_and, not_true_eq_false, not_false_eq_true, if_true, if_false, ite_true, ite_false, ik_bz3_0, ik_bz3_1, ik_bz0, Nat.reduceAdd, Nat.zero_add, Bool.not_not, true_and, and_true, if_true, if_false, ↓reduceIte, eq_self, Value.int.injEq, Value.long.injEq, exists_eq_left', ik_b1, ik_b0, ik_bz0, ik_bz3, ik_bz3_1, ik_bz3_0, ik_cmp, ik_cmpL, ik_eI, ik_eL, ik_as, c0, hw0, hw1, hv, b1, b2, b3, b4, upd_at, upd_off, nI_1]
          first | exact nx (e0.trans rfl) | (rw [yes (e0.trans rfl)]; done) | (rw [yes (e0.trans rfl)]; exact ⟨_, rfl⟩)
      · have e : grF u3 k i s t = false := by unfold grF; simp [c0]
        simp (decide := true) only [ik_i0, ik_i1, decide_eq_true_eq, decide_eq_false_iff_not, decide_true, decide_false, Bool.not_true, Bool.not_false, reduceCtorEq, forall_const, false_implies, true_implies, implies_true, true_and, and_true, and_self, false_and, and_false, Bool.and_true, Bool.true_and, not_true_eq_false, not_false_eq_true, if_true, if_false, ite_true, ite_false, ik_bz3_0, ik_bz3_1, ik_bz0, Nat.reduceAdd, Nat.zero_add, Bool.not_not, true_and, and_true, if_true, if_false, ↓reduceIte, eq_self, Value.int.injEq, Value.long.injEq, exists_eq_left', ik_b1, ik_b0, ik_bz0, ik_bz3, ik_bz3_1, ik_bz3_0, ik_cmp, ik_cmpL, ik_eI, ik_eL, ik_as, c0, b1, b2, b3, b4, upd_at, upd_off, nI_1]
        exact nx e
    · rintro ⟨u1, u2, u3⟩ ⟨b1, b2, b3, b4, b5, b6, b7⟩
      simp only at b1 b2 b3 b4 b5
      subst b5
      simp (decide := true) only [wE_lit, wL_lit, wE_loc, wL_loc, wE_add, wE_sub, wE_mul, wE_and, wE_or, wE_xor, wE_shl, wE_shr, wE_ushr, wE_div, wE_rem, wE_neg, wE_i2b, wE_l2i, wL_i2l, wL_add, wL_mul, wE_fld, wL_fld, wE_arr, wL_arr, wC_cmp, wC_cmp0, wC_cmpL, wC_and, wC_or, wC_not, wC_ite, wL_ite, wA_nil, wA_int, wA_long, wE_call, wL_call, wS_skip, wS_seq, wS_set, wS_setL, wS_inc, wS_if, wS_put, wS_putL, wS_putOp, wS_putOpL, wS_ast, wS_astL, wS_aop, wS_aopL, wS_ret, wS_retL, wS_retV, wS_do, wS_pop, wS_dead, wS_sw, wF_body, Nat.reduceAdd, Nat.zero_add, Bool.not_not, true_and, and_true, if_true, if_false, ↓reduceIte, eq_self, Value.int.injEq, Value.long.injEq, exists_eq_left', ik_b1, ik_b0, ik_bz0, ik_bz3, ik_bz3_1, ik_bz3_0, ik_cmp, ik_cmpL, ik_eI, ik_eL, ik_as, ik_i0, ik_i1, decide_eq_true_eq, decide_eq_false_iff_not, decide_true, decide_false, Bool.not_true, Bool.not_false, reduceCtorEq, forall_const, false_implies, true_implies, implies_true, true_and, and_true, and_self, false_and, and_false, Bool.and_true, Bool.true_and, not_true_eq_false, not_false_eq_true, if_true, if_false, ite_true, ite_false, ik_bz3_0, ik_bz3_1, ik_bz0, b2, b3, b4, upd_at, upd_off, nI_1]
      intro s' t n' h6 h7 h8 h9 h10
      by_cases e : s' = s
      · subst e
        have en : n' = n := (nI_eq (by omega) (by omega)).mp (h7.symm.trans n4)
        subst en
        exact b7 t h9 h10
      · exact h5 s' t n' (by omega) h7 h8 h9 h10
  · rintro ⟨s1, s2, s3⟩ ⟨h1, h2, h3, h4, h5⟩
    simp only at h4
    subst h4
    have : G = false := by
      cases hg : G with
      | false => rfl
      | true =>
        obtain ⟨s, t, n, a1, a2, a3, a4, a5, a6⟩ := hG.mp hg
        rw [h5 s t n a1 a2 a3 a4 a5] at a6
        cases a6
    simp (decide := true) only [wE_lit, wL_lit, wE_loc, wL_loc, wE_add, wE_sub, wE_mul, wE_and, wE_or, wE_xor, wE_shl, wE_shr, wE_ushr, wE_div, wE_rem, wE_neg, wE_i2b, wE_l2i, wL_i2l, wL_add, wL_mul, wE_fld, wL_fld, wE_arr, wL_arr, wC_cmp, wC_cmp0, wC_cmpL, wC_and, wC_or, wC_not, wC_ite, wL_ite, wA_nil, wA_int, wA_long, wE_call, wL_call, wS_skip, wS_seq, wS_set, wS_setL, wS_inc, wS_if, wS_put, wS_putL, wS_putOp, wS_putOpL, wS_ast, wS_astL, wS_aop, wS_aopL, wS_ret, wS_retL, wS_retV, wS_do, wS_pop, wS_dead, wS_sw, wF_body, Nat.reduceAdd, Nat.zero_add, Bool.not_not, true_and, and_true, if_true, if_false, ↓reduceIte, eq_self, Value.int.injEq, Value.long.injEq, exists_eq_left', ik_b1, ik_b0, ik_bz0, ik_bz3, ik_bz3_1, ik_bz3_0, ik_cmp, ik_cmpL, ik_eI, ik_eL, ik_as, ik_i0, ik_i1, decide_eq_true_eq, decide_eq_false_iff_not, decide_true, decide_false, Bool.not_true, Bool.not_false, reduceCtorEq, forall_const, false_implies, true_implies, implies_true, true_and, and_true, and_self, false_and, and_false, Bool.and_true, Bool.true_and, not_true_eq_false, not_false_eq_true, if_true, if_false, ite_true, ite_false, ik_bz3_0, ik_bz3_1, ik_bz0, this, ik_b2]
