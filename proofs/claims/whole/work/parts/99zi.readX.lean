/-! sheets: the class reads -/
theorem stands26 {g : GG} {q : Nat} (h0 : g.1 26 0 = nI 144) (hq : q < 144) (Q : Value → GG → Prop) : wF fX10_stands_26 [.int (nI q)] g Q ↔ Q (.int 1) g := by
  refine wF_eq (eq_of_wF ?_) Q
  have p1 := nI_pos' (n := q) (by omega)
  have p2 := nI_lt (show q < 144 by omega) (by omega)
  unfold fX10_stands_26
  simp (decide := true) only [wE_lit, wL_lit, wE_loc, wL_loc, wE_add, wE_sub, wE_mul, wE_and, wE_or, wE_xor, wE_shl, wE_shr, wE_ushr, wE_div, wE_rem, wE_neg, wE_i2b, wE_l2i, wL_i2l, wL_add, wL_mul, wE_fld, wL_fld, wE_arr, wL_arr, wC_cmp, wC_cmp0, wC_cmpL, wC_and, wC_or, wC_not, wC_ite, wL_ite, wA_nil, wA_int, wA_long, wE_call, wL_call, wS_skip, wS_seq, wS_set, wS_setL, wS_inc, wS_if, wS_put, wS_putL, wS_putOp, wS_putOpL, wS_ast, wS_astL, wS_aop, wS_aopL, wS_ret, wS_retL, wS_retV, wS_do, wS_pop, wS_dead, wS_sw, wF_body, Nat.reduceAdd, Nat.zero_add, Bool.not_not, true_and, and_true, if_true, if_false, ↓reduceIte, eq_self, Value.int.injEq, Value.long.injEq, exists_eq_left', ik_b1, ik_b0, ik_bz0, ik_bz3, ik_bz3_1, ik_bz3_0, ik_cmp, ik_cmpL, ik_eI, ik_eL, ik_as, ik_i0, ik_i1, decide_eq_true_eq, decide_eq_false_iff_not, decide_true, decide_false, Bool.not_true, Bool.not_false, reduceCtorEq, forall_const, false_implies, true_implies, implies_true, true_and, and_true, and_self, false_and, and_false, Bool.and_true, Bool.true_and, not_true_eq_false, not_false_eq_true, if_true, if_false, ite_true, ite_false, ik_bz3_0, ik_bz3_1, ik_bz0, wE_ite2, h0, p1, p2]
theorem w_wipe26 {g : GG} {q : Nat} (h0 : g.1 26 0 = nI 144) (hq : q < 144) (Q : Value → GG → Prop) : wF fX10_wipe_26 [.int (nI q)] g Q ↔ Q .null (ik_si g 28 q 0) := by
  refine wF_eq (eq_of_wF ?_) Q
  unfold fX10_wipe_26
  simp (decide := true) only [wE_lit, wL_lit, wE_loc, wL_loc, wE_add, wE_sub, wE_mul, wE_and, wE_or, wE_xor, wE_shl, wE_shr, wE_ushr, wE_div, wE_rem, wE_neg, wE_i2b, wE_l2i, wL_i2l, wL_add, wL_mul, wE_fld, wL_fld, wE_arr, wL_arr, wC_cmp, wC_cmp0, wC_cmpL, wC_and, wC_or, wC_not, wC_ite, wL_ite, wA_nil, wA_int, wA_long, wE_call, wL_call, wS_skip, wS_seq, wS_set, wS_setL, wS_inc, wS_if, wS_put, wS_putL, wS_putOp, wS_putOpL, wS_ast, wS_astL, wS_aop, wS_aopL, wS_ret, wS_retL, wS_retV, wS_do, wS_pop, wS_dead, wS_sw, wF_body, Nat.reduceAdd, Nat.zero_add, Bool.not_not, true_and, and_true, if_true, if_false, ↓reduceIte, eq_self, Value.int.injEq, Value.long.injEq, exists_eq_left', ik_b1, ik_b0, ik_bz0, ik_bz3, ik_bz3_1, ik_bz3_0, ik_cmp, ik_cmpL, ik_eI, ik_eL, ik_as, ik_i0, ik_i1, decide_eq_true_eq, decide_eq_false_iff_not, decide_true, decide_false, Bool.not_true, Bool.not_false, reduceCtorEq, forall_const, false_implies, true_implies, implies_true, true_and, and_true, and_self, false_and, and_false, Bool.and_true, Bool.true_and, not_true_eq_false, not_false_eq_true, if_true, if_false, ite_true, ite_false, ik_bz3_0, ik_bz3_1, ik_bz0, stands26 h0 hq, ik_ix_nI hq (by omega), Option.some.injEq]
theorem w_grow26 {g : GG} {q k : Nat} (h0 : g.1 26 0 = nI 144) (hq : q < 144) (hk : k < 12) (e9 : g.1 28 q = nI k) (v : Int32) (Q : Value → GG → Prop) : wF fX10_grow_26 [.int (nI q), .int v] g Q ↔ Q (.int 1) (ik_si (ik_si g 27 (12 * q + k) v) 28 q (nI (k + 1))) := by
  refine wF_eq (eq_of_wF ?_) Q
  have p3 : ¬ nI k < 0 := nI_pos (by omega)
  have p4 : ¬ nI 12 ≤ nI k := nI_ge hk (by omega)
  unfold fX10_grow_26
  simp (decide := true) only [wE_lit, wL_lit, wE_loc, wL_loc, wE_add, wE_sub, wE_mul, wE_and, wE_or, wE_xor, wE_shl, wE_shr, wE_ushr, wE_div, wE_rem, wE_neg, wE_i2b, wE_l2i, wL_i2l, wL_add, wL_mul, wE_fld, wL_fld, wE_arr, wL_arr, wC_cmp, wC_cmp0, wC_cmpL, wC_and, wC_or, wC_not, wC_ite, wL_ite, wA_nil, wA_int, wA_long, wE_call, wL_call, wS_skip, wS_seq, wS_set, wS_setL, wS_inc, wS_if, wS_put, wS_putL, wS_putOp, wS_putOpL, wS_ast, wS_astL, wS_aop, wS_aopL, wS_ret, wS_retL, wS_retV, wS_do, wS_pop, wS_dead, wS_sw, wF_body, Nat.reduceAdd, Nat.zero_add, Bool.not_not, true_and, and_true, if_true, if_false, ↓reduceIte, eq_self, Value.int.injEq, Value.long.injEq, exists_eq_left', ik_b1, ik_b0, ik_bz0, ik_bz3, ik_bz3_1, ik_bz3_0, ik_cmp, ik_cmpL, ik_eI, ik_eL, ik_as, ik_i0, ik_i1, decide_eq_true_eq, decide_eq_false_iff_not, decide_true, decide_false, Bool.not_true, Bool.not_false, reduceCtorEq, forall_const, false_implies, true_implies, implies_true, true_and, and_true, and_self, false_and, and_false, Bool.and_true, Bool.true_and, not_true_eq_false, not_false_eq_true, if_true, if_false, ite_true, ite_false, ik_bz3_0, ik_bz3_1, ik_bz0, stands26 h0 hq, e9, show (12 : Int32) = nI 12 from rfl, p3, p4, ik_ix_nI hq (by omega), Option.some.injEq, pk_mul, nI_add, show q * 12 + k = 12 * q + k by omega, ik_ix_nI (show 12 * q + k < 1728 by omega) (by omega), ik_si_row, ik_bo, nI_1]
theorem w_grow26n {g : GG} {q : Nat} (h0 : g.1 26 0 = nI 144) (hq : q < 144) (e9 : g.1 28 q = nI 12) (v : Int32) (Q : Value → GG → Prop) : wF fX10_grow_26 [.int (nI q), .int v] g Q ↔ Q (.int 0) g := by
  refine wF_eq (eq_of_wF ?_) Q
  have p3 : ¬ nI 12 < 0 := nI_pos (by omega)
  unfold fX10_grow_26
  simp (decide := true) only [wE_lit, wL_lit, wE_loc, wL_loc, wE_add, wE_sub, wE_mul, wE_and, wE_or, wE_xor, wE_shl, wE_shr, wE_ushr, wE_div, wE_rem, wE_neg, wE_i2b, wE_l2i, wL_i2l, wL_add, wL_mul, wE_fld, wL_fld, wE_arr, wL_arr, wC_cmp, wC_cmp0, wC_cmpL, wC_and, wC_or, wC_not, wC_ite, wL_ite, wA_nil, wA_int, wA_long, wE_call, wL_call, wS_skip, wS_seq, wS_set, wS_setL, wS_inc, wS_if, wS_put, wS_putL, wS_putOp, wS_putOpL, wS_ast, wS_astL, wS_aop, wS_aopL, wS_ret, wS_retL, wS_retV, wS_do, wS_pop, wS_dead, wS_sw, wF_body, Nat.reduceAdd, Nat.zero_add, Bool.not_not, true_and, and_true, if_true, if_false, ↓reduceIte, eq_self, Value.int.injEq, Value.long.injEq, exists_eq_left', ik_b1, ik_b0, ik_bz0, ik_bz3, ik_bz3_1, ik_bz3_0, ik_cmp, ik_cmpL, ik_eI, ik_eL, ik_as, ik_i0, ik_i1, decide_eq_true_eq, decide_eq_false_iff_not, decide_true, decide_false, Bool.not_true, Bool.not_false, reduceCtorEq, forall_const, false_implies, true_implies, implies_true, true_and, and_true, and_self, false_and, and_false, Bool.and_true, Bool.true_and, not_true_eq_false, not_false_eq_true, if_true, if_false, ite_true, ite_false, ik_bz3_0, ik_bz3_1, ik_bz0, exists_eq', stands26 h0 hq, e9, p3, ik_ix_nI hq (by omega), Option.some.injEq, show (12 : Int32) = nI 12 from rfl]
def fsX (S : Nat) (g0 g : GG) : Prop := (∀ a, a ≠ 25 → a ≠ 27 → a ≠ 28 → a ≠ 29 → a ≠ 30 → g.1 a = g0.1 a) ∧ (∀ j, j ≠ 8 → g.1 25 j = g0.1 25 j) ∧ (∀ j, j < 24 * S → g.1 28 j = g0.1 28 j ∧ g.1 29 j = g0.1 29 j ∧ g.1 30 j = g0.1 30 j) ∧ (∀ j, j < 288 * S → g.1 27 j = g0.1 27 j) ∧ g.2 = g0.2
theorem fsX.rfl' (S : Nat) (g : GG) : fsX S g g := ⟨fun _ _ _ _ _ _ => rfl, fun _ _ => rfl, fun _ _ => ⟨rfl, rfl, rfl⟩, fun _ _ => rfl, rfl⟩
theorem fsX.si {S : Nat} {g0 g : GG} (h : fsX S g0 g) {a j : Nat} (v : Int32) (ha : (a = 25 ∧ j = 8) ∨ ((a = 28 ∨ a = 29 ∨ a = 30) ∧ 24 * S ≤ j) ∨ (a = 27 ∧ 288 * S ≤ j)) : fsX S g0 (ik_si g a j v) := by
  obtain ⟨h1, h2, h3, h4, h5⟩ := h
  have f : ∀ b k, ¬ (b = a ∧ k = j) → (ik_si g a j v).1 b k = g.1 b k := fun b k hn => by
    by_cases e : b = a
    · subst e
      rw [ik_si_ne _ _ _ _ _ (fun z => hn ⟨rfl, z⟩)]
    · rw [ik_si_row _ _ _ _ _ e]
  refine ⟨fun b b1 b2 b3 b4 b5 => ?_, fun k hk => ?_, fun k hk => ⟨?_, ?_, ?_⟩, fun k hk => ?_, h5⟩
  · rw [ik_si_row _ _ _ _ _ (by omega)]; exact h1 b b1 b2 b3 b4 b5
  · rw [f 25 k (by omega)]; exact h2 k hk
  · rw [f 28 k (by omega)]; exact (h3 k hk).1
  · rw [f 29 k (by omega)]; exact (h3 k hk).2.1
  · rw [f 30 k (by omega)]; exact (h3 k hk).2.2
  · rw [f 27 k (by omega)]; exact h4 k hk
/-- the tokens so far, in the class -/
def CX (S : Nat) (c : Nat → Nat) (n : Nat) (fr ln : Nat → Nat) (bg : Nat → Bool) (g : GG) : Prop := g.1 25 8 = nI n ∧ ∀ t, t < n → g.1 29 (24 * S + t) = (if sg_dig (c (fr t)) = true then nI (c (fr t) - 48) else -1) ∧ g.1 28 (24 * S + t) = nI (ln t) ∧ (∀ j, j < ln t → g.1 27 (12 * (24 * S + t) + j) = nI (c (fr t + j) - 96)) ∧ g.1 30 (24 * S + t) = ik_b2 (bg t)
theorem letN {v : Nat} (hv : v < 256) : (97 ≤ nI v ∧ nI v ≤ 122) ↔ sg_let v = true := by
  rw [show (97 : Int32) = nI 97 from rfl, show (122 : Int32) = nI 122 from rfl, nI_leI (by omega) (by omega), nI_leI (by omega) (by omega)]
  unfold sg_let
  simp only [Bool.and_eq_true, decide_eq_true_eq]
theorem w_letX {v : Nat} (hv : v < 256) (g : GG) (Q : Value → GG → Prop) : wF fX11_isLetter [.int (nI v)] g Q ↔ Q (.int (ik_b2 (sg_let v))) g := by
  rw [w_letterX]
  have := letN hv
  cases h : sg_let v with
  | true => rw [if_pos (this.mpr h)]; exact Iff.rfl
  | false => rw [if_neg (fun z => by have := this.mp z; rw [h] at this; cases this)]; exact Iff.rfl
theorem w_digX {v : Nat} (hv : v < 256) (g : GG) (Q : Value → GG → Prop) : wF fX11_isDigit [.int (nI v)] g Q ↔ Q (.int (ik_b2 (sg_dig v))) g := by
  rw [w_digitX]
  have := nI_dig hv
  cases h : sg_dig v with
  | true => rw [if_pos (this.mpr h)]; exact Iff.rfl
  | false => rw [if_neg (fun z => by have := this.mp z; rw [h] at this; cases this)]; exact Iff.rfl
theorem dig_ge {v : Nat} (h : sg_dig v = true) : 48 ≤ v ∧ v ≤ 57 := by
  unfold sg_dig at h
  simpa only [Bool.and_eq_true, decide_eq_true_eq] using h
theorem let_ge {v : Nat} (h : sg_let v = true) : 97 ≤ v ∧ v ≤ 122 := by
  unfold sg_let at h
  simpa only [Bool.and_eq_true, decide_eq_true_eq] using h
theorem dig_sub {v : Nat} (h : 48 ≤ v) : nI v - 48 = nI (v - 48) := by
  show nI v - nI 48 = _
  exact pk_sub (by omega)
theorem let_sub {v : Nat} (h : 97 ≤ v) : nI v - 97 + 1 = nI (v - 96) := by
  show nI v - nI 97 + nI 1 = _
  rw [pk_sub (by omega), nI_add, show v - 97 + 1 = v - 96 by omega]
/-- a token begins (or cannot) -/
theorem w_beginTok {g0 g : GG} {B S p n : Nat} {c : Nat → Nat} {brk : Bool} {fr ln : Nat → Nat} {bg : Nat → Bool} (h26 : g.1 26 0 = nI 144) (h25 : g.1 25 7 = nI S) (hS : S < 6) (hB : B ≤ 4) (hc : c p < 256) (hf : fsX S g0 g) (hx : CX S c n fr ln bg g) (hn : n ≤ 24) (hl : ∀ t, t < n → ln t ≤ 12) :
    (∃ f, ts B (c p) p 0 brk n fr ln bg = .inl f ∧ 1 ≤ f ∧ f ≤ 4 ∧ ∀ Q : Value → GG → Prop, wF fX8_beginToken [.int (nI (c p)), .int (ik_b2 brk), .int (nI B)] g Q ↔ Q (.int (nI f)) g) ∨
    (∃ l, ts B (c p) p 0 brk n fr ln bg = .inr (if sg_let (c p) = true then 1 else 2, brk, n + 1, updN fr n p, updN ln n l, updB bg n brk) ∧ ∃ g', fsX S g0 g' ∧ CX S c (n + 1) (updN fr n p) (updN ln n l) (updB bg n brk) g' ∧ (∀ a, a ≠ 25 → a ≠ 27 → a ≠ 28 → a ≠ 29 → a ≠ 30 → g'.1 a = g.1 a) ∧ g'.1 25 7 = nI S ∧ ∀ Q : Value → GG → Prop, wF fX8_beginToken [.int (nI (c p)), .int (ik_b2 brk), .int (nI B)] g Q ↔ Q (.int 0) g') := by
  obtain ⟨x1, x2⟩ := hx
  have le := w_letX hc g
  have di := w_digX hc g
  by_cases c1 : (sg_let (c p) || sg_dig (c p)) = true
  · by_cases c2 : 24 ≤ n
    · refine Or.inl ⟨4, ?_, by omega, by omega, fun Q => wF_eq (eq_of_wF ?_) Q⟩
      · unfold ts
        rw [if_pos rfl, if_pos c1, if_pos c2]
      · have n24 : n = 24 := by omega
        subst n24
        unfold fX8_beginToken
        cases d1 : sg_let (c p) with
        | true =>
          rw [d1] at le
          simp (decide := true) only [wE_lit, wL_lit, wE_loc, wL_loc, wE_add, wE_sub, wE_mul, wE_and, wE_or, wE_xor, wE_shl, wE_shr, wE_ushr, wE_div, wE_rem, wE_neg, wE_i2b, wE_l2i, wL_i2l, wL_add, wL_mul, wE_fld, wL_fld, wE_arr, wL_arr, wC_cmp, wC_cmp0, wC_cmpL, wC_and, wC_or, wC_not, wC_ite, wL_ite, wA_nil, wA_int, wA_long, wE_call, wL_call, wS_skip, wS_seq, wS_set, wS_setL, wS_inc, wS_if, wS_put, wS_putL, wS_putOp, wS_putOpL, wS_ast, wS_astL, wS_aop, wS_aopL, wS_ret, wS_retL, wS_retV, wS_do, wS_pop, wS_dead, wS_sw, wF_body, Nat.reduceAdd, Nat.zero_add, Bool.not_not, true_and, and_true, if_true, if_false, ↓reduceIte, eq_self, Value.int.injEq, Value.long.injEq, exists_eq_left', ik_b1, ik_b0, ik_bz0, ik_bz3, ik_bz3_1, ik_bz3_0, ik_cmp, ik_cmpL, ik_eI, ik_eL, ik_as, ik_i0, ik_i1, decide_eq_true_eq, decide_eq_false_iff_not, decide_true, decide_false, Bool.not_true, Bool.not_false, reduceCtorEq, forall_const, false_implies, true_implies, implies_true, true_and, and_true, and_self, false_and, and_false, Bool.and_true, Bool.true_and, not_true_eq_false, not_false_eq_true, if_true, if_false, ite_true, ite_false, ik_bz3_0, ik_bz3_1, ik_bz0, exists_eq', le, show ik_b2 true = 1 from rfl, x1]
        | false =>
          rw [d1] at le
          rw [d1, Bool.false_or] at c1
          rw [c1] at di
          simp (decide := true) only [wE_lit, wL_lit, wE_loc, wL_loc, wE_add, wE_sub, wE_mul, wE_and, wE_or, wE_xor, wE_shl, wE_shr, wE_ushr, wE_div, wE_rem, wE_neg, wE_i2b, wE_l2i, wL_i2l, wL_add, wL_mul, wE_fld, wL_fld, wE_arr, wL_arr, wC_cmp, wC_cmp0, wC_cmpL, wC_and, wC_or, wC_not, wC_ite, wL_ite, wA_nil, wA_int, wA_long, wE_call, wL_call, wS_skip, wS_seq, wS_set, wS_setL, wS_inc, wS_if, wS_put, wS_putL, wS_putOp, wS_putOpL, wS_ast, wS_astL, wS_aop, wS_aopL, wS_ret, wS_retL, wS_retV, wS_do, wS_pop, wS_dead, wS_sw, wF_body, Nat.reduceAdd, Nat.zero_add, Bool.not_not, true_and, and_true, if_true, if_false, ↓reduceIte, eq_self, Value.int.injEq, Value.long.injEq, exists_eq_left', ik_b1, ik_b0, ik_bz0, ik_bz3, ik_bz3_1, ik_bz3_0, ik_cmp, ik_cmpL, ik_eI, ik_eL, ik_as, ik_i0, ik_i1, decide_eq_true_eq, decide_eq_false_iff_not, decide_true, decide_false, Bool.not_true, Bool.not_false, reduceCtorEq, forall_const, false_implies, true_implies, implies_true, true_and, and_true, and_self, false_and, and_false, Bool.and_true, Bool.true_and, not_true_eq_false, not_false_eq_true, if_true, if_false, ite_true, ite_false, ik_bz3_0, ik_bz3_1, ik_bz0, exists_eq', le, di, show ik_b2 true = 1 from rfl, show ik_b2 false = 0 from rfl, x1]
    · have ng : (nI n ≥ 24) = False := eq_false (fun z => by
        have z' : nI 24 ≤ nI n := z
        rw [nI_leI (by omega) (by omega)] at z'
        omega)
      by_cases c3 : (sg_dig (c p) && decide (B ≤ c p - 48)) = true
      · refine Or.inl ⟨3, ?_, by omega, by omega, fun Q => wF_eq (eq_of_wF ?_) Q⟩
        · unfold ts
          rw [if_pos rfl, if_pos c1, if_neg c2, if_pos c3]
        · rw [Bool.and_eq_true, decide_eq_true_iff] at c3
          obtain ⟨d1, d2⟩ := c3
          have dg := dig_ge d1
          have nl : sg_let (c p) = false := by
            cases q : sg_let (c p) with
            | false => rfl
            | true => have := let_ge q; omega
          rw [d1] at di
          rw [nl] at le
          have ge : (nI (c p - 48) ≥ nI B) = True := eq_true ((nI_leI (by omega) (by omega)).mpr d2)
          unfold fX8_beginToken
          simp (decide := true) only [wE_lit, wL_lit, wE_loc, wL_loc, wE_add, wE_sub, wE_mul, wE_and, wE_or, wE_xor, wE_shl, wE_shr, wE_ushr, wE_div, wE_rem, wE_neg, wE_i2b, wE_l2i, wL_i2l, wL_add, wL_mul, wE_fld, wL_fld, wE_arr, wL_arr, wC_cmp, wC_cmp0, wC_cmpL, wC_and, wC_or, wC_not, wC_ite, wL_ite, wA_nil, wA_int, wA_long, wE_call, wL_call, wS_skip, wS_seq, wS_set, wS_setL, wS_inc, wS_if, wS_put, wS_putL, wS_putOp, wS_putOpL, wS_ast, wS_astL, wS_aop, wS_aopL, wS_ret, wS_retL, wS_retV, wS_do, wS_pop, wS_dead, wS_sw, wF_body, Nat.reduceAdd, Nat.zero_add, Bool.not_not, true_and, and_true, if_true, if_false, ↓reduceIte, eq_self, Value.int.injEq, Value.long.injEq, exists_eq_left', ik_b1, ik_b0, ik_bz0, ik_bz3, ik_bz3_1, ik_bz3_0, ik_cmp, ik_cmpL, ik_eI, ik_eL, ik_as, ik_i0, ik_i1, decide_eq_true_eq, decide_eq_false_iff_not, decide_true, decide_false, Bool.not_true, Bool.not_false, reduceCtorEq, forall_const, false_implies, true_implies, implies_true, true_and, and_true, and_self, false_and, and_false, Bool.and_true, Bool.true_and, not_true_eq_false, not_false_eq_true, if_true, if_false, ite_true, ite_false, ik_bz3_0, ik_bz3_1, ik_bz0, exists_eq', le, di, show ik_b2 true = 1 from rfl, show ik_b2 false = 0 from rfl, x1, ng, dig_sub dg.1, ge]
      · refine Or.inr ⟨if sg_let (c p) = true then 1 else 0, ?_, ?_⟩
        · unfold ts
          rw [if_pos rfl, if_pos c1, if_neg c2, if_neg c3]
        · obtain ⟨q, hq⟩ : ∃ q, q = 24 * S + n := ⟨_, rfl⟩
          have hq144 : q < 144 := by omega
          have sl := w_slot S n g
          rw [← hq] at sl
          have p1 : (nI q ≥ 0) = True := eq_true (nI_pos' (by omega))
          have p2 : (nI q < 144) = True := eq_true (by rw [show (144 : Int32) = nI 144 from rfl, nI_ltI (by omega) (by omega)]; omega)
          have ix := ik_ix_nI hq144 (by omega)
          have nw : ∀ (g' : GG) (l : Nat), fsX S g0 g' → g'.1 25 8 = nI (n + 1) → (∀ j, j < q → g'.1 28 j = g.1 28 j ∧ g'.1 29 j = g.1 29 j ∧ g'.1 30 j = g.1 30 j) → (∀ j, j < 12 * q → g'.1 27 j = g.1 27 j) → g'.1 29 q = (if sg_dig (c p) = true then nI (c p - 48) else -1) → g'.1 28 q = nI l → (∀ j, j < l → g'.1 27 (12 * q + j) = nI (c (p + j) - 96)) → g'.1 30 q = ik_b2 brk → CX S c (n + 1) (updN fr n p) (updN ln n l) (updB bg n brk) g' := by
            intro g' l e1 e2 r1 r2 e3 e4 e5 e6
            refine ⟨e2, fun t ht => ?_⟩
            by_cases et : t = n
            · subst et
              rw [updN_at, updN_at, updB_at, ← hq]
              exact ⟨e3, e4, e5, e6⟩
            · obtain ⟨y1, y2, y3, y4⟩ := x2 t (by omega)
              obtain ⟨z1, z2, z3⟩ := r1 (24 * S + t) (by omega)
              rw [updN_off et, updN_off et, updB_off et, z1, z2, z3]
              refine ⟨y1, y2, fun j hj => ?_, y4⟩
              have l12 := hl t (by omega)
              rw [r2 _ (by omega)]
              exact y3 j hj
          have asb : (ik_b2 brk = 0 ∨ ik_b2 brk = 1) = True := by cases brk <;> simp [ik_b2]
          cases d1 : sg_let (c p) with
          | true =>
            have nd := let_dig d1
            have lg := let_ge d1
            rw [d1] at le
            rw [nd] at di
            obtain ⟨g1, hg1⟩ : ∃ g1, g1 = ik_si (ik_si (ik_si g 28 q 0) 29 q (-1)) 30 q (ik_b2 brk) := ⟨_, rfl⟩
            have e28 : g1.1 28 q = nI 0 := by rw [hg1, ik_si_row _ _ _ _ _ (by decide), ik_si_row _ _ _ _ _ (by decide)]; exact ik_si_same _ _ _ _
            have e26 : g1.1 26 0 = nI 144 := by rw [hg1, ik_si_row _ _ _ _ _ (by decide), ik_si_row _ _ _ _ _ (by decide), ik_si_row _ _ _ _ _ (by decide)]; exact h26
            have e258 : g1.1 25 8 = nI n := by rw [hg1, ik_si_row _ _ _ _ _ (by decide), ik_si_row _ _ _ _ _ (by decide), ik_si_row _ _ _ _ _ (by decide)]; exact x1
            have gr := w_grow26 e26 hq144 (by omega) e28 (nI (c p - 96))
            obtain ⟨g2, hg2⟩ : ∃ g2, g2 = ik_si (ik_si g1 27 (12 * q + 0) (nI (c p - 96))) 28 q (nI (0 + 1)) := ⟨_, rfl⟩
            rw [← hg2] at gr
            have f258 : g2.1 25 8 = nI n := by rw [hg2, ik_si_row _ _ _ _ _ (by decide), ik_si_row _ _ _ _ _ (by decide)]; exact e258
            have bo : ik_bo 0 (nI n) 1 = some (nI (n + 1)) := by show some (nI n + nI 1) = _; rw [nI_add]
            have fr1 : fsX S g0 g1 := by rw [hg1]; exact ((hf.si _ (by omega)).si _ (by omega)).si _ (by omega)
            have fr2 : fsX S g0 g2 := by rw [hg2]; exact (fr1.si _ (by omega)).si _ (by omega)
            have fr3 : fsX S g0 (ik_si g2 25 8 (nI (n + 1))) := fr2.si _ (by omega)
            refine ⟨ik_si g2 25 8 (nI (n + 1)), fr3, ?_, fun a a1 a2 a3 a4 a5 => ?_, ?_, fun Q => wF_eq (eq_of_wF ?_) Q⟩
            · refine nw _ 1 fr3 (ik_si_same _ _ _ _) (fun j hj => ?_) (fun j hj => ?_) ?_ ?_ (fun j hj => ?_) ?_
              · rw [ik_si_row _ _ _ _ _ (by decide), ik_si_row _ _ _ _ _ (by decide), ik_si_row _ _ _ _ _ (by decide), hg2, ik_si_ne _ _ _ _ _ (by omega), ik_si_row _ _ _ _ _ (by decide), ik_si_row _ 28 29 _ _ (by decide), ik_si_row _ 27 29 _ _ (by decide), ik_si_row _ 28 30 _ _ (by decide), ik_si_row _ 27 30 _ _ (by decide), hg1, ik_si_row _ 30 28 _ _ (by decide), ik_si_row _ 29 28 _ _ (by decide), ik_si_ne _ 28 _ _ _ (by omega), ik_si_row _ 30 29 _ _ (by decide), ik_si_ne _ 29 _ _ _ (by omega), ik_si_row _ 28 29 _ _ (by decide), ik_si_ne _ 30 _ _ _ (by omega), ik_si_row _ 29 30 _ _ (by decide), ik_si_row _ 28 30 _ _ (by decide)]
                exact ⟨rfl, rfl, rfl⟩
              · rw [ik_si_row _ _ _ _ _ (by decide), hg2, ik_si_row _ 28 27 _ _ (by decide), ik_si_ne _ 27 _ _ _ (by omega), hg1, ik_si_row _ _ _ _ _ (by decide), ik_si_row _ _ _ _ _ (by decide), ik_si_row _ _ _ _ _ (by decide)]
              · rw [ik_si_row _ _ _ _ _ (by decide), hg2, ik_si_row _ _ _ _ _ (by decide), ik_si_row _ _ _ _ _ (by decide), hg1, ik_si_row _ _ _ _ _ (by decide), ik_si_same, nd, if_neg (by decide)]
              · rw [ik_si_row _ _ _ _ _ (by decide), hg2]; exact ik_si_same _ _ _ _
              · have j0 : j = 0 := by omega
                subst j0
                rw [ik_si_row _ _ _ _ _ (by decide), hg2, ik_si_row _ 28 27 _ _ (by decide), ik_si_same]
                rfl
              · rw [ik_si_row _ _ _ _ _ (by decide), hg2, ik_si_row _ _ _ _ _ (by decide), ik_si_row _ _ _ _ _ (by decide), hg1]; exact ik_si_same _ _ _ _
            · rw [ik_si_row _ _ _ _ _ a1, hg2, ik_si_row _ _ _ _ _ a3, ik_si_row _ _ _ _ _ a2, hg1, ik_si_row _ _ _ _ _ a5, ik_si_row _ _ _ _ _ a4, ik_si_row _ _ _ _ _ a3]
            · rw [ik_si_ne _ _ _ _ _ (by decide), hg2, ik_si_row _ _ _ _ _ (by decide), ik_si_row _ _ _ _ _ (by decide), hg1, ik_si_row _ _ _ _ _ (by decide), ik_si_row _ _ _ _ _ (by decide), ik_si_row _ _ _ _ _ (by decide)]; exact h25
            · have le' := fun g' => w_letX hc g'
              have di' := fun g' => w_digX hc g'
              simp only [d1, nd] at le' di'
              unfold fX8_beginToken
              simp (decide := true) only [wE_lit, wL_lit, wE_loc, wL_loc, wE_add, wE_sub, wE_mul, wE_and, wE_or, wE_xor, wE_shl, wE_shr, wE_ushr, wE_div, wE_rem, wE_neg, wE_i2b, wE_l2i, wL_i2l, wL_add, wL_mul, wE_fld, wL_fld, wE_arr, wL_arr, wC_cmp, wC_cmp0, wC_cmpL, wC_and, wC_or, wC_not, wC_ite, wL_ite, wA_nil, wA_int, wA_long, wE_call, wL_call, wS_skip, wS_seq, wS_set, wS_setL, wS_inc, wS_if, wS_put, wS_putL, wS_putOp, wS_putOpL, wS_ast, wS_astL, wS_aop, wS_aopL, wS_ret, wS_retL, wS_retV, wS_do, wS_pop, wS_dead, wS_sw, wF_body, Nat.reduceAdd, Nat.zero_add, Bool.not_not, true_and, and_true, if_true, if_false, ↓reduceIte, eq_self, Value.int.injEq, Value.long.injEq, exists_eq_left', ik_b1, ik_b0, ik_bz0, ik_bz3, ik_bz3_1, ik_bz3_0, ik_cmp, ik_cmpL, ik_eI, ik_eL, ik_as, ik_i0, ik_i1, decide_eq_true_eq, decide_eq_false_iff_not, decide_true, decide_false, Bool.not_true, Bool.not_false, reduceCtorEq, forall_const, false_implies, true_implies, implies_true, true_and, and_true, and_self, false_and, and_false, Bool.and_true, Bool.true_and, not_true_eq_false, not_false_eq_true, if_true, if_false, ite_true, ite_false, ik_bz3_0, ik_bz3_1, ik_bz0, exists_eq', wE_ite, le', di', show ik_b2 true = 1 from rfl, show ik_b2 false = 0 from rfl, x1, ng, h25, sl, p1, p2, w_wipe26 h26 hq144, ix, Option.some.injEq, asb, ← hg1, let_sub lg.1, gr, f258, bo, upd_at, upd_off]
          | false =>
            rw [d1, Bool.false_or] at c1
            have dg := dig_ge c1
            rw [d1] at le
            rw [c1] at di
            have lt3 : c p - 48 < B := by
              rw [c1, Bool.true_and, decide_eq_true_iff] at c3
              omega
            have gF : (nI (c p - 48) ≥ nI B) = False := eq_false (fun z => by
              have z' : nI B ≤ nI (c p - 48) := z
              rw [nI_leI (by omega) (by omega)] at z'
              omega)
            obtain ⟨g1, hg1⟩ : ∃ g1, g1 = ik_si (ik_si (ik_si g 28 q 0) 29 q (nI (c p - 48))) 30 q (ik_b2 brk) := ⟨_, rfl⟩
            have e258 : g1.1 25 8 = nI n := by rw [hg1, ik_si_row _ _ _ _ _ (by decide), ik_si_row _ _ _ _ _ (by decide), ik_si_row _ _ _ _ _ (by decide)]; exact x1
            have bo : ik_bo 0 (nI n) 1 = some (nI (n + 1)) := by show some (nI n + nI 1) = _; rw [nI_add]
            have fr1 : fsX S g0 g1 := by rw [hg1]; exact ((hf.si _ (by omega)).si _ (by omega)).si _ (by omega)
            have fr3 : fsX S g0 (ik_si g1 25 8 (nI (n + 1))) := fr1.si _ (by omega)
            refine ⟨ik_si g1 25 8 (nI (n + 1)), fr3, ?_, fun a a1 a2 a3 a4 a5 => ?_, ?_, fun Q => wF_eq (eq_of_wF ?_) Q⟩
            · refine nw _ 0 fr3 (ik_si_same _ _ _ _) (fun j hj => ?_) (fun j hj => ?_) ?_ ?_ (fun j hj => by omega) ?_
              · rw [ik_si_row _ _ _ _ _ (by decide), ik_si_row _ _ _ _ _ (by decide), ik_si_row _ _ _ _ _ (by decide), hg1, ik_si_row _ 30 28 _ _ (by decide), ik_si_row _ 29 28 _ _ (by decide), ik_si_ne _ 28 _ _ _ (by omega), ik_si_row _ 30 29 _ _ (by decide), ik_si_ne _ 29 _ _ _ (by omega), ik_si_row _ 28 29 _ _ (by decide), ik_si_ne _ 30 _ _ _ (by omega), ik_si_row _ 29 30 _ _ (by decide), ik_si_row _ 28 30 _ _ (by decide)]
                exact ⟨rfl, rfl, rfl⟩
              · rw [ik_si_row _ _ _ _ _ (by decide), hg1, ik_si_row _ _ _ _ _ (by decide), ik_si_row _ _ _ _ _ (by decide), ik_si_row _ _ _ _ _ (by decide)]
              · rw [ik_si_row _ _ _ _ _ (by decide), hg1, ik_si_row _ _ _ _ _ (by decide), ik_si_same, if_pos c1]
              · rw [ik_si_row _ _ _ _ _ (by decide), hg1, ik_si_row _ _ _ _ _ (by decide), ik_si_row _ _ _ _ _ (by decide), ik_si_same]; rfl
              · rw [ik_si_row _ _ _ _ _ (by decide), hg1]; exact ik_si_same _ _ _ _
            · rw [ik_si_row _ _ _ _ _ a1, hg1, ik_si_row _ _ _ _ _ a5, ik_si_row _ _ _ _ _ a4, ik_si_row _ _ _ _ _ a3]
            · rw [ik_si_ne _ _ _ _ _ (by decide), hg1, ik_si_row _ _ _ _ _ (by decide), ik_si_row _ _ _ _ _ (by decide), ik_si_row _ _ _ _ _ (by decide)]; exact h25
            · have le' := fun g' => w_letX hc g'
              have di' := fun g' => w_digX hc g'
              simp only [d1, c1] at le' di'
              unfold fX8_beginToken
              simp (decide := true) only [wE_lit, wL_lit, wE_loc, wL_loc, wE_add, wE_sub, wE_mul, wE_and, wE_or, wE_xor, wE_shl, wE_shr, wE_ushr, wE_div, wE_rem, wE_neg, wE_i2b, wE_l2i, wL_i2l, wL_add, wL_mul, wE_fld, wL_fld, wE_arr, wL_arr, wC_cmp, wC_cmp0, wC_cmpL, wC_and, wC_or, wC_not, wC_ite, wL_ite, wA_nil, wA_int, wA_long, wE_call, wL_call, wS_skip, wS_seq, wS_set, wS_setL, wS_inc, wS_if, wS_put, wS_putL, wS_putOp, wS_putOpL, wS_ast, wS_astL, wS_aop, wS_aopL, wS_ret, wS_retL, wS_retV, wS_do, wS_pop, wS_dead, wS_sw, wF_body, Nat.reduceAdd, Nat.zero_add, Bool.not_not, true_and, and_true, if_true, if_false, ↓reduceIte, eq_self, Value.int.injEq, Value.long.injEq, exists_eq_left', ik_b1, ik_b0, ik_bz0, ik_bz3, ik_bz3_1, ik_bz3_0, ik_cmp, ik_cmpL, ik_eI, ik_eL, ik_as, ik_i0, ik_i1, decide_eq_true_eq, decide_eq_false_iff_not, decide_true, decide_false, Bool.not_true, Bool.not_false, reduceCtorEq, forall_const, false_implies, true_implies, implies_true, true_and, and_true, and_self, false_and, and_false, Bool.and_true, Bool.true_and, not_true_eq_false, not_false_eq_true, if_true, if_false, ite_true, ite_false, ik_bz3_0, ik_bz3_1, ik_bz0, exists_eq', wE_ite, le', di', show ik_b2 true = 1 from rfl, show ik_b2 false = 0 from rfl, x1, ng, dig_sub dg.1, gF, h25, sl, p1, p2, w_wipe26 h26 hq144, ix, Option.some.injEq, asb, ← hg1, e258, bo, upd_at, upd_off]
  · refine Or.inl ⟨1, ?_, by omega, by omega, fun Q => wF_eq (eq_of_wF ?_) Q⟩
    · unfold ts
      rw [if_pos rfl, if_neg c1]
    · have nl : sg_let (c p) = false := by
        cases q : sg_let (c p) with
        | false => rfl
        | true => rw [q] at c1; simp at c1
      have nd : sg_dig (c p) = false := by
        cases q : sg_dig (c p) with
        | false => rfl
        | true => rw [q] at c1; simp at c1
      rw [nl] at le
      rw [nd] at di
      unfold fX8_beginToken
      simp (decide := true) only [wE_lit, wL_lit, wE_loc, wL_loc, wE_add, wE_sub, wE_mul, wE_and, wE_or, wE_xor, wE_shl, wE_shr, wE_ushr, wE_div, wE_rem, wE_neg, wE_i2b, wE_l2i, wL_i2l, wL_add, wL_mul, wE_fld, wL_fld, wE_arr, wL_arr, wC_cmp, wC_cmp0, wC_cmpL, wC_and, wC_or, wC_not, wC_ite, wL_ite, wA_nil, wA_int, wA_long, wE_call, wL_call, wS_skip, wS_seq, wS_set, wS_setL, wS_inc, wS_if, wS_put, wS_putL, wS_putOp, wS_putOpL, wS_ast, wS_astL, wS_aop, wS_aopL, wS_ret, wS_retL, wS_retV, wS_do, wS_pop, wS_dead, wS_sw, wF_body, Nat.reduceAdd, Nat.zero_add, Bool.not_not, true_and, and_true, if_true, if_false, ↓reduceIte, eq_self, Value.int.injEq, Value.long.injEq, exists_eq_left', ik_b1, ik_b0, ik_bz0, ik_bz3, ik_bz3_1, ik_bz3_0, ik_cmp, ik_cmpL, ik_eI, ik_eL, ik_as, ik_i0, ik_i1, decide_eq_true_eq, decide_eq_false_iff_not, decide_true, decide_false, Bool.not_true, Bool.not_false, reduceCtorEq, forall_const, false_implies, true_implies, implies_true, true_and, and_true, and_self, false_and, and_false, Bool.and_true, Bool.true_and, not_true_eq_false, not_false_eq_true, if_true, if_false, ite_true, ite_false, ik_bz3_0, ik_bz3_1, ik_bz0, exists_eq', le, di, show ik_b2 false = 0 from rfl]
