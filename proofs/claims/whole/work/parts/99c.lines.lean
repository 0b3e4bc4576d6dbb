/-! what the class makes of the told lines: each asks something of the widths under some bars -/
theorem w_maxJ (a b : Int32) (g : GG) (Q : Value → GG → Prop) : wF fJ9_max_7cf53 [.int a, .int b] g Q ↔ Q (.int (if b ≤ a then a else b)) g := by
  refine wF_eq (eq_of_wF ?_) Q
  unfold fJ9_max_7cf53
  by_cases c : b ≤ a <;> simp (decide := true) only [wE_lit, wL_lit, wE_loc, wL_loc, wE_add, wE_sub, wE_mul, wE_and, wE_or, wE_xor, wE_shl, wE_shr, wE_ushr, wE_div, wE_rem, wE_neg, wE_i2b, wE_l2i, wL_i2l, wL_add, wL_mul, wE_fld, wL_fld, wE_arr, wL_arr, wC_cmp, wC_cmp0, wC_cmpL, wC_and, wC_or, wC_not, wC_ite, wL_ite, wA_nil, wA_int, wA_long, wE_call, wL_call, wS_skip, wS_seq, wS_set, wS_setL, wS_inc, wS_if, wS_put, wS_putL, wS_putOp, wS_putOpL, wS_ast, wS_astL, wS_aop, wS_aopL, wS_ret, wS_retL, wS_retV, wS_do, wS_pop, wS_dead, wS_sw, wF_body, Nat.reduceAdd, Nat.zero_add, Bool.not_not, true_and, and_true, if_true, if_false, ↓reduceIte, eq_self, Value.int.injEq, Value.long.injEq, exists_eq_left', ik_b1, ik_b0, ik_bz0, ik_bz3, ik_bz3_1, ik_bz3_0, ik_cmp, ik_cmpL, ik_eI, ik_eL, ik_as, ik_i0, ik_i1, decide_eq_true_eq, decide_eq_false_iff_not, decide_true, decide_false, Bool.not_true, Bool.not_false, reduceCtorEq, forall_const, false_implies, true_implies, implies_true, true_and, and_true, and_self, false_and, and_false, Bool.and_true, Bool.true_and, not_true_eq_false, not_false_eq_true, if_true, if_false, ite_true, ite_false, ik_bz3_0, ik_bz3_1, ik_bz0, wE_ite, c]
theorem w_minJ (a b : Int32) (g : GG) (Q : Value → GG → Prop) : wF fJ9_min_7cf53 [.int a, .int b] g Q ↔ Q (.int (if a ≤ b then a else b)) g := by
  refine wF_eq (eq_of_wF ?_) Q
  unfold fJ9_min_7cf53
  by_cases c : a ≤ b <;> simp (decide := true) only [wE_lit, wL_lit, wE_loc, wL_loc, wE_add, wE_sub, wE_mul, wE_and, wE_or, wE_xor, wE_shl, wE_shr, wE_ushr, wE_div, wE_rem, wE_neg, wE_i2b, wE_l2i, wL_i2l, wL_add, wL_mul, wE_fld, wL_fld, wE_arr, wL_arr, wC_cmp, wC_cmp0, wC_cmpL, wC_and, wC_or, wC_not, wC_ite, wL_ite, wA_nil, wA_int, wA_long, wE_call, wL_call, wS_skip, wS_seq, wS_set, wS_setL, wS_inc, wS_if, wS_put, wS_putL, wS_putOp, wS_putOpL, wS_ast, wS_astL, wS_aop, wS_aopL, wS_ret, wS_retL, wS_retV, wS_do, wS_pop, wS_dead, wS_sw, wF_body, Nat.reduceAdd, Nat.zero_add, Bool.not_not, true_and, and_true, if_true, if_false, ↓reduceIte, eq_self, Value.int.injEq, Value.long.injEq, exists_eq_left', ik_b1, ik_b0, ik_bz0, ik_bz3, ik_bz3_1, ik_bz3_0, ik_cmp, ik_cmpL, ik_eI, ik_eL, ik_as, ik_i0, ik_i1, decide_eq_true_eq, decide_eq_false_iff_not, decide_true, decide_false, Bool.not_true, Bool.not_false, reduceCtorEq, forall_const, false_implies, true_implies, implies_true, true_and, and_true, and_self, false_and, and_false, Bool.and_true, Bool.true_and, not_true_eq_false, not_false_eq_true, if_true, if_false, ite_true, ite_false, ik_bz3_0, ik_bz3_1, ik_bz0, wE_ite, c]
def lnS (f : Nat → Int32) (w : Nat → Int) : Int := (f 0).toInt * w 0 + (f 1).toInt * w 1 + (f 2).toInt * w 2 + (f 3).toInt * w 3
theorem lnS_congr {f f' : Nat → Int32} {w : Nat → Int} (h : ∀ q, q < 4 → f' q = f q) : lnS f' w = lnS f w := by
  unfold lnS
  rw [h 0 (by decide), h 1 (by decide), h 2 (by decide), h 3 (by decide)]
def lnC (y : GG) (w : Nat → Int) (c : Nat) : Prop := if y.1 52 c = 0 then lnS (fun q => y.1 53 (4 * c + q)) w ≤ (y.1 51 c).toInt else (y.1 51 c).toInt < lnS (fun q => y.1 53 (4 * c + q)) w
def lnK (B : Nat) (y : GG) (k c : Nat) : Prop := (y.1 52 c = 0 ∨ y.1 52 c = 1) ∧ btw (y.1 51 c) 100000 ∧ ∀ q, q < 4 → ∃ z : Nat, z ≤ 24 ∧ y.1 53 (4 * c + q) = nI z ∧ (k < q → z = 0) ∧ (q = k → 1 ≤ z ∧ k < B)
/-- what the class's lines ask together -/
def LNM (B : Nat) (M : Nat → Nat) (y : GG) (A : Nat) (P : (Nat → Int) → Prop) : Prop := (y.1 49 5 = 0 ∨ y.1 49 5 = 1) ∧ (∀ k, k < 4 → M k ≤ A ∧ y.1 50 k = nI (M k) ∧ ∀ j, j < M k → lnK B y k (144 * k + j)) ∧ ∀ w, ((y.1 49 5 = 0 ∧ ∀ k j, k < 4 → j < M k → lnC y w (144 * k + j)) ↔ P w)
def LN (B : Nat) (y : GG) (A : Nat) (P : (Nat → Int) → Prop) : Prop := ∃ M : Nat → Nat, LNM B M y A P
theorem lnC_congr {y g : GG} {w : Nat → Int} {c : Nat} (h51 : g.1 51 c = y.1 51 c) (h52 : g.1 52 c = y.1 52 c) (h53 : ∀ q, q < 4 → g.1 53 (4 * c + q) = y.1 53 (4 * c + q)) : lnC g w c ↔ lnC y w c := by
  unfold lnC
  rw [h51, h52, lnS_congr (f' := fun q => g.1 53 (4 * c + q)) (f := fun q => y.1 53 (4 * c + q)) h53]
theorem lnK_congr {B : Nat} {y g : GG} {k c : Nat} (h51 : g.1 51 c = y.1 51 c) (h52 : g.1 52 c = y.1 52 c) (h53 : ∀ q, q < 4 → g.1 53 (4 * c + q) = y.1 53 (4 * c + q)) (h : lnK B y k c) : lnK B g k c := by
  refine ⟨by rw [h52]; exact h.1, by rw [h51]; exact h.2.1, fun q hq => ?_⟩
  rw [h53 q hq]
  exact h.2.2 q hq
theorem LN.fr {B : Nat} {y g : GG} {A : Nat} {P : (Nat → Int) → Prop} (h : LN B y A P) (h49 : g.1 49 5 = y.1 49 5) (h50 : g.1 50 = y.1 50) (h51 : g.1 51 = y.1 51) (h52 : g.1 52 = y.1 52) (h53 : g.1 53 = y.1 53) : LN B g A P := by
  obtain ⟨M, k1, k2, k3⟩ := h
  refine ⟨M, by rw [h49]; exact k1, fun k hk => ⟨(k2 k hk).1, by rw [h50]; exact (k2 k hk).2.1, fun j hj => lnK_congr (by rw [h51]) (by rw [h52]) (fun q _ => by rw [h53]) ((k2 k hk).2.2 j hj)⟩, fun w => ?_⟩
  rw [h49, ← k3 w]
  constructor
  · exact fun q => ⟨q.1, fun k j hk hj => (lnC_congr (by rw [h51]) (by rw [h52]) (fun q _ => by rw [h53])).mp (q.2 k j hk hj)⟩
  · exact fun q => ⟨q.1, fun k j hk hj => (lnC_congr (by rw [h51]) (by rw [h52]) (fun q _ => by rw [h53])).mpr (q.2 k j hk hj)⟩
theorem LN.mono {B : Nat} {y : GG} {A A' : Nat} {P P' : (Nat → Int) → Prop} (h : LN B y A P) (hA : A ≤ A') (hP : ∀ w, P w ↔ P' w) : LN B y A' P' := by
  obtain ⟨M, k1, k2, k3⟩ := h
  exact ⟨M, k1, fun k hk => ⟨Nat.le_trans (k2 k hk).1 hA, (k2 k hk).2⟩, fun w => (k3 w).trans (hP w)⟩
def eqL (y g : GG) : Prop := (∀ a, a ≠ 49 → a ≠ 50 → a ≠ 51 → a ≠ 52 → a ≠ 53 → a ≠ 54 → g.1 a = y.1 a) ∧ (∀ j, j ≠ 5 → g.1 49 j = y.1 49 j) ∧ g.2 = y.2
theorem eqL.rfl' (y : GG) : eqL y y := ⟨fun _ _ _ _ _ _ _ => rfl, fun _ _ => rfl, rfl⟩
theorem eqL.tr {a b c : GG} (h : eqL a b) (k : eqL b c) : eqL a c := ⟨fun q h0 h1 h2 h3 h4 h5 => (k.1 q h0 h1 h2 h3 h4 h5).trans (h.1 q h0 h1 h2 h3 h4 h5), fun j hj => (k.2.1 j hj).trans (h.2.1 j hj), k.2.2.trans h.2.2⟩
theorem eqL.si {y g : GG} (h : eqL y g) {a j : Nat} (v : Int32) (ha : (a = 49 ∧ j = 5) ∨ a = 50 ∨ a = 51 ∨ a = 52 ∨ a = 53 ∨ a = 54) : eqL y (ik_si g a j v) := by
  refine ⟨fun q h0 h1 h2 h3 h4 h5 => ?_, fun k hk => ?_, h.2.2⟩
  · rw [ik_si_row _ _ _ _ _ (by omega)]; exact h.1 q h0 h1 h2 h3 h4 h5
  · by_cases e : a = 49
    · subst e
      rw [ik_si_ne _ _ _ _ _ (by omega)]; exact h.2.1 k hk
    · rw [ik_si_row _ _ _ _ _ (fun q => e q.symm)]; exact h.2.1 k hk
theorem w_stand {y0 y : GG} (k : Int32) (bg : Bool) (h0 : eqL y0 y) : wF fX5_stand [.int k, .int (ik_b2 bg)] y (fun v g => v = .null ∧ eqL y0 g ∧ (∀ a, a ≠ 54 → g.1 a = y.1 a) ∧ ∀ q, q < 4 → g.1 54 q = (if bg = true then 0 else y.1 54 q) + (if nI q = k then 1 else 0)) := by
  unfold fX5_stand
  simp (decide := true) only [wE_lit, wL_lit, wE_loc, wL_loc, wE_add, wE_sub, wE_mul, wE_and, wE_or, wE_xor, wE_shl, wE_shr, wE_ushr, wE_div, wE_rem, wE_neg, wE_i2b, wE_l2i, wL_i2l, wL_add, wL_mul, wE_fld, wL_fld, wE_arr, wL_arr, wC_cmp, wC_cmp0, wC_cmpL, wC_and, wC_or, wC_not, wC_ite, wL_ite, wA_nil, wA_int, wA_long, wE_call, wL_call, wS_skip, wS_seq, wS_set, wS_setL, wS_inc, wS_if, wS_put, wS_putL, wS_putOp, wS_putOpL, wS_ast, wS_astL, wS_aop, wS_aopL, wS_ret, wS_retL, wS_retV, wS_do, wS_pop, wS_dead, wS_sw, wF_body, Nat.reduceAdd, Nat.zero_add, Bool.not_not, true_and, and_true, if_true, if_false, ↓reduceIte, eq_self, Value.int.injEq, Value.long.injEq, exists_eq_left', ik_b1, ik_b0, ik_bz0, ik_bz3, ik_bz3_1, ik_bz3_0, ik_cmp, ik_cmpL, ik_eI, ik_eL, ik_as, ik_i0, ik_i1, decide_eq_true_eq, decide_eq_false_iff_not, decide_true, decide_false, Bool.not_true, Bool.not_false, reduceCtorEq, forall_const, false_implies, true_implies, implies_true, true_and, and_true, and_self, false_and, and_false, Bool.and_true, Bool.true_and, not_true_eq_false, not_false_eq_true, if_true, if_false, ite_true, ite_false, ik_bz3_0, ik_bz3_1, ik_bz0]
  refine wS_for _ _ (fun q σ => σ.1 3 = nI q ∧ σ.1 1 = k ∧ σ.1 2 = ik_b2 bg ∧ eqL y0 σ.2.2 ∧ (∀ a, a ≠ 54 → σ.2.2.1 a = y.1 a) ∧ (∀ p, p < q → σ.2.2.1 54 p = (if bg = true then 0 else y.1 54 p) + (if nI p = k then 1 else 0)) ∧ ∀ p, q ≤ p → σ.2.2.1 54 p = y.1 54 p) 0 4 _ ⟨by simp [upd, nI_0], by simp [upd, ik_eI], by simp [upd, ik_eI], h0, fun _ _ => rfl, fun p hp => by omega, fun _ _ => rfl⟩ (by omega) (by omega) ?_ ?_ ?_
  · rintro q ⟨s1, s2, s3⟩ h1 ⟨h2, -⟩
    exact wc_L (n := 4) (by omega) h1 h2
  · rintro q ⟨s1, s2, s3⟩ h1 ⟨h2, h3, h4, h5, h6, h7, h8⟩
    simp only at h2 h3 h4 h5 h6 h7 h8
    have ix := ik_ix_nI (show q < 4 by omega) (by omega)
    have r := h8 q (Nat.le_refl _)
    have fin : ∀ v : Int32, v = (if bg = true then 0 else y.1 54 q) + (if nI q = k then 1 else 0) → eqL y0 (ik_si s3 54 q v) ∧ (∀ a, a ≠ 54 → (ik_si s3 54 q v).1 a = y.1 a) ∧ (∀ p, p < q + 1 → (ik_si s3 54 q v).1 54 p = (if bg = true then 0 else y.1 54 p) + (if nI p = k then 1 else 0)) ∧ ∀ p, q + 1 ≤ p → (ik_si s3 54 q v).1 54 p = y.1 54 p := by
      intro v hv
      refine ⟨h5.si v (by omega), fun a ha => ?_, fun p hp => ?_, fun p hp => ?_⟩
      · rw [ik_si_row _ _ _ _ _ ha]; exact h6 a ha
      · by_cases e : p = q
        · subst e; rw [ik_si_same]; exact hv
        · rw [ik_si_ne _ _ _ _ _ e]; exact h7 p (by omega)
      · rw [ik_si_ne _ _ _ _ _ (by omega)]; exact h8 p (by omega)
    cases bg with
    | true =>
      by_cases e : nI q = k
      · have f := fin (0 + 1) (by simp [e])
        have eT := eq_true e
        simp (decide := true) only [wE_lit, wL_lit, wE_loc, wL_loc, wE_add, wE_sub, wE_mul, wE_and, wE_or, wE_xor, wE_shl, wE_shr, wE_ushr, wE_div, wE_rem, wE_neg, wE_i2b, wE_l2i, wL_i2l, wL_add, wL_mul, wE_fld, wL_fld, wE_arr, wL_arr, wC_cmp, wC_cmp0, wC_cmpL, wC_and, wC_or, wC_not, wC_ite, wL_ite, wA_nil, wA_int, wA_long, wE_call, wL_call, wS_skip, wS_seq, wS_set, wS_setL, wS_inc, wS_if, wS_put, wS_putL, wS_putOp, wS_putOpL, wS_ast, wS_astL, wS_aop, wS_aopL, wS_ret, wS_retL, wS_retV, wS_do, wS_pop, wS_dead, wS_sw, wF_body, Nat.reduceAdd, Nat.zero_add, Bool.not_not, true_and, and_true, if_true, if_false, ↓reduceIte, eq_self, Value.int.injEq, Value.long.injEq, exists_eq_left', ik_b1, ik_b0, ik_bz0, ik_bz3, ik_bz3_1, ik_bz3_0, ik_cmp, ik_cmpL, ik_eI, ik_eL, ik_as, ik_i0, ik_i1, decide_eq_true_eq, decide_eq_false_iff_not, decide_true, decide_false, Bool.not_true, Bool.not_false, reduceCtorEq, forall_const, false_implies, true_implies, implies_true, true_and, and_true, and_self, false_and, and_false, Bool.and_true, Bool.true_and, not_true_eq_false, not_false_eq_true, if_true, if_false, ite_true, ite_false, ik_bz3_0, ik_bz3_1, ik_bz0, wE_ite, h2, h3, h4, ix, Option.some.injEq, show ik_b2 true = 1 from rfl, eT, upd_at, upd_off, nI_1, nI_add]
        exact f
      · have f := fin (0 + 0) (by simp [e])
        simp (decide := true) only [wE_lit, wL_lit, wE_loc, wL_loc, wE_add, wE_sub, wE_mul, wE_and, wE_or, wE_xor, wE_shl, wE_shr, wE_ushr, wE_div, wE_rem, wE_neg, wE_i2b, wE_l2i, wL_i2l, wL_add, wL_mul, wE_fld, wL_fld, wE_arr, wL_arr, wC_cmp, wC_cmp0, wC_cmpL, wC_and, wC_or, wC_not, wC_ite, wL_ite, wA_nil, wA_int, wA_long, wE_call, wL_call, wS_skip, wS_seq, wS_set, wS_setL, wS_inc, wS_if, wS_put, wS_putL, wS_putOp, wS_putOpL, wS_ast, wS_astL, wS_aop, wS_aopL, wS_ret, wS_retL, wS_retV, wS_do, wS_pop, wS_dead, wS_sw, wF_body, Nat.reduceAdd, Nat.zero_add, Bool.not_not, true_and, and_true, if_true, if_false, ↓reduceIte, eq_self, Value.int.injEq, Value.long.injEq, exists_eq_left', ik_b1, ik_b0, ik_bz0, ik_bz3, ik_bz3_1, ik_bz3_0, ik_cmp, ik_cmpL, ik_eI, ik_eL, ik_as, ik_i0, ik_i1, decide_eq_true_eq, decide_eq_false_iff_not, decide_true, decide_false, Bool.not_true, Bool.not_false, reduceCtorEq, forall_const, false_implies, true_implies, implies_true, true_and, and_true, and_self, false_and, and_false, Bool.and_true, Bool.true_and, not_true_eq_false, not_false_eq_true, if_true, if_false, ite_true, ite_false, ik_bz3_0, ik_bz3_1, ik_bz0, wE_ite, h2, h3, h4, ix, Option.some.injEq, show ik_b2 true = 1 from rfl, e, upd_at, upd_off, nI_1, nI_add]
        exact f
    | false =>
      by_cases e : nI q = k
      · have f := fin (y.1 54 q + 1) (by simp [e])
        have eT := eq_true e
        simp (decide := true) only [wE_lit, wL_lit, wE_loc, wL_loc, wE_add, wE_sub, wE_mul, wE_and, wE_or, wE_xor, wE_shl, wE_shr, wE_ushr, wE_div, wE_rem, wE_neg, wE_i2b, wE_l2i, wL_i2l, wL_add, wL_mul, wE_fld, wL_fld, wE_arr, wL_arr, wC_cmp, wC_cmp0, wC_cmpL, wC_and, wC_or, wC_not, wC_ite, wL_ite, wA_nil, wA_int, wA_long, wE_call, wL_call, wS_skip, wS_seq, wS_set, wS_setL, wS_inc, wS_if, wS_put, wS_putL, wS_putOp, wS_putOpL, wS_ast, wS_astL, wS_aop, wS_aopL, wS_ret, wS_retL, wS_retV, wS_do, wS_pop, wS_dead, wS_sw, wF_body, Nat.reduceAdd, Nat.zero_add, Bool.not_not, true_and, and_true, if_true, if_false, ↓reduceIte, eq_self, Value.int.injEq, Value.long.injEq, exists_eq_left', ik_b1, ik_b0, ik_bz0, ik_bz3, ik_bz3_1, ik_bz3_0, ik_cmp, ik_cmpL, ik_eI, ik_eL, ik_as, ik_i0, ik_i1, decide_eq_true_eq, decide_eq_false_iff_not, decide_true, decide_false, Bool.not_true, Bool.not_false, reduceCtorEq, forall_const, false_implies, true_implies, implies_true, true_and, and_true, and_self, false_and, and_false, Bool.and_true, Bool.true_and, not_true_eq_false, not_false_eq_true, if_true, if_false, ite_true, ite_false, ik_bz3_0, ik_bz3_1, ik_bz0, wE_ite, h2, h3, h4, ix, Option.some.injEq, show ik_b2 false = 0 from rfl, eT, r, upd_at, upd_off, nI_1, nI_add]
        exact f
      · have f := fin (y.1 54 q + 0) (by simp [e])
        simp (decide := true) only [wE_lit, wL_lit, wE_loc, wL_loc, wE_add, wE_sub, wE_mul, wE_and, wE_or, wE_xor, wE_shl, wE_shr, wE_ushr, wE_div, wE_rem, wE_neg, wE_i2b, wE_l2i, wL_i2l, wL_add, wL_mul, wE_fld, wL_fld, wE_arr, wL_arr, wC_cmp, wC_cmp0, wC_cmpL, wC_and, wC_or, wC_not, wC_ite, wL_ite, wA_nil, wA_int, wA_long, wE_call, wL_call, wS_skip, wS_seq, wS_set, wS_setL, wS_inc, wS_if, wS_put, wS_putL, wS_putOp, wS_putOpL, wS_ast, wS_astL, wS_aop, wS_aopL, wS_ret, wS_retL, wS_retV, wS_do, wS_pop, wS_dead, wS_sw, wF_body, Nat.reduceAdd, Nat.zero_add, Bool.not_not, true_and, and_true, if_true, if_false, ↓reduceIte, eq_self, Value.int.injEq, Value.long.injEq, exists_eq_left', ik_b1, ik_b0, ik_bz0, ik_bz3, ik_bz3_1, ik_bz3_0, ik_cmp, ik_cmpL, ik_eI, ik_eL, ik_as, ik_i0, ik_i1, decide_eq_true_eq, decide_eq_false_iff_not, decide_true, decide_false, Bool.not_true, Bool.not_false, reduceCtorEq, forall_const, false_implies, true_implies, implies_true, true_and, and_true, and_self, false_and, and_false, Bool.and_true, Bool.true_and, not_true_eq_false, not_false_eq_true, if_true, if_false, ite_true, ite_false, ik_bz3_0, ik_bz3_1, ik_bz0, wE_ite, h2, h3, h4, ix, Option.some.injEq, show ik_b2 false = 0 from rfl, e, r, upd_at, upd_off, nI_1, nI_add]
        exact f
  · rintro ⟨s1, s2, s3⟩ ⟨h2, h3, h4, h5, h6, h7, h8⟩
    simp only at h5 h6 h7
    simp (decide := true) only [wE_lit, wL_lit, wE_loc, wL_loc, wE_add, wE_sub, wE_mul, wE_and, wE_or, wE_xor, wE_shl, wE_shr, wE_ushr, wE_div, wE_rem, wE_neg, wE_i2b, wE_l2i, wL_i2l, wL_add, wL_mul, wE_fld, wL_fld, wE_arr, wL_arr, wC_cmp, wC_cmp0, wC_cmpL, wC_and, wC_or, wC_not, wC_ite, wL_ite, wA_nil, wA_int, wA_long, wE_call, wL_call, wS_skip, wS_seq, wS_set, wS_setL, wS_inc, wS_if, wS_put, wS_putL, wS_putOp, wS_putOpL, wS_ast, wS_astL, wS_aop, wS_aopL, wS_ret, wS_retL, wS_retV, wS_do, wS_pop, wS_dead, wS_sw, wF_body, Nat.reduceAdd, Nat.zero_add, Bool.not_not, true_and, and_true, if_true, if_false, ↓reduceIte, eq_self, Value.int.injEq, Value.long.injEq, exists_eq_left', ik_b1, ik_b0, ik_bz0, ik_bz3, ik_bz3_1, ik_bz3_0, ik_cmp, ik_cmpL, ik_eI, ik_eL, ik_as, ik_i0, ik_i1, decide_eq_true_eq, decide_eq_false_iff_not, decide_true, decide_false, Bool.not_true, Bool.not_false, reduceCtorEq, forall_const, false_implies, true_implies, implies_true, true_and, and_true, and_self, false_and, and_false, Bool.and_true, Bool.true_and, not_true_eq_false, not_false_eq_true, if_true, if_false, ite_true, ite_false, ik_bz3_0, ik_bz3_1, ik_bz0]
    exact ⟨h5, h6, h7⟩
def sameB (y : GG) (c : Nat) : Bool := !ik_any (fun q => !decide (y.1 53 (4 * c + q) = y.1 54 q)) 4
theorem sameB_t {y : GG} {c : Nat} (h : sameB y c = true) : ∀ q, q < 4 → y.1 53 (4 * c + q) = y.1 54 q := by
  intro q hq
  apply Classical.byContradiction
  intro n
  have : ik_any (fun q => !decide (y.1 53 (4 * c + q) = y.1 54 q)) 4 = true := ik_any_ex.mpr ⟨q, hq, by simp [n]⟩
  unfold sameB at h
  rw [this] at h
  cases h
theorem w_same {y : GG} {c : Nat} (hc : c < 576) (Q : Value → GG → Prop) : wF fX5_asksOfTheSame [.int (nI c)] y Q ↔ Q (.int (ik_b2 (sameB y c))) y := by
  refine wF_eq (eq_of_wF ?_) Q
  unfold fX5_asksOfTheSame
  simp (decide := true) only [wE_lit, wL_lit, wE_loc, wL_loc, wE_add, wE_sub, wE_mul, wE_and, wE_or, wE_xor, wE_shl, wE_shr, wE_ushr, wE_div, wE_rem, wE_neg, wE_i2b, wE_l2i, wL_i2l, wL_add, wL_mul, wE_fld, wL_fld, wE_arr, wL_arr, wC_cmp, wC_cmp0, wC_cmpL, wC_and, wC_or, wC_not, wC_ite, wL_ite, wA_nil, wA_int, wA_long, wE_call, wL_call, wS_skip, wS_seq, wS_set, wS_setL, wS_inc, wS_if, wS_put, wS_putL, wS_putOp, wS_putOpL, wS_ast, wS_astL, wS_aop, wS_aopL, wS_ret, wS_retL, wS_retV, wS_do, wS_pop, wS_dead, wS_sw, wF_body, Nat.reduceAdd, Nat.zero_add, Bool.not_not, true_and, and_true, if_true, if_false, ↓reduceIte, eq_self, Value.int.injEq, Value.long.injEq, exists_eq_left', ik_b1, ik_b0, ik_bz0, ik_bz3, ik_bz3_1, ik_bz3_0, ik_cmp, ik_cmpL, ik_eI, ik_eL, ik_as, ik_i0, ik_i1, decide_eq_true_eq, decide_eq_false_iff_not, decide_true, decide_false, Bool.not_true, Bool.not_false, reduceCtorEq, forall_const, false_implies, true_implies, implies_true, true_and, and_true, and_self, false_and, and_false, Bool.and_true, Bool.true_and, not_true_eq_false, not_false_eq_true, if_true, if_false, ite_true, ite_false, ik_bz3_0, ik_bz3_1, ik_bz0]
  refine wS_find _ _ (fun q => !decide (y.1 53 (4 * c + q) = y.1 54 q)) 4 2 _ (by omega) (by simp [upd]) ?_ ?_ ?_
  · intro q s1 h1 h2
    exact wc_L (n := 4) (by omega) h1 h2
  · intro q s1 h1 h2 hs hp
    have e1 : s1 1 = nI c := by rw [hs 1 (by decide)]; simp [upd, ik_eI]
    have ix := ik_ix_nI (show 4 * c + q < 2304 by omega) (by omega)
    have ix2 := ik_ix_nI (show q < 4 by omega) (by omega)
    by_cases d : y.1 53 (4 * c + q) = y.1 54 q
    · simp (decide := true) only [wE_lit, wL_lit, wE_loc, wL_loc, wE_add, wE_sub, wE_mul, wE_and, wE_or, wE_xor, wE_shl, wE_shr, wE_ushr, wE_div, wE_rem, wE_neg, wE_i2b, wE_l2i, wL_i2l, wL_add, wL_mul, wE_fld, wL_fld, wE_arr, wL_arr, wC_cmp, wC_cmp0, wC_cmpL, wC_and, wC_or, wC_not, wC_ite, wL_ite, wA_nil, wA_int, wA_long, wE_call, wL_call, wS_skip, wS_seq, wS_set, wS_setL, wS_inc, wS_if, wS_put, wS_putL, wS_putOp, wS_putOpL, wS_ast, wS_astL, wS_aop, wS_aopL, wS_ret, wS_retL, wS_retV, wS_do, wS_pop, wS_dead, wS_sw, wF_body, Nat.reduceAdd, Nat.zero_add, Bool.not_not, true_and, and_true, if_true, if_false, ↓reduceIte, eq_self, Value.int.injEq, Value.long.injEq, exists_eq_left', ik_b1, ik_b0, ik_bz0, ik_bz3, ik_bz3_1, ik_bz3_0, ik_cmp, ik_cmpL, ik_eI, ik_eL, ik_as, ik_i0, ik_i1, decide_eq_true_eq, decide_eq_false_iff_not, decide_true, decide_false, Bool.not_true, Bool.not_false, reduceCtorEq, forall_const, false_implies, true_implies, implies_true, true_and, and_true, and_self, false_and, and_false, Bool.and_true, Bool.true_and, not_true_eq_false, not_false_eq_true, if_true, if_false, ite_true, ite_false, ik_bz3_0, ik_bz3_1, ik_bz0, h2, e1, show (4 : Int32) = nI 4 from rfl, pk_mul, nI_add, show c * 4 + q = 4 * c + q by omega, ix, ix2, Option.some.injEq, d, upd_at, upd_off, nI_1]
      exact fun k hk => upd_off _ _ _ _ hk
    · have : sameB y c = false := by
        unfold sameB
        rw [ik_any_ex.mpr ⟨q, h1, by simp [d]⟩]
        rfl
      simp (decide := true) only [wE_lit, wL_lit, wE_loc, wL_loc, wE_add, wE_sub, wE_mul, wE_and, wE_or, wE_xor, wE_shl, wE_shr, wE_ushr, wE_div, wE_rem, wE_neg, wE_i2b, wE_l2i, wL_i2l, wL_add, wL_mul, wE_fld, wL_fld, wE_arr, wL_arr, wC_cmp, wC_cmp0, wC_cmpL, wC_and, wC_or, wC_not, wC_ite, wL_ite, wA_nil, wA_int, wA_long, wE_call, wL_call, wS_skip, wS_seq, wS_set, wS_setL, wS_inc, wS_if, wS_put, wS_putL, wS_putOp, wS_putOpL, wS_ast, wS_astL, wS_aop, wS_aopL, wS_ret, wS_retL, wS_retV, wS_do, wS_pop, wS_dead, wS_sw, wF_body, Nat.reduceAdd, Nat.zero_add, Bool.not_not, true_and, and_true, if_true, if_false, ↓reduceIte, eq_self, Value.int.injEq, Value.long.injEq, exists_eq_left', ik_b1, ik_b0, ik_bz0, ik_bz3, ik_bz3_1, ik_bz3_0, ik_cmp, ik_cmpL, ik_eI, ik_eL, ik_as, ik_i0, ik_i1, decide_eq_true_eq, decide_eq_false_iff_not, decide_true, decide_false, Bool.not_true, Bool.not_false, reduceCtorEq, forall_const, false_implies, true_implies, implies_true, true_and, and_true, and_self, false_and, and_false, Bool.and_true, Bool.true_and, not_true_eq_false, not_false_eq_true, if_true, if_false, ite_true, ite_false, ik_bz3_0, ik_bz3_1, ik_bz0, h2, e1, show (4 : Int32) = nI 4 from rfl, pk_mul, nI_add, show c * 4 + q = 4 * c + q by omega, ix, ix2, Option.some.injEq, d, this, show ik_b2 false = 0 from rfl]
  · intro s1 h1 hs hp
    have : sameB y c = true := by
      unfold sameB
      rw [ik_any_no hp]
      rfl
    simp (decide := true) only [wE_lit, wL_lit, wE_loc, wL_loc, wE_add, wE_sub, wE_mul, wE_and, wE_or, wE_xor, wE_shl, wE_shr, wE_ushr, wE_div, wE_rem, wE_neg, wE_i2b, wE_l2i, wL_i2l, wL_add, wL_mul, wE_fld, wL_fld, wE_arr, wL_arr, wC_cmp, wC_cmp0, wC_cmpL, wC_and, wC_or, wC_not, wC_ite, wL_ite, wA_nil, wA_int, wA_long, wE_call, wL_call, wS_skip, wS_seq, wS_set, wS_setL, wS_inc, wS_if, wS_put, wS_putL, wS_putOp, wS_putOpL, wS_ast, wS_astL, wS_aop, wS_aopL, wS_ret, wS_retL, wS_retV, wS_do, wS_pop, wS_dead, wS_sw, wF_body, Nat.reduceAdd, Nat.zero_add, Bool.not_not, true_and, and_true, if_true, if_false, ↓reduceIte, eq_self, Value.int.injEq, Value.long.injEq, exists_eq_left', ik_b1, ik_b0, ik_bz0, ik_bz3, ik_bz3_1, ik_bz3_0, ik_cmp, ik_cmpL, ik_eI, ik_eL, ik_as, ik_i0, ik_i1, decide_eq_true_eq, decide_eq_false_iff_not, decide_true, decide_false, Bool.not_true, Bool.not_false, reduceCtorEq, forall_const, false_implies, true_implies, implies_true, true_and, and_true, and_self, false_and, and_false, Bool.and_true, Bool.true_and, not_true_eq_false, not_false_eq_true, if_true, if_false, ite_true, ite_false, ik_bz3_0, ik_bz3_1, ik_bz0, this, show ik_b2 true = 1 from rfl]
theorem w_put5 {y : GG} {c : Nat} (hc : c < 576) (rest : Int32) (must : Bool) : wF fX5_put [.int (nI c), .int rest, .int (ik_b2 must)] y (fun v g => v = .null ∧ eqL y g ∧ g.1 49 = y.1 49 ∧ g.1 50 = y.1 50 ∧ g.1 54 = y.1 54 ∧ g.1 51 c = rest ∧ g.1 52 c = ik_b2 must ∧ (∀ j, j ≠ c → g.1 51 j = y.1 51 j ∧ g.1 52 j = y.1 52 j) ∧ (∀ q, q < 4 → g.1 53 (4 * c + q) = y.1 54 q) ∧ ∀ j, j < 4 * c ∨ 4 * c + 4 ≤ j → g.1 53 j = y.1 53 j) := by
  unfold fX5_put
  have ix := ik_ix_nI hc (by omega)
  have as3 : (ik_b2 must = 0 ∨ ik_b2 must = 1) = True := by cases must <;> simp [ik_b2]
  simp (decide := true) only [wE_lit, wL_lit, wE_loc, wL_loc, wE_add, wE_sub, wE_mul, wE_and, wE_or, wE_xor, wE_shl, wE_shr, wE_ushr, wE_div, wE_rem, wE_neg, wE_i2b, wE_l2i, wL_i2l, wL_add, wL_mul, wE_fld, wL_fld, wE_arr, wL_arr, wC_cmp, wC_cmp0, wC_cmpL, wC_and, wC_or, wC_not, wC_ite, wL_ite, wA_nil, wA_int, wA_long, wE_call, wL_call, wS_skip, wS_seq, wS_set, wS_setL, wS_inc, wS_if, wS_put, wS_putL, wS_putOp, wS_putOpL, wS_ast, wS_astL, wS_aop, wS_aopL, wS_ret, wS_retL, wS_retV, wS_do, wS_pop, wS_dead, wS_sw, wF_body, Nat.reduceAdd, Nat.zero_add, Bool.not_not, true_and, and_true, if_true, if_false, ↓reduceIte, eq_self, Value.int.injEq, Value.long.injEq, exists_eq_left', ik_b1, ik_b0, ik_bz0, ik_bz3, ik_bz3_1, ik_bz3_0, ik_cmp, ik_cmpL, ik_eI, ik_eL, ik_as, ik_i0, ik_i1, decide_eq_true_eq, decide_eq_false_iff_not, decide_true, decide_false, Bool.not_true, Bool.not_false, reduceCtorEq, forall_const, false_implies, true_implies, implies_true, true_and, and_true, and_self, false_and, and_false, Bool.and_true, Bool.true_and, not_true_eq_false, not_false_eq_true, if_true, if_false, ite_true, ite_false, ik_bz3_0, ik_bz3_1, ik_bz0, ix, Option.some.injEq, as3]
  refine wS_for _ _ (fun q σ => σ.1 4 = nI q ∧ σ.1 1 = nI c ∧ eqL y σ.2.2 ∧ σ.2.2.1 49 = y.1 49 ∧ σ.2.2.1 50 = y.1 50 ∧ σ.2.2.1 54 = y.1 54 ∧ σ.2.2.1 51 c = rest ∧ σ.2.2.1 52 c = ik_b2 must ∧ (∀ j, j ≠ c → σ.2.2.1 51 j = y.1 51 j ∧ σ.2.2.1 52 j = y.1 52 j) ∧ (∀ p, p < q → σ.2.2.1 53 (4 * c + p) = y.1 54 p) ∧ ∀ j, j < 4 * c ∨ 4 * c + 4 ≤ j → σ.2.2.1 53 j = y.1 53 j) 0 4 _ ?_ (by omega) (by omega) ?_ ?_ ?_
  · refine ⟨by simp [upd, nI_0], by simp [upd, ik_eI], ((eqL.rfl' y).si _ (by omega)).si _ (by omega), ?_, ?_, ?_, ?_, ?_, ?_, fun p hp => by omega, ?_⟩
    · rw [ik_si_row _ _ _ _ _ (by decide), ik_si_row _ _ _ _ _ (by decide)]
    · rw [ik_si_row _ _ _ _ _ (by decide), ik_si_row _ _ _ _ _ (by decide)]
    · rw [ik_si_row _ _ _ _ _ (by decide), ik_si_row _ _ _ _ _ (by decide)]
    · rw [ik_si_row _ _ _ _ _ (by decide)]
      exact ik_si_same _ _ _ _
    · exact ik_si_same _ _ _ _
    · intro j hj
      rw [ik_si_row _ 52 51 _ _ (by decide), ik_si_ne _ 51 _ _ _ hj, ik_si_ne _ 52 _ _ _ hj, ik_si_row _ 51 52 _ _ (by decide)]
      exact ⟨rfl, rfl⟩
    · intro j hj
      rw [ik_si_row _ _ _ _ _ (by decide), ik_si_row _ _ _ _ _ (by decide)]
  · rintro q ⟨s1, s2, s3⟩ h1 ⟨h2, -⟩
    exact wc_L (n := 4) (by omega) h1 h2
  · rintro q ⟨s1, s2, s3⟩ h1 ⟨h2, h3, h4, h5, h6, h7, h8, h9, h10, h11, h12⟩
    simp only at h2 h3 h4 h5 h6 h7 h8 h9 h10 h11 h12
    have ix1 := ik_ix_nI (show 4 * c + q < 2304 by omega) (by omega)
    have ix2 := ik_ix_nI (show q < 4 by omega) (by omega)
    simp (decide := true) only [wE_lit, wL_lit, wE_loc, wL_loc, wE_add, wE_sub, wE_mul, wE_and, wE_or, wE_xor, wE_shl, wE_shr, wE_ushr, wE_div, wE_rem, wE_neg, wE_i2b, wE_l2i, wL_i2l, wL_add, wL_mul, wE_fld, wL_fld, wE_arr, wL_arr, wC_cmp, wC_cmp0, wC_cmpL, wC_and, wC_or, wC_not, wC_ite, wL_ite, wA_nil, wA_int, wA_long, wE_call, wL_call, wS_skip, wS_seq, wS_set, wS_setL, wS_inc, wS_if, wS_put, wS_putL, wS_putOp, wS_putOpL, wS_ast, wS_astL, wS_aop, wS_aopL, wS_ret, wS_retL, wS_retV, wS_do, wS_pop, wS_dead, wS_sw, wF_body, Nat.reduceAdd, Nat.zero_add, Bool.not_not, true_and, and_true, if_true, if_false, ↓reduceIte, eq_self, Value.int.injEq, Value.long.injEq, exists_eq_left', ik_b1, ik_b0, ik_bz0, ik_bz3, ik_bz3_1, ik_bz3_0, ik_cmp, ik_cmpL, ik_eI, ik_eL, ik_as, ik_i0, ik_i1, decide_eq_true_eq, decide_eq_false_iff_not, decide_true, decide_false, Bool.not_true, Bool.not_false, reduceCtorEq, forall_const, false_implies, true_implies, implies_true, true_and, and_true, and_self, false_and, and_false, Bool.and_true, Bool.true_and, not_true_eq_false, not_false_eq_true, if_true, if_false, ite_true, ite_false, ik_bz3_0, ik_bz3_1, ik_bz0, h2, h3, show (4 : Int32) = nI 4 from rfl, pk_mul, nI_add, show c * 4 + q = 4 * c + q by omega, ix1, ix2, Option.some.injEq, h7, upd_at, upd_off, nI_1]
    refine ⟨h4.si _ (by omega), ?_, ?_, ?_, ?_, ?_, ?_, fun p hp => ?_, fun j hj => ?_⟩
    · rw [ik_si_row _ _ _ _ _ (by decide)]; exact h5
    · rw [ik_si_row _ _ _ _ _ (by decide)]; exact h6
    · rw [ik_si_row _ _ _ _ _ (by decide)]; exact h7
    · rw [ik_si_row _ _ _ _ _ (by decide)]; exact h8
    · rw [ik_si_row _ _ _ _ _ (by decide)]; exact h9
    · intro j hj
      rw [ik_si_row _ _ _ _ _ (by decide), ik_si_row _ _ _ _ _ (by decide)]; exact h10 j hj
    · by_cases e : p = q
      · subst e; exact ik_si_same _ _ _ _
      · rw [ik_si_ne _ _ _ _ _ (by omega)]; exact h11 p (by omega)
    · rw [ik_si_ne _ _ _ _ _ (by omega)]; exact h12 j hj
  · rintro ⟨s1, s2, s3⟩ ⟨h2, h3, h4, h5, h6, h7, h8, h9, h10, h11, h12⟩
    simp only at h4 h5 h6 h7 h8 h9 h10 h11 h12
    simp (decide := true) only [wE_lit, wL_lit, wE_loc, wL_loc, wE_add, wE_sub, wE_mul, wE_and, wE_or, wE_xor, wE_shl, wE_shr, wE_ushr, wE_div, wE_rem, wE_neg, wE_i2b, wE_l2i, wL_i2l, wL_add, wL_mul, wE_fld, wL_fld, wE_arr, wL_arr, wC_cmp, wC_cmp0, wC_cmpL, wC_and, wC_or, wC_not, wC_ite, wL_ite, wA_nil, wA_int, wA_long, wE_call, wL_call, wS_skip, wS_seq, wS_set, wS_setL, wS_inc, wS_if, wS_put, wS_putL, wS_putOp, wS_putOpL, wS_ast, wS_astL, wS_aop, wS_aopL, wS_ret, wS_retL, wS_retV, wS_do, wS_pop, wS_dead, wS_sw, wF_body, Nat.reduceAdd, Nat.zero_add, Bool.not_not, true_and, and_true, if_true, if_false, ↓reduceIte, eq_self, Value.int.injEq, Value.long.injEq, exists_eq_left', ik_b1, ik_b0, ik_bz0, ik_bz3, ik_bz3_1, ik_bz3_0, ik_cmp, ik_cmpL, ik_eI, ik_eL, ik_as, ik_i0, ik_i1, decide_eq_true_eq, decide_eq_false_iff_not, decide_true, decide_false, Bool.not_true, Bool.not_false, reduceCtorEq, forall_const, false_implies, true_implies, implies_true, true_and, and_true, and_self, false_and, and_false, Bool.and_true, Bool.true_and, not_true_eq_false, not_false_eq_true, if_true, if_false, ite_true, ite_false, ik_bz3_0, ik_bz3_1, ik_bz0]
    exact ⟨h4, h5, h6, h7, h8, h9, h10, h11, h12⟩
