/-! the reference's reader of rules: its state, its smallest methods -/
def stk (f : Nat → Int32) : List Nat → Prop
  | [] => True
  | v :: r => (f r.length = nI v ∧ v < 256) ∧ stk f r
theorem stk_upd {f : Nat → Int32} {n : Nat} {v : Int32} : ∀ {st : List Nat}, stk f st → st.length ≤ n → stk (upd f n v) st
  | [], _, _ => trivial
  | w :: r, h, hl => by
    have hl' : r.length + 1 ≤ n := hl
    refine ⟨⟨?_, h.1.2⟩, stk_upd h.2 (by omega)⟩
    rw [upd_off _ _ _ _ (by omega)]
    exact h.1.1
def frM (g0 g : GG) : Prop := (∀ a, a ≠ 0 → a ≠ 30 → a ≠ 31 → a ≠ 32 → g.1 a = g0.1 a) ∧ (∀ j, j ≠ 30 → j ≠ 32 → j ≠ 47 → j ≠ 48 → j ≠ 49 → j ≠ 50 → j ≠ 51 → g.1 0 j = g0.1 0 j) ∧ g.2 = g0.2
def txM (c : Nat → Nat) (N : Nat) (g0 : GG) : Prop := g0.1 0 31 = nI N ∧ N ≤ 160 ∧ (∀ k, N ≤ k → c k = 0) ∧ ∀ k, k < N → c k < 256 ∧ g0.1 1 k = ik_by (c k)
def cdM (g : GG) (cs : RC) : Prop := ∀ k o, cs[k]? = some o → g.1 30 k = nI o.1 ∧ g.1 31 k = nI o.2
/-- at place p, with this stack and these codes; so many are open; over, behind a ] -/
def atM (g0 g : GG) (p : Nat) (st : List Nat) (cs : RC) (o : Nat) (ob : Bool) (bh : Int32) : Prop := frM g0 g ∧ g.1 0 30 = nI p ∧ g.1 0 32 = 0 ∧ g.1 0 47 = nI cs.length ∧ g.1 0 48 = nI o ∧ g.1 0 49 = nI st.length ∧ g.1 0 50 = ik_b2 ob ∧ g.1 0 51 = bh ∧ stk (g.1 32) st ∧ cdM g cs
def flM (g0 g : GG) (e q : Nat) : Prop := frM g0 g ∧ g.1 0 32 = -(nI (1000 * e + q)) ∧ (1 ≤ e ∧ e ≤ 5) ∧ q ≤ 160
theorem frM.si0 {g0 g : GG} (h : frM g0 g) {j : Nat} (hj : j = 30 ∨ j = 32 ∨ j = 47 ∨ j = 48 ∨ j = 49 ∨ j = 50 ∨ j = 51) (v : Int32) : frM g0 (ik_si g 0 j v) := by
  refine ⟨fun a h0 h1 h2 h3 => ?_, fun k h1 h2 h3 h4 h5 h6 h7 => ?_, h.2.2⟩
  · rw [ik_si_row _ _ _ _ _ h0]; exact h.1 a h0 h1 h2 h3
  · rw [ik_si_ne _ _ _ _ _ (by omega)]; exact h.2.1 k h1 h2 h3 h4 h5 h6 h7
theorem frM.siR {g0 g : GG} (h : frM g0 g) {a : Nat} (ha : a = 30 ∨ a = 31 ∨ a = 32) (j : Nat) (v : Int32) : frM g0 (ik_si g a j v) := by
  refine ⟨fun b h0 h1 h2 h3 => ?_, fun k h1 h2 h3 h4 h5 h6 h7 => ?_, h.2.2⟩
  · rw [ik_si_row _ _ _ _ _ (by omega)]; exact h.1 b h0 h1 h2 h3
  · rw [ik_si_row _ _ _ _ _ (by omega)]; exact h.2.1 k h1 h2 h3 h4 h5 h6 h7
theorem nI_negne {k : Nat} (h0 : 0 < k) (hk : k < 2 ^ 30) : ¬ -(nI k) = 0 ∧ -(nI k) < 0 := by
  have e : (-(nI k)).toInt = -(k : Int) := by
    rw [Int32.toInt_neg, nI_toInt (by omega)]
    apply Int.bmod_eq_of_le <;> omega
  have z : (0 : Int32).toInt = 0 := rfl
  rw [← Int32.toInt_inj, Int32.lt_iff_toInt_lt, e, z]
  omega
theorem nI_bad (e q : Nat) : (-1000 : Int32) * nI e - nI q = -(nI (1000 * e + q)) := by
  rw [← nI_add, ← pk_mul, show (-1000 : Int32) = -(nI 1000) from rfl, Int32.neg_mul, Int32.neg_add, Int32.sub_eq_add_neg]
theorem w_hereM {c : Nat → Nat} {N p : Nat} {g0 g : GG} (ht : txM c N g0) (hf : frM g0 g) (hg : g.1 0 30 = nI p) (hp : p < 2 ^ 31) (Q : Value → GG → Prop) : wF fX12_here [] g Q ↔ Q (.int (nI (c p))) g := by
  refine wF_eq (eq_of_wF ?_) Q
  obtain ⟨t1, t2, hz, t4⟩ := ht
  have e31 : g.1 0 31 = nI N := by rw [hf.2.1 31 (by decide) (by decide) (by decide) (by decide) (by decide) (by decide) (by decide)]; exact t1
  have e1 : g.1 1 = g0.1 1 := hf.1 1 (by decide) (by decide) (by decide) (by decide)
  have l : (nI p < nI N) ↔ p < N := nI_ltI hp (by omega)
  unfold fX12_here
  by_cases h : p < N
  · obtain ⟨b1, b2⟩ := t4 p h
    simp (decide := true) only [wE_lit, wL_lit, wE_loc, wL_loc, wE_add, wE_sub, wE_mul, wE_and, wE_or, wE_xor, wE_shl, wE_shr, wE_ushr, wE_div, wE_rem, wE_neg, wE_i2b, wE_l2i, wL_i2l, wL_add, wL_mul, wE_fld, wL_fld, wE_arr, wL_arr, wC_cmp, wC_cmp0, wC_cmpL, wC_and, wC_or, wC_not, wC_ite, wL_ite, wA_nil, wA_int, wA_long, wE_call, wL_call, wS_skip, wS_seq, wS_set, wS_setL, wS_inc, wS_if, wS_put, wS_putL, wS_putOp, wS_putOpL, wS_ast, wS_astL, wS_aop, wS_aopL, wS_ret, wS_retL, wS_retV, wS_do, wS_pop, wS_dead, wS_sw, wF_body, Nat.reduceAdd, Nat.zero_add, Bool.not_not, true_and, and_true, if_true, if_false, ↓reduceIte, eq_self, Value.int.injEq, Value.long.injEq, exists_eq_left', ik_b1, ik_b0, ik_bz0, ik_bz3, ik_bz3_1, ik_bz3_0, ik_cmp, ik_cmpL, ik_eI, ik_eL, ik_as, ik_i0, ik_i1, decide_eq_true_eq, decide_eq_false_iff_not, decide_true, decide_false, Bool.not_true, Bool.not_false, reduceCtorEq, forall_const, false_implies, true_implies, implies_true, true_and, and_true, and_self, false_and, and_false, Bool.and_true, Bool.true_and, not_true_eq_false, not_false_eq_true, if_true, if_false, ite_true, ite_false, ik_bz3_0, ik_bz3_1, ik_bz0, wE_ite, hg, e31, l, h, ik_ix_nI (show p < 400 by omega) (by omega), Option.some.injEq, e1, b2, ik_by_and ⟨c p, b1⟩]
  · simp (decide := true) only [wE_lit, wL_lit, wE_loc, wL_loc, wE_add, wE_sub, wE_mul, wE_and, wE_or, wE_xor, wE_shl, wE_shr, wE_ushr, wE_div, wE_rem, wE_neg, wE_i2b, wE_l2i, wL_i2l, wL_add, wL_mul, wE_fld, wL_fld, wE_arr, wL_arr, wC_cmp, wC_cmp0, wC_cmpL, wC_and, wC_or, wC_not, wC_ite, wL_ite, wA_nil, wA_int, wA_long, wE_call, wL_call, wS_skip, wS_seq, wS_set, wS_setL, wS_inc, wS_if, wS_put, wS_putL, wS_putOp, wS_putOpL, wS_ast, wS_astL, wS_aop, wS_aopL, wS_ret, wS_retL, wS_retV, wS_do, wS_pop, wS_dead, wS_sw, wF_body, Nat.reduceAdd, Nat.zero_add, Bool.not_not, true_and, and_true, if_true, if_false, ↓reduceIte, eq_self, Value.int.injEq, Value.long.injEq, exists_eq_left', ik_b1, ik_b0, ik_bz0, ik_bz3, ik_bz3_1, ik_bz3_0, ik_cmp, ik_cmpL, ik_eI, ik_eL, ik_as, ik_i0, ik_i1, decide_eq_true_eq, decide_eq_false_iff_not, decide_true, decide_false, Bool.not_true, Bool.not_false, reduceCtorEq, forall_const, false_implies, true_implies, implies_true, true_and, and_true, and_self, false_and, and_false, Bool.and_true, Bool.true_and, not_true_eq_false, not_false_eq_true, if_true, if_false, ite_true, ite_false, ik_bz3_0, ik_bz3_1, ik_bz0, wE_ite, hg, e31, l, h, hz p (by omega), nI_0]
theorem w_good (g : GG) (Q : Value → GG → Prop) : wF fX12_isGood [] g Q ↔ Q (.int (if g.1 0 32 = 0 then 1 else 0)) g := by
  refine wF_eq (eq_of_wF ?_) Q
  unfold fX12_isGood
  simp (decide := true) only [wE_lit, wL_lit, wE_loc, wL_loc, wE_add, wE_sub, wE_mul, wE_and, wE_or, wE_xor, wE_shl, wE_shr, wE_ushr, wE_div, wE_rem, wE_neg, wE_i2b, wE_l2i, wL_i2l, wL_add, wL_mul, wE_fld, wL_fld, wE_arr, wL_arr, wC_cmp, wC_cmp0, wC_cmpL, wC_and, wC_or, wC_not, wC_ite, wL_ite, wA_nil, wA_int, wA_long, wE_call, wL_call, wS_skip, wS_seq, wS_set, wS_setL, wS_inc, wS_if, wS_put, wS_putL, wS_putOp, wS_putOpL, wS_ast, wS_astL, wS_aop, wS_aopL, wS_ret, wS_retL, wS_retV, wS_do, wS_pop, wS_dead, wS_sw, wF_body, Nat.reduceAdd, Nat.zero_add, Bool.not_not, true_and, and_true, if_true, if_false, ↓reduceIte, eq_self, Value.int.injEq, Value.long.injEq, exists_eq_left', ik_b1, ik_b0, ik_bz0, ik_bz3, ik_bz3_1, ik_bz3_0, ik_cmp, ik_cmpL, ik_eI, ik_eL, ik_as, ik_i0, ik_i1, decide_eq_true_eq, decide_eq_false_iff_not, decide_true, decide_false, Bool.not_true, Bool.not_false, reduceCtorEq, forall_const, false_implies, true_implies, implies_true, true_and, and_true, and_self, false_and, and_false, Bool.and_true, Bool.true_and, not_true_eq_false, not_false_eq_true, if_true, if_false, ite_true, ite_false, ik_bz3_0, ik_bz3_1, ik_bz0, wE_ite2]
theorem w_wrongs {g : GG} {e p : Nat} (h : g.1 0 32 = 0) (Q : Value → GG → Prop) {v : Int32} (hv : v = nI e) : wF fX12_wrongs [.int v, .int (nI p)] g Q ↔ Q .null (ik_si g 0 32 (-(nI (1000 * e + p)))) := by
  subst hv
  refine wF_eq (eq_of_wF ?_) Q
  unfold fX12_wrongs
  simp (decide := true) only [wE_lit, wL_lit, wE_loc, wL_loc, wE_add, wE_sub, wE_mul, wE_and, wE_or, wE_xor, wE_shl, wE_shr, wE_ushr, wE_div, wE_rem, wE_neg, wE_i2b, wE_l2i, wL_i2l, wL_add, wL_mul, wE_fld, wL_fld, wE_arr, wL_arr, wC_cmp, wC_cmp0, wC_cmpL, wC_and, wC_or, wC_not, wC_ite, wL_ite, wA_nil, wA_int, wA_long, wE_call, wL_call, wS_skip, wS_seq, wS_set, wS_setL, wS_inc, wS_if, wS_put, wS_putL, wS_putOp, wS_putOpL, wS_ast, wS_astL, wS_aop, wS_aopL, wS_ret, wS_retL, wS_retV, wS_do, wS_pop, wS_dead, wS_sw, wF_body, Nat.reduceAdd, Nat.zero_add, Bool.not_not, true_and, and_true, if_true, if_false, ↓reduceIte, eq_self, Value.int.injEq, Value.long.injEq, exists_eq_left', ik_b1, ik_b0, ik_bz0, ik_bz3, ik_bz3_1, ik_bz3_0, ik_cmp, ik_cmpL, ik_eI, ik_eL, ik_as, ik_i0, ik_i1, decide_eq_true_eq, decide_eq_false_iff_not, decide_true, decide_false, Bool.not_true, Bool.not_false, reduceCtorEq, forall_const, false_implies, true_implies, implies_true, true_and, and_true, and_self, false_and, and_false, Bool.and_true, Bool.true_and, not_true_eq_false, not_false_eq_true, if_true, if_false, ite_true, ite_false, ik_bz3_0, ik_bz3_1, ik_bz0, wE_ite, h, nI_bad]
theorem atM.bad {g0 g : GG} {p : Nat} {st : List Nat} {cs : RC} {o : Nat} {ob : Bool} {bh : Int32} (h : atM g0 g p st cs o ob bh) {e q : Nat} (he : 1 ≤ e ∧ e ≤ 5) (hq : q ≤ 160) : flM g0 (ik_si g 0 32 (-(nI (1000 * e + q)))) e q := ⟨h.1.si0 (by omega) _, ik_si_same _ _ _ _, he, hq⟩
theorem flM.n0 {g0 g : GG} {e q : Nat} (h : flM g0 g e q) : ¬ g.1 0 32 = 0 ∧ g.1 0 32 < 0 := by
  rw [h.2.1]
  exact nI_negne (by have := h.2.2.1; omega) (by have := h.2.2.1; have := h.2.2.2; omega)
theorem w_topM {g0 g : GG} {p : Nat} {st : List Nat} {cs : RC} {o : Nat} {ob : Bool} {bh : Int32} (h : atM g0 g p st cs o ob bh) (hl : st.length ≤ 200) (Q : Value → GG → Prop) : wF fX12_top [] g Q ↔ Q (.int (nI (top1 st))) g := by
  refine wF_eq (eq_of_wF ?_) Q
  obtain ⟨hf, h1, h2, h3, h4, h5, h6, h7, h8, h9⟩ := h
  unfold fX12_top
  cases st with
  | nil =>
    have h5' : g.1 0 49 = nI 0 := h5
    simp (decide := true) only [wE_lit, wL_lit, wE_loc, wL_loc, wE_add, wE_sub, wE_mul, wE_and, wE_or, wE_xor, wE_shl, wE_shr, wE_ushr, wE_div, wE_rem, wE_neg, wE_i2b, wE_l2i, wL_i2l, wL_add, wL_mul, wE_fld, wL_fld, wE_arr, wL_arr, wC_cmp, wC_cmp0, wC_cmpL, wC_and, wC_or, wC_not, wC_ite, wL_ite, wA_nil, wA_int, wA_long, wE_call, wL_call, wS_skip, wS_seq, wS_set, wS_setL, wS_inc, wS_if, wS_put, wS_putL, wS_putOp, wS_putOpL, wS_ast, wS_astL, wS_aop, wS_aopL, wS_ret, wS_retL, wS_retV, wS_do, wS_pop, wS_dead, wS_sw, wF_body, Nat.reduceAdd, Nat.zero_add, Bool.not_not, true_and, and_true, if_true, if_false, ↓reduceIte, eq_self, Value.int.injEq, Value.long.injEq, exists_eq_left', ik_b1, ik_b0, ik_bz0, ik_bz3, ik_bz3_1, ik_bz3_0, ik_cmp, ik_cmpL, ik_eI, ik_eL, ik_as, ik_i0, ik_i1, decide_eq_true_eq, decide_eq_false_iff_not, decide_true, decide_false, Bool.not_true, Bool.not_false, reduceCtorEq, forall_const, false_implies, true_implies, implies_true, true_and, and_true, and_self, false_and, and_false, Bool.and_true, Bool.true_and, not_true_eq_false, not_false_eq_true, if_true, if_false, ite_true, ite_false, ik_bz3_0, ik_bz3_1, ik_bz0, wE_ite, h5', nI_0, top1]
  | cons v r =>
    have h5' : g.1 0 49 = nI (r.length + 1) := h5
    have hl' : r.length + 1 ≤ 200 := hl
    have pos : 0 < nI (r.length + 1) := by rw [← nI_0]; exact nI_lt (by omega) (by omega)
    simp (decide := true) only [wE_lit, wL_lit, wE_loc, wL_loc, wE_add, wE_sub, wE_mul, wE_and, wE_or, wE_xor, wE_shl, wE_shr, wE_ushr, wE_div, wE_rem, wE_neg, wE_i2b, wE_l2i, wL_i2l, wL_add, wL_mul, wE_fld, wL_fld, wE_arr, wL_arr, wC_cmp, wC_cmp0, wC_cmpL, wC_and, wC_or, wC_not, wC_ite, wL_ite, wA_nil, wA_int, wA_long, wE_call, wL_call, wS_skip, wS_seq, wS_set, wS_setL, wS_inc, wS_if, wS_put, wS_putL, wS_putOp, wS_putOpL, wS_ast, wS_astL, wS_aop, wS_aopL, wS_ret, wS_retL, wS_retV, wS_do, wS_pop, wS_dead, wS_sw, wF_body, Nat.reduceAdd, Nat.zero_add, Bool.not_not, true_and, and_true, if_true, if_false, ↓reduceIte, eq_self, Value.int.injEq, Value.long.injEq, exists_eq_left', ik_b1, ik_b0, ik_bz0, ik_bz3, ik_bz3_1, ik_bz3_0, ik_cmp, ik_cmpL, ik_eI, ik_eL, ik_as, ik_i0, ik_i1, decide_eq_true_eq, decide_eq_false_iff_not, decide_true, decide_false, Bool.not_true, Bool.not_false, reduceCtorEq, forall_const, false_implies, true_implies, implies_true, true_and, and_true, and_self, false_and, and_false, Bool.and_true, Bool.true_and, not_true_eq_false, not_false_eq_true, if_true, if_false, ite_true, ite_false, ik_bz3_0, ik_bz3_1, ik_bz0, wE_ite, h5', pos, nI_pred, ik_ix_nI (show r.length < 200 by omega) (by omega), Option.some.injEq, h8.1.1, top1]
theorem atM.top256 {g0 g : GG} {p : Nat} {st : List Nat} {cs : RC} {o : Nat} {ob : Bool} {bh : Int32} (h : atM g0 g p st cs o ob bh) : top1 st < 256 := by
  obtain ⟨hf, h1, h2, h3, h4, h5, h6, h7, h8, h9⟩ := h
  cases st with
  | nil => decide
  | cons v r => exact h8.1.2
/-- one off the stack; a code put behind -/
theorem atM.pop {g0 g : GG} {p v : Nat} {r : List Nat} {cs : RC} {o : Nat} {ob : Bool} {bh : Int32} (h : atM g0 g p (v :: r) cs o ob bh) : atM g0 (ik_si g 0 49 (nI r.length)) p r cs o ob bh := by
  obtain ⟨hf, h1, h2, h3, h4, h5, h6, h7, h8, h9⟩ := h
  refine ⟨hf.si0 (by omega) _, ?_, ?_, ?_, ?_, ik_si_same _ _ _ _, ?_, ?_, ?_, ?_⟩
  · rw [ik_si_ne _ _ _ _ _ (by omega)]; exact h1
  · rw [ik_si_ne _ _ _ _ _ (by omega)]; exact h2
  · rw [ik_si_ne _ _ _ _ _ (by omega)]; exact h3
  · rw [ik_si_ne _ _ _ _ _ (by omega)]; exact h4
  · rw [ik_si_ne _ _ _ _ _ (by omega)]; exact h6
  · rw [ik_si_ne _ _ _ _ _ (by omega)]; exact h7
  · rw [ik_si_row _ _ _ _ _ (by omega)]; exact h8.2
  · intro k o' hk
    rw [ik_si_row _ _ _ _ _ (by omega), ik_si_row _ _ _ _ _ (by omega)]
    exact h9 k o' hk
theorem atM.code {g0 g : GG} {p : Nat} {st : List Nat} {cs : RC} {o : Nat} {ob : Bool} {bh : Int32} (h : atM g0 g p st cs o ob bh) (a b : Nat) : atM g0 (ik_si (ik_si (ik_si g 30 cs.length (nI a)) 31 cs.length (nI b)) 0 47 (nI (cs.length + 1))) p st (cs ++ [(a, b)]) o ob bh := by
  obtain ⟨hf, h1, h2, h3, h4, h5, h6, h7, h8, h9⟩ := h
  refine ⟨((hf.siR (by omega) _ _).siR (by omega) _ _).si0 (by omega) _, ?_, ?_, ?_, ?_, ?_, ?_, ?_, ?_, ?_⟩
  · simp (decide := true) only [ik_si_row, ik_si_ne]; exact h1
  · simp (decide := true) only [ik_si_row, ik_si_ne]; exact h2
  · rw [ik_si_same]; simp
  · simp (decide := true) only [ik_si_row, ik_si_ne]; exact h4
  · simp (decide := true) only [ik_si_row, ik_si_ne]; exact h5
  · simp (decide := true) only [ik_si_row, ik_si_ne]; exact h6
  · simp (decide := true) only [ik_si_row, ik_si_ne]; exact h7
  · simp (decide := true) only [ik_si_row]; exact h8
  · intro k o' hk
    by_cases e : k = cs.length
    · subst e
      rw [List.getElem?_append_right (Nat.le_refl _)] at hk
      simp at hk
      subst hk
      simp (decide := true) only [ik_si_row, ik_si_same, and_self]
    · have hk' : cs[k]? = some o' := by
        by_cases e2 : k < cs.length
        · rw [List.getElem?_append_left e2] at hk
          exact hk
        · have : (cs ++ [(a, b)])[k]? = none := List.getElem?_eq_none (by simp; omega)
          rw [this] at hk; cases hk
      simp (decide := true) only [ik_si_row, ik_si_ne _ _ _ _ _ e]
      exact h9 k o' hk'
theorem atM.push {g0 g : GG} {p : Nat} {st : List Nat} {cs : RC} {o : Nat} {ob : Bool} {bh : Int32} (h : atM g0 g p st cs o ob bh) {v : Nat} (hv : v < 256) : atM g0 (ik_si (ik_si (ik_si g 32 st.length (nI v)) 0 49 (nI (st.length + 1))) 0 30 (nI (p + 1))) (p + 1) (v :: st) cs o ob bh := by
  obtain ⟨hf, h1, h2, h3, h4, h5, h6, h7, h8, h9⟩ := h
  refine ⟨((hf.siR (by omega) _ _).si0 (by omega) _).si0 (by omega) _, ik_si_same _ _ _ _, ?_, ?_, ?_, ?_, ?_, ?_, ?_, ?_⟩
  · simp (decide := true) only [ik_si_row, ik_si_ne]; exact h2
  · simp (decide := true) only [ik_si_row, ik_si_ne]; exact h3
  · simp (decide := true) only [ik_si_row, ik_si_ne]; exact h4
  · rw [ik_si_ne _ _ _ _ _ (by omega), ik_si_same]; rfl
  · simp (decide := true) only [ik_si_row, ik_si_ne]; exact h6
  · simp (decide := true) only [ik_si_row, ik_si_ne]; exact h7
  · simp (decide := true) only [ik_si_row, ik_si_self]
    exact ⟨⟨upd_at _ _ _, hv⟩, stk_upd h8 (Nat.le_refl _)⟩
  · intro k o' hk
    simp (decide := true) only [ik_si_row]
    exact h9 k o' hk
theorem atM.set {g0 g : GG} {p : Nat} {st : List Nat} {cs : RC} {o : Nat} {ob : Bool} {bh : Int32} (h : atM g0 g p st cs o ob bh) : (∀ o', atM g0 (ik_si g 0 48 (nI o')) p st cs o' ob bh) ∧ (∀ p', atM g0 (ik_si g 0 30 (nI p')) p' st cs o ob bh) ∧ (∀ b, atM g0 (ik_si g 0 50 (ik_b2 b)) p st cs o b bh) ∧ ∀ b : Int32, atM g0 (ik_si g 0 51 b) p st cs o ob b := by
  obtain ⟨hf, h1, h2, h3, h4, h5, h6, h7, h8, h9⟩ := h
  have cd : ∀ j v, cdM (ik_si g 0 j v) cs := fun j v k o' hk => by
    rw [ik_si_row _ _ _ _ _ (by decide), ik_si_row _ _ _ _ _ (by decide)]
    exact h9 k o' hk
  have sk : ∀ j v, stk ((ik_si g 0 j v).1 32) st := fun j v => by rw [ik_si_row _ _ _ _ _ (by decide)]; exact h8
  refine ⟨fun o' => ⟨hf.si0 (by omega) _, ?_, ?_, ?_, ?_, ?_, ?_, ?_, sk _ _, cd _ _⟩, fun p' => ⟨hf.si0 (by omega) _, ?_, ?_, ?_, ?_, ?_, ?_, ?_, sk _ _, cd _ _⟩, fun b => ⟨hf.si0 (by omega) _, ?_, ?_, ?_, ?_, ?_, ?_, ?_, sk _ _, cd _ _⟩, fun b => ⟨hf.si0 (by omega) _, ?_, ?_, ?_, ?_, ?_, ?_, ?_, sk _ _, cd _ _⟩⟩
  all_goals first | exact ik_si_same _ _ _ _ | (rw [ik_si_ne _ _ _ _ _ (by omega)]; assumption)
theorem w_emit {g0 g : GG} {p : Nat} {st : List Nat} {cs : RC} {o : Nat} {ob : Bool} {bh : Int32} (h : atM g0 g p st cs o ob bh) (hl : cs.length < 160) {v w : Int32} {a b : Nat} (hv : v = nI a) (hw : w = nI b) (Q : Value → GG → Prop) : wF fX12_emit [.int v, .int w] g Q ↔ Q .null (ik_si (ik_si (ik_si g 30 cs.length (nI a)) 31 cs.length (nI b)) 0 47 (nI (cs.length + 1))) := by
  subst hv hw
  refine wF_eq (eq_of_wF ?_) Q
  obtain ⟨hf, h1, h2, h3, h4, h5, h6, h7, h8, h9⟩ := h
  unfold fX12_emit
  simp (decide := true) only [wE_lit, wL_lit, wE_loc, wL_loc, wE_add, wE_sub, wE_mul, wE_and, wE_or, wE_xor, wE_shl, wE_shr, wE_ushr, wE_div, wE_rem, wE_neg, wE_i2b, wE_l2i, wL_i2l, wL_add, wL_mul, wE_fld, wL_fld, wE_arr, wL_arr, wC_cmp, wC_cmp0, wC_cmpL, wC_and, wC_or, wC_not, wC_ite, wL_ite, wA_nil, wA_int, wA_long, wE_call, wL_call, wS_skip, wS_seq, wS_set, wS_setL, wS_inc, wS_if, wS_put, wS_putL, wS_putOp, wS_putOpL, wS_ast, wS_astL, wS_aop, wS_aopL, wS_ret, wS_retL, wS_retV, wS_do, wS_pop, wS_dead, wS_sw, wF_body, Nat.reduceAdd, Nat.zero_add, Bool.not_not, true_and, and_true, if_true, if_false, ↓reduceIte, eq_self, Value.int.injEq, Value.long.injEq, exists_eq_left', ik_b1, ik_b0, ik_bz0, ik_bz3, ik_bz3_1, ik_bz3_0, ik_cmp, ik_cmpL, ik_eI, ik_eL, ik_as, ik_i0, ik_i1, decide_eq_true_eq, decide_eq_false_iff_not, decide_true, decide_false, Bool.not_true, Bool.not_false, reduceCtorEq, forall_const, false_implies, true_implies, implies_true, true_and, and_true, and_self, false_and, and_false, Bool.and_true, Bool.true_and, not_true_eq_false, not_false_eq_true, if_true, if_false, ite_true, ite_false, ik_bz3_0, ik_bz3_1, ik_bz0, w_good, h2, h3, ik_ix_nI hl (by omega), Option.some.injEq, ik_si_row, ik_bo, nI_1]
theorem w_emitF {g : GG} (h : ¬ g.1 0 32 = 0) (v w : Int32) (Q : Value → GG → Prop) : wF fX12_emit [.int v, .int w] g Q ↔ Q .null g := by
  refine wF_eq (eq_of_wF ?_) Q
  unfold fX12_emit
  simp (decide := true) only [wE_lit, wL_lit, wE_loc, wL_loc, wE_add, wE_sub, wE_mul, wE_and, wE_or, wE_xor, wE_shl, wE_shr, wE_ushr, wE_div, wE_rem, wE_neg, wE_i2b, wE_l2i, wL_i2l, wL_add, wL_mul, wE_fld, wL_fld, wE_arr, wL_arr, wC_cmp, wC_cmp0, wC_cmpL, wC_and, wC_or, wC_not, wC_ite, wL_ite, wA_nil, wA_int, wA_long, wE_call, wL_call, wS_skip, wS_seq, wS_set, wS_setL, wS_inc, wS_if, wS_put, wS_putL, wS_putOp, wS_putOpL, wS_ast, wS_astL, wS_aop, wS_aopL, wS_ret, wS_retL, wS_retV, wS_do, wS_pop, wS_dead, wS_sw, wF_body, Nat.reduceAdd, Nat.zero_add, Bool.not_not, true_and, and_true, if_true, if_false, ↓reduceIte, eq_self, Value.int.injEq, Value.long.injEq, exists_eq_left', ik_b1, ik_b0, ik_bz0, ik_bz3, ik_bz3_1, ik_bz3_0, ik_cmp, ik_cmpL, ik_eI, ik_eL, ik_as, ik_i0, ik_i1, decide_eq_true_eq, decide_eq_false_iff_not, decide_true, decide_false, Bool.not_true, Bool.not_false, reduceCtorEq, forall_const, false_implies, true_implies, implies_true, true_and, and_true, and_self, false_and, and_false, Bool.and_true, Bool.true_and, not_true_eq_false, not_false_eq_true, if_true, if_false, ite_true, ite_false, ik_bz3_0, ik_bz3_1, ik_bz0, w_good, h]
theorem w_puts {g0 g : GG} {p : Nat} {st : List Nat} {cs : RC} {o : Nat} {ob : Bool} {bh : Int32} (h : atM g0 g p st cs o ob bh) (hl : st.length < 200) (v : Int32) (Q : Value → GG → Prop) : wF fX12_puts [.int v] g Q ↔ Q .null (ik_si (ik_si (ik_si g 32 st.length v) 0 49 (nI (st.length + 1))) 0 30 (nI (p + 1))) := by
  refine wF_eq (eq_of_wF ?_) Q
  obtain ⟨hf, h1, h2, h3, h4, h5, h6, h7, h8, h9⟩ := h
  unfold fX12_puts
  simp (decide := true) only [wE_lit, wL_lit, wE_loc, wL_loc, wE_add, wE_sub, wE_mul, wE_and, wE_or, wE_xor, wE_shl, wE_shr, wE_ushr, wE_div, wE_rem, wE_neg, wE_i2b, wE_l2i, wL_i2l, wL_add, wL_mul, wE_fld, wL_fld, wE_arr, wL_arr, wC_cmp, wC_cmp0, wC_cmpL, wC_and, wC_or, wC_not, wC_ite, wL_ite, wA_nil, wA_int, wA_long, wE_call, wL_call, wS_skip, wS_seq, wS_set, wS_setL, wS_inc, wS_if, wS_put, wS_putL, wS_putOp, wS_putOpL, wS_ast, wS_astL, wS_aop, wS_aopL, wS_ret, wS_retL, wS_retV, wS_do, wS_pop, wS_dead, wS_sw, wF_body, Nat.reduceAdd, Nat.zero_add, Bool.not_not, true_and, and_true, if_true, if_false, ↓reduceIte, eq_self, Value.int.injEq, Value.long.injEq, exists_eq_left', ik_b1, ik_b0, ik_bz0, ik_bz3, ik_bz3_1, ik_bz3_0, ik_cmp, ik_cmpL, ik_eI, ik_eL, ik_as, ik_i0, ik_i1, decide_eq_true_eq, decide_eq_false_iff_not, decide_true, decide_false, Bool.not_true, Bool.not_false, reduceCtorEq, forall_const, false_implies, true_implies, implies_true, true_and, and_true, and_self, false_and, and_false, Bool.and_true, Bool.true_and, not_true_eq_false, not_false_eq_true, if_true, if_false, ite_true, ite_false, ik_bz3_0, ik_bz3_1, ik_bz0, h5, h1, ik_ix_nI hl (by omega), Option.some.injEq, ik_si_row, ik_si_ne, ik_bo, nI_1]
theorem w_putsF {g : GG} {n p : Nat} (h49 : g.1 0 49 = nI n) (h30 : g.1 0 30 = nI p) (hl : n < 200) (v : Int32) (Q : Value → GG → Prop) : wF fX12_puts [.int v] g Q ↔ Q .null (ik_si (ik_si (ik_si g 32 n v) 0 49 (nI (n + 1))) 0 30 (nI (p + 1))) := by
  refine wF_eq (eq_of_wF ?_) Q
  unfold fX12_puts
  simp (decide := true) only [wE_lit, wL_lit, wE_loc, wL_loc, wE_add, wE_sub, wE_mul, wE_and, wE_or, wE_xor, wE_shl, wE_shr, wE_ushr, wE_div, wE_rem, wE_neg, wE_i2b, wE_l2i, wL_i2l, wL_add, wL_mul, wE_fld, wL_fld, wE_arr, wL_arr, wC_cmp, wC_cmp0, wC_cmpL, wC_and, wC_or, wC_not, wC_ite, wL_ite, wA_nil, wA_int, wA_long, wE_call, wL_call, wS_skip, wS_seq, wS_set, wS_setL, wS_inc, wS_if, wS_put, wS_putL, wS_putOp, wS_putOpL, wS_ast, wS_astL, wS_aop, wS_aopL, wS_ret, wS_retL, wS_retV, wS_do, wS_pop, wS_dead, wS_sw, wF_body, Nat.reduceAdd, Nat.zero_add, Bool.not_not, true_and, and_true, if_true, if_false, ↓reduceIte, eq_self, Value.int.injEq, Value.long.injEq, exists_eq_left', ik_b1, ik_b0, ik_bz0, ik_bz3, ik_bz3_1, ik_bz3_0, ik_cmp, ik_cmpL, ik_eI, ik_eL, ik_as, ik_i0, ik_i1, decide_eq_true_eq, decide_eq_false_iff_not, decide_true, decide_false, Bool.not_true, Bool.not_false, reduceCtorEq, forall_const, false_implies, true_implies, implies_true, true_and, and_true, and_self, false_and, and_false, Bool.and_true, Bool.true_and, not_true_eq_false, not_false_eq_true, if_true, if_false, ite_true, ite_false, ik_bz3_0, ik_bz3_1, ik_bz0, h49, h30, ik_ix_nI hl (by omega), Option.some.injEq, ik_si_row, ik_si_ne, ik_bo, nI_1]
theorem flM.putsF {g0 g : GG} {e q : Nat} (h : flM g0 g e q) (n : Nat) (v w u : Int32) : flM g0 (ik_si (ik_si (ik_si g 32 n v) 0 49 w) 0 30 u) e q :=
  ⟨((h.1.siR (by omega) _ _).si0 (by omega) _).si0 (by omega) _, by rw [ik_si_ne _ _ _ _ _ (by omega), ik_si_ne _ _ _ _ _ (by omega), ik_si_row _ _ _ _ _ (by omega)]; exact h.2.1, h.2.2.1, h.2.2.2⟩
