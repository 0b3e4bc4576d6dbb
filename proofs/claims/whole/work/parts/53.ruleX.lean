/-! the class's reader of rules: what it is at; one step -/
/-- the text c of N bytes lies where it is read -/
def txX (c : Nat → Nat) (N : Nat) (g0 : GG) : Prop := g0.1 35 6 = nI N ∧ N ≤ 160 ∧ (∀ k, N ≤ k → c k = 0) ∧ ∀ k, k < N → c k < 256 ∧ (if g0.1 35 5 = 0 then g0.1 37 k else g0.1 36 k) = nI (c k)
def frX (g0 g : GG) : Prop := (∀ a, a ≠ 35 → g.1 a = g0.1 a) ∧ (∀ j, j < 7 → g.1 35 j = g0.1 35 j) ∧ g.2 = g0.2
def sgX (c : Nat → Nat) (N p : Nat) : Int32 := if p < N then nI (c p) else -1
def b01 (v : Int32) : Prop := v = 0 ∨ v = 1
/-- at place p, no fault yet -/
def atX (c : Nat → Nat) (N : Nat) (g0 g : GG) (p : Nat) : Prop := frX g0 g ∧ g.1 35 7 = nI p ∧ g.1 35 8 = sgX c N p ∧ g.1 35 9 = 0 ∧ b01 (g.1 35 10)
/-- stopped by a fault -/
def flX (g0 g : GG) (e : Nat) : Prop := frX g0 g ∧ g.1 35 8 = -1 ∧ g.1 35 9 = nI e ∧ (0 < e ∧ e < 10000) ∧ b01 (g.1 35 10)
theorem sgX_eq {c : Nat → Nat} {N p k : Nat} (hc : ∀ k, k < N → c k < 256) (hz : ∀ k, N ≤ k → c k = 0) (h0 : 0 < k) (hk : k < 256) {v : Int32} (hv : v = nI k) : (sgX c N p = v) ↔ c p = k := by
  subst hv
  unfold sgX
  by_cases h : p < N
  · rw [if_pos h, nI_eq (by have := hc p h; omega) (by omega)]
  · rw [if_neg h, hz p (by omega)]
    constructor
    · intro e
      exact absurd e.symm (nI_m1 (by omega))
    · omega
theorem frX.rfl' (g : GG) : frX g g := ⟨fun _ _ => rfl, fun _ _ => rfl, rfl⟩
theorem frX.si {g0 g : GG} (h : frX g0 g) {j : Nat} (hj : 7 ≤ j) (v : Int32) : frX g0 (ik_si g 35 j v) := by
  refine ⟨fun a ha => ?_, fun k hk => ?_, h.2.2⟩
  · rw [ik_si_row _ _ _ _ _ ha]; exact h.1 a ha
  · rw [ik_si_ne _ _ _ _ _ (by omega)]; exact h.2.1 k hk
theorem go0X {c : Nat → Nat} {N p : Nat} {g0 g : GG} (ht : txX c N g0) (h : atX c N g0 g p) (hp : p < N) : wF fX7_go [.int 0] g (fun v g' => v = .null ∧ atX c N g0 g' (p + 1) ∧ g'.1 35 10 = g.1 35 10) := by
  obtain ⟨hf, h7, h8, h9, h10⟩ := h
  obtain ⟨t1, t2, t3, t4⟩ := ht
  have e6 : g.1 35 6 = nI N := by rw [hf.2.1 6 (by omega)]; exact t1
  have e5 : g.1 35 5 = g0.1 35 5 := hf.2.1 5 (by omega)
  have e36 : g.1 36 = g0.1 36 := hf.1 36 (by omega)
  have e37 : g.1 37 = g0.1 37 := hf.1 37 (by omega)
  have p1 := nI_pos' (n := p + 1) (by omega)
  have c2 : nI (p + 1) < nI N ↔ p + 1 < N := nI_ltI (by omega) (by omega)
  have c3 : nI (p + 1) < nI 160 ↔ p + 1 < 160 := nI_ltI (by omega) (by omega)
  unfold fX7_go
  simp (decide := true) only [wE_lit, wL_lit, wE_loc, wL_loc, wE_add, wE_sub, wE_mul, wE_and, wE_or, wE_xor, wE_shl, wE_shr, wE_ushr, wE_div, wE_rem, wE_neg, wE_i2b, wE_l2i, wL_i2l, wL_add, wL_mul, wE_fld, wL_fld, wE_arr, wL_arr, wC_cmp, wC_cmp0, wC_cmpL, wC_and, wC_or, wC_not, wC_ite, wL_ite, wA_nil, wA_int, wA_long, wE_call, wL_call, wS_skip, wS_seq, wS_set, wS_setL, wS_inc, wS_if, wS_put, wS_putL, wS_putOp, wS_putOpL, wS_ast, wS_astL, wS_aop, wS_aopL, wS_ret, wS_retL, wS_retV, wS_do, wS_pop, wS_dead, wS_sw, wF_body, Nat.reduceAdd, Nat.zero_add, Bool.not_not, true_and, and_true, if_true, if_false, ↓reduceIte, eq_self, Value.int.injEq, Value.long.injEq, exists_eq_left', ik_b1, ik_b0, ik_bz0, ik_bz3, ik_bz3_1, ik_bz3_0, ik_cmp, ik_cmpL, ik_eI, ik_eL, ik_as, ik_i0, ik_i1, decide_eq_true_eq, decide_eq_false_iff_not, decide_true, decide_false, Bool.not_true, Bool.not_false, reduceCtorEq, forall_const, false_implies, true_implies, implies_true, true_and, and_true, and_self, false_and, and_false, Bool.and_true, Bool.true_and, not_true_eq_false, not_false_eq_true, if_true, if_false, ite_true, ite_false, ik_bz3_0, ik_bz3_1, ik_bz0, h9, h7, ik_bo, Option.some.injEq, nI_1, ik_si_same, ik_si_ne, ik_si_row, e6, p1, show (160 : Int32) = nI 160 from rfl, c2, c3, wE_ite, upd_at, upd_off, e5]
  have fin : ∀ v, v = sgX c N (p + 1) → atX c N g0 (ik_si (ik_si g 35 7 (nI (p + 1))) 35 8 v) (p + 1) := fun v hv => ⟨(hf.si (by omega) _).si (by omega) _, by rw [ik_si_ne _ _ _ _ _ (by omega), ik_si_same], by rw [ik_si_same, hv], by rw [ik_si_ne _ _ _ _ _ (by omega), ik_si_ne _ _ _ _ _ (by omega)]; exact h9, by rw [ik_si_ne _ _ _ _ _ (by omega), ik_si_ne _ _ _ _ _ (by omega)]; exact h10⟩
  by_cases d : p + 1 < N
  · have d2 : p + 1 < 160 := by omega
    have ix := ik_ix_nI d2 (by omega)
    have t5 := t4 (p + 1) d
    simp (decide := true) only [ik_i0, ik_i1, decide_eq_true_eq, decide_eq_false_iff_not, decide_true, decide_false, Bool.not_true, Bool.not_false, reduceCtorEq, forall_const, false_implies, true_implies, implies_true, true_and, and_true, and_self, false_and, and_false, Bool.and_true, Bool.true_and, not_true_eq_false, not_false_eq_true, if_true, if_false, ite_true, ite_false, ik_bz3_0, ik_bz3_1, ik_bz0, d, d2]
    rw [e36, e37]
    by_cases q : g0.1 35 5 = 0
    · simp (decide := true) only [ik_i0, ik_i1, decide_eq_true_eq, decide_eq_false_iff_not, decide_true, decide_false, Bool.not_true, Bool.not_false, reduceCtorEq, forall_const, false_implies, true_implies, implies_true, true_and, and_true, and_self, false_and, and_false, Bool.and_true, Bool.true_and, not_true_eq_false, not_false_eq_true, if_true, if_false, ite_true, ite_false, ik_bz3_0, ik_bz3_1, ik_bz0, q, ix, Option.some.injEq, exists_eq_left']
      refine fin _ ?_
      rw [if_pos q] at t5
      unfold sgX
      rw [if_pos d, t5.2]
    · simp (decide := true) only [ik_i0, ik_i1, decide_eq_true_eq, decide_eq_false_iff_not, decide_true, decide_false, Bool.not_true, Bool.not_false, reduceCtorEq, forall_const, false_implies, true_implies, implies_true, true_and, and_true, and_self, false_and, and_false, Bool.and_true, Bool.true_and, not_true_eq_false, not_false_eq_true, if_true, if_false, ite_true, ite_false, ik_bz3_0, ik_bz3_1, ik_bz0, q, ix, Option.some.injEq, exists_eq_left']
      refine fin _ ?_
      rw [if_neg q] at t5
      unfold sgX
      rw [if_pos d, t5.2]
  · simp (decide := true) only [ik_i0, ik_i1, decide_eq_true_eq, decide_eq_false_iff_not, decide_true, decide_false, Bool.not_true, Bool.not_false, reduceCtorEq, forall_const, false_implies, true_implies, implies_true, true_and, and_true, and_self, false_and, and_false, Bool.and_true, Bool.true_and, not_true_eq_false, not_false_eq_true, if_true, if_false, ite_true, ite_false, ik_bz3_0, ik_bz3_1, ik_bz0, d]
    refine fin _ ?_
    unfold sgX
    rw [if_neg d]
theorem goWX {c : Nat → Nat} {N p e : Nat} {g0 g : GG} (ht : txX c N g0) (h : atX c N g0 g p) (hp : p ≤ N) (he : 1 ≤ e ∧ e ≤ 5) {w : Int32} (hw : w = nI e) : wF fX7_go [.int w] g (fun v g' => v = .null ∧ flX g0 g' (1000 * e + p)) := by
  subst hw
  obtain ⟨hf, h7, h8, h9, h10⟩ := h
  obtain ⟨t1, t2, t3, t4⟩ := ht
  have e0 := nI_ne0 (n := e) (by omega) (by omega)
  unfold fX7_go
  simp (decide := true) only [wE_lit, wL_lit, wE_loc, wL_loc, wE_add, wE_sub, wE_mul, wE_and, wE_or, wE_xor, wE_shl, wE_shr, wE_ushr, wE_div, wE_rem, wE_neg, wE_i2b, wE_l2i, wL_i2l, wL_add, wL_mul, wE_fld, wL_fld, wE_arr, wL_arr, wC_cmp, wC_cmp0, wC_cmpL, wC_and, wC_or, wC_not, wC_ite, wL_ite, wA_nil, wA_int, wA_long, wE_call, wL_call, wS_skip, wS_seq, wS_set, wS_setL, wS_inc, wS_if, wS_put, wS_putL, wS_putOp, wS_putOpL, wS_ast, wS_astL, wS_aop, wS_aopL, wS_ret, wS_retL, wS_retV, wS_do, wS_pop, wS_dead, wS_sw, wF_body, Nat.reduceAdd, Nat.zero_add, Bool.not_not, true_and, and_true, if_true, if_false, ↓reduceIte, eq_self, Value.int.injEq, Value.long.injEq, exists_eq_left', ik_b1, ik_b0, ik_bz0, ik_bz3, ik_bz3_1, ik_bz3_0, ik_cmp, ik_cmpL, ik_eI, ik_eL, ik_as, ik_i0, ik_i1, decide_eq_true_eq, decide_eq_false_iff_not, decide_true, decide_false, Bool.not_true, Bool.not_false, reduceCtorEq, forall_const, false_implies, true_implies, implies_true, true_and, and_true, and_self, false_and, and_false, Bool.and_true, Bool.true_and, not_true_eq_false, not_false_eq_true, if_true, if_false, ite_true, ite_false, ik_bz3_0, ik_bz3_1, ik_bz0, h9, h7, e0, ik_si_ne, show (1000 : Int32) = nI 1000 from rfl, pk_mul, nI_add]
  exact ⟨(hf.si (by omega) _).si (by omega) _, by rw [ik_si_same], by rw [ik_si_ne _ _ _ _ _ (by omega), ik_si_same], by omega, by rw [ik_si_ne _ _ _ _ _ (by omega), ik_si_ne _ _ _ _ _ (by omega)]; exact h10⟩
theorem goFX {e : Nat} {g0 g : GG} (h : flX g0 g e) (w : Int32) (Q : Value → GG → Prop) : wF fX7_go [.int w] g Q ↔ Q .null g := by
  refine wF_eq (eq_of_wF ?_) Q
  obtain ⟨hf, h8, h9, h9', h10⟩ := h
  have e0 := nI_ne0 (n := e) (by omega) (by omega)
  unfold fX7_go
  simp (decide := true) only [wE_lit, wL_lit, wE_loc, wL_loc, wE_add, wE_sub, wE_mul, wE_and, wE_or, wE_xor, wE_shl, wE_shr, wE_ushr, wE_div, wE_rem, wE_neg, wE_i2b, wE_l2i, wL_i2l, wL_add, wL_mul, wE_fld, wL_fld, wE_arr, wL_arr, wC_cmp, wC_cmp0, wC_cmpL, wC_and, wC_or, wC_not, wC_ite, wL_ite, wA_nil, wA_int, wA_long, wE_call, wL_call, wS_skip, wS_seq, wS_set, wS_setL, wS_inc, wS_if, wS_put, wS_putL, wS_putOp, wS_putOpL, wS_ast, wS_astL, wS_aop, wS_aopL, wS_ret, wS_retL, wS_retV, wS_do, wS_pop, wS_dead, wS_sw, wF_body, Nat.reduceAdd, Nat.zero_add, Bool.not_not, true_and, and_true, if_true, if_false, ↓reduceIte, eq_self, Value.int.injEq, Value.long.injEq, exists_eq_left', ik_b1, ik_b0, ik_bz0, ik_bz3, ik_bz3_1, ik_bz3_0, ik_cmp, ik_cmpL, ik_eI, ik_eL, ik_as, ik_i0, ik_i1, decide_eq_true_eq, decide_eq_false_iff_not, decide_true, decide_false, Bool.not_true, Bool.not_false, reduceCtorEq, forall_const, false_implies, true_implies, implies_true, true_and, and_true, and_self, false_and, and_false, Bool.and_true, Bool.true_and, not_true_eq_false, not_false_eq_true, if_true, if_false, ite_true, ite_false, ik_bz3_0, ik_bz3_1, ik_bz0, h9, e0]
