/-! a new name: what is written before it is known whether it stands -/
theorem ik_si_twice (g : GG) (a j : Nat) (v w : Int32) : ik_si (ik_si g a j v) a j w = ik_si g a j w := by
  unfold ik_si
  refine Prod.ext ?_ rfl
  funext c i
  by_cases e1 : c = a ∧ i = j <;> simp [e1]
def ik_nm (g : GG) (N k : Nat) (b : Nat → Nat) : GG := (fun a j => if a = 9 ∧ j = N then nI k else if a = 8 ∧ 12 * N ≤ j ∧ j < 12 * N + k then nI (b (j - 12 * N) - 96) else g.1 a j, g.2)
def ik_mm (g : GG) (N k : Nat) (b : Nat → Nat) : GG := (fun a j => if a = 4 ∧ 12 * N ≤ j ∧ j < 12 * N + k then nI (b (j - 12 * N)) else g.1 a j, g.2)
theorem ik_nm_0 (g : GG) (N : Nat) (b : Nat → Nat) : ik_nm g N 0 b = ik_si g 9 N 0 := by
  unfold ik_nm ik_si
  refine Prod.ext ?_ rfl
  funext a j
  have : ¬ (a = 8 ∧ 12 * N ≤ j ∧ j < 12 * N + 0) := by omega
  simp only [this, if_false]
  rfl
theorem ik_mm_0 (g : GG) (N : Nat) (b : Nat → Nat) : ik_mm g N 0 b = g := by
  unfold ik_mm
  refine Prod.ext ?_ rfl
  funext a j
  have : ¬ (a = 4 ∧ 12 * N ≤ j ∧ j < 12 * N + 0) := by omega
  simp only [this, if_false]
theorem ik_nm_s (g : GG) (N k : Nat) (b : Nat → Nat) : ik_si (ik_si (ik_nm g N k b) 8 (12 * N + k) (nI (b k - 96))) 9 N (nI (k + 1)) = ik_nm g N (k + 1) b := by
  unfold ik_nm ik_si
  refine Prod.ext ?_ rfl
  funext a j
  dsimp only
  by_cases e1 : a = 9 ∧ j = N
  · simp only [if_pos e1]
  · simp only [if_neg e1]
    by_cases e2 : a = 8 ∧ j = 12 * N + k
    · rw [if_pos e2, if_pos (by omega), show j - 12 * N = k by omega]
    · rw [if_neg e2]
      by_cases e3 : a = 8 ∧ 12 * N ≤ j ∧ j < 12 * N + k
      · rw [if_pos e3, if_pos (by omega)]
      · rw [if_neg e3, if_neg (by omega)]
theorem ik_mm_s (g : GG) (N k : Nat) (b : Nat → Nat) : ik_si (ik_mm g N k b) 4 (12 * N + k) (nI (b k)) = ik_mm g N (k + 1) b := by
  unfold ik_mm ik_si
  refine Prod.ext ?_ rfl
  funext a j
  dsimp only
  by_cases e2 : a = 4 ∧ j = 12 * N + k
  · rw [if_pos e2, if_pos (by omega), show j - 12 * N = k by omega]
  · rw [if_neg e2]
    by_cases e3 : a = 4 ∧ 12 * N ≤ j ∧ j < 12 * N + k
    · rw [if_pos e3, if_pos (by omega)]
    · rw [if_neg e3, if_neg (by omega)]
theorem w_at9 {g : GG} {n k : Nat} (hn : n ≤ 400) (hg : g.1 1 1 = nI n) (hk : k < n) (Q : Value → GG → Prop) : wF fX9_at [.int (nI k)] g Q ↔ Q (.int (g.1 2 k)) g := by
  refine wF_eq (eq_of_wF ?_) Q
  unfold fX9_at
  have p1 := nI_pos' (n := k) (by omega)
  have p2 := nI_lt hk (by omega)
  have p3 := nI_lt (show k < 400 by omega) (by omega)
  simp (decide := true) only [wE_lit, wL_lit, wE_loc, wL_loc, wE_add, wE_sub, wE_mul, wE_and, wE_or, wE_xor, wE_shl, wE_shr, wE_ushr, wE_div, wE_rem, wE_neg, wE_i2b, wE_l2i, wL_i2l, wL_add, wL_mul, wE_fld, wL_fld, wE_arr, wL_arr, wC_cmp, wC_cmp0, wC_cmpL, wC_and, wC_or, wC_not, wC_ite, wL_ite, wA_nil, wA_int, wA_long, wE_call, wL_call, wS_skip, wS_seq, wS_set, wS_setL, wS_inc, wS_if, wS_put, wS_putL, wS_putOp, wS_putOpL, wS_ast, wS_astL, wS_aop, wS_aopL, wS_ret, wS_retL, wS_retV, wS_do, wS_pop, wS_dead, wS_sw, wF_body, Nat.reduceAdd, Nat.zero_add, Bool.not_not, true_and, and_true, if_true, if_false, ↓reduceIte, eq_self, Value.int.injEq, Value.long.injEq, exists_eq_left', ik_b1, ik_b0, ik_bz0, ik_bz3, ik_bz3_1, ik_bz3_0, ik_cmp, ik_cmpL, ik_eI, ik_eL, ik_as, ik_i0, ik_i1, decide_eq_true_eq, decide_eq_false_iff_not, decide_true, decide_false, Bool.not_true, Bool.not_false, reduceCtorEq, forall_const, false_implies, true_implies, implies_true, true_and, and_true, and_self, false_and, and_false, Bool.and_true, Bool.true_and, not_true_eq_false, not_false_eq_true, if_true, if_false, ite_true, ite_false, ik_bz3_0, ik_bz3_1, ik_bz0, wE_ite, hg, show (400 : Int32) = nI 400 from rfl, p1, p2, p3, ik_ix_nI (show k < 400 by omega) (by omega), Option.some.injEq]
theorem w_letterX (a : Int32) (g : GG) (Q : Value → GG → Prop) : wF fX11_isLetter [.int a] g Q ↔ Q (.int (if 97 ≤ a ∧ a ≤ 122 then 1 else 0)) g := by
  refine wF_eq (eq_of_wF ?_) Q
  unfold fX11_isLetter
  simp (decide := true) only [wE_lit, wL_lit, wE_loc, wL_loc, wE_add, wE_sub, wE_mul, wE_and, wE_or, wE_xor, wE_shl, wE_shr, wE_ushr, wE_div, wE_rem, wE_neg, wE_i2b, wE_l2i, wL_i2l, wL_add, wL_mul, wE_fld, wL_fld, wE_arr, wL_arr, wC_cmp, wC_cmp0, wC_cmpL, wC_and, wC_or, wC_not, wC_ite, wL_ite, wA_nil, wA_int, wA_long, wE_call, wL_call, wS_skip, wS_seq, wS_set, wS_setL, wS_inc, wS_if, wS_put, wS_putL, wS_putOp, wS_putOpL, wS_ast, wS_astL, wS_aop, wS_aopL, wS_ret, wS_retL, wS_retV, wS_do, wS_pop, wS_dead, wS_sw, wF_body, Nat.reduceAdd, Nat.zero_add, Bool.not_not, true_and, and_true, if_true, if_false, ↓reduceIte, eq_self, Value.int.injEq, Value.long.injEq, exists_eq_left', ik_b1, ik_b0, ik_bz0, ik_bz3, ik_bz3_1, ik_bz3_0, ik_cmp, ik_cmpL, ik_eI, ik_eL, ik_as, wE_ite2]
  by_cases h1 : 97 ≤ a <;> by_cases h2 : a ≤ 122 <;> simp [h1, h2, ik_bz]
theorem w_letterM (a : Int32) (g : GG) (Q : Value → GG → Prop) : wF fX12_isLetter [.int a] g Q ↔ Q (.int (if 97 ≤ a ∧ a ≤ 122 then 1 else 0)) g := by
  refine wF_eq (eq_of_wF ?_) Q
  unfold fX12_isLetter
  simp (decide := true) only [wE_lit, wL_lit, wE_loc, wL_loc, wE_add, wE_sub, wE_mul, wE_and, wE_or, wE_xor, wE_shl, wE_shr, wE_ushr, wE_div, wE_rem, wE_neg, wE_i2b, wE_l2i, wL_i2l, wL_add, wL_mul, wE_fld, wL_fld, wE_arr, wL_arr, wC_cmp, wC_cmp0, wC_cmpL, wC_and, wC_or, wC_not, wC_ite, wL_ite, wA_nil, wA_int, wA_long, wE_call, wL_call, wS_skip, wS_seq, wS_set, wS_setL, wS_inc, wS_if, wS_put, wS_putL, wS_putOp, wS_putOpL, wS_ast, wS_astL, wS_aop, wS_aopL, wS_ret, wS_retL, wS_retV, wS_do, wS_pop, wS_dead, wS_sw, wF_body, Nat.reduceAdd, Nat.zero_add, Bool.not_not, true_and, and_true, if_true, if_false, ↓reduceIte, eq_self, Value.int.injEq, Value.long.injEq, exists_eq_left', ik_b1, ik_b0, ik_bz0, ik_bz3, ik_bz3_1, ik_bz3_0, ik_cmp, ik_cmpL, ik_eI, ik_eL, ik_as, wE_ite2]
  by_cases h1 : 97 ≤ a <;> by_cases h2 : a ≤ 122 <;> simp [h1, h2, ik_bz]
theorem w_wipe7 {g : GG} {N : Nat} (h0 : g.1 7 0 = nI 24) (hN : N < 24) (Q : Value → GG → Prop) : wF fX10_wipe_7 [.int (nI N)] g Q ↔ Q .null (ik_si g 9 N 0) := by
  refine wF_eq (eq_of_wF ?_) Q
  have p1 := nI_pos' (n := N) (by omega)
  have p2 := nI_lt (show N < 24 by omega) (by omega)
  have e : ∀ Q : Value → GG → Prop, wF fX10_stands_7 [.int (nI N)] g Q ↔ Q (.int 1) g := by
    intro Q
    refine wF_eq (eq_of_wF ?_) Q
    unfold fX10_stands_7
    simp (decide := true) only [wE_lit, wL_lit, wE_loc, wL_loc, wE_add, wE_sub, wE_mul, wE_and, wE_or, wE_xor, wE_shl, wE_shr, wE_ushr, wE_div, wE_rem, wE_neg, wE_i2b, wE_l2i, wL_i2l, wL_add, wL_mul, wE_fld, wL_fld, wE_arr, wL_arr, wC_cmp, wC_cmp0, wC_cmpL, wC_and, wC_or, wC_not, wC_ite, wL_ite, wA_nil, wA_int, wA_long, wE_call, wL_call, wS_skip, wS_seq, wS_set, wS_setL, wS_inc, wS_if, wS_put, wS_putL, wS_putOp, wS_putOpL, wS_ast, wS_astL, wS_aop, wS_aopL, wS_ret, wS_retL, wS_retV, wS_do, wS_pop, wS_dead, wS_sw, wF_body, Nat.reduceAdd, Nat.zero_add, Bool.not_not, true_and, and_true, if_true, if_false, ↓reduceIte, eq_self, Value.int.injEq, Value.long.injEq, exists_eq_left', ik_b1, ik_b0, ik_bz0, ik_bz3, ik_bz3_1, ik_bz3_0, ik_cmp, ik_cmpL, ik_eI, ik_eL, ik_as, ik_i0, ik_i1, decide_eq_true_eq, decide_eq_false_iff_not, decide_true, decide_false, Bool.not_true, Bool.not_false, reduceCtorEq, forall_const, false_implies, true_implies, implies_true, true_and, and_true, and_self, false_and, and_false, Bool.and_true, Bool.true_and, not_true_eq_false, not_false_eq_true, if_true, if_false, ite_true, ite_false, ik_bz3_0, ik_bz3_1, ik_bz0, wE_ite2, h0, p1, p2]
  unfold fX10_wipe_7
  simp (decide := true) only [wE_lit, wL_lit, wE_loc, wL_loc, wE_add, wE_sub, wE_mul, wE_and, wE_or, wE_xor, wE_shl, wE_shr, wE_ushr, wE_div, wE_rem, wE_neg, wE_i2b, wE_l2i, wL_i2l, wL_add, wL_mul, wE_fld, wL_fld, wE_arr, wL_arr, wC_cmp, wC_cmp0, wC_cmpL, wC_and, wC_or, wC_not, wC_ite, wL_ite, wA_nil, wA_int, wA_long, wE_call, wL_call, wS_skip, wS_seq, wS_set, wS_setL, wS_inc, wS_if, wS_put, wS_putL, wS_putOp, wS_putOpL, wS_ast, wS_astL, wS_aop, wS_aopL, wS_ret, wS_retL, wS_retV, wS_do, wS_pop, wS_dead, wS_sw, wF_body, Nat.reduceAdd, Nat.zero_add, Bool.not_not, true_and, and_true, if_true, if_false, ↓reduceIte, eq_self, Value.int.injEq, Value.long.injEq, exists_eq_left', ik_b1, ik_b0, ik_bz0, ik_bz3, ik_bz3_1, ik_bz3_0, ik_cmp, ik_cmpL, ik_eI, ik_eL, ik_as, ik_i0, ik_i1, decide_eq_true_eq, decide_eq_false_iff_not, decide_true, decide_false, Bool.not_true, Bool.not_false, reduceCtorEq, forall_const, false_implies, true_implies, implies_true, true_and, and_true, and_self, false_and, and_false, Bool.and_true, Bool.true_and, not_true_eq_false, not_false_eq_true, if_true, if_false, ite_true, ite_false, ik_bz3_0, ik_bz3_1, ik_bz0, e, ik_ix_nI (show N < 24 by omega) (by omega), Option.some.injEq]
theorem w_grow7 {g : GG} {N k : Nat} (h0 : g.1 7 0 = nI 24) (hN : N < 24) (hk : k < 12) (e9 : g.1 9 N = nI k) (v : Int32) (Q : Value → GG → Prop) : wF fX10_grow_7 [.int (nI N), .int v] g Q ↔ Q (.int 1) (ik_si (ik_si g 8 (12 * N + k) v) 9 N (nI (k + 1))) := by
  refine wF_eq (eq_of_wF ?_) Q
  have p1 := nI_pos' (n := N) (by omega)
  have p2 := nI_lt (show N < 24 by omega) (by omega)
  have p3 : ¬ nI k < 0 := nI_pos (by omega)
  have p4 : ¬ nI 12 ≤ nI k := nI_ge hk (by omega)
  have e : ∀ Q : Value → GG → Prop, wF fX10_stands_7 [.int (nI N)] g Q ↔ Q (.int 1) g := by
    intro Q
    refine wF_eq (eq_of_wF ?_) Q
    unfold fX10_stands_7
    simp (decide := true) only [wE_lit, wL_lit, wE_loc, wL_loc, wE_add, wE_sub, wE_mul, wE_and, wE_or, wE_xor, wE_shl, wE_shr, wE_ushr, wE_div, wE_rem, wE_neg, wE_i2b, wE_l2i, wL_i2l, wL_add, wL_mul, wE_fld, wL_fld, wE_arr, wL_arr, wC_cmp, wC_cmp0, wC_cmpL, wC_and, wC_or, wC_not, wC_ite, wL_ite, wA_nil, wA_int, wA_long, wE_call, wL_call, wS_skip, wS_seq, wS_set, wS_setL, wS_inc, wS_if, wS_put, wS_putL, wS_putOp, wS_putOpL, wS_ast, wS_astL, wS_aop, wS_aopL, wS_ret, wS_retL, wS_retV, wS_do, wS_pop, wS_dead, wS_sw, wF_body, Nat.reduceAdd, Nat.zero_add, Bool.not_not, true_and, and_true, if_true, if_false, ↓reduceIte, eq_self, Value.int.injEq, Value.long.injEq, exists_eq_left', ik_b1, ik_b0, ik_bz0, ik_bz3, ik_bz3_1, ik_bz3_0, ik_cmp, ik_cmpL, ik_eI, ik_eL, ik_as, ik_i0, ik_i1, decide_eq_true_eq, decide_eq_false_iff_not, decide_true, decide_false, Bool.not_true, Bool.not_false, reduceCtorEq, forall_const, false_implies, true_implies, implies_true, true_and, and_true, and_self, false_and, and_false, Bool.and_true, Bool.true_and, not_true_eq_false, not_false_eq_true, if_true, if_false, ite_true, ite_false, ik_bz3_0, ik_bz3_1, ik_bz0, wE_ite2, h0, p1, p2]
  unfold fX10_grow_7
  simp (decide := true) only [wE_lit, wL_lit, wE_loc, wL_loc, wE_add, wE_sub, wE_mul, wE_and, wE_or, wE_xor, wE_shl, wE_shr, wE_ushr, wE_div, wE_rem, wE_neg, wE_i2b, wE_l2i, wL_i2l, wL_add, wL_mul, wE_fld, wL_fld, wE_arr, wL_arr, wC_cmp, wC_cmp0, wC_cmpL, wC_and, wC_or, wC_not, wC_ite, wL_ite, wA_nil, wA_int, wA_long, wE_call, wL_call, wS_skip, wS_seq, wS_set, wS_setL, wS_inc, wS_if, wS_put, wS_putL, wS_putOp, wS_putOpL, wS_ast, wS_astL, wS_aop, wS_aopL, wS_ret, wS_retL, wS_retV, wS_do, wS_pop, wS_dead, wS_sw, wF_body, Nat.reduceAdd, Nat.zero_add, Bool.not_not, true_and, and_true, if_true, if_false, ↓reduceIte, eq_self, Value.int.injEq, Value.long.injEq, exists_eq_left', ik_b1, ik_b0, ik_bz0, ik_bz3, ik_bz3_1, ik_bz3_0, ik_cmp, ik_cmpL, ik_eI, ik_eL, ik_as, ik_i0, ik_i1, decide_eq_true_eq, decide_eq_false_iff_not, decide_true, decide_false, Bool.not_true, Bool.not_false, reduceCtorEq, forall_const, false_implies, true_implies, implies_true, true_and, and_true, and_self, false_and, and_false, Bool.and_true, Bool.true_and, not_true_eq_false, not_false_eq_true, if_true, if_false, ite_true, ite_false, ik_bz3_0, ik_bz3_1, ik_bz0, e, e9, show (12 : Int32) = nI 12 from rfl, p3, p4, ik_ix_nI (show N < 24 by omega) (by omega), Option.some.injEq, pk_mul, nI_add, show N * 12 + k = 12 * N + k by omega, ik_ix_nI (show 12 * N + k < 288 by omega) (by omega), ik_si_row, ik_bo, nI_1]
theorem nm_off {g : GG} {N k a : Nat} {b : Nat → Nat} (h8 : a ≠ 8) (h9 : a ≠ 9) : (ik_nm g N k b).1 a = g.1 a := by
  funext j
  simp [ik_nm, h8, h9]
theorem nm_9 (g : GG) (N k : Nat) (b : Nat → Nat) : (ik_nm g N k b).1 9 N = nI k := by simp [ik_nm]
theorem nm_9o {g : GG} {N k j : Nat} {b : Nat → Nat} (h : j ≠ N) : (ik_nm g N k b).1 9 j = g.1 9 j := by simp [ik_nm, h]
theorem nm_8o {g : GG} {N k j : Nat} {b : Nat → Nat} (h : j < 12 * N) : (ik_nm g N k b).1 8 j = g.1 8 j := by
  have : ¬ (12 * N ≤ j ∧ j < 12 * N + k) := by omega
  simp [ik_nm, this]
theorem nm_8 {g : GG} {N k j : Nat} {b : Nat → Nat} (h : j < k) : (ik_nm g N k b).1 8 (12 * N + j) = nI (b j - 96) := by
  have : 12 * N + j - 12 * N = j := by omega
  simp [ik_nm, h, this]
theorem mm_off {g : GG} {N k a : Nat} {b : Nat → Nat} (h : a ≠ 4) : (ik_mm g N k b).1 a = g.1 a := by
  funext j
  simp [ik_mm, h]
theorem mm_4o {g : GG} {N k j : Nat} {b : Nat → Nat} (h : j < 12 * N) : (ik_mm g N k b).1 4 j = g.1 4 j := by
  have : ¬ (12 * N ≤ j ∧ j < 12 * N + k) := by omega
  simp [ik_mm, this]
theorem mm_4 {g : GG} {N k j : Nat} {b : Nat → Nat} (h : j < k) : (ik_mm g N k b).1 4 (12 * N + j) = nI (b j) := by
  have : 12 * N + j - 12 * N = j := by omega
  simp [ik_mm, h, this]
theorem w_read6 {x : GG} {N n t : Nat} {b : Nat → Nat} (h24 : x.1 7 0 = nI 24) (hN : N < 24) (h6 : x.1 6 6 = nI N) (hn : n ≤ 12) (ht : t ≤ 400) (hnt : n ≤ t) (h1 : x.1 1 1 = nI t) (hb : ∀ k, k < t → b k < 256 ∧ x.1 2 k = nI (b k)) (hl : ∀ i, i < N → ∃ l, l ≤ 12 ∧ x.1 9 i = nI l) :
    wF fX6_read [.int (nI n)] x (fun v g => (v = .int 1 ∧ g = ik_nm x N n b ∧ (∀ q, q < n → ik_lb (b q)) ∧ ∀ i, i < N → ik_cn ((ik_nm x N n b).1 9) ((ik_nm x N n b).1 8) i N ≠ 0) ∨
      (v = .int 0 ∧ ¬ ((∀ q, q < n → ik_lb (b q)) ∧ ∀ i, i < N → ik_cn ((ik_nm x N n b).1 9) ((ik_nm x N n b).1 8) i N ≠ 0) ∧ ∃ k, k ≤ n ∧ g = ik_nm x N k b)) := by
  unfold fX6_read
  simp (decide := true) only [wE_lit, wL_lit, wE_loc, wL_loc, wE_add, wE_sub, wE_mul, wE_and, wE_or, wE_xor, wE_shl, wE_shr, wE_ushr, wE_div, wE_rem, wE_neg, wE_i2b, wE_l2i, wL_i2l, wL_add, wL_mul, wE_fld, wL_fld, wE_arr, wL_arr, wC_cmp, wC_cmp0, wC_cmpL, wC_and, wC_or, wC_not, wC_ite, wL_ite, wA_nil, wA_int, wA_long, wE_call, wL_call, wS_skip, wS_seq, wS_set, wS_setL, wS_inc, wS_if, wS_put, wS_putL, wS_putOp, wS_putOpL, wS_ast, wS_astL, wS_aop, wS_aopL, wS_ret, wS_retL, wS_retV, wS_do, wS_pop, wS_dead, wS_sw, wF_body, Nat.reduceAdd, Nat.zero_add, Bool.not_not, true_and, and_true, if_true, if_false, ↓reduceIte, eq_self, Value.int.injEq, Value.long.injEq, exists_eq_left', ik_b1, ik_b0, ik_bz0, ik_bz3, ik_bz3_1, ik_bz3_0, ik_cmp, ik_cmpL, ik_eI, ik_eL, ik_as, ik_i0, ik_i1, decide_eq_true_eq, decide_eq_false_iff_not, decide_true, decide_false, Bool.not_true, Bool.not_false, reduceCtorEq, forall_const, false_implies, true_implies, implies_true, true_and, and_true, and_self, false_and, and_false, Bool.and_true, Bool.true_and, not_true_eq_false, not_false_eq_true, if_true, if_false, ite_true, ite_false, ik_bz3_0, ik_bz3_1, ik_bz0, h6, w_wipe7 h24 hN, ← ik_nm_0 x N b]
  refine wS_for _ _ (fun t σ => σ.1 3 = nI t ∧ σ.1 2 = nI n ∧ (∀ q, q < t → ik_lb (b q)) ∧ σ.2.2 = ik_nm x N t b) 0 n _ (by simp [upd, ik_eI, nI_0]) (by omega) (by omega) ?_ ?_ ?_
  · rintro k ⟨s1, s2, s3⟩ hk ⟨e1, e2, e3, e4⟩
    simp only at e1 e2 e3 e4
    simp (decide := true) only [wE_lit, wL_lit, wE_loc, wL_loc, wE_add, wE_sub, wE_mul, wE_and, wE_or, wE_xor, wE_shl, wE_shr, wE_ushr, wE_div, wE_rem, wE_neg, wE_i2b, wE_l2i, wL_i2l, wL_add, wL_mul, wE_fld, wL_fld, wE_arr, wL_arr, wC_cmp, wC_cmp0, wC_cmpL, wC_and, wC_or, wC_not, wC_ite, wL_ite, wA_nil, wA_int, wA_long, wE_call, wL_call, wS_skip, wS_seq, wS_set, wS_setL, wS_inc, wS_if, wS_put, wS_putL, wS_putOp, wS_putOpL, wS_ast, wS_astL, wS_aop, wS_aopL, wS_ret, wS_retL, wS_retV, wS_do, wS_pop, wS_dead, wS_sw, wF_body, Nat.reduceAdd, Nat.zero_add, Bool.not_not, true_and, and_true, if_true, if_false, ↓reduceIte, eq_self, Value.int.injEq, Value.long.injEq, exists_eq_left', ik_b1, ik_b0, ik_bz0, ik_bz3, ik_bz3_1, ik_bz3_0, ik_cmp, ik_cmpL, ik_eI, ik_eL, ik_as, ik_i0, ik_i1, decide_eq_true_eq, decide_eq_false_iff_not, decide_true, decide_false, Bool.not_true, Bool.not_false, reduceCtorEq, forall_const, false_implies, true_implies, implies_true, true_and, and_true, and_self, false_and, and_false, Bool.and_true, Bool.true_and, not_true_eq_false, not_false_eq_true, if_true, if_false, ite_true, ite_false, ik_bz3_0, ik_bz3_1, ik_bz0, e1, e2, nI_ltI (show k < 2 ^ 31 by omega) (show n < 2 ^ 31 by omega)]
  · rintro k ⟨s1, s2, s3⟩ hk ⟨e1, e2, e3, e4⟩
    simp only at e1 e2 e3 e4
    subst e4
    obtain ⟨b1, b2⟩ := hb k (by omega)
    have f1 := w_at9 (g := ik_nm x N k b) (n := t) (k := k) ht (by rw [nm_off (by decide) (by decide)]; exact h1) (by omega)
    have f2 : (ik_nm x N k b).1 2 k = nI (b k) := by rw [nm_off (by decide) (by decide)]; exact b2
    have f3 : (ik_nm x N k b).1 6 6 = nI N := by rw [nm_off (by decide) (by decide)]; exact h6
    have f4 := w_grow7 (g := ik_nm x N k b) (N := N) (k := k) (by rw [nm_off (by decide) (by decide)]; exact h24) hN (by omega) (nm_9 x N k b)
    by_cases c : ik_lb (b k)
    · have c' := (ik_lbX b1).mpr c
      have e5 : nI (b k) - 97 + 1 = nI (b k - 96) := by
        have := ik_c97 (b k - 96)
        rw [show b k - 96 + 96 = b k by unfold ik_lb at c; omega] at this
        exact this
      simp (decide := true) only [wE_lit, wL_lit, wE_loc, wL_loc, wE_add, wE_sub, wE_mul, wE_and, wE_or, wE_xor, wE_shl, wE_shr, wE_ushr, wE_div, wE_rem, wE_neg, wE_i2b, wE_l2i, wL_i2l, wL_add, wL_mul, wE_fld, wL_fld, wE_arr, wL_arr, wC_cmp, wC_cmp0, wC_cmpL, wC_and, wC_or, wC_not, wC_ite, wL_ite, wA_nil, wA_int, wA_long, wE_call, wL_call, wS_skip, wS_seq, wS_set, wS_setL, wS_inc, wS_if, wS_put, wS_putL, wS_putOp, wS_putOpL, wS_ast, wS_astL, wS_aop, wS_aopL, wS_ret, wS_retL, wS_retV, wS_do, wS_pop, wS_dead, wS_sw, wF_body, Nat.reduceAdd, Nat.zero_add, Bool.not_not, true_and, and_true, if_true, if_false, ↓reduceIte, eq_self, Value.int.injEq, Value.long.injEq, exists_eq_left', ik_b1, ik_b0, ik_bz0, ik_bz3, ik_bz3_1, ik_bz3_0, ik_cmp, ik_cmpL, ik_eI, ik_eL, ik_as, ik_i0, ik_i1, decide_eq_true_eq, decide_eq_false_iff_not, decide_true, decide_false, Bool.not_true, Bool.not_false, reduceCtorEq, forall_const, false_implies, true_implies, implies_true, true_and, and_true, and_self, false_and, and_false, Bool.and_true, Bool.true_and, not_true_eq_false, not_false_eq_true, if_true, if_false, ite_true, ite_false, ik_bz3_0, ik_bz3_1, ik_bz0, e1, e2, f1, f2, w_letterX, c', f3, f4, upd_at, upd_off, e5, ik_nm_s, nI_1]
      intro q hq
      by_cases e : q = k
      · rw [e]; exact c
      · exact e3 q (by omega)
    · have c' : ¬ (97 ≤ nI (b k) ∧ nI (b k) ≤ 122) := fun h => c ((ik_lbX b1).mp h)
      simp (decide := true) only [wE_lit, wL_lit, wE_loc, wL_loc, wE_add, wE_sub, wE_mul, wE_and, wE_or, wE_xor, wE_shl, wE_shr, wE_ushr, wE_div, wE_rem, wE_neg, wE_i2b, wE_l2i, wL_i2l, wL_add, wL_mul, wE_fld, wL_fld, wE_arr, wL_arr, wC_cmp, wC_cmp0, wC_cmpL, wC_and, wC_or, wC_not, wC_ite, wL_ite, wA_nil, wA_int, wA_long, wE_call, wL_call, wS_skip, wS_seq, wS_set, wS_setL, wS_inc, wS_if, wS_put, wS_putL, wS_putOp, wS_putOpL, wS_ast, wS_astL, wS_aop, wS_aopL, wS_ret, wS_retL, wS_retV, wS_do, wS_pop, wS_dead, wS_sw, wF_body, Nat.reduceAdd, Nat.zero_add, Bool.not_not, true_and, and_true, if_true, if_false, ↓reduceIte, eq_self, Value.int.injEq, Value.long.injEq, exists_eq_left', ik_b1, ik_b0, ik_bz0, ik_bz3, ik_bz3_1, ik_bz3_0, ik_cmp, ik_cmpL, ik_eI, ik_eL, ik_as, ik_i0, ik_i1, decide_eq_true_eq, decide_eq_false_iff_not, decide_true, decide_false, Bool.not_true, Bool.not_false, reduceCtorEq, forall_const, false_implies, true_implies, implies_true, true_and, and_true, and_self, false_and, and_false, Bool.and_true, Bool.true_and, not_true_eq_false, not_false_eq_true, if_true, if_false, ite_true, ite_false, ik_bz3_0, ik_bz3_1, ik_bz0, e1, e2, f1, f2, w_letterX, c', f3, f4, upd_at, upd_off]
      exact Or.inr ⟨fun h => c (h.1 k hk), k, by omega, rfl⟩
  · rintro ⟨s1, s2, s3⟩ ⟨e1, e2, e3, e4⟩
    simp only at e1 e2 e3 e4
    subst e4
    obtain ⟨g, hg⟩ : ∃ g, g = ik_nm x N n b := ⟨_, rfl⟩
    have g6 : g.1 6 6 = nI N := by rw [hg, nm_off (by decide) (by decide)]; exact h6
    have g24 : g.1 7 0 = nI 24 := by rw [hg, nm_off (by decide) (by decide)]; exact h24
    rw [← hg]
    simp (decide := true) only [wE_lit, wL_lit, wE_loc, wL_loc, wE_add, wE_sub, wE_mul, wE_and, wE_or, wE_xor, wE_shl, wE_shr, wE_ushr, wE_div, wE_rem, wE_neg, wE_i2b, wE_l2i, wL_i2l, wL_add, wL_mul, wE_fld, wL_fld, wE_arr, wL_arr, wC_cmp, wC_cmp0, wC_cmpL, wC_and, wC_or, wC_not, wC_ite, wL_ite, wA_nil, wA_int, wA_long, wE_call, wL_call, wS_skip, wS_seq, wS_set, wS_setL, wS_inc, wS_if, wS_put, wS_putL, wS_putOp, wS_putOpL, wS_ast, wS_astL, wS_aop, wS_aopL, wS_ret, wS_retL, wS_retV, wS_do, wS_pop, wS_dead, wS_sw, wF_body, Nat.reduceAdd, Nat.zero_add, Bool.not_not, true_and, and_true, if_true, if_false, ↓reduceIte, eq_self, Value.int.injEq, Value.long.injEq, exists_eq_left', ik_b1, ik_b0, ik_bz0, ik_bz3, ik_bz3_1, ik_bz3_0, ik_cmp, ik_cmpL, ik_eI, ik_eL, ik_as, ik_i0, ik_i1, decide_eq_true_eq, decide_eq_false_iff_not, decide_true, decide_false, Bool.not_true, Bool.not_false, reduceCtorEq, forall_const, false_implies, true_implies, implies_true, true_and, and_true, and_self, false_and, and_false, Bool.and_true, Bool.true_and, not_true_eq_false, not_false_eq_true, if_true, if_false, ite_true, ite_false, ik_bz3_0, ik_bz3_1, ik_bz0]
    refine wS_for _ _ (fun t σ => σ.1 3 = nI t ∧ (∀ q, q < t → ik_cn (g.1 9) (g.1 8) q N ≠ 0) ∧ σ.2.2 = g) 0 N _ (by simp [upd, nI_0]) (by omega) (by omega) ?_ ?_ ?_
    · rintro k ⟨s1, s2, s3⟩ hk ⟨e1, e2, e4⟩
      simp only at e1 e2 e4
      subst e4
      exact wc_1 (by exact g6) (by omega) hk e1
    · rintro k ⟨s1, s2, s3⟩ hk ⟨e1, e2, e4⟩
      simp only at e1 e2 e4
      subst e4
      obtain ⟨l, l1, l2⟩ := hl k hk
      have f1 := w_compare7 (x := s3) (i := k) (j := N) g24 (by omega) hN (ni := l) (nj := n) (by rw [hg, nm_9o (by omega)]; exact l2) (by rw [hg, nm_9]) l1 hn
      simp (decide := true) only [wE_lit, wL_lit, wE_loc, wL_loc, wE_add, wE_sub, wE_mul, wE_and, wE_or, wE_xor, wE_shl, wE_shr, wE_ushr, wE_div, wE_rem, wE_neg, wE_i2b, wE_l2i, wL_i2l, wL_add, wL_mul, wE_fld, wL_fld, wE_arr, wL_arr, wC_cmp, wC_cmp0, wC_cmpL, wC_and, wC_or, wC_not, wC_ite, wL_ite, wA_nil, wA_int, wA_long, wE_call, wL_call, wS_skip, wS_seq, wS_set, wS_setL, wS_inc, wS_if, wS_put, wS_putL, wS_putOp, wS_putOpL, wS_ast, wS_astL, wS_aop, wS_aopL, wS_ret, wS_retL, wS_retV, wS_do, wS_pop, wS_dead, wS_sw, wF_body, Nat.reduceAdd, Nat.zero_add, Bool.not_not, true_and, and_true, if_true, if_false, ↓reduceIte, eq_self, Value.int.injEq, Value.long.injEq, exists_eq_left', ik_b1, ik_b0, ik_bz0, ik_bz3, ik_bz3_1, ik_bz3_0, ik_cmp, ik_cmpL, ik_eI, ik_eL, ik_as, ik_i0, ik_i1, decide_eq_true_eq, decide_eq_false_iff_not, decide_true, decide_false, Bool.not_true, Bool.not_false, reduceCtorEq, forall_const, false_implies, true_implies, implies_true, true_and, and_true, and_self, false_and, and_false, Bool.and_true, Bool.true_and, not_true_eq_false, not_false_eq_true, if_true, if_false, ite_true, ite_false, ik_bz3_0, ik_bz3_1, ik_bz0, e1, g6, f1, upd_at, upd_off, nI_1]
      refine ⟨fun h => Or.inr ⟨fun h2 => h2.2 k hk h, n, Nat.le_refl _, hg⟩, fun h q hq => ?_⟩
      by_cases e : q = k
      · rw [e]; exact h
      · exact e2 q (by omega)
    · rintro ⟨s1, s2, s3⟩ ⟨e1, e2, e4⟩
      simp only at e1 e2 e4
      subst e4
      simp (decide := true) only [wE_lit, wL_lit, wE_loc, wL_loc, wE_add, wE_sub, wE_mul, wE_and, wE_or, wE_xor, wE_shl, wE_shr, wE_ushr, wE_div, wE_rem, wE_neg, wE_i2b, wE_l2i, wL_i2l, wL_add, wL_mul, wE_fld, wL_fld, wE_arr, wL_arr, wC_cmp, wC_cmp0, wC_cmpL, wC_and, wC_or, wC_not, wC_ite, wL_ite, wA_nil, wA_int, wA_long, wE_call, wL_call, wS_skip, wS_seq, wS_set, wS_setL, wS_inc, wS_if, wS_put, wS_putL, wS_putOp, wS_putOpL, wS_ast, wS_astL, wS_aop, wS_aopL, wS_ret, wS_retL, wS_retV, wS_do, wS_pop, wS_dead, wS_sw, wF_body, Nat.reduceAdd, Nat.zero_add, Bool.not_not, true_and, and_true, if_true, if_false, ↓reduceIte, eq_self, Value.int.injEq, Value.long.injEq, exists_eq_left', ik_b1, ik_b0, ik_bz0, ik_bz3, ik_bz3_1, ik_bz3_0, ik_cmp, ik_cmpL, ik_eI, ik_eL, ik_as, ik_i0, ik_i1, decide_eq_true_eq, decide_eq_false_iff_not, decide_true, decide_false, Bool.not_true, Bool.not_false, reduceCtorEq, forall_const, false_implies, true_implies, implies_true, true_and, and_true, and_self, false_and, and_false, Bool.and_true, Bool.true_and, not_true_eq_false, not_false_eq_true, if_true, if_false, ite_true, ite_false, ik_bz3_0, ik_bz3_1, ik_bz0]
      exact Or.inl ⟨e3, e2⟩
