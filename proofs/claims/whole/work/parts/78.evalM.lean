/-! states that differ only in what a question may overwrite -/
def eqM (m g : GG) : Prop := (∀ a, (1 ≤ a ∧ a ≤ 19) ∨ (22 ≤ a ∧ a ≤ 26) ∨ (35 ≤ a ∧ a ≤ 43) ∨ (47 ≤ a ∧ a ≤ 51) → g.1 a = m.1 a) ∧ ∀ j, j < 30 → g.1 0 j = m.1 0 j
def eqX (x y : GG) : Prop := (∀ a, a ≠ 25 → a ≠ 31 → a ≠ 35 → a ≠ 37 → a ≠ 38 → a ≠ 48 → a ≠ 49 → a ≠ 54 → a ≠ 55 → a ≠ 59 → a ≠ 60 → a ≠ 61 → a ≠ 64 → a ≠ 65 → y.1 a = x.1 a) ∧ (∀ j, j ≠ 8 → y.1 25 j = x.1 25 j) ∧ (∀ j, j < 5 → y.1 35 j = x.1 35 j) ∧ (∀ j, j < 11 → y.1 48 j = x.1 48 j) ∧ (∀ j, j < 6 → y.1 49 j = x.1 49 j) ∧ y.2 = x.2
theorem eqM.rfl' (m : GG) : eqM m m := ⟨fun _ _ => rfl, fun _ _ => rfl⟩
theorem eqX.rfl' (x : GG) : eqX x x := ⟨fun _ _ _ _ _ _ _ _ _ _ _ _ _ _ _ => rfl, fun _ _ => rfl, fun _ _ => rfl, fun _ _ => rfl, fun _ _ => rfl, rfl⟩
theorem eqM.tr {a b c : GG} (h : eqM a b) (k : eqM b c) : eqM a c := ⟨fun q hq => (k.1 q hq).trans (h.1 q hq), fun j hj => (k.2 j hj).trans (h.2 j hj)⟩
theorem eqX.tr {a b c : GG} (h : eqX a b) (k : eqX b c) : eqX a c := ⟨fun q h1 h2 h3 h4 h5 h6 h7 h8 h9 h10 h11 h12 h13 h14 => (k.1 q h1 h2 h3 h4 h5 h6 h7 h8 h9 h10 h11 h12 h13 h14).trans (h.1 q h1 h2 h3 h4 h5 h6 h7 h8 h9 h10 h11 h12 h13 h14), fun j hj => (k.2.1 j hj).trans (h.2.1 j hj), fun j hj => (k.2.2.1 j hj).trans (h.2.2.1 j hj), fun j hj => (k.2.2.2.1 j hj).trans (h.2.2.2.1 j hj), fun j hj => (k.2.2.2.2.1 j hj).trans (h.2.2.2.2.1 j hj), k.2.2.2.2.2.trans h.2.2.2.2.2⟩
theorem eqM.si {m g : GG} (h : eqM m g) {a j : Nat} (v : Int32) (ha : (a = 0 ∧ 30 ≤ j) ∨ a = 20 ∨ a = 21 ∨ (27 ≤ a ∧ a ≤ 34) ∨ (44 ≤ a ∧ a ≤ 46)) : eqM m (ik_si g a j v) := by
  refine ⟨fun q hq => ?_, fun k hk => ?_⟩
  · rw [ik_si_row _ _ _ _ _ (by omega)]; exact h.1 q hq
  · by_cases e : a = 0
    · subst e
      rw [ik_si_ne _ _ _ _ _ (by omega)]; exact h.2 k hk
    · rw [ik_si_row _ _ _ _ _ (fun q => e q.symm)]; exact h.2 k hk
theorem eqM.sl {m g : GG} (h : eqM m g) (a j : Nat) (v : Int64) : eqM m (ik_sl g a j v) := h
theorem kEm_of {m g : GG} (h : eqM m g) : ∀ a j, kEm a j = true → g.1 a j = m.1 a j := by
  intro a j hk
  by_cases a0 : a = 0
  · subst a0
    exact h.2 j (by have := kEm_0 hk; omega)
  · rw [h.1 a (by have := kEm_a hk a0; omega)]
theorem eqX.k {x y : GG} (h : eqX x y) : ∀ a j, kEx a j = true → y.1 a j = x.1 a j := by
  intro a j hk
  obtain ⟨h1, h2, h3, h4, h5, -⟩ := h
  by_cases e25 : a = 25
  · subst e25
    by_cases e8 : j = 8
    · subst e8; cases hk
    · exact h2 j e8
  by_cases e35 : a = 35
  · subst e35
    have := kEx_35 hk
    exact h3 j (by omega)
  by_cases e48 : a = 48
  · subst e48
    by_cases e : j < 11
    · exact h4 j e
    · have : j = 9 ∨ j = 10 := by simpa (decide := true) [kEx, kNx, kBx, kTix, kLix, kHx, kCx, kNox, kSx, kRx, kPx] using hk
      omega
  by_cases e49 : a = 49
  · subst e49
    have : j = 5 := by simpa (decide := true) [kEx, kNx, kBx, kTix, kLix, kHx, kCx, kNox, kSx, kRx, kPx] using hk
    exact h5 j (by omega)
  rw [h1 a e25 (fun e => by subst e; cases hk) e35 (fun e => by subst e; cases hk) (fun e => by subst e; cases hk) e48 e49 (fun e => by subst e; cases hk) (fun e => by subst e; cases hk) (fun e => by subst e; cases hk) (fun e => by subst e; cases hk) (fun e => by subst e; cases hk) (fun e => by subst e; cases hk) (fun e => by subst e; cases hk)]
theorem rA.eq {x m y g : GG} {N B S : Nat} (h : rA x m N B S) (hx : eqX x y) (hm : eqM m g) : rA y g N B S := by
  refine h.frT hx.k (fun a j _ => by rw [hx.2.2.2.2.2]) (kEm_of hm) ?_
  rw [hx.1 1 (by decide) (by decide) (by decide) (by decide) (by decide) (by decide) (by decide) (by decide) (by decide) (by decide) (by decide) (by decide) (by decide) (by decide), hx.1 2 (by decide) (by decide) (by decide) (by decide) (by decide) (by decide) (by decide) (by decide) (by decide) (by decide) (by decide) (by decide) (by decide) (by decide), hm.1 1 (by omega), hm.2 1 (by decide)]
  exact h.1
/-! codes at work: the reference -/
def okS (g : GG) (n : Nat) (v : Option Int32) : Prop := match v with
  | none => g.1 34 n = 1
  | some u => g.1 34 n = 0 ∧ g.1 33 n = u
def evS (g : GG) : List (Option Int32) → Prop
  | [] => True
  | v :: r => okS g r.length v ∧ evS g r
theorem evS_up {g : GG} {n a : Nat} {v : Int32} (ha : a = 33 ∨ a = 34) : ∀ {st : List (Option Int32)}, evS g st → st.length ≤ n → evS (ik_si g a n v) st
  | [], _, _ => trivial
  | w :: r, h, hl => by
    have hl' : r.length + 1 ≤ n := hl
    have key : ∀ b, (ik_si g a n v).1 b r.length = g.1 b r.length := fun b => by
      by_cases e : b = a
      · rw [e, ik_si_ne _ _ _ _ _ (by omega)]
      · rw [ik_si_row _ _ _ _ _ e]
    refine ⟨?_, evS_up ha h.2 (by omega)⟩
    unfold okS
    rw [key, key]
    exact h.1
theorem evS_o {g : GG} {a n : Nat} {v : Int32} (h1 : a ≠ 33) (h2 : a ≠ 34) : ∀ {st : List (Option Int32)}, evS g st → evS (ik_si g a n v) st
  | [], _ => trivial
  | w :: r, h => by
    refine ⟨?_, evS_o h1 h2 h.2⟩
    unfold okS
    rw [ik_si_row _ _ _ _ _ (fun e => h1 e.symm), ik_si_row _ _ _ _ _ (fun e => h2 e.symm)]
    exact h.1
def sg_op (v : Nat) : Prop := v = 43 ∨ v = 45 ∨ v = 42 ∨ v = 47 ∨ v = 37 ∨ v = 60 ∨ v = 62 ∨ v = 61
theorem w_worked {op : Nat} (ho : sg_op op) (a b : Int32) (g : GG) (Q : Value → GG → Prop) : wF fX12_worked [.int (nI op), .int a, .int b] g Q ↔ Q (.int (if (op = 47 ∨ op = 37) ∧ b = 0 then 0 else ev_w op a b)) g := by
  refine wF_eq (eq_of_wF ?_) Q
  unfold fX12_worked
  rcases ho with e | e | e | e | e | e | e | e <;> subst e
  · simp (decide := true) [ik_pickS, List.find?, wE_lit, wL_lit, wE_loc, wL_loc, wE_add, wE_sub, wE_mul, wE_and, wE_or, wE_xor, wE_shl, wE_shr, wE_ushr, wE_div, wE_rem, wE_neg, wE_i2b, wE_l2i, wL_i2l, wL_add, wL_mul, wE_fld, wL_fld, wE_arr, wL_arr, wC_cmp, wC_cmp0, wC_cmpL, wC_and, wC_or, wC_not, wC_ite, wL_ite, wA_nil, wA_int, wA_long, wE_call, wL_call, wS_skip, wS_seq, wS_set, wS_setL, wS_inc, wS_if, wS_put, wS_putL, wS_putOp, wS_putOpL, wS_ast, wS_astL, wS_aop, wS_aopL, wS_ret, wS_retL, wS_retV, wS_do, wS_pop, wS_dead, wS_sw, wF_body, Nat.reduceAdd, Nat.zero_add, Bool.not_not, true_and, and_true, if_true, if_false, ↓reduceIte, eq_self, Value.int.injEq, Value.long.injEq, exists_eq_left', ik_b1, ik_b0, ik_bz0, ik_bz3, ik_bz3_1, ik_bz3_0, ik_cmp, ik_cmpL, ik_eI, ik_eL, ik_as, ik_i0, ik_i1, decide_eq_true_eq, decide_eq_false_iff_not, decide_true, decide_false, Bool.not_true, Bool.not_false, reduceCtorEq, forall_const, false_implies, true_implies, implies_true, true_and, and_true, and_self, false_and, and_false, Bool.and_true, Bool.true_and, not_true_eq_false, not_false_eq_true, if_true, if_false, ite_true, ite_false, ik_bz3_0, ik_bz3_1, ik_bz0, nI, ev_w]
  · simp (decide := true) [ik_pickS, List.find?, wE_lit, wL_lit, wE_loc, wL_loc, wE_add, wE_sub, wE_mul, wE_and, wE_or, wE_xor, wE_shl, wE_shr, wE_ushr, wE_div, wE_rem, wE_neg, wE_i2b, wE_l2i, wL_i2l, wL_add, wL_mul, wE_fld, wL_fld, wE_arr, wL_arr, wC_cmp, wC_cmp0, wC_cmpL, wC_and, wC_or, wC_not, wC_ite, wL_ite, wA_nil, wA_int, wA_long, wE_call, wL_call, wS_skip, wS_seq, wS_set, wS_setL, wS_inc, wS_if, wS_put, wS_putL, wS_putOp, wS_putOpL, wS_ast, wS_astL, wS_aop, wS_aopL, wS_ret, wS_retL, wS_retV, wS_do, wS_pop, wS_dead, wS_sw, wF_body, Nat.reduceAdd, Nat.zero_add, Bool.not_not, true_and, and_true, if_true, if_false, ↓reduceIte, eq_self, Value.int.injEq, Value.long.injEq, exists_eq_left', ik_b1, ik_b0, ik_bz0, ik_bz3, ik_bz3_1, ik_bz3_0, ik_cmp, ik_cmpL, ik_eI, ik_eL, ik_as, ik_i0, ik_i1, decide_eq_true_eq, decide_eq_false_iff_not, decide_true, decide_false, Bool.not_true, Bool.not_false, reduceCtorEq, forall_const, false_implies, true_implies, implies_true, true_and, and_true, and_self, false_and, and_false, Bool.and_true, Bool.true_and, not_true_eq_false, not_false_eq_true, if_true, if_false, ite_true, ite_false, ik_bz3_0, ik_bz3_1, ik_bz0, nI, ev_w]
  · simp (decide := true) [ik_pickS, List.find?, wE_lit, wL_lit, wE_loc, wL_loc, wE_add, wE_sub, wE_mul, wE_and, wE_or, wE_xor, wE_shl, wE_shr, wE_ushr, wE_div, wE_rem, wE_neg, wE_i2b, wE_l2i, wL_i2l, wL_add, wL_mul, wE_fld, wL_fld, wE_arr, wL_arr, wC_cmp, wC_cmp0, wC_cmpL, wC_and, wC_or, wC_not, wC_ite, wL_ite, wA_nil, wA_int, wA_long, wE_call, wL_call, wS_skip, wS_seq, wS_set, wS_setL, wS_inc, wS_if, wS_put, wS_putL, wS_putOp, wS_putOpL, wS_ast, wS_astL, wS_aop, wS_aopL, wS_ret, wS_retL, wS_retV, wS_do, wS_pop, wS_dead, wS_sw, wF_body, Nat.reduceAdd, Nat.zero_add, Bool.not_not, true_and, and_true, if_true, if_false, ↓reduceIte, eq_self, Value.int.injEq, Value.long.injEq, exists_eq_left', ik_b1, ik_b0, ik_bz0, ik_bz3, ik_bz3_1, ik_bz3_0, ik_cmp, ik_cmpL, ik_eI, ik_eL, ik_as, ik_i0, ik_i1, decide_eq_true_eq, decide_eq_false_iff_not, decide_true, decide_false, Bool.not_true, Bool.not_false, reduceCtorEq, forall_const, false_implies, true_implies, implies_true, true_and, and_true, and_self, false_and, and_false, Bool.and_true, Bool.true_and, not_true_eq_false, not_false_eq_true, if_true, if_false, ite_true, ite_false, ik_bz3_0, ik_bz3_1, ik_bz0, nI, ev_w]
  · by_cases z : b = 0 <;> simp (decide := true) [ik_pickS, List.find?, wE_lit, wL_lit, wE_loc, wL_loc, wE_add, wE_sub, wE_mul, wE_and, wE_or, wE_xor, wE_shl, wE_shr, wE_ushr, wE_div, wE_rem, wE_neg, wE_i2b, wE_l2i, wL_i2l, wL_add, wL_mul, wE_fld, wL_fld, wE_arr, wL_arr, wC_cmp, wC_cmp0, wC_cmpL, wC_and, wC_or, wC_not, wC_ite, wL_ite, wA_nil, wA_int, wA_long, wE_call, wL_call, wS_skip, wS_seq, wS_set, wS_setL, wS_inc, wS_if, wS_put, wS_putL, wS_putOp, wS_putOpL, wS_ast, wS_astL, wS_aop, wS_aopL, wS_ret, wS_retL, wS_retV, wS_do, wS_pop, wS_dead, wS_sw, wF_body, Nat.reduceAdd, Nat.zero_add, Bool.not_not, true_and, and_true, if_true, if_false, ↓reduceIte, eq_self, Value.int.injEq, Value.long.injEq, exists_eq_left', ik_b1, ik_b0, ik_bz0, ik_bz3, ik_bz3_1, ik_bz3_0, ik_cmp, ik_cmpL, ik_eI, ik_eL, ik_as, ik_i0, ik_i1, decide_eq_true_eq, decide_eq_false_iff_not, decide_true, decide_false, Bool.not_true, Bool.not_false, reduceCtorEq, forall_const, false_implies, true_implies, implies_true, true_and, and_true, and_self, false_and, and_false, Bool.and_true, Bool.true_and, not_true_eq_false, not_false_eq_true, if_true, if_false, ite_true, ite_false, ik_bz3_0, ik_bz3_1, ik_bz0, nI, ev_w, wE_ite, z]
  · by_cases z : b = 0 <;> simp (decide := true) [ik_pickS, List.find?, wE_lit, wL_lit, wE_loc, wL_loc, wE_add, wE_sub, wE_mul, wE_and, wE_or, wE_xor, wE_shl, wE_shr, wE_ushr, wE_div, wE_rem, wE_neg, wE_i2b, wE_l2i, wL_i2l, wL_add, wL_mul, wE_fld, wL_fld, wE_arr, wL_arr, wC_cmp, wC_cmp0, wC_cmpL, wC_and, wC_or, wC_not, wC_ite, wL_ite, wA_nil, wA_int, wA_long, wE_call, wL_call, wS_skip, wS_seq, wS_set, wS_setL, wS_inc, wS_if, wS_put, wS_putL, wS_putOp, wS_putOpL, wS_ast, wS_astL, wS_aop, wS_aopL, wS_ret, wS_retL, wS_retV, wS_do, wS_pop, wS_dead, wS_sw, wF_body, Nat.reduceAdd, Nat.zero_add, Bool.not_not, true_and, and_true, if_true, if_false, ↓reduceIte, eq_self, Value.int.injEq, Value.long.injEq, exists_eq_left', ik_b1, ik_b0, ik_bz0, ik_bz3, ik_bz3_1, ik_bz3_0, ik_cmp, ik_cmpL, ik_eI, ik_eL, ik_as, ik_i0, ik_i1, decide_eq_true_eq, decide_eq_false_iff_not, decide_true, decide_false, Bool.not_true, Bool.not_false, reduceCtorEq, forall_const, false_implies, true_implies, implies_true, true_and, and_true, and_self, false_and, and_false, Bool.and_true, Bool.true_and, not_true_eq_false, not_false_eq_true, if_true, if_false, ite_true, ite_false, ik_bz3_0, ik_bz3_1, ik_bz0, nI, ev_w, wE_ite, z]
  · simp (decide := true) [ik_pickS, List.find?, wE_lit, wL_lit, wE_loc, wL_loc, wE_add, wE_sub, wE_mul, wE_and, wE_or, wE_xor, wE_shl, wE_shr, wE_ushr, wE_div, wE_rem, wE_neg, wE_i2b, wE_l2i, wL_i2l, wL_add, wL_mul, wE_fld, wL_fld, wE_arr, wL_arr, wC_cmp, wC_cmp0, wC_cmpL, wC_and, wC_or, wC_not, wC_ite, wL_ite, wA_nil, wA_int, wA_long, wE_call, wL_call, wS_skip, wS_seq, wS_set, wS_setL, wS_inc, wS_if, wS_put, wS_putL, wS_putOp, wS_putOpL, wS_ast, wS_astL, wS_aop, wS_aopL, wS_ret, wS_retL, wS_retV, wS_do, wS_pop, wS_dead, wS_sw, wF_body, Nat.reduceAdd, Nat.zero_add, Bool.not_not, true_and, and_true, if_true, if_false, ↓reduceIte, eq_self, Value.int.injEq, Value.long.injEq, exists_eq_left', ik_b1, ik_b0, ik_bz0, ik_bz3, ik_bz3_1, ik_bz3_0, ik_cmp, ik_cmpL, ik_eI, ik_eL, ik_as, ik_i0, ik_i1, decide_eq_true_eq, decide_eq_false_iff_not, decide_true, decide_false, Bool.not_true, Bool.not_false, reduceCtorEq, forall_const, false_implies, true_implies, implies_true, true_and, and_true, and_self, false_and, and_false, Bool.and_true, Bool.true_and, not_true_eq_false, not_false_eq_true, if_true, if_false, ite_true, ite_false, ik_bz3_0, ik_bz3_1, ik_bz0, nI, ev_w, wE_ite2]
  · simp (decide := true) [ik_pickS, List.find?, wE_lit, wL_lit, wE_loc, wL_loc, wE_add, wE_sub, wE_mul, wE_and, wE_or, wE_xor, wE_shl, wE_shr, wE_ushr, wE_div, wE_rem, wE_neg, wE_i2b, wE_l2i, wL_i2l, wL_add, wL_mul, wE_fld, wL_fld, wE_arr, wL_arr, wC_cmp, wC_cmp0, wC_cmpL, wC_and, wC_or, wC_not, wC_ite, wL_ite, wA_nil, wA_int, wA_long, wE_call, wL_call, wS_skip, wS_seq, wS_set, wS_setL, wS_inc, wS_if, wS_put, wS_putL, wS_putOp, wS_putOpL, wS_ast, wS_astL, wS_aop, wS_aopL, wS_ret, wS_retL, wS_retV, wS_do, wS_pop, wS_dead, wS_sw, wF_body, Nat.reduceAdd, Nat.zero_add, Bool.not_not, true_and, and_true, if_true, if_false, ↓reduceIte, eq_self, Value.int.injEq, Value.long.injEq, exists_eq_left', ik_b1, ik_b0, ik_bz0, ik_bz3, ik_bz3_1, ik_bz3_0, ik_cmp, ik_cmpL, ik_eI, ik_eL, ik_as, ik_i0, ik_i1, decide_eq_true_eq, decide_eq_false_iff_not, decide_true, decide_false, Bool.not_true, Bool.not_false, reduceCtorEq, forall_const, false_implies, true_implies, implies_true, true_and, and_true, and_self, false_and, and_false, Bool.and_true, Bool.true_and, not_true_eq_false, not_false_eq_true, if_true, if_false, ite_true, ite_false, ik_bz3_0, ik_bz3_1, ik_bz0, nI, ev_w, wE_ite2]
  · simp (decide := true) [ik_pickS, List.find?, wE_lit, wL_lit, wE_loc, wL_loc, wE_add, wE_sub, wE_mul, wE_and, wE_or, wE_xor, wE_shl, wE_shr, wE_ushr, wE_div, wE_rem, wE_neg, wE_i2b, wE_l2i, wL_i2l, wL_add, wL_mul, wE_fld, wL_fld, wE_arr, wL_arr, wC_cmp, wC_cmp0, wC_cmpL, wC_and, wC_or, wC_not, wC_ite, wL_ite, wA_nil, wA_int, wA_long, wE_call, wL_call, wS_skip, wS_seq, wS_set, wS_setL, wS_inc, wS_if, wS_put, wS_putL, wS_putOp, wS_putOpL, wS_ast, wS_astL, wS_aop, wS_aopL, wS_ret, wS_retL, wS_retV, wS_do, wS_pop, wS_dead, wS_sw, wF_body, Nat.reduceAdd, Nat.zero_add, Bool.not_not, true_and, and_true, if_true, if_false, ↓reduceIte, eq_self, Value.int.injEq, Value.long.injEq, exists_eq_left', ik_b1, ik_b0, ik_bz0, ik_bz3, ik_bz3_1, ik_bz3_0, ik_cmp, ik_cmpL, ik_eI, ik_eL, ik_as, ik_i0, ik_i1, decide_eq_true_eq, decide_eq_false_iff_not, decide_true, decide_false, Bool.not_true, Bool.not_false, reduceCtorEq, forall_const, false_implies, true_implies, implies_true, true_and, and_true, and_self, false_and, and_false, Bool.and_true, Bool.true_and, not_true_eq_false, not_false_eq_true, if_true, if_false, ite_true, ite_false, ik_bz3_0, ik_bz3_1, ik_bz0, nI, ev_w, wE_ite2]
