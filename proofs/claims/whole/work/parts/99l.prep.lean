/-! what the class's searches overwrite, and nothing else -/
def kW (a j : Nat) : Bool := decide (a < 48) && !(a == 38) && !(a == 35 && decide (5 ≤ j)) && !(a == 0 && (j == 13 || j == 14))
def eqW (x y : GG) : Prop := ∀ a j, kW a j = true → y.1 a j = x.1 a j
theorem eqW.rfl' (x : GG) : eqW x x := fun _ _ _ => rfl
theorem eqW.tr {a b c : GG} (h : eqW a b) (k : eqW b c) : eqW a c := fun q j hk => (k q j hk).trans (h q j hk)
theorem eqW.si {x y : GG} (h : eqW x y) {a j : Nat} (v : Int32) (ha : kW a j = false) : eqW x (ik_si y a j v) := fun q k hk => by
  rw [← h q k hk]
  by_cases e : q = a
  · subst e
    by_cases e2 : k = j
    · subst e2; rw [ha] at hk; cases hk
    · rw [ik_si_ne _ _ _ _ _ e2]
  · rw [ik_si_row _ _ _ _ _ e]
theorem eqW.sl {x y : GG} (h : eqW x y) (a j : Nat) (v : Int64) : eqW x (ik_sl y a j v) := h
theorem kW_lt {a j : Nat} (h : kW a j = true) : a < 48 := by
  unfold kW at h
  simp only [Bool.and_eq_true, decide_eq_true_eq] at h
  exact h.1.1.1
theorem kW_ge {a j : Nat} (h : 48 ≤ a) : kW a j = false := by
  cases c : kW a j with
  | false => rfl
  | true => have := kW_lt c; omega
theorem eqF.w {x y : GG} (h : eqF x y) : eqW x y := fun a j hk => by
  by_cases e : a = 35
  · subst e
    refine h.2.1 j ?_
    have : decide (5 ≤ j) = false := by simpa [kW] using hk
    have := of_decide_eq_false this
    omega
  · rw [h.1 a e (fun q => by subst q; cases hk)]
theorem eqL.w {x y : GG} (h : eqL x y) : eqW x y := fun a j hk => by
  have := kW_lt hk
  rw [h.1 a (by omega) (by omega) (by omega) (by omega) (by omega) (by omega)]
theorem eqS.w {x y : GG} (h : eqS x y) : eqW x y := fun a j hk => by
  have := kW_lt hk
  rw [h.1 a (by omega) (by omega) (by omega) (by omega)]
theorem eqW.z {x y : GG} (h : eqW x y) : eqZ x y := fun a j hk => h a j (by
  unfold kEz kNx kBx kTix kLix kHx kSx kRx at hk
  simp only [Bool.or_eq_true, Bool.and_eq_true, beq_iff_eq] at hk
  repeat' (refine Or.elim hk (fun hk => ?_) (fun hk => ?_))
  all_goals first
    | (subst hk; rfl)
    | (obtain ⟨h1, h2⟩ := hk; subst h1 h2; rfl)
    | (obtain ⟨h1, h2⟩ := hk; subst h1; rcases h2 with h2 | h2 <;> subst h2 <;> rfl))
theorem eqW.c {x y : GG} (h : eqW x y) : ∀ a j, (kCx a j || kNox a j) = true → y.1 a j = x.1 a j := fun a j hk => h a j (by
  unfold kCx kNox at hk
  simp only [Bool.or_eq_true, Bool.and_eq_true, beq_iff_eq] at hk
  repeat' (refine Or.elim hk (fun hk => ?_) (fun hk => ?_))
  all_goals first
    | (subst hk; rfl)
    | (obtain ⟨h1, h2⟩ := hk; subst h1 h2; rfl))
theorem rA.w {x m y g : GG} {N B S : Nat} (h : rA x m N B S) (hx : eqW x y) (hm : eqM m g) (hq : rQ y g) : rA y g N B S := by
  obtain ⟨-, gL, gN, gB, gTi, gLi, gH, -, -, gS, gR, -⟩ := (h.e.z hx.z).fr (fun _ _ _ => rfl) (kEm_of hm)
  obtain ⟨hT, -, -, -, -, -, -, hC, hNo, -, -, -⟩ := h
  refine ⟨?_, gL, gN, gB, gTi, gLi, gH, hC.frk ?_ ?_, hNo.frk ?_ ?_, gS, gR, hq⟩
  · rw [hx 1 1 rfl, funext fun j => hx 2 j rfl, hm.1 1 (by omega), hm.2 1 (by decide)]
    exact hT
  · exact cut_of2 (fun a j hk => hx.c a j (by rw [hk]; rfl)) k0_no
  · exact cut_of2 (fun a j hk => kEm_of hm a j (km_sub hk (by simp))) k0_no
  · exact cut_of2 (fun a j hk => hx.c a j (by rw [hk, Bool.or_true])) k0_no
  · exact cut_of2 (fun a j hk => kEm_of hm a j (km_sub hk (by simp))) k0_no
theorem rlD.w {x y m : GG} {c : Nat → Nat} {M : Nat} {L : List (Nat × RC)} (h : rlD c M L x m) (hx : eqW x y) : rlD c M L y m := by
  obtain ⟨h1, h2, h3, h4, h5⟩ := h
  exact ⟨h1, h2, fun k hk => ⟨(h3 k hk).1, by rw [hx 36 k rfl]; exact (h3 k hk).2⟩, by rw [hx 35 3 rfl]; exact h4, h5⟩
/-! the class makes ready what its searches need -/
theorem w_cnt0 (g : GG) (Q : Value → GG → Prop) : wF fX0_count [] g Q ↔ Q (.int (g.1 15 9)) g := by
  refine wF_eq (eq_of_wF ?_) Q
  unfold fX0_count
  simp (decide := true) only [wE_lit, wL_lit, wE_loc, wL_loc, wE_add, wE_sub, wE_mul, wE_and, wE_or, wE_xor, wE_shl, wE_shr, wE_ushr, wE_div, wE_rem, wE_neg, wE_i2b, wE_l2i, wL_i2l, wL_add, wL_mul, wE_fld, wL_fld, wE_arr, wL_arr, wC_cmp, wC_cmp0, wC_cmpL, wC_and, wC_or, wC_not, wC_ite, wL_ite, wA_nil, wA_int, wA_long, wE_call, wL_call, wS_skip, wS_seq, wS_set, wS_setL, wS_inc, wS_if, wS_put, wS_putL, wS_putOp, wS_putOpL, wS_ast, wS_astL, wS_aop, wS_aopL, wS_ret, wS_retL, wS_retV, wS_do, wS_pop, wS_dead, wS_sw, wF_body, Nat.reduceAdd, Nat.zero_add, Bool.not_not, true_and, and_true, if_true, if_false, ↓reduceIte, eq_self, Value.int.injEq, Value.long.injEq, exists_eq_left', ik_b1, ik_b0, ik_bz0, ik_bz3, ik_bz3_1, ik_bz3_0, ik_cmp, ik_cmpL, ik_eI, ik_eL, ik_as]
theorem w_cnt6 (g : GG) (Q : Value → GG → Prop) : wF fX6_count [] g Q ↔ Q (.int (g.1 6 6)) g := by
  refine wF_eq (eq_of_wF ?_) Q
  unfold fX6_count
  simp (decide := true) only [wE_lit, wL_lit, wE_loc, wL_loc, wE_add, wE_sub, wE_mul, wE_and, wE_or, wE_xor, wE_shl, wE_shr, wE_ushr, wE_div, wE_rem, wE_neg, wE_i2b, wE_l2i, wL_i2l, wL_add, wL_mul, wE_fld, wL_fld, wE_arr, wL_arr, wC_cmp, wC_cmp0, wC_cmpL, wC_and, wC_or, wC_not, wC_ite, wL_ite, wA_nil, wA_int, wA_long, wE_call, wL_call, wS_skip, wS_seq, wS_set, wS_setL, wS_inc, wS_if, wS_put, wS_putL, wS_putOp, wS_putOpL, wS_ast, wS_astL, wS_aop, wS_aopL, wS_ret, wS_retL, wS_retV, wS_do, wS_pop, wS_dead, wS_sw, wF_body, Nat.reduceAdd, Nat.zero_add, Bool.not_not, true_and, and_true, if_true, if_false, ↓reduceIte, eq_self, Value.int.injEq, Value.long.injEq, exists_eq_left', ik_b1, ik_b0, ik_bz0, ik_bz3, ik_bz3_1, ik_bz3_0, ik_cmp, ik_cmpL, ik_eI, ik_eL, ik_as]
theorem w_cntT (g : GG) (Q : Value → GG → Prop) : wF fX0_ties [] g Q ↔ Q (.int (g.1 15 10)) g := by
  refine wF_eq (eq_of_wF ?_) Q
  unfold fX0_ties
  simp (decide := true) only [wE_lit, wL_lit, wE_loc, wL_loc, wE_add, wE_sub, wE_mul, wE_and, wE_or, wE_xor, wE_shl, wE_shr, wE_ushr, wE_div, wE_rem, wE_neg, wE_i2b, wE_l2i, wL_i2l, wL_add, wL_mul, wE_fld, wL_fld, wE_arr, wL_arr, wC_cmp, wC_cmp0, wC_cmpL, wC_and, wC_or, wC_not, wC_ite, wL_ite, wA_nil, wA_int, wA_long, wE_call, wL_call, wS_skip, wS_seq, wS_set, wS_setL, wS_inc, wS_if, wS_put, wS_putL, wS_putOp, wS_putOpL, wS_ast, wS_astL, wS_aop, wS_aopL, wS_ret, wS_retL, wS_retV, wS_do, wS_pop, wS_dead, wS_sw, wF_body, Nat.reduceAdd, Nat.zero_add, Bool.not_not, true_and, and_true, if_true, if_false, ↓reduceIte, eq_self, Value.int.injEq, Value.long.injEq, exists_eq_left', ik_b1, ik_b0, ik_bz0, ik_bz3, ik_bz3_1, ik_bz3_0, ik_cmp, ik_cmpL, ik_eI, ik_eL, ik_as]
theorem wc_names {y : GG} {N k i : Nat} {s1 : Nat → Int32} {s2 : Nat → Int64} (hN : N ≤ 24) (e : y.1 6 6 = nI N) (hk : k ≤ N) (h : s1 i = nI k) : wC (sAnd (sCmp 2 (sLoc i) (sCall fX6_count sNil)) (sCmp 2 (sLoc i) (sLit 24))) (s1, s2, y) (fun b g => b = decide (k < N) ∧ g = y) := by
  have l1 := nI_ltI (show k < 2 ^ 31 by omega) (show N < 2 ^ 31 by omega)
  by_cases c : k < N
  · have l2 : (nI k < 24) = True := eq_true (by rw [show (24 : Int32) = nI 24 from rfl, nI_ltI (by omega) (by omega)]; omega)
    simp (decide := true) only [wE_lit, wL_lit, wE_loc, wL_loc, wE_add, wE_sub, wE_mul, wE_and, wE_or, wE_xor, wE_shl, wE_shr, wE_ushr, wE_div, wE_rem, wE_neg, wE_i2b, wE_l2i, wL_i2l, wL_add, wL_mul, wE_fld, wL_fld, wE_arr, wL_arr, wC_cmp, wC_cmp0, wC_cmpL, wC_and, wC_or, wC_not, wC_ite, wL_ite, wA_nil, wA_int, wA_long, wE_call, wL_call, wS_skip, wS_seq, wS_set, wS_setL, wS_inc, wS_if, wS_put, wS_putL, wS_putOp, wS_putOpL, wS_ast, wS_astL, wS_aop, wS_aopL, wS_ret, wS_retL, wS_retV, wS_do, wS_pop, wS_dead, wS_sw, wF_body, Nat.reduceAdd, Nat.zero_add, Bool.not_not, true_and, and_true, if_true, if_false, ↓reduceIte, eq_self, Value.int.injEq, Value.long.injEq, exists_eq_left', ik_b1, ik_b0, ik_bz0, ik_bz3, ik_bz3_1, ik_bz3_0, ik_cmp, ik_cmpL, ik_eI, ik_eL, ik_as, ik_i0, ik_i1, decide_eq_true_eq, decide_eq_false_iff_not, decide_true, decide_false, Bool.not_true, Bool.not_false, reduceCtorEq, forall_const, false_implies, true_implies, implies_true, true_and, and_true, and_self, false_and, and_false, Bool.and_true, Bool.true_and, not_true_eq_false, not_false_eq_true, if_true, if_false, ite_true, ite_false, ik_bz3_0, ik_bz3_1, ik_bz0, w_cnt6, h, e, l1, c, l2]
  · simp (decide := true) only [wE_lit, wL_lit, wE_loc, wL_loc, wE_add, wE_sub, wE_mul, wE_and, wE_or, wE_xor, wE_shl, wE_shr, wE_ushr, wE_div, wE_rem, wE_neg, wE_i2b, wE_l2i, wL_i2l, wL_add, wL_mul, wE_fld, wL_fld, wE_arr, wL_arr, wC_cmp, wC_cmp0, wC_cmpL, wC_and, wC_or, wC_not, wC_ite, wL_ite, wA_nil, wA_int, wA_long, wE_call, wL_call, wS_skip, wS_seq, wS_set, wS_setL, wS_inc, wS_if, wS_put, wS_putL, wS_putOp, wS_putOpL, wS_ast, wS_astL, wS_aop, wS_aopL, wS_ret, wS_retL, wS_retV, wS_do, wS_pop, wS_dead, wS_sw, wF_body, Nat.reduceAdd, Nat.zero_add, Bool.not_not, true_and, and_true, if_true, if_false, ↓reduceIte, eq_self, Value.int.injEq, Value.long.injEq, exists_eq_left', ik_b1, ik_b0, ik_bz0, ik_bz3, ik_bz3_1, ik_bz3_0, ik_cmp, ik_cmpL, ik_eI, ik_eL, ik_as, ik_i0, ik_i1, decide_eq_true_eq, decide_eq_false_iff_not, decide_true, decide_false, Bool.not_true, Bool.not_false, reduceCtorEq, forall_const, false_implies, true_implies, implies_true, true_and, and_true, and_self, false_and, and_false, Bool.and_true, Bool.true_and, not_true_eq_false, not_false_eq_true, if_true, if_false, ite_true, ite_false, ik_bz3_0, ik_bz3_1, ik_bz0, w_cnt6, h, e, l1, c]
theorem w_begin2 {B N : Nat} (hB : B ≤ 4) (hN : N ≤ 24) (g : GG) : wF fX2_begin [.int (nI B), .int (nI N)] g (fun v g' => v = .null ∧ eqW g g' ∧ g'.2 = g.2 ∧ g'.1 48 9 = nI B ∧ g'.1 48 10 = nI N ∧ ∀ j, j < 384 → g'.1 56 j = -1) := by
  have p1 : (0 ≤ nI B) = True := eq_true (nI_pos' (by omega))
  have p2 : (nI B ≤ 4) = True := eq_true (by rw [show (4 : Int32) = nI 4 from rfl, nI_leI (by omega) (by omega)]; omega)
  have p3 : (0 ≤ nI N) = True := eq_true (nI_pos' (by omega))
  have p4 : (nI N ≤ 24) = True := eq_true (by rw [show (24 : Int32) = nI 24 from rfl, nI_leI (by omega) (by omega)]; omega)
  unfold fX2_begin
  simp (decide := true) only [wE_lit, wL_lit, wE_loc, wL_loc, wE_add, wE_sub, wE_mul, wE_and, wE_or, wE_xor, wE_shl, wE_shr, wE_ushr, wE_div, wE_rem, wE_neg, wE_i2b, wE_l2i, wL_i2l, wL_add, wL_mul, wE_fld, wL_fld, wE_arr, wL_arr, wC_cmp, wC_cmp0, wC_cmpL, wC_and, wC_or, wC_not, wC_ite, wL_ite, wA_nil, wA_int, wA_long, wE_call, wL_call, wS_skip, wS_seq, wS_set, wS_setL, wS_inc, wS_if, wS_put, wS_putL, wS_putOp, wS_putOpL, wS_ast, wS_astL, wS_aop, wS_aopL, wS_ret, wS_retL, wS_retV, wS_do, wS_pop, wS_dead, wS_sw, wF_body, Nat.reduceAdd, Nat.zero_add, Bool.not_not, true_and, and_true, if_true, if_false, ↓reduceIte, eq_self, Value.int.injEq, Value.long.injEq, exists_eq_left', ik_b1, ik_b0, ik_bz0, ik_bz3, ik_bz3_1, ik_bz3_0, ik_cmp, ik_cmpL, ik_eI, ik_eL, ik_as, ik_i0, ik_i1, decide_eq_true_eq, decide_eq_false_iff_not, decide_true, decide_false, Bool.not_true, Bool.not_false, reduceCtorEq, forall_const, false_implies, true_implies, implies_true, true_and, and_true, and_self, false_and, and_false, Bool.and_true, Bool.true_and, not_true_eq_false, not_false_eq_true, if_true, if_false, ite_true, ite_false, ik_bz3_0, ik_bz3_1, ik_bz0, w_maxJ, w_minJ, p1, p2, p3, p4]
  refine wS_for _ _ (fun k σ => σ.1 3 = nI k ∧ eqW g σ.2.2 ∧ σ.2.2.2 = g.2 ∧ σ.2.2.1 48 9 = nI B ∧ σ.2.2.1 48 10 = nI N ∧ ∀ j, j < k → σ.2.2.1 56 j = -1) 0 384 _ ⟨by simp [upd, nI_0], ((eqW.rfl' g).si _ rfl).si _ rfl, rfl, ?_, ik_si_same _ _ _ _, fun j hj => by omega⟩ (by omega) (by omega) ?_ ?_ ?_
  · show (ik_si (ik_si g 48 9 (nI B)) 48 10 (nI N)).1 48 9 = nI B
    rw [ik_si_ne _ _ _ _ _ (by decide)]
    exact ik_si_same _ _ _ _
  · rintro k ⟨s1, s2, s3⟩ h1 ⟨h2, -⟩
    exact wc_L (n := 384) (by omega) h1 h2
  · rintro k ⟨s1, s2, s3⟩ h1 ⟨h2, h3, h4, h5, h6, h7⟩
    simp only at h2 h3 h4 h5 h6 h7
    simp (decide := true) only [wE_lit, wL_lit, wE_loc, wL_loc, wE_add, wE_sub, wE_mul, wE_and, wE_or, wE_xor, wE_shl, wE_shr, wE_ushr, wE_div, wE_rem, wE_neg, wE_i2b, wE_l2i, wL_i2l, wL_add, wL_mul, wE_fld, wL_fld, wE_arr, wL_arr, wC_cmp, wC_cmp0, wC_cmpL, wC_and, wC_or, wC_not, wC_ite, wL_ite, wA_nil, wA_int, wA_long, wE_call, wL_call, wS_skip, wS_seq, wS_set, wS_setL, wS_inc, wS_if, wS_put, wS_putL, wS_putOp, wS_putOpL, wS_ast, wS_astL, wS_aop, wS_aopL, wS_ret, wS_retL, wS_retV, wS_do, wS_pop, wS_dead, wS_sw, wF_body, Nat.reduceAdd, Nat.zero_add, Bool.not_not, true_and, and_true, if_true, if_false, ↓reduceIte, eq_self, Value.int.injEq, Value.long.injEq, exists_eq_left', ik_b1, ik_b0, ik_bz0, ik_bz3, ik_bz3_1, ik_bz3_0, ik_cmp, ik_cmpL, ik_eI, ik_eL, ik_as, ik_i0, ik_i1, decide_eq_true_eq, decide_eq_false_iff_not, decide_true, decide_false, Bool.not_true, Bool.not_false, reduceCtorEq, forall_const, false_implies, true_implies, implies_true, true_and, and_true, and_self, false_and, and_false, Bool.and_true, Bool.true_and, not_true_eq_false, not_false_eq_true, if_true, if_false, ite_true, ite_false, ik_bz3_0, ik_bz3_1, ik_bz0, h2, ik_ix_nI (show k < 384 by omega) (by omega), Option.some.injEq, upd_at, upd_off, nI_1, nI_add]
    refine ⟨h3.si _ (kW_ge (by decide)), h4, ?_, ?_, fun j hj => ?_⟩
    · rw [ik_si_row _ _ _ _ _ (by decide)]; exact h5
    · rw [ik_si_row _ _ _ _ _ (by decide)]; exact h6
    · by_cases e : j = k
      · subst e; exact ik_si_same _ _ _ _
      · rw [ik_si_ne _ _ _ _ _ e]; exact h7 j (by omega)
  · rintro ⟨s1, s2, s3⟩ ⟨h2, h3, h4, h5, h6, h7⟩
    simp only at h3 h4 h5 h6 h7
    simp (decide := true) only [wE_lit, wL_lit, wE_loc, wL_loc, wE_add, wE_sub, wE_mul, wE_and, wE_or, wE_xor, wE_shl, wE_shr, wE_ushr, wE_div, wE_rem, wE_neg, wE_i2b, wE_l2i, wL_i2l, wL_add, wL_mul, wE_fld, wL_fld, wE_arr, wL_arr, wC_cmp, wC_cmp0, wC_cmpL, wC_and, wC_or, wC_not, wC_ite, wL_ite, wA_nil, wA_int, wA_long, wE_call, wL_call, wS_skip, wS_seq, wS_set, wS_setL, wS_inc, wS_if, wS_put, wS_putL, wS_putOp, wS_putOpL, wS_ast, wS_astL, wS_aop, wS_aopL, wS_ret, wS_retL, wS_retV, wS_do, wS_pop, wS_dead, wS_sw, wF_body, Nat.reduceAdd, Nat.zero_add, Bool.not_not, true_and, and_true, if_true, if_false, ↓reduceIte, eq_self, Value.int.injEq, Value.long.injEq, exists_eq_left', ik_b1, ik_b0, ik_bz0, ik_bz3, ik_bz3_1, ik_bz3_0, ik_cmp, ik_cmpL, ik_eI, ik_eL, ik_as, ik_i0, ik_i1, decide_eq_true_eq, decide_eq_false_iff_not, decide_true, decide_false, Bool.not_true, Bool.not_false, reduceCtorEq, forall_const, false_implies, true_implies, implies_true, true_and, and_true, and_self, false_and, and_false, Bool.and_true, Bool.true_and, not_true_eq_false, not_false_eq_true, if_true, if_false, ite_true, ite_false, ik_bz3_0, ik_bz3_1, ik_bz0]
    exact ⟨h3, h4, h5, h6, h7⟩
theorem w_setName {i : Nat} (hi : i < 24) (a b : Int32) (g : GG) (Q : Value → GG → Prop) : wF fX2_setName [.int (nI i), .int a, .int b] g Q ↔ Q .null (ik_si (ik_si g 57 i a) 58 i b) := by
  refine wF_eq (eq_of_wF ?_) Q
  unfold fX2_setName
  simp (decide := true) only [wE_lit, wL_lit, wE_loc, wL_loc, wE_add, wE_sub, wE_mul, wE_and, wE_or, wE_xor, wE_shl, wE_shr, wE_ushr, wE_div, wE_rem, wE_neg, wE_i2b, wE_l2i, wL_i2l, wL_add, wL_mul, wE_fld, wL_fld, wE_arr, wL_arr, wC_cmp, wC_cmp0, wC_cmpL, wC_and, wC_or, wC_not, wC_ite, wL_ite, wA_nil, wA_int, wA_long, wE_call, wL_call, wS_skip, wS_seq, wS_set, wS_setL, wS_inc, wS_if, wS_put, wS_putL, wS_putOp, wS_putOpL, wS_ast, wS_astL, wS_aop, wS_aopL, wS_ret, wS_retL, wS_retV, wS_do, wS_pop, wS_dead, wS_sw, wF_body, Nat.reduceAdd, Nat.zero_add, Bool.not_not, true_and, and_true, if_true, if_false, ↓reduceIte, eq_self, Value.int.injEq, Value.long.injEq, exists_eq_left', ik_b1, ik_b0, ik_bz0, ik_bz3, ik_bz3_1, ik_bz3_0, ik_cmp, ik_cmpL, ik_eI, ik_eL, ik_as, ik_i0, ik_i1, decide_eq_true_eq, decide_eq_false_iff_not, decide_true, decide_false, Bool.not_true, Bool.not_false, reduceCtorEq, forall_const, false_implies, true_implies, implies_true, true_and, and_true, and_self, false_and, and_false, Bool.and_true, Bool.true_and, not_true_eq_false, not_false_eq_true, if_true, if_false, ite_true, ite_false, ik_bz3_0, ik_bz3_1, ik_bz0, w_isName2 hi, ik_ix_nI hi (by omega), Option.some.injEq]
theorem w_pair2 {p i z : Nat} (hp : p < 4) (hz : z < 4) (hi : i < 24) (r : Int32) (g : GG) (Q : Value → GG → Prop) : wF fX2_pair [.int (nI p), .int (nI i), .int (nI z), .int r] g Q ↔ Q .null (ik_si g 56 ((p * 4 + z) * 24 + i) (g.1 56 ((p * 4 + z) * 24 + i) &&& r)) := by
  refine wF_eq (eq_of_wF ?_) Q
  have bo : ∀ a b : Int32, ik_bo 3 a b = some (a &&& b) := fun _ _ => rfl
  unfold fX2_pair
  simp (decide := true) only [wE_lit, wL_lit, wE_loc, wL_loc, wE_add, wE_sub, wE_mul, wE_and, wE_or, wE_xor, wE_shl, wE_shr, wE_ushr, wE_div, wE_rem, wE_neg, wE_i2b, wE_l2i, wL_i2l, wL_add, wL_mul, wE_fld, wL_fld, wE_arr, wL_arr, wC_cmp, wC_cmp0, wC_cmpL, wC_and, wC_or, wC_not, wC_ite, wL_ite, wA_nil, wA_int, wA_long, wE_call, wL_call, wS_skip, wS_seq, wS_set, wS_setL, wS_inc, wS_if, wS_put, wS_putL, wS_putOp, wS_putOpL, wS_ast, wS_astL, wS_aop, wS_aopL, wS_ret, wS_retL, wS_retV, wS_do, wS_pop, wS_dead, wS_sw, wF_body, Nat.reduceAdd, Nat.zero_add, Bool.not_not, true_and, and_true, if_true, if_false, ↓reduceIte, eq_self, Value.int.injEq, Value.long.injEq, exists_eq_left', ik_b1, ik_b0, ik_bz0, ik_bz3, ik_bz3_1, ik_bz3_0, ik_cmp, ik_cmpL, ik_eI, ik_eL, ik_as, ik_i0, ik_i1, decide_eq_true_eq, decide_eq_false_iff_not, decide_true, decide_false, Bool.not_true, Bool.not_false, reduceCtorEq, forall_const, false_implies, true_implies, implies_true, true_and, and_true, and_self, false_and, and_false, Bool.and_true, Bool.true_and, not_true_eq_false, not_false_eq_true, if_true, if_false, ite_true, ite_false, ik_bz3_0, ik_bz3_1, ik_bz0, w_isBar2 hp, w_isBar2 hz, w_isName2 hi, w_place, ik_ix_nI (show (p * 4 + z) * 24 + i < 384 by omega) (by omega), Option.some.injEq, bo]
