/-! the reference's methods: what is popped, opened, read -/
theorem w_digitM (a : Int32) (g : GG) (Q : Value → GG → Prop) : wF fX12_isDigit [.int a] g Q ↔ Q (.int (if 48 ≤ a ∧ a ≤ 57 then 1 else 0)) g := by
  refine wF_eq (eq_of_wF ?_) Q
  unfold fX12_isDigit
  simp (decide := true) only [wE_lit, wL_lit, wE_loc, wL_loc, wE_add, wE_sub, wE_mul, wE_and, wE_or, wE_xor, wE_shl, wE_shr, wE_ushr, wE_div, wE_rem, wE_neg, wE_i2b, wE_l2i, wL_i2l, wL_add, wL_mul, wE_fld, wL_fld, wE_arr, wL_arr, wC_cmp, wC_cmp0, wC_cmpL, wC_and, wC_or, wC_not, wC_ite, wL_ite, wA_nil, wA_int, wA_long, wE_call, wL_call, wS_skip, wS_seq, wS_set, wS_setL, wS_inc, wS_if, wS_put, wS_putL, wS_putOp, wS_putOpL, wS_ast, wS_astL, wS_aop, wS_aopL, wS_ret, wS_retL, wS_retV, wS_do, wS_pop, wS_dead, wS_sw, wF_body, Nat.reduceAdd, Nat.zero_add, Bool.not_not, true_and, and_true, if_true, if_false, ↓reduceIte, eq_self, Value.int.injEq, Value.long.injEq, exists_eq_left', ik_b1, ik_b0, ik_bz0, ik_bz3, ik_bz3_1, ik_bz3_0, ik_cmp, ik_cmpL, ik_eI, ik_eL, ik_as, wE_ite2]
  by_cases h1 : 48 ≤ a <;> by_cases h2 : a ≤ 57 <;> simp [h1, h2, ik_bz]
theorem nI_dig {v : Nat} (hv : v < 256) : (48 ≤ nI v ∧ nI v ≤ 57) ↔ sg_dig v = true := by
  unfold sg_dig
  simp only [Bool.and_eq_true, decide_eq_true_eq]
  rw [show (48 : Int32) = nI 48 from rfl, show (57 : Int32) = nI 57 from rfl, nI_leI (by omega) (by omega), nI_leI (by omega) (by omega)]
theorem nI_is {v k : Nat} (hv : v < 256) (hk : k < 256) {a : Int32} (ha : a = nI k) : (nI v = a) ↔ v = k := by subst ha; exact nI_eq (by omega) (by omega)
theorem w_isTimesM {v : Nat} (hv : v < 256) (g : GG) (Q : Value → GG → Prop) : wF fX12_isTimes [.int (nI v)] g Q ↔ Q (.int (ik_b2 (sg_times v))) g := by
  refine wF_eq (eq_of_wF ?_) Q
  have e1 := nI_is hv (k := 42) (by omega) (a := 42) rfl
  have e2 := nI_is hv (k := 47) (by omega) (a := 47) rfl
  have e3 := nI_is hv (k := 37) (by omega) (a := 37) rfl
  unfold fX12_isTimes
  simp (decide := true) only [wE_lit, wL_lit, wE_loc, wL_loc, wE_add, wE_sub, wE_mul, wE_and, wE_or, wE_xor, wE_shl, wE_shr, wE_ushr, wE_div, wE_rem, wE_neg, wE_i2b, wE_l2i, wL_i2l, wL_add, wL_mul, wE_fld, wL_fld, wE_arr, wL_arr, wC_cmp, wC_cmp0, wC_cmpL, wC_and, wC_or, wC_not, wC_ite, wL_ite, wA_nil, wA_int, wA_long, wE_call, wL_call, wS_skip, wS_seq, wS_set, wS_setL, wS_inc, wS_if, wS_put, wS_putL, wS_putOp, wS_putOpL, wS_ast, wS_astL, wS_aop, wS_aopL, wS_ret, wS_retL, wS_retV, wS_do, wS_pop, wS_dead, wS_sw, wF_body, Nat.reduceAdd, Nat.zero_add, Bool.not_not, true_and, and_true, if_true, if_false, ↓reduceIte, eq_self, Value.int.injEq, Value.long.injEq, exists_eq_left', ik_b1, ik_b0, ik_bz0, ik_bz3, ik_bz3_1, ik_bz3_0, ik_cmp, ik_cmpL, ik_eI, ik_eL, ik_as, wE_ite2, e1, e2, e3]
  by_cases h1 : v = 42 <;> by_cases h2 : v = 47 <;> by_cases h3 : v = 37 <;> simp [h1, h2, h3, ik_bz, sg_times, ik_b2]
theorem w_isPlusM {v : Nat} (hv : v < 256) (g : GG) (Q : Value → GG → Prop) : wF fX12_isPlus [.int (nI v)] g Q ↔ Q (.int (ik_b2 (sg_plus v))) g := by
  refine wF_eq (eq_of_wF ?_) Q
  have e1 := nI_is hv (k := 43) (by omega) (a := 43) rfl
  have e2 := nI_is hv (k := 45) (by omega) (a := 45) rfl
  unfold fX12_isPlus
  simp (decide := true) only [wE_lit, wL_lit, wE_loc, wL_loc, wE_add, wE_sub, wE_mul, wE_and, wE_or, wE_xor, wE_shl, wE_shr, wE_ushr, wE_div, wE_rem, wE_neg, wE_i2b, wE_l2i, wL_i2l, wL_add, wL_mul, wE_fld, wL_fld, wE_arr, wL_arr, wC_cmp, wC_cmp0, wC_cmpL, wC_and, wC_or, wC_not, wC_ite, wL_ite, wA_nil, wA_int, wA_long, wE_call, wL_call, wS_skip, wS_seq, wS_set, wS_setL, wS_inc, wS_if, wS_put, wS_putL, wS_putOp, wS_putOpL, wS_ast, wS_astL, wS_aop, wS_aopL, wS_ret, wS_retL, wS_retV, wS_do, wS_pop, wS_dead, wS_sw, wF_body, Nat.reduceAdd, Nat.zero_add, Bool.not_not, true_and, and_true, if_true, if_false, ↓reduceIte, eq_self, Value.int.injEq, Value.long.injEq, exists_eq_left', ik_b1, ik_b0, ik_bz0, ik_bz3, ik_bz3_1, ik_bz3_0, ik_cmp, ik_cmpL, ik_eI, ik_eL, ik_as, wE_ite2, e1, e2]
  by_cases h1 : v = 43 <;> by_cases h2 : v = 45 <;> simp [h1, h2, ik_bz, sg_plus, ik_b2]
theorem w_isSignM {v : Nat} (hv : v < 256) (g : GG) (Q : Value → GG → Prop) : wF fX12_isSign [.int (nI v)] g Q ↔ Q (.int (ik_b2 (sg_cmp v))) g := by
  refine wF_eq (eq_of_wF ?_) Q
  have e1 := nI_is hv (k := 60) (by omega) (a := 60) rfl
  have e2 := nI_is hv (k := 62) (by omega) (a := 62) rfl
  have e3 := nI_is hv (k := 61) (by omega) (a := 61) rfl
  unfold fX12_isSign
  simp (decide := true) only [wE_lit, wL_lit, wE_loc, wL_loc, wE_add, wE_sub, wE_mul, wE_and, wE_or, wE_xor, wE_shl, wE_shr, wE_ushr, wE_div, wE_rem, wE_neg, wE_i2b, wE_l2i, wL_i2l, wL_add, wL_mul, wE_fld, wL_fld, wE_arr, wL_arr, wC_cmp, wC_cmp0, wC_cmpL, wC_and, wC_or, wC_not, wC_ite, wL_ite, wA_nil, wA_int, wA_long, wE_call, wL_call, wS_skip, wS_seq, wS_set, wS_setL, wS_inc, wS_if, wS_put, wS_putL, wS_putOp, wS_putOpL, wS_ast, wS_astL, wS_aop, wS_aopL, wS_ret, wS_retL, wS_retV, wS_do, wS_pop, wS_dead, wS_sw, wF_body, Nat.reduceAdd, Nat.zero_add, Bool.not_not, true_and, and_true, if_true, if_false, ↓reduceIte, eq_self, Value.int.injEq, Value.long.injEq, exists_eq_left', ik_b1, ik_b0, ik_bz0, ik_bz3, ik_bz3_1, ik_bz3_0, ik_cmp, ik_cmpL, ik_eI, ik_eL, ik_as, wE_ite2, e1, e2, e3]
  by_cases h1 : v = 60 <;> by_cases h2 : v = 62 <;> by_cases h3 : v = 61 <;> simp [h1, h2, h3, ik_bz, sg_cmp, ik_b2]
theorem w_isValueM {v : Nat} (hv : v < 256) (g : GG) (Q : Value → GG → Prop) : wF fX12_isValue [.int (nI v)] g Q ↔ Q (.int (ik_b2 (sg_fact v))) g := by
  refine wF_eq (eq_of_wF ?_) Q
  have e := fun k (hk : k < 256) => nI_is hv hk (a := nI k) rfl
  unfold fX12_isValue
  simp (decide := true) only [wE_lit, wL_lit, wE_loc, wL_loc, wE_add, wE_sub, wE_mul, wE_and, wE_or, wE_xor, wE_shl, wE_shr, wE_ushr, wE_div, wE_rem, wE_neg, wE_i2b, wE_l2i, wL_i2l, wL_add, wL_mul, wE_fld, wL_fld, wE_arr, wL_arr, wC_cmp, wC_cmp0, wC_cmpL, wC_and, wC_or, wC_not, wC_ite, wL_ite, wA_nil, wA_int, wA_long, wE_call, wL_call, wS_skip, wS_seq, wS_set, wS_setL, wS_inc, wS_if, wS_put, wS_putL, wS_putOp, wS_putOpL, wS_ast, wS_astL, wS_aop, wS_aopL, wS_ret, wS_retL, wS_retV, wS_do, wS_pop, wS_dead, wS_sw, wF_body, Nat.reduceAdd, Nat.zero_add, Bool.not_not, true_and, and_true, if_true, if_false, ↓reduceIte, eq_self, Value.int.injEq, Value.long.injEq, exists_eq_left', ik_b1, ik_b0, ik_bz0, ik_bz3, ik_bz3_1, ik_bz3_0, ik_cmp, ik_cmpL, ik_eI, ik_eL, ik_as, wE_ite2]
  simp only [show (105 : Int32) = nI 105 from rfl, show (119 : Int32) = nI 119 from rfl, show (110 : Int32) = nI 110 from rfl, show (115 : Int32) = nI 115 from rfl, show (121 : Int32) = nI 121 from rfl, show (122 : Int32) = nI 122 from rfl, show (118 : Int32) = nI 118 from rfl, show (97 : Int32) = nI 97 from rfl, show (98 : Int32) = nI 98 from rfl, e 105 (by omega), e 119 (by omega), e 110 (by omega), e 115 (by omega), e 121 (by omega), e 122 (by omega), e 118 (by omega), e 97 (by omega), e 98 (by omega)]
  by_cases h1 : v = 105
  · subst h1; simp (decide := true) [ik_bz, ik_b2]
  by_cases h2 : v = 119
  · subst h2; simp (decide := true) [ik_bz, ik_b2]
  by_cases h3 : v = 110
  · subst h3; simp (decide := true) [ik_bz, ik_b2]
  by_cases h4 : v = 115
  · subst h4; simp (decide := true) [ik_bz, ik_b2]
  by_cases h5 : v = 121
  · subst h5; simp (decide := true) [ik_bz, ik_b2]
  by_cases h6 : v = 122
  · subst h6; simp (decide := true) [ik_bz, ik_b2]
  by_cases h7 : v = 118
  · subst h7; simp (decide := true) [ik_bz, ik_b2]
  by_cases h8 : v = 97
  · subst h8; simp (decide := true) [ik_bz, ik_b2]
  by_cases h9 : v = 98
  · subst h9; simp (decide := true) [ik_bz, ik_b2]
  simp [h1, h2, h3, h4, h5, h6, h7, h8, h9, ik_bz, ik_b2, sg_fact]
theorem m_popw {g0 g : GG} {p : Nat} {st : List Nat} {cs : RC} {o : Nat} {ob : Bool} {bh : Int32} (f : Nat → Bool) (f0 : f 0 = false) (h : atM g0 g p st cs o ob bh) (hl : st.length + cs.length ≤ 160) (cnd : SS → Option (Bool × GG)) (s1 : Nat → Int32) (s2 : Nat → Int64)
    (hc : ∀ (g' : GG) (st' : List Nat) (cs' : RC), atM g0 g' p st' cs' o ob bh → st'.length ≤ 160 → wC cnd (s1, s2, g') (fun t g2 => t = f (top1 st') ∧ g2 = g'))
    {Z : SS → Prop} {R : Value → GG → Prop} (hx : ∀ g', atM g0 g' p (popW f st cs).1 (popW f st cs).2 o ob bh → Z (s1, s2, g')) :
    wS (sWh cnd (sSeq (sDo fX12_emit (sArgI (sCall fX12_top sNil) (sArgI (sLit 0) sNil))) (sPutOp 0 49 1 (sLit 1))) ik_fuel) (s1, s2, g) Z R := by
  refine wS_wh _ _ (fun m σ => σ.1 = s1 ∧ σ.2.1 = s2 ∧ ∃ st' cs', atM g0 σ.2.2 p st' cs' o ob bh ∧ st'.length = m ∧ st'.length + cs'.length ≤ 160 ∧ popW f st' cs' = popW f st cs) ?_ ik_fuel st.length _ (by unfold ik_fuel; omega) ⟨rfl, rfl, st, cs, h, rfl, hl, rfl⟩
  rintro m ⟨u1, u2, u3⟩ ⟨e1, e2, st', cs', e3, e4, e5, e6⟩
  simp only at e1 e2 e3
  subst e1 e2
  obtain ⟨t, g', q1, q2, q3⟩ := hc u3 st' cs' e3 (by omega)
  rw [q2, q3] at q1
  refine ⟨_, _, q1, fun ht => ?_, fun ht => ?_⟩
  · cases st' with
    | nil => rw [show top1 [] = 0 from rfl, f0] at ht; cases ht
    | cons v r =>
      have hl' : r.length + 1 + cs'.length ≤ 160 := e5
      have tp := w_topM e3 (show (v :: r).length ≤ 200 by show r.length + 1 ≤ 200; omega)
      have em := fun Q => w_emit e3 (show cs'.length < 160 by omega) (v := nI (top1 (v :: r))) (w := 0) (a := v) (b := 0) rfl rfl Q
      have st1 := e3.code v 0
      have st2 := st1.pop
      have e49 : (ik_si (ik_si (ik_si u3 30 cs'.length (nI v)) 31 cs'.length (nI 0)) 0 47 (nI (cs'.length + 1))).1 0 49 = nI (r.length + 1) := st1.2.2.2.2.2.1
      simp (decide := true) only [wE_lit, wL_lit, wE_loc, wL_loc, wE_add, wE_sub, wE_mul, wE_and, wE_or, wE_xor, wE_shl, wE_shr, wE_ushr, wE_div, wE_rem, wE_neg, wE_i2b, wE_l2i, wL_i2l, wL_add, wL_mul, wE_fld, wL_fld, wE_arr, wL_arr, wC_cmp, wC_cmp0, wC_cmpL, wC_and, wC_or, wC_not, wC_ite, wL_ite, wA_nil, wA_int, wA_long, wE_call, wL_call, wS_skip, wS_seq, wS_set, wS_setL, wS_inc, wS_if, wS_put, wS_putL, wS_putOp, wS_putOpL, wS_ast, wS_astL, wS_aop, wS_aopL, wS_ret, wS_retL, wS_retV, wS_do, wS_pop, wS_dead, wS_sw, wF_body, Nat.reduceAdd, Nat.zero_add, Bool.not_not, true_and, and_true, if_true, if_false, ↓reduceIte, eq_self, Value.int.injEq, Value.long.injEq, exists_eq_left', ik_b1, ik_b0, ik_bz0, ik_bz3, ik_bz3_1, ik_bz3_0, ik_cmp, ik_cmpL, ik_eI, ik_eL, ik_as, ik_i0, ik_i1, decide_eq_true_eq, decide_eq_false_iff_not, decide_true, decide_false, Bool.not_true, Bool.not_false, reduceCtorEq, forall_const, false_implies, true_implies, implies_true, true_and, and_true, and_self, false_and, and_false, Bool.and_true, Bool.true_and, not_true_eq_false, not_false_eq_true, if_true, if_false, ite_true, ite_false, ik_bz3_0, ik_bz3_1, ik_bz0, tp, em, e49, ik_bo, Option.some.injEq, nI_pred]
      have e4' : r.length + 1 = m := e4
      refine ⟨r.length, by omega, r, cs' ++ [(v, 0)], st2, rfl, by simp; omega, ?_⟩
      rw [← e6, popW_push (show f v = true from ht)]
  · refine hx u3 ?_
    rw [← e6, popW_end ht]
    exact e3
theorem w_sumsM {g0 g : GG} {p : Nat} {st : List Nat} {cs : RC} {o : Nat} {ob : Bool} {bh : Int32} (h : atM g0 g p st cs o ob bh) (hl : st.length + cs.length ≤ 160) (pl : Bool) : wF fX12_sums [.int (ik_b2 pl)] g (fun v g' => v = .null ∧ atM g0 g' p (popW (if pl = true then sg_tp else sg_times) st cs).1 (popW (if pl = true then sg_tp else sg_times) st cs).2 o ob bh) := by
  unfold fX12_sums
  simp (decide := true) only [wE_lit, wL_lit, wE_loc, wL_loc, wE_add, wE_sub, wE_mul, wE_and, wE_or, wE_xor, wE_shl, wE_shr, wE_ushr, wE_div, wE_rem, wE_neg, wE_i2b, wE_l2i, wL_i2l, wL_add, wL_mul, wE_fld, wL_fld, wE_arr, wL_arr, wC_cmp, wC_cmp0, wC_cmpL, wC_and, wC_or, wC_not, wC_ite, wL_ite, wA_nil, wA_int, wA_long, wE_call, wL_call, wS_skip, wS_seq, wS_set, wS_setL, wS_inc, wS_if, wS_put, wS_putL, wS_putOp, wS_putOpL, wS_ast, wS_astL, wS_aop, wS_aopL, wS_ret, wS_retL, wS_retV, wS_do, wS_pop, wS_dead, wS_sw, wF_body, Nat.reduceAdd, Nat.zero_add, Bool.not_not, true_and, and_true, if_true, if_false, ↓reduceIte, eq_self, Value.int.injEq, Value.long.injEq, exists_eq_left', ik_b1, ik_b0, ik_bz0, ik_bz3, ik_bz3_1, ik_bz3_0, ik_cmp, ik_cmpL, ik_eI, ik_eL, ik_as, ik_i0, ik_i1, decide_eq_true_eq, decide_eq_false_iff_not, decide_true, decide_false, Bool.not_true, Bool.not_false, reduceCtorEq, forall_const, false_implies, true_implies, implies_true, true_and, and_true, and_self, false_and, and_false, Bool.and_true, Bool.true_and, not_true_eq_false, not_false_eq_true, if_true, if_false, ite_true, ite_false, ik_bz3_0, ik_bz3_1, ik_bz0]
  refine m_popw (if pl = true then sg_tp else sg_times) (by cases pl <;> decide) h hl _ _ _ ?_ ?_
  · intro g' st' cs' h' hl'
    have tp := w_topM h' (show st'.length ≤ 200 by omega)
    have t256 := h'.top256
    simp (decide := true) only [wE_lit, wL_lit, wE_loc, wL_loc, wE_add, wE_sub, wE_mul, wE_and, wE_or, wE_xor, wE_shl, wE_shr, wE_ushr, wE_div, wE_rem, wE_neg, wE_i2b, wE_l2i, wL_i2l, wL_add, wL_mul, wE_fld, wL_fld, wE_arr, wL_arr, wC_cmp, wC_cmp0, wC_cmpL, wC_and, wC_or, wC_not, wC_ite, wL_ite, wA_nil, wA_int, wA_long, wE_call, wL_call, wS_skip, wS_seq, wS_set, wS_setL, wS_inc, wS_if, wS_put, wS_putL, wS_putOp, wS_putOpL, wS_ast, wS_astL, wS_aop, wS_aopL, wS_ret, wS_retL, wS_retV, wS_do, wS_pop, wS_dead, wS_sw, wF_body, Nat.reduceAdd, Nat.zero_add, Bool.not_not, true_and, and_true, if_true, if_false, ↓reduceIte, eq_self, Value.int.injEq, Value.long.injEq, exists_eq_left', ik_b1, ik_b0, ik_bz0, ik_bz3, ik_bz3_1, ik_bz3_0, ik_cmp, ik_cmpL, ik_eI, ik_eL, ik_as, ik_i0, ik_i1, decide_eq_true_eq, decide_eq_false_iff_not, decide_true, decide_false, Bool.not_true, Bool.not_false, reduceCtorEq, forall_const, false_implies, true_implies, implies_true, true_and, and_true, and_self, false_and, and_false, Bool.and_true, Bool.true_and, not_true_eq_false, not_false_eq_true, if_true, if_false, ite_true, ite_false, ik_bz3_0, ik_bz3_1, ik_bz0, tp, w_isTimesM t256, w_isPlusM t256, ik_b2_0, upd_at, upd_off]
    cases pl <;> cases h1 : sg_times (top1 st') <;> cases h2 : sg_plus (top1 st') <;> simp [sg_tp, h1, h2]
  · intro g' h'
    simp (decide := true) only [wE_lit, wL_lit, wE_loc, wL_loc, wE_add, wE_sub, wE_mul, wE_and, wE_or, wE_xor, wE_shl, wE_shr, wE_ushr, wE_div, wE_rem, wE_neg, wE_i2b, wE_l2i, wL_i2l, wL_add, wL_mul, wE_fld, wL_fld, wE_arr, wL_arr, wC_cmp, wC_cmp0, wC_cmpL, wC_and, wC_or, wC_not, wC_ite, wL_ite, wA_nil, wA_int, wA_long, wE_call, wL_call, wS_skip, wS_seq, wS_set, wS_setL, wS_inc, wS_if, wS_put, wS_putL, wS_putOp, wS_putOpL, wS_ast, wS_astL, wS_aop, wS_aopL, wS_ret, wS_retL, wS_retV, wS_do, wS_pop, wS_dead, wS_sw, wF_body, Nat.reduceAdd, Nat.zero_add, Bool.not_not, true_and, and_true, if_true, if_false, ↓reduceIte, eq_self, Value.int.injEq, Value.long.injEq, exists_eq_left', ik_b1, ik_b0, ik_bz0, ik_bz3, ik_bz3_1, ik_bz3_0, ik_cmp, ik_cmpL, ik_eI, ik_eL, ik_as, ik_i0, ik_i1, decide_eq_true_eq, decide_eq_false_iff_not, decide_true, decide_false, Bool.not_true, Bool.not_false, reduceCtorEq, forall_const, false_implies, true_implies, implies_true, true_and, and_true, and_self, false_and, and_false, Bool.and_true, Bool.true_and, not_true_eq_false, not_false_eq_true, if_true, if_false, ite_true, ite_false, ik_bz3_0, ik_bz3_1, ik_bz0]
    exact h'
theorem w_joinsM {g0 g : GG} {p : Nat} {st : List Nat} {cs : RC} {o : Nat} {ob : Bool} {bh : Int32} (h : atM g0 g p st cs o ob bh) (hl : st.length + cs.length ≤ 160) (pl : Bool) : wF fX12_joins [.int (ik_b2 pl)] g (fun v g' => v = .null ∧ atM g0 g' p (popW (if pl = true then sg_ao else sg_and) st cs).1 (popW (if pl = true then sg_ao else sg_and) st cs).2 o ob bh) := by
  unfold fX12_joins
  simp (decide := true) only [wE_lit, wL_lit, wE_loc, wL_loc, wE_add, wE_sub, wE_mul, wE_and, wE_or, wE_xor, wE_shl, wE_shr, wE_ushr, wE_div, wE_rem, wE_neg, wE_i2b, wE_l2i, wL_i2l, wL_add, wL_mul, wE_fld, wL_fld, wE_arr, wL_arr, wC_cmp, wC_cmp0, wC_cmpL, wC_and, wC_or, wC_not, wC_ite, wL_ite, wA_nil, wA_int, wA_long, wE_call, wL_call, wS_skip, wS_seq, wS_set, wS_setL, wS_inc, wS_if, wS_put, wS_putL, wS_putOp, wS_putOpL, wS_ast, wS_astL, wS_aop, wS_aopL, wS_ret, wS_retL, wS_retV, wS_do, wS_pop, wS_dead, wS_sw, wF_body, Nat.reduceAdd, Nat.zero_add, Bool.not_not, true_and, and_true, if_true, if_false, ↓reduceIte, eq_self, Value.int.injEq, Value.long.injEq, exists_eq_left', ik_b1, ik_b0, ik_bz0, ik_bz3, ik_bz3_1, ik_bz3_0, ik_cmp, ik_cmpL, ik_eI, ik_eL, ik_as, ik_i0, ik_i1, decide_eq_true_eq, decide_eq_false_iff_not, decide_true, decide_false, Bool.not_true, Bool.not_false, reduceCtorEq, forall_const, false_implies, true_implies, implies_true, true_and, and_true, and_self, false_and, and_false, Bool.and_true, Bool.true_and, not_true_eq_false, not_false_eq_true, if_true, if_false, ite_true, ite_false, ik_bz3_0, ik_bz3_1, ik_bz0]
  refine m_popw (if pl = true then sg_ao else sg_and) (by cases pl <;> decide) h hl _ _ _ ?_ ?_
  · intro g' st' cs' h' hl'
    have tp := w_topM h' (show st'.length ≤ 200 by omega)
    have t256 := h'.top256
    have n38 := nI_is t256 (k := 38) (by omega) (a := 38) rfl
    have n124 := nI_is t256 (k := 124) (by omega) (a := 124) rfl
    simp (decide := true) only [wE_lit, wL_lit, wE_loc, wL_loc, wE_add, wE_sub, wE_mul, wE_and, wE_or, wE_xor, wE_shl, wE_shr, wE_ushr, wE_div, wE_rem, wE_neg, wE_i2b, wE_l2i, wL_i2l, wL_add, wL_mul, wE_fld, wL_fld, wE_arr, wL_arr, wC_cmp, wC_cmp0, wC_cmpL, wC_and, wC_or, wC_not, wC_ite, wL_ite, wA_nil, wA_int, wA_long, wE_call, wL_call, wS_skip, wS_seq, wS_set, wS_setL, wS_inc, wS_if, wS_put, wS_putL, wS_putOp, wS_putOpL, wS_ast, wS_astL, wS_aop, wS_aopL, wS_ret, wS_retL, wS_retV, wS_do, wS_pop, wS_dead, wS_sw, wF_body, Nat.reduceAdd, Nat.zero_add, Bool.not_not, true_and, and_true, if_true, if_false, ↓reduceIte, eq_self, Value.int.injEq, Value.long.injEq, exists_eq_left', ik_b1, ik_b0, ik_bz0, ik_bz3, ik_bz3_1, ik_bz3_0, ik_cmp, ik_cmpL, ik_eI, ik_eL, ik_as, ik_i0, ik_i1, decide_eq_true_eq, decide_eq_false_iff_not, decide_true, decide_false, Bool.not_true, Bool.not_false, reduceCtorEq, forall_const, false_implies, true_implies, implies_true, true_and, and_true, and_self, false_and, and_false, Bool.and_true, Bool.true_and, not_true_eq_false, not_false_eq_true, if_true, if_false, ite_true, ite_false, ik_bz3_0, ik_bz3_1, ik_bz0, tp, ik_b2_0, n38, n124, upd_at, upd_off]
    cases pl <;> by_cases h1 : top1 st' = 38 <;> by_cases h2 : top1 st' = 124 <;> simp [sg_ao, sg_and, sg_or, h1, h2]
  · intro g' h'
    simp (decide := true) only [wE_lit, wL_lit, wE_loc, wL_loc, wE_add, wE_sub, wE_mul, wE_and, wE_or, wE_xor, wE_shl, wE_shr, wE_ushr, wE_div, wE_rem, wE_neg, wE_i2b, wE_l2i, wL_i2l, wL_add, wL_mul, wE_fld, wL_fld, wE_arr, wL_arr, wC_cmp, wC_cmp0, wC_cmpL, wC_and, wC_or, wC_not, wC_ite, wL_ite, wA_nil, wA_int, wA_long, wE_call, wL_call, wS_skip, wS_seq, wS_set, wS_setL, wS_inc, wS_if, wS_put, wS_putL, wS_putOp, wS_putOpL, wS_ast, wS_astL, wS_aop, wS_aopL, wS_ret, wS_retL, wS_retV, wS_do, wS_pop, wS_dead, wS_sw, wF_body, Nat.reduceAdd, Nat.zero_add, Bool.not_not, true_and, and_true, if_true, if_false, ↓reduceIte, eq_self, Value.int.injEq, Value.long.injEq, exists_eq_left', ik_b1, ik_b0, ik_bz0, ik_bz3, ik_bz3_1, ik_bz3_0, ik_cmp, ik_cmpL, ik_eI, ik_eL, ik_as, ik_i0, ik_i1, decide_eq_true_eq, decide_eq_false_iff_not, decide_true, decide_false, Bool.not_true, Bool.not_false, reduceCtorEq, forall_const, false_implies, true_implies, implies_true, true_and, and_true, and_self, false_and, and_false, Bool.and_true, Bool.true_and, not_true_eq_false, not_false_eq_true, if_true, if_false, ite_true, ite_false, ik_bz3_0, ik_bz3_1, ik_bz0]
    exact h'
theorem w_endsM {g0 g : GG} {p : Nat} {st : List Nat} {cs : RC} {ob : Bool} {bh : Int32} (h : atM g0 g p st cs (opn st) ob bh) (hl : st.length + cs.length ≤ 160) : wF fX12_ends [] g (fun v g' => v = .null ∧ atM g0 g' p (popE st cs).1 (popE st cs).2 (opn (popE st cs).1) ob bh) := by
  unfold fX12_ends
  simp (decide := true) only [wE_lit, wL_lit, wE_loc, wL_loc, wE_add, wE_sub, wE_mul, wE_and, wE_or, wE_xor, wE_shl, wE_shr, wE_ushr, wE_div, wE_rem, wE_neg, wE_i2b, wE_l2i, wL_i2l, wL_add, wL_mul, wE_fld, wL_fld, wE_arr, wL_arr, wC_cmp, wC_cmp0, wC_cmpL, wC_and, wC_or, wC_not, wC_ite, wL_ite, wA_nil, wA_int, wA_long, wE_call, wL_call, wS_skip, wS_seq, wS_set, wS_setL, wS_inc, wS_if, wS_put, wS_putL, wS_putOp, wS_putOpL, wS_ast, wS_astL, wS_aop, wS_aopL, wS_ret, wS_retL, wS_retV, wS_do, wS_pop, wS_dead, wS_sw, wF_body, Nat.reduceAdd, Nat.zero_add, Bool.not_not, true_and, and_true, if_true, if_false, ↓reduceIte, eq_self, Value.int.injEq, Value.long.injEq, exists_eq_left', ik_b1, ik_b0, ik_bz0, ik_bz3, ik_bz3_1, ik_bz3_0, ik_cmp, ik_cmpL, ik_eI, ik_eL, ik_as, ik_i0, ik_i1, decide_eq_true_eq, decide_eq_false_iff_not, decide_true, decide_false, Bool.not_true, Bool.not_false, reduceCtorEq, forall_const, false_implies, true_implies, implies_true, true_and, and_true, and_self, false_and, and_false, Bool.and_true, Bool.true_and, not_true_eq_false, not_false_eq_true, if_true, if_false, ite_true, ite_false, ik_bz3_0, ik_bz3_1, ik_bz0]
  refine wS_wh _ _ (fun m σ => ∃ st' cs', atM g0 σ.2.2 p st' cs' (opn st') ob bh ∧ st'.length = m ∧ st'.length + cs'.length ≤ 160 ∧ popE st' cs' = popE st cs) ?_ ik_fuel st.length _ (by unfold ik_fuel; omega) ⟨st, cs, h, rfl, hl, rfl⟩
  rintro m ⟨u1, u2, u3⟩ ⟨st', cs', e3, e4, e5, e6⟩
  simp only at e3
  have tp := w_topM e3 (show st'.length ≤ 200 by omega)
  have n33 := nI_is e3.top256 (k := 33) (by omega) (a := 33) rfl
  by_cases c : top1 st' = 33
  · cases st' with
    | nil => exact absurd c (by decide)
    | cons v r =>
      have hv : v = 33 := c
      subst hv
      have hl' : r.length + 1 + cs'.length ≤ 160 := e5
      have em := fun Q => w_emit e3 (show cs'.length < 160 by omega) (v := 2) (w := 0) (a := 2) (b := 0) rfl rfl Q
      have st1 := e3.code 2 0
      have st2 := st1.pop.set.1 (opn r)
      have e49 : (ik_si (ik_si (ik_si u3 30 cs'.length (nI 2)) 31 cs'.length (nI 0)) 0 47 (nI (cs'.length + 1))).1 0 49 = nI (r.length + 1) := st1.2.2.2.2.2.1
      have e48 : (ik_si (ik_si (ik_si (ik_si u3 30 cs'.length (nI 2)) 31 cs'.length (nI 0)) 0 47 (nI (cs'.length + 1))) 0 49 (nI r.length)).1 0 48 = nI (opn r + 1) := st1.pop.2.2.2.2.1
      simp (decide := true) only [wE_lit, wL_lit, wE_loc, wL_loc, wE_add, wE_sub, wE_mul, wE_and, wE_or, wE_xor, wE_shl, wE_shr, wE_ushr, wE_div, wE_rem, wE_neg, wE_i2b, wE_l2i, wL_i2l, wL_add, wL_mul, wE_fld, wL_fld, wE_arr, wL_arr, wC_cmp, wC_cmp0, wC_cmpL, wC_and, wC_or, wC_not, wC_ite, wL_ite, wA_nil, wA_int, wA_long, wE_call, wL_call, wS_skip, wS_seq, wS_set, wS_setL, wS_inc, wS_if, wS_put, wS_putL, wS_putOp, wS_putOpL, wS_ast, wS_astL, wS_aop, wS_aopL, wS_ret, wS_retL, wS_retV, wS_do, wS_pop, wS_dead, wS_sw, wF_body, Nat.reduceAdd, Nat.zero_add, Bool.not_not, true_and, and_true, if_true, if_false, ↓reduceIte, eq_self, Value.int.injEq, Value.long.injEq, exists_eq_left', ik_b1, ik_b0, ik_bz0, ik_bz3, ik_bz3_1, ik_bz3_0, ik_cmp, ik_cmpL, ik_eI, ik_eL, ik_as, ik_i0, ik_i1, decide_eq_true_eq, decide_eq_false_iff_not, decide_true, decide_false, Bool.not_true, Bool.not_false, reduceCtorEq, forall_const, false_implies, true_implies, implies_true, true_and, and_true, and_self, false_and, and_false, Bool.and_true, Bool.true_and, not_true_eq_false, not_false_eq_true, if_true, if_false, ite_true, ite_false, ik_bz3_0, ik_bz3_1, ik_bz0, tp, n33, c, em, e49, e48, ik_bo, Option.some.injEq, nI_pred]
      have e4' : r.length + 1 = m := e4
      refine ⟨r.length, by omega, r, cs' ++ [(2, 0)], st2, rfl, by simp; omega, ?_⟩
      rw [← e6, popE_push]
  · simp (decide := true) only [wE_lit, wL_lit, wE_loc, wL_loc, wE_add, wE_sub, wE_mul, wE_and, wE_or, wE_xor, wE_shl, wE_shr, wE_ushr, wE_div, wE_rem, wE_neg, wE_i2b, wE_l2i, wL_i2l, wL_add, wL_mul, wE_fld, wL_fld, wE_arr, wL_arr, wC_cmp, wC_cmp0, wC_cmpL, wC_and, wC_or, wC_not, wC_ite, wL_ite, wA_nil, wA_int, wA_long, wE_call, wL_call, wS_skip, wS_seq, wS_set, wS_setL, wS_inc, wS_if, wS_put, wS_putL, wS_putOp, wS_putOpL, wS_ast, wS_astL, wS_aop, wS_aopL, wS_ret, wS_retL, wS_retV, wS_do, wS_pop, wS_dead, wS_sw, wF_body, Nat.reduceAdd, Nat.zero_add, Bool.not_not, true_and, and_true, if_true, if_false, ↓reduceIte, eq_self, Value.int.injEq, Value.long.injEq, exists_eq_left', ik_b1, ik_b0, ik_bz0, ik_bz3, ik_bz3_1, ik_bz3_0, ik_cmp, ik_cmpL, ik_eI, ik_eL, ik_as, ik_i0, ik_i1, decide_eq_true_eq, decide_eq_false_iff_not, decide_true, decide_false, Bool.not_true, Bool.not_false, reduceCtorEq, forall_const, false_implies, true_implies, implies_true, true_and, and_true, and_self, false_and, and_false, Bool.and_true, Bool.true_and, not_true_eq_false, not_false_eq_true, if_true, if_false, ite_true, ite_false, ik_bz3_0, ik_bz3_1, ik_bz0, tp, n33, c]
    rw [← e6, popE_end c]
    exact e3
theorem w_opensM {c : Nat → Nat} {N p : Nat} {g0 g : GG} {st : List Nat} {cs : RC} {ob : Bool} {bh : Int32} (ht : txM c N g0) (h : atM g0 g p st cs (opn st) ob bh) (hl : st.length + cs.length ≤ p) (hp : p < N) (hc : sg_open (c p) = true) (ho : opn st ≤ 6) :
    wF fX12_opens [] g (fun v g' => v = .null ∧ if opn st = 6 then flM g0 g' 5 p else atM g0 g' (p + 1) (c p :: st) cs (opn (c p :: st)) ob bh) := by
  obtain ⟨t1, t2, hz, t4⟩ := id ht
  have hr := fun Q => w_hereM ht h.1 h.2.1 (show p < 2 ^ 31 by omega) Q
  have e48 : g.1 0 48 = nI (opn st) := h.2.2.2.2.1
  have e6 : (nI (opn st) = 6) ↔ opn st = 6 := nI_ne_of rfl (by omega) (by omega)
  unfold fX12_opens
  by_cases c6 : opn st = 6
  · have hb := h.bad (e := 5) (q := p) (by omega) (by omega)
    have wr := fun Q => w_wrongs (g := g) (e := 5) (p := p) h.2.2.1 Q (v := 5) rfl
    have e30 : g.1 0 30 = nI p := h.2.1
    have hr2 : ∀ (w : Int32) (Q : Value → GG → Prop), wF fX12_here [] (ik_si (ik_si g 0 32 (-(nI (1000 * 5 + p)))) 0 48 w) Q ↔ Q (.int (nI (c p))) (ik_si (ik_si g 0 32 (-(nI (1000 * 5 + p)))) 0 48 w) := fun w Q => w_hereM ht (hb.1.si0 (by omega) _) (by rw [ik_si_ne _ _ _ _ _ (by omega), ik_si_ne _ _ _ _ _ (by omega)]; exact h.2.1) (by omega) Q
    have hpu : ∀ (w v : Int32) (Q : Value → GG → Prop), wF fX12_puts [.int v] (ik_si (ik_si g 0 32 (-(nI (1000 * 5 + p)))) 0 48 w) Q ↔ _ := fun w v Q => w_putsF (n := st.length) (p := p) (by rw [ik_si_ne _ _ _ _ _ (by omega), ik_si_ne _ _ _ _ _ (by omega)]; exact h.2.2.2.2.2.1) (by rw [ik_si_ne _ _ _ _ _ (by omega), ik_si_ne _ _ _ _ _ (by omega)]; exact h.2.1) (by omega) v Q
    simp (decide := true) only [wE_lit, wL_lit, wE_loc, wL_loc, wE_add, wE_sub, wE_mul, wE_and, wE_or, wE_xor, wE_shl, wE_shr, wE_ushr, wE_div, wE_rem, wE_neg, wE_i2b, wE_l2i, wL_i2l, wL_add, wL_mul, wE_fld, wL_fld, wE_arr, wL_arr, wC_cmp, wC_cmp0, wC_cmpL, wC_and, wC_or, wC_not, wC_ite, wL_ite, wA_nil, wA_int, wA_long, wE_call, wL_call, wS_skip, wS_seq, wS_set, wS_setL, wS_inc, wS_if, wS_put, wS_putL, wS_putOp, wS_putOpL, wS_ast, wS_astL, wS_aop, wS_aopL, wS_ret, wS_retL, wS_retV, wS_do, wS_pop, wS_dead, wS_sw, wF_body, Nat.reduceAdd, Nat.zero_add, Bool.not_not, true_and, and_true, if_true, if_false, ↓reduceIte, eq_self, Value.int.injEq, Value.long.injEq, exists_eq_left', ik_b1, ik_b0, ik_bz0, ik_bz3, ik_bz3_1, ik_bz3_0, ik_cmp, ik_cmpL, ik_eI, ik_eL, ik_as, ik_i0, ik_i1, decide_eq_true_eq, decide_eq_false_iff_not, decide_true, decide_false, Bool.not_true, Bool.not_false, reduceCtorEq, forall_const, false_implies, true_implies, implies_true, true_and, and_true, and_self, false_and, and_false, Bool.and_true, Bool.true_and, not_true_eq_false, not_false_eq_true, if_true, if_false, ite_true, ite_false, ik_bz3_0, ik_bz3_1, ik_bz0, e48, e6, c6, e30, wr, ik_si_ne, ik_bo, Option.some.injEq, hr2, hpu]
    exact (show flM g0 (ik_si (ik_si g 0 32 (-(nI (1000 * 5 + p)))) 0 48 _) 5 p from ⟨hb.1.si0 (by omega) _, by rw [ik_si_ne _ _ _ _ _ (by omega)]; exact hb.2.1, hb.2.2⟩).putsF _ _ _ _
  · have h1 := h.set.1 (opn st + 1)
    have hr2 : ∀ (Q : Value → GG → Prop), wF fX12_here [] (ik_si g 0 48 (nI (opn st + 1))) Q ↔ Q (.int (nI (c p))) (ik_si g 0 48 (nI (opn st + 1))) := fun Q => w_hereM ht h1.1 h1.2.1 (by omega) Q
    have pu := fun v Q => w_puts h1 (show st.length < 200 by omega) v Q
    simp (decide := true) only [wE_lit, wL_lit, wE_loc, wL_loc, wE_add, wE_sub, wE_mul, wE_and, wE_or, wE_xor, wE_shl, wE_shr, wE_ushr, wE_div, wE_rem, wE_neg, wE_i2b, wE_l2i, wL_i2l, wL_add, wL_mul, wE_fld, wL_fld, wE_arr, wL_arr, wC_cmp, wC_cmp0, wC_cmpL, wC_and, wC_or, wC_not, wC_ite, wL_ite, wA_nil, wA_int, wA_long, wE_call, wL_call, wS_skip, wS_seq, wS_set, wS_setL, wS_inc, wS_if, wS_put, wS_putL, wS_putOp, wS_putOpL, wS_ast, wS_astL, wS_aop, wS_aopL, wS_ret, wS_retL, wS_retV, wS_do, wS_pop, wS_dead, wS_sw, wF_body, Nat.reduceAdd, Nat.zero_add, Bool.not_not, true_and, and_true, if_true, if_false, ↓reduceIte, eq_self, Value.int.injEq, Value.long.injEq, exists_eq_left', ik_b1, ik_b0, ik_bz0, ik_bz3, ik_bz3_1, ik_bz3_0, ik_cmp, ik_cmpL, ik_eI, ik_eL, ik_as, ik_i0, ik_i1, decide_eq_true_eq, decide_eq_false_iff_not, decide_true, decide_false, Bool.not_true, Bool.not_false, reduceCtorEq, forall_const, false_implies, true_implies, implies_true, true_and, and_true, and_self, false_and, and_false, Bool.and_true, Bool.true_and, not_true_eq_false, not_false_eq_true, if_true, if_false, ite_true, ite_false, ik_bz3_0, ik_bz3_1, ik_bz0, e48, e6, c6, ik_bo, Option.some.injEq, nI_1, hr2, pu]
    rw [opn_yes hc]
    exact h1.push (t4 p hp).1
