/-! a name's and a bar's own facts, as the class reads them -/
theorem nI_bit {n k : Nat} (hn : n < 2 ^ 31) (hk : k < 32) : ((nI n >>> (nI k &&& 31)) &&& 1 = 0) ↔ n.testBit k = false := by
  have e : ∀ q : Fin 32, ((nI q.val &&& 31).toBitVec.smod 32).toNat = q.val := by decide +kernel
  have h1 := pk_shrN (n := n) hn (nI k &&& 31) k (e ⟨k, hk⟩)
  have lt : n / 2 ^ k < 2 ^ 32 := Nat.lt_of_le_of_lt (Nat.div_le_self _ _) (by omega)
  rw [h1, pk_andN lt (m := 1) 1 (by rfl)]
  rw [Nat.testBit_eq_decide_div_mod_eq]
  have m2 : n / 2 ^ k % 2 ^ 1 < 2 := Nat.mod_lt _ (by omega)
  rw [← nI_0, nI_eq (by omega) (by omega)]
  simp only [decide_eq_false_iff_not]
  omega
theorem x_get1 {y : GG} {f : FF} {o a n N : Nat} {z : Int32} {has : FF} (hf : f = sBody [.inr o, .inl 0] (sRet 0 (sIte (sCmp0 1 (sCall has (sArgI (sLoc 1) sNil))) (sArr a n (sLoc 1)) (sLit z)))) {i : Nat} (hi : i < N) (hN : N ≤ n) (hn : n < 2 ^ 31) (hh : ∀ Q : Value → GG → Prop, wF has [.int (nI i)] y Q ↔ Q (.int (if isI (nI i) N then 1 else 0)) y) (Q : Value → GG → Prop) : wF f [.int (nI i)] y Q ↔ Q (.int (y.1 a i)) y := by
  refine wF_eq (eq_of_wF ?_) Q
  subst hf
  have e := isI_nI (a := i) (N := N) (by omega) hi
  simp (decide := true) only [wE_lit, wL_lit, wE_loc, wL_loc, wE_add, wE_sub, wE_mul, wE_and, wE_or, wE_xor, wE_shl, wE_shr, wE_ushr, wE_div, wE_rem, wE_neg, wE_i2b, wE_l2i, wL_i2l, wL_add, wL_mul, wE_fld, wL_fld, wE_arr, wL_arr, wC_cmp, wC_cmp0, wC_cmpL, wC_and, wC_or, wC_not, wC_ite, wL_ite, wA_nil, wA_int, wA_long, wE_call, wL_call, wS_skip, wS_seq, wS_set, wS_setL, wS_inc, wS_if, wS_put, wS_putL, wS_putOp, wS_putOpL, wS_ast, wS_astL, wS_aop, wS_aopL, wS_ret, wS_retL, wS_retV, wS_do, wS_pop, wS_dead, wS_sw, wF_body, Nat.reduceAdd, Nat.zero_add, Bool.not_not, true_and, and_true, if_true, if_false, ↓reduceIte, eq_self, Value.int.injEq, Value.long.injEq, exists_eq_left', ik_b1, ik_b0, ik_bz0, ik_bz3, ik_bz3_1, ik_bz3_0, ik_cmp, ik_cmpL, ik_eI, ik_eL, ik_as, wE_ite, hh, if_pos e, ik_i0, ik_i1, decide_eq_true_eq, decide_eq_false_iff_not, decide_true, decide_false, Bool.not_true, Bool.not_false, reduceCtorEq, forall_const, false_implies, true_implies, implies_true, true_and, and_true, and_self, false_and, and_false, Bool.and_true, Bool.true_and, not_true_eq_false, not_false_eq_true, if_true, if_false, ite_true, ite_false, ik_bz3_0, ik_bz3_1, ik_bz0, ik_ix_nI (show i < n by omega) hn, Option.some.injEq]
theorem w_sort6 {y m : GG} {N i : Nat} (h : rN y m N) (hi : i < N) (Q : Value → GG → Prop) : wF fX6_sort [.int (nI i)] y Q ↔ Q (.int (m.1 6 i)) y := by
  rw [← (h.2.2.2.2.1 i hi).2.1]
  exact x_get1 (n := 24) rfl hi h.1 (by omega) (fun Q => w_nameHas h.2.1 h.1 _ Q) Q
theorem w_from6 {y m : GG} {N i : Nat} (h : rN y m N) (hi : i < N) (Q : Value → GG → Prop) : wF fX6_from [.int (nI i)] y Q ↔ Q (.int (m.1 7 i)) y := by
  rw [← (h.2.2.2.2.1 i hi).2.2.1]
  exact x_get1 (n := 24) rfl hi h.1 (by omega) (fun Q => w_nameHas h.2.1 h.1 _ Q) Q
theorem w_to6 {y m : GG} {N i : Nat} (h : rN y m N) (hi : i < N) (Q : Value → GG → Prop) : wF fX6_to [.int (nI i)] y Q ↔ Q (.int (m.1 8 i)) y := by
  rw [← (h.2.2.2.2.1 i hi).2.2.2.1]
  exact x_get1 (n := 24) rfl hi h.1 (by omega) (fun Q => w_nameHas h.2.1 h.1 _ Q) Q
theorem w_weight6 {y m : GG} {N i : Nat} (h : rN y m N) (hi : i < N) (Q : Value → GG → Prop) : wF fX6_weight [.int (nI i)] y Q ↔ Q (.int (m.1 9 i)) y := by
  rw [← (h.2.2.2.2.1 i hi).2.2.2.2.1]
  exact x_get1 (n := 24) rfl hi h.1 (by omega) (fun Q => w_nameHas h.2.1 h.1 _ Q) Q
theorem w_ahead6 {y m : GG} {N i : Nat} (h : rN y m N) (hi : i < N) (Q : Value → GG → Prop) : wF fX6_ahead [.int (nI i)] y Q ↔ Q (.int (y.1 14 i)) y :=
  x_get1 (n := 24) rfl hi h.1 (by omega) (fun Q => w_nameHas h.2.1 h.1 _ Q) Q
theorem w_ink0 {y m : GG} {B k : Nat} (h : rB y m B) (hk : k < B) (Q : Value → GG → Prop) : wF fX0_ink [.int (nI k)] y Q ↔ Q (.int (m.1 10 k)) y := by
  rw [← (h.2.2.2 k hk).1]
  exact x_get1 (n := 4) rfl hk h.1 (by omega) (fun Q => w_barHas h.2.1 h.1 _ Q) Q
theorem w_year0 {y m : GG} {B k : Nat} (h : rB y m B) (hk : k < B) (Q : Value → GG → Prop) : wF fX0_year [.int (nI k)] y Q ↔ Q (.int (m.1 11 k)) y := by
  rw [← (h.2.2.2 k hk).2.1]
  exact x_get1 (n := 4) rfl hk h.1 (by omega) (fun Q => w_barHas h.2.1 h.1 _ Q) Q
theorem w_sorts0 {y m : GG} {B k : Nat} (h : rB y m B) (hk : k < B) (Q : Value → GG → Prop) : wF fX0_sorts [.int (nI k)] y Q ↔ Q (.int (m.1 12 k)) y := by
  rw [← (h.2.2.2 k hk).2.2.1]
  exact x_get1 (n := 4) rfl hk h.1 (by omega) (fun Q => w_barHas h.2.1 h.1 _ Q) Q
theorem w_length6 {y m : GG} {N i : Nat} (h : rN y m N) (hi : i < N) (Q : Value → GG → Prop) : wF fX6_length [.int (nI i)] y Q ↔ Q (.int (m.1 5 i)) y := by
  refine wF_eq (eq_of_wF ?_) Q
  obtain ⟨⟨n, k1, k2, e1, e2, e3⟩, -⟩ := h.2.2.2.2.1 i hi
  have e : y.1 9 i = m.1 5 i := e1.trans e2.symm
  unfold fX6_length
  simp (decide := true) only [wE_lit, wL_lit, wE_loc, wL_loc, wE_add, wE_sub, wE_mul, wE_and, wE_or, wE_xor, wE_shl, wE_shr, wE_ushr, wE_div, wE_rem, wE_neg, wE_i2b, wE_l2i, wL_i2l, wL_add, wL_mul, wE_fld, wL_fld, wE_arr, wL_arr, wC_cmp, wC_cmp0, wC_cmpL, wC_and, wC_or, wC_not, wC_ite, wL_ite, wA_nil, wA_int, wA_long, wE_call, wL_call, wS_skip, wS_seq, wS_set, wS_setL, wS_inc, wS_if, wS_put, wS_putL, wS_putOp, wS_putOpL, wS_ast, wS_astL, wS_aop, wS_aopL, wS_ret, wS_retL, wS_retV, wS_do, wS_pop, wS_dead, wS_sw, wF_body, Nat.reduceAdd, Nat.zero_add, Bool.not_not, true_and, and_true, if_true, if_false, ↓reduceIte, eq_self, Value.int.injEq, Value.long.injEq, exists_eq_left', ik_b1, ik_b0, ik_bz0, ik_bz3, ik_bz3_1, ik_bz3_0, ik_cmp, ik_cmpL, ik_eI, ik_eL, ik_as, ik_i0, ik_i1, decide_eq_true_eq, decide_eq_false_iff_not, decide_true, decide_false, Bool.not_true, Bool.not_false, reduceCtorEq, forall_const, false_implies, true_implies, implies_true, true_and, and_true, and_self, false_and, and_false, Bool.and_true, Bool.true_and, not_true_eq_false, not_false_eq_true, if_true, if_false, ite_true, ite_false, ik_bz3_0, ik_bz3_1, ik_bz0, w_length7 h hi, e]
theorem w_first6 {y m : GG} {N i : Nat} (h : rN y m N) (hi : i < N) (Q : Value → GG → Prop) : wF fX6_first [.int (nI i)] y Q ↔ Q (.int (m.1 4 (12 * i) - 97 + 1)) y := by
  refine wF_eq (eq_of_wF ?_) Q
  obtain ⟨⟨n, k1, k2, e1, e2, e3⟩, -⟩ := h.2.2.2.2.1 i hi
  obtain ⟨c, g1, g2, g3, g4⟩ := e3 0 (by omega)
  have g4' : m.1 4 (12 * i) = nI (c + 96) := g4
  have g3' : y.1 8 (12 * i + 0) = nI c := g3
  have w := w_letter7 (k := 0) h hi k2 e1 (by omega)
  rw [nI_0] at w
  unfold fX6_first
  simp (decide := true) only [wE_lit, wL_lit, wE_loc, wL_loc, wE_add, wE_sub, wE_mul, wE_and, wE_or, wE_xor, wE_shl, wE_shr, wE_ushr, wE_div, wE_rem, wE_neg, wE_i2b, wE_l2i, wL_i2l, wL_add, wL_mul, wE_fld, wL_fld, wE_arr, wL_arr, wC_cmp, wC_cmp0, wC_cmpL, wC_and, wC_or, wC_not, wC_ite, wL_ite, wA_nil, wA_int, wA_long, wE_call, wL_call, wS_skip, wS_seq, wS_set, wS_setL, wS_inc, wS_if, wS_put, wS_putL, wS_putOp, wS_putOpL, wS_ast, wS_astL, wS_aop, wS_aopL, wS_ret, wS_retL, wS_retV, wS_do, wS_pop, wS_dead, wS_sw, wF_body, Nat.reduceAdd, Nat.zero_add, Bool.not_not, true_and, and_true, if_true, if_false, ↓reduceIte, eq_self, Value.int.injEq, Value.long.injEq, exists_eq_left', ik_b1, ik_b0, ik_bz0, ik_bz3, ik_bz3_1, ik_bz3_0, ik_cmp, ik_cmpL, ik_eI, ik_eL, ik_as, ik_i0, ik_i1, decide_eq_true_eq, decide_eq_false_iff_not, decide_true, decide_false, Bool.not_true, Bool.not_false, reduceCtorEq, forall_const, false_implies, true_implies, implies_true, true_and, and_true, and_self, false_and, and_false, Bool.and_true, Bool.true_and, not_true_eq_false, not_false_eq_true, if_true, if_false, ite_true, ite_false, ik_bz3_0, ik_bz3_1, ik_bz0, w, g3', g4', ik_c97]
theorem w_vowel6 {y m : GG} {N i : Nat} (h : rN y m N) (hi : i < N) (Q : Value → GG → Prop) : wF fX6_vowel [.int (nI i)] y Q ↔ Q (.int (ik_b2 (ik_vb m i))) y := by
  refine wF_eq (eq_of_wF ?_) Q
  have e : ∀ v : Int32, v - 97 + 1 + 97 - 1 = v := fun v => by
    rw [Int32.sub_eq_add_neg, Int32.sub_eq_add_neg, Int32.add_assoc, Int32.add_assoc, Int32.add_assoc, show (-97 + (1 + (97 + -1)) : Int32) = 0 from rfl, Int32.add_zero]
  unfold fX6_vowel ik_vb
  simp (decide := true) only [wE_lit, wL_lit, wE_loc, wL_loc, wE_add, wE_sub, wE_mul, wE_and, wE_or, wE_xor, wE_shl, wE_shr, wE_ushr, wE_div, wE_rem, wE_neg, wE_i2b, wE_l2i, wL_i2l, wL_add, wL_mul, wE_fld, wL_fld, wE_arr, wL_arr, wC_cmp, wC_cmp0, wC_cmpL, wC_and, wC_or, wC_not, wC_ite, wL_ite, wA_nil, wA_int, wA_long, wE_call, wL_call, wS_skip, wS_seq, wS_set, wS_setL, wS_inc, wS_if, wS_put, wS_putL, wS_putOp, wS_putOpL, wS_ast, wS_astL, wS_aop, wS_aopL, wS_ret, wS_retL, wS_retV, wS_do, wS_pop, wS_dead, wS_sw, wF_body, Nat.reduceAdd, Nat.zero_add, Bool.not_not, true_and, and_true, if_true, if_false, ↓reduceIte, eq_self, Value.int.injEq, Value.long.injEq, exists_eq_left', ik_b1, ik_b0, ik_bz0, ik_bz3, ik_bz3_1, ik_bz3_0, ik_cmp, ik_cmpL, ik_eI, ik_eL, ik_as, ik_i0, ik_i1, decide_eq_true_eq, decide_eq_false_iff_not, decide_true, decide_false, Bool.not_true, Bool.not_false, reduceCtorEq, forall_const, false_implies, true_implies, implies_true, true_and, and_true, and_self, false_and, and_false, Bool.and_true, Bool.true_and, not_true_eq_false, not_false_eq_true, if_true, if_false, ite_true, ite_false, ik_bz3_0, ik_bz3_1, ik_bz0, wE_ite2, w_first6 h hi, e, upd_at, upd_off]
  generalize m.1 4 (12 * i) = v
  by_cases h1 : v = 97
  · subst h1; simp (decide := true) [ik_b2]
  by_cases h2 : v = 101
  · subst h2; simp (decide := true) [ik_b2]
  by_cases h3 : v = 105
  · subst h3; simp (decide := true) [ik_b2]
  by_cases h4 : v = 111
  · subst h4; simp (decide := true) [ik_b2]
  by_cases h5 : v = 117
  · subst h5; simp (decide := true) [ik_b2]
  simp [h1, h2, h3, h4, h5, ik_b2]
/-- what is told to the rules -/
theorem w_tell {g : GG} {p : Nat} (hp : p < 26) {a : Int32} (ha : a = nI (97 + p)) (v : Int32) (Q : Value → GG → Prop) : wF fX7_tell [.int a, .int v] g Q ↔ Q .null (ik_si g 38 p v) := by
  subst ha
  refine wF_eq (eq_of_wF ?_) Q
  have e : nI (97 + p) - 97 = nI p := by rw [show (97 : Int32) = nI 97 from rfl, pk_sub (by omega)]; congr 1; omega
  have p1 := nI_pos' (n := p) (by omega)
  have p2 := nI_lt hp (by omega)
  unfold fX7_tell
  simp (decide := true) only [wE_lit, wL_lit, wE_loc, wL_loc, wE_add, wE_sub, wE_mul, wE_and, wE_or, wE_xor, wE_shl, wE_shr, wE_ushr, wE_div, wE_rem, wE_neg, wE_i2b, wE_l2i, wL_i2l, wL_add, wL_mul, wE_fld, wL_fld, wE_arr, wL_arr, wC_cmp, wC_cmp0, wC_cmpL, wC_and, wC_or, wC_not, wC_ite, wL_ite, wA_nil, wA_int, wA_long, wE_call, wL_call, wS_skip, wS_seq, wS_set, wS_setL, wS_inc, wS_if, wS_put, wS_putL, wS_putOp, wS_putOpL, wS_ast, wS_astL, wS_aop, wS_aopL, wS_ret, wS_retL, wS_retV, wS_do, wS_pop, wS_dead, wS_sw, wF_body, Nat.reduceAdd, Nat.zero_add, Bool.not_not, true_and, and_true, if_true, if_false, ↓reduceIte, eq_self, Value.int.injEq, Value.long.injEq, exists_eq_left', ik_b1, ik_b0, ik_bz0, ik_bz3, ik_bz3_1, ik_bz3_0, ik_cmp, ik_cmpL, ik_eI, ik_eL, ik_as, ik_i0, ik_i1, decide_eq_true_eq, decide_eq_false_iff_not, decide_true, decide_false, Bool.not_true, Bool.not_false, reduceCtorEq, forall_const, false_implies, true_implies, implies_true, true_and, and_true, and_self, false_and, and_false, Bool.and_true, Bool.true_and, not_true_eq_false, not_false_eq_true, if_true, if_false, ite_true, ite_false, ik_bz3_0, ik_bz3_1, ik_bz0, e, upd_at, upd_off, show (26 : Int32) = nI 26 from rfl, p1, p2, ik_ix_nI hp (by omega), Option.some.injEq]
theorem eqX.s38 {x y : GG} (h : eqX x y) (p : Nat) (v : Int32) : eqX x (ik_si y 38 p v) := h.tr ⟨fun a a1 a2 a3 a4 a5 a6 a7 a8 a9 a10 a11 a12 a13 a14 => by rw [ik_si_row _ _ _ _ _ a5], fun j _ => by rw [ik_si_row _ _ _ _ _ (by decide)], fun j _ => by rw [ik_si_row _ _ _ _ _ (by decide)], fun j _ => by rw [ik_si_row _ _ _ _ _ (by decide)], fun j _ => by rw [ik_si_row _ _ _ _ _ (by decide)], rfl⟩
theorem w_tellFacts {x m y : GG} {N B S k i : Nat} (h : rE x m N B S) (hx : eqF x y) (hk : k < B) (hi : i < N) :
    wF fX11_tellFacts [.int (nI k), .int (nI i), .int (ik_b2 (ik_vb m i))] y (fun v g => v = .null ∧ eqF x g ∧ ∀ l, sg_fact l = true → g.1 38 (l - 97) = valM m k i l) := by
  have hh : ∀ z, eqF x z → rE z m N B S := fun z hz => h.eq hz.x (eqM.rfl' m)
  obtain ⟨y1, d1⟩ : ∃ z, z = ik_si y 38 8 (nI i) := ⟨_, rfl⟩
  have q1 : eqF x y1 := by rw [d1]; exact hx.s38 _ _
  obtain ⟨y2, d2⟩ : ∃ z, z = ik_si y1 38 22 (ik_nw m i) := ⟨_, rfl⟩
  have q2 : eqF x y2 := by rw [d2]; exact q1.s38 _ _
  obtain ⟨y3, d3⟩ : ∃ z, z = ik_si y2 38 13 (m.1 5 i) := ⟨_, rfl⟩
  have q3 : eqF x y3 := by rw [d3]; exact q2.s38 _ _
  obtain ⟨y4, d4⟩ : ∃ z, z = ik_si y3 38 18 (m.1 6 i) := ⟨_, rfl⟩
  have q4 : eqF x y4 := by rw [d4]; exact q3.s38 _ _
  obtain ⟨y5, d5⟩ : ∃ z, z = ik_si y4 38 24 (m.1 7 i) := ⟨_, rfl⟩
  have q5 : eqF x y5 := by rw [d5]; exact q4.s38 _ _
  obtain ⟨y6, d6⟩ : ∃ z, z = ik_si y5 38 25 (m.1 8 i) := ⟨_, rfl⟩
  have q6 : eqF x y6 := by rw [d6]; exact q5.s38 _ _
  obtain ⟨y7, d7⟩ : ∃ z, z = ik_si y6 38 21 (ik_b2 (ik_vb m i)) := ⟨_, rfl⟩
  have q7 : eqF x y7 := by rw [d7]; exact q6.s38 _ _
  obtain ⟨y8, d8⟩ : ∃ z, z = ik_si y7 38 0 (m.1 4 (12 * i) - 97 + 1) := ⟨_, rfl⟩
  have q8 : eqF x y8 := by rw [d8]; exact q7.s38 _ _
  obtain ⟨y9, d9⟩ : ∃ z, z = ik_si y8 38 1 (m.1 10 k) := ⟨_, rfl⟩
  have q9 : eqF x y9 := by rw [d9]; exact q8.s38 _ _
  have t1 := fun Q => w_tell (g := y) (p := 8) (by omega) (a := 105) rfl (nI i) Q
  have t2 := fun Q => w_tell (g := y1) (p := 22) (by omega) (a := 119) rfl (ik_nw m i) Q
  have t3 := fun Q => w_tell (g := y2) (p := 13) (by omega) (a := 110) rfl (m.1 5 i) Q
  have t4 := fun Q => w_tell (g := y3) (p := 18) (by omega) (a := 115) rfl (m.1 6 i) Q
  have t5 := fun Q => w_tell (g := y4) (p := 24) (by omega) (a := 121) rfl (m.1 7 i) Q
  have t6 := fun Q => w_tell (g := y5) (p := 25) (by omega) (a := 122) rfl (m.1 8 i) Q
  have t7 := fun Q => w_tell (g := y6) (p := 21) (by omega) (a := 118) rfl (ik_b2 (ik_vb m i)) Q
  have t8 := fun Q => w_tell (g := y7) (p := 0) (by omega) (a := 97) rfl (m.1 4 (12 * i) - 97 + 1) Q
  have t9 := fun Q => w_tell (g := y8) (p := 1) (by omega) (a := 98) rfl (m.1 10 k) Q
  rw [← d1] at t1
  rw [← d2] at t2
  rw [← d3] at t3
  rw [← d4] at t4
  rw [← d5] at t5
  rw [← d6] at t6
  rw [← d7] at t7
  rw [← d8] at t8
  rw [← d9] at t9
  have r1 := fun Q => w_wide6 (hh y1 q1).2.1 (hh y1 q1).2.2.1 hi Q
  have r2 := fun Q => w_length6 (hh y2 q2).2.2.1 hi Q
  have r3 := fun Q => w_sort6 (hh y3 q3).2.2.1 hi Q
  have r4 := fun Q => w_from6 (hh y4 q4).2.2.1 hi Q
  have r5 := fun Q => w_to6 (hh y5 q5).2.2.1 hi Q
  have r7 := fun Q => w_first6 (hh y7 q7).2.2.1 hi Q
  have r8 := fun Q => w_ink0 (hh y8 q8).2.2.2.1 hk Q
  have vb : (if ¬ ik_b2 (ik_vb m i) = 0 then (1 : Int32) else 0) = ik_b2 (ik_vb m i) := by cases ik_vb m i <;> simp [ik_b2]
  have vb2 : (if (!decide (ik_b2 (ik_vb m i) = 0)) = true then (1 : Int32) else 0) = ik_b2 (ik_vb m i) := by cases ik_vb m i <;> simp [ik_b2]
  unfold fX11_tellFacts
  simp (decide := true) only [wE_lit, wL_lit, wE_loc, wL_loc, wE_add, wE_sub, wE_mul, wE_and, wE_or, wE_xor, wE_shl, wE_shr, wE_ushr, wE_div, wE_rem, wE_neg, wE_i2b, wE_l2i, wL_i2l, wL_add, wL_mul, wE_fld, wL_fld, wE_arr, wL_arr, wC_cmp, wC_cmp0, wC_cmpL, wC_and, wC_or, wC_not, wC_ite, wL_ite, wA_nil, wA_int, wA_long, wE_call, wL_call, wS_skip, wS_seq, wS_set, wS_setL, wS_inc, wS_if, wS_put, wS_putL, wS_putOp, wS_putOpL, wS_ast, wS_astL, wS_aop, wS_aopL, wS_ret, wS_retL, wS_retV, wS_do, wS_pop, wS_dead, wS_sw, wF_body, Nat.reduceAdd, Nat.zero_add, Bool.not_not, true_and, and_true, if_true, if_false, ↓reduceIte, eq_self, Value.int.injEq, Value.long.injEq, exists_eq_left', ik_b1, ik_b0, ik_bz0, ik_bz3, ik_bz3_1, ik_bz3_0, ik_cmp, ik_cmpL, ik_eI, ik_eL, ik_as, ik_i0, ik_i1, decide_eq_true_eq, decide_eq_false_iff_not, decide_true, decide_false, Bool.not_true, Bool.not_false, reduceCtorEq, forall_const, false_implies, true_implies, implies_true, true_and, and_true, and_self, false_and, and_false, Bool.and_true, Bool.true_and, not_true_eq_false, not_false_eq_true, if_true, if_false, ite_true, ite_false, ik_bz3_0, ik_bz3_1, ik_bz0, wE_ite2, t1, r1, t2, r2, t3, r3, t4, r4, t5, r5, t6, vb, vb2, t7, r7, t8, r8, t9]
  refine ⟨q9, fun l hl => ?_⟩
  unfold valM
  simp only [sg_fact, Bool.or_eq_true, beq_iff_eq, or_assoc] at hl
  rcases hl with e | e | e | e | e | e | e | e | e <;> subst e <;> simp (decide := true) only [d9, d8, d7, d6, d5, d4, d3, d2, d1, ik_si_same, ik_si_ne, if_true, if_false]
