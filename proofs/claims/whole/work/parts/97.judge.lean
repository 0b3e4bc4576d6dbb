/-! ties: which names may stand under two bars -/
theorem rN.cn0 {x m : GG} {N i j : Nat} (h : rN x m N) (hi : i < N) (hj : j < N) : ik_cn (m.1 5) (m.1 4) i j = 0 ↔ i = j := by
  constructor
  · intro e
    apply Classical.byContradiction
    intro c
    exact h.2.2.2.2.2.1 i j hi hj c e
  · rintro rfl
    exact ik_cn_self _ _ _
theorem rN.cnN {x m : GG} {N i j : Nat} (h : rN x m N) (hi : i < N) (hj : j < N) (hij : i ≠ j) : ik_cn (m.1 5) (m.1 4) j i < 0 ↔ ¬ ik_cn (m.1 5) (m.1 4) i j < 0 := by
  have e := ik_cn_neg (h.2.2.2.2.1 i hi).1 (h.2.2.2.2.1 j hj).1
  have n0 : (ik_cn (m.1 5) (m.1 4) i j).toInt ≠ 0 := fun q => hij ((h.cn0 hi hj).mp (Int32.toInt_inj.mp (by rw [q]; rfl)))
  rw [Int32.lt_iff_toInt_lt, Int32.lt_iff_toInt_lt, e, show (0 : Int32).toInt = 0 from rfl]
  omega
/-- if name i stands under the first bar of a tie (or under its second one), name j may stand under the other -/
def mtB (m : GG) (sv : Int32) (fst : Bool) (i j : Nat) : Bool := if sv = 0 then decide (i = j) else if sv = 1 then !decide (i = j) else if fst = true then decide (ik_cn (m.1 5) (m.1 4) i j < 0) else decide (ik_cn (m.1 5) (m.1 4) j i < 0)
theorem sort3 {sv : Int32} (hs : 0 ≤ sv ∧ sv ≤ 2) : sv = 0 ∨ sv = 1 ∨ sv = 2 := by
  obtain ⟨k, hk, rfl⟩ := nI_of3 (x := sv) (a := 2) (by omega) hs.1 hs.2
  have q : k = 0 ∨ k = 1 ∨ k = 2 := by omega
  rcases q with rfl | rfl | rfl
  · exact Or.inl rfl
  · exact Or.inr (Or.inl rfl)
  · exact Or.inr (Or.inr rfl)
theorem mtB_1 (m : GG) (fst : Bool) (i j : Nat) : mtB m 1 fst i j = !decide (i = j) := by unfold mtB; rw [if_neg (by decide), if_pos rfl]
theorem mtB_2 (m : GG) (i j : Nat) : mtB m 2 true i j = decide (ik_cn (m.1 5) (m.1 4) i j < 0) := by unfold mtB; rw [if_neg (by decide), if_neg (by decide), if_pos rfl]
theorem mtB_3 (m : GG) (i j : Nat) : mtB m 2 false i j = decide (ik_cn (m.1 5) (m.1 4) j i < 0) := by unfold mtB; rw [if_neg (by decide), if_neg (by decide), if_neg (by decide)]
theorem mtB_0 (m : GG) (fst : Bool) (i j : Nat) : mtB m 0 fst i j = decide (i = j) := by unfold mtB; rw [if_pos rfl]
theorem w_mates {y m : GG} {N i : Nat} {sv : Int32} {fst : Bool} (h : rN y m N) (hi : i < N) (hs : 0 ≤ sv ∧ sv ≤ 2) : wF fX6_mates [.int sv, .int (nI i), .int (ik_b2 fst)] y (fun v g => g = y ∧ ∃ r, v = .int r ∧ ∀ j, j < N → ib r j = mtB m sv fst i j) := by
  have hN := h.1
  have fN : ∀ Q : Value → GG → Prop, wF fX6_has [.int (nI i)] y Q ↔ Q (.int 1) y := fun Q => by rw [w_nameHas h.2.1 hN, if_pos (isI_nI (by omega) hi)]
  have ah := w_ahead6 h hi
  have pw := nI_pow i (by omega)
  have p31 : 2 ^ i < 2 ^ 31 := Nat.pow_lt_pow_right (by decide) (by omega)
  have bs : ∀ j, ib (nI (2 ^ i)) j = decide (i = j) := fun j => by rw [ib_nI p31, Nat.testBit_two_pow]
  obtain ⟨b, b1, b2, b3⟩ := h.2.2.2.2.2.2 i hi
  have b31 : b < 2 ^ 31 := by omega
  unfold fX6_mates
  rcases sort3 hs with rfl | rfl | rfl
  · simp (decide := true) only [wE_lit, wL_lit, wE_loc, wL_loc, wE_add, wE_sub, wE_mul, wE_and, wE_or, wE_xor, wE_shl, wE_shr, wE_ushr, wE_div, wE_rem, wE_neg, wE_i2b, wE_l2i, wL_i2l, wL_add, wL_mul, wE_fld, wL_fld, wE_arr, wL_arr, wC_cmp, wC_cmp0, wC_cmpL, wC_and, wC_or, wC_not, wC_ite, wL_ite, wA_nil, wA_int, wA_long, wE_call, wL_call, wS_skip, wS_seq, wS_set, wS_setL, wS_inc, wS_if, wS_put, wS_putL, wS_putOp, wS_putOpL, wS_ast, wS_astL, wS_aop, wS_aopL, wS_ret, wS_retL, wS_retV, wS_do, wS_pop, wS_dead, wS_sw, wF_body, Nat.reduceAdd, Nat.zero_add, Bool.not_not, true_and, and_true, if_true, if_false, ↓reduceIte, eq_self, Value.int.injEq, Value.long.injEq, exists_eq_left', ik_b1, ik_b0, ik_bz0, ik_bz3, ik_bz3_1, ik_bz3_0, ik_cmp, ik_cmpL, ik_eI, ik_eL, ik_as, ik_i0, ik_i1, decide_eq_true_eq, decide_eq_false_iff_not, decide_true, decide_false, Bool.not_true, Bool.not_false, reduceCtorEq, forall_const, false_implies, true_implies, implies_true, true_and, and_true, and_self, false_and, and_false, Bool.and_true, Bool.true_and, not_true_eq_false, not_false_eq_true, if_true, if_false, ite_true, ite_false, ik_bz3_0, ik_bz3_1, ik_bz0, wE_ite, fN, pw, upd_at, upd_off]
    intro j hj
    rw [bs, mtB_0]
  · simp (decide := true) only [wE_lit, wL_lit, wE_loc, wL_loc, wE_add, wE_sub, wE_mul, wE_and, wE_or, wE_xor, wE_shl, wE_shr, wE_ushr, wE_div, wE_rem, wE_neg, wE_i2b, wE_l2i, wL_i2l, wL_add, wL_mul, wE_fld, wL_fld, wE_arr, wL_arr, wC_cmp, wC_cmp0, wC_cmpL, wC_and, wC_or, wC_not, wC_ite, wL_ite, wA_nil, wA_int, wA_long, wE_call, wL_call, wS_skip, wS_seq, wS_set, wS_setL, wS_inc, wS_if, wS_put, wS_putL, wS_putOp, wS_putOpL, wS_ast, wS_astL, wS_aop, wS_aopL, wS_ret, wS_retL, wS_retV, wS_do, wS_pop, wS_dead, wS_sw, wF_body, Nat.reduceAdd, Nat.zero_add, Bool.not_not, true_and, and_true, if_true, if_false, ↓reduceIte, eq_self, Value.int.injEq, Value.long.injEq, exists_eq_left', ik_b1, ik_b0, ik_bz0, ik_bz3, ik_bz3_1, ik_bz3_0, ik_cmp, ik_cmpL, ik_eI, ik_eL, ik_as, ik_i0, ik_i1, decide_eq_true_eq, decide_eq_false_iff_not, decide_true, decide_false, Bool.not_true, Bool.not_false, reduceCtorEq, forall_const, false_implies, true_implies, implies_true, true_and, and_true, and_self, false_and, and_false, Bool.and_true, Bool.true_and, not_true_eq_false, not_false_eq_true, if_true, if_false, ite_true, ite_false, ik_bz3_0, ik_bz3_1, ik_bz0, wE_ite, fN, pw, upd_at, upd_off]
    intro j hj
    rw [ib_not _ (by omega), bs, mtB_1]
  · cases fst with
    | true =>
      simp (decide := true) only [wE_lit, wL_lit, wE_loc, wL_loc, wE_add, wE_sub, wE_mul, wE_and, wE_or, wE_xor, wE_shl, wE_shr, wE_ushr, wE_div, wE_rem, wE_neg, wE_i2b, wE_l2i, wL_i2l, wL_add, wL_mul, wE_fld, wL_fld, wE_arr, wL_arr, wC_cmp, wC_cmp0, wC_cmpL, wC_and, wC_or, wC_not, wC_ite, wL_ite, wA_nil, wA_int, wA_long, wE_call, wL_call, wS_skip, wS_seq, wS_set, wS_setL, wS_inc, wS_if, wS_put, wS_putL, wS_putOp, wS_putOpL, wS_ast, wS_astL, wS_aop, wS_aopL, wS_ret, wS_retL, wS_retV, wS_do, wS_pop, wS_dead, wS_sw, wF_body, Nat.reduceAdd, Nat.zero_add, Bool.not_not, true_and, and_true, if_true, if_false, ↓reduceIte, eq_self, Value.int.injEq, Value.long.injEq, exists_eq_left', ik_b1, ik_b0, ik_bz0, ik_bz3, ik_bz3_1, ik_bz3_0, ik_cmp, ik_cmpL, ik_eI, ik_eL, ik_as, ik_i0, ik_i1, decide_eq_true_eq, decide_eq_false_iff_not, decide_true, decide_false, Bool.not_true, Bool.not_false, reduceCtorEq, forall_const, false_implies, true_implies, implies_true, true_and, and_true, and_self, false_and, and_false, Bool.and_true, Bool.true_and, not_true_eq_false, not_false_eq_true, if_true, if_false, ite_true, ite_false, ik_bz3_0, ik_bz3_1, ik_bz0, wE_ite, fN, pw, ah, b2, upd_at, upd_off, show ik_b2 true = 1 from rfl]
      intro j hj
      rw [ib_not _ (by omega), ib_or, bs, ib_nI b31, b3, mtB_2]
      by_cases e : i = j
      · subst e
        simp [ik_cn_self]
      · have q := h.cnN hi hj e
        by_cases c : ik_cn (m.1 5) (m.1 4) i j < 0
        · have : ¬ ik_cn (m.1 5) (m.1 4) j i < 0 := fun z => q.mp z c
          simp [e, c, this]
        · have : ik_cn (m.1 5) (m.1 4) j i < 0 := q.mpr c
          simp [c, this, hj]
    | false =>
      simp (decide := true) only [wE_lit, wL_lit, wE_loc, wL_loc, wE_add, wE_sub, wE_mul, wE_and, wE_or, wE_xor, wE_shl, wE_shr, wE_ushr, wE_div, wE_rem, wE_neg, wE_i2b, wE_l2i, wL_i2l, wL_add, wL_mul, wE_fld, wL_fld, wE_arr, wL_arr, wC_cmp, wC_cmp0, wC_cmpL, wC_and, wC_or, wC_not, wC_ite, wL_ite, wA_nil, wA_int, wA_long, wE_call, wL_call, wS_skip, wS_seq, wS_set, wS_setL, wS_inc, wS_if, wS_put, wS_putL, wS_putOp, wS_putOpL, wS_ast, wS_astL, wS_aop, wS_aopL, wS_ret, wS_retL, wS_retV, wS_do, wS_pop, wS_dead, wS_sw, wF_body, Nat.reduceAdd, Nat.zero_add, Bool.not_not, true_and, and_true, if_true, if_false, ↓reduceIte, eq_self, Value.int.injEq, Value.long.injEq, exists_eq_left', ik_b1, ik_b0, ik_bz0, ik_bz3, ik_bz3_1, ik_bz3_0, ik_cmp, ik_cmpL, ik_eI, ik_eL, ik_as, ik_i0, ik_i1, decide_eq_true_eq, decide_eq_false_iff_not, decide_true, decide_false, Bool.not_true, Bool.not_false, reduceCtorEq, forall_const, false_implies, true_implies, implies_true, true_and, and_true, and_self, false_and, and_false, Bool.and_true, Bool.true_and, not_true_eq_false, not_false_eq_true, if_true, if_false, ite_true, ite_false, ik_bz3_0, ik_bz3_1, ik_bz0, wE_ite, fN, pw, ah, b2, upd_at, upd_off, show ik_b2 false = 0 from rfl]
      intro j hj
      rw [ib_nI b31, b3, mtB_3]
      simp [hj]
def tieB (m : GG) (u : Nat → Nat) (t : Nat) : Bool := mtB m (m.1 35 t) true (u (m.1 36 t).toInt.toNat) (u (m.1 37 t).toInt.toNat)
def tiA (m : GG) (u : Nat → Nat) (n : Nat) : Bool := ik_any (fun t => !tieB m u t) n
def otS (m : GG) (u : Nat → Nat) (s : Nat) : Bool := ik_any (otB m u s) (m.1 14 s).toInt.toNat
def otA (m : GG) (u : Nat → Nat) (S : Nat) : Bool := ik_any (otS m u) S
theorem w_tied {y : GG} {n : Nat} (hy : y.1 15 10 = nI n) (hn : n ≤ 20) (i : Int32) (Q : Value → GG → Prop) : wF fX0_tied [.int i] y Q ↔ Q (.int (if isI i n then 1 else 0)) y := x_has_of (M := 20) rfl (by omega) hy hn i Q
theorem w_tieFirst {y : GG} {n t : Nat} (hy : y.1 15 10 = nI n) (hn : n ≤ 20) (ht : t < n) (Q : Value → GG → Prop) : wF fX0_tieFirst [.int (nI t)] y Q ↔ Q (.int (y.1 20 t)) y := x_get1 (n := 20) rfl ht hn (by omega) (fun Q => w_tied hy hn _ Q) Q
theorem w_tieSecond {y : GG} {n t : Nat} (hy : y.1 15 10 = nI n) (hn : n ≤ 20) (ht : t < n) (Q : Value → GG → Prop) : wF fX0_tieSecond [.int (nI t)] y Q ↔ Q (.int (y.1 21 t)) y := x_get1 (n := 20) rfl ht hn (by omega) (fun Q => w_tied hy hn _ Q) Q
theorem w_tieSort {y : GG} {n t : Nat} (hy : y.1 15 10 = nI n) (hn : n ≤ 20) (ht : t < n) (Q : Value → GG → Prop) : wF fX0_tieSort [.int (nI t)] y Q ↔ Q (.int (y.1 19 t)) y := x_get1 (n := 20) rfl ht hn (by omega) (fun Q => w_tied hy hn _ Q) Q
theorem w_barHas1 {y m : GG} {B k : Nat} (h : rB y m B) (hk : k < B) (Q : Value → GG → Prop) : wF fX0_has [.int (nI k)] y Q ↔ Q (.int 1) y := by
  have := h.1
  rw [w_barHas h.2.1 h.1, if_pos (isI_nI (by omega) hk)]
theorem ik_any_s {p : Nat → Bool} {t : Nat} {b : Bool} (h : ik_any p t = false) (e : p t = b) : ik_any p (t + 1) = b := by
  show (ik_any p t || p t) = b
  rw [h, e]
  rfl
theorem w_tiesX {y m : GG} {N B n : Nat} {u : Nat → Nat} (hN : rN y m N) (hB : rB y m B) (hT : rTi y m B) (hmn : m.1 0 6 = nI n) (hn : n ≤ 20) (hu : ∀ k, k < B → u k < N ∧ y.1 64 k = nI (u k)) (Q : Value → GG → Prop) : wF fX11_tiesReason [] y Q ↔ Q (.int (if tiA m u n = true then 16 else 0)) y := by
  refine wF_eq (eq_of_wF ?_) Q
  obtain ⟨n', n1, n2, n3, n4⟩ := hT
  have en : n' = n := (nI_eq (by omega) (by omega)).mp (n3.symm.trans hmn)
  subst en
  have hN24 := hN.1
  have hB4 := hB.1
  unfold fX11_tiesReason
  simp (decide := true) only [wE_lit, wL_lit, wE_loc, wL_loc, wE_add, wE_sub, wE_mul, wE_and, wE_or, wE_xor, wE_shl, wE_shr, wE_ushr, wE_div, wE_rem, wE_neg, wE_i2b, wE_l2i, wL_i2l, wL_add, wL_mul, wE_fld, wL_fld, wE_arr, wL_arr, wC_cmp, wC_cmp0, wC_cmpL, wC_and, wC_or, wC_not, wC_ite, wL_ite, wA_nil, wA_int, wA_long, wE_call, wL_call, wS_skip, wS_seq, wS_set, wS_setL, wS_inc, wS_if, wS_put, wS_putL, wS_putOp, wS_putOpL, wS_ast, wS_astL, wS_aop, wS_aopL, wS_ret, wS_retL, wS_retV, wS_do, wS_pop, wS_dead, wS_sw, wF_body, Nat.reduceAdd, Nat.zero_add, Bool.not_not, true_and, and_true, if_true, if_false, ↓reduceIte, eq_self, Value.int.injEq, Value.long.injEq, exists_eq_left', ik_b1, ik_b0, ik_bz0, ik_bz3, ik_bz3_1, ik_bz3_0, ik_cmp, ik_cmpL, ik_eI, ik_eL, ik_as, ik_i0, ik_i1, decide_eq_true_eq, decide_eq_false_iff_not, decide_true, decide_false, Bool.not_true, Bool.not_false, reduceCtorEq, forall_const, false_implies, true_implies, implies_true, true_and, and_true, and_self, false_and, and_false, Bool.and_true, Bool.true_and, not_true_eq_false, not_false_eq_true, if_true, if_false, ite_true, ite_false, ik_bz3_0, ik_bz3_1, ik_bz0]
  refine wS_for _ _ (fun t σ => σ.1 1 = nI t ∧ ik_any (fun t => !tieB m u t) t = false ∧ σ.2.2 = y) 0 n' _ ⟨by simp [upd, nI_0], rfl, rfl⟩ (by omega) (by omega) ?_ ?_ ?_
  · rintro t ⟨s1, s2, s3⟩ h1 ⟨h2, h3, h4⟩
    simp only at h2 h4
    subst h4
    simp (decide := true) only [wE_lit, wL_lit, wE_loc, wL_loc, wE_add, wE_sub, wE_mul, wE_and, wE_or, wE_xor, wE_shl, wE_shr, wE_ushr, wE_div, wE_rem, wE_neg, wE_i2b, wE_l2i, wL_i2l, wL_add, wL_mul, wE_fld, wL_fld, wE_arr, wL_arr, wC_cmp, wC_cmp0, wC_cmpL, wC_and, wC_or, wC_not, wC_ite, wL_ite, wA_nil, wA_int, wA_long, wE_call, wL_call, wS_skip, wS_seq, wS_set, wS_setL, wS_inc, wS_if, wS_put, wS_putL, wS_putOp, wS_putOpL, wS_ast, wS_astL, wS_aop, wS_aopL, wS_ret, wS_retL, wS_retV, wS_do, wS_pop, wS_dead, wS_sw, wF_body, Nat.reduceAdd, Nat.zero_add, Bool.not_not, true_and, and_true, if_true, if_false, ↓reduceIte, eq_self, Value.int.injEq, Value.long.injEq, exists_eq_left', ik_b1, ik_b0, ik_bz0, ik_bz3, ik_bz3_1, ik_bz3_0, ik_cmp, ik_cmpL, ik_eI, ik_eL, ik_as, ik_i0, ik_i1, decide_eq_true_eq, decide_eq_false_iff_not, decide_true, decide_false, Bool.not_true, Bool.not_false, reduceCtorEq, forall_const, false_implies, true_implies, implies_true, true_and, and_true, and_self, false_and, and_false, Bool.and_true, Bool.true_and, not_true_eq_false, not_false_eq_true, if_true, if_false, ite_true, ite_false, ik_bz3_0, ik_bz3_1, ik_bz0, fX0_ties, h2, n2, nI_ltI (show t < 2 ^ 31 by omega) (show n' < 2 ^ 31 by omega)]
  · rintro t ⟨s1, s2, s3⟩ h1 ⟨h2, h3, h4⟩
    simp only at h2 h3 h4
    subst h4
    obtain ⟨e1, e2, e3, k1, ⟨a, ha, ea⟩, ⟨b, hb, eb⟩, -⟩ := n4 t h1
    have f1 := w_tieFirst n2 n1 h1
    have f2 := w_tieSecond n2 n1 h1
    have f3 := w_tieSort n2 n1 h1
    rw [e2, ea] at f1
    rw [e3, eb] at f2
    rw [e1] at f3
    obtain ⟨ua, ua2⟩ := hu a ha
    obtain ⟨ub, ub2⟩ := hu b hb
    obtain ⟨v0, g0, em, hg0, r, hv0, hr⟩ := w_mates (fst := true) hN ua k1
    rw [hg0, hv0] at em
    have em' : fX6_mates [.int (m.1 35 t), .int (nI (u a)), .int 1] s3 = some (.int r, s3) := em
    have tb : ib r (u b) = tieB m u t := by
      rw [hr (u b) ub]
      unfold tieB
      rw [ea, eb, nI_nat (by omega), nI_nat (by omega)]
    have hasA := w_barHas1 hB ha
    have hasB := w_barHas1 hB hb
    have bt := w_bitb r (show u b < 32 by omega) s3
    rw [tb] at bt
    cases tc : tieB m u t with
    | true =>
      rw [tc] at bt
      simp (decide := true) only [wE_lit, wL_lit, wE_loc, wL_loc, wE_add, wE_sub, wE_mul, wE_and, wE_or, wE_xor, wE_shl, wE_shr, wE_ushr, wE_div, wE_rem, wE_neg, wE_i2b, wE_l2i, wL_i2l, wL_add, wL_mul, wE_fld, wL_fld, wE_arr, wL_arr, wC_cmp, wC_cmp0, wC_cmpL, wC_and, wC_or, wC_not, wC_ite, wL_ite, wA_nil, wA_int, wA_long, wE_call, wL_call, wS_skip, wS_seq, wS_set, wS_setL, wS_inc, wS_if, wS_put, wS_putL, wS_putOp, wS_putOpL, wS_ast, wS_astL, wS_aop, wS_aopL, wS_ret, wS_retL, wS_retV, wS_do, wS_pop, wS_dead, wS_sw, wF_body, Nat.reduceAdd, Nat.zero_add, Bool.not_not, true_and, and_true, if_true, if_false, ↓reduceIte, eq_self, Value.int.injEq, Value.long.injEq, exists_eq_left', ik_b1, ik_b0, ik_bz0, ik_bz3, ik_bz3_1, ik_bz3_0, ik_cmp, ik_cmpL, ik_eI, ik_eL, ik_as, ik_i0, ik_i1, decide_eq_true_eq, decide_eq_false_iff_not, decide_true, decide_false, Bool.not_true, Bool.not_false, reduceCtorEq, forall_const, false_implies, true_implies, implies_true, true_and, and_true, and_self, false_and, and_false, Bool.and_true, Bool.true_and, not_true_eq_false, not_false_eq_true, if_true, if_false, ite_true, ite_false, ik_bz3_0, ik_bz3_1, ik_bz0, h2, f1, f2, f3, hasA, hasB, ik_ix_nI (show a < 4 by omega) (by omega), ik_ix_nI (show b < 4 by omega) (by omega), Option.some.injEq, ua2, ub2, wF_eq em', bt, show ik_b2 true = 1 from rfl, upd_at, upd_off, nI_1, nI_add]
      exact ik_any_s h3 (by rw [tc]; rfl)
    | false =>
      rw [tc] at bt
      have an : tiA m u n' = true := ik_any_ex.mpr ⟨t, h1, by rw [tc]; rfl⟩
      simp (decide := true) only [wE_lit, wL_lit, wE_loc, wL_loc, wE_add, wE_sub, wE_mul, wE_and, wE_or, wE_xor, wE_shl, wE_shr, wE_ushr, wE_div, wE_rem, wE_neg, wE_i2b, wE_l2i, wL_i2l, wL_add, wL_mul, wE_fld, wL_fld, wE_arr, wL_arr, wC_cmp, wC_cmp0, wC_cmpL, wC_and, wC_or, wC_not, wC_ite, wL_ite, wA_nil, wA_int, wA_long, wE_call, wL_call, wS_skip, wS_seq, wS_set, wS_setL, wS_inc, wS_if, wS_put, wS_putL, wS_putOp, wS_putOpL, wS_ast, wS_astL, wS_aop, wS_aopL, wS_ret, wS_retL, wS_retV, wS_do, wS_pop, wS_dead, wS_sw, wF_body, Nat.reduceAdd, Nat.zero_add, Bool.not_not, true_and, and_true, if_true, if_false, ↓reduceIte, eq_self, Value.int.injEq, Value.long.injEq, exists_eq_left', ik_b1, ik_b0, ik_bz0, ik_bz3, ik_bz3_1, ik_bz3_0, ik_cmp, ik_cmpL, ik_eI, ik_eL, ik_as, ik_i0, ik_i1, decide_eq_true_eq, decide_eq_false_iff_not, decide_true, decide_false, Bool.not_true, Bool.not_false, reduceCtorEq, forall_const, false_implies, true_implies, implies_true, true_and, and_true, and_self, false_and, and_false, Bool.and_true, Bool.true_and, not_true_eq_false, not_false_eq_true, if_true, if_false, ite_true, ite_false, ik_bz3_0, ik_bz3_1, ik_bz0, h2, f1, f2, f3, hasA, hasB, ik_ix_nI (show a < 4 by omega) (by omega), ik_ix_nI (show b < 4 by omega) (by omega), Option.some.injEq, ua2, ub2, wF_eq em', bt, show ik_b2 false = 0 from rfl, upd_at, upd_off, an]
      exact ⟨_, rfl⟩
  · rintro ⟨s1, s2, s3⟩ ⟨h2, h3, h4⟩
    simp only at h3 h4
    subst h4
    have an : tiA m u n' = false := h3
    simp (decide := true) only [wE_lit, wL_lit, wE_loc, wL_loc, wE_add, wE_sub, wE_mul, wE_and, wE_or, wE_xor, wE_shl, wE_shr, wE_ushr, wE_div, wE_rem, wE_neg, wE_i2b, wE_l2i, wL_i2l, wL_add, wL_mul, wE_fld, wL_fld, wE_arr, wL_arr, wC_cmp, wC_cmp0, wC_cmpL, wC_and, wC_or, wC_not, wC_ite, wL_ite, wA_nil, wA_int, wA_long, wE_call, wL_call, wS_skip, wS_seq, wS_set, wS_setL, wS_inc, wS_if, wS_put, wS_putL, wS_putOp, wS_putOpL, wS_ast, wS_astL, wS_aop, wS_aopL, wS_ret, wS_retL, wS_retV, wS_do, wS_pop, wS_dead, wS_sw, wF_body, Nat.reduceAdd, Nat.zero_add, Bool.not_not, true_and, and_true, if_true, if_false, ↓reduceIte, eq_self, Value.int.injEq, Value.long.injEq, exists_eq_left', ik_b1, ik_b0, ik_bz0, ik_bz3, ik_bz3_1, ik_bz3_0, ik_cmp, ik_cmpL, ik_eI, ik_eL, ik_as, ik_i0, ik_i1, decide_eq_true_eq, decide_eq_false_iff_not, decide_true, decide_false, Bool.not_true, Bool.not_false, reduceCtorEq, forall_const, false_implies, true_implies, implies_true, true_and, and_true, and_self, false_and, and_false, Bool.and_true, Bool.true_and, not_true_eq_false, not_false_eq_true, if_true, if_false, ite_true, ite_false, ik_bz3_0, ik_bz3_1, ik_bz0, an]
theorem w_linesX {x m y : GG} {N B S : Nat} {u : Nat → Nat} (h : rE x m N B S) (hx : eqX x y) (hu : ∀ k, k < B → u k < N ∧ y.1 65 k = ik_nw m (u k)) : wF fX11_linesReason [] y (fun v g => v = .int (if otA m u S = true then 2 else 0) ∧ eqX x g ∧ g.1 64 = y.1 64 ∧ g.1 65 = y.1 65) := by
  have hS := h.2.2.2.2.2.2.2.2.2.1
  have hS6 := hS.1
  unfold fX11_linesReason
  simp (decide := true) only [wE_lit, wL_lit, wE_loc, wL_loc, wE_add, wE_sub, wE_mul, wE_and, wE_or, wE_xor, wE_shl, wE_shr, wE_ushr, wE_div, wE_rem, wE_neg, wE_i2b, wE_l2i, wL_i2l, wL_add, wL_mul, wE_fld, wL_fld, wE_arr, wL_arr, wC_cmp, wC_cmp0, wC_cmpL, wC_and, wC_or, wC_not, wC_ite, wL_ite, wA_nil, wA_int, wA_long, wE_call, wL_call, wS_skip, wS_seq, wS_set, wS_setL, wS_inc, wS_if, wS_put, wS_putL, wS_putOp, wS_putOpL, wS_ast, wS_astL, wS_aop, wS_aopL, wS_ret, wS_retL, wS_retV, wS_do, wS_pop, wS_dead, wS_sw, wF_body, Nat.reduceAdd, Nat.zero_add, Bool.not_not, true_and, and_true, if_true, if_false, ↓reduceIte, eq_self, Value.int.injEq, Value.long.injEq, exists_eq_left', ik_b1, ik_b0, ik_bz0, ik_bz3, ik_bz3_1, ik_bz3_0, ik_cmp, ik_cmpL, ik_eI, ik_eL, ik_as, ik_i0, ik_i1, decide_eq_true_eq, decide_eq_false_iff_not, decide_true, decide_false, Bool.not_true, Bool.not_false, reduceCtorEq, forall_const, false_implies, true_implies, implies_true, true_and, and_true, and_self, false_and, and_false, Bool.and_true, Bool.true_and, not_true_eq_false, not_false_eq_true, if_true, if_false, ite_true, ite_false, ik_bz3_0, ik_bz3_1, ik_bz0]
  refine wS_for _ _ (fun s σ => σ.1 1 = nI s ∧ ik_any (otS m u) s = false ∧ eqX x σ.2.2 ∧ σ.2.2.1 64 = y.1 64 ∧ σ.2.2.1 65 = y.1 65) 0 S _ ⟨by simp [upd, nI_0], rfl, hx, rfl, rfl⟩ (by omega) (by omega) ?_ ?_ ?_
  · rintro s ⟨s1, s2, s3⟩ h1 ⟨h2, h3, h4, h5, h6⟩
    simp only at h2 h4
    have e7 := (h.eq h4 (eqM.rfl' m)).2.2.2.2.2.2.2.2.2.1.2.1
    simp (decide := true) only [wE_lit, wL_lit, wE_loc, wL_loc, wE_add, wE_sub, wE_mul, wE_and, wE_or, wE_xor, wE_shl, wE_shr, wE_ushr, wE_div, wE_rem, wE_neg, wE_i2b, wE_l2i, wL_i2l, wL_add, wL_mul, wE_fld, wL_fld, wE_arr, wL_arr, wC_cmp, wC_cmp0, wC_cmpL, wC_and, wC_or, wC_not, wC_ite, wL_ite, wA_nil, wA_int, wA_long, wE_call, wL_call, wS_skip, wS_seq, wS_set, wS_setL, wS_inc, wS_if, wS_put, wS_putL, wS_putOp, wS_putOpL, wS_ast, wS_astL, wS_aop, wS_aopL, wS_ret, wS_retL, wS_retV, wS_do, wS_pop, wS_dead, wS_sw, wF_body, Nat.reduceAdd, Nat.zero_add, Bool.not_not, true_and, and_true, if_true, if_false, ↓reduceIte, eq_self, Value.int.injEq, Value.long.injEq, exists_eq_left', ik_b1, ik_b0, ik_bz0, ik_bz3, ik_bz3_1, ik_bz3_0, ik_cmp, ik_cmpL, ik_eI, ik_eL, ik_as, ik_i0, ik_i1, decide_eq_true_eq, decide_eq_false_iff_not, decide_true, decide_false, Bool.not_true, Bool.not_false, reduceCtorEq, forall_const, false_implies, true_implies, implies_true, true_and, and_true, and_self, false_and, and_false, Bool.and_true, Bool.true_and, not_true_eq_false, not_false_eq_true, if_true, if_false, ite_true, ite_false, ik_bz3_0, ik_bz3_1, ik_bz0, fX8_count, h2, e7, nI_ltI (show s < 2 ^ 31 by omega) (show S < 2 ^ 31 by omega)]
  · rintro s ⟨s1, s2, s3⟩ h1 ⟨h2, h3, h4, h5, h6⟩
    simp only at h2 h3 h4 h5 h6
    obtain ⟨n, n1, n2, n3, n4, n5⟩ := hS.tok h1
    have oe : otS m u s = ik_any (otB m u s) n := by unfold otS; rw [n4, nI_nat (by omega)]
    simp (decide := true) only [wE_lit, wL_lit, wE_loc, wL_loc, wE_add, wE_sub, wE_mul, wE_and, wE_or, wE_xor, wE_shl, wE_shr, wE_ushr, wE_div, wE_rem, wE_neg, wE_i2b, wE_l2i, wL_i2l, wL_add, wL_mul, wE_fld, wL_fld, wE_arr, wL_arr, wC_cmp, wC_cmp0, wC_cmpL, wC_and, wC_or, wC_not, wC_ite, wL_ite, wA_nil, wA_int, wA_long, wE_call, wL_call, wS_skip, wS_seq, wS_set, wS_setL, wS_inc, wS_if, wS_put, wS_putL, wS_putOp, wS_putOpL, wS_ast, wS_astL, wS_aop, wS_aopL, wS_ret, wS_retL, wS_retV, wS_do, wS_pop, wS_dead, wS_sw, wF_body, Nat.reduceAdd, Nat.zero_add, Bool.not_not, true_and, and_true, if_true, if_false, ↓reduceIte, eq_self, Value.int.injEq, Value.long.injEq, exists_eq_left', ik_b1, ik_b0, ik_bz0, ik_bz3, ik_bz3_1, ik_bz3_0, ik_cmp, ik_cmpL, ik_eI, ik_eL, ik_as, ik_i0, ik_i1, decide_eq_true_eq, decide_eq_false_iff_not, decide_true, decide_false, Bool.not_true, Bool.not_false, reduceCtorEq, forall_const, false_implies, true_implies, implies_true, true_and, and_true, and_self, false_and, and_false, Bool.and_true, Bool.true_and, not_true_eq_false, not_false_eq_true, if_true, if_false, ite_true, ite_false, ik_bz3_0, ik_bz3_1, ik_bz0, h2]
    refine wF_mono (w_setX h h4 (fun k hk => by rw [h6]; exact hu k hk) h1 n4 n2) ?_
    rintro _ g1 ⟨rfl, k1, ⟨k2, k3⟩, k4⟩
    refine ⟨rfl, ?_⟩
    have ot := w_otherX h k1 h1 n4 n2 k4
    rw [← oe] at ot
    cases oc : otS m u s with
    | true =>
      rw [oc] at ot
      have an : otA m u S = true := ik_any_ex.mpr ⟨s, h1, oc⟩
      simp (decide := true) only [wE_lit, wL_lit, wE_loc, wL_loc, wE_add, wE_sub, wE_mul, wE_and, wE_or, wE_xor, wE_shl, wE_shr, wE_ushr, wE_div, wE_rem, wE_neg, wE_i2b, wE_l2i, wL_i2l, wL_add, wL_mul, wE_fld, wL_fld, wE_arr, wL_arr, wC_cmp, wC_cmp0, wC_cmpL, wC_and, wC_or, wC_not, wC_ite, wL_ite, wA_nil, wA_int, wA_long, wE_call, wL_call, wS_skip, wS_seq, wS_set, wS_setL, wS_inc, wS_if, wS_put, wS_putL, wS_putOp, wS_putOpL, wS_ast, wS_astL, wS_aop, wS_aopL, wS_ret, wS_retL, wS_retV, wS_do, wS_pop, wS_dead, wS_sw, wF_body, Nat.reduceAdd, Nat.zero_add, Bool.not_not, true_and, and_true, if_true, if_false, ↓reduceIte, eq_self, Value.int.injEq, Value.long.injEq, exists_eq_left', ik_b1, ik_b0, ik_bz0, ik_bz3, ik_bz3_1, ik_bz3_0, ik_cmp, ik_cmpL, ik_eI, ik_eL, ik_as, ik_i0, ik_i1, decide_eq_true_eq, decide_eq_false_iff_not, decide_true, decide_false, Bool.not_true, Bool.not_false, reduceCtorEq, forall_const, false_implies, true_implies, implies_true, true_and, and_true, and_self, false_and, and_false, Bool.and_true, Bool.true_and, not_true_eq_false, not_false_eq_true, if_true, if_false, ite_true, ite_false, ik_bz3_0, ik_bz3_1, ik_bz0, h2, ot, show ik_b2 true = 1 from rfl, an]
      exact ⟨k1, k2.trans h5, k3.trans h6⟩
    | false =>
      rw [oc] at ot
      simp (decide := true) only [wE_lit, wL_lit, wE_loc, wL_loc, wE_add, wE_sub, wE_mul, wE_and, wE_or, wE_xor, wE_shl, wE_shr, wE_ushr, wE_div, wE_rem, wE_neg, wE_i2b, wE_l2i, wL_i2l, wL_add, wL_mul, wE_fld, wL_fld, wE_arr, wL_arr, wC_cmp, wC_cmp0, wC_cmpL, wC_and, wC_or, wC_not, wC_ite, wL_ite, wA_nil, wA_int, wA_long, wE_call, wL_call, wS_skip, wS_seq, wS_set, wS_setL, wS_inc, wS_if, wS_put, wS_putL, wS_putOp, wS_putOpL, wS_ast, wS_astL, wS_aop, wS_aopL, wS_ret, wS_retL, wS_retV, wS_do, wS_pop, wS_dead, wS_sw, wF_body, Nat.reduceAdd, Nat.zero_add, Bool.not_not, true_and, and_true, if_true, if_false, ↓reduceIte, eq_self, Value.int.injEq, Value.long.injEq, exists_eq_left', ik_b1, ik_b0, ik_bz0, ik_bz3, ik_bz3_1, ik_bz3_0, ik_cmp, ik_cmpL, ik_eI, ik_eL, ik_as, ik_i0, ik_i1, decide_eq_true_eq, decide_eq_false_iff_not, decide_true, decide_false, Bool.not_true, Bool.not_false, reduceCtorEq, forall_const, false_implies, true_implies, implies_true, true_and, and_true, and_self, false_and, and_false, Bool.and_true, Bool.true_and, not_true_eq_false, not_false_eq_true, if_true, if_false, ite_true, ite_false, ik_bz3_0, ik_bz3_1, ik_bz0, h2, ot, show ik_b2 false = 0 from rfl, upd_at, nI_1, nI_add]
      exact ⟨ik_any_s h3 oc, k1, k2.trans h5, k3.trans h6⟩
  · rintro ⟨s1, s2, s3⟩ ⟨h2, h3, h4, h5, h6⟩
    simp only at h3 h4 h5 h6
    have an : otA m u S = false := h3
    simp (decide := true) only [wE_lit, wL_lit, wE_loc, wL_loc, wE_add, wE_sub, wE_mul, wE_and, wE_or, wE_xor, wE_shl, wE_shr, wE_ushr, wE_div, wE_rem, wE_neg, wE_i2b, wE_l2i, wL_i2l, wL_add, wL_mul, wE_fld, wL_fld, wE_arr, wL_arr, wC_cmp, wC_cmp0, wC_cmpL, wC_and, wC_or, wC_not, wC_ite, wL_ite, wA_nil, wA_int, wA_long, wE_call, wL_call, wS_skip, wS_seq, wS_set, wS_setL, wS_inc, wS_if, wS_put, wS_putL, wS_putOp, wS_putOpL, wS_ast, wS_astL, wS_aop, wS_aopL, wS_ret, wS_retL, wS_retV, wS_do, wS_pop, wS_dead, wS_sw, wF_body, Nat.reduceAdd, Nat.zero_add, Bool.not_not, true_and, and_true, if_true, if_false, ↓reduceIte, eq_self, Value.int.injEq, Value.long.injEq, exists_eq_left', ik_b1, ik_b0, ik_bz0, ik_bz3, ik_bz3_1, ik_bz3_0, ik_cmp, ik_cmpL, ik_eI, ik_eL, ik_as, ik_i0, ik_i1, decide_eq_true_eq, decide_eq_false_iff_not, decide_true, decide_false, Bool.not_true, Bool.not_false, reduceCtorEq, forall_const, false_implies, true_implies, implies_true, true_and, and_true, and_self, false_and, and_false, Bool.and_true, Bool.true_and, not_true_eq_false, not_false_eq_true, if_true, if_false, ite_true, ite_false, ik_bz3_0, ik_bz3_1, ik_bz0, an]
    exact ⟨h4, h5, h6⟩
/-! the reference: what speaks against a row of names -/
def spk (wo st : Int32) (t o : Bool) : Int32 := if (st ||| (if t = true then 16 else 0)) &&& (wo ^^^ -1) = 0 then (st ||| (if t = true then 16 else 0)) ||| (if o = true then 2 else 0) else st ||| (if t = true then 16 else 0)
theorem or_if (st v : Int32) (a b : Bool) : (st ||| (if a = true then v else 0)) ||| (if b = true then 0 else v) = st ||| (if (a || !b) = true then v else 0) := by
  refine ib_ext (fun j _ => ?_)
  cases a <;> cases b <;> simp [ib_or, ib_0]
theorem w_speaks {x m g : GG} {N B S n : Nat} {u : Nat → Nat} (h : rE x m N B S) (hm : eqM m g) (hu : ∀ k, k < B → u k < N ∧ g.1 20 k = nI (u k)) (hn : n ≤ 20) (hmn : m.1 0 6 = nI n) (wo st : Int32) (hst : ib st 1 = false) :
    wF fX12_speaks [.int wo, .int st] g (fun v g' => v = .int (spk wo st (tiA m u n) (otA m u S)) ∧ eqN m g g') := by
  have hS := h.2.2.2.2.2.2.2.2.2.1
  have hS6 := hS.1
  have hN := h.2.2.1
  have hB4 := h.2.2.2.1.1
  have hNg := hN.eqM hm
  obtain ⟨n', n1, n2, n3, n4⟩ := h.2.2.2.2.1
  have en : n' = n := (nI_eq (by omega) (by omega)).mp (n3.symm.trans hmn)
  subst en
  have hN24 := hN.1
  have r5 : g.1 5 = m.1 5 := hm.1 5 (by omega)
  have r4 : g.1 4 = m.1 4 := hm.1 4 (by omega)
  have r35 : g.1 35 = m.1 35 := hm.1 35 (by omega)
  have r36 : g.1 36 = m.1 36 := hm.1 36 (by omega)
  have r37 : g.1 37 = m.1 37 := hm.1 37 (by omega)
  have g06 : g.1 0 6 = nI n' := by rw [hm.2 6 (by decide)]; exact hmn
  unfold fX12_speaks
  simp (decide := true) only [wE_lit, wL_lit, wE_loc, wL_loc, wE_add, wE_sub, wE_mul, wE_and, wE_or, wE_xor, wE_shl, wE_shr, wE_ushr, wE_div, wE_rem, wE_neg, wE_i2b, wE_l2i, wL_i2l, wL_add, wL_mul, wE_fld, wL_fld, wE_arr, wL_arr, wC_cmp, wC_cmp0, wC_cmpL, wC_and, wC_or, wC_not, wC_ite, wL_ite, wA_nil, wA_int, wA_long, wE_call, wL_call, wS_skip, wS_seq, wS_set, wS_setL, wS_inc, wS_if, wS_put, wS_putL, wS_putOp, wS_putOpL, wS_ast, wS_astL, wS_aop, wS_aopL, wS_ret, wS_retL, wS_retV, wS_do, wS_pop, wS_dead, wS_sw, wF_body, Nat.reduceAdd, Nat.zero_add, Bool.not_not, true_and, and_true, if_true, if_false, ↓reduceIte, eq_self, Value.int.injEq, Value.long.injEq, exists_eq_left', ik_b1, ik_b0, ik_bz0, ik_bz3, ik_bz3_1, ik_bz3_0, ik_cmp, ik_cmpL, ik_eI, ik_eL, ik_as, ik_i0, ik_i1, decide_eq_true_eq, decide_eq_false_iff_not, decide_true, decide_false, Bool.not_true, Bool.not_false, reduceCtorEq, forall_const, false_implies, true_implies, implies_true, true_and, and_true, and_self, false_and, and_false, Bool.and_true, Bool.true_and, not_true_eq_false, not_false_eq_true, if_true, if_false, ite_true, ite_false, ik_bz3_0, ik_bz3_1, ik_bz0]
  refine wS_for _ _ (fun t σ => σ.1 4 = nI t ∧ σ.1 1 = wo ∧ σ.1 3 = st ||| (if ik_any (fun t => !tieB m u t) t = true then 16 else 0) ∧ σ.2.2 = g) 0 n' _ ⟨by simp [upd, nI_0], by simp [upd, ik_eI], by simp [upd, ik_eI, ik_any], rfl⟩ (by omega) (by omega) ?_ ?_ ?_
  · rintro t ⟨s1, s2, s3⟩ h1 ⟨h2, h3, h4, h5⟩
    simp only at h2 h5
    subst h5
    exact wc_1 g06 (by omega) h1 h2
  · rintro t ⟨s1, s2, s3⟩ h1 ⟨h2, h3, h4, h5⟩
    simp only at h2 h3 h4 h5
    subst h5
    obtain ⟨e1, e2, e3, k1, ⟨a, ha, ea⟩, ⟨b, hb, eb⟩, -⟩ := n4 t h1
    obtain ⟨ua, ua2⟩ := hu a ha
    obtain ⟨ub, ub2⟩ := hu b hb
    have ixt := ik_ix_nI (show t < 20 by omega) (by omega)
    have ixa := ik_ix_nI (show a < 4 by omega) (by omega)
    have ixb := ik_ix_nI (show b < 4 by omega) (by omega)
    have cm := hNg.cmp ua ub
    rw [r5, r4] at cm
    have c0 := hN.cn0 ua ub
    have cN : ¬ ik_cn (m.1 5) (m.1 4) (u a) (u b) = 0 → ¬ u a = u b := fun q z => q (c0.mpr z)
    have tb : tieB m u t = mtB m (m.1 35 t) true (u a) (u b) := by
      unfold tieB
      rw [ea, eb, nI_nat (by omega), nI_nat (by omega)]
    have st' : ∀ is : Bool, tieB m u t = is → (st ||| (if ik_any (fun t => !tieB m u t) t = true then 16 else 0)) ||| (if is = true then 0 else 16) = st ||| (if ik_any (fun t => !tieB m u t) (t + 1) = true then 16 else 0) := by
      intro is e
      rw [or_if]
      show _ = st ||| (if (ik_any (fun t => !tieB m u t) t || !tieB m u t) = true then 16 else 0)
      rw [e]
    have stT : tieB m u t = true → (st ||| (if ik_any (fun t => !tieB m u t) t = true then 16 else 0)) ||| 0 = st ||| (if ik_any (fun t => !tieB m u t) (t + 1) = true then 16 else 0) := fun e => st' true e
    have stF : tieB m u t = false → (st ||| (if ik_any (fun t => !tieB m u t) t = true then 16 else 0)) ||| 16 = st ||| (if ik_any (fun t => !tieB m u t) (t + 1) = true then 16 else 0) := fun e => st' false e
    rcases sort3 k1 with e35 | e35 | e35
    · by_cases z : ik_cn (m.1 5) (m.1 4) (u a) (u b) = 0
      · have := stT (by rw [tb, e35]; simp [mtB, c0.mp z])
        simp (decide := true) only [wE_lit, wL_lit, wE_loc, wL_loc, wE_add, wE_sub, wE_mul, wE_and, wE_or, wE_xor, wE_shl, wE_shr, wE_ushr, wE_div, wE_rem, wE_neg, wE_i2b, wE_l2i, wL_i2l, wL_add, wL_mul, wE_fld, wL_fld, wE_arr, wL_arr, wC_cmp, wC_cmp0, wC_cmpL, wC_and, wC_or, wC_not, wC_ite, wL_ite, wA_nil, wA_int, wA_long, wE_call, wL_call, wS_skip, wS_seq, wS_set, wS_setL, wS_inc, wS_if, wS_put, wS_putL, wS_putOp, wS_putOpL, wS_ast, wS_astL, wS_aop, wS_aopL, wS_ret, wS_retL, wS_retV, wS_do, wS_pop, wS_dead, wS_sw, wF_body, Nat.reduceAdd, Nat.zero_add, Bool.not_not, true_and, and_true, if_true, if_false, ↓reduceIte, eq_self, Value.int.injEq, Value.long.injEq, exists_eq_left', ik_b1, ik_b0, ik_bz0, ik_bz3, ik_bz3_1, ik_bz3_0, ik_cmp, ik_cmpL, ik_eI, ik_eL, ik_as, ik_i0, ik_i1, decide_eq_true_eq, decide_eq_false_iff_not, decide_true, decide_false, Bool.not_true, Bool.not_false, reduceCtorEq, forall_const, false_implies, true_implies, implies_true, true_and, and_true, and_self, false_and, and_false, Bool.and_true, Bool.true_and, not_true_eq_false, not_false_eq_true, if_true, if_false, ite_true, ite_false, ik_bz3_0, ik_bz3_1, ik_bz0, wE_ite, h2, h3, h4, ixt, Option.some.injEq, r35, r36, r37, ea, eb, e35, ixa, ixb, ua2, ub2, cm, z, upd_at, upd_off, nI_1, nI_add, this]
      · have := stF (by rw [tb, e35]; simp [mtB, cN z])
        simp (decide := true) only [wE_lit, wL_lit, wE_loc, wL_loc, wE_add, wE_sub, wE_mul, wE_and, wE_or, wE_xor, wE_shl, wE_shr, wE_ushr, wE_div, wE_rem, wE_neg, wE_i2b, wE_l2i, wL_i2l, wL_add, wL_mul, wE_fld, wL_fld, wE_arr, wL_arr, wC_cmp, wC_cmp0, wC_cmpL, wC_and, wC_or, wC_not, wC_ite, wL_ite, wA_nil, wA_int, wA_long, wE_call, wL_call, wS_skip, wS_seq, wS_set, wS_setL, wS_inc, wS_if, wS_put, wS_putL, wS_putOp, wS_putOpL, wS_ast, wS_astL, wS_aop, wS_aopL, wS_ret, wS_retL, wS_retV, wS_do, wS_pop, wS_dead, wS_sw, wF_body, Nat.reduceAdd, Nat.zero_add, Bool.not_not, true_and, and_true, if_true, if_false, ↓reduceIte, eq_self, Value.int.injEq, Value.long.injEq, exists_eq_left', ik_b1, ik_b0, ik_bz0, ik_bz3, ik_bz3_1, ik_bz3_0, ik_cmp, ik_cmpL, ik_eI, ik_eL, ik_as, ik_i0, ik_i1, decide_eq_true_eq, decide_eq_false_iff_not, decide_true, decide_false, Bool.not_true, Bool.not_false, reduceCtorEq, forall_const, false_implies, true_implies, implies_true, true_and, and_true, and_self, false_and, and_false, Bool.and_true, Bool.true_and, not_true_eq_false, not_false_eq_true, if_true, if_false, ite_true, ite_false, ik_bz3_0, ik_bz3_1, ik_bz0, wE_ite, h2, h3, h4, ixt, Option.some.injEq, r35, r36, r37, ea, eb, e35, ixa, ixb, ua2, ub2, cm, z, upd_at, upd_off, nI_1, nI_add, this]
    · by_cases z : ik_cn (m.1 5) (m.1 4) (u a) (u b) = 0
      · have := stF (by rw [tb, e35]; simp [mtB, c0.mp z])
        simp (decide := true) only [wE_lit, wL_lit, wE_loc, wL_loc, wE_add, wE_sub, wE_mul, wE_and, wE_or, wE_xor, wE_shl, wE_shr, wE_ushr, wE_div, wE_rem, wE_neg, wE_i2b, wE_l2i, wL_i2l, wL_add, wL_mul, wE_fld, wL_fld, wE_arr, wL_arr, wC_cmp, wC_cmp0, wC_cmpL, wC_and, wC_or, wC_not, wC_ite, wL_ite, wA_nil, wA_int, wA_long, wE_call, wL_call, wS_skip, wS_seq, wS_set, wS_setL, wS_inc, wS_if, wS_put, wS_putL, wS_putOp, wS_putOpL, wS_ast, wS_astL, wS_aop, wS_aopL, wS_ret, wS_retL, wS_retV, wS_do, wS_pop, wS_dead, wS_sw, wF_body, Nat.reduceAdd, Nat.zero_add, Bool.not_not, true_and, and_true, if_true, if_false, ↓reduceIte, eq_self, Value.int.injEq, Value.long.injEq, exists_eq_left', ik_b1, ik_b0, ik_bz0, ik_bz3, ik_bz3_1, ik_bz3_0, ik_cmp, ik_cmpL, ik_eI, ik_eL, ik_as, ik_i0, ik_i1, decide_eq_true_eq, decide_eq_false_iff_not, decide_true, decide_false, Bool.not_true, Bool.not_false, reduceCtorEq, forall_const, false_implies, true_implies, implies_true, true_and, and_true, and_self, false_and, and_false, Bool.and_true, Bool.true_and, not_true_eq_false, not_false_eq_true, if_true, if_false, ite_true, ite_false, ik_bz3_0, ik_bz3_1, ik_bz0, wE_ite, h2, h3, h4, ixt, Option.some.injEq, r35, r36, r37, ea, eb, e35, ixa, ixb, ua2, ub2, cm, z, upd_at, upd_off, nI_1, nI_add, this]
      · have := stT (by rw [tb, e35]; simp [mtB, cN z])
        simp (decide := true) only [wE_lit, wL_lit, wE_loc, wL_loc, wE_add, wE_sub, wE_mul, wE_and, wE_or, wE_xor, wE_shl, wE_shr, wE_ushr, wE_div, wE_rem, wE_neg, wE_i2b, wE_l2i, wL_i2l, wL_add, wL_mul, wE_fld, wL_fld, wE_arr, wL_arr, wC_cmp, wC_cmp0, wC_cmpL, wC_and, wC_or, wC_not, wC_ite, wL_ite, wA_nil, wA_int, wA_long, wE_call, wL_call, wS_skip, wS_seq, wS_set, wS_setL, wS_inc, wS_if, wS_put, wS_putL, wS_putOp, wS_putOpL, wS_ast, wS_astL, wS_aop, wS_aopL, wS_ret, wS_retL, wS_retV, wS_do, wS_pop, wS_dead, wS_sw, wF_body, Nat.reduceAdd, Nat.zero_add, Bool.not_not, true_and, and_true, if_true, if_false, ↓reduceIte, eq_self, Value.int.injEq, Value.long.injEq, exists_eq_left', ik_b1, ik_b0, ik_bz0, ik_bz3, ik_bz3_1, ik_bz3_0, ik_cmp, ik_cmpL, ik_eI, ik_eL, ik_as, ik_i0, ik_i1, decide_eq_true_eq, decide_eq_false_iff_not, decide_true, decide_false, Bool.not_true, Bool.not_false, reduceCtorEq, forall_const, false_implies, true_implies, implies_true, true_and, and_true, and_self, false_and, and_false, Bool.and_true, Bool.true_and, not_true_eq_false, not_false_eq_true, if_true, if_false, ite_true, ite_false, ik_bz3_0, ik_bz3_1, ik_bz0, wE_ite, h2, h3, h4, ixt, Option.some.injEq, r35, r36, r37, ea, eb, e35, ixa, ixb, ua2, ub2, cm, z, upd_at, upd_off, nI_1, nI_add, this]
    · by_cases z : ik_cn (m.1 5) (m.1 4) (u a) (u b) < 0
      · have := stT (by rw [tb, e35]; simp [mtB, z])
        simp (decide := true) only [wE_lit, wL_lit, wE_loc, wL_loc, wE_add, wE_sub, wE_mul, wE_and, wE_or, wE_xor, wE_shl, wE_shr, wE_ushr, wE_div, wE_rem, wE_neg, wE_i2b, wE_l2i, wL_i2l, wL_add, wL_mul, wE_fld, wL_fld, wE_arr, wL_arr, wC_cmp, wC_cmp0, wC_cmpL, wC_and, wC_or, wC_not, wC_ite, wL_ite, wA_nil, wA_int, wA_long, wE_call, wL_call, wS_skip, wS_seq, wS_set, wS_setL, wS_inc, wS_if, wS_put, wS_putL, wS_putOp, wS_putOpL, wS_ast, wS_astL, wS_aop, wS_aopL, wS_ret, wS_retL, wS_retV, wS_do, wS_pop, wS_dead, wS_sw, wF_body, Nat.reduceAdd, Nat.zero_add, Bool.not_not, true_and, and_true, if_true, if_false, ↓reduceIte, eq_self, Value.int.injEq, Value.long.injEq, exists_eq_left', ik_b1, ik_b0, ik_bz0, ik_bz3, ik_bz3_1, ik_bz3_0, ik_cmp, ik_cmpL, ik_eI, ik_eL, ik_as, ik_i0, ik_i1, decide_eq_true_eq, decide_eq_false_iff_not, decide_true, decide_false, Bool.not_true, Bool.not_false, reduceCtorEq, forall_const, false_implies, true_implies, implies_true, true_and, and_true, and_self, false_and, and_false, Bool.and_true, Bool.true_and, not_true_eq_false, not_false_eq_true, if_true, if_false, ite_true, ite_false, ik_bz3_0, ik_bz3_1, ik_bz0, wE_ite, h2, h3, h4, ixt, Option.some.injEq, r35, r36, r37, ea, eb, e35, ixa, ixb, ua2, ub2, cm, z, upd_at, upd_off, nI_1, nI_add, this]
      · have := stF (by rw [tb, e35]; simp [mtB, z])
        simp (decide := true) only [wE_lit, wL_lit, wE_loc, wL_loc, wE_add, wE_sub, wE_mul, wE_and, wE_or, wE_xor, wE_shl, wE_shr, wE_ushr, wE_div, wE_rem, wE_neg, wE_i2b, wE_l2i, wL_i2l, wL_add, wL_mul, wE_fld, wL_fld, wE_arr, wL_arr, wC_cmp, wC_cmp0, wC_cmpL, wC_and, wC_or, wC_not, wC_ite, wL_ite, wA_nil, wA_int, wA_long, wE_call, wL_call, wS_skip, wS_seq, wS_set, wS_setL, wS_inc, wS_if, wS_put, wS_putL, wS_putOp, wS_putOpL, wS_ast, wS_astL, wS_aop, wS_aopL, wS_ret, wS_retL, wS_retV, wS_do, wS_pop, wS_dead, wS_sw, wF_body, Nat.reduceAdd, Nat.zero_add, Bool.not_not, true_and, and_true, if_true, if_false, ↓reduceIte, eq_self, Value.int.injEq, Value.long.injEq, exists_eq_left', ik_b1, ik_b0, ik_bz0, ik_bz3, ik_bz3_1, ik_bz3_0, ik_cmp, ik_cmpL, ik_eI, ik_eL, ik_as, ik_i0, ik_i1, decide_eq_true_eq, decide_eq_false_iff_not, decide_true, decide_false, Bool.not_true, Bool.not_false, reduceCtorEq, forall_const, false_implies, true_implies, implies_true, true_and, and_true, and_self, false_and, and_false, Bool.and_true, Bool.true_and, not_true_eq_false, not_false_eq_true, if_true, if_false, ite_true, ite_false, ik_bz3_0, ik_bz3_1, ik_bz0, wE_ite, h2, h3, h4, ixt, Option.some.injEq, r35, r36, r37, ea, eb, e35, ixa, ixb, ua2, ub2, cm, z, upd_at, upd_off, nI_1, nI_add, this]
  · rintro ⟨s1, s2, s3⟩ ⟨h2, h3, h4, h5⟩
    simp only at h3 h4 h5
    subst h5
    have e4 : s1 3 = st ||| (if tiA m u n' = true then 16 else 0) := h4
    have b1 : ib (st ||| (if tiA m u n' = true then 16 else 0)) 1 = false := by
      rw [ib_or, hst]
      cases tiA m u n' <;> rfl
    unfold spk
    obtain ⟨w, hw⟩ : ∃ w, w = st ||| (if tiA m u n' = true then 16 else 0) := ⟨_, rfl⟩
    rw [← hw] at e4 b1 ⊢
    by_cases z : w &&& (wo ^^^ -1) = 0
    · simp (decide := true) only [wE_lit, wL_lit, wE_loc, wL_loc, wE_add, wE_sub, wE_mul, wE_and, wE_or, wE_xor, wE_shl, wE_shr, wE_ushr, wE_div, wE_rem, wE_neg, wE_i2b, wE_l2i, wL_i2l, wL_add, wL_mul, wE_fld, wL_fld, wE_arr, wL_arr, wC_cmp, wC_cmp0, wC_cmpL, wC_and, wC_or, wC_not, wC_ite, wL_ite, wA_nil, wA_int, wA_long, wE_call, wL_call, wS_skip, wS_seq, wS_set, wS_setL, wS_inc, wS_if, wS_put, wS_putL, wS_putOp, wS_putOpL, wS_ast, wS_astL, wS_aop, wS_aopL, wS_ret, wS_retL, wS_retV, wS_do, wS_pop, wS_dead, wS_sw, wF_body, Nat.reduceAdd, Nat.zero_add, Bool.not_not, true_and, and_true, if_true, if_false, ↓reduceIte, eq_self, Value.int.injEq, Value.long.injEq, exists_eq_left', ik_b1, ik_b0, ik_bz0, ik_bz3, ik_bz3_1, ik_bz3_0, ik_cmp, ik_cmpL, ik_eI, ik_eL, ik_as, ik_i0, ik_i1, decide_eq_true_eq, decide_eq_false_iff_not, decide_true, decide_false, Bool.not_true, Bool.not_false, reduceCtorEq, forall_const, false_implies, true_implies, implies_true, true_and, and_true, and_self, false_and, and_false, Bool.and_true, Bool.true_and, not_true_eq_false, not_false_eq_true, if_true, if_false, ite_true, ite_false, ik_bz3_0, ik_bz3_1, ik_bz0, h3, e4, z]
      have w_has1 : ∀ (r : Int32) (g : GG) (Q : Value → GG → Prop), wF fX12_has [.int r, .int 1] g Q ↔ Q (.int (ik_b2 (ib r 1))) g := fun r g Q => w_hasb r (j := 1) (by omega) g Q
      refine wS_wh _ _ (fun k σ => ∃ s, s ≤ S ∧ k = S - s ∧ σ.1 4 = nI s ∧ σ.1 3 = w ||| (if ik_any (otS m u) s = true then 2 else 0) ∧ eqN m s3 σ.2.2) ?_ ik_fuel S _ (by unfold ik_fuel; omega) ⟨0, by omega, by omega, by simp [upd, nI_0], by simp [upd, ik_any, e4], hm.n⟩
      rintro k ⟨t1, t2, t3⟩ ⟨s, k1, k2, k3, k4, k5⟩
      simp only at k3 k4 k5
      have e04 : t3.1 0 4 = nI S := by rw [k5.1.2 4 (by decide)]; exact hS.2.2.1
      have lt := nI_ltI (show s < 2 ^ 31 by omega) (show S < 2 ^ 31 by omega)
      cases an : ik_any (otS m u) s with
      | true =>
        have aS : otA m u S = true := by
          obtain ⟨q, q1, q2⟩ := ik_any_ex.mp an
          exact ik_any_ex.mpr ⟨q, by omega, q2⟩
        rw [an] at k4
        have bt : ib (w ||| 2) 1 = true := by rw [ib_or]; simp [show ib 2 1 = true from rfl]
        by_cases hs : s < S
        · simp (decide := true) only [wE_lit, wL_lit, wE_loc, wL_loc, wE_add, wE_sub, wE_mul, wE_and, wE_or, wE_xor, wE_shl, wE_shr, wE_ushr, wE_div, wE_rem, wE_neg, wE_i2b, wE_l2i, wL_i2l, wL_add, wL_mul, wE_fld, wL_fld, wE_arr, wL_arr, wC_cmp, wC_cmp0, wC_cmpL, wC_and, wC_or, wC_not, wC_ite, wL_ite, wA_nil, wA_int, wA_long, wE_call, wL_call, wS_skip, wS_seq, wS_set, wS_setL, wS_inc, wS_if, wS_put, wS_putL, wS_putOp, wS_putOpL, wS_ast, wS_astL, wS_aop, wS_aopL, wS_ret, wS_retL, wS_retV, wS_do, wS_pop, wS_dead, wS_sw, wF_body, Nat.reduceAdd, Nat.zero_add, Bool.not_not, true_and, and_true, if_true, if_false, ↓reduceIte, eq_self, Value.int.injEq, Value.long.injEq, exists_eq_left', ik_b1, ik_b0, ik_bz0, ik_bz3, ik_bz3_1, ik_bz3_0, ik_cmp, ik_cmpL, ik_eI, ik_eL, ik_as, ik_i0, ik_i1, decide_eq_true_eq, decide_eq_false_iff_not, decide_true, decide_false, Bool.not_true, Bool.not_false, reduceCtorEq, forall_const, false_implies, true_implies, implies_true, true_and, and_true, and_self, false_and, and_false, Bool.and_true, Bool.true_and, not_true_eq_false, not_false_eq_true, if_true, if_false, ite_true, ite_false, ik_bz3_0, ik_bz3_1, ik_bz0, k3, k4, e04, lt, hs, w_has1, bt, show ik_b2 true = 1 from rfl, aS]
          exact k5
        · simp (decide := true) only [wE_lit, wL_lit, wE_loc, wL_loc, wE_add, wE_sub, wE_mul, wE_and, wE_or, wE_xor, wE_shl, wE_shr, wE_ushr, wE_div, wE_rem, wE_neg, wE_i2b, wE_l2i, wL_i2l, wL_add, wL_mul, wE_fld, wL_fld, wE_arr, wL_arr, wC_cmp, wC_cmp0, wC_cmpL, wC_and, wC_or, wC_not, wC_ite, wL_ite, wA_nil, wA_int, wA_long, wE_call, wL_call, wS_skip, wS_seq, wS_set, wS_setL, wS_inc, wS_if, wS_put, wS_putL, wS_putOp, wS_putOpL, wS_ast, wS_astL, wS_aop, wS_aopL, wS_ret, wS_retL, wS_retV, wS_do, wS_pop, wS_dead, wS_sw, wF_body, Nat.reduceAdd, Nat.zero_add, Bool.not_not, true_and, and_true, if_true, if_false, ↓reduceIte, eq_self, Value.int.injEq, Value.long.injEq, exists_eq_left', ik_b1, ik_b0, ik_bz0, ik_bz3, ik_bz3_1, ik_bz3_0, ik_cmp, ik_cmpL, ik_eI, ik_eL, ik_as, ik_i0, ik_i1, decide_eq_true_eq, decide_eq_false_iff_not, decide_true, decide_false, Bool.not_true, Bool.not_false, reduceCtorEq, forall_const, false_implies, true_implies, implies_true, true_and, and_true, and_self, false_and, and_false, Bool.and_true, Bool.true_and, not_true_eq_false, not_false_eq_true, if_true, if_false, ite_true, ite_false, ik_bz3_0, ik_bz3_1, ik_bz0, k3, k4, e04, lt, hs, w_has1, bt, show ik_b2 true = 1 from rfl, aS]
          exact k5
      | false =>
        rw [an] at k4
        have bt : ib (w ||| 0) 1 = false := by rw [ib_or, b1, ib_0]; rfl
        by_cases hs : s < S
        · obtain ⟨q, q1, q2, q3, q4, q5⟩ := hS.tok hs
          have oe : otS m u s = ik_any (otB m u s) q := by unfold otS; rw [q4, nI_nat (by omega)]
          simp (decide := true) only [wE_lit, wL_lit, wE_loc, wL_loc, wE_add, wE_sub, wE_mul, wE_and, wE_or, wE_xor, wE_shl, wE_shr, wE_ushr, wE_div, wE_rem, wE_neg, wE_i2b, wE_l2i, wL_i2l, wL_add, wL_mul, wE_fld, wL_fld, wE_arr, wL_arr, wC_cmp, wC_cmp0, wC_cmpL, wC_and, wC_or, wC_not, wC_ite, wL_ite, wA_nil, wA_int, wA_long, wE_call, wL_call, wS_skip, wS_seq, wS_set, wS_setL, wS_inc, wS_if, wS_put, wS_putL, wS_putOp, wS_putOpL, wS_ast, wS_astL, wS_aop, wS_aopL, wS_ret, wS_retL, wS_retV, wS_do, wS_pop, wS_dead, wS_sw, wF_body, Nat.reduceAdd, Nat.zero_add, Bool.not_not, true_and, and_true, if_true, if_false, ↓reduceIte, eq_self, Value.int.injEq, Value.long.injEq, exists_eq_left', ik_b1, ik_b0, ik_bz0, ik_bz3, ik_bz3_1, ik_bz3_0, ik_cmp, ik_cmpL, ik_eI, ik_eL, ik_as, ik_i0, ik_i1, decide_eq_true_eq, decide_eq_false_iff_not, decide_true, decide_false, Bool.not_true, Bool.not_false, reduceCtorEq, forall_const, false_implies, true_implies, implies_true, true_and, and_true, and_self, false_and, and_false, Bool.and_true, Bool.true_and, not_true_eq_false, not_false_eq_true, if_true, if_false, ite_true, ite_false, ik_bz3_0, ik_bz3_1, ik_bz0, wE_ite, k3, k4, e04, lt, hs, w_has1, bt, show ik_b2 false = 0 from rfl]
          refine wF_mono (w_breaksSo h k5.1 (fun k hk => by rw [k5.2.1 20 (by decide) (by decide) (by decide) (by decide)]; exact hu k hk) hs q4 q2 q1) ?_
          rintro _ g1 ⟨rfl, f1, f2⟩
          rw [← oe]
          cases oc : otS m u s with
          | true =>
            have a2 := ik_any_s an oc
            simp (decide := true) only [wE_lit, wL_lit, wE_loc, wL_loc, wE_add, wE_sub, wE_mul, wE_and, wE_or, wE_xor, wE_shl, wE_shr, wE_ushr, wE_div, wE_rem, wE_neg, wE_i2b, wE_l2i, wL_i2l, wL_add, wL_mul, wE_fld, wL_fld, wE_arr, wL_arr, wC_cmp, wC_cmp0, wC_cmpL, wC_and, wC_or, wC_not, wC_ite, wL_ite, wA_nil, wA_int, wA_long, wE_call, wL_call, wS_skip, wS_seq, wS_set, wS_setL, wS_inc, wS_if, wS_put, wS_putL, wS_putOp, wS_putOpL, wS_ast, wS_astL, wS_aop, wS_aopL, wS_ret, wS_retL, wS_retV, wS_do, wS_pop, wS_dead, wS_sw, wF_body, Nat.reduceAdd, Nat.zero_add, Bool.not_not, true_and, and_true, if_true, if_false, ↓reduceIte, eq_self, Value.int.injEq, Value.long.injEq, exists_eq_left', ik_b1, ik_b0, ik_bz0, ik_bz3, ik_bz3_1, ik_bz3_0, ik_cmp, ik_cmpL, ik_eI, ik_eL, ik_as, ik_i0, ik_i1, decide_eq_true_eq, decide_eq_false_iff_not, decide_true, decide_false, Bool.not_true, Bool.not_false, reduceCtorEq, forall_const, false_implies, true_implies, implies_true, true_and, and_true, and_self, false_and, and_false, Bool.and_true, Bool.true_and, not_true_eq_false, not_false_eq_true, if_true, if_false, ite_true, ite_false, ik_bz3_0, ik_bz3_1, ik_bz0, wE_ite, k3, k4, show ik_b2 (!true) = 0 from rfl, upd_at, upd_off, nI_1, nI_add]
            refine ⟨S - (s + 1), by omega, s + 1, by omega, rfl, ?_⟩
            rw [a2]
            exact ⟨rfl, by simp, f1, k5.2.tr f2⟩
          | false =>
            have a2 := ik_any_s an oc
            simp (decide := true) only [wE_lit, wL_lit, wE_loc, wL_loc, wE_add, wE_sub, wE_mul, wE_and, wE_or, wE_xor, wE_shl, wE_shr, wE_ushr, wE_div, wE_rem, wE_neg, wE_i2b, wE_l2i, wL_i2l, wL_add, wL_mul, wE_fld, wL_fld, wE_arr, wL_arr, wC_cmp, wC_cmp0, wC_cmpL, wC_and, wC_or, wC_not, wC_ite, wL_ite, wA_nil, wA_int, wA_long, wE_call, wL_call, wS_skip, wS_seq, wS_set, wS_setL, wS_inc, wS_if, wS_put, wS_putL, wS_putOp, wS_putOpL, wS_ast, wS_astL, wS_aop, wS_aopL, wS_ret, wS_retL, wS_retV, wS_do, wS_pop, wS_dead, wS_sw, wF_body, Nat.reduceAdd, Nat.zero_add, Bool.not_not, true_and, and_true, if_true, if_false, ↓reduceIte, eq_self, Value.int.injEq, Value.long.injEq, exists_eq_left', ik_b1, ik_b0, ik_bz0, ik_bz3, ik_bz3_1, ik_bz3_0, ik_cmp, ik_cmpL, ik_eI, ik_eL, ik_as, ik_i0, ik_i1, decide_eq_true_eq, decide_eq_false_iff_not, decide_true, decide_false, Bool.not_true, Bool.not_false, reduceCtorEq, forall_const, false_implies, true_implies, implies_true, true_and, and_true, and_self, false_and, and_false, Bool.and_true, Bool.true_and, not_true_eq_false, not_false_eq_true, if_true, if_false, ite_true, ite_false, ik_bz3_0, ik_bz3_1, ik_bz0, wE_ite, k3, k4, show ik_b2 (!false) = 1 from rfl, upd_at, upd_off, nI_1, nI_add]
            refine ⟨S - (s + 1), by omega, s + 1, by omega, rfl, ?_⟩
            rw [a2]
            exact ⟨rfl, by simp, f1, k5.2.tr f2⟩
        · have es : s = S := by omega
          have aS : otA m u S = false := by rw [← es]; exact an
          simp (decide := true) only [wE_lit, wL_lit, wE_loc, wL_loc, wE_add, wE_sub, wE_mul, wE_and, wE_or, wE_xor, wE_shl, wE_shr, wE_ushr, wE_div, wE_rem, wE_neg, wE_i2b, wE_l2i, wL_i2l, wL_add, wL_mul, wE_fld, wL_fld, wE_arr, wL_arr, wC_cmp, wC_cmp0, wC_cmpL, wC_and, wC_or, wC_not, wC_ite, wL_ite, wA_nil, wA_int, wA_long, wE_call, wL_call, wS_skip, wS_seq, wS_set, wS_setL, wS_inc, wS_if, wS_put, wS_putL, wS_putOp, wS_putOpL, wS_ast, wS_astL, wS_aop, wS_aopL, wS_ret, wS_retL, wS_retV, wS_do, wS_pop, wS_dead, wS_sw, wF_body, Nat.reduceAdd, Nat.zero_add, Bool.not_not, true_and, and_true, if_true, if_false, ↓reduceIte, eq_self, Value.int.injEq, Value.long.injEq, exists_eq_left', ik_b1, ik_b0, ik_bz0, ik_bz3, ik_bz3_1, ik_bz3_0, ik_cmp, ik_cmpL, ik_eI, ik_eL, ik_as, ik_i0, ik_i1, decide_eq_true_eq, decide_eq_false_iff_not, decide_true, decide_false, Bool.not_true, Bool.not_false, reduceCtorEq, forall_const, false_implies, true_implies, implies_true, true_and, and_true, and_self, false_and, and_false, Bool.and_true, Bool.true_and, not_true_eq_false, not_false_eq_true, if_true, if_false, ite_true, ite_false, ik_bz3_0, ik_bz3_1, ik_bz0, k3, k4, e04, lt, hs, aS]
          exact k5
    · simp (decide := true) only [wE_lit, wL_lit, wE_loc, wL_loc, wE_add, wE_sub, wE_mul, wE_and, wE_or, wE_xor, wE_shl, wE_shr, wE_ushr, wE_div, wE_rem, wE_neg, wE_i2b, wE_l2i, wL_i2l, wL_add, wL_mul, wE_fld, wL_fld, wE_arr, wL_arr, wC_cmp, wC_cmp0, wC_cmpL, wC_and, wC_or, wC_not, wC_ite, wL_ite, wA_nil, wA_int, wA_long, wE_call, wL_call, wS_skip, wS_seq, wS_set, wS_setL, wS_inc, wS_if, wS_put, wS_putL, wS_putOp, wS_putOpL, wS_ast, wS_astL, wS_aop, wS_aopL, wS_ret, wS_retL, wS_retV, wS_do, wS_pop, wS_dead, wS_sw, wF_body, Nat.reduceAdd, Nat.zero_add, Bool.not_not, true_and, and_true, if_true, if_false, ↓reduceIte, eq_self, Value.int.injEq, Value.long.injEq, exists_eq_left', ik_b1, ik_b0, ik_bz0, ik_bz3, ik_bz3_1, ik_bz3_0, ik_cmp, ik_cmpL, ik_eI, ik_eL, ik_as, ik_i0, ik_i1, decide_eq_true_eq, decide_eq_false_iff_not, decide_true, decide_false, Bool.not_true, Bool.not_false, reduceCtorEq, forall_const, false_implies, true_implies, implies_true, true_and, and_true, and_self, false_and, and_false, Bool.and_true, Bool.true_and, not_true_eq_false, not_false_eq_true, if_true, if_false, ite_true, ite_false, ik_bz3_0, ik_bz3_1, ik_bz0, h3, e4, z]
      exact hm.n
