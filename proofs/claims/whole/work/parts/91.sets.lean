/-! how wide a token is -/
def ik_tc (m : GG) (s t : Nat) : Nat → Nat := fun k => (m.1 15 (160 * s + (m.1 17 (24 * s + t)).toInt.toNat + k)).toInt.toNat - 96
def ik_tw (m : GG) (s t : Nat) : Int32 := (ik_wd (m.1 2) (m.1 3) (ik_tc m s t) ((m.1 18 (24 * s + t)).toInt.toNat - (m.1 17 (24 * s + t)).toInt.toNat)).1
def tokw (m : GG) (u : Nat → Nat) (s t : Nat) : Int32 := if m.1 16 (24 * s + t) < 4 then ik_nw m (u (m.1 16 (24 * s + t)).toInt.toNat) else ik_tw m s t
theorem w_tokenM {x m g : GG} {N B S s t n : Nat} {u : Nat → Nat} (h : rE x m N B S) (hm : eqM m g) (hu : ∀ k, k < B → u k < N ∧ g.1 20 k = nI (u k)) (hs : s < S) (e : m.1 14 s = nI n) (hn : n ≤ 24) (ht : t < n) (Q : Value → GG → Prop) : wF fX12_wideOfToken [.int (nI s), .int (nI t)] g Q ↔ Q (.int (tokw m u s t)) g := by
  refine wF_eq (eq_of_wF ?_) Q
  have hS := h.2.2.2.2.2.2.2.2.2.1
  have hB := h.2.2.2.1.1
  have hN := (h.2.2.1).eqM hm
  have hS6 := hS.1
  obtain ⟨n', n1, n2, n3, n4, n5⟩ := hS.tok hs
  have en : n = n' := (nI_eq (by omega) (by omega)).mp (e.symm.trans n4)
  subst en
  have ix := ik_ix_nI (show 24 * s + t < 144 by omega) (by omega)
  have r16 : g.1 16 = m.1 16 := hm.1 16 (by omega)
  have r17 : g.1 17 = m.1 17 := hm.1 17 (by omega)
  have r18 : g.1 18 = m.1 18 := hm.1 18 (by omega)
  have r15 : g.1 15 = m.1 15 := hm.1 15 (by omega)
  have r2 : g.1 2 = m.1 2 := hm.1 2 (by omega)
  have r3 : g.1 3 = m.1 3 := hm.1 3 (by omega)
  unfold fX12_wideOfToken tokw
  rcases n5 t ht with ⟨k, k1, k2, k3, k4⟩ | ⟨k1, k2, f, l, l1, l2, l3, l4, l5, l6, l7⟩
  · have lt : nI k < 4 := by rw [show (4 : Int32) = nI 4 from rfl, nI_ltI (by omega) (by omega)]; omega
    obtain ⟨u1, u2⟩ := hu k k1
    have wd := w_wideOfM hN u1
    rw [ik_nw_eq hm] at wd
    rw [k3, if_pos lt, nI_nat (by omega)]
    simp (decide := true) only [wE_lit, wL_lit, wE_loc, wL_loc, wE_add, wE_sub, wE_mul, wE_and, wE_or, wE_xor, wE_shl, wE_shr, wE_ushr, wE_div, wE_rem, wE_neg, wE_i2b, wE_l2i, wL_i2l, wL_add, wL_mul, wE_fld, wL_fld, wE_arr, wL_arr, wC_cmp, wC_cmp0, wC_cmpL, wC_and, wC_or, wC_not, wC_ite, wL_ite, wA_nil, wA_int, wA_long, wE_call, wL_call, wS_skip, wS_seq, wS_set, wS_setL, wS_inc, wS_if, wS_put, wS_putL, wS_putOp, wS_putOpL, wS_ast, wS_astL, wS_aop, wS_aopL, wS_ret, wS_retL, wS_retV, wS_do, wS_pop, wS_dead, wS_sw, wF_body, Nat.reduceAdd, Nat.zero_add, Bool.not_not, true_and, and_true, if_true, if_false, ↓reduceIte, eq_self, Value.int.injEq, Value.long.injEq, exists_eq_left', ik_b1, ik_b0, ik_bz0, ik_bz3, ik_bz3_1, ik_bz3_0, ik_cmp, ik_cmpL, ik_eI, ik_eL, ik_as, ik_i0, ik_i1, decide_eq_true_eq, decide_eq_false_iff_not, decide_true, decide_false, Bool.not_true, Bool.not_false, reduceCtorEq, forall_const, false_implies, true_implies, implies_true, true_and, and_true, and_self, false_and, and_false, Bool.and_true, Bool.true_and, not_true_eq_false, not_false_eq_true, if_true, if_false, ite_true, ite_false, ik_bz3_0, ik_bz3_1, ik_bz0, upd_at, upd_off, show (24 : Int32) = nI 24 from rfl, pk_mul, nI_add, ix, Option.some.injEq, r16, k3, lt, ik_ix_nI (show k < 4 by omega) (by omega), u2, wd]
  · have nlt : ¬ (4 : Int32) < 4 := by decide
    rw [k2, if_neg nlt]
    have ef := nI_nat (a := f) (by omega)
    have el := nI_nat (a := f + l) (by omega)
    have ec : ∀ k, k < l → ∃ c, 1 ≤ c ∧ c ≤ 26 ∧ ik_tc m s t k = c ∧ m.1 15 (160 * s + (f + k)) = nI (c + 96) := by
      intro k hk
      obtain ⟨c, g1, g2, g3, g4⟩ := l7 k hk
      have g4' : m.1 15 (160 * s + (f + k)) = nI (c + 96) := g4
      refine ⟨c, g1, g2, ?_, g4'⟩
      unfold ik_tc
      rw [l4, ef, show 160 * s + f + k = 160 * s + (f + k) by omega, g4', nI_nat (by omega)]
      omega
    have ew : ik_tw m s t = (ik_wd (m.1 2) (m.1 3) (ik_tc m s t) l).1 := by unfold ik_tw; rw [l4, l5, ef, el, show f + l - f = l by omega]
    rw [ew]
    simp (decide := true) only [wE_lit, wL_lit, wE_loc, wL_loc, wE_add, wE_sub, wE_mul, wE_and, wE_or, wE_xor, wE_shl, wE_shr, wE_ushr, wE_div, wE_rem, wE_neg, wE_i2b, wE_l2i, wL_i2l, wL_add, wL_mul, wE_fld, wL_fld, wE_arr, wL_arr, wC_cmp, wC_cmp0, wC_cmpL, wC_and, wC_or, wC_not, wC_ite, wL_ite, wA_nil, wA_int, wA_long, wE_call, wL_call, wS_skip, wS_seq, wS_set, wS_setL, wS_inc, wS_if, wS_put, wS_putL, wS_putOp, wS_putOpL, wS_ast, wS_astL, wS_aop, wS_aopL, wS_ret, wS_retL, wS_retV, wS_do, wS_pop, wS_dead, wS_sw, wF_body, Nat.reduceAdd, Nat.zero_add, Bool.not_not, true_and, and_true, if_true, if_false, ↓reduceIte, eq_self, Value.int.injEq, Value.long.injEq, exists_eq_left', ik_b1, ik_b0, ik_bz0, ik_bz3, ik_bz3_1, ik_bz3_0, ik_cmp, ik_cmpL, ik_eI, ik_eL, ik_as, ik_i0, ik_i1, decide_eq_true_eq, decide_eq_false_iff_not, decide_true, decide_false, Bool.not_true, Bool.not_false, reduceCtorEq, forall_const, false_implies, true_implies, implies_true, true_and, and_true, and_self, false_and, and_false, Bool.and_true, Bool.true_and, not_true_eq_false, not_false_eq_true, if_true, if_false, ite_true, ite_false, ik_bz3_0, ik_bz3_1, ik_bz0, upd_at, upd_off, show (24 : Int32) = nI 24 from rfl, pk_mul, nI_add, ix, Option.some.injEq, r16, k2, r17, l4]
    refine wS_for _ _ (fun q σ => f ≤ q ∧ σ.1 6 = nI q ∧ σ.1 1 = nI s ∧ σ.1 3 = nI (24 * s + t) ∧ σ.1 4 = (ik_wd (m.1 2) (m.1 3) (ik_tc m s t) (q - f)).1 ∧ σ.1 5 = nI (ik_wd (m.1 2) (m.1 3) (ik_tc m s t) (q - f)).2 ∧ σ.2.2 = g) f (f + l) _ ⟨Nat.le_refl _, by simp [upd], by simp [upd, ik_eI], by simp [upd], by simp [upd, ik_wd], by simp [upd, ik_wd, nI_0], rfl⟩ (by omega) (by omega) ?_ ?_ ?_
    · rintro q ⟨s1, s2, s3⟩ h1 ⟨h0, h2, h3, h4, h5, h6, h7⟩
      simp only at h2 h3 h4 h7
      subst h7
      simp (decide := true) only [wE_lit, wL_lit, wE_loc, wL_loc, wE_add, wE_sub, wE_mul, wE_and, wE_or, wE_xor, wE_shl, wE_shr, wE_ushr, wE_div, wE_rem, wE_neg, wE_i2b, wE_l2i, wL_i2l, wL_add, wL_mul, wE_fld, wL_fld, wE_arr, wL_arr, wC_cmp, wC_cmp0, wC_cmpL, wC_and, wC_or, wC_not, wC_ite, wL_ite, wA_nil, wA_int, wA_long, wE_call, wL_call, wS_skip, wS_seq, wS_set, wS_setL, wS_inc, wS_if, wS_put, wS_putL, wS_putOp, wS_putOpL, wS_ast, wS_astL, wS_aop, wS_aopL, wS_ret, wS_retL, wS_retV, wS_do, wS_pop, wS_dead, wS_sw, wF_body, Nat.reduceAdd, Nat.zero_add, Bool.not_not, true_and, and_true, if_true, if_false, ↓reduceIte, eq_self, Value.int.injEq, Value.long.injEq, exists_eq_left', ik_b1, ik_b0, ik_bz0, ik_bz3, ik_bz3_1, ik_bz3_0, ik_cmp, ik_cmpL, ik_eI, ik_eL, ik_as, ik_i0, ik_i1, decide_eq_true_eq, decide_eq_false_iff_not, decide_true, decide_false, Bool.not_true, Bool.not_false, reduceCtorEq, forall_const, false_implies, true_implies, implies_true, true_and, and_true, and_self, false_and, and_false, Bool.and_true, Bool.true_and, not_true_eq_false, not_false_eq_true, if_true, if_false, ite_true, ite_false, ik_bz3_0, ik_bz3_1, ik_bz0, h2, h4, ix, Option.some.injEq, r18, l5, nI_ltI (show q < 2 ^ 31 by omega) (show f + l < 2 ^ 31 by omega)]
    · rintro q ⟨s1, s2, s3⟩ h1 ⟨h0, h2, h3, h4, h5, h6, h7⟩
      simp only at h2 h3 h4 h5 h6 h7
      subst h7
      obtain ⟨c, g1, g2, g3, g4⟩ := ec (q - f) (by omega)
      rw [show f + (q - f) = q by omega] at g4
      have qq := ik_wd_2 (w := m.1 2) (j := m.1 3) (c := ik_tc m s t) (n := q - f) (fun k hk => by obtain ⟨c, a1, a2, a3, a4⟩ := ec k (by omega); omega)
      have exx : ik_wd (m.1 2) (m.1 3) (ik_tc m s t) (q + 1 - f) = ((ik_wd (m.1 2) (m.1 3) (ik_tc m s t) (q - f)).1 + (m.1 2 c + m.1 3 (27 * (ik_wd (m.1 2) (m.1 3) (ik_tc m s t) (q - f)).2 + c)), c) := by
        rw [show q + 1 - f = (q - f) + 1 by omega]
        show (_, ik_tc m s t (q - f)) = _
        rw [g3]
      rw [exx]
      have hq1 : f ≤ q + 1 := by omega
      generalize ik_wd (m.1 2) (m.1 3) (ik_tc m s t) (q - f) = p at *
      simp (decide := true) only [wE_lit, wL_lit, wE_loc, wL_loc, wE_add, wE_sub, wE_mul, wE_and, wE_or, wE_xor, wE_shl, wE_shr, wE_ushr, wE_div, wE_rem, wE_neg, wE_i2b, wE_l2i, wL_i2l, wL_add, wL_mul, wE_fld, wL_fld, wE_arr, wL_arr, wC_cmp, wC_cmp0, wC_cmpL, wC_and, wC_or, wC_not, wC_ite, wL_ite, wA_nil, wA_int, wA_long, wE_call, wL_call, wS_skip, wS_seq, wS_set, wS_setL, wS_inc, wS_if, wS_put, wS_putL, wS_putOp, wS_putOpL, wS_ast, wS_astL, wS_aop, wS_aopL, wS_ret, wS_retL, wS_retV, wS_do, wS_pop, wS_dead, wS_sw, wF_body, Nat.reduceAdd, Nat.zero_add, Bool.not_not, true_and, and_true, if_true, if_false, ↓reduceIte, eq_self, Value.int.injEq, Value.long.injEq, exists_eq_left', ik_b1, ik_b0, ik_bz0, ik_bz3, ik_bz3_1, ik_bz3_0, ik_cmp, ik_cmpL, ik_eI, ik_eL, ik_as, ik_i0, ik_i1, decide_eq_true_eq, decide_eq_false_iff_not, decide_true, decide_false, Bool.not_true, Bool.not_false, reduceCtorEq, forall_const, false_implies, true_implies, implies_true, true_and, and_true, and_self, false_and, and_false, Bool.and_true, Bool.true_and, not_true_eq_false, not_false_eq_true, if_true, if_false, ite_true, ite_false, ik_bz3_0, ik_bz3_1, ik_bz0, h2, h3, h4, h5, h6, show (160 : Int32) = nI 160 from rfl, show (27 : Int32) = nI 27 from rfl, pk_mul, nI_add, ik_ix_nI (show 160 * s + q < 960 by omega) (by omega), Option.some.injEq, r15, r2, r3, g4, ik_c97, upd_at, upd_off, ik_ix_nI (show c < 27 by omega) (by omega), ik_ix_nI (show 27 * p.2 + c < 729 by omega) (by omega), nI_1]
      exact hq1
    · rintro ⟨s1, s2, s3⟩ ⟨h0, h2, h3, h4, h5, h6, h7⟩
      simp only at h5 h7
      subst h7
      rw [show f + l - f = l by omega] at h5
      simp (decide := true) only [wE_lit, wL_lit, wE_loc, wL_loc, wE_add, wE_sub, wE_mul, wE_and, wE_or, wE_xor, wE_shl, wE_shr, wE_ushr, wE_div, wE_rem, wE_neg, wE_i2b, wE_l2i, wL_i2l, wL_add, wL_mul, wE_fld, wL_fld, wE_arr, wL_arr, wC_cmp, wC_cmp0, wC_cmpL, wC_and, wC_or, wC_not, wC_ite, wL_ite, wA_nil, wA_int, wA_long, wE_call, wL_call, wS_skip, wS_seq, wS_set, wS_setL, wS_inc, wS_if, wS_put, wS_putL, wS_putOp, wS_putOpL, wS_ast, wS_astL, wS_aop, wS_aopL, wS_ret, wS_retL, wS_retV, wS_do, wS_pop, wS_dead, wS_sw, wF_body, Nat.reduceAdd, Nat.zero_add, Bool.not_not, true_and, and_true, if_true, if_false, ↓reduceIte, eq_self, Value.int.injEq, Value.long.injEq, exists_eq_left', ik_b1, ik_b0, ik_bz0, ik_bz3, ik_bz3_1, ik_bz3_0, ik_cmp, ik_cmpL, ik_eI, ik_eL, ik_as, ik_i0, ik_i1, decide_eq_true_eq, decide_eq_false_iff_not, decide_true, decide_false, Bool.not_true, Bool.not_false, reduceCtorEq, forall_const, false_implies, true_implies, implies_true, true_and, and_true, and_self, false_and, and_false, Bool.and_true, Bool.true_and, not_true_eq_false, not_false_eq_true, if_true, if_false, ite_true, ite_false, ik_bz3_0, ik_bz3_1, ik_bz0, h5]
theorem w_letter26 {y : GG} {q n k : Nat} (e0 : y.1 26 0 = nI 144) (hq : q < 144) (hn : n ≤ 12) (en : y.1 28 q = nI n) (hk : k < n) (Q : Value → GG → Prop) : wF fX10_letter_26 [.int (nI q), .int (nI k)] y Q ↔ Q (.int (y.1 27 (12 * q + k))) y := by
  refine wF_eq (eq_of_wF ?_) Q
  have p1 := nI_pos' (n := q) (by omega)
  have p2 := nI_lt hq (by omega)
  have p3 := nI_pos' (n := k) (by omega)
  have p4 := nI_lt (show k < 12 by omega) (by omega)
  have p5 := nI_lt hk (by omega)
  unfold fX10_letter_26
  simp (decide := true) only [wE_lit, wL_lit, wE_loc, wL_loc, wE_add, wE_sub, wE_mul, wE_and, wE_or, wE_xor, wE_shl, wE_shr, wE_ushr, wE_div, wE_rem, wE_neg, wE_i2b, wE_l2i, wL_i2l, wL_add, wL_mul, wE_fld, wL_fld, wE_arr, wL_arr, wC_cmp, wC_cmp0, wC_cmpL, wC_and, wC_or, wC_not, wC_ite, wL_ite, wA_nil, wA_int, wA_long, wE_call, wL_call, wS_skip, wS_seq, wS_set, wS_setL, wS_inc, wS_if, wS_put, wS_putL, wS_putOp, wS_putOpL, wS_ast, wS_astL, wS_aop, wS_aopL, wS_ret, wS_retL, wS_retV, wS_do, wS_pop, wS_dead, wS_sw, wF_body, Nat.reduceAdd, Nat.zero_add, Bool.not_not, true_and, and_true, if_true, if_false, ↓reduceIte, eq_self, Value.int.injEq, Value.long.injEq, exists_eq_left', ik_b1, ik_b0, ik_bz0, ik_bz3, ik_bz3_1, ik_bz3_0, ik_cmp, ik_cmpL, ik_eI, ik_eL, ik_as, ik_i0, ik_i1, decide_eq_true_eq, decide_eq_false_iff_not, decide_true, decide_false, Bool.not_true, Bool.not_false, reduceCtorEq, forall_const, false_implies, true_implies, implies_true, true_and, and_true, and_self, false_and, and_false, Bool.and_true, Bool.true_and, not_true_eq_false, not_false_eq_true, if_true, if_false, ite_true, ite_false, ik_bz3_0, ik_bz3_1, ik_bz0, wE_ite, e0, show (12 : Int32) = nI 12 from rfl, p1, p2, p3, p4, p5, en, upd_at, upd_off, ik_ix_nI hq (by omega), Option.some.injEq, pk_mul, nI_add, show q * 12 + k = 12 * q + k by omega, ik_ix_nI (show 12 * q + k < 1728 by omega) (by omega)]
theorem w_length26 {y : GG} {q : Nat} (e0 : y.1 26 0 = nI 144) (hq : q < 144) (Q : Value → GG → Prop) : wF fX10_length_26 [.int (nI q)] y Q ↔ Q (.int (y.1 28 q)) y := by
  refine wF_eq (eq_of_wF ?_) Q
  have p1 := nI_pos' (n := q) (by omega)
  have p2 := nI_lt hq (by omega)
  unfold fX10_length_26
  simp (decide := true) only [wE_lit, wL_lit, wE_loc, wL_loc, wE_add, wE_sub, wE_mul, wE_and, wE_or, wE_xor, wE_shl, wE_shr, wE_ushr, wE_div, wE_rem, wE_neg, wE_i2b, wE_l2i, wL_i2l, wL_add, wL_mul, wE_fld, wL_fld, wE_arr, wL_arr, wC_cmp, wC_cmp0, wC_cmpL, wC_and, wC_or, wC_not, wC_ite, wL_ite, wA_nil, wA_int, wA_long, wE_call, wL_call, wS_skip, wS_seq, wS_set, wS_setL, wS_inc, wS_if, wS_put, wS_putL, wS_putOp, wS_putOpL, wS_ast, wS_astL, wS_aop, wS_aopL, wS_ret, wS_retL, wS_retV, wS_do, wS_pop, wS_dead, wS_sw, wF_body, Nat.reduceAdd, Nat.zero_add, Bool.not_not, true_and, and_true, if_true, if_false, ↓reduceIte, eq_self, Value.int.injEq, Value.long.injEq, exists_eq_left', ik_b1, ik_b0, ik_bz0, ik_bz3, ik_bz3_1, ik_bz3_0, ik_cmp, ik_cmpL, ik_eI, ik_eL, ik_as, ik_i0, ik_i1, decide_eq_true_eq, decide_eq_false_iff_not, decide_true, decide_false, Bool.not_true, Bool.not_false, reduceCtorEq, forall_const, false_implies, true_implies, implies_true, true_and, and_true, and_self, false_and, and_false, Bool.and_true, Bool.true_and, not_true_eq_false, not_false_eq_true, if_true, if_false, ite_true, ite_false, ik_bz3_0, ik_bz3_1, ik_bz0, wE_ite, e0, p1, p2, ik_ix_nI hq (by omega), Option.some.injEq]
theorem w_wordWide {y m : GG} {N B S s t n : Nat} (h : rE y m N B S) (hs : s < S) (e : m.1 14 s = nI n) (hn : n ≤ 24) (ht : t < n) (hw : ¬ m.1 16 (24 * s + t) < 4) (Q : Value → GG → Prop) : wF fX8_wordWide [.int (nI s), .int (nI t)] y Q ↔ Q (.int (ik_tw m s t)) y := by
  refine wF_eq (eq_of_wF ?_) Q
  have hS := h.2.2.2.2.2.2.2.2.2.1
  have hL := h.2.1
  have hB := h.2.2.2.1.1
  have hS6 := hS.1
  have e26 : y.1 26 0 = nI 144 := hS.2.2.2.1
  obtain ⟨n', n1, n2, n3, n4, n5⟩ := hS.tok hs
  have en : n = n' := (nI_eq (by omega) (by omega)).mp (e.symm.trans n4)
  subst en
  have std := w_stands hS6 hS.2.1 hs n2 n3 ht
  unfold fX8_wordWide
  rcases n5 t ht with ⟨k, k1, k2, k3, k4⟩ | ⟨k1, k2, f, l, l1, l2, l3, l4, l5, l6, l7⟩
  · exact absurd (by rw [k3, show (4 : Int32) = nI 4 from rfl, nI_ltI (by omega) (by omega)]; omega) hw
  · have ef := nI_nat (a := f) (by omega)
    have el := nI_nat (a := f + l) (by omega)
    have ec : ∀ k, k < l → ∃ c, 1 ≤ c ∧ c ≤ 26 ∧ ik_tc m s t k = c ∧ y.1 27 (12 * (24 * s + t) + k) = nI c := by
      intro k hk
      obtain ⟨c, g1, g2, g3, g4⟩ := l7 k hk
      have g4' : m.1 15 (160 * s + (f + k)) = nI (c + 96) := g4
      refine ⟨c, g1, g2, ?_, g3⟩
      unfold ik_tc
      rw [l4, ef, show 160 * s + f + k = 160 * s + (f + k) by omega, g4', nI_nat (by omega)]
      omega
    have ew : ik_tw m s t = (ik_wd (y.1 4) (y.1 5) (ik_tc m s t) l).1 := by
      unfold ik_tw
      rw [l4, l5, ef, el, show f + l - f = l by omega, ik_wd_congr (fun k hk => (hL.1 k hk).1.symm) (fun k hk => (hL.2.1 k hk).1.symm) (fun k hk => by obtain ⟨c, a1, a2, a3, a4⟩ := ec k hk; omega)]
    rw [ew]
    have sl := w_slot s t y
    have wd : wF fX10_wide_26 [.int (nI (24 * s + t))] y (fun w u => w = .int (ik_wd (y.1 4) (y.1 5) (ik_tc m s t) l).1 ∧ u = y) := by
      unfold fX10_wide_26
      simp (decide := true) only [wE_lit, wL_lit, wE_loc, wL_loc, wE_add, wE_sub, wE_mul, wE_and, wE_or, wE_xor, wE_shl, wE_shr, wE_ushr, wE_div, wE_rem, wE_neg, wE_i2b, wE_l2i, wL_i2l, wL_add, wL_mul, wE_fld, wL_fld, wE_arr, wL_arr, wC_cmp, wC_cmp0, wC_cmpL, wC_and, wC_or, wC_not, wC_ite, wL_ite, wA_nil, wA_int, wA_long, wE_call, wL_call, wS_skip, wS_seq, wS_set, wS_setL, wS_inc, wS_if, wS_put, wS_putL, wS_putOp, wS_putOpL, wS_ast, wS_astL, wS_aop, wS_aopL, wS_ret, wS_retL, wS_retV, wS_do, wS_pop, wS_dead, wS_sw, wF_body, Nat.reduceAdd, Nat.zero_add, Bool.not_not, true_and, and_true, if_true, if_false, ↓reduceIte, eq_self, Value.int.injEq, Value.long.injEq, exists_eq_left', ik_b1, ik_b0, ik_bz0, ik_bz3, ik_bz3_1, ik_bz3_0, ik_cmp, ik_cmpL, ik_eI, ik_eL, ik_as, ik_i0, ik_i1, decide_eq_true_eq, decide_eq_false_iff_not, decide_true, decide_false, Bool.not_true, Bool.not_false, reduceCtorEq, forall_const, false_implies, true_implies, implies_true, true_and, and_true, and_self, false_and, and_false, Bool.and_true, Bool.true_and, not_true_eq_false, not_false_eq_true, if_true, if_false, ite_true, ite_false, ik_bz3_0, ik_bz3_1, ik_bz0, upd_at, upd_off, w_length26 e26 (show 24 * s + t < 144 by omega), l6]
      refine wS_for _ _ (fun q σ => σ.1 6 = nI q ∧ σ.1 1 = nI (24 * s + t) ∧ σ.1 5 = nI l ∧ σ.1 3 = (ik_wd (y.1 4) (y.1 5) (ik_tc m s t) q).1 ∧ σ.1 4 = nI (ik_wd (y.1 4) (y.1 5) (ik_tc m s t) q).2 ∧ σ.2.2 = y) 0 l _ (by simp [upd, ik_eI, nI_0, ik_wd]) (by omega) (by omega) ?_ ?_ ?_
      · rintro q ⟨s1, s2, s3⟩ h1 ⟨h2, h3, h3', h4, h5, h6⟩
        simp only at h2 h3' h6
        simp (decide := true) only [wE_lit, wL_lit, wE_loc, wL_loc, wE_add, wE_sub, wE_mul, wE_and, wE_or, wE_xor, wE_shl, wE_shr, wE_ushr, wE_div, wE_rem, wE_neg, wE_i2b, wE_l2i, wL_i2l, wL_add, wL_mul, wE_fld, wL_fld, wE_arr, wL_arr, wC_cmp, wC_cmp0, wC_cmpL, wC_and, wC_or, wC_not, wC_ite, wL_ite, wA_nil, wA_int, wA_long, wE_call, wL_call, wS_skip, wS_seq, wS_set, wS_setL, wS_inc, wS_if, wS_put, wS_putL, wS_putOp, wS_putOpL, wS_ast, wS_astL, wS_aop, wS_aopL, wS_ret, wS_retL, wS_retV, wS_do, wS_pop, wS_dead, wS_sw, wF_body, Nat.reduceAdd, Nat.zero_add, Bool.not_not, true_and, and_true, if_true, if_false, ↓reduceIte, eq_self, Value.int.injEq, Value.long.injEq, exists_eq_left', ik_b1, ik_b0, ik_bz0, ik_bz3, ik_bz3_1, ik_bz3_0, ik_cmp, ik_cmpL, ik_eI, ik_eL, ik_as, ik_i0, ik_i1, decide_eq_true_eq, decide_eq_false_iff_not, decide_true, decide_false, Bool.not_true, Bool.not_false, reduceCtorEq, forall_const, false_implies, true_implies, implies_true, true_and, and_true, and_self, false_and, and_false, Bool.and_true, Bool.true_and, not_true_eq_false, not_false_eq_true, if_true, if_false, ite_true, ite_false, ik_bz3_0, ik_bz3_1, ik_bz0, h2, h3', nI_ltI (show q < 2 ^ 31 by omega) (show l < 2 ^ 31 by omega)]
      · rintro q ⟨s1, s2, s3⟩ h1 ⟨h2, h3, h3', h4, h5, h6⟩
        simp only at h2 h3 h3' h4 h5 h6
        subst h6
        obtain ⟨c, g1, g2, g3, g4⟩ := ec q h1
        have qq := ik_wd_2 (w := s3.1 4) (j := s3.1 5) (c := ik_tc m s t) (n := q) (fun k hk => by obtain ⟨c, a1, a2, a3, a4⟩ := ec k (by omega); omega)
        have exx : ik_wd (s3.1 4) (s3.1 5) (ik_tc m s t) (q + 1) = ((ik_wd (s3.1 4) (s3.1 5) (ik_tc m s t) q).1 + (s3.1 4 c + s3.1 5 (27 * (ik_wd (s3.1 4) (s3.1 5) (ik_tc m s t) q).2 + c)), c) := by
          show (_, ik_tc m s t q) = _
          rw [g3]
        rw [exx]
        generalize ik_wd (s3.1 4) (s3.1 5) (ik_tc m s t) q = p at *
        simp (decide := true) only [wE_lit, wL_lit, wE_loc, wL_loc, wE_add, wE_sub, wE_mul, wE_and, wE_or, wE_xor, wE_shl, wE_shr, wE_ushr, wE_div, wE_rem, wE_neg, wE_i2b, wE_l2i, wL_i2l, wL_add, wL_mul, wE_fld, wL_fld, wE_arr, wL_arr, wC_cmp, wC_cmp0, wC_cmpL, wC_and, wC_or, wC_not, wC_ite, wL_ite, wA_nil, wA_int, wA_long, wE_call, wL_call, wS_skip, wS_seq, wS_set, wS_setL, wS_inc, wS_if, wS_put, wS_putL, wS_putOp, wS_putOpL, wS_ast, wS_astL, wS_aop, wS_aopL, wS_ret, wS_retL, wS_retV, wS_do, wS_pop, wS_dead, wS_sw, wF_body, Nat.reduceAdd, Nat.zero_add, Bool.not_not, true_and, and_true, if_true, if_false, ↓reduceIte, eq_self, Value.int.injEq, Value.long.injEq, exists_eq_left', ik_b1, ik_b0, ik_bz0, ik_bz3, ik_bz3_1, ik_bz3_0, ik_cmp, ik_cmpL, ik_eI, ik_eL, ik_as, ik_i0, ik_i1, decide_eq_true_eq, decide_eq_false_iff_not, decide_true, decide_false, Bool.not_true, Bool.not_false, reduceCtorEq, forall_const, false_implies, true_implies, implies_true, true_and, and_true, and_self, false_and, and_false, Bool.and_true, Bool.true_and, not_true_eq_false, not_false_eq_true, if_true, if_false, ite_true, ite_false, ik_bz3_0, ik_bz3_1, ik_bz0, h2, h3, h3', h4, h5, w_letter26 e26 (show 24 * s + t < 144 by omega) l2 l6 h1, g4, upd_at, upd_off, w_wideOf4 (show c < 27 by omega), w_joinOf4 (show p.2 < 27 by omega) (show c < 27 by omega), nI_1]
      · rintro ⟨s1, s2, s3⟩ ⟨h2, h3, h3', h4, h5, h6⟩
        simp only at h4 h6
        subst h6
        simp (decide := true) only [wE_lit, wL_lit, wE_loc, wL_loc, wE_add, wE_sub, wE_mul, wE_and, wE_or, wE_xor, wE_shl, wE_shr, wE_ushr, wE_div, wE_rem, wE_neg, wE_i2b, wE_l2i, wL_i2l, wL_add, wL_mul, wE_fld, wL_fld, wE_arr, wL_arr, wC_cmp, wC_cmp0, wC_cmpL, wC_and, wC_or, wC_not, wC_ite, wL_ite, wA_nil, wA_int, wA_long, wE_call, wL_call, wS_skip, wS_seq, wS_set, wS_setL, wS_inc, wS_if, wS_put, wS_putL, wS_putOp, wS_putOpL, wS_ast, wS_astL, wS_aop, wS_aopL, wS_ret, wS_retL, wS_retV, wS_do, wS_pop, wS_dead, wS_sw, wF_body, Nat.reduceAdd, Nat.zero_add, Bool.not_not, true_and, and_true, if_true, if_false, ↓reduceIte, eq_self, Value.int.injEq, Value.long.injEq, exists_eq_left', ik_b1, ik_b0, ik_bz0, ik_bz3, ik_bz3_1, ik_bz3_0, ik_cmp, ik_cmpL, ik_eI, ik_eL, ik_as, ik_i0, ik_i1, decide_eq_true_eq, decide_eq_false_iff_not, decide_true, decide_false, Bool.not_true, Bool.not_false, reduceCtorEq, forall_const, false_implies, true_implies, implies_true, true_and, and_true, and_self, false_and, and_false, Bool.and_true, Bool.true_and, not_true_eq_false, not_false_eq_true, if_true, if_false, ite_true, ite_false, ik_bz3_0, ik_bz3_1, ik_bz0, h4]
    simp (decide := true) only [wE_lit, wL_lit, wE_loc, wL_loc, wE_add, wE_sub, wE_mul, wE_and, wE_or, wE_xor, wE_shl, wE_shr, wE_ushr, wE_div, wE_rem, wE_neg, wE_i2b, wE_l2i, wL_i2l, wL_add, wL_mul, wE_fld, wL_fld, wE_arr, wL_arr, wC_cmp, wC_cmp0, wC_cmpL, wC_and, wC_or, wC_not, wC_ite, wL_ite, wA_nil, wA_int, wA_long, wE_call, wL_call, wS_skip, wS_seq, wS_set, wS_setL, wS_inc, wS_if, wS_put, wS_putL, wS_putOp, wS_putOpL, wS_ast, wS_astL, wS_aop, wS_aopL, wS_ret, wS_retL, wS_retV, wS_do, wS_pop, wS_dead, wS_sw, wF_body, Nat.reduceAdd, Nat.zero_add, Bool.not_not, true_and, and_true, if_true, if_false, ↓reduceIte, eq_self, Value.int.injEq, Value.long.injEq, exists_eq_left', ik_b1, ik_b0, ik_bz0, ik_bz3, ik_bz3_1, ik_bz3_0, ik_cmp, ik_cmpL, ik_eI, ik_eL, ik_as, ik_i0, ik_i1, decide_eq_true_eq, decide_eq_false_iff_not, decide_true, decide_false, Bool.not_true, Bool.not_false, reduceCtorEq, forall_const, false_implies, true_implies, implies_true, true_and, and_true, and_self, false_and, and_false, Bool.and_true, Bool.true_and, not_true_eq_false, not_false_eq_true, if_true, if_false, ite_true, ite_false, ik_bz3_0, ik_bz3_1, ik_bz0, wE_ite, std, sl, wF_eq (eq_of_wF wd)]
