/-! lists: where a name doesn't stand as told -/
def liF (m : GG) (k i : Nat) : Nat → Bool := fun l => decide (m.1 38 l = nI k) && ((!decide (m.1 39 l = -1) && !decide (ik_cn (m.1 5) (m.1 4) (m.1 39 l).toInt.toNat i < 0)) || (!decide (m.1 40 l = -1) && !decide (ik_cn (m.1 5) (m.1 4) i (m.1 40 l).toInt.toNat < 0)))
theorem nI_nat {a : Nat} (h : a < 2 ^ 31) : (nI a).toInt.toNat = a := by rw [nI_toInt h]; rfl
theorem rN.cmp {x m : GG} {N i j : Nat} (h : rN x m N) (hi : i < N) (hj : j < N) (Q : Value → GG → Prop) : wF fX12_compared [.int (nI i), .int (nI j)] m Q ↔ Q (.int (ik_cn (m.1 5) (m.1 4) i j)) m := by
  have hN := h.1
  obtain ⟨⟨n, k1, k2, e1, e2, e3⟩, -⟩ := h.2.2.2.2.1 i hi
  obtain ⟨⟨n', k1', k2', e1', e2', e3'⟩, -⟩ := h.2.2.2.2.1 j hj
  exact w_comparedM (by omega) (by omega) e2 e2' k2 k2' Q
theorem w_listsM {x m : GG} {N B k i n : Nat} (hN : rN x m N) (hn : n ≤ 20) (hm : m.1 0 7 = nI n) (ht : ∀ t, t < n → rO (m.1 39 t) N ∧ rO (m.1 40 t) N) (hi : i < N) (Q : Value → GG → Prop) : wF fX12_isAgainstLists [.int (nI k), .int (nI i)] m Q ↔ Q (.int (ik_b2 (ik_any (liF m k i) n))) m := by
  refine wF_eq (eq_of_wF ?_) Q
  have hN24 := hN.1
  unfold fX12_isAgainstLists
  simp (decide := true) only [wE_lit, wL_lit, wE_loc, wL_loc, wE_add, wE_sub, wE_mul, wE_and, wE_or, wE_xor, wE_shl, wE_shr, wE_ushr, wE_div, wE_rem, wE_neg, wE_i2b, wE_l2i, wL_i2l, wL_add, wL_mul, wE_fld, wL_fld, wE_arr, wL_arr, wC_cmp, wC_cmp0, wC_cmpL, wC_and, wC_or, wC_not, wC_ite, wL_ite, wA_nil, wA_int, wA_long, wE_call, wL_call, wS_skip, wS_seq, wS_set, wS_setL, wS_inc, wS_if, wS_put, wS_putL, wS_putOp, wS_putOpL, wS_ast, wS_astL, wS_aop, wS_aopL, wS_ret, wS_retL, wS_retV, wS_do, wS_pop, wS_dead, wS_sw, wF_body, Nat.reduceAdd, Nat.zero_add, Bool.not_not, true_and, and_true, if_true, if_false, ↓reduceIte, eq_self, Value.int.injEq, Value.long.injEq, exists_eq_left', ik_b1, ik_b0, ik_bz0, ik_bz3, ik_bz3_1, ik_bz3_0, ik_cmp, ik_cmpL, ik_eI, ik_eL, ik_as, ik_i0, ik_i1, decide_eq_true_eq, decide_eq_false_iff_not, decide_true, decide_false, Bool.not_true, Bool.not_false, reduceCtorEq, forall_const, false_implies, true_implies, implies_true, true_and, and_true, and_self, false_and, and_false, Bool.and_true, Bool.true_and, not_true_eq_false, not_false_eq_true, if_true, if_false, ite_true, ite_false, ik_bz3_0, ik_bz3_1, ik_bz0]
  refine wS_find _ _ (liF m k i) n 3 _ (by omega) (by simp [upd, ik_eI]) ?_ ?_ ?_
  · intro t s1 ht1 h1
    exact wc_1 (by exact hm) (by omega) ht1 h1
  · intro t s1 ht1 h1 hs hp
    have e1 : s1 1 = nI k := by rw [hs 1 (by decide)]; simp [upd, ik_eI]
    have e2 : s1 2 = nI i := by rw [hs 2 (by decide)]; simp [upd, ik_eI]
    have ix := ik_ix_nI (show t < 20 by omega) (by omega)
    obtain ⟨oa, ob⟩ := ht t ht1
    have yes : liF m k i t = true → ik_b2 (ik_any (liF m k i) n) = 1 := fun h => by rw [ik_any_yes ht1 h]; rfl
    simp (decide := true) only [wE_lit, wL_lit, wE_loc, wL_loc, wE_add, wE_sub, wE_mul, wE_and, wE_or, wE_xor, wE_shl, wE_shr, wE_ushr, wE_div, wE_rem, wE_neg, wE_i2b, wE_l2i, wL_i2l, wL_add, wL_mul, wE_fld, wL_fld, wE_arr, wL_arr, wC_cmp, wC_cmp0, wC_cmpL, wC_and, wC_or, wC_not, wC_ite, wL_ite, wA_nil, wA_int, wA_long, wE_call, wL_call, wS_skip, wS_seq, wS_set, wS_setL, wS_inc, wS_if, wS_put, wS_putL, wS_putOp, wS_putOpL, wS_ast, wS_astL, wS_aop, wS_aopL, wS_ret, wS_retL, wS_retV, wS_do, wS_pop, wS_dead, wS_sw, wF_body, Nat.reduceAdd, Nat.zero_add, Bool.not_not, true_and, and_true, if_true, if_false, ↓reduceIte, eq_self, Value.int.injEq, Value.long.injEq, exists_eq_left', ik_b1, ik_b0, ik_bz0, ik_bz3, ik_bz3_1, ik_bz3_0, ik_cmp, ik_cmpL, ik_eI, ik_eL, ik_as, h1, e1, e2, ix, Option.some.injEq, nI_1, upd_at, upd_off]
    by_cases c0 : m.1 38 t = nI k
    · have cA : m.1 39 t = -1 ∨ ∃ a, a < N ∧ m.1 39 t = nI a := oa
      have cB : m.1 40 t = -1 ∨ ∃ a, a < N ∧ m.1 40 t = nI a := ob
      have fB : ∀ (P : Prop), (liF m k i t = false → P) → (liF m k i t = true → ik_b2 (ik_any (liF m k i) n) = 1) → True := fun _ _ _ => trivial
      have hge : ∀ v : Int32, (0 ≤ v) ↔ ¬ v < 0 := fun v => by rw [Int32.not_lt]
      rcases cA with ea | ⟨a, ha, ea⟩ <;> rcases cB with eb | ⟨b, hb, eb⟩
      · have : liF m k i t = false := by simp [liF, ea, eb]
        simp (decide := true) only [ik_i0, ik_i1, decide_eq_true_eq, decide_eq_false_iff_not, decide_true, decide_false, Bool.not_true, Bool.not_false, reduceCtorEq, forall_const, false_implies, true_implies, implies_true, true_and, and_true, and_self, false_and, and_false, Bool.and_true, Bool.true_and, not_true_eq_false, not_false_eq_true, if_true, if_false, ite_true, ite_false, ik_bz3_0, ik_bz3_1, ik_bz0, Nat.reduceAdd, Nat.zero_add, Bool.not_not, true_and, and_true, if_true, if_false, ↓reduceIte, eq_self, Value.int.injEq, Value.long.injEq, exists_eq_left', ik_b1, ik_b0, ik_bz0, ik_bz3, ik_bz3_1, ik_bz3_0, ik_cmp, ik_cmpL, ik_eI, ik_eL, ik_as, c0, ea, eb, this, h1, upd_at, upd_off, nI_1]
        exact fun q hq => upd_off _ _ _ _ hq
      · have nb := nI_m1 (t := b) (by omega)
        have cm := hN.cmp hi hb
        by_cases d : ik_cn (m.1 5) (m.1 4) i b < 0
        · have : liF m k i t = false := by simp [liF, ea, eb, nI_nat (show b < 2 ^ 31 by omega), d]
          simp (decide := true) only [ik_i0, ik_i1, decide_eq_true_eq, decide_eq_false_iff_not, decide_true, decide_false, Bool.not_true, Bool.not_false, reduceCtorEq, forall_const, false_implies, true_implies, implies_true, true_and, and_true, and_self, false_and, and_false, Bool.and_true, Bool.true_and, not_true_eq_false, not_false_eq_true, if_true, if_false, ite_true, ite_false, ik_bz3_0, ik_bz3_1, ik_bz0, Nat.reduceAdd, Nat.zero_add, Bool.not_not, true_and, and_true, if_true, if_false, ↓reduceIte, eq_self, Value.int.injEq, Value.long.injEq, exists_eq_left', ik_b1, ik_b0, ik_bz0, ik_bz3, ik_bz3_1, ik_bz3_0, ik_cmp, ik_cmpL, ik_eI, ik_eL, ik_as, c0, ea, eb, nb, cm, hge, d, this, h1, upd_at, upd_off, nI_1]
          exact fun q hq => upd_off _ _ _ _ hq
        · have : liF m k i t = true := by simp [liF, c0, ea, eb, nb, nI_nat (show b < 2 ^ 31 by omega), d]
          simp (decide := true) only [ik_i0, ik_i1, decide_eq_true_eq, decide_eq_false_iff_not, decide_true, decide_false, Bool.not_true, Bool.not_false, reduceCtorEq, forall_const, false_implies, true_implies, implies_true, true_and, and_true, and_self, false_and, and_false, Bool.and_true, Bool.true_and, not_true_eq_false, not_false_eq_true, if_true, if_false, ite_true, ite_false, ik_bz3_0, ik_bz3_1, ik_bz0, Nat.reduceAdd, Nat.zero_add, Bool.not_not, true_and, and_true, if_true, if_false, ↓reduceIte, eq_self, Value.int.injEq, Value.long.injEq, exists_eq_left', ik_b1, ik_b0, ik_bz0, ik_bz3, ik_bz3_1, ik_bz3_0, ik_cmp, ik_cmpL, ik_eI, ik_eL, ik_as, c0, ea, eb, nb, cm, hge, d, yes this, h1, upd_at, upd_off, nI_1]
      · have na := nI_m1 (t := a) (by omega)
        have cm := hN.cmp ha hi
        by_cases d : ik_cn (m.1 5) (m.1 4) a i < 0
        · have : liF m k i t = false := by simp [liF, ea, eb, nI_nat (show a < 2 ^ 31 by omega), d]
          simp (decide := true) only [ik_i0, ik_i1, decide_eq_true_eq, decide_eq_false_iff_not, decide_true, decide_false, Bool.not_true, Bool.not_false, reduceCtorEq, forall_const, false_implies, true_implies, implies_true, true_and, and_true, and_self, false_and, and_false, Bool.and_true, Bool.true_and, not_true_eq_false, not_false_eq_true, if_true, if_false, ite_true, ite_false, ik_bz3_0, ik_bz3_1, ik_bz0, Nat.reduceAdd, Nat.zero_add, Bool.not_not, true_and, and_true, if_true, if_false, ↓reduceIte, eq_self, Value.int.injEq, Value.long.injEq, exists_eq_left', ik_b1, ik_b0, ik_bz0, ik_bz3, ik_bz3_1, ik_bz3_0, ik_cmp, ik_cmpL, ik_eI, ik_eL, ik_as, c0, ea, eb, na, cm, hge, d, this, h1, upd_at, upd_off, nI_1]
          exact fun q hq => upd_off _ _ _ _ hq
        · have : liF m k i t = true := by simp [liF, c0, ea, eb, na, nI_nat (show a < 2 ^ 31 by omega), d]
          simp (decide := true) only [ik_i0, ik_i1, decide_eq_true_eq, decide_eq_false_iff_not, decide_true, decide_false, Bool.not_true, Bool.not_false, reduceCtorEq, forall_const, false_implies, true_implies, implies_true, true_and, and_true, and_self, false_and, and_false, Bool.and_true, Bool.true_and, not_true_eq_false, not_false_eq_true, if_true, if_false, ite_true, ite_false, ik_bz3_0, ik_bz3_1, ik_bz0, Nat.reduceAdd, Nat.zero_add, Bool.not_not, true_and, and_true, if_true, if_false, ↓reduceIte, eq_self, Value.int.injEq, Value.long.injEq, exists_eq_left', ik_b1, ik_b0, ik_bz0, ik_bz3, ik_bz3_1, ik_bz3_0, ik_cmp, ik_cmpL, ik_eI, ik_eL, ik_as, c0, ea, eb, na, cm, hge, d, yes this, h1, upd_at, upd_off, nI_1]
      · have na := nI_m1 (t := a) (by omega)
        have nb := nI_m1 (t := b) (by omega)
        have cm := hN.cmp ha hi
        have cm2 := hN.cmp hi hb
        by_cases d : ik_cn (m.1 5) (m.1 4) a i < 0
        · by_cases d2 : ik_cn (m.1 5) (m.1 4) i b < 0
          · have : liF m k i t = false := by simp [liF, ea, eb, nI_nat (show a < 2 ^ 31 by omega), nI_nat (show b < 2 ^ 31 by omega), d, d2]
            simp (decide := true) only [ik_i0, ik_i1, decide_eq_true_eq, decide_eq_false_iff_not, decide_true, decide_false, Bool.not_true, Bool.not_false, reduceCtorEq, forall_const, false_implies, true_implies, implies_true, true_and, and_true, and_self, false_and, and_false, Bool.and_true, Bool.true_and, not_true_eq_false, not_false_eq_true, if_true, if_false, ite_true, ite_false, ik_bz3_0, ik_bz3_1, ik_bz0, Nat.reduceAdd, Nat.zero_add, Bool.not_not, true_and, and_true, if_true, if_false, ↓reduceIte, eq_self, Value.int.injEq, Value.long.injEq, exists_eq_left', ik_b1, ik_b0, ik_bz0, ik_bz3, ik_bz3_1, ik_bz3_0, ik_cmp, ik_cmpL, ik_eI, ik_eL, ik_as, c0, ea, eb, na, nb, cm, cm2, hge, d, d2, this, h1, upd_at, upd_off, nI_1]
            exact fun q hq => upd_off _ _ _ _ hq
          · have : liF m k i t = true := by simp [liF, c0, ea, eb, nb, nI_nat (show a < 2 ^ 31 by omega), nI_nat (show b < 2 ^ 31 by omega), d2]
            simp (decide := true) only [ik_i0, ik_i1, decide_eq_true_eq, decide_eq_false_iff_not, decide_true, decide_false, Bool.not_true, Bool.not_false, reduceCtorEq, forall_const, false_implies, true_implies, implies_true, true_and, and_true, and_self, false_and, and_false, Bool.and_true, Bool.true_and, not_true_eq_false, not_false_eq_true, if_true, if_false, ite_true, ite_false, ik_bz3_0, ik_bz3_1, ik_bz0, Nat.reduceAdd, Nat.zero_add, Bool.not_not, true_and, and_true, if_true, if_false, ↓reduceIte, eq_self, Value.int.injEq, Value.long.injEq, exists_eq_left', ik_b1, ik_b0, ik_bz0, ik_bz3, ik_bz3_1, ik_bz3_0, ik_cmp, ik_cmpL, ik_eI, ik_eL, ik_as, c0, ea, eb, na, nb, cm, cm2, hge, d, d2, yes this, h1, upd_at, upd_off, nI_1]
            exact ⟨_, rfl⟩
        · have : liF m k i t = true := by simp [liF, c0, ea, eb, na, nI_nat (show a < 2 ^ 31 by omega), d]
          simp (decide := true) only [ik_i0, ik_i1, decide_eq_true_eq, decide_eq_false_iff_not, decide_true, decide_false, Bool.not_true, Bool.not_false, reduceCtorEq, forall_const, false_implies, true_implies, implies_true, true_and, and_true, and_self, false_and, and_false, Bool.and_true, Bool.true_and, not_true_eq_false, not_false_eq_true, if_true, if_false, ite_true, ite_false, ik_bz3_0, ik_bz3_1, ik_bz0, Nat.reduceAdd, Nat.zero_add, Bool.not_not, true_and, and_true, if_true, if_false, ↓reduceIte, eq_self, Value.int.injEq, Value.long.injEq, exists_eq_left', ik_b1, ik_b0, ik_bz0, ik_bz3, ik_bz3_1, ik_bz3_0, ik_cmp, ik_cmpL, ik_eI, ik_eL, ik_as, c0, ea, eb, na, nb, cm, cm2, hge, d, yes this, h1, upd_at, upd_off, nI_1]
    · have : liF m k i t = false := by simp [liF, c0]
      simp (decide := true) only [ik_i0, ik_i1, decide_eq_true_eq, decide_eq_false_iff_not, decide_true, decide_false, Bool.not_true, Bool.not_false, reduceCtorEq, forall_const, false_implies, true_implies, implies_true, true_and, and_true, and_self, false_and, and_false, Bool.and_true, Bool.true_and, not_true_eq_false, not_false_eq_true, if_true, if_false, ite_true, ite_false, ik_bz3_0, ik_bz3_1, ik_bz0, Nat.reduceAdd, Nat.zero_add, Bool.not_not, true_and, and_true, if_true, if_false, ↓reduceIte, eq_self, Value.int.injEq, Value.long.injEq, exists_eq_left', ik_b1, ik_b0, ik_bz0, ik_bz3, ik_bz3_1, ik_bz3_0, ik_cmp, ik_cmpL, ik_eI, ik_eL, ik_as, c0, this, h1, upd_at, upd_off, nI_1]
      exact fun q hq => upd_off _ _ _ _ hq
  · intro s1 h1 hs hp
    have : ik_any (liF m k i) n = false := ik_any_no hp
    simp (decide := true) only [wE_lit, wL_lit, wE_loc, wL_loc, wE_add, wE_sub, wE_mul, wE_and, wE_or, wE_xor, wE_shl, wE_shr, wE_ushr, wE_div, wE_rem, wE_neg, wE_i2b, wE_l2i, wL_i2l, wL_add, wL_mul, wE_fld, wL_fld, wE_arr, wL_arr, wC_cmp, wC_cmp0, wC_cmpL, wC_and, wC_or, wC_not, wC_ite, wL_ite, wA_nil, wA_int, wA_long, wE_call, wL_call, wS_skip, wS_seq, wS_set, wS_setL, wS_inc, wS_if, wS_put, wS_putL, wS_putOp, wS_putOpL, wS_ast, wS_astL, wS_aop, wS_aopL, wS_ret, wS_retL, wS_retV, wS_do, wS_pop, wS_dead, wS_sw, wF_body, Nat.reduceAdd, Nat.zero_add, Bool.not_not, true_and, and_true, if_true, if_false, ↓reduceIte, eq_self, Value.int.injEq, Value.long.injEq, exists_eq_left', ik_b1, ik_b0, ik_bz0, ik_bz3, ik_bz3_1, ik_bz3_0, ik_cmp, ik_cmpL, ik_eI, ik_eL, ik_as, ik_i0, ik_i1, decide_eq_true_eq, decide_eq_false_iff_not, decide_true, decide_false, Bool.not_true, Bool.not_false, reduceCtorEq, forall_const, false_implies, true_implies, implies_true, true_and, and_true, and_self, false_and, and_false, Bool.and_true, Bool.true_and, not_true_eq_false, not_false_eq_true, if_true, if_false, ite_true, ite_false, ik_bz3_0, ik_bz3_1, ik_bz0, this, ik_b2]
theorem w_listsX {y m : GG} {N B k i n : Nat} (hN : rN y m N) (hn : n ≤ 20) (hy : y.1 15 11 = nI n) (ht : ∀ t, t < n → y.1 22 t = m.1 38 t ∧ y.1 23 t = m.1 39 t ∧ y.1 24 t = m.1 40 t ∧ rO (m.1 39 t) N ∧ rO (m.1 40 t) N) (hi : i < N) (Q : Value → GG → Prop) : wF fX0_inLists [.int (nI k), .int (nI i)] y Q ↔ Q (.int (ik_b2 (!ik_any (liF m k i) n))) y := by
  refine wF_eq (eq_of_wF ?_) Q
  have hN24 := hN.1
  have aw : ∀ a b, a < N → b < N → ∀ Q : Value → GG → Prop, wF fX11_bit [.int (y.1 14 a), .int (nI b)] y Q ↔ Q (.int (if ik_cn (m.1 5) (m.1 4) b a < 0 then 1 else 0)) y := by
    intro a b ha hb Q
    obtain ⟨d, g1, g2, g3⟩ := hN.2.2.2.2.2.2 a ha
    rw [w_bit, g2]
    have e := nI_bit (n := d) (k := b) (by omega) (by omega)
    have e2 := g3 b
    by_cases c : ik_cn (m.1 5) (m.1 4) b a < 0
    · have : d.testBit b = true := by rw [e2]; simp [hb, c]
      rw [if_pos c, if_pos (fun h => by rw [e.mp h] at this; cases this)]
    · have : d.testBit b = false := by rw [e2]; simp [c]
      rw [if_neg c, if_neg (fun h => h (e.mpr this))]
  unfold fX0_inLists
  simp (decide := true) only [wE_lit, wL_lit, wE_loc, wL_loc, wE_add, wE_sub, wE_mul, wE_and, wE_or, wE_xor, wE_shl, wE_shr, wE_ushr, wE_div, wE_rem, wE_neg, wE_i2b, wE_l2i, wL_i2l, wL_add, wL_mul, wE_fld, wL_fld, wE_arr, wL_arr, wC_cmp, wC_cmp0, wC_cmpL, wC_and, wC_or, wC_not, wC_ite, wL_ite, wA_nil, wA_int, wA_long, wE_call, wL_call, wS_skip, wS_seq, wS_set, wS_setL, wS_inc, wS_if, wS_put, wS_putL, wS_putOp, wS_putOpL, wS_ast, wS_astL, wS_aop, wS_aopL, wS_ret, wS_retL, wS_retV, wS_do, wS_pop, wS_dead, wS_sw, wF_body, Nat.reduceAdd, Nat.zero_add, Bool.not_not, true_and, and_true, if_true, if_false, ↓reduceIte, eq_self, Value.int.injEq, Value.long.injEq, exists_eq_left', ik_b1, ik_b0, ik_bz0, ik_bz3, ik_bz3_1, ik_bz3_0, ik_cmp, ik_cmpL, ik_eI, ik_eL, ik_as, ik_i0, ik_i1, decide_eq_true_eq, decide_eq_false_iff_not, decide_true, decide_false, Bool.not_true, Bool.not_false, reduceCtorEq, forall_const, false_implies, true_implies, implies_true, true_and, and_true, and_self, false_and, and_false, Bool.and_true, Bool.true_and, not_true_eq_false, not_false_eq_true, if_true, if_false, ite_true, ite_false, ik_bz3_0, ik_bz3_1, ik_bz0]
  refine wS_for _ _ (fun t σ => σ.1 4 = nI t ∧ σ.1 1 = nI k ∧ σ.1 2 = nI i ∧ σ.2.2 = y ∧ ∀ q, q < t → liF m k i q = false) 0 n _ ⟨by simp [upd, nI_0], by simp [upd, ik_eI], by simp [upd, ik_eI], rfl, fun q hq => by omega⟩ (by omega) (by omega) ?_ ?_ ?_
  · rintro t ⟨s1, s2, s3⟩ ht1 ⟨h1, e1, e2, e3, hp⟩
    simp only at h1 e3
    subst e3
    exact wc_X (M := 20) (by exact hy) hn (by omega) ht1 h1
  · rintro t ⟨s1, s2, s3⟩ ht1 ⟨h1, e1, e2, e3, hp⟩
    simp only at h1 e1 e2 e3
    subst e3
    have ix := ik_ix_nI (show t < 20 by omega) (by omega)
    obtain ⟨f1, f2, f3, oa, ob⟩ := ht t ht1
    have yes : liF m k i t = true → ik_any (liF m k i) n = true := fun h => ik_any_yes ht1 h
    have nx : liF m k i t = false → ∀ q, q < t + 1 → liF m k i q = false := fun h q hq => by
      by_cases e : q = t
      · rw [e]; exact h
      · exact hp q (by omega)
    have ah := fun a (ha : a < N) => w_ahead6 hN ha
    simp (decide := true) only [wE_lit, wL_lit, wE_loc, wL_loc, wE_add, wE_sub, wE_mul, wE_and, wE_or, wE_xor, wE_shl, wE_shr, wE_ushr, wE_div, wE_rem, wE_neg, wE_i2b, wE_l2i, wL_i2l, wL_add, wL_mul, wE_fld, wL_fld, wE_arr, wL_arr, wC_cmp, wC_cmp0, wC_cmpL, wC_and, wC_or, wC_not, wC_ite, wL_ite, wA_nil, wA_int, wA_long, wE_call, wL_call, wS_skip, wS_seq, wS_set, wS_setL, wS_inc, wS_if, wS_put, wS_putL, wS_putOp, wS_putOpL, wS_ast, wS_astL, wS_aop, wS_aopL, wS_ret, wS_retL, wS_retV, wS_do, wS_pop, wS_dead, wS_sw, wF_body, Nat.reduceAdd, Nat.zero_add, Bool.not_not, true_and, and_true, if_true, if_false, ↓reduceIte, eq_self, Value.int.injEq, Value.long.injEq, exists_eq_left', ik_b1, ik_b0, ik_bz0, ik_bz3, ik_bz3_1, ik_bz3_0, ik_cmp, ik_cmpL, ik_eI, ik_eL, ik_as, h1, e1, e2, ix, Option.some.injEq, nI_1, upd_at, upd_off, f1, f2, f3]
    by_cases c0 : m.1 38 t = nI k
    · have cA : m.1 39 t = -1 ∨ ∃ a, a < N ∧ m.1 39 t = nI a := oa
      have cB : m.1 40 t = -1 ∨ ∃ a, a < N ∧ m.1 40 t = nI a := ob
      rcases cA with ea | ⟨a, ha, ea⟩ <;> rcases cB with eb | ⟨b, hb, eb⟩
      · have : liF m k i t = false := by simp [liF, ea, eb]
        simp (decide := true) only [ik_i0, ik_i1, decide_eq_true_eq, decide_eq_false_iff_not, decide_true, decide_false, Bool.not_true, Bool.not_false, reduceCtorEq, forall_const, false_implies, true_implies, implies_true, true_and, and_true, and_self, false_and, and_false, Bool.and_true, Bool.true_and, not_true_eq_false, not_false_eq_true, if_true, if_false, ite_true, ite_false, ik_bz3_0, ik_bz3_1, ik_bz0, Nat.reduceAdd, Nat.zero_add, Bool.not_not, true_and, and_true, if_true, if_false, ↓reduceIte, eq_self, Value.int.injEq, Value.long.injEq, exists_eq_left', ik_b1, ik_b0, ik_bz0, ik_bz3, ik_bz3_1, ik_bz3_0, ik_cmp, ik_cmpL, ik_eI, ik_eL, ik_as, c0, ea, eb, h1, e1, e2, upd_at, upd_off, nI_1]
        exact nx this
      · have nb := nI_m1 (t := b) (by omega)
        by_cases d : ik_cn (m.1 5) (m.1 4) i b < 0
        · have : liF m k i t = false := by simp [liF, ea, eb, nI_nat (show b < 2 ^ 31 by omega), d]
          simp (decide := true) only [ik_i0, ik_i1, decide_eq_true_eq, decide_eq_false_iff_not, decide_true, decide_false, Bool.not_true, Bool.not_false, reduceCtorEq, forall_const, false_implies, true_implies, implies_true, true_and, and_true, and_self, false_and, and_false, Bool.and_true, Bool.true_and, not_true_eq_false, not_false_eq_true, if_true, if_false, ite_true, ite_false, ik_bz3_0, ik_bz3_1, ik_bz0, Nat.reduceAdd, Nat.zero_add, Bool.not_not, true_and, and_true, if_true, if_false, ↓reduceIte, eq_self, Value.int.injEq, Value.long.injEq, exists_eq_left', ik_b1, ik_b0, ik_bz0, ik_bz3, ik_bz3_1, ik_bz3_0, ik_cmp, ik_cmpL, ik_eI, ik_eL, ik_as, c0, ea, eb, nb, ah b hb, aw b i hb hi, d, h1, e1, e2, upd_at, upd_off, nI_1]
          exact nx this
        · have : liF m k i t = true := by simp [liF, c0, ea, eb, nb, nI_nat (show b < 2 ^ 31 by omega), d]
          simp (decide := true) only [ik_i0, ik_i1, decide_eq_true_eq, decide_eq_false_iff_not, decide_true, decide_false, Bool.not_true, Bool.not_false, reduceCtorEq, forall_const, false_implies, true_implies, implies_true, true_and, and_true, and_self, false_and, and_false, Bool.and_true, Bool.true_and, not_true_eq_false, not_false_eq_true, if_true, if_false, ite_true, ite_false, ik_bz3_0, ik_bz3_1, ik_bz0, Nat.reduceAdd, Nat.zero_add, Bool.not_not, true_and, and_true, if_true, if_false, ↓reduceIte, eq_self, Value.int.injEq, Value.long.injEq, exists_eq_left', ik_b1, ik_b0, ik_bz0, ik_bz3, ik_bz3_1, ik_bz3_0, ik_cmp, ik_cmpL, ik_eI, ik_eL, ik_as, c0, ea, eb, nb, ah b hb, aw b i hb hi, d, yes this, ik_b2, h1, e1, e2, upd_at, upd_off, nI_1]
      · have na := nI_m1 (t := a) (by omega)
        by_cases d : ik_cn (m.1 5) (m.1 4) a i < 0
        · have : liF m k i t = false := by simp [liF, ea, eb, nI_nat (show a < 2 ^ 31 by omega), d]
          simp (decide := true) only [ik_i0, ik_i1, decide_eq_true_eq, decide_eq_false_iff_not, decide_true, decide_false, Bool.not_true, Bool.not_false, reduceCtorEq, forall_const, false_implies, true_implies, implies_true, true_and, and_true, and_self, false_and, and_false, Bool.and_true, Bool.true_and, not_true_eq_false, not_false_eq_true, if_true, if_false, ite_true, ite_false, ik_bz3_0, ik_bz3_1, ik_bz0, Nat.reduceAdd, Nat.zero_add, Bool.not_not, true_and, and_true, if_true, if_false, ↓reduceIte, eq_self, Value.int.injEq, Value.long.injEq, exists_eq_left', ik_b1, ik_b0, ik_bz0, ik_bz3, ik_bz3_1, ik_bz3_0, ik_cmp, ik_cmpL, ik_eI, ik_eL, ik_as, c0, ea, eb, na, ah i hi, aw i a hi ha, d, h1, e1, e2, upd_at, upd_off, nI_1]
          exact nx this
        · have : liF m k i t = true := by simp [liF, c0, ea, eb, na, nI_nat (show a < 2 ^ 31 by omega), d]
          simp (decide := true) only [ik_i0, ik_i1, decide_eq_true_eq, decide_eq_false_iff_not, decide_true, decide_false, Bool.not_true, Bool.not_false, reduceCtorEq, forall_const, false_implies, true_implies, implies_true, true_and, and_true, and_self, false_and, and_false, Bool.and_true, Bool.true_and, not_true_eq_false, not_false_eq_true, if_true, if_false, ite_true, ite_false, ik_bz3_0, ik_bz3_1, ik_bz0, Nat.reduceAdd, Nat.zero_add, Bool.not_not, true_and, and_true, if_true, if_false, ↓reduceIte, eq_self, Value.int.injEq, Value.long.injEq, exists_eq_left', ik_b1, ik_b0, ik_bz0, ik_bz3, ik_bz3_1, ik_bz3_0, ik_cmp, ik_cmpL, ik_eI, ik_eL, ik_as, c0, ea, eb, na, ah i hi, aw i a hi ha, d, yes this, ik_b2, h1, e1, e2, upd_at, upd_off, nI_1]
      · have na := nI_m1 (t := a) (by omega)
        have nb := nI_m1 (t := b) (by omega)
        by_cases d : ik_cn (m.1 5) (m.1 4) a i < 0
        · by_cases d2 : ik_cn (m.1 5) (m.1 4) i b < 0
          · have : liF m k i t = false := by simp [liF, ea, eb, nI_nat (show a < 2 ^ 31 by omega), nI_nat (show b < 2 ^ 31 by omega), d, d2]
            simp (decide := true) only [ik_i0, ik_i1, decide_eq_true_eq, decide_eq_false_iff_not, decide_true, decide_false, Bool.not_true, Bool.not_false, reduceCtorEq, forall_const, false_implies, true_implies, implies_true, true_and, and_true, and_self, false_and, and_false, Bool.and_true, Bool.true_and, not_true_eq_false, not_false_eq_true, if_true, if_false, ite_true, ite_false, ik_bz3_0, ik_bz3_1, ik_bz0, Nat.reduceAdd, Nat.zero_add, Bool.not_not, true_and, and_true, if_true, if_false, ↓reduceIte, eq_self, Value.int.injEq, Value.long.injEq, exists_eq_left', ik_b1, ik_b0, ik_bz0, ik_bz3, ik_bz3_1, ik_bz3_0, ik_cmp, ik_cmpL, ik_eI, ik_eL, ik_as, c0, ea, eb, na, nb, ah i hi, aw i a hi ha, ah b hb, aw b i hb hi, d, d2, h1, e1, e2, upd_at, upd_off, nI_1]
            exact nx this
          · have : liF m k i t = true := by simp [liF, c0, ea, eb, nb, nI_nat (show a < 2 ^ 31 by omega), nI_nat (show b < 2 ^ 31 by omega), d2]
            simp (decide := true) only [ik_i0, ik_i1, decide_eq_true_eq, decide_eq_false_iff_not, decide_true, decide_false, Bool.not_true, Bool.not_false, reduceCtorEq, forall_const, false_implies, true_implies, implies_true, true_and, and_true, and_self, false_and, and_false, Bool.and_true, Bool.true_and, not_true_eq_false, not_false_eq_true, if_true, if_false, ite_true, ite_false, ik_bz3_0, ik_bz3_1, ik_bz0, Nat.reduceAdd, Nat.zero_add, Bool.not_not, true_and, and_true, if_true, if_false, ↓reduceIte, eq_self, Value.int.injEq, Value.long.injEq, exists_eq_left', ik_b1, ik_b0, ik_bz0, ik_bz3, ik_bz3_1, ik_bz3_0, ik_cmp, ik_cmpL, ik_eI, ik_eL, ik_as, c0, ea, eb, na, nb, ah i hi, aw i a hi ha, ah b hb, aw b i hb hi, d, d2, yes this, ik_b2, h1, e1, e2, upd_at, upd_off, nI_1]
            exact ⟨_, rfl⟩
        · have : liF m k i t = true := by simp [liF, c0, ea, eb, na, nI_nat (show a < 2 ^ 31 by omega), d]
          simp (decide := true) only [ik_i0, ik_i1, decide_eq_true_eq, decide_eq_false_iff_not, decide_true, decide_false, Bool.not_true, Bool.not_false, reduceCtorEq, forall_const, false_implies, true_implies, implies_true, true_and, and_true, and_self, false_and, and_false, Bool.and_true, Bool.true_and, not_true_eq_false, not_false_eq_true, if_true, if_false, ite_true, ite_false, ik_bz3_0, ik_bz3_1, ik_bz0, Nat.reduceAdd, Nat.zero_add, Bool.not_not, true_and, and_true, if_true, if_false, ↓reduceIte, eq_self, Value.int.injEq, Value.long.injEq, exists_eq_left', ik_b1, ik_b0, ik_bz0, ik_bz3, ik_bz3_1, ik_bz3_0, ik_cmp, ik_cmpL, ik_eI, ik_eL, ik_as, c0, ea, eb, na, nb, ah i hi, aw i a hi ha, d, yes this, ik_b2, h1, e1, e2, upd_at, upd_off, nI_1]
    · have : liF m k i t = false := by simp [liF, c0]
      simp (decide := true) only [ik_i0, ik_i1, decide_eq_true_eq, decide_eq_false_iff_not, decide_true, decide_false, Bool.not_true, Bool.not_false, reduceCtorEq, forall_const, false_implies, true_implies, implies_true, true_and, and_true, and_self, false_and, and_false, Bool.and_true, Bool.true_and, not_true_eq_false, not_false_eq_true, if_true, if_false, ite_true, ite_false, ik_bz3_0, ik_bz3_1, ik_bz0, Nat.reduceAdd, Nat.zero_add, Bool.not_not, true_and, and_true, if_true, if_false, ↓reduceIte, eq_self, Value.int.injEq, Value.long.injEq, exists_eq_left', ik_b1, ik_b0, ik_bz0, ik_bz3, ik_bz3_1, ik_bz3_0, ik_cmp, ik_cmpL, ik_eI, ik_eL, ik_as, c0, h1, e1, e2, upd_at, upd_off, nI_1]
      exact nx this
  · rintro ⟨s1, s2, s3⟩ ⟨h1, e1, e2, e3, hp⟩
    simp only at e3
    subst e3
    have : ik_any (liF m k i) n = false := ik_any_no hp
    simp (decide := true) only [wE_lit, wL_lit, wE_loc, wL_loc, wE_add, wE_sub, wE_mul, wE_and, wE_or, wE_xor, wE_shl, wE_shr, wE_ushr, wE_div, wE_rem, wE_neg, wE_i2b, wE_l2i, wL_i2l, wL_add, wL_mul, wE_fld, wL_fld, wE_arr, wL_arr, wC_cmp, wC_cmp0, wC_cmpL, wC_and, wC_or, wC_not, wC_ite, wL_ite, wA_nil, wA_int, wA_long, wE_call, wL_call, wS_skip, wS_seq, wS_set, wS_setL, wS_inc, wS_if, wS_put, wS_putL, wS_putOp, wS_putOpL, wS_ast, wS_astL, wS_aop, wS_aopL, wS_ret, wS_retL, wS_retV, wS_do, wS_pop, wS_dead, wS_sw, wF_body, Nat.reduceAdd, Nat.zero_add, Bool.not_not, true_and, and_true, if_true, if_false, ↓reduceIte, eq_self, Value.int.injEq, Value.long.injEq, exists_eq_left', ik_b1, ik_b0, ik_bz0, ik_bz3, ik_bz3_1, ik_bz3_0, ik_cmp, ik_cmpL, ik_eI, ik_eL, ik_as, ik_i0, ik_i1, decide_eq_true_eq, decide_eq_false_iff_not, decide_true, decide_false, Bool.not_true, Bool.not_false, reduceCtorEq, forall_const, false_implies, true_implies, implies_true, true_and, and_true, and_self, false_and, and_false, Bool.and_true, Bool.true_and, not_true_eq_false, not_false_eq_true, if_true, if_false, ite_true, ite_false, ik_bz3_0, ik_bz3_1, ik_bz0, this, ik_b2]
