/-- a row that counts narrows the least habits of its names -/
theorem w_lhit {g : GG} {B : Nat} {u : Nat → Nat} {nd : Int32} {s1 : Nat → Int32} {s2 : Nat → Int64} {R : Value → GG → Prop} (hB : B ≤ 4) (e3 : g.1 0 3 = nI B) (hu : ∀ k, k < B → u k < 24 ∧ g.1 20 k = nI (u k)) (h3 : s1 3 = nd) :
    wS (sSeq (sSet 5 (sLit 0)) (sWh (sCmp 2 (sLoc 5) (sFld 0 3)) (sSeq (sSeq (sSet 6 (sBin 0 (sBin 2 (sLit 24) (sLoc 5)) (sArr 20 4 (sLoc 5)))) (sAst 46 0 96 (sLoc 6) (sIte (sCmp 2 (sLoc 3) (sArr 46 96 (sLoc 6))) (sLoc 3) (sArr 46 96 (sLoc 6))))) (sInc 5 1)) ik_fuel)) (s1, s2, g)
      (fun σ => σ.2.2.2 = g.2 ∧ (∀ a, a ≠ 46 → σ.2.2.1 a = g.1 a) ∧ ∀ k i, k < B → i < 24 → σ.2.2.1 46 (24 * k + i) = if u k = i ∧ nd < g.1 46 (24 * k + i) then nd else g.1 46 (24 * k + i)) R := by
  simp (decide := true) only [wE_lit, wL_lit, wE_loc, wL_loc, wE_add, wE_sub, wE_mul, wE_and, wE_or, wE_xor, wE_shl, wE_shr, wE_ushr, wE_div, wE_rem, wE_neg, wE_i2b, wE_l2i, wL_i2l, wL_add, wL_mul, wE_fld, wL_fld, wE_arr, wL_arr, wC_cmp, wC_cmp0, wC_cmpL, wC_and, wC_or, wC_not, wC_ite, wL_ite, wA_nil, wA_int, wA_long, wE_call, wL_call, wS_skip, wS_seq, wS_set, wS_setL, wS_inc, wS_if, wS_put, wS_putL, wS_putOp, wS_putOpL, wS_ast, wS_astL, wS_aop, wS_aopL, wS_ret, wS_retL, wS_retV, wS_do, wS_pop, wS_dead, wS_sw, wF_body, Nat.reduceAdd, Nat.zero_add, Bool.not_not, true_and, and_true, if_true, if_false, ↓reduceIte, eq_self, Value.int.injEq, Value.long.injEq, exists_eq_left', ik_b1, ik_b0, ik_bz0, ik_bz3, ik_bz3_1, ik_bz3_0, ik_cmp, ik_cmpL, ik_eI, ik_eL, ik_as, ik_i0, ik_i1, decide_eq_true_eq, decide_eq_false_iff_not, decide_true, decide_false, Bool.not_true, Bool.not_false, reduceCtorEq, forall_const, false_implies, true_implies, implies_true, true_and, and_true, and_self, false_and, and_false, Bool.and_true, Bool.true_and, not_true_eq_false, not_false_eq_true, if_true, if_false, ite_true, ite_false, ik_bz3_0, ik_bz3_1, ik_bz0]
  refine wS_for _ _ (fun K σ => σ.1 5 = nI K ∧ σ.1 3 = nd ∧ σ.2.2.2 = g.2 ∧ (∀ a, a ≠ 46 → σ.2.2.1 a = g.1 a) ∧ ∀ k i, k < B → i < 24 → σ.2.2.1 46 (24 * k + i) = if k < K ∧ u k = i ∧ nd < g.1 46 (24 * k + i) then nd else g.1 46 (24 * k + i)) 0 B _ ⟨by simp [upd, nI_0], by simp [upd, h3], rfl, fun _ _ => rfl, fun k i _ _ => by rw [if_neg (fun z => Nat.not_lt_zero _ z.1)]⟩ (by omega) (by omega) ?_ ?_ ?_
  · rintro K ⟨t1, t2, t3⟩ a1 ⟨a2, -, -, a3, -⟩
    simp only at a2 a3
    exact wc_1 (by show t3.1 0 3 = _; rw [a3 0 (by decide)]; exact e3) (by omega) a1 a2
  · rintro K ⟨t1, t2, t3⟩ a1 ⟨a2, a3, a4, a5, a6⟩
    simp only at a2 a3 a4 a5 a6
    obtain ⟨u1, u2⟩ := hu K a1
    have u2' : t3.1 20 K = nI (u K) := by rw [a5 20 (by decide)]; exact u2
    have ix := ik_ix_nI (show 24 * K + u K < 96 by omega) (by omega)
    have e62 : (24 : Int32) * nI K + nI (u K) = nI (24 * K + u K) := by rw [show (24 : Int32) = nI 24 from rfl, pk_mul, nI_add]
    have old := a6 K (u K) a1 u1
    rw [if_neg (fun z => Nat.lt_irrefl _ z.1)] at old
    have fin : ∀ v : Int32, (v = if nd < g.1 46 (24 * K + u K) then nd else g.1 46 (24 * K + u K)) → (ik_si t3 46 (24 * K + u K) v).2 = g.2 ∧ (∀ a, a ≠ 46 → (ik_si t3 46 (24 * K + u K) v).1 a = g.1 a) ∧ ∀ k i, k < B → i < 24 → (ik_si t3 46 (24 * K + u K) v).1 46 (24 * k + i) = if k < K + 1 ∧ u k = i ∧ nd < g.1 46 (24 * k + i) then nd else g.1 46 (24 * k + i) := by
      intro v hv
      refine ⟨a4, fun a ha => by rw [ik_si_row _ _ _ _ _ ha]; exact a5 a ha, fun k i hk hi => ?_⟩
      by_cases e : 24 * k + i = 24 * K + u K
      · have ek : k = K := by omega
        subst ek
        have ei : i = u k := by omega
        subst ei
        rw [ik_si_same, hv]
        by_cases d : nd < g.1 46 (24 * k + u k)
        · rw [if_pos d, if_pos ⟨Nat.lt_succ_self _, rfl, d⟩]
        · rw [if_neg d, if_neg (fun z => d z.2.2)]
      · rw [ik_si_ne _ _ _ _ _ e, a6 k i hk hi]
        by_cases d : k < K ∧ u k = i ∧ nd < g.1 46 (24 * k + i)
        · rw [if_pos d, if_pos ⟨by omega, d.2⟩]
        · rw [if_neg d, if_neg (fun z => by
            by_cases ek : k = K
            · subst ek; exact e (by rw [z.2.1])
            · exact d ⟨by omega, z.2⟩)]
    by_cases d : nd < g.1 46 (24 * K + u K)
    · have f := fin nd (if_pos d).symm
      simp (decide := true) only [wE_lit, wL_lit, wE_loc, wL_loc, wE_add, wE_sub, wE_mul, wE_and, wE_or, wE_xor, wE_shl, wE_shr, wE_ushr, wE_div, wE_rem, wE_neg, wE_i2b, wE_l2i, wL_i2l, wL_add, wL_mul, wE_fld, wL_fld, wE_arr, wL_arr, wC_cmp, wC_cmp0, wC_cmpL, wC_and, wC_or, wC_not, wC_ite, wL_ite, wA_nil, wA_int, wA_long, wE_call, wL_call, wS_skip, wS_seq, wS_set, wS_setL, wS_inc, wS_if, wS_put, wS_putL, wS_putOp, wS_putOpL, wS_ast, wS_astL, wS_aop, wS_aopL, wS_ret, wS_retL, wS_retV, wS_do, wS_pop, wS_dead, wS_sw, wF_body, Nat.reduceAdd, Nat.zero_add, Bool.not_not, true_and, and_true, if_true, if_false, ↓reduceIte, eq_self, Value.int.injEq, Value.long.injEq, exists_eq_left', ik_b1, ik_b0, ik_bz0, ik_bz3, ik_bz3_1, ik_bz3_0, ik_cmp, ik_cmpL, ik_eI, ik_eL, ik_as, ik_i0, ik_i1, decide_eq_true_eq, decide_eq_false_iff_not, decide_true, decide_false, Bool.not_true, Bool.not_false, reduceCtorEq, forall_const, false_implies, true_implies, implies_true, true_and, and_true, and_self, false_and, and_false, Bool.and_true, Bool.true_and, not_true_eq_false, not_false_eq_true, if_true, if_false, ite_true, ite_false, ik_bz3_0, ik_bz3_1, ik_bz0, wE_ite, a2, a3, ik_ix_nI (show K < 4 by omega) (by omega), Option.some.injEq, u2', e62, ix, old, d, upd_at, upd_off, nI_1, nI_add]
      exact f
    · have f := fin _ (if_neg d).symm
      simp (decide := true) only [wE_lit, wL_lit, wE_loc, wL_loc, wE_add, wE_sub, wE_mul, wE_and, wE_or, wE_xor, wE_shl, wE_shr, wE_ushr, wE_div, wE_rem, wE_neg, wE_i2b, wE_l2i, wL_i2l, wL_add, wL_mul, wE_fld, wL_fld, wE_arr, wL_arr, wC_cmp, wC_cmp0, wC_cmpL, wC_and, wC_or, wC_not, wC_ite, wL_ite, wA_nil, wA_int, wA_long, wE_call, wL_call, wS_skip, wS_seq, wS_set, wS_setL, wS_inc, wS_if, wS_put, wS_putL, wS_putOp, wS_putOpL, wS_ast, wS_astL, wS_aop, wS_aopL, wS_ret, wS_retL, wS_retV, wS_do, wS_pop, wS_dead, wS_sw, wF_body, Nat.reduceAdd, Nat.zero_add, Bool.not_not, true_and, and_true, if_true, if_false, ↓reduceIte, eq_self, Value.int.injEq, Value.long.injEq, exists_eq_left', ik_b1, ik_b0, ik_bz0, ik_bz3, ik_bz3_1, ik_bz3_0, ik_cmp, ik_cmpL, ik_eI, ik_eL, ik_as, ik_i0, ik_i1, decide_eq_true_eq, decide_eq_false_iff_not, decide_true, decide_false, Bool.not_true, Bool.not_false, reduceCtorEq, forall_const, false_implies, true_implies, implies_true, true_and, and_true, and_self, false_and, and_false, Bool.and_true, Bool.true_and, not_true_eq_false, not_false_eq_true, if_true, if_false, ite_true, ite_false, ik_bz3_0, ik_bz3_1, ik_bz0, wE_ite, a2, a3, ik_ix_nI (show K < 4 by omega) (by omega), Option.some.injEq, u2', e62, ix, old, d, upd_at, upd_off, nI_1, nI_add]
      exact f
  · rintro ⟨t1, t2, t3⟩ ⟨a2, a3, a4, a5, a6⟩
    simp only at a4 a5 a6
    refine ⟨a4, a5, fun k i hk hi => ?_⟩
    show t3.1 46 _ = _
    rw [a6 k i hk hi]
    by_cases d : u k = i ∧ nd < g.1 46 (24 * k + i)
    · rw [if_pos ⟨hk, d⟩, if_pos d]
    · rw [if_neg (fun z => d z.2), if_neg d]
/-- the slacks of a row -/
theorem w_slacks {x m g : GG} {N B : Nat} {u : Nat → Nat} {tb : Bool} {s1 : Nat → Int32} {s2 : Nat → Int64} {Z : SS → Prop} {R : Value → GG → Prop} (hN : rN x m N) (hm : eqM m g) (hB : B ≤ 4) (e3 : m.1 0 3 = nI B) (hu : ∀ k, k < B → u k < N ∧ g.1 20 k = nI (u k)) (h3 : s1 3 = 0) (h4 : s1 4 = ik_b2 tb)
    (hz : ∀ (t1 : Nat → Int32), t1 3 = ndI (slk m u) B → t1 4 = ik_b2 (tb && !ik_any (fun j => decide (slk m u j < 0)) B) → Z (t1, s2, g)) :
    wS (sSeq (sSet 5 (sLit 0)) (sWh (sCmp 2 (sLoc 5) (sFld 0 3)) (sSeq (sSeq (sSet 6 (sBin 1 (sArr 10 4 (sLoc 5)) (sCall fX12_wideOf (sArgI (sArr 20 4 (sLoc 5)) sNil)))) (sSeq (sSet 4 (sIte (sAnd (sCmp0 1 (sLoc 4)) (sCmp0 3 (sLoc 6))) (sLit 1) (sLit 0))) (sSet 3 (sIte (sCmp 4 (sLoc 6) (sLoc 3)) (sLoc 6) (sLoc 3))))) (sInc 5 1)) ik_fuel)) (s1, s2, g) Z R := by
  have hN24 := hN.1
  simp (decide := true) only [wE_lit, wL_lit, wE_loc, wL_loc, wE_add, wE_sub, wE_mul, wE_and, wE_or, wE_xor, wE_shl, wE_shr, wE_ushr, wE_div, wE_rem, wE_neg, wE_i2b, wE_l2i, wL_i2l, wL_add, wL_mul, wE_fld, wL_fld, wE_arr, wL_arr, wC_cmp, wC_cmp0, wC_cmpL, wC_and, wC_or, wC_not, wC_ite, wL_ite, wA_nil, wA_int, wA_long, wE_call, wL_call, wS_skip, wS_seq, wS_set, wS_setL, wS_inc, wS_if, wS_put, wS_putL, wS_putOp, wS_putOpL, wS_ast, wS_astL, wS_aop, wS_aopL, wS_ret, wS_retL, wS_retV, wS_do, wS_pop, wS_dead, wS_sw, wF_body, Nat.reduceAdd, Nat.zero_add, Bool.not_not, true_and, and_true, if_true, if_false, ↓reduceIte, eq_self, Value.int.injEq, Value.long.injEq, exists_eq_left', ik_b1, ik_b0, ik_bz0, ik_bz3, ik_bz3_1, ik_bz3_0, ik_cmp, ik_cmpL, ik_eI, ik_eL, ik_as, ik_i0, ik_i1, decide_eq_true_eq, decide_eq_false_iff_not, decide_true, decide_false, Bool.not_true, Bool.not_false, reduceCtorEq, forall_const, false_implies, true_implies, implies_true, true_and, and_true, and_self, false_and, and_false, Bool.and_true, Bool.true_and, not_true_eq_false, not_false_eq_true, if_true, if_false, ite_true, ite_false, ik_bz3_0, ik_bz3_1, ik_bz0]
  refine wS_for _ _ (fun k σ => σ.1 5 = nI k ∧ σ.1 3 = ndI (slk m u) k ∧ σ.1 4 = ik_b2 (tb && !ik_any (fun j => decide (slk m u j < 0)) k) ∧ σ.2.1 = s2 ∧ σ.2.2 = g) 0 B _ ⟨by simp [upd, nI_0], by simp [upd, h3, ndI], by simp [upd, h4, ik_any], rfl, rfl⟩ (by omega) (by omega) ?_ ?_ ?_
  · rintro k ⟨t1, t2, t3⟩ a1 ⟨a2, -, -, -, a3⟩
    simp only at a2 a3
    subst a3
    exact wc_1 (by show t3.1 0 3 = _; rw [hm.2 3 (by decide)]; exact e3) (by omega) a1 a2
  · rintro k ⟨t1, t2, t3⟩ a1 ⟨a2, a3, a4, a5, a6⟩
    simp only at a2 a3 a4 a5 a6
    subst a5 a6
    obtain ⟨u1, u2⟩ := hu k a1
    have wd : ∀ Q : Value → GG → Prop, wF fX12_wideOf [.int (nI (u k))] t3 Q ↔ Q (.int (ik_nw m (u k))) t3 := fun Q => by
      have := w_wideOfM (hN.eqM hm) u1 Q
      rw [ik_nw_eq hm] at this
      exact this
    have ix := ik_ix_nI (show k < 4 by omega) (by omega)
    have i10 : t3.1 10 k = m.1 10 k := by rw [hm.1 10 (by omega)]
    have es : m.1 10 k - ik_nw m (u k) = slk m u k := rfl
    have sn : ik_any (fun j => decide (slk m u j < 0)) (k + 1) = (ik_any (fun j => decide (slk m u j < 0)) k || decide (slk m u k < 0)) := rfl
    have nn : ndI (slk m u) (k + 1) = if ndI (slk m u) k < slk m u k then slk m u k else ndI (slk m u) k := rfl
    have gt : (slk m u k > ndI (slk m u) k) = (ndI (slk m u) k < slk m u k) := rfl
    rw [sn, nn]
    generalize hob : (tb && !ik_any (fun j => decide (slk m u j < 0)) k) = ob at a4
    have ob2 : (tb && !(ik_any (fun j => decide (slk m u j < 0)) k || decide (slk m u k < 0))) = (ob && !decide (slk m u k < 0)) := by
      rw [← hob, Bool.not_or, Bool.and_assoc]
    rw [ob2]
    have ge : (slk m u k ≥ 0) ↔ ¬ slk m u k < 0 := by
      rw [Int32.not_lt]
    by_cases c : ndI (slk m u) k < slk m u k
    · rw [if_pos c]
      have cT : (slk m u k > ndI (slk m u) k) = True := eq_true c
      cases ob with
      | false =>
        have a4' : t1 4 = 0 := a4
        simp (decide := true) only [wE_lit, wL_lit, wE_loc, wL_loc, wE_add, wE_sub, wE_mul, wE_and, wE_or, wE_xor, wE_shl, wE_shr, wE_ushr, wE_div, wE_rem, wE_neg, wE_i2b, wE_l2i, wL_i2l, wL_add, wL_mul, wE_fld, wL_fld, wE_arr, wL_arr, wC_cmp, wC_cmp0, wC_cmpL, wC_and, wC_or, wC_not, wC_ite, wL_ite, wA_nil, wA_int, wA_long, wE_call, wL_call, wS_skip, wS_seq, wS_set, wS_setL, wS_inc, wS_if, wS_put, wS_putL, wS_putOp, wS_putOpL, wS_ast, wS_astL, wS_aop, wS_aopL, wS_ret, wS_retL, wS_retV, wS_do, wS_pop, wS_dead, wS_sw, wF_body, Nat.reduceAdd, Nat.zero_add, Bool.not_not, true_and, and_true, if_true, if_false, ↓reduceIte, eq_self, Value.int.injEq, Value.long.injEq, exists_eq_left', ik_b1, ik_b0, ik_bz0, ik_bz3, ik_bz3_1, ik_bz3_0, ik_cmp, ik_cmpL, ik_eI, ik_eL, ik_as, ik_i0, ik_i1, decide_eq_true_eq, decide_eq_false_iff_not, decide_true, decide_false, Bool.not_true, Bool.not_false, reduceCtorEq, forall_const, false_implies, true_implies, implies_true, true_and, and_true, and_self, false_and, and_false, Bool.and_true, Bool.true_and, not_true_eq_false, not_false_eq_true, if_true, if_false, ite_true, ite_false, ik_bz3_0, ik_bz3_1, ik_bz0, wE_ite, a2, a3, a4', ix, Option.some.injEq, i10, u2, wd, es, cT, upd_at, upd_off, nI_1, nI_add, Bool.false_and, show ik_b2 false = 0 from rfl]
      | true =>
        have a4' : t1 4 = 1 := a4
        by_cases d : slk m u k < 0
        · have dF := eq_false (fun z => (ge.mp z) d)
          simp (decide := true) only [wE_lit, wL_lit, wE_loc, wL_loc, wE_add, wE_sub, wE_mul, wE_and, wE_or, wE_xor, wE_shl, wE_shr, wE_ushr, wE_div, wE_rem, wE_neg, wE_i2b, wE_l2i, wL_i2l, wL_add, wL_mul, wE_fld, wL_fld, wE_arr, wL_arr, wC_cmp, wC_cmp0, wC_cmpL, wC_and, wC_or, wC_not, wC_ite, wL_ite, wA_nil, wA_int, wA_long, wE_call, wL_call, wS_skip, wS_seq, wS_set, wS_setL, wS_inc, wS_if, wS_put, wS_putL, wS_putOp, wS_putOpL, wS_ast, wS_astL, wS_aop, wS_aopL, wS_ret, wS_retL, wS_retV, wS_do, wS_pop, wS_dead, wS_sw, wF_body, Nat.reduceAdd, Nat.zero_add, Bool.not_not, true_and, and_true, if_true, if_false, ↓reduceIte, eq_self, Value.int.injEq, Value.long.injEq, exists_eq_left', ik_b1, ik_b0, ik_bz0, ik_bz3, ik_bz3_1, ik_bz3_0, ik_cmp, ik_cmpL, ik_eI, ik_eL, ik_as, ik_i0, ik_i1, decide_eq_true_eq, decide_eq_false_iff_not, decide_true, decide_false, Bool.not_true, Bool.not_false, reduceCtorEq, forall_const, false_implies, true_implies, implies_true, true_and, and_true, and_self, false_and, and_false, Bool.and_true, Bool.true_and, not_true_eq_false, not_false_eq_true, if_true, if_false, ite_true, ite_false, ik_bz3_0, ik_bz3_1, ik_bz0, wE_ite, a2, a3, a4', ix, Option.some.injEq, i10, u2, wd, es, cT, d, dF, upd_at, upd_off, nI_1, nI_add, show ik_b2 false = 0 from rfl]
        · have dT := eq_true (ge.mpr d)
          simp (decide := true) only [wE_lit, wL_lit, wE_loc, wL_loc, wE_add, wE_sub, wE_mul, wE_and, wE_or, wE_xor, wE_shl, wE_shr, wE_ushr, wE_div, wE_rem, wE_neg, wE_i2b, wE_l2i, wL_i2l, wL_add, wL_mul, wE_fld, wL_fld, wE_arr, wL_arr, wC_cmp, wC_cmp0, wC_cmpL, wC_and, wC_or, wC_not, wC_ite, wL_ite, wA_nil, wA_int, wA_long, wE_call, wL_call, wS_skip, wS_seq, wS_set, wS_setL, wS_inc, wS_if, wS_put, wS_putL, wS_putOp, wS_putOpL, wS_ast, wS_astL, wS_aop, wS_aopL, wS_ret, wS_retL, wS_retV, wS_do, wS_pop, wS_dead, wS_sw, wF_body, Nat.reduceAdd, Nat.zero_add, Bool.not_not, true_and, and_true, if_true, if_false, ↓reduceIte, eq_self, Value.int.injEq, Value.long.injEq, exists_eq_left', ik_b1, ik_b0, ik_bz0, ik_bz3, ik_bz3_1, ik_bz3_0, ik_cmp, ik_cmpL, ik_eI, ik_eL, ik_as, ik_i0, ik_i1, decide_eq_true_eq, decide_eq_false_iff_not, decide_true, decide_false, Bool.not_true, Bool.not_false, reduceCtorEq, forall_const, false_implies, true_implies, implies_true, true_and, and_true, and_self, false_and, and_false, Bool.and_true, Bool.true_and, not_true_eq_false, not_false_eq_true, if_true, if_false, ite_true, ite_false, ik_bz3_0, ik_bz3_1, ik_bz0, wE_ite, a2, a3, a4', ix, Option.some.injEq, i10, u2, wd, es, cT, d, dT, upd_at, upd_off, nI_1, nI_add, show ik_b2 true = 1 from rfl]
    · rw [if_neg c]
      have cF : (slk m u k > ndI (slk m u) k) = False := eq_false c
      cases ob with
      | false =>
        have a4' : t1 4 = 0 := a4
        simp (decide := true) only [wE_lit, wL_lit, wE_loc, wL_loc, wE_add, wE_sub, wE_mul, wE_and, wE_or, wE_xor, wE_shl, wE_shr, wE_ushr, wE_div, wE_rem, wE_neg, wE_i2b, wE_l2i, wL_i2l, wL_add, wL_mul, wE_fld, wL_fld, wE_arr, wL_arr, wC_cmp, wC_cmp0, wC_cmpL, wC_and, wC_or, wC_not, wC_ite, wL_ite, wA_nil, wA_int, wA_long, wE_call, wL_call, wS_skip, wS_seq, wS_set, wS_setL, wS_inc, wS_if, wS_put, wS_putL, wS_putOp, wS_putOpL, wS_ast, wS_astL, wS_aop, wS_aopL, wS_ret, wS_retL, wS_retV, wS_do, wS_pop, wS_dead, wS_sw, wF_body, Nat.reduceAdd, Nat.zero_add, Bool.not_not, true_and, and_true, if_true, if_false, ↓reduceIte, eq_self, Value.int.injEq, Value.long.injEq, exists_eq_left', ik_b1, ik_b0, ik_bz0, ik_bz3, ik_bz3_1, ik_bz3_0, ik_cmp, ik_cmpL, ik_eI, ik_eL, ik_as, ik_i0, ik_i1, decide_eq_true_eq, decide_eq_false_iff_not, decide_true, decide_false, Bool.not_true, Bool.not_false, reduceCtorEq, forall_const, false_implies, true_implies, implies_true, true_and, and_true, and_self, false_and, and_false, Bool.and_true, Bool.true_and, not_true_eq_false, not_false_eq_true, if_true, if_false, ite_true, ite_false, ik_bz3_0, ik_bz3_1, ik_bz0, wE_ite, a2, a3, a4', ix, Option.some.injEq, i10, u2, wd, es, cF, upd_at, upd_off, nI_1, nI_add, Bool.false_and, show ik_b2 false = 0 from rfl]
      | true =>
        have a4' : t1 4 = 1 := a4
        by_cases d : slk m u k < 0
        · have dF := eq_false (fun z => (ge.mp z) d)
          simp (decide := true) only [wE_lit, wL_lit, wE_loc, wL_loc, wE_add, wE_sub, wE_mul, wE_and, wE_or, wE_xor, wE_shl, wE_shr, wE_ushr, wE_div, wE_rem, wE_neg, wE_i2b, wE_l2i, wL_i2l, wL_add, wL_mul, wE_fld, wL_fld, wE_arr, wL_arr, wC_cmp, wC_cmp0, wC_cmpL, wC_and, wC_or, wC_not, wC_ite, wL_ite, wA_nil, wA_int, wA_long, wE_call, wL_call, wS_skip, wS_seq, wS_set, wS_setL, wS_inc, wS_if, wS_put, wS_putL, wS_putOp, wS_putOpL, wS_ast, wS_astL, wS_aop, wS_aopL, wS_ret, wS_retL, wS_retV, wS_do, wS_pop, wS_dead, wS_sw, wF_body, Nat.reduceAdd, Nat.zero_add, Bool.not_not, true_and, and_true, if_true, if_false, ↓reduceIte, eq_self, Value.int.injEq, Value.long.injEq, exists_eq_left', ik_b1, ik_b0, ik_bz0, ik_bz3, ik_bz3_1, ik_bz3_0, ik_cmp, ik_cmpL, ik_eI, ik_eL, ik_as, ik_i0, ik_i1, decide_eq_true_eq, decide_eq_false_iff_not, decide_true, decide_false, Bool.not_true, Bool.not_false, reduceCtorEq, forall_const, false_implies, true_implies, implies_true, true_and, and_true, and_self, false_and, and_false, Bool.and_true, Bool.true_and, not_true_eq_false, not_false_eq_true, if_true, if_false, ite_true, ite_false, ik_bz3_0, ik_bz3_1, ik_bz0, wE_ite, a2, a3, a4', ix, Option.some.injEq, i10, u2, wd, es, cF, d, dF, upd_at, upd_off, nI_1, nI_add, show ik_b2 false = 0 from rfl]
        · have dT := eq_true (ge.mpr d)
          simp (decide := true) only [wE_lit, wL_lit, wE_loc, wL_loc, wE_add, wE_sub, wE_mul, wE_and, wE_or, wE_xor, wE_shl, wE_shr, wE_ushr, wE_div, wE_rem, wE_neg, wE_i2b, wE_l2i, wL_i2l, wL_add, wL_mul, wE_fld, wL_fld, wE_arr, wL_arr, wC_cmp, wC_cmp0, wC_cmpL, wC_and, wC_or, wC_not, wC_ite, wL_ite, wA_nil, wA_int, wA_long, wE_call, wL_call, wS_skip, wS_seq, wS_set, wS_setL, wS_inc, wS_if, wS_put, wS_putL, wS_putOp, wS_putOpL, wS_ast, wS_astL, wS_aop, wS_aopL, wS_ret, wS_retL, wS_retV, wS_do, wS_pop, wS_dead, wS_sw, wF_body, Nat.reduceAdd, Nat.zero_add, Bool.not_not, true_and, and_true, if_true, if_false, ↓reduceIte, eq_self, Value.int.injEq, Value.long.injEq, exists_eq_left', ik_b1, ik_b0, ik_bz0, ik_bz3, ik_bz3_1, ik_bz3_0, ik_cmp, ik_cmpL, ik_eI, ik_eL, ik_as, ik_i0, ik_i1, decide_eq_true_eq, decide_eq_false_iff_not, decide_true, decide_false, Bool.not_true, Bool.not_false, reduceCtorEq, forall_const, false_implies, true_implies, implies_true, true_and, and_true, and_self, false_and, and_false, Bool.and_true, Bool.true_and, not_true_eq_false, not_false_eq_true, if_true, if_false, ite_true, ite_false, ik_bz3_0, ik_bz3_1, ik_bz0, wE_ite, a2, a3, a4', ix, Option.some.injEq, i10, u2, wd, es, cF, d, dT, upd_at, upd_off, nI_1, nI_add, show ik_b2 true = 1 from rfl]
  · rintro ⟨t1, t2, t3⟩ ⟨a2, a3, a4, a5, a6⟩
    simp only at a3 a4 a5 a6
    subst a5 a6
    exact hz t1 a3 a4
