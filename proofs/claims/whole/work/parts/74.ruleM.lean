/-- all clauses: the whole call -/
theorem w_rulesM {c : Nat → Nat} {N T : Nat} {m : GG} (hN1 : 1 ≤ N) (hN : N ≤ 160) (hz : ∀ k, N ≤ k → c k = 0) (hT : T ≤ 400) (hNT : N ≤ T) (h1 : m.1 0 1 = nI T) (hb : ∀ k, k < N → c k < 256 ∧ m.1 1 k = ik_by (c k)) :
    wF fX12_rules [.int (nI N)] m (fun v g => (∀ a, a ≠ 0 → (a < 22 ∨ 32 < a) → g.1 a = m.1 a) ∧ (∀ j, j ≠ 1 → j ≠ 5 → (j < 30 ∨ 51 < j) → g.1 0 j = m.1 0 j) ∧ g.2 = m.2 ∧ g.1 0 1 = 0 ∧ match sp_all c N 13 0 [] with
      | .inl (e, q) => v = .int (-(nI (1000 * e + q))) ∧ (∀ a, a ≠ 0 → a < 27 → g.1 a = m.1 a) ∧ g.1 0 5 = m.1 0 5 ∧ (1 ≤ e ∧ e ≤ 5) ∧ q ≤ 160
      | .inr L => v = .int (nI L.length) ∧ L.length ≤ 12 ∧ g.1 0 5 = nI L.length ∧ (∀ q b ds, L[q]? = some (b, ds) → g.1 22 q = nI b ∧ g.1 23 q = nI (cls (L.take q)).length ∧ g.1 24 q = nI (cls (L.take (q + 1))).length) ∧ ∀ k o, (cls L)[k]? = some o → g.1 25 k = nI o.1 ∧ g.1 26 k = nI o.2) := by
  have q2 : 1 ≤ nI N ∧ nI N ≤ 160 := ⟨nI_le (a := 1) hN1 (by omega), nI_le (b := 160) hN (by omega)⟩
  have q3 : ¬ nI T < nI N := nI_nlt hNT (by omega)
  obtain ⟨g0, hg0⟩ : ∃ g0, g0 = ik_si (ik_si (ik_si (ik_si (ik_si (ik_si m 0 1 0) 0 30 0) 0 31 (nI N)) 0 32 0) 0 46 0) 0 47 0 := ⟨_, rfl⟩
  have g031 : g0.1 0 31 = nI N := by rw [hg0]; simp (decide := true) only [ik_si_ne, ik_si_same]
  have g0a : ∀ a, a ≠ 0 → g0.1 a = m.1 a := fun a h => by rw [hg0, ik_si_row _ _ _ _ _ h, ik_si_row _ _ _ _ _ h, ik_si_row _ _ _ _ _ h, ik_si_row _ _ _ _ _ h, ik_si_row _ _ _ _ _ h, ik_si_row _ _ _ _ _ h]
  have g00 : ∀ j, j ≠ 1 → j ≠ 30 → j ≠ 31 → j ≠ 32 → j ≠ 46 → j ≠ 47 → g0.1 0 j = m.1 0 j := fun j a b c d e f => by rw [hg0, ik_si_ne _ _ _ _ _ f, ik_si_ne _ _ _ _ _ e, ik_si_ne _ _ _ _ _ d, ik_si_ne _ _ _ _ _ c, ik_si_ne _ _ _ _ _ b, ik_si_ne _ _ _ _ _ a]
  have g02 : g0.2 = m.2 := by rw [hg0]; rfl
  have g01 : g0.1 0 1 = 0 := by rw [hg0]; simp (decide := true) only [ik_si_ne, ik_si_same]
  have tx : txM c N g0 := ⟨g031, hN, hz, fun k hk => ⟨(hb k hk).1, by rw [g0a 1 (by decide)]; exact (hb k hk).2⟩⟩
  have cl0 : clK g0 g0 0 [] := by
    refine ⟨⟨fun _ _ _ => rfl, fun _ _ _ _ => rfl, rfl⟩, ?_, ?_, ?_, ?_, ?_, ?_, Nat.le_refl _⟩
    · rw [hg0]; simp (decide := true) only [ik_si_ne, ik_si_same]
    · rw [hg0]; simp (decide := true) only [ik_si_ne, ik_si_same]
    · rw [hg0]; simp (decide := true) only [ik_si_ne, ik_si_same]
    · rw [hg0]; simp (decide := true) only [ik_si_same]
    · intro k o hk; cases hk
    · intro k b ds hk; cases hk
  -- the frames of the end
  have frA : ∀ (g : GG), frK g0 g → (∀ a, a ≠ 0 → (a < 22 ∨ 32 < a) → g.1 a = m.1 a) ∧ (∀ j, j ≠ 1 → j ≠ 5 → (j < 30 ∨ 51 < j) → g.1 0 j = m.1 0 j) ∧ g.2 = m.2 ∧ g.1 0 1 = 0 := by
    intro g hf
    refine ⟨fun a a0 h => ?_, fun j j1 j2 j3 => ?_, hf.2.2.trans g02, ?_⟩
    · rw [hf.1 a a0 (by omega), g0a a a0]
    · rw [hf.2.1 j (by omega) (by omega) (by omega), g00 j j1 (by omega) (by omega) (by omega) (by omega) (by omega)]
    · rw [hf.2.1 1 (by decide) (by decide) (by omega)]; exact g01
  obtain ⟨R0, hR0⟩ : ∃ R0, R0 = sp_all c N 13 0 [] := ⟨_, rfl⟩
  rw [← hR0]
  unfold fX12_rules
  simp (decide := true) only [wE_lit, wL_lit, wE_loc, wL_loc, wE_add, wE_sub, wE_mul, wE_and, wE_or, wE_xor, wE_shl, wE_shr, wE_ushr, wE_div, wE_rem, wE_neg, wE_i2b, wE_l2i, wL_i2l, wL_add, wL_mul, wE_fld, wL_fld, wE_arr, wL_arr, wC_cmp, wC_cmp0, wC_cmpL, wC_and, wC_or, wC_not, wC_ite, wL_ite, wA_nil, wA_int, wA_long, wE_call, wL_call, wS_skip, wS_seq, wS_set, wS_setL, wS_inc, wS_if, wS_put, wS_putL, wS_putOp, wS_putOpL, wS_ast, wS_astL, wS_aop, wS_aopL, wS_ret, wS_retL, wS_retV, wS_do, wS_pop, wS_dead, wS_sw, wF_body, Nat.reduceAdd, Nat.zero_add, Bool.not_not, true_and, and_true, if_true, if_false, ↓reduceIte, eq_self, Value.int.injEq, Value.long.injEq, exists_eq_left', ik_b1, ik_b0, ik_bz0, ik_bz3, ik_bz3_1, ik_bz3_0, ik_cmp, ik_cmpL, ik_eI, ik_eL, ik_as, ik_i0, ik_i1, decide_eq_true_eq, decide_eq_false_iff_not, decide_true, decide_false, Bool.not_true, Bool.not_false, reduceCtorEq, forall_const, false_implies, true_implies, implies_true, true_and, and_true, and_self, false_and, and_false, Bool.and_true, Bool.true_and, not_true_eq_false, not_false_eq_true, if_true, if_false, ite_true, ite_false, ik_bz3_0, ik_bz3_1, ik_bz0, i64_n20, i64_n1, l64_0, l64_1, l64_2, l64_3, l64_7, l64_12, l64_19, l64_20, l64_23, l64_24, l64_26, l64_29, l64_40, l64_50, l64_60, l64_63, l64_100, l64_160, l64_199, l64_255, l64_1000, l64_3000, l64_5000, l64_9999, l64_m1, l64_m20, w_lies, q2, h1, q3, upd_at, upd_off, ← hg0]
  refine wS_wh _ _ (fun f σ => (∃ e q, R0 = .inl (e, q) ∧ flK g0 σ.2.2 e q) ∨ (σ.1 2 = 0 ∧ ∃ p L, R0 = .inr L ∧ clK g0 σ.2.2 p L ∧ L.length ≤ 12 ∧ p ≤ N) ∨
    (σ.1 2 = 1 ∧ ∃ p L, sp_all c N f p L = R0 ∧ clK g0 σ.2.2 p L ∧ f + L.length = 13 ∧ L.length ≤ 12 ∧ p ≤ N)) ?_ ik_fuel 13 _ (by unfold ik_fuel; omega) (Or.inr (Or.inr ⟨by simp [upd], 0, [], hR0.symm, cl0, rfl, by decide, by omega⟩))
  rintro f ⟨u1, u2, g⟩ (⟨e, q, a1, a2⟩ | ⟨b0, p, L, a1, a2, a3, a4⟩ | ⟨b0, p, L, a1, a2, a3, a4, a5⟩)
  · -- a fault
    simp only at a2
    have neg := nI_negne (k := 1000 * e + q) (by have := a2.2.2.1; omega) (by have := a2.2.2.1; have := a2.2.2.2; omega)
    have gd : ∀ Q : Value → GG → Prop, wF fX12_isGood [] g Q ↔ Q (.int 0) g := fun Q => by rw [w_good, a2.2.1, if_neg neg.1]
    have fin : (∀ a, a ≠ 0 → (a < 22 ∨ 32 < a) → g.1 a = m.1 a) ∧ (∀ j, j ≠ 1 → j ≠ 5 → (j < 30 ∨ 51 < j) → g.1 0 j = m.1 0 j) ∧ g.2 = m.2 ∧ g.1 0 1 = 0 ∧ ((∀ a, a ≠ 0 → a < 27 → g.1 a = m.1 a) ∧ g.1 0 5 = m.1 0 5 ∧ (1 ≤ e ∧ e ≤ 5) ∧ q ≤ 160) := by
      obtain ⟨f1, f2, f3, f4⟩ := frA g a2.1
      refine ⟨f1, f2, f3, f4, fun a h0 h => ?_, ?_, a2.2.2.1, a2.2.2.2⟩
      · rw [a2.1.1 a h0 (by omega), g0a a h0]
      · rw [a2.1.2.1 5 (by decide) (by decide) (by omega), g00 5 (by decide) (by decide) (by decide) (by decide) (by decide) (by decide)]
    rw [a1]
    simp (decide := true) only [wE_lit, wL_lit, wE_loc, wL_loc, wE_add, wE_sub, wE_mul, wE_and, wE_or, wE_xor, wE_shl, wE_shr, wE_ushr, wE_div, wE_rem, wE_neg, wE_i2b, wE_l2i, wL_i2l, wL_add, wL_mul, wE_fld, wL_fld, wE_arr, wL_arr, wC_cmp, wC_cmp0, wC_cmpL, wC_and, wC_or, wC_not, wC_ite, wL_ite, wA_nil, wA_int, wA_long, wE_call, wL_call, wS_skip, wS_seq, wS_set, wS_setL, wS_inc, wS_if, wS_put, wS_putL, wS_putOp, wS_putOpL, wS_ast, wS_astL, wS_aop, wS_aopL, wS_ret, wS_retL, wS_retV, wS_do, wS_pop, wS_dead, wS_sw, wF_body, Nat.reduceAdd, Nat.zero_add, Bool.not_not, true_and, and_true, if_true, if_false, ↓reduceIte, eq_self, Value.int.injEq, Value.long.injEq, exists_eq_left', ik_b1, ik_b0, ik_bz0, ik_bz3, ik_bz3_1, ik_bz3_0, ik_cmp, ik_cmpL, ik_eI, ik_eL, ik_as, ik_i0, ik_i1, decide_eq_true_eq, decide_eq_false_iff_not, decide_true, decide_false, Bool.not_true, Bool.not_false, reduceCtorEq, forall_const, false_implies, true_implies, implies_true, true_and, and_true, and_self, false_and, and_false, Bool.and_true, Bool.true_and, not_true_eq_false, not_false_eq_true, if_true, if_false, ite_true, ite_false, ik_bz3_0, ik_bz3_1, ik_bz0, gd, a2.2.1, neg.2]
    exact ⟨fun _ => fin, fun _ => fin⟩
  · -- all read: it is kept
    simp only at b0 a2
    obtain ⟨hf, h30, h32, h46, h47, hcd, hrw, hlen⟩ := a2
    have hl160 : (cls L).length ≤ 160 := by omega
    rw [a1]
    simp (decide := true) only [wE_lit, wL_lit, wE_loc, wL_loc, wE_add, wE_sub, wE_mul, wE_and, wE_or, wE_xor, wE_shl, wE_shr, wE_ushr, wE_div, wE_rem, wE_neg, wE_i2b, wE_l2i, wL_i2l, wL_add, wL_mul, wE_fld, wL_fld, wE_arr, wL_arr, wC_cmp, wC_cmp0, wC_cmpL, wC_and, wC_or, wC_not, wC_ite, wL_ite, wA_nil, wA_int, wA_long, wE_call, wL_call, wS_skip, wS_seq, wS_set, wS_setL, wS_inc, wS_if, wS_put, wS_putL, wS_putOp, wS_putOpL, wS_ast, wS_astL, wS_aop, wS_aopL, wS_ret, wS_retL, wS_retV, wS_do, wS_pop, wS_dead, wS_sw, wF_body, Nat.reduceAdd, Nat.zero_add, Bool.not_not, true_and, and_true, if_true, if_false, ↓reduceIte, eq_self, Value.int.injEq, Value.long.injEq, exists_eq_left', ik_b1, ik_b0, ik_bz0, ik_bz3, ik_bz3_1, ik_bz3_0, ik_cmp, ik_cmpL, ik_eI, ik_eL, ik_as, ik_i0, ik_i1, decide_eq_true_eq, decide_eq_false_iff_not, decide_true, decide_false, Bool.not_true, Bool.not_false, reduceCtorEq, forall_const, false_implies, true_implies, implies_true, true_and, and_true, and_self, false_and, and_false, Bool.and_true, Bool.true_and, not_true_eq_false, not_false_eq_true, if_true, if_false, ite_true, ite_false, ik_bz3_0, ik_bz3_1, ik_bz0, b0, h32]
    refine wS_for _ _ (fun t σ => σ.1 3 = nI t ∧ (∀ a, a ≠ 22 → a ≠ 23 → a ≠ 24 → σ.2.2.1 a = g.1 a) ∧ σ.2.2.2 = g.2 ∧ ∀ q, q < t → σ.2.2.1 22 q = g.1 27 q ∧ σ.2.2.1 23 q = g.1 28 q ∧ σ.2.2.1 24 q = g.1 29 q) 0 L.length _ ⟨by simp [upd, nI_0], fun _ _ _ _ => rfl, rfl, fun q hq => by omega⟩ (by omega) (by omega) ?_ ?_ ?_
    · rintro t ⟨s1, s2, s3⟩ ht ⟨e1, e2, e3, e4⟩
      exact wc_1 (by show s3.1 0 46 = _; rw [e2 0 (by decide) (by decide) (by decide)]; exact h46) (by omega) ht e1
    · rintro t ⟨s1, s2, s3⟩ ht ⟨e1, e2, e3, e4⟩
      simp only at e1 e2 e3 e4
      have ix := ik_ix_nI (show t < 12 by omega) (by omega)
      simp (decide := true) only [wE_lit, wL_lit, wE_loc, wL_loc, wE_add, wE_sub, wE_mul, wE_and, wE_or, wE_xor, wE_shl, wE_shr, wE_ushr, wE_div, wE_rem, wE_neg, wE_i2b, wE_l2i, wL_i2l, wL_add, wL_mul, wE_fld, wL_fld, wE_arr, wL_arr, wC_cmp, wC_cmp0, wC_cmpL, wC_and, wC_or, wC_not, wC_ite, wL_ite, wA_nil, wA_int, wA_long, wE_call, wL_call, wS_skip, wS_seq, wS_set, wS_setL, wS_inc, wS_if, wS_put, wS_putL, wS_putOp, wS_putOpL, wS_ast, wS_astL, wS_aop, wS_aopL, wS_ret, wS_retL, wS_retV, wS_do, wS_pop, wS_dead, wS_sw, wF_body, Nat.reduceAdd, Nat.zero_add, Bool.not_not, true_and, and_true, if_true, if_false, ↓reduceIte, eq_self, Value.int.injEq, Value.long.injEq, exists_eq_left', ik_b1, ik_b0, ik_bz0, ik_bz3, ik_bz3_1, ik_bz3_0, ik_cmp, ik_cmpL, ik_eI, ik_eL, ik_as, ik_i0, ik_i1, decide_eq_true_eq, decide_eq_false_iff_not, decide_true, decide_false, Bool.not_true, Bool.not_false, reduceCtorEq, forall_const, false_implies, true_implies, implies_true, true_and, and_true, and_self, false_and, and_false, Bool.and_true, Bool.true_and, not_true_eq_false, not_false_eq_true, if_true, if_false, ite_true, ite_false, ik_bz3_0, ik_bz3_1, ik_bz0, e1, ix, Option.some.injEq, ik_si_row, upd_at, upd_off, nI_1, e2]
      refine ⟨fun a h1 h2 h3 => ?_, e3, fun q hq => ?_⟩
      · rw [ik_si_row _ _ _ _ _ h3, ik_si_row _ _ _ _ _ h2, ik_si_row _ _ _ _ _ h1]; exact e2 a h1 h2 h3
      · by_cases e : q = t
        · subst e
          simp (decide := true) only [ik_si_row, ik_si_same, and_self]
        · simp (decide := true) only [ik_si_row, ik_si_ne _ _ _ _ _ e]
          exact e4 q (by omega)
    · rintro ⟨s1, s2, y⟩ ⟨e1, e2, e3, e4⟩
      simp only at e1 e2 e3 e4
      simp (decide := true) only [wE_lit, wL_lit, wE_loc, wL_loc, wE_add, wE_sub, wE_mul, wE_and, wE_or, wE_xor, wE_shl, wE_shr, wE_ushr, wE_div, wE_rem, wE_neg, wE_i2b, wE_l2i, wL_i2l, wL_add, wL_mul, wE_fld, wL_fld, wE_arr, wL_arr, wC_cmp, wC_cmp0, wC_cmpL, wC_and, wC_or, wC_not, wC_ite, wL_ite, wA_nil, wA_int, wA_long, wE_call, wL_call, wS_skip, wS_seq, wS_set, wS_setL, wS_inc, wS_if, wS_put, wS_putL, wS_putOp, wS_putOpL, wS_ast, wS_astL, wS_aop, wS_aopL, wS_ret, wS_retL, wS_retV, wS_do, wS_pop, wS_dead, wS_sw, wF_body, Nat.reduceAdd, Nat.zero_add, Bool.not_not, true_and, and_true, if_true, if_false, ↓reduceIte, eq_self, Value.int.injEq, Value.long.injEq, exists_eq_left', ik_b1, ik_b0, ik_bz0, ik_bz3, ik_bz3_1, ik_bz3_0, ik_cmp, ik_cmpL, ik_eI, ik_eL, ik_as, ik_i0, ik_i1, decide_eq_true_eq, decide_eq_false_iff_not, decide_true, decide_false, Bool.not_true, Bool.not_false, reduceCtorEq, forall_const, false_implies, true_implies, implies_true, true_and, and_true, and_self, false_and, and_false, Bool.and_true, Bool.true_and, not_true_eq_false, not_false_eq_true, if_true, if_false, ite_true, ite_false, ik_bz3_0, ik_bz3_1, ik_bz0]
      refine wS_for _ _ (fun t σ => σ.1 3 = nI t ∧ (∀ a, a ≠ 25 → a ≠ 26 → σ.2.2.1 a = y.1 a) ∧ σ.2.2.2 = y.2 ∧ ∀ q, q < t → σ.2.2.1 25 q = g.1 30 q ∧ σ.2.2.1 26 q = g.1 31 q) 0 (cls L).length _ ⟨by simp [upd, nI_0], fun _ _ _ => rfl, rfl, fun q hq => by omega⟩ (by omega) (by omega) ?_ ?_ ?_
      · rintro t ⟨r1, r2, r3⟩ ht ⟨d1, d2, d3, d4⟩
        exact wc_1 (by show r3.1 0 47 = _; rw [d2 0 (by decide) (by decide), e2 0 (by decide) (by decide) (by decide)]; exact h47) (by omega) ht d1
      · rintro t ⟨r1, r2, r3⟩ ht ⟨d1, d2, d3, d4⟩
        simp only at d1 d2 d3 d4
        have ix := ik_ix_nI (show t < 160 by omega) (by omega)
        simp (decide := true) only [wE_lit, wL_lit, wE_loc, wL_loc, wE_add, wE_sub, wE_mul, wE_and, wE_or, wE_xor, wE_shl, wE_shr, wE_ushr, wE_div, wE_rem, wE_neg, wE_i2b, wE_l2i, wL_i2l, wL_add, wL_mul, wE_fld, wL_fld, wE_arr, wL_arr, wC_cmp, wC_cmp0, wC_cmpL, wC_and, wC_or, wC_not, wC_ite, wL_ite, wA_nil, wA_int, wA_long, wE_call, wL_call, wS_skip, wS_seq, wS_set, wS_setL, wS_inc, wS_if, wS_put, wS_putL, wS_putOp, wS_putOpL, wS_ast, wS_astL, wS_aop, wS_aopL, wS_ret, wS_retL, wS_retV, wS_do, wS_pop, wS_dead, wS_sw, wF_body, Nat.reduceAdd, Nat.zero_add, Bool.not_not, true_and, and_true, if_true, if_false, ↓reduceIte, eq_self, Value.int.injEq, Value.long.injEq, exists_eq_left', ik_b1, ik_b0, ik_bz0, ik_bz3, ik_bz3_1, ik_bz3_0, ik_cmp, ik_cmpL, ik_eI, ik_eL, ik_as, ik_i0, ik_i1, decide_eq_true_eq, decide_eq_false_iff_not, decide_true, decide_false, Bool.not_true, Bool.not_false, reduceCtorEq, forall_const, false_implies, true_implies, implies_true, true_and, and_true, and_self, false_and, and_false, Bool.and_true, Bool.true_and, not_true_eq_false, not_false_eq_true, if_true, if_false, ite_true, ite_false, ik_bz3_0, ik_bz3_1, ik_bz0, d1, ix, Option.some.injEq, ik_si_row, upd_at, upd_off, nI_1, d2, e2]
        refine ⟨fun a h1 h2 => ?_, d3, fun q hq => ?_⟩
        · rw [ik_si_row _ _ _ _ _ h2, ik_si_row _ _ _ _ _ h1]; exact d2 a h1 h2
        · by_cases e : q = t
          · subst e
            simp (decide := true) only [ik_si_row, ik_si_same, and_self]
          · simp (decide := true) only [ik_si_row, ik_si_ne _ _ _ _ _ e]
            exact d4 q (by omega)
      · rintro ⟨r1, r2, z⟩ ⟨d1, d2, d3, d4⟩
        simp only at d1 d2 d3 d4
        have z46 : z.1 0 46 = nI L.length := by rw [d2 0 (by decide) (by decide), e2 0 (by decide) (by decide) (by decide)]; exact h46
        simp (decide := true) only [wE_lit, wL_lit, wE_loc, wL_loc, wE_add, wE_sub, wE_mul, wE_and, wE_or, wE_xor, wE_shl, wE_shr, wE_ushr, wE_div, wE_rem, wE_neg, wE_i2b, wE_l2i, wL_i2l, wL_add, wL_mul, wE_fld, wL_fld, wE_arr, wL_arr, wC_cmp, wC_cmp0, wC_cmpL, wC_and, wC_or, wC_not, wC_ite, wL_ite, wA_nil, wA_int, wA_long, wE_call, wL_call, wS_skip, wS_seq, wS_set, wS_setL, wS_inc, wS_if, wS_put, wS_putL, wS_putOp, wS_putOpL, wS_ast, wS_astL, wS_aop, wS_aopL, wS_ret, wS_retL, wS_retV, wS_do, wS_pop, wS_dead, wS_sw, wF_body, Nat.reduceAdd, Nat.zero_add, Bool.not_not, true_and, and_true, if_true, if_false, ↓reduceIte, eq_self, Value.int.injEq, Value.long.injEq, exists_eq_left', ik_b1, ik_b0, ik_bz0, ik_bz3, ik_bz3_1, ik_bz3_0, ik_cmp, ik_cmpL, ik_eI, ik_eL, ik_as, ik_i0, ik_i1, decide_eq_true_eq, decide_eq_false_iff_not, decide_true, decide_false, Bool.not_true, Bool.not_false, reduceCtorEq, forall_const, false_implies, true_implies, implies_true, true_and, and_true, and_self, false_and, and_false, Bool.and_true, Bool.true_and, not_true_eq_false, not_false_eq_true, if_true, if_false, ite_true, ite_false, ik_bz3_0, ik_bz3_1, ik_bz0, z46, ik_si_ne, ik_si_row]
        obtain ⟨f1, f2, f3, f4⟩ := frA g hf
        have zg : ∀ a, a ≠ 22 → a ≠ 23 → a ≠ 24 → a ≠ 25 → a ≠ 26 → z.1 a = g.1 a := fun a h1 h2 h3 h4 h5 => by rw [d2 a h4 h5, e2 a h1 h2 h3]
        refine ⟨fun a h0 h => ?_, fun j j1 j2 j3 => ?_, (d3.trans e3).trans f3, ?_, a3, ik_si_same _ _ _ _, fun q b ds hq => ?_, fun k o hk => ?_⟩
        · rw [ik_si_row _ _ _ _ _ h0, zg a (by omega) (by omega) (by omega) (by omega) (by omega)]; exact f1 a h0 h
        · rw [ik_si_ne _ _ _ _ _ j2, zg 0 (by decide) (by decide) (by decide) (by decide) (by decide)]; exact f2 j j1 j2 j3
        · rw [zg 0 (by decide) (by decide) (by decide) (by decide) (by decide)]; exact f4
        · have hq' : q < L.length := (List.getElem?_eq_some_iff.mp hq).1
          obtain ⟨w1, w2, w3⟩ := hrw q b ds hq
          obtain ⟨y1, y2, y3⟩ := e4 q hq'
          rw [d2 22 (by decide) (by decide), d2 23 (by decide) (by decide), d2 24 (by decide) (by decide), y1, y2, y3]
          exact ⟨w1, w2, w3⟩
        · have hk' : k < (cls L).length := (List.getElem?_eq_some_iff.mp hk).1
          obtain ⟨y1, y2⟩ := d4 k hk'
          rw [y1, y2]
          exact hcd k o hk
  · -- one more clause
    simp only at b0 a2
    have gd : ∀ Q : Value → GG → Prop, wF fX12_isGood [] g Q ↔ Q (.int 1) g := fun Q => by rw [w_good, a2.2.2.1, if_pos rfl]
    obtain ⟨f', hf'⟩ : ∃ f', f = f' + 1 := ⟨f - 1, by omega⟩
    subst hf'
    have hall : sp_all c N (f' + 1) p L = match sp_cl c L.length p with
      | .inl e => .inl e
      | .inr (q, ds) => if N ≤ q then .inr (L ++ [(c p - 48, ds)]) else if c q = 59 then sp_all c N f' (q + 1) (L ++ [(c p - 48, ds)]) else .inl (1, q) := rfl
    rw [hall] at a1
    simp (decide := true) only [wE_lit, wL_lit, wE_loc, wL_loc, wE_add, wE_sub, wE_mul, wE_and, wE_or, wE_xor, wE_shl, wE_shr, wE_ushr, wE_div, wE_rem, wE_neg, wE_i2b, wE_l2i, wL_i2l, wL_add, wL_mul, wE_fld, wL_fld, wE_arr, wL_arr, wC_cmp, wC_cmp0, wC_cmpL, wC_and, wC_or, wC_not, wC_ite, wL_ite, wA_nil, wA_int, wA_long, wE_call, wL_call, wS_skip, wS_seq, wS_set, wS_setL, wS_inc, wS_if, wS_put, wS_putL, wS_putOp, wS_putOpL, wS_ast, wS_astL, wS_aop, wS_aopL, wS_ret, wS_retL, wS_retV, wS_do, wS_pop, wS_dead, wS_sw, wF_body, Nat.reduceAdd, Nat.zero_add, Bool.not_not, true_and, and_true, if_true, if_false, ↓reduceIte, eq_self, Value.int.injEq, Value.long.injEq, exists_eq_left', ik_b1, ik_b0, ik_bz0, ik_bz3, ik_bz3_1, ik_bz3_0, ik_cmp, ik_cmpL, ik_eI, ik_eL, ik_as, ik_i0, ik_i1, decide_eq_true_eq, decide_eq_false_iff_not, decide_true, decide_false, Bool.not_true, Bool.not_false, reduceCtorEq, forall_const, false_implies, true_implies, implies_true, true_and, and_true, and_self, false_and, and_false, Bool.and_true, Bool.true_and, not_true_eq_false, not_false_eq_true, if_true, if_false, ite_true, ite_false, ik_bz3_0, ik_bz3_1, ik_bz0, b0, gd]
    refine wF_mono (w_clauseM tx a2 a4 a5) ?_
    rintro _ g1 ⟨rfl, k1⟩
    refine ⟨rfl, ?_⟩
    revert a1 k1
    rcases sp_cl c L.length p with ⟨e, q⟩ | ⟨q, ds⟩
    · intro a1 k1
      have neg := nI_negne (k := 1000 * e + q) (by have := k1.2.2.1; omega) (by have := k1.2.2.1; have := k1.2.2.2; omega)
      have gd1 : ∀ Q : Value → GG → Prop, wF fX12_isGood [] g1 Q ↔ Q (.int 0) g1 := fun Q => by rw [w_good, k1.2.1, if_neg neg.1]
      simp (decide := true) only [wE_lit, wL_lit, wE_loc, wL_loc, wE_add, wE_sub, wE_mul, wE_and, wE_or, wE_xor, wE_shl, wE_shr, wE_ushr, wE_div, wE_rem, wE_neg, wE_i2b, wE_l2i, wL_i2l, wL_add, wL_mul, wE_fld, wL_fld, wE_arr, wL_arr, wC_cmp, wC_cmp0, wC_cmpL, wC_and, wC_or, wC_not, wC_ite, wL_ite, wA_nil, wA_int, wA_long, wE_call, wL_call, wS_skip, wS_seq, wS_set, wS_setL, wS_inc, wS_if, wS_put, wS_putL, wS_putOp, wS_putOpL, wS_ast, wS_astL, wS_aop, wS_aopL, wS_ret, wS_retL, wS_retV, wS_do, wS_pop, wS_dead, wS_sw, wF_body, Nat.reduceAdd, Nat.zero_add, Bool.not_not, true_and, and_true, if_true, if_false, ↓reduceIte, eq_self, Value.int.injEq, Value.long.injEq, exists_eq_left', ik_b1, ik_b0, ik_bz0, ik_bz3, ik_bz3_1, ik_bz3_0, ik_cmp, ik_cmpL, ik_eI, ik_eL, ik_as, ik_i0, ik_i1, decide_eq_true_eq, decide_eq_false_iff_not, decide_true, decide_false, Bool.not_true, Bool.not_false, reduceCtorEq, forall_const, false_implies, true_implies, implies_true, true_and, and_true, and_self, false_and, and_false, Bool.and_true, Bool.true_and, not_true_eq_false, not_false_eq_true, if_true, if_false, ite_true, ite_false, ik_bz3_0, ik_bz3_1, ik_bz0, wE_ite, gd1, upd_at, upd_off]
      exact ⟨0, by omega, Or.inl ⟨e, q, a1.symm, k1⟩⟩
    · rintro a1 ⟨k1, k2, k3⟩
      have gd1 : ∀ Q : Value → GG → Prop, wF fX12_isGood [] g1 Q ↔ Q (.int 1) g1 := fun Q => by rw [w_good, k1.2.2.1, if_pos rfl]
      have e30 : g1.1 0 30 = nI q := k1.2.1
      have e31 : g1.1 0 31 = nI N := by rw [k1.1.2.1 31 (by decide) (by decide) (by omega)]; exact g031
      have lq : (nI q < nI N) ↔ q < N := nI_ltI (by omega) (by omega)
      have a1' : (if N ≤ q then .inr (L ++ [(c p - 48, ds)]) else if c q = 59 then sp_all c N f' (q + 1) (L ++ [(c p - 48, ds)]) else .inl (1, q)) = R0 := a1
      by_cases hq : q < N
      · rw [if_neg (by omega)] at a1'
        have txg : txM c N g1 := ⟨e31, hN, hz, fun k hk => ⟨(hb k hk).1, by rw [k1.1.1 1 (by decide) (by omega), g0a 1 (by decide)]; exact (hb k hk).2⟩⟩
        have hr := fun Q => w_hereM txg (frM.refl' g1) e30 (show q < 2 ^ 31 by omega) Q
        have n59 := nI_is (hb q hq).1 (k := 59) (by omega) (a := 59) rfl
        by_cases c59 : c q = 59
        · rw [if_pos c59] at a1'
          simp (decide := true) only [wE_lit, wL_lit, wE_loc, wL_loc, wE_add, wE_sub, wE_mul, wE_and, wE_or, wE_xor, wE_shl, wE_shr, wE_ushr, wE_div, wE_rem, wE_neg, wE_i2b, wE_l2i, wL_i2l, wL_add, wL_mul, wE_fld, wL_fld, wE_arr, wL_arr, wC_cmp, wC_cmp0, wC_cmpL, wC_and, wC_or, wC_not, wC_ite, wL_ite, wA_nil, wA_int, wA_long, wE_call, wL_call, wS_skip, wS_seq, wS_set, wS_setL, wS_inc, wS_if, wS_put, wS_putL, wS_putOp, wS_putOpL, wS_ast, wS_astL, wS_aop, wS_aopL, wS_ret, wS_retL, wS_retV, wS_do, wS_pop, wS_dead, wS_sw, wF_body, Nat.reduceAdd, Nat.zero_add, Bool.not_not, true_and, and_true, if_true, if_false, ↓reduceIte, eq_self, Value.int.injEq, Value.long.injEq, exists_eq_left', ik_b1, ik_b0, ik_bz0, ik_bz3, ik_bz3_1, ik_bz3_0, ik_cmp, ik_cmpL, ik_eI, ik_eL, ik_as, ik_i0, ik_i1, decide_eq_true_eq, decide_eq_false_iff_not, decide_true, decide_false, Bool.not_true, Bool.not_false, reduceCtorEq, forall_const, false_implies, true_implies, implies_true, true_and, and_true, and_self, false_and, and_false, Bool.and_true, Bool.true_and, not_true_eq_false, not_false_eq_true, if_true, if_false, ite_true, ite_false, ik_bz3_0, ik_bz3_1, ik_bz0, wE_ite, gd1, e30, e31, lq, hq, upd_at, upd_off, hr, n59, c59, ik_bo, Option.some.injEq, nI_1]
          refine ⟨f', by omega, Or.inr (Or.inr ⟨q + 1, _, a1', ?_, by simp; omega, by simp; omega, by omega⟩)⟩
          obtain ⟨hf, h30, h32, h46, h47, hcd, hrw, hlen⟩ := k1
          refine ⟨⟨fun a h0 h => ?_, fun j j1 j2 j3 => ?_, hf.2.2⟩, ik_si_same _ _ _ _, ?_, ?_, ?_, fun k o hk => ?_, fun k b es hk => ?_, by omega⟩
          · rw [ik_si_row _ _ _ _ _ h0]; exact hf.1 a h0 h
          · rw [ik_si_ne _ _ _ _ _ j1]; exact hf.2.1 j j1 j2 j3
          · rw [ik_si_ne _ _ _ _ _ (by decide)]; exact h32
          · rw [ik_si_ne _ _ _ _ _ (by decide)]; exact h46
          · rw [ik_si_ne _ _ _ _ _ (by decide)]; exact h47
          · simp (decide := true) only [ik_si_row]; exact hcd k o hk
          · simp (decide := true) only [ik_si_row]; exact hrw k b es hk
        · rw [if_neg c59] at a1'
          have wr := fun Q => w_wrongs (g := g1) (e := 1) (p := q) k1.2.2.1 Q (v := 1) rfl
          simp (decide := true) only [wE_lit, wL_lit, wE_loc, wL_loc, wE_add, wE_sub, wE_mul, wE_and, wE_or, wE_xor, wE_shl, wE_shr, wE_ushr, wE_div, wE_rem, wE_neg, wE_i2b, wE_l2i, wL_i2l, wL_add, wL_mul, wE_fld, wL_fld, wE_arr, wL_arr, wC_cmp, wC_cmp0, wC_cmpL, wC_and, wC_or, wC_not, wC_ite, wL_ite, wA_nil, wA_int, wA_long, wE_call, wL_call, wS_skip, wS_seq, wS_set, wS_setL, wS_inc, wS_if, wS_put, wS_putL, wS_putOp, wS_putOpL, wS_ast, wS_astL, wS_aop, wS_aopL, wS_ret, wS_retL, wS_retV, wS_do, wS_pop, wS_dead, wS_sw, wF_body, Nat.reduceAdd, Nat.zero_add, Bool.not_not, true_and, and_true, if_true, if_false, ↓reduceIte, eq_self, Value.int.injEq, Value.long.injEq, exists_eq_left', ik_b1, ik_b0, ik_bz0, ik_bz3, ik_bz3_1, ik_bz3_0, ik_cmp, ik_cmpL, ik_eI, ik_eL, ik_as, ik_i0, ik_i1, decide_eq_true_eq, decide_eq_false_iff_not, decide_true, decide_false, Bool.not_true, Bool.not_false, reduceCtorEq, forall_const, false_implies, true_implies, implies_true, true_and, and_true, and_self, false_and, and_false, Bool.and_true, Bool.true_and, not_true_eq_false, not_false_eq_true, if_true, if_false, ite_true, ite_false, ik_bz3_0, ik_bz3_1, ik_bz0, wE_ite, gd1, e30, e31, lq, hq, upd_at, upd_off, hr, n59, c59, wr, ik_bo, Option.some.injEq, nI_1, ik_si_ne]
          refine ⟨0, by omega, Or.inl ⟨1, q, a1'.symm, ⟨fun a h0 h => ?_, fun j j1 j2 j3 => ?_, k1.1.2.2⟩, ?_, by omega, by omega⟩⟩
          · rw [ik_si_row _ _ _ _ _ h0, ik_si_row _ _ _ _ _ h0]; exact k1.1.1 a h0 h
          · rw [ik_si_ne _ _ _ _ _ j1, ik_si_ne _ _ _ _ _ j2]; exact k1.1.2.1 j j1 j2 j3
          · rw [ik_si_ne _ _ _ _ _ (by decide), ik_si_same]
      · rw [if_pos (by omega)] at a1'
        simp (decide := true) only [wE_lit, wL_lit, wE_loc, wL_loc, wE_add, wE_sub, wE_mul, wE_and, wE_or, wE_xor, wE_shl, wE_shr, wE_ushr, wE_div, wE_rem, wE_neg, wE_i2b, wE_l2i, wL_i2l, wL_add, wL_mul, wE_fld, wL_fld, wE_arr, wL_arr, wC_cmp, wC_cmp0, wC_cmpL, wC_and, wC_or, wC_not, wC_ite, wL_ite, wA_nil, wA_int, wA_long, wE_call, wL_call, wS_skip, wS_seq, wS_set, wS_setL, wS_inc, wS_if, wS_put, wS_putL, wS_putOp, wS_putOpL, wS_ast, wS_astL, wS_aop, wS_aopL, wS_ret, wS_retL, wS_retV, wS_do, wS_pop, wS_dead, wS_sw, wF_body, Nat.reduceAdd, Nat.zero_add, Bool.not_not, true_and, and_true, if_true, if_false, ↓reduceIte, eq_self, Value.int.injEq, Value.long.injEq, exists_eq_left', ik_b1, ik_b0, ik_bz0, ik_bz3, ik_bz3_1, ik_bz3_0, ik_cmp, ik_cmpL, ik_eI, ik_eL, ik_as, ik_i0, ik_i1, decide_eq_true_eq, decide_eq_false_iff_not, decide_true, decide_false, Bool.not_true, Bool.not_false, reduceCtorEq, forall_const, false_implies, true_implies, implies_true, true_and, and_true, and_self, false_and, and_false, Bool.and_true, Bool.true_and, not_true_eq_false, not_false_eq_true, if_true, if_false, ite_true, ite_false, ik_bz3_0, ik_bz3_1, ik_bz0, wE_ite, gd1, e30, e31, lq, hq, upd_at, upd_off]
        exact ⟨0, by omega, Or.inr (Or.inl ⟨q, _, a1'.symm, k1, by simp; omega, k2⟩)⟩
