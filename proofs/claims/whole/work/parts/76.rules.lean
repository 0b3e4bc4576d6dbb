def tkX (c : Nat → Nat) (N : Nat) (x : GG) (R0 : (Nat × Nat) ⊕ List (Nat × RC)) (v : Value) (g : GG) : Prop := (∀ a, a ≠ 35 → a ≠ 36 → a ≠ 37 → g.1 a = x.1 a) ∧ g.2 = x.2 ∧ match R0 with
  | .inl (e, q) => v = .int (nI (1000 * e + q)) ∧ (0 < 1000 * e + q ∧ 1000 * e + q < 10000) ∧ g.1 36 = x.1 36 ∧ g.1 35 3 = x.1 35 3 ∧ g.1 35 4 = x.1 35 4
  | .inr L => v = .int 0 ∧ (∀ k, k < N → g.1 36 k = nI (c k)) ∧ g.1 35 3 = nI N ∧ g.1 35 4 = nI L.length
theorem w_takeX {c : Nat → Nat} {N T : Nat} {x : GG} (hN1 : 1 ≤ N) (hN : N ≤ 160) (hz : ∀ k, N ≤ k → c k = 0) (hT : T ≤ 400) (hNT : N ≤ T) (h1 : x.1 1 1 = nI T) (hb : ∀ k, k < N → c k < 256 ∧ x.1 2 k = nI (c k)) :
    wF fX7_take [.int (nI N)] x (fun v g => tkX c N x (sp_all c N 13 0 []) v g) := by
  obtain ⟨R0, hR0⟩ : ∃ R0, R0 = sp_all c N 13 0 [] := ⟨_, rfl⟩
  rw [← hR0]
  have l160 : ∀ t, t ≤ N → ((nI t < 160) ↔ t < 160) := fun t ht => by rw [show (160 : Int32) = nI 160 from rfl, nI_ltI (by omega) (by omega)]
  unfold fX7_take
  simp (decide := true) only [wE_lit, wL_lit, wE_loc, wL_loc, wE_add, wE_sub, wE_mul, wE_and, wE_or, wE_xor, wE_shl, wE_shr, wE_ushr, wE_div, wE_rem, wE_neg, wE_i2b, wE_l2i, wL_i2l, wL_add, wL_mul, wE_fld, wL_fld, wE_arr, wL_arr, wC_cmp, wC_cmp0, wC_cmpL, wC_and, wC_or, wC_not, wC_ite, wL_ite, wA_nil, wA_int, wA_long, wE_call, wL_call, wS_skip, wS_seq, wS_set, wS_setL, wS_inc, wS_if, wS_put, wS_putL, wS_putOp, wS_putOpL, wS_ast, wS_astL, wS_aop, wS_aopL, wS_ret, wS_retL, wS_retV, wS_do, wS_pop, wS_dead, wS_sw, wF_body, Nat.reduceAdd, Nat.zero_add, Bool.not_not, true_and, and_true, if_true, if_false, ↓reduceIte, eq_self, Value.int.injEq, Value.long.injEq, exists_eq_left', ik_b1, ik_b0, ik_bz0, ik_bz3, ik_bz3_1, ik_bz3_0, ik_cmp, ik_cmpL, ik_eI, ik_eL, ik_as, ik_i0, ik_i1, decide_eq_true_eq, decide_eq_false_iff_not, decide_true, decide_false, Bool.not_true, Bool.not_false, reduceCtorEq, forall_const, false_implies, true_implies, implies_true, true_and, and_true, and_self, false_and, and_false, Bool.and_true, Bool.true_and, not_true_eq_false, not_false_eq_true, if_true, if_false, ite_true, ite_false, ik_bz3_0, ik_bz3_1, ik_bz0]
  refine wS_for _ _ (fun t σ => σ.1 3 = nI t ∧ σ.1 2 = nI N ∧ (∀ a, a ≠ 37 → σ.2.2.1 a = x.1 a) ∧ σ.2.2.2 = x.2 ∧ ∀ k, k < t → σ.2.2.1 37 k = nI (c k)) 0 N _ ⟨by simp [upd, nI_0], by simp [upd, ik_eI], fun _ _ => rfl, rfl, fun k hk => by omega⟩ (by omega) (by omega) ?_ ?_ ?_
  · rintro t ⟨s1, s2, s3⟩ ht ⟨e1, e2, e3, e4, e5⟩
    simp only at e1 e2
    simp (decide := true) only [wE_lit, wL_lit, wE_loc, wL_loc, wE_add, wE_sub, wE_mul, wE_and, wE_or, wE_xor, wE_shl, wE_shr, wE_ushr, wE_div, wE_rem, wE_neg, wE_i2b, wE_l2i, wL_i2l, wL_add, wL_mul, wE_fld, wL_fld, wE_arr, wL_arr, wC_cmp, wC_cmp0, wC_cmpL, wC_and, wC_or, wC_not, wC_ite, wL_ite, wA_nil, wA_int, wA_long, wE_call, wL_call, wS_skip, wS_seq, wS_set, wS_setL, wS_inc, wS_if, wS_put, wS_putL, wS_putOp, wS_putOpL, wS_ast, wS_astL, wS_aop, wS_aopL, wS_ret, wS_retL, wS_retV, wS_do, wS_pop, wS_dead, wS_sw, wF_body, Nat.reduceAdd, Nat.zero_add, Bool.not_not, true_and, and_true, if_true, if_false, ↓reduceIte, eq_self, Value.int.injEq, Value.long.injEq, exists_eq_left', ik_b1, ik_b0, ik_bz0, ik_bz3, ik_bz3_1, ik_bz3_0, ik_cmp, ik_cmpL, ik_eI, ik_eL, ik_as, ik_i0, ik_i1, decide_eq_true_eq, decide_eq_false_iff_not, decide_true, decide_false, Bool.not_true, Bool.not_false, reduceCtorEq, forall_const, false_implies, true_implies, implies_true, true_and, and_true, and_self, false_and, and_false, Bool.and_true, Bool.true_and, not_true_eq_false, not_false_eq_true, if_true, if_false, ite_true, ite_false, ik_bz3_0, ik_bz3_1, ik_bz0, e1, e2, l160 t ht, nI_ltI (show t < 2 ^ 31 by omega) (show N < 2 ^ 31 by omega)]
    by_cases q : t < N
    · have : t < 160 := by omega
      simp [q, this]
    · simp [q]
  · rintro t ⟨s1, s2, s3⟩ ht ⟨e1, e2, e3, e4, e5⟩
    simp only at e1 e2 e3 e4 e5
    have f1 := w_at9 (g := s3) (n := T) (k := t) hT (by rw [e3 1 (by decide)]; exact h1) (by omega)
    have f2 : s3.1 2 t = nI (c t) := by rw [e3 2 (by decide)]; exact (hb t ht).2
    simp (decide := true) only [wE_lit, wL_lit, wE_loc, wL_loc, wE_add, wE_sub, wE_mul, wE_and, wE_or, wE_xor, wE_shl, wE_shr, wE_ushr, wE_div, wE_rem, wE_neg, wE_i2b, wE_l2i, wL_i2l, wL_add, wL_mul, wE_fld, wL_fld, wE_arr, wL_arr, wC_cmp, wC_cmp0, wC_cmpL, wC_and, wC_or, wC_not, wC_ite, wL_ite, wA_nil, wA_int, wA_long, wE_call, wL_call, wS_skip, wS_seq, wS_set, wS_setL, wS_inc, wS_if, wS_put, wS_putL, wS_putOp, wS_putOpL, wS_ast, wS_astL, wS_aop, wS_aopL, wS_ret, wS_retL, wS_retV, wS_do, wS_pop, wS_dead, wS_sw, wF_body, Nat.reduceAdd, Nat.zero_add, Bool.not_not, true_and, and_true, if_true, if_false, ↓reduceIte, eq_self, Value.int.injEq, Value.long.injEq, exists_eq_left', ik_b1, ik_b0, ik_bz0, ik_bz3, ik_bz3_1, ik_bz3_0, ik_cmp, ik_cmpL, ik_eI, ik_eL, ik_as, ik_i0, ik_i1, decide_eq_true_eq, decide_eq_false_iff_not, decide_true, decide_false, Bool.not_true, Bool.not_false, reduceCtorEq, forall_const, false_implies, true_implies, implies_true, true_and, and_true, and_self, false_and, and_false, Bool.and_true, Bool.true_and, not_true_eq_false, not_false_eq_true, if_true, if_false, ite_true, ite_false, ik_bz3_0, ik_bz3_1, ik_bz0, e1, e2, f1, f2, ik_ix_nI (show t < 160 by omega) (by omega), Option.some.injEq, upd_at, upd_off, nI_1]
    refine ⟨fun a ha => ?_, e4, fun k hk => ?_⟩
    · rw [ik_si_row _ _ _ _ _ ha]; exact e3 a ha
    · by_cases e : k = t
      · rw [e, ik_si_same]
      · rw [ik_si_ne _ _ _ _ _ e]; exact e5 k (by omega)
  · rintro ⟨s1, s2, g⟩ ⟨e1, e2, e3, e4, e5⟩
    simp only at e1 e2 e3 e4 e5
    obtain ⟨bg, tx⟩ := w_beginX (c := c) (N := N) (p := 0) (g := g) (ask := false) hN (by omega) hz (fun k hk => ⟨(hb k hk).1, by rw [if_neg (by simp)]; exact e5 k hk⟩)
    obtain ⟨g0, hg0⟩ : ∃ g0, g0 = ik_si (ik_si g 35 5 (ik_b2 false)) 35 6 (nI N) := ⟨_, rfl⟩
    rw [← hg0] at bg tx
    have bg' : wF fX7_begin [.int 0, .int 0, .int (nI N)] g (fun v g' => v = .null ∧ atX c N g0 g' 0 ∧ g'.1 35 10 = 0) := bg
    simp (decide := true) only [wE_lit, wL_lit, wE_loc, wL_loc, wE_add, wE_sub, wE_mul, wE_and, wE_or, wE_xor, wE_shl, wE_shr, wE_ushr, wE_div, wE_rem, wE_neg, wE_i2b, wE_l2i, wL_i2l, wL_add, wL_mul, wE_fld, wL_fld, wE_arr, wL_arr, wC_cmp, wC_cmp0, wC_cmpL, wC_and, wC_or, wC_not, wC_ite, wL_ite, wA_nil, wA_int, wA_long, wE_call, wL_call, wS_skip, wS_seq, wS_set, wS_setL, wS_inc, wS_if, wS_put, wS_putL, wS_putOp, wS_putOpL, wS_ast, wS_astL, wS_aop, wS_aopL, wS_ret, wS_retL, wS_retV, wS_do, wS_pop, wS_dead, wS_sw, wF_body, Nat.reduceAdd, Nat.zero_add, Bool.not_not, true_and, and_true, if_true, if_false, ↓reduceIte, eq_self, Value.int.injEq, Value.long.injEq, exists_eq_left', ik_b1, ik_b0, ik_bz0, ik_bz3, ik_bz3_1, ik_bz3_0, ik_cmp, ik_cmpL, ik_eI, ik_eL, ik_as, ik_i0, ik_i1, decide_eq_true_eq, decide_eq_false_iff_not, decide_true, decide_false, Bool.not_true, Bool.not_false, reduceCtorEq, forall_const, false_implies, true_implies, implies_true, true_and, and_true, and_self, false_and, and_false, Bool.and_true, Bool.true_and, not_true_eq_false, not_false_eq_true, if_true, if_false, ite_true, ite_false, ik_bz3_0, ik_bz3_1, ik_bz0, e2]
    refine wF_mono bg' ?_
    rintro _ g1 ⟨rfl, k1, -⟩
    simp (decide := true) only [wE_lit, wL_lit, wE_loc, wL_loc, wE_add, wE_sub, wE_mul, wE_and, wE_or, wE_xor, wE_shl, wE_shr, wE_ushr, wE_div, wE_rem, wE_neg, wE_i2b, wE_l2i, wL_i2l, wL_add, wL_mul, wE_fld, wL_fld, wE_arr, wL_arr, wC_cmp, wC_cmp0, wC_cmpL, wC_and, wC_or, wC_not, wC_ite, wL_ite, wA_nil, wA_int, wA_long, wE_call, wL_call, wS_skip, wS_seq, wS_set, wS_setL, wS_inc, wS_if, wS_put, wS_putL, wS_putOp, wS_putOpL, wS_ast, wS_astL, wS_aop, wS_aopL, wS_ret, wS_retL, wS_retV, wS_do, wS_pop, wS_dead, wS_sw, wF_body, Nat.reduceAdd, Nat.zero_add, Bool.not_not, true_and, and_true, if_true, if_false, ↓reduceIte, eq_self, Value.int.injEq, Value.long.injEq, exists_eq_left', ik_b1, ik_b0, ik_bz0, ik_bz3, ik_bz3_1, ik_bz3_0, ik_cmp, ik_cmpL, ik_eI, ik_eL, ik_as, ik_i0, ik_i1, decide_eq_true_eq, decide_eq_false_iff_not, decide_true, decide_false, Bool.not_true, Bool.not_false, reduceCtorEq, forall_const, false_implies, true_implies, implies_true, true_and, and_true, and_self, false_and, and_false, Bool.and_true, Bool.true_and, not_true_eq_false, not_false_eq_true, if_true, if_false, ite_true, ite_false, ik_bz3_0, ik_bz3_1, ik_bz0]
    have fr0 : ∀ a, a ≠ 35 → a ≠ 37 → g0.1 a = x.1 a := fun a h1 h2 => by rw [hg0, ik_si_row _ _ _ _ _ h1, ik_si_row _ _ _ _ _ h1]; exact e3 a h2
    have fr35 : g0.1 35 3 = x.1 35 3 ∧ g0.1 35 4 = x.1 35 4 := by
      rw [hg0]
      simp (decide := true) only [ik_si_ne]
      rw [e3 35 (by decide)]
      exact ⟨rfl, rfl⟩
    have g02 : g0.2 = x.2 := by rw [hg0]; exact e4
    have g037 : ∀ k, k < N → g0.1 37 k = nI (c k) := fun k hk => by rw [hg0, ik_si_row _ _ _ _ _ (by decide), ik_si_row _ _ _ _ _ (by decide)]; exact e5 k hk
    -- behind the loop
    have last : ∀ (u1 : Nat → Int32) (u2 : Nat → Int64) (g2 : GG), u1 2 = nI N → ((∃ e q, R0 = .inl (e, q) ∧ flX g0 g2 (1000 * e + q)) ∨ ∃ L p, R0 = .inr L ∧ atX c N g0 g2 p ∧ u1 3 = nI L.length) →
        wS (sSeq (sIf (sCmp0 1 (sFld 35 9)) (sRet 0 (sFld 35 9)) sSkip) (sSeq (sCopy 37 36 160 160 160) (sSeq (sPut 35 3 0 (sLoc 2)) (sSeq (sPut 35 4 0 (sLoc 3)) (sRet 0 (sLit 0)))))) (u1, u2, g2) (fun _ => False) (fun v g => tkX c N x R0 v g) := by
      rintro u1 u2 g2 h2 (⟨e, q, a1, a2⟩ | ⟨L, p, a1, a2, a3⟩)
      · obtain ⟨hf, b8, b9, b10, b11⟩ := a2
        have nz := nI_ne0 (n := 1000 * e + q) (by omega) (by omega)
        rw [a1]
        simp (decide := true) only [wE_lit, wL_lit, wE_loc, wL_loc, wE_add, wE_sub, wE_mul, wE_and, wE_or, wE_xor, wE_shl, wE_shr, wE_ushr, wE_div, wE_rem, wE_neg, wE_i2b, wE_l2i, wL_i2l, wL_add, wL_mul, wE_fld, wL_fld, wE_arr, wL_arr, wC_cmp, wC_cmp0, wC_cmpL, wC_and, wC_or, wC_not, wC_ite, wL_ite, wA_nil, wA_int, wA_long, wE_call, wL_call, wS_skip, wS_seq, wS_set, wS_setL, wS_inc, wS_if, wS_put, wS_putL, wS_putOp, wS_putOpL, wS_ast, wS_astL, wS_aop, wS_aopL, wS_ret, wS_retL, wS_retV, wS_do, wS_pop, wS_dead, wS_sw, wF_body, Nat.reduceAdd, Nat.zero_add, Bool.not_not, true_and, and_true, if_true, if_false, ↓reduceIte, eq_self, Value.int.injEq, Value.long.injEq, exists_eq_left', ik_b1, ik_b0, ik_bz0, ik_bz3, ik_bz3_1, ik_bz3_0, ik_cmp, ik_cmpL, ik_eI, ik_eL, ik_as, ik_i0, ik_i1, decide_eq_true_eq, decide_eq_false_iff_not, decide_true, decide_false, Bool.not_true, Bool.not_false, reduceCtorEq, forall_const, false_implies, true_implies, implies_true, true_and, and_true, and_self, false_and, and_false, Bool.and_true, Bool.true_and, not_true_eq_false, not_false_eq_true, if_true, if_false, ite_true, ite_false, ik_bz3_0, ik_bz3_1, ik_bz0, b9, nz]
        show _ ∧ _ ∧ _ ∧ _
        refine ⟨fun a h35 h36 h37 => ?_, hf.2.2.trans g02, rfl, b10, ?_, ?_, ?_⟩
        · rw [hf.1 a h35]; exact fr0 a h35 h37
        · rw [hf.1 36 (by decide)]; exact fr0 36 (by decide) (by decide)
        · rw [hf.2.1 3 (by decide)]; exact fr35.1
        · rw [hf.2.1 4 (by decide)]; exact fr35.2
      · obtain ⟨hf, b7, b8, b9, b10⟩ := a2
        rw [a1]
        have cp : ∀ (P : SS → Prop) (Q : Value → GG → Prop), wS (sCopy 37 36 160 160 160) (u1, u2, g2) P Q ↔ P (u1, u2, (fun i j => if i = 36 ∧ j < 160 then g2.1 37 j else g2.1 i j, g2.2)) := by
          intro P Q
          have e : sCopy 37 36 160 160 160 (u1, u2, g2) = some (.inl (u1, u2, (fun i j => if i = 36 ∧ j < 160 then g2.1 37 j else g2.1 i j, g2.2))) := by
            unfold sCopy
            rw [if_neg (by decide)]
            rfl
          unfold wS
          rw [e]
          constructor
          · rintro ⟨o, ho, hp⟩; cases ho; exact hp
          · exact fun hp => ⟨_, rfl, hp⟩
        simp (decide := true) only [wE_lit, wL_lit, wE_loc, wL_loc, wE_add, wE_sub, wE_mul, wE_and, wE_or, wE_xor, wE_shl, wE_shr, wE_ushr, wE_div, wE_rem, wE_neg, wE_i2b, wE_l2i, wL_i2l, wL_add, wL_mul, wE_fld, wL_fld, wE_arr, wL_arr, wC_cmp, wC_cmp0, wC_cmpL, wC_and, wC_or, wC_not, wC_ite, wL_ite, wA_nil, wA_int, wA_long, wE_call, wL_call, wS_skip, wS_seq, wS_set, wS_setL, wS_inc, wS_if, wS_put, wS_putL, wS_putOp, wS_putOpL, wS_ast, wS_astL, wS_aop, wS_aopL, wS_ret, wS_retL, wS_retV, wS_do, wS_pop, wS_dead, wS_sw, wF_body, Nat.reduceAdd, Nat.zero_add, Bool.not_not, true_and, and_true, if_true, if_false, ↓reduceIte, eq_self, Value.int.injEq, Value.long.injEq, exists_eq_left', ik_b1, ik_b0, ik_bz0, ik_bz3, ik_bz3_1, ik_bz3_0, ik_cmp, ik_cmpL, ik_eI, ik_eL, ik_as, ik_i0, ik_i1, decide_eq_true_eq, decide_eq_false_iff_not, decide_true, decide_false, Bool.not_true, Bool.not_false, reduceCtorEq, forall_const, false_implies, true_implies, implies_true, true_and, and_true, and_self, false_and, and_false, Bool.and_true, Bool.true_and, not_true_eq_false, not_false_eq_true, if_true, if_false, ite_true, ite_false, ik_bz3_0, ik_bz3_1, ik_bz0, b9, cp, h2, a3]
        show _ ∧ _ ∧ _ ∧ _
        refine ⟨fun a h35 h36 h37 => ?_, hf.2.2.trans g02, rfl, fun k hk => ?_, ?_⟩
        · rw [ik_si_row _ _ _ _ _ h35, ik_si_row _ _ _ _ _ h35]
          funext j
          show (if a = 36 ∧ j < 160 then g2.1 37 j else g2.1 a j) = _
          rw [if_neg (fun h => h36 h.1), hf.1 a h35]
          exact congrFun (fr0 a h35 h37) j
        · rw [ik_si_row _ _ _ _ _ (by decide), ik_si_row _ _ _ _ _ (by decide)]
          show (if (36 : Nat) = 36 ∧ k < 160 then g2.1 37 k else g2.1 36 k) = _
          rw [if_pos ⟨rfl, by omega⟩, hf.1 37 (by decide)]
          exact g037 k hk
        · rw [ik_si_ne _ _ _ _ _ (by decide), ik_si_same, ik_si_same]
          exact ⟨rfl, rfl⟩
    refine wS_whB (fun f σ => σ.1 2 = nI N ∧ ∃ i, σ.1 4 = nI i ∧ i ≤ 12 ∧ ((∃ e q, R0 = .inl (e, q) ∧ flX g0 σ.2.2 (1000 * e + q)) ∨ ∃ p L, sp_all c N f p L = R0 ∧ i = L.length ∧ f + L.length = 13 ∧ p ≤ N ∧ atX c N g0 σ.2.2 p)) ?_ ik_fuel 13 _ (by unfold ik_fuel; omega) ⟨by simp [upd, e2], 0, by simp [upd, nI_0], by omega, Or.inr ⟨0, [], hR0.symm, rfl, rfl, by omega, k1⟩⟩
    rintro f ⟨u1, u2, g2⟩ ⟨b2, i, b4, b5, hyp⟩
    simp only at b2 b4 hyp
    have l12 : nI i ≤ 12 := nI_le (b := 12) b5 (by omega)
    rcases hyp with ⟨e, q, a1, a2⟩ | ⟨p, L, a1, rfl, a3, a4, a5⟩
    · simp (decide := true) only [wE_lit, wL_lit, wE_loc, wL_loc, wE_add, wE_sub, wE_mul, wE_and, wE_or, wE_xor, wE_shl, wE_shr, wE_ushr, wE_div, wE_rem, wE_neg, wE_i2b, wE_l2i, wL_i2l, wL_add, wL_mul, wE_fld, wL_fld, wE_arr, wL_arr, wC_cmp, wC_cmp0, wC_cmpL, wC_and, wC_or, wC_not, wC_ite, wL_ite, wA_nil, wA_int, wA_long, wE_call, wL_call, wS_skip, wS_seq, wS_set, wS_setL, wS_inc, wS_if, wS_put, wS_putL, wS_putOp, wS_putOpL, wS_ast, wS_astL, wS_aop, wS_aopL, wS_ret, wS_retL, wS_retV, wS_do, wS_pop, wS_dead, wS_sw, wF_body, Nat.reduceAdd, Nat.zero_add, Bool.not_not, true_and, and_true, if_true, if_false, ↓reduceIte, eq_self, Value.int.injEq, Value.long.injEq, exists_eq_left', ik_b1, ik_b0, ik_bz0, ik_bz3, ik_bz3_1, ik_bz3_0, ik_cmp, ik_cmpL, ik_eI, ik_eL, ik_as, ik_i0, ik_i1, decide_eq_true_eq, decide_eq_false_iff_not, decide_true, decide_false, Bool.not_true, Bool.not_false, reduceCtorEq, forall_const, false_implies, true_implies, implies_true, true_and, and_true, and_self, false_and, and_false, Bool.and_true, Bool.true_and, not_true_eq_false, not_false_eq_true, if_true, if_false, ite_true, ite_false, ik_bz3_0, ik_bz3_1, ik_bz0, b4, l12]
      refine wF_mono (xs_clause (nth := i) a2) ?_
      rintro _ g3 ⟨rfl, k3⟩
      have h8 : g3.1 35 8 = -1 := k3.2.1
      have lst := last (upd u1 3 (nI i + 1)) u2 g3 (by simp [upd, b2]) (Or.inl ⟨e, q, a1, k3⟩)
      simp (decide := true) only [wE_lit, wL_lit, wE_loc, wL_loc, wE_add, wE_sub, wE_mul, wE_and, wE_or, wE_xor, wE_shl, wE_shr, wE_ushr, wE_div, wE_rem, wE_neg, wE_i2b, wE_l2i, wL_i2l, wL_add, wL_mul, wE_fld, wL_fld, wE_arr, wL_arr, wC_cmp, wC_cmp0, wC_cmpL, wC_and, wC_or, wC_not, wC_ite, wL_ite, wA_nil, wA_int, wA_long, wE_call, wL_call, wS_skip, wS_seq, wS_set, wS_setL, wS_inc, wS_if, wS_put, wS_putL, wS_putOp, wS_putOpL, wS_ast, wS_astL, wS_aop, wS_aopL, wS_ret, wS_retL, wS_retV, wS_do, wS_pop, wS_dead, wS_sw, wF_body, Nat.reduceAdd, Nat.zero_add, Bool.not_not, true_and, and_true, if_true, if_false, ↓reduceIte, eq_self, Value.int.injEq, Value.long.injEq, exists_eq_left', ik_b1, ik_b0, ik_bz0, ik_bz3, ik_bz3_1, ik_bz3_0, ik_cmp, ik_cmpL, ik_eI, ik_eL, ik_as, ik_i0, ik_i1, decide_eq_true_eq, decide_eq_false_iff_not, decide_true, decide_false, Bool.not_true, Bool.not_false, reduceCtorEq, forall_const, false_implies, true_implies, implies_true, true_and, and_true, and_self, false_and, and_false, Bool.and_true, Bool.true_and, not_true_eq_false, not_false_eq_true, if_true, if_false, ite_true, ite_false, ik_bz3_0, ik_bz3_1, ik_bz0, b4, h8, upd_at, upd_off] at lst ⊢
      exact lst
    · obtain ⟨f', hf'⟩ : ∃ f', f = f' + 1 := ⟨f - 1, by omega⟩
      subst hf'
      have hall : sp_all c N (f' + 1) p L = match sp_cl c L.length p with
        | .inl e => .inl e
        | .inr (q, ds) => if N ≤ q then .inr (L ++ [(c p - 48, ds)]) else if c q = 59 then sp_all c N f' (q + 1) (L ++ [(c p - 48, ds)]) else .inl (1, q) := rfl
      rw [hall] at a1
      simp (decide := true) only [wE_lit, wL_lit, wE_loc, wL_loc, wE_add, wE_sub, wE_mul, wE_and, wE_or, wE_xor, wE_shl, wE_shr, wE_ushr, wE_div, wE_rem, wE_neg, wE_i2b, wE_l2i, wL_i2l, wL_add, wL_mul, wE_fld, wL_fld, wE_arr, wL_arr, wC_cmp, wC_cmp0, wC_cmpL, wC_and, wC_or, wC_not, wC_ite, wL_ite, wA_nil, wA_int, wA_long, wE_call, wL_call, wS_skip, wS_seq, wS_set, wS_setL, wS_inc, wS_if, wS_put, wS_putL, wS_putOp, wS_putOpL, wS_ast, wS_astL, wS_aop, wS_aopL, wS_ret, wS_retL, wS_retV, wS_do, wS_pop, wS_dead, wS_sw, wF_body, Nat.reduceAdd, Nat.zero_add, Bool.not_not, true_and, and_true, if_true, if_false, ↓reduceIte, eq_self, Value.int.injEq, Value.long.injEq, exists_eq_left', ik_b1, ik_b0, ik_bz0, ik_bz3, ik_bz3_1, ik_bz3_0, ik_cmp, ik_cmpL, ik_eI, ik_eL, ik_as, ik_i0, ik_i1, decide_eq_true_eq, decide_eq_false_iff_not, decide_true, decide_false, Bool.not_true, Bool.not_false, reduceCtorEq, forall_const, false_implies, true_implies, implies_true, true_and, and_true, and_self, false_and, and_false, Bool.and_true, Bool.true_and, not_true_eq_false, not_false_eq_true, if_true, if_false, ite_true, ite_false, ik_bz3_0, ik_bz3_1, ik_bz0, b4, l12]
      refine wF_mono (w_clauseX tx a5 a4 b5) ?_
      rintro _ g3 ⟨rfl, k3⟩
      refine ⟨rfl, ?_⟩
      revert a1 k3
      rcases sp_cl c L.length p with ⟨e, q⟩ | ⟨q, ds⟩
      · intro a1 k3
        have h8 : g3.1 35 8 = -1 := k3.2.1
        have lst := last (upd u1 3 (nI L.length + 1)) u2 g3 (by simp [upd, b2]) (Or.inl ⟨e, q, a1.symm, k3⟩)
        simp (decide := true) only [wE_lit, wL_lit, wE_loc, wL_loc, wE_add, wE_sub, wE_mul, wE_and, wE_or, wE_xor, wE_shl, wE_shr, wE_ushr, wE_div, wE_rem, wE_neg, wE_i2b, wE_l2i, wL_i2l, wL_add, wL_mul, wE_fld, wL_fld, wE_arr, wL_arr, wC_cmp, wC_cmp0, wC_cmpL, wC_and, wC_or, wC_not, wC_ite, wL_ite, wA_nil, wA_int, wA_long, wE_call, wL_call, wS_skip, wS_seq, wS_set, wS_setL, wS_inc, wS_if, wS_put, wS_putL, wS_putOp, wS_putOpL, wS_ast, wS_astL, wS_aop, wS_aopL, wS_ret, wS_retL, wS_retV, wS_do, wS_pop, wS_dead, wS_sw, wF_body, Nat.reduceAdd, Nat.zero_add, Bool.not_not, true_and, and_true, if_true, if_false, ↓reduceIte, eq_self, Value.int.injEq, Value.long.injEq, exists_eq_left', ik_b1, ik_b0, ik_bz0, ik_bz3, ik_bz3_1, ik_bz3_0, ik_cmp, ik_cmpL, ik_eI, ik_eL, ik_as, ik_i0, ik_i1, decide_eq_true_eq, decide_eq_false_iff_not, decide_true, decide_false, Bool.not_true, Bool.not_false, reduceCtorEq, forall_const, false_implies, true_implies, implies_true, true_and, and_true, and_self, false_and, and_false, Bool.and_true, Bool.true_and, not_true_eq_false, not_false_eq_true, if_true, if_false, ite_true, ite_false, ik_bz3_0, ik_bz3_1, ik_bz0, b4, h8, upd_at, upd_off] at lst ⊢
        exact lst
      · rintro a1 ⟨k3, k4, k5, k6⟩
        have a1' : (if N ≤ q then .inr (L ++ [(c p - 48, ds)]) else if c q = 59 then sp_all c N f' (q + 1) (L ++ [(c p - 48, ds)]) else .inl (1, q)) = R0 := a1
        have h8 : g3.1 35 8 = sgX c N q := k3.2.2.1
        by_cases hq : N ≤ q
        · rw [if_pos hq] at a1'
          have hm : sgX c N q = -1 := by unfold sgX; rw [if_neg (by omega)]
          have lst := last (upd u1 3 (nI L.length + 1)) u2 g3 (by simp [upd, b2]) (Or.inr ⟨_, q, a1'.symm, k3, by simp [upd, nI_1]⟩)
          simp (decide := true) only [wE_lit, wL_lit, wE_loc, wL_loc, wE_add, wE_sub, wE_mul, wE_and, wE_or, wE_xor, wE_shl, wE_shr, wE_ushr, wE_div, wE_rem, wE_neg, wE_i2b, wE_l2i, wL_i2l, wL_add, wL_mul, wE_fld, wL_fld, wE_arr, wL_arr, wC_cmp, wC_cmp0, wC_cmpL, wC_and, wC_or, wC_not, wC_ite, wL_ite, wA_nil, wA_int, wA_long, wE_call, wL_call, wS_skip, wS_seq, wS_set, wS_setL, wS_inc, wS_if, wS_put, wS_putL, wS_putOp, wS_putOpL, wS_ast, wS_astL, wS_aop, wS_aopL, wS_ret, wS_retL, wS_retV, wS_do, wS_pop, wS_dead, wS_sw, wF_body, Nat.reduceAdd, Nat.zero_add, Bool.not_not, true_and, and_true, if_true, if_false, ↓reduceIte, eq_self, Value.int.injEq, Value.long.injEq, exists_eq_left', ik_b1, ik_b0, ik_bz0, ik_bz3, ik_bz3_1, ik_bz3_0, ik_cmp, ik_cmpL, ik_eI, ik_eL, ik_as, ik_i0, ik_i1, decide_eq_true_eq, decide_eq_false_iff_not, decide_true, decide_false, Bool.not_true, Bool.not_false, reduceCtorEq, forall_const, false_implies, true_implies, implies_true, true_and, and_true, and_self, false_and, and_false, Bool.and_true, Bool.true_and, not_true_eq_false, not_false_eq_true, if_true, if_false, ite_true, ite_false, ik_bz3_0, ik_bz3_1, ik_bz0, b4, h8, hm, upd_at, upd_off] at lst ⊢
          exact lst
        · rw [if_neg hq] at a1'
          have hc256 := (hb q (by omega)).1
          have hm : ¬ sgX c N q = -1 := by
            unfold sgX; rw [if_pos (by omega)]
            exact nI_m1 (by omega)
          have b59 := sgX_eq (p := q) (fun k hk => (hb k hk).1) hz (k := 59) (by omega) (by omega) (v := 59) rfl
          by_cases c59 : c q = 59
          · rw [if_pos c59] at a1'
            simp (decide := true) only [wE_lit, wL_lit, wE_loc, wL_loc, wE_add, wE_sub, wE_mul, wE_and, wE_or, wE_xor, wE_shl, wE_shr, wE_ushr, wE_div, wE_rem, wE_neg, wE_i2b, wE_l2i, wL_i2l, wL_add, wL_mul, wE_fld, wL_fld, wE_arr, wL_arr, wC_cmp, wC_cmp0, wC_cmpL, wC_and, wC_or, wC_not, wC_ite, wL_ite, wA_nil, wA_int, wA_long, wE_call, wL_call, wS_skip, wS_seq, wS_set, wS_setL, wS_inc, wS_if, wS_put, wS_putL, wS_putOp, wS_putOpL, wS_ast, wS_astL, wS_aop, wS_aopL, wS_ret, wS_retL, wS_retV, wS_do, wS_pop, wS_dead, wS_sw, wF_body, Nat.reduceAdd, Nat.zero_add, Bool.not_not, true_and, and_true, if_true, if_false, ↓reduceIte, eq_self, Value.int.injEq, Value.long.injEq, exists_eq_left', ik_b1, ik_b0, ik_bz0, ik_bz3, ik_bz3_1, ik_bz3_0, ik_cmp, ik_cmpL, ik_eI, ik_eL, ik_as, ik_i0, ik_i1, decide_eq_true_eq, decide_eq_false_iff_not, decide_true, decide_false, Bool.not_true, Bool.not_false, reduceCtorEq, forall_const, false_implies, true_implies, implies_true, true_and, and_true, and_self, false_and, and_false, Bool.and_true, Bool.true_and, not_true_eq_false, not_false_eq_true, if_true, if_false, ite_true, ite_false, ik_bz3_0, ik_bz3_1, ik_bz0, wE_ite, b4, h8, hm, b59, c59, upd_at, upd_off]
            refine wF_mono (go0X tx k3 (by omega)) ?_
            rintro _ g4 ⟨rfl, k7, -⟩
            simp (decide := true) only [Nat.reduceAdd, Nat.zero_add, Bool.not_not, true_and, and_true, if_true, if_false, ↓reduceIte, eq_self, Value.int.injEq, Value.long.injEq, exists_eq_left', ik_b1, ik_b0, ik_bz0, ik_bz3, ik_bz3_1, ik_bz3_0, ik_cmp, ik_cmpL, ik_eI, ik_eL, ik_as, ik_i0, ik_i1, decide_eq_true_eq, decide_eq_false_iff_not, decide_true, decide_false, Bool.not_true, Bool.not_false, reduceCtorEq, forall_const, false_implies, true_implies, implies_true, true_and, and_true, and_self, false_and, and_false, Bool.and_true, Bool.true_and, not_true_eq_false, not_false_eq_true, if_true, if_false, ite_true, ite_false, ik_bz3_0, ik_bz3_1, ik_bz0, upd_at, upd_off, b2, b4, nI_1]
            exact ⟨f', by omega, L.length + 1, rfl, by omega, Or.inr ⟨q + 1, _, a1', by simp, by simp; omega, by omega, k7⟩⟩
          · rw [if_neg c59] at a1'
            simp (decide := true) only [wE_lit, wL_lit, wE_loc, wL_loc, wE_add, wE_sub, wE_mul, wE_and, wE_or, wE_xor, wE_shl, wE_shr, wE_ushr, wE_div, wE_rem, wE_neg, wE_i2b, wE_l2i, wL_i2l, wL_add, wL_mul, wE_fld, wL_fld, wE_arr, wL_arr, wC_cmp, wC_cmp0, wC_cmpL, wC_and, wC_or, wC_not, wC_ite, wL_ite, wA_nil, wA_int, wA_long, wE_call, wL_call, wS_skip, wS_seq, wS_set, wS_setL, wS_inc, wS_if, wS_put, wS_putL, wS_putOp, wS_putOpL, wS_ast, wS_astL, wS_aop, wS_aopL, wS_ret, wS_retL, wS_retV, wS_do, wS_pop, wS_dead, wS_sw, wF_body, Nat.reduceAdd, Nat.zero_add, Bool.not_not, true_and, and_true, if_true, if_false, ↓reduceIte, eq_self, Value.int.injEq, Value.long.injEq, exists_eq_left', ik_b1, ik_b0, ik_bz0, ik_bz3, ik_bz3_1, ik_bz3_0, ik_cmp, ik_cmpL, ik_eI, ik_eL, ik_as, ik_i0, ik_i1, decide_eq_true_eq, decide_eq_false_iff_not, decide_true, decide_false, Bool.not_true, Bool.not_false, reduceCtorEq, forall_const, false_implies, true_implies, implies_true, true_and, and_true, and_self, false_and, and_false, Bool.and_true, Bool.true_and, not_true_eq_false, not_false_eq_true, if_true, if_false, ite_true, ite_false, ik_bz3_0, ik_bz3_1, ik_bz0, wE_ite, b4, h8, hm, b59, c59, upd_at, upd_off]
            refine wF_mono (goWX tx k3 k5 (e := 1) (by omega) rfl) ?_
            rintro _ g4 ⟨rfl, k7⟩
            simp (decide := true) only [Nat.reduceAdd, Nat.zero_add, Bool.not_not, true_and, and_true, if_true, if_false, ↓reduceIte, eq_self, Value.int.injEq, Value.long.injEq, exists_eq_left', ik_b1, ik_b0, ik_bz0, ik_bz3, ik_bz3_1, ik_bz3_0, ik_cmp, ik_cmpL, ik_eI, ik_eL, ik_as, ik_i0, ik_i1, decide_eq_true_eq, decide_eq_false_iff_not, decide_true, decide_false, Bool.not_true, Bool.not_false, reduceCtorEq, forall_const, false_implies, true_implies, implies_true, true_and, and_true, and_self, false_and, and_false, Bool.and_true, Bool.true_and, not_true_eq_false, not_false_eq_true, if_true, if_false, ite_true, ite_false, ik_bz3_0, ik_bz3_1, ik_bz0, upd_at, upd_off, b2, b4, nI_1]
            exact ⟨f', by omega, L.length + 1, rfl, by omega, Or.inl ⟨1, q, a1'.symm, k7⟩⟩
