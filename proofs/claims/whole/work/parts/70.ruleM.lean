theorem flM.si0 {g0 g : GG} {e q j : Nat} (h : flM g0 g e q) (hj : j = 30 ∨ j = 47 ∨ j = 48 ∨ j = 49 ∨ j = 50 ∨ j = 51) (v : Int32) : flM g0 (ik_si g 0 j v) e q := ⟨h.1.si0 (by omega) v, by rw [ik_si_ne _ _ _ _ _ (by omega)]; exact h.2.1, h.2.2⟩
/-- a whole piece -/
theorem w_pieceM {c : Nat → Nat} {N p : Nat} {g0 g : GG} {st : List Nat} {cs : RC} {ob : Bool} {bh : Int32} {R0 : (Nat × Nat) ⊕ AS} (ht : txM c N g0) (h : atM g0 g p st cs (opn st) ob bh) (hF : FT c (0, p, st, cs) R0) (hl : st.length + cs.length ≤ p) (hp : p ≤ N) (ho : opn st ≤ 6) :
    wF fX12_pieceOfC [] g (fun v g' => v = .null ∧ ((∃ e q, R0 = .inl (e, q) ∧ flM g0 g' e q) ∨ xtM c N g0 g' ob 0 3 (p + 1) R0)) := by
  obtain ⟨t1, t2, hz, t4⟩ := id ht
  have hc : ∀ k, c k < 256 := fun k => by
    by_cases hk : k < N
    · exact (t4 k hk).1
    · rw [hz k (by omega)]; decide
  unfold fX12_pieceOfC
  simp (decide := true) only [wE_lit, wL_lit, wE_loc, wL_loc, wE_add, wE_sub, wE_mul, wE_and, wE_or, wE_xor, wE_shl, wE_shr, wE_ushr, wE_div, wE_rem, wE_neg, wE_i2b, wE_l2i, wL_i2l, wL_add, wL_mul, wE_fld, wL_fld, wE_arr, wL_arr, wC_cmp, wC_cmp0, wC_cmpL, wC_and, wC_or, wC_not, wC_ite, wL_ite, wA_nil, wA_int, wA_long, wE_call, wL_call, wS_skip, wS_seq, wS_set, wS_setL, wS_inc, wS_if, wS_put, wS_putL, wS_putOp, wS_putOpL, wS_ast, wS_astL, wS_aop, wS_aopL, wS_ret, wS_retL, wS_retV, wS_do, wS_pop, wS_dead, wS_sw, wF_body, Nat.reduceAdd, Nat.zero_add, Bool.not_not, true_and, and_true, if_true, if_false, ↓reduceIte, eq_self, Value.int.injEq, Value.long.injEq, exists_eq_left', ik_b1, ik_b0, ik_bz0, ik_bz3, ik_bz3_1, ik_bz3_0, ik_cmp, ik_cmpL, ik_eI, ik_eL, ik_as, ik_i0, ik_i1, decide_eq_true_eq, decide_eq_false_iff_not, decide_true, decide_false, Bool.not_true, Bool.not_false, reduceCtorEq, forall_const, false_implies, true_implies, implies_true, true_and, and_true, and_self, false_and, and_false, Bool.and_true, Bool.true_and, not_true_eq_false, not_false_eq_true, if_true, if_false, ite_true, ite_false, ik_bz3_0, ik_bz3_1, ik_bz0]
  refine wS_wh _ _ (fun m σ => xtM c N g0 σ.2.2 ob bh 0 (max p (N - m)) R0) ?_ ik_fuel (N - p) _ (by unfold ik_fuel; omega) (Or.inr ⟨p, st, cs, h, hF, hl, by omega, hp, ho⟩)
  rintro m ⟨u1, u2, u3⟩ hyp
  simp only at hyp
  -- what comes behind the opening signs
  have rest : ∀ (g1 : GG), ((∃ e q, R0 = .inl (e, q) ∧ flM g0 g1 e q) ∨ ∃ p1 st1 cs1, atM g0 g1 p1 st1 cs1 (opn st1) ob bh ∧ FT c (1, p1, st1, cs1) R0 ∧ st1.length + cs1.length ≤ p1 ∧ p ≤ p1 ∧ p1 ≤ N ∧ opn st1 ≤ 6) →
      wS (sWh (sAnd (sCmp0 1 (sLoc 1)) (sCmp0 1 (sCall fX12_isGood sNil))) (sSeq (sIf (sNot (sCmp0 1 (sFld 0 51))) (sDo fX12_factor sNil) sSkip) (sSeq (sPut 0 51 3 (sLit 0)) (sSet 1 (sIte (sAnd (sCmp0 1 (sCall fX12_isGood sNil)) (sCmp0 1 (sCall fX12_goesOn sNil))) (sLit 1) (sLit 0))))) ik_fuel) (upd u1 1 1, u2, ik_si g1 0 51 0)
        (fun σ => wS (sIf (sCmp0 1 (sCall fX12_isGood sNil)) (sDo fX12_ends sNil) sSkip) σ (fun σ' => ((∃ e q, R0 = .inl (e, q) ∧ flM g0 σ'.2.2 e q) ∨ xtM c N g0 σ'.2.2 ob 0 3 (p + 1) R0)) (fun v g' => v = .null ∧ ((∃ e q, R0 = .inl (e, q) ∧ flM g0 g' e q) ∨ xtM c N g0 g' ob 0 3 (p + 1) R0)))
        (fun v g' => v = .null ∧ ((∃ e q, R0 = .inl (e, q) ∧ flM g0 g' e q) ∨ xtM c N g0 g' ob 0 3 (p + 1) R0)) := by
    intro g1 hg1
    refine wS_wh _ _ (fun k σ => (∃ e q, R0 = .inl (e, q) ∧ flM g0 σ.2.2 e q) ∨ (σ.1 1 = 1 ∧ ∃ (b : Bool) (p' : Nat) (st' : List Nat) (cs' : RC), atM g0 σ.2.2 p' st' cs' (opn st') ob (ik_b2 b) ∧ FT c (if b = true then 2 else 1, p', st', cs') R0 ∧ st'.length + cs'.length ≤ p' ∧ p ≤ p' ∧ (b = true → p < p') ∧ p' ≤ N ∧ opn st' ≤ 6 ∧ 2 * (N - p') + 1 ≤ k) ∨
      (σ.1 1 = 0 ∧ ∃ (p' : Nat) (st' : List Nat) (cs' : RC), atM g0 σ.2.2 p' st' cs' (opn st') ob 0 ∧ FT c (3, p', (popE st' cs').1, (popE st' cs').2) R0 ∧ st'.length + cs'.length ≤ p' ∧ p < p' ∧ p' ≤ N ∧ opn st' ≤ 6)) ?_ ik_fuel (2 * (N - p) + 1) _ (by unfold ik_fuel; omega) ?_
    · rintro k ⟨v1, v2, v3⟩ (⟨e, q, a1, a2⟩ | ⟨b0, b, p', st', cs', b1, b2, b3, b4, b5, b6, b7, b8⟩ | ⟨b0, p', st', cs', b1, b2, b3, b4, b5, b6⟩)
      · simp only at a2
        simp (decide := true) only [wE_lit, wL_lit, wE_loc, wL_loc, wE_add, wE_sub, wE_mul, wE_and, wE_or, wE_xor, wE_shl, wE_shr, wE_ushr, wE_div, wE_rem, wE_neg, wE_i2b, wE_l2i, wL_i2l, wL_add, wL_mul, wE_fld, wL_fld, wE_arr, wL_arr, wC_cmp, wC_cmp0, wC_cmpL, wC_and, wC_or, wC_not, wC_ite, wL_ite, wA_nil, wA_int, wA_long, wE_call, wL_call, wS_skip, wS_seq, wS_set, wS_setL, wS_inc, wS_if, wS_put, wS_putL, wS_putOp, wS_putOpL, wS_ast, wS_astL, wS_aop, wS_aopL, wS_ret, wS_retL, wS_retV, wS_do, wS_pop, wS_dead, wS_sw, wF_body, Nat.reduceAdd, Nat.zero_add, Bool.not_not, true_and, and_true, if_true, if_false, ↓reduceIte, eq_self, Value.int.injEq, Value.long.injEq, exists_eq_left', ik_b1, ik_b0, ik_bz0, ik_bz3, ik_bz3_1, ik_bz3_0, ik_cmp, ik_cmpL, ik_eI, ik_eL, ik_as, ik_i0, ik_i1, decide_eq_true_eq, decide_eq_false_iff_not, decide_true, decide_false, Bool.not_true, Bool.not_false, reduceCtorEq, forall_const, false_implies, true_implies, implies_true, true_and, and_true, and_self, false_and, and_false, Bool.and_true, Bool.true_and, not_true_eq_false, not_false_eq_true, if_true, if_false, ite_true, ite_false, ik_bz3_0, ik_bz3_1, ik_bz0, a2.f0]
        exact ⟨fun _ => Or.inl ⟨e, q, a1, a2⟩, fun _ => Or.inl ⟨e, q, a1, a2⟩⟩
      · simp only at b0 b1
        -- behind the factor
        have tail : ∀ (v3' : GG) (bh' : Int32) (p1 : Nat) (st1 : List Nat) (cs1 : RC), atM g0 v3' p1 st1 cs1 (opn st1) ob bh' → FT c (2, p1, st1, cs1) R0 → st1.length + cs1.length ≤ p1 → p' ≤ p1 → p < p1 → p1 ≤ N → opn st1 ≤ 6 →
            wF fX12_goesOn [] (ik_si v3' 0 51 0) (fun v g2 => (v = .int 1 ∧ ((∃ e q, R0 = .inl (e, q) ∧ flM g0 g2 e q) ∨ ∃ (b : Bool) (p' : Nat) (st' : List Nat) (cs' : RC), atM g0 g2 p' st' cs' (opn st') ob (ik_b2 b) ∧ FT c (if b = true then 2 else 1, p', st', cs') R0 ∧ st'.length + cs'.length ≤ p' ∧ p ≤ p' ∧ (b = true → p < p') ∧ p' ≤ N ∧ opn st' ≤ 6 ∧ 2 * (N - p') + 1 < k)) ∨
              (v = .int 0 ∧ ((∃ e q, R0 = .inl (e, q) ∧ flM g0 g2 e q) ∨ ∃ (p' : Nat) (st' : List Nat) (cs' : RC), atM g0 g2 p' st' cs' (opn st') ob 0 ∧ FT c (3, p', (popE st' cs').1, (popE st' cs').2) R0 ∧ st'.length + cs'.length ≤ p' ∧ p < p' ∧ p' ≤ N ∧ opn st' ≤ 6))) := by
          intro v3' bh' p1 st1 cs1 d1 d2 d3 d4 d4' d5 d6
          refine wF_mono (w_goesOnM ht (d1.set.2.2.2 0) d2 d3 d5 d6) ?_
          rintro v g2 (⟨rfl, ⟨e, q, a1, a2⟩ | ⟨b, ⟨e, q, a1, a2⟩ | ⟨p2, st2, cs2, c1, c2, c3, c4, c5, c6⟩⟩⟩ | ⟨rfl, ⟨e, q, a1, a2⟩ | ⟨st2, cs2, c1, c2, c3, c4⟩⟩)
          · exact Or.inl ⟨rfl, Or.inl ⟨e, q, a1, a2⟩⟩
          · exact Or.inl ⟨rfl, Or.inl ⟨e, q, a1, a2⟩⟩
          · exact Or.inl ⟨rfl, Or.inr ⟨b, p2, st2, cs2, c1, c2, c3, by omega, fun _ => by omega, c5, c6, by omega⟩⟩
          · exact Or.inr ⟨rfl, Or.inl ⟨e, q, a1, a2⟩⟩
          · exact Or.inr ⟨rfl, Or.inr ⟨p1, st2, cs2, c1, c2, c3, by omega, d5, c4⟩⟩
        have go : ∀ (v3' : GG) (bh' : Int32) (p1 : Nat) (st1 : List Nat) (cs1 : RC), atM g0 v3' p1 st1 cs1 (opn st1) ob bh' → FT c (2, p1, st1, cs1) R0 → st1.length + cs1.length ≤ p1 → p' ≤ p1 → p < p1 → p1 ≤ N → opn st1 ≤ 6 →
            wS (sSeq (sPut 0 51 3 (sLit 0)) (sSet 1 (sIte (sAnd (sCmp0 1 (sCall fX12_isGood sNil)) (sCmp0 1 (sCall fX12_goesOn sNil))) (sLit 1) (sLit 0)))) (v1, v2, v3')
              (fun σ' => ∃ k', k' < k ∧ ((∃ e q, R0 = .inl (e, q) ∧ flM g0 σ'.2.2 e q) ∨ (σ'.1 1 = 1 ∧ ∃ (b : Bool) (p' : Nat) (st' : List Nat) (cs' : RC), atM g0 σ'.2.2 p' st' cs' (opn st') ob (ik_b2 b) ∧ FT c (if b = true then 2 else 1, p', st', cs') R0 ∧ st'.length + cs'.length ≤ p' ∧ p ≤ p' ∧ (b = true → p < p') ∧ p' ≤ N ∧ opn st' ≤ 6 ∧ 2 * (N - p') + 1 ≤ k') ∨
                (σ'.1 1 = 0 ∧ ∃ (p' : Nat) (st' : List Nat) (cs' : RC), atM g0 σ'.2.2 p' st' cs' (opn st') ob 0 ∧ FT c (3, p', (popE st' cs').1, (popE st' cs').2) R0 ∧ st'.length + cs'.length ≤ p' ∧ p < p' ∧ p' ≤ N ∧ opn st' ≤ 6)))
              (fun v g' => v = .null ∧ ((∃ e q, R0 = .inl (e, q) ∧ flM g0 g' e q) ∨ xtM c N g0 g' ob 0 3 (p + 1) R0)) := by
          intro v3' bh' p1 st1 cs1 d1 d2 d3 d4 d4' d5 d6
          have gd := (d1.set.2.2.2 0).f1
          simp (decide := true) only [wE_lit, wL_lit, wE_loc, wL_loc, wE_add, wE_sub, wE_mul, wE_and, wE_or, wE_xor, wE_shl, wE_shr, wE_ushr, wE_div, wE_rem, wE_neg, wE_i2b, wE_l2i, wL_i2l, wL_add, wL_mul, wE_fld, wL_fld, wE_arr, wL_arr, wC_cmp, wC_cmp0, wC_cmpL, wC_and, wC_or, wC_not, wC_ite, wL_ite, wA_nil, wA_int, wA_long, wE_call, wL_call, wS_skip, wS_seq, wS_set, wS_setL, wS_inc, wS_if, wS_put, wS_putL, wS_putOp, wS_putOpL, wS_ast, wS_astL, wS_aop, wS_aopL, wS_ret, wS_retL, wS_retV, wS_do, wS_pop, wS_dead, wS_sw, wF_body, Nat.reduceAdd, Nat.zero_add, Bool.not_not, true_and, and_true, if_true, if_false, ↓reduceIte, eq_self, Value.int.injEq, Value.long.injEq, exists_eq_left', ik_b1, ik_b0, ik_bz0, ik_bz3, ik_bz3_1, ik_bz3_0, ik_cmp, ik_cmpL, ik_eI, ik_eL, ik_as, ik_i0, ik_i1, decide_eq_true_eq, decide_eq_false_iff_not, decide_true, decide_false, Bool.not_true, Bool.not_false, reduceCtorEq, forall_const, false_implies, true_implies, implies_true, true_and, and_true, and_self, false_and, and_false, Bool.and_true, Bool.true_and, not_true_eq_false, not_false_eq_true, if_true, if_false, ite_true, ite_false, ik_bz3_0, ik_bz3_1, ik_bz0, wE_ite, gd]
          refine wF_mono (tail v3' bh' p1 st1 cs1 d1 d2 d3 d4 d4' d5 d6) ?_
          rintro v g2 (⟨rfl, hh⟩ | ⟨rfl, hh⟩)
          · simp (decide := true) only [Nat.reduceAdd, Nat.zero_add, Bool.not_not, true_and, and_true, if_true, if_false, ↓reduceIte, eq_self, Value.int.injEq, Value.long.injEq, exists_eq_left', ik_b1, ik_b0, ik_bz0, ik_bz3, ik_bz3_1, ik_bz3_0, ik_cmp, ik_cmpL, ik_eI, ik_eL, ik_as, ik_i0, ik_i1, decide_eq_true_eq, decide_eq_false_iff_not, decide_true, decide_false, Bool.not_true, Bool.not_false, reduceCtorEq, forall_const, false_implies, true_implies, implies_true, true_and, and_true, and_self, false_and, and_false, Bool.and_true, Bool.true_and, not_true_eq_false, not_false_eq_true, if_true, if_false, ite_true, ite_false, ik_bz3_0, ik_bz3_1, ik_bz0, upd_at]
            rcases hh with hh | ⟨b, p2, st2, cs2, c1, c2, c3, c4, c5, c6, c7, c8⟩
            · exact ⟨0, by omega, Or.inl hh⟩
            · exact ⟨k - 1, by omega, Or.inr (Or.inl ⟨b, p2, st2, cs2, c1, c2, c3, c4, c5, c6, c7, by omega⟩)⟩
          · simp (decide := true) only [Nat.reduceAdd, Nat.zero_add, Bool.not_not, true_and, and_true, if_true, if_false, ↓reduceIte, eq_self, Value.int.injEq, Value.long.injEq, exists_eq_left', ik_b1, ik_b0, ik_bz0, ik_bz3, ik_bz3_1, ik_bz3_0, ik_cmp, ik_cmpL, ik_eI, ik_eL, ik_as, ik_i0, ik_i1, decide_eq_true_eq, decide_eq_false_iff_not, decide_true, decide_false, Bool.not_true, Bool.not_false, reduceCtorEq, forall_const, false_implies, true_implies, implies_true, true_and, and_true, and_self, false_and, and_false, Bool.and_true, Bool.true_and, not_true_eq_false, not_false_eq_true, if_true, if_false, ite_true, ite_false, ik_bz3_0, ik_bz3_1, ik_bz0, upd_at]
            rcases hh with hh | ⟨p2, st2, cs2, c1, c2, c3, c4, c5, c6⟩
            · exact ⟨0, by omega, Or.inl hh⟩
            · exact ⟨0, by omega, Or.inr (Or.inr ⟨p2, st2, cs2, c1, c2, c3, c4, c5, c6⟩)⟩
        have e51 : v3.1 0 51 = ik_b2 b := b1.2.2.2.2.2.2.2.1
        cases b with
        | true =>
          have g := go v3 _ p' st' cs' b1 b2 b3 (by omega) (b5 rfl) b6 b7
          simp (decide := true) only [wE_lit, wL_lit, wE_loc, wL_loc, wE_add, wE_sub, wE_mul, wE_and, wE_or, wE_xor, wE_shl, wE_shr, wE_ushr, wE_div, wE_rem, wE_neg, wE_i2b, wE_l2i, wL_i2l, wL_add, wL_mul, wE_fld, wL_fld, wE_arr, wL_arr, wC_cmp, wC_cmp0, wC_cmpL, wC_and, wC_or, wC_not, wC_ite, wL_ite, wA_nil, wA_int, wA_long, wE_call, wL_call, wS_skip, wS_seq, wS_set, wS_setL, wS_inc, wS_if, wS_put, wS_putL, wS_putOp, wS_putOpL, wS_ast, wS_astL, wS_aop, wS_aopL, wS_ret, wS_retL, wS_retV, wS_do, wS_pop, wS_dead, wS_sw, wF_body, Nat.reduceAdd, Nat.zero_add, Bool.not_not, true_and, and_true, if_true, if_false, ↓reduceIte, eq_self, Value.int.injEq, Value.long.injEq, exists_eq_left', ik_b1, ik_b0, ik_bz0, ik_bz3, ik_bz3_1, ik_bz3_0, ik_cmp, ik_cmpL, ik_eI, ik_eL, ik_as, ik_i0, ik_i1, decide_eq_true_eq, decide_eq_false_iff_not, decide_true, decide_false, Bool.not_true, Bool.not_false, reduceCtorEq, forall_const, false_implies, true_implies, implies_true, true_and, and_true, and_self, false_and, and_false, Bool.and_true, Bool.true_and, not_true_eq_false, not_false_eq_true, if_true, if_false, ite_true, ite_false, ik_bz3_0, ik_bz3_1, ik_bz0, b0, b1.f1, e51, ik_b2] at g ⊢
          exact g
        | false =>
          have e51' : v3.1 0 51 = 0 := e51
          rw [wC_and]
          simp (decide := true) only [wE_lit, wL_lit, wE_loc, wL_loc, wE_add, wE_sub, wE_mul, wE_and, wE_or, wE_xor, wE_shl, wE_shr, wE_ushr, wE_div, wE_rem, wE_neg, wE_i2b, wE_l2i, wL_i2l, wL_add, wL_mul, wE_fld, wL_fld, wE_arr, wL_arr, wC_cmp, wC_cmp0, wC_cmpL, wC_and, wC_or, wC_not, wC_ite, wL_ite, wA_nil, wA_int, wA_long, wE_call, wL_call, wS_skip, wS_seq, wS_set, wS_setL, wS_inc, wS_if, wS_put, wS_putL, wS_putOp, wS_putOpL, wS_ast, wS_astL, wS_aop, wS_aopL, wS_ret, wS_retL, wS_retV, wS_do, wS_pop, wS_dead, wS_sw, wF_body, Nat.reduceAdd, Nat.zero_add, Bool.not_not, true_and, and_true, if_true, if_false, ↓reduceIte, eq_self, Value.int.injEq, Value.long.injEq, exists_eq_left', ik_b1, ik_b0, ik_bz0, ik_bz3, ik_bz3_1, ik_bz3_0, ik_cmp, ik_cmpL, ik_eI, ik_eL, ik_as, ik_i0, ik_i1, decide_eq_true_eq, decide_eq_false_iff_not, decide_true, decide_false, Bool.not_true, Bool.not_false, reduceCtorEq, forall_const, false_implies, true_implies, implies_true, true_and, and_true, and_self, false_and, and_false, Bool.and_true, Bool.true_and, not_true_eq_false, not_false_eq_true, if_true, if_false, ite_true, ite_false, ik_bz3_0, ik_bz3_1, ik_bz0, b0, b1.f1]
          rw [e51']
          simp (decide := true) only [wE_lit, wL_lit, wE_loc, wL_loc, wE_add, wE_sub, wE_mul, wE_and, wE_or, wE_xor, wE_shl, wE_shr, wE_ushr, wE_div, wE_rem, wE_neg, wE_i2b, wE_l2i, wL_i2l, wL_add, wL_mul, wE_fld, wL_fld, wE_arr, wL_arr, wC_cmp, wC_cmp0, wC_cmpL, wC_and, wC_or, wC_not, wC_ite, wL_ite, wA_nil, wA_int, wA_long, wE_call, wL_call, wS_skip, wS_seq, wS_set, wS_setL, wS_inc, wS_if, wS_put, wS_putL, wS_putOp, wS_putOpL, wS_ast, wS_astL, wS_aop, wS_aopL, wS_ret, wS_retL, wS_retV, wS_do, wS_pop, wS_dead, wS_sw, wF_body, Nat.reduceAdd, Nat.zero_add, Bool.not_not, true_and, and_true, if_true, if_false, ↓reduceIte, eq_self, Value.int.injEq, Value.long.injEq, exists_eq_left', ik_b1, ik_b0, ik_bz0, ik_bz3, ik_bz3_1, ik_bz3_0, ik_cmp, ik_cmpL, ik_eI, ik_eL, ik_as, ik_i0, ik_i1, decide_eq_true_eq, decide_eq_false_iff_not, decide_true, decide_false, Bool.not_true, Bool.not_false, reduceCtorEq, forall_const, false_implies, true_implies, implies_true, true_and, and_true, and_self, false_and, and_false, Bool.and_true, Bool.true_and, not_true_eq_false, not_false_eq_true, if_true, if_false, ite_true, ite_false, ik_bz3_0, ik_bz3_1, ik_bz0]
          refine wF_mono (w_factorM ht b1 b2 b3 b6 b7) ?_
          rintro _ g2 ⟨rfl, ⟨e, q, a1, a2⟩ | ⟨p2, st2, cs2, c1, c2, c3, c4, c5, c6⟩⟩
          · have a3 := a2.si0 (j := 51) (by omega) 0
            simp (decide := true) only [wE_lit, wL_lit, wE_loc, wL_loc, wE_add, wE_sub, wE_mul, wE_and, wE_or, wE_xor, wE_shl, wE_shr, wE_ushr, wE_div, wE_rem, wE_neg, wE_i2b, wE_l2i, wL_i2l, wL_add, wL_mul, wE_fld, wL_fld, wE_arr, wL_arr, wC_cmp, wC_cmp0, wC_cmpL, wC_and, wC_or, wC_not, wC_ite, wL_ite, wA_nil, wA_int, wA_long, wE_call, wL_call, wS_skip, wS_seq, wS_set, wS_setL, wS_inc, wS_if, wS_put, wS_putL, wS_putOp, wS_putOpL, wS_ast, wS_astL, wS_aop, wS_aopL, wS_ret, wS_retL, wS_retV, wS_do, wS_pop, wS_dead, wS_sw, wF_body, Nat.reduceAdd, Nat.zero_add, Bool.not_not, true_and, and_true, if_true, if_false, ↓reduceIte, eq_self, Value.int.injEq, Value.long.injEq, exists_eq_left', ik_b1, ik_b0, ik_bz0, ik_bz3, ik_bz3_1, ik_bz3_0, ik_cmp, ik_cmpL, ik_eI, ik_eL, ik_as, ik_i0, ik_i1, decide_eq_true_eq, decide_eq_false_iff_not, decide_true, decide_false, Bool.not_true, Bool.not_false, reduceCtorEq, forall_const, false_implies, true_implies, implies_true, true_and, and_true, and_self, false_and, and_false, Bool.and_true, Bool.true_and, not_true_eq_false, not_false_eq_true, if_true, if_false, ite_true, ite_false, ik_bz3_0, ik_bz3_1, ik_bz0, wE_ite, a3.f0, upd_at]
            exact ⟨0, by omega, Or.inl ⟨e, q, a1, a3⟩⟩
          · have g := go g2 _ p2 st2 cs2 c1 c2 c3 (by omega) (by omega) c5 c6
            simp (decide := true) only [wE_lit, wL_lit, wE_loc, wL_loc, wE_add, wE_sub, wE_mul, wE_and, wE_or, wE_xor, wE_shl, wE_shr, wE_ushr, wE_div, wE_rem, wE_neg, wE_i2b, wE_l2i, wL_i2l, wL_add, wL_mul, wE_fld, wL_fld, wE_arr, wL_arr, wC_cmp, wC_cmp0, wC_cmpL, wC_and, wC_or, wC_not, wC_ite, wL_ite, wA_nil, wA_int, wA_long, wE_call, wL_call, wS_skip, wS_seq, wS_set, wS_setL, wS_inc, wS_if, wS_put, wS_putL, wS_putOp, wS_putOpL, wS_ast, wS_astL, wS_aop, wS_aopL, wS_ret, wS_retL, wS_retV, wS_do, wS_pop, wS_dead, wS_sw, wF_body, Nat.reduceAdd, Nat.zero_add, Bool.not_not, true_and, and_true, if_true, if_false, ↓reduceIte, eq_self, Value.int.injEq, Value.long.injEq, exists_eq_left', ik_b1, ik_b0, ik_bz0, ik_bz3, ik_bz3_1, ik_bz3_0, ik_cmp, ik_cmpL, ik_eI, ik_eL, ik_as, ik_i0, ik_i1, decide_eq_true_eq, decide_eq_false_iff_not, decide_true, decide_false, Bool.not_true, Bool.not_false, reduceCtorEq, forall_const, false_implies, true_implies, implies_true, true_and, and_true, and_self, false_and, and_false, Bool.and_true, Bool.true_and, not_true_eq_false, not_false_eq_true, if_true, if_false, ite_true, ite_false, ik_bz3_0, ik_bz3_1, ik_bz0] at g ⊢
            exact g
      · simp only at b0 b1
        have he := w_endsM b1 (show st'.length + cs'.length ≤ 160 by omega)
        simp (decide := true) only [wE_lit, wL_lit, wE_loc, wL_loc, wE_add, wE_sub, wE_mul, wE_and, wE_or, wE_xor, wE_shl, wE_shr, wE_ushr, wE_div, wE_rem, wE_neg, wE_i2b, wE_l2i, wL_i2l, wL_add, wL_mul, wE_fld, wL_fld, wE_arr, wL_arr, wC_cmp, wC_cmp0, wC_cmpL, wC_and, wC_or, wC_not, wC_ite, wL_ite, wA_nil, wA_int, wA_long, wE_call, wL_call, wS_skip, wS_seq, wS_set, wS_setL, wS_inc, wS_if, wS_put, wS_putL, wS_putOp, wS_putOpL, wS_ast, wS_astL, wS_aop, wS_aopL, wS_ret, wS_retL, wS_retV, wS_do, wS_pop, wS_dead, wS_sw, wF_body, Nat.reduceAdd, Nat.zero_add, Bool.not_not, true_and, and_true, if_true, if_false, ↓reduceIte, eq_self, Value.int.injEq, Value.long.injEq, exists_eq_left', ik_b1, ik_b0, ik_bz0, ik_bz3, ik_bz3_1, ik_bz3_0, ik_cmp, ik_cmpL, ik_eI, ik_eL, ik_as, ik_i0, ik_i1, decide_eq_true_eq, decide_eq_false_iff_not, decide_true, decide_false, Bool.not_true, Bool.not_false, reduceCtorEq, forall_const, false_implies, true_implies, implies_true, true_and, and_true, and_self, false_and, and_false, Bool.and_true, Bool.true_and, not_true_eq_false, not_false_eq_true, if_true, if_false, ite_true, ite_false, ik_bz3_0, ik_bz3_1, ik_bz0, b0, b1.f1]
        refine wF_mono he ?_
        rintro _ g2 ⟨rfl, k1⟩
        have hlen := len_popE st' cs'
        refine ⟨rfl, Or.inr (Or.inr ⟨p', _, _, k1, b2, by omega, by omega, b5, ?_⟩)⟩
        have : ∀ (s : List Nat) (x : RC), opn (popE s x).1 ≤ opn s := by
          intro s
          induction s with
          | nil => intro x; exact Nat.le_refl _
          | cons v r ih =>
            intro x
            by_cases e : v = 33
            · subst e
              rw [popE_push, opn_yes (v := 33) (by decide)]
              have := ih (x ++ [(2, 0)])
              omega
            · rw [popE_end (show top1 (v :: r) ≠ 33 from e)]
              exact Nat.le_refl _
        have := this st' cs'
        omega
    · rcases hg1 with ⟨e, q, a1, a2⟩ | ⟨p1, st1, cs1, a1, a2, a3, a4, a5, a6⟩
      · exact Or.inl ⟨e, q, a1, a2.si0 (by omega) 0⟩
      · exact Or.inr (Or.inl ⟨upd_at u1 1 1, false, p1, st1, cs1, a1.set.2.2.2 0, a2, a3, a4, (fun h => by cases h), a5, a6, by omega⟩)
  rcases hyp with ⟨e, q, a1, a2⟩ | ⟨p', st', cs', a1, a2, a3, a4, a5, a6⟩
  · have r := rest u3 (Or.inl ⟨e, q, a1, a2⟩)
    simp (decide := true) only [wE_lit, wL_lit, wE_loc, wL_loc, wE_add, wE_sub, wE_mul, wE_and, wE_or, wE_xor, wE_shl, wE_shr, wE_ushr, wE_div, wE_rem, wE_neg, wE_i2b, wE_l2i, wL_i2l, wL_add, wL_mul, wE_fld, wL_fld, wE_arr, wL_arr, wC_cmp, wC_cmp0, wC_cmpL, wC_and, wC_or, wC_not, wC_ite, wL_ite, wA_nil, wA_int, wA_long, wE_call, wL_call, wS_skip, wS_seq, wS_set, wS_setL, wS_inc, wS_if, wS_put, wS_putL, wS_putOp, wS_putOpL, wS_ast, wS_astL, wS_aop, wS_aopL, wS_ret, wS_retL, wS_retV, wS_do, wS_pop, wS_dead, wS_sw, wF_body, Nat.reduceAdd, Nat.zero_add, Bool.not_not, true_and, and_true, if_true, if_false, ↓reduceIte, eq_self, Value.int.injEq, Value.long.injEq, exists_eq_left', ik_b1, ik_b0, ik_bz0, ik_bz3, ik_bz3_1, ik_bz3_0, ik_cmp, ik_cmpL, ik_eI, ik_eL, ik_as, ik_i0, ik_i1, decide_eq_true_eq, decide_eq_false_iff_not, decide_true, decide_false, Bool.not_true, Bool.not_false, reduceCtorEq, forall_const, false_implies, true_implies, implies_true, true_and, and_true, and_self, false_and, and_false, Bool.and_true, Bool.true_and, not_true_eq_false, not_false_eq_true, if_true, if_false, ite_true, ite_false, ik_bz3_0, ik_bz3_1, ik_bz0, a2.f0] at r ⊢
    exact r
  · have hr := fun Q => w_hereM ht a1.1 a1.2.1 (show p' < 2 ^ 31 by omega) Q
    have n33 := nI_is (hc p') (k := 33) (by omega) (a := 33) rfl
    have n40 := nI_is (hc p') (k := 40) (by omega) (a := 40) rfl
    obtain ⟨f1, f2⟩ := a2.next (show (0 : Nat) ≠ 4 by decide)
    have hau : auto c (0, p', st', cs') = if c p' = 33 ∨ c p' = 40 then (if opn st' = 6 then .inl (5, p') else .inr (0, p' + 1, c p' :: st', cs')) else .inr (1, p', st', cs') := rfl
    have hwf : wP st' := a2.2.2
    by_cases c0 : c p' = 33 ∨ c p' = 40
    · have hlt : p' < N := sp_end hz (by omega)
      have hop : sg_open (c p') = true := by rcases c0 with e | e <;> rw [e] <;> decide
      have main : wF fX12_opens [] u3 (fun v g2 => v = .null ∧ ∃ k', k' < m ∧ xtM c N g0 g2 ob bh 0 (max p (N - k')) R0) := by
        refine wF_mono (w_opensM ht a1 a3 hlt hop a6) ?_
        rintro _ g1 ⟨rfl, k1⟩
        refine ⟨rfl, ?_⟩
        rw [if_pos c0] at hau
        by_cases c6 : opn st' = 6
        · rw [if_pos c6] at k1 hau
          exact ⟨m - 1, by omega, Or.inl ⟨5, p', f1 _ hau, k1⟩⟩
        · rw [if_neg c6] at k1 hau
          have wf2 : wP (c p' :: st') := by
            rcases c0 with e | e
            · exact Or.inr (Or.inl ⟨e, hwf⟩)
            · exact Or.inl ⟨e, Or.inr hwf⟩
          refine ⟨m - 1, by omega, Or.inr ⟨p' + 1, c p' :: st', cs', k1, f2 _ hau wf2, by simp; omega, by omega, by omega, ?_⟩⟩
          have := opn_yes (r := st') hop
          omega
      by_cases c1 : c p' = 33
      · simp (decide := true) only [wE_lit, wL_lit, wE_loc, wL_loc, wE_add, wE_sub, wE_mul, wE_and, wE_or, wE_xor, wE_shl, wE_shr, wE_ushr, wE_div, wE_rem, wE_neg, wE_i2b, wE_l2i, wL_i2l, wL_add, wL_mul, wE_fld, wL_fld, wE_arr, wL_arr, wC_cmp, wC_cmp0, wC_cmpL, wC_and, wC_or, wC_not, wC_ite, wL_ite, wA_nil, wA_int, wA_long, wE_call, wL_call, wS_skip, wS_seq, wS_set, wS_setL, wS_inc, wS_if, wS_put, wS_putL, wS_putOp, wS_putOpL, wS_ast, wS_astL, wS_aop, wS_aopL, wS_ret, wS_retL, wS_retV, wS_do, wS_pop, wS_dead, wS_sw, wF_body, Nat.reduceAdd, Nat.zero_add, Bool.not_not, true_and, and_true, if_true, if_false, ↓reduceIte, eq_self, Value.int.injEq, Value.long.injEq, exists_eq_left', ik_b1, ik_b0, ik_bz0, ik_bz3, ik_bz3_1, ik_bz3_0, ik_cmp, ik_cmpL, ik_eI, ik_eL, ik_as, ik_i0, ik_i1, decide_eq_true_eq, decide_eq_false_iff_not, decide_true, decide_false, Bool.not_true, Bool.not_false, reduceCtorEq, forall_const, false_implies, true_implies, implies_true, true_and, and_true, and_self, false_and, and_false, Bool.and_true, Bool.true_and, not_true_eq_false, not_false_eq_true, if_true, if_false, ite_true, ite_false, ik_bz3_0, ik_bz3_1, ik_bz0, a1.f1, hr, n33, n40, c1]
        exact main
      · have c2 : c p' = 40 := c0.resolve_left c1
        simp (decide := true) only [wE_lit, wL_lit, wE_loc, wL_loc, wE_add, wE_sub, wE_mul, wE_and, wE_or, wE_xor, wE_shl, wE_shr, wE_ushr, wE_div, wE_rem, wE_neg, wE_i2b, wE_l2i, wL_i2l, wL_add, wL_mul, wE_fld, wL_fld, wE_arr, wL_arr, wC_cmp, wC_cmp0, wC_cmpL, wC_and, wC_or, wC_not, wC_ite, wL_ite, wA_nil, wA_int, wA_long, wE_call, wL_call, wS_skip, wS_seq, wS_set, wS_setL, wS_inc, wS_if, wS_put, wS_putL, wS_putOp, wS_putOpL, wS_ast, wS_astL, wS_aop, wS_aopL, wS_ret, wS_retL, wS_retV, wS_do, wS_pop, wS_dead, wS_sw, wF_body, Nat.reduceAdd, Nat.zero_add, Bool.not_not, true_and, and_true, if_true, if_false, ↓reduceIte, eq_self, Value.int.injEq, Value.long.injEq, exists_eq_left', ik_b1, ik_b0, ik_bz0, ik_bz3, ik_bz3_1, ik_bz3_0, ik_cmp, ik_cmpL, ik_eI, ik_eL, ik_as, ik_i0, ik_i1, decide_eq_true_eq, decide_eq_false_iff_not, decide_true, decide_false, Bool.not_true, Bool.not_false, reduceCtorEq, forall_const, false_implies, true_implies, implies_true, true_and, and_true, and_self, false_and, and_false, Bool.and_true, Bool.true_and, not_true_eq_false, not_false_eq_true, if_true, if_false, ite_true, ite_false, ik_bz3_0, ik_bz3_1, ik_bz0, a1.f1, hr, n33, n40, c2]
        exact main
    · rw [if_neg c0] at hau
      have c1 : ¬ c p' = 33 := fun h => c0 (Or.inl h)
      have c2 : ¬ c p' = 40 := fun h => c0 (Or.inr h)
      have r := rest u3 (Or.inr ⟨p', st', cs', a1, f2 _ hau hwf.F, a3, by omega, a5, a6⟩)
      simp (decide := true) only [wE_lit, wL_lit, wE_loc, wL_loc, wE_add, wE_sub, wE_mul, wE_and, wE_or, wE_xor, wE_shl, wE_shr, wE_ushr, wE_div, wE_rem, wE_neg, wE_i2b, wE_l2i, wL_i2l, wL_add, wL_mul, wE_fld, wL_fld, wE_arr, wL_arr, wC_cmp, wC_cmp0, wC_cmpL, wC_and, wC_or, wC_not, wC_ite, wL_ite, wA_nil, wA_int, wA_long, wE_call, wL_call, wS_skip, wS_seq, wS_set, wS_setL, wS_inc, wS_if, wS_put, wS_putL, wS_putOp, wS_putOpL, wS_ast, wS_astL, wS_aop, wS_aopL, wS_ret, wS_retL, wS_retV, wS_do, wS_pop, wS_dead, wS_sw, wF_body, Nat.reduceAdd, Nat.zero_add, Bool.not_not, true_and, and_true, if_true, if_false, ↓reduceIte, eq_self, Value.int.injEq, Value.long.injEq, exists_eq_left', ik_b1, ik_b0, ik_bz0, ik_bz3, ik_bz3_1, ik_bz3_0, ik_cmp, ik_cmpL, ik_eI, ik_eL, ik_as, ik_i0, ik_i1, decide_eq_true_eq, decide_eq_false_iff_not, decide_true, decide_false, Bool.not_true, Bool.not_false, reduceCtorEq, forall_const, false_implies, true_implies, implies_true, true_and, and_true, and_self, false_and, and_false, Bool.and_true, Bool.true_and, not_true_eq_false, not_false_eq_true, if_true, if_false, ite_true, ite_false, ik_bz3_0, ik_bz3_1, ik_bz0, a1.f1, hr, n33, n40, c1, c2] at r ⊢
      exact r
