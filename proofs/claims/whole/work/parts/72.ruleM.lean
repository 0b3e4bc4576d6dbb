/-- at a clause's place: nothing known of the stack -/
def enM (g0 g : GG) (p : Nat) (cs : RC) : Prop := frM g0 g ∧ g.1 0 30 = nI p ∧ g.1 0 32 = 0 ∧ g.1 0 47 = nI cs.length ∧ cdM g cs
theorem atM.en {g0 g : GG} {p : Nat} {st : List Nat} {cs : RC} {o : Nat} {ob : Bool} {bh : Int32} (h : atM g0 g p st cs o ob bh) : enM g0 g p cs := by
  obtain ⟨hf, h1, h2, h3, h4, h5, h6, h7, h8, h9⟩ := h
  exact ⟨hf, h1, h2, h3, h9⟩
theorem w_condM {c : Nat → Nat} {N p : Nat} {g0 g : GG} {cs : RC} (ht : txM c N g0) (h : enM g0 g p cs) (hl : cs.length ≤ p) (hp : p ≤ N) :
    wF fX12_condition [] g (fun v g' => v = .null ∧ match sp_cl2 c p with
      | .inl (e, q) => flM g0 g' e q
      | .inr (q, ds) => enM g0 g' q (cs ++ ds) ∧ (cs ++ ds).length ≤ q ∧ q ≤ N) := by
  obtain ⟨t1, t2, hz, t4⟩ := id ht
  have hc : ∀ k, c k < 256 := fun k => by
    by_cases hk : k < N
    · exact (t4 k hk).1
    · rw [hz k (by omega)]; decide
  obtain ⟨hf, h1, h2, h3, h9⟩ := h
  obtain ⟨y, hy⟩ : ∃ y, y = ik_si (ik_si (ik_si g 0 49 0) 0 48 0) 0 50 0 := ⟨_, rfl⟩
  have hyA : atM g0 y p [] cs (opn []) false (y.1 0 51) := by
    rw [hy]
    refine ⟨((hf.si0 (by omega) _).si0 (by omega) _).si0 (by omega) _, ?_, ?_, ?_, ?_, ?_, ?_, rfl, trivial, ?_⟩
    · simp (decide := true) only [ik_si_ne]; exact h1
    · simp (decide := true) only [ik_si_ne]; exact h2
    · simp (decide := true) only [ik_si_ne]; exact h3
    · rw [ik_si_ne _ _ _ _ _ (by omega), ik_si_same]; rfl
    · simp (decide := true) only [ik_si_ne, ik_si_same]
    · rw [ik_si_same]; rfl
    · intro k o hk
      simp (decide := true) only [ik_si_row]
      exact h9 k o hk
  have hr := fun Q => w_hereM ht hyA.1 hyA.2.1 (show p < 2 ^ 31 by omega) Q
  have n40 := nI_is (hc p) (k := 40) (by omega) (a := 40) rfl
  unfold fX12_condition
  by_cases c40 : c p = 40
  · have hlt : p < N := sp_end hz (by omega)
    have hA := a_cond hz t2 (show p + 1 ≤ N by omega) cs
    have hspec : sp_cl2 c p = sp_then (sp_C 5 (sp_lvl c 5) c (p + 1)) (fun q ds => if c q = 41 then .inr (q + 1, ds) else .inl (1, q)) := if_pos c40
    obtain ⟨R0, hR0, hRs⟩ : ∃ R0 : (Nat × Nat) ⊕ AS, FT c (0, p + 1, [40], cs) R0 ∧ match R0 with
        | .inl e => sp_cl2 c p = .inl e
        | .inr (_, q, _, cs') => ∃ ds, sp_cl2 c p = .inr (q, ds) ∧ cs' = cs ++ ds := by
      have w0 : wP [40] := Or.inl ⟨rfl, Or.inl rfl⟩
      rw [hspec]
      revert hA
      rcases sp_C 5 (sp_lvl c 5) c (p + 1) with ⟨e1, p1⟩ | ⟨q1, d1⟩
      · intro hA
        exact ⟨.inl (e1, p1), ⟨hA, trivial, w0⟩, rfl⟩
      · intro hA
        by_cases c41 : c q1 = 41
        · have hA' : RT c (0, p + 1, [40], cs) (.inr (4, q1 + 1, [], cs ++ d1)) := by
            have : (if c q1 = 41 then RT c (0, p + 1, [40], cs) (.inr (4, q1 + 1, [], cs ++ d1)) else RT c (0, p + 1, [40], cs) (.inl (1, q1))) := hA
            rw [if_pos c41] at this
            exact this
          refine ⟨_, ⟨hA', rfl, w0⟩, d1, ?_, rfl⟩
          show (if c q1 = 41 then (.inr (q1 + 1, d1) : RR) else .inl (1, q1)) = _
          rw [if_pos c41]
        · have hA' : RT c (0, p + 1, [40], cs) (.inl (1, q1)) := by
            have : (if c q1 = 41 then RT c (0, p + 1, [40], cs) (.inr (4, q1 + 1, [], cs ++ d1)) else RT c (0, p + 1, [40], cs) (.inl (1, q1))) := hA
            rw [if_neg c41] at this
            exact this
          refine ⟨_, ⟨hA', trivial, w0⟩, ?_⟩
          show (if c q1 = 41 then (.inr (q1 + 1, d1) : RR) else .inl (1, q1)) = _
          rw [if_neg c41]
    have ope := w_opensM ht hyA (by simpa using hl) hlt (by rw [c40]; decide) (by decide)
    simp only [show ¬ opn [] = 6 by decide, if_false, c40] at ope
    rw [hy] at ope hyA hr
    have gd := hyA.f1
    simp (decide := true) only [wE_lit, wL_lit, wE_loc, wL_loc, wE_add, wE_sub, wE_mul, wE_and, wE_or, wE_xor, wE_shl, wE_shr, wE_ushr, wE_div, wE_rem, wE_neg, wE_i2b, wE_l2i, wL_i2l, wL_add, wL_mul, wE_fld, wL_fld, wE_arr, wL_arr, wC_cmp, wC_cmp0, wC_cmpL, wC_and, wC_or, wC_not, wC_ite, wL_ite, wA_nil, wA_int, wA_long, wE_call, wL_call, wS_skip, wS_seq, wS_set, wS_setL, wS_inc, wS_if, wS_put, wS_putL, wS_putOp, wS_putOpL, wS_ast, wS_astL, wS_aop, wS_aopL, wS_ret, wS_retL, wS_retV, wS_do, wS_pop, wS_dead, wS_sw, wF_body, Nat.reduceAdd, Nat.zero_add, Bool.not_not, true_and, and_true, if_true, if_false, ↓reduceIte, eq_self, Value.int.injEq, Value.long.injEq, exists_eq_left', ik_b1, ik_b0, ik_bz0, ik_bz3, ik_bz3_1, ik_bz3_0, ik_cmp, ik_cmpL, ik_eI, ik_eL, ik_as, ik_i0, ik_i1, decide_eq_true_eq, decide_eq_false_iff_not, decide_true, decide_false, Bool.not_true, Bool.not_false, reduceCtorEq, forall_const, false_implies, true_implies, implies_true, true_and, and_true, and_self, false_and, and_false, Bool.and_true, Bool.true_and, not_true_eq_false, not_false_eq_true, if_true, if_false, ite_true, ite_false, ik_bz3_0, ik_bz3_1, ik_bz0, ik_b2, hr, n40, c40, gd] at ope ⊢
    refine wF_mono ope ?_
    rintro _ g1 ⟨rfl, k1⟩
    refine ⟨rfl, ?_⟩
    have fault : ∀ e q g', R0 = .inl (e, q) → flM g0 g' e q → match sp_cl2 c p with
        | .inl (e, q) => flM g0 g' e q
        | .inr (q, ds) => enM g0 g' q (cs ++ ds) ∧ (cs ++ ds).length ≤ q ∧ q ≤ N := by
      intro e q g' e1 e2
      rw [e1] at hRs
      have : sp_cl2 c p = .inl (e, q) := hRs
      rw [this]
      exact e2
    have over : ∀ q cs' g' ob bh, R0 = .inr (4, q, [], cs') → atM g0 g' q [] cs' 0 ob bh → cs'.length ≤ q → q ≤ N → match sp_cl2 c p with
        | .inl (e, q) => flM g0 g' e q
        | .inr (q, ds) => enM g0 g' q (cs ++ ds) ∧ (cs ++ ds).length ≤ q ∧ q ≤ N := by
      intro q cs' g' ob bh e1 e2 e3 e4
      rw [e1] at hRs
      obtain ⟨ds, hd, hd2⟩ := hRs
      rw [hd]
      subst hd2
      exact ⟨e2.en, e3, e4⟩
    refine wS_wh _ _ (fun k σ => (∃ e q, R0 = .inl (e, q) ∧ flM g0 σ.2.2 e q) ∨ (∃ q cs', R0 = .inr (4, q, [], cs') ∧ atM g0 σ.2.2 q [] cs' 0 true 0 ∧ cs'.length ≤ q ∧ q ≤ N) ∨
      (σ.1 1 = 1 ∧ ∃ bh, xtM c N g0 σ.2.2 false bh 0 (N + 1 - k) R0 ∧ 0 < k) ∨ (σ.1 1 = 0 ∧ xtM c N g0 σ.2.2 false 0 3 (N + 1 - k) R0 ∧ 0 < k)) ?_ ik_fuel (N + 1) _ (by unfold ik_fuel; omega) (Or.inr (Or.inr (Or.inl ⟨by simp [upd], _, Or.inr ⟨p + 1, [40], cs, k1, hR0, by simp; omega, by omega, by omega, by decide⟩, by omega⟩)))
    rintro k ⟨v1, v2, v3⟩ (⟨e, q, a1, a2⟩ | ⟨q, cs', a1, a2, a3, a4⟩ | ⟨b0, bh, hx, hk⟩ | ⟨b0, hx, hk⟩)
    · simp only at a2
      simp (decide := true) only [wE_lit, wL_lit, wE_loc, wL_loc, wE_add, wE_sub, wE_mul, wE_and, wE_or, wE_xor, wE_shl, wE_shr, wE_ushr, wE_div, wE_rem, wE_neg, wE_i2b, wE_l2i, wL_i2l, wL_add, wL_mul, wE_fld, wL_fld, wE_arr, wL_arr, wC_cmp, wC_cmp0, wC_cmpL, wC_and, wC_or, wC_not, wC_ite, wL_ite, wA_nil, wA_int, wA_long, wE_call, wL_call, wS_skip, wS_seq, wS_set, wS_setL, wS_inc, wS_if, wS_put, wS_putL, wS_putOp, wS_putOpL, wS_ast, wS_astL, wS_aop, wS_aopL, wS_ret, wS_retL, wS_retV, wS_do, wS_pop, wS_dead, wS_sw, wF_body, Nat.reduceAdd, Nat.zero_add, Bool.not_not, true_and, and_true, if_true, if_false, ↓reduceIte, eq_self, Value.int.injEq, Value.long.injEq, exists_eq_left', ik_b1, ik_b0, ik_bz0, ik_bz3, ik_bz3_1, ik_bz3_0, ik_cmp, ik_cmpL, ik_eI, ik_eL, ik_as, ik_i0, ik_i1, decide_eq_true_eq, decide_eq_false_iff_not, decide_true, decide_false, Bool.not_true, Bool.not_false, reduceCtorEq, forall_const, false_implies, true_implies, implies_true, true_and, and_true, and_self, false_and, and_false, Bool.and_true, Bool.true_and, not_true_eq_false, not_false_eq_true, if_true, if_false, ite_true, ite_false, ik_bz3_0, ik_bz3_1, ik_bz0, a2.f0]
      exact fault e q _ a1 a2
    · simp only at a2
      have e50 : v3.1 0 50 = 1 := a2.2.2.2.2.2.2.1
      simp (decide := true) only [wE_lit, wL_lit, wE_loc, wL_loc, wE_add, wE_sub, wE_mul, wE_and, wE_or, wE_xor, wE_shl, wE_shr, wE_ushr, wE_div, wE_rem, wE_neg, wE_i2b, wE_l2i, wL_i2l, wL_add, wL_mul, wE_fld, wL_fld, wE_arr, wL_arr, wC_cmp, wC_cmp0, wC_cmpL, wC_and, wC_or, wC_not, wC_ite, wL_ite, wA_nil, wA_int, wA_long, wE_call, wL_call, wS_skip, wS_seq, wS_set, wS_setL, wS_inc, wS_if, wS_put, wS_putL, wS_putOp, wS_putOpL, wS_ast, wS_astL, wS_aop, wS_aopL, wS_ret, wS_retL, wS_retV, wS_do, wS_pop, wS_dead, wS_sw, wF_body, Nat.reduceAdd, Nat.zero_add, Bool.not_not, true_and, and_true, if_true, if_false, ↓reduceIte, eq_self, Value.int.injEq, Value.long.injEq, exists_eq_left', ik_b1, ik_b0, ik_bz0, ik_bz3, ik_bz3_1, ik_bz3_0, ik_cmp, ik_cmpL, ik_eI, ik_eL, ik_as, ik_i0, ik_i1, decide_eq_true_eq, decide_eq_false_iff_not, decide_true, decide_false, Bool.not_true, Bool.not_false, reduceCtorEq, forall_const, false_implies, true_implies, implies_true, true_and, and_true, and_self, false_and, and_false, Bool.and_true, Bool.true_and, not_true_eq_false, not_false_eq_true, if_true, if_false, ite_true, ite_false, ik_bz3_0, ik_bz3_1, ik_bz0, a2.f1, e50]
      exact over q cs' _ _ _ a1 a2 a3 a4
    · simp only at b0 hx
      rcases hx with ⟨e, q, a1, a2⟩ | ⟨p', st', cs', a1, a2, a3, a4, a5, a6⟩
      · simp (decide := true) only [wE_lit, wL_lit, wE_loc, wL_loc, wE_add, wE_sub, wE_mul, wE_and, wE_or, wE_xor, wE_shl, wE_shr, wE_ushr, wE_div, wE_rem, wE_neg, wE_i2b, wE_l2i, wL_i2l, wL_add, wL_mul, wE_fld, wL_fld, wE_arr, wL_arr, wC_cmp, wC_cmp0, wC_cmpL, wC_and, wC_or, wC_not, wC_ite, wL_ite, wA_nil, wA_int, wA_long, wE_call, wL_call, wS_skip, wS_seq, wS_set, wS_setL, wS_inc, wS_if, wS_put, wS_putL, wS_putOp, wS_putOpL, wS_ast, wS_astL, wS_aop, wS_aopL, wS_ret, wS_retL, wS_retV, wS_do, wS_pop, wS_dead, wS_sw, wF_body, Nat.reduceAdd, Nat.zero_add, Bool.not_not, true_and, and_true, if_true, if_false, ↓reduceIte, eq_self, Value.int.injEq, Value.long.injEq, exists_eq_left', ik_b1, ik_b0, ik_bz0, ik_bz3, ik_bz3_1, ik_bz3_0, ik_cmp, ik_cmpL, ik_eI, ik_eL, ik_as, ik_i0, ik_i1, decide_eq_true_eq, decide_eq_false_iff_not, decide_true, decide_false, Bool.not_true, Bool.not_false, reduceCtorEq, forall_const, false_implies, true_implies, implies_true, true_and, and_true, and_self, false_and, and_false, Bool.and_true, Bool.true_and, not_true_eq_false, not_false_eq_true, if_true, if_false, ite_true, ite_false, ik_bz3_0, ik_bz3_1, ik_bz0, a2.f0]
        exact fault e q _ a1 a2
      · have e50 : v3.1 0 50 = 0 := a1.2.2.2.2.2.2.1
        simp (decide := true) only [wE_lit, wL_lit, wE_loc, wL_loc, wE_add, wE_sub, wE_mul, wE_and, wE_or, wE_xor, wE_shl, wE_shr, wE_ushr, wE_div, wE_rem, wE_neg, wE_i2b, wE_l2i, wL_i2l, wL_add, wL_mul, wE_fld, wL_fld, wE_arr, wL_arr, wC_cmp, wC_cmp0, wC_cmpL, wC_and, wC_or, wC_not, wC_ite, wL_ite, wA_nil, wA_int, wA_long, wE_call, wL_call, wS_skip, wS_seq, wS_set, wS_setL, wS_inc, wS_if, wS_put, wS_putL, wS_putOp, wS_putOpL, wS_ast, wS_astL, wS_aop, wS_aopL, wS_ret, wS_retL, wS_retV, wS_do, wS_pop, wS_dead, wS_sw, wF_body, Nat.reduceAdd, Nat.zero_add, Bool.not_not, true_and, and_true, if_true, if_false, ↓reduceIte, eq_self, Value.int.injEq, Value.long.injEq, exists_eq_left', ik_b1, ik_b0, ik_bz0, ik_bz3, ik_bz3_1, ik_bz3_0, ik_cmp, ik_cmpL, ik_eI, ik_eL, ik_as, ik_i0, ik_i1, decide_eq_true_eq, decide_eq_false_iff_not, decide_true, decide_false, Bool.not_true, Bool.not_false, reduceCtorEq, forall_const, false_implies, true_implies, implies_true, true_and, and_true, and_self, false_and, and_false, Bool.and_true, Bool.true_and, not_true_eq_false, not_false_eq_true, if_true, if_false, ite_true, ite_false, ik_bz3_0, ik_bz3_1, ik_bz0, a1.f1, e50, b0]
        refine wF_mono (w_pieceM ht a1 a2 a3 a5 a6) ?_
        have stop : ∀ (g2 : GG) e q, R0 = .inl (e, q) → flM g0 g2 e q → ∃ k', k' < k ∧ ((∃ e q, R0 = .inl (e, q) ∧ flM g0 g2 e q) ∨ (∃ q cs', R0 = .inr (4, q, [], cs') ∧ atM g0 g2 q [] cs' 0 true 0 ∧ cs'.length ≤ q ∧ q ≤ N) ∨
          (∃ bh, xtM c N g0 g2 false bh 0 (N + 1 - k') R0 ∧ 0 < k')) := fun g2 e q e1 e2 => ⟨0, hk, Or.inl ⟨e, q, e1, e2⟩⟩
        rintro _ g2 ⟨rfl, ⟨e, q, e1, e2⟩ | ⟨e, q, e1, e2⟩ | ⟨p2, st2, cs2, c1, c2, c3, c4, c5, c6⟩⟩
        · simp (decide := true) only [wE_lit, wL_lit, wE_loc, wL_loc, wE_add, wE_sub, wE_mul, wE_and, wE_or, wE_xor, wE_shl, wE_shr, wE_ushr, wE_div, wE_rem, wE_neg, wE_i2b, wE_l2i, wL_i2l, wL_add, wL_mul, wE_fld, wL_fld, wE_arr, wL_arr, wC_cmp, wC_cmp0, wC_cmpL, wC_and, wC_or, wC_not, wC_ite, wL_ite, wA_nil, wA_int, wA_long, wE_call, wL_call, wS_skip, wS_seq, wS_set, wS_setL, wS_inc, wS_if, wS_put, wS_putL, wS_putOp, wS_putOpL, wS_ast, wS_astL, wS_aop, wS_aopL, wS_ret, wS_retL, wS_retV, wS_do, wS_pop, wS_dead, wS_sw, wF_body, Nat.reduceAdd, Nat.zero_add, Bool.not_not, true_and, and_true, if_true, if_false, ↓reduceIte, eq_self, Value.int.injEq, Value.long.injEq, exists_eq_left', ik_b1, ik_b0, ik_bz0, ik_bz3, ik_bz3_1, ik_bz3_0, ik_cmp, ik_cmpL, ik_eI, ik_eL, ik_as, ik_i0, ik_i1, decide_eq_true_eq, decide_eq_false_iff_not, decide_true, decide_false, Bool.not_true, Bool.not_false, reduceCtorEq, forall_const, false_implies, true_implies, implies_true, true_and, and_true, and_self, false_and, and_false, Bool.and_true, Bool.true_and, not_true_eq_false, not_false_eq_true, if_true, if_false, ite_true, ite_false, ik_bz3_0, ik_bz3_1, ik_bz0, e2.f0, b0]
          exact ⟨0, hk, Or.inl ⟨e, q, e1, e2⟩⟩
        · simp (decide := true) only [wE_lit, wL_lit, wE_loc, wL_loc, wE_add, wE_sub, wE_mul, wE_and, wE_or, wE_xor, wE_shl, wE_shr, wE_ushr, wE_div, wE_rem, wE_neg, wE_i2b, wE_l2i, wL_i2l, wL_add, wL_mul, wE_fld, wL_fld, wE_arr, wL_arr, wC_cmp, wC_cmp0, wC_cmpL, wC_and, wC_or, wC_not, wC_ite, wL_ite, wA_nil, wA_int, wA_long, wE_call, wL_call, wS_skip, wS_seq, wS_set, wS_setL, wS_inc, wS_if, wS_put, wS_putL, wS_putOp, wS_putOpL, wS_ast, wS_astL, wS_aop, wS_aopL, wS_ret, wS_retL, wS_retV, wS_do, wS_pop, wS_dead, wS_sw, wF_body, Nat.reduceAdd, Nat.zero_add, Bool.not_not, true_and, and_true, if_true, if_false, ↓reduceIte, eq_self, Value.int.injEq, Value.long.injEq, exists_eq_left', ik_b1, ik_b0, ik_bz0, ik_bz3, ik_bz3_1, ik_bz3_0, ik_cmp, ik_cmpL, ik_eI, ik_eL, ik_as, ik_i0, ik_i1, decide_eq_true_eq, decide_eq_false_iff_not, decide_true, decide_false, Bool.not_true, Bool.not_false, reduceCtorEq, forall_const, false_implies, true_implies, implies_true, true_and, and_true, and_self, false_and, and_false, Bool.and_true, Bool.true_and, not_true_eq_false, not_false_eq_true, if_true, if_false, ite_true, ite_false, ik_bz3_0, ik_bz3_1, ik_bz0, e2.f0, b0]
          exact ⟨0, hk, Or.inl ⟨e, q, e1, e2⟩⟩
        · simp (decide := true) only [wE_lit, wL_lit, wE_loc, wL_loc, wE_add, wE_sub, wE_mul, wE_and, wE_or, wE_xor, wE_shl, wE_shr, wE_ushr, wE_div, wE_rem, wE_neg, wE_i2b, wE_l2i, wL_i2l, wL_add, wL_mul, wE_fld, wL_fld, wE_arr, wL_arr, wC_cmp, wC_cmp0, wC_cmpL, wC_and, wC_or, wC_not, wC_ite, wL_ite, wA_nil, wA_int, wA_long, wE_call, wL_call, wS_skip, wS_seq, wS_set, wS_setL, wS_inc, wS_if, wS_put, wS_putL, wS_putOp, wS_putOpL, wS_ast, wS_astL, wS_aop, wS_aopL, wS_ret, wS_retL, wS_retV, wS_do, wS_pop, wS_dead, wS_sw, wF_body, Nat.reduceAdd, Nat.zero_add, Bool.not_not, true_and, and_true, if_true, if_false, ↓reduceIte, eq_self, Value.int.injEq, Value.long.injEq, exists_eq_left', ik_b1, ik_b0, ik_bz0, ik_bz3, ik_bz3_1, ik_bz3_0, ik_cmp, ik_cmpL, ik_eI, ik_eL, ik_as, ik_i0, ik_i1, decide_eq_true_eq, decide_eq_false_iff_not, decide_true, decide_false, Bool.not_true, Bool.not_false, reduceCtorEq, forall_const, false_implies, true_implies, implies_true, true_and, and_true, and_self, false_and, and_false, Bool.and_true, Bool.true_and, not_true_eq_false, not_false_eq_true, if_true, if_false, ite_true, ite_false, ik_bz3_0, ik_bz3_1, ik_bz0, c1.f1]
          refine wF_mono (w_behindM ht c1 c2 c3 c5 c6) ?_
          rintro v g3 (⟨rfl, hh⟩ | ⟨rfl, hh⟩)
          · simp (decide := true) only [Nat.reduceAdd, Nat.zero_add, Bool.not_not, true_and, and_true, if_true, if_false, ↓reduceIte, eq_self, Value.int.injEq, Value.long.injEq, exists_eq_left', ik_b1, ik_b0, ik_bz0, ik_bz3, ik_bz3_1, ik_bz3_0, ik_cmp, ik_cmpL, ik_eI, ik_eL, ik_as, ik_i0, ik_i1, decide_eq_true_eq, decide_eq_false_iff_not, decide_true, decide_false, Bool.not_true, Bool.not_false, reduceCtorEq, forall_const, false_implies, true_implies, implies_true, true_and, and_true, and_self, false_and, and_false, Bool.and_true, Bool.true_and, not_true_eq_false, not_false_eq_true, if_true, if_false, ite_true, ite_false, ik_bz3_0, ik_bz3_1, ik_bz0, upd_at]
            rcases hh with ⟨e, q, e1, e2⟩ | ⟨p3, st3, cs3, d1, d2, d3, d4, d5, d6⟩
            · exact ⟨0, hk, Or.inl ⟨e, q, e1, e2⟩⟩
            · exact ⟨k - 1, by omega, Or.inr (Or.inr (Or.inl ⟨0, Or.inr ⟨p3, st3, cs3, d1, d2, d3, by omega, d5, d6⟩, by omega⟩))⟩
          · simp (decide := true) only [Nat.reduceAdd, Nat.zero_add, Bool.not_not, true_and, and_true, if_true, if_false, ↓reduceIte, eq_self, Value.int.injEq, Value.long.injEq, exists_eq_left', ik_b1, ik_b0, ik_bz0, ik_bz3, ik_bz3_1, ik_bz3_0, ik_cmp, ik_cmpL, ik_eI, ik_eL, ik_as, ik_i0, ik_i1, decide_eq_true_eq, decide_eq_false_iff_not, decide_true, decide_false, Bool.not_true, Bool.not_false, reduceCtorEq, forall_const, false_implies, true_implies, implies_true, true_and, and_true, and_self, false_and, and_false, Bool.and_true, Bool.true_and, not_true_eq_false, not_false_eq_true, if_true, if_false, ite_true, ite_false, ik_bz3_0, ik_bz3_1, ik_bz0, upd_at]
            rcases hh with ⟨e, q, e1, e2⟩ | (⟨e, q, e1, e2⟩ | ⟨p3, st3, cs3, d1, d2, d3, d4, d5, d6⟩) | ⟨cs3, d1, d2, d3, d4⟩
            · exact ⟨0, hk, Or.inl ⟨e, q, e1, e2⟩⟩
            · exact ⟨0, hk, Or.inl ⟨e, q, e1, e2⟩⟩
            · exact ⟨k - 1, by omega, Or.inr (Or.inr (Or.inr ⟨Or.inr ⟨p3, st3, cs3, d1, d2, d3, by omega, d5, d6⟩, by omega⟩))⟩
            · exact ⟨0, hk, Or.inr (Or.inl ⟨p2 + 1, cs3, d1, d2, d3, d4⟩)⟩
    · simp only at b0 hx
      rcases hx with ⟨e, q, a1, a2⟩ | ⟨p2, st2, cs2, c1, c2, c3, c4, c5, c6⟩
      · simp (decide := true) only [wE_lit, wL_lit, wE_loc, wL_loc, wE_add, wE_sub, wE_mul, wE_and, wE_or, wE_xor, wE_shl, wE_shr, wE_ushr, wE_div, wE_rem, wE_neg, wE_i2b, wE_l2i, wL_i2l, wL_add, wL_mul, wE_fld, wL_fld, wE_arr, wL_arr, wC_cmp, wC_cmp0, wC_cmpL, wC_and, wC_or, wC_not, wC_ite, wL_ite, wA_nil, wA_int, wA_long, wE_call, wL_call, wS_skip, wS_seq, wS_set, wS_setL, wS_inc, wS_if, wS_put, wS_putL, wS_putOp, wS_putOpL, wS_ast, wS_astL, wS_aop, wS_aopL, wS_ret, wS_retL, wS_retV, wS_do, wS_pop, wS_dead, wS_sw, wF_body, Nat.reduceAdd, Nat.zero_add, Bool.not_not, true_and, and_true, if_true, if_false, ↓reduceIte, eq_self, Value.int.injEq, Value.long.injEq, exists_eq_left', ik_b1, ik_b0, ik_bz0, ik_bz3, ik_bz3_1, ik_bz3_0, ik_cmp, ik_cmpL, ik_eI, ik_eL, ik_as, ik_i0, ik_i1, decide_eq_true_eq, decide_eq_false_iff_not, decide_true, decide_false, Bool.not_true, Bool.not_false, reduceCtorEq, forall_const, false_implies, true_implies, implies_true, true_and, and_true, and_self, false_and, and_false, Bool.and_true, Bool.true_and, not_true_eq_false, not_false_eq_true, if_true, if_false, ite_true, ite_false, ik_bz3_0, ik_bz3_1, ik_bz0, a2.f0]
        exact fault e q _ a1 a2
      · have e50 : v3.1 0 50 = 0 := c1.2.2.2.2.2.2.1
        simp (decide := true) only [wE_lit, wL_lit, wE_loc, wL_loc, wE_add, wE_sub, wE_mul, wE_and, wE_or, wE_xor, wE_shl, wE_shr, wE_ushr, wE_div, wE_rem, wE_neg, wE_i2b, wE_l2i, wL_i2l, wL_add, wL_mul, wE_fld, wL_fld, wE_arr, wL_arr, wC_cmp, wC_cmp0, wC_cmpL, wC_and, wC_or, wC_not, wC_ite, wL_ite, wA_nil, wA_int, wA_long, wE_call, wL_call, wS_skip, wS_seq, wS_set, wS_setL, wS_inc, wS_if, wS_put, wS_putL, wS_putOp, wS_putOpL, wS_ast, wS_astL, wS_aop, wS_aopL, wS_ret, wS_retL, wS_retV, wS_do, wS_pop, wS_dead, wS_sw, wF_body, Nat.reduceAdd, Nat.zero_add, Bool.not_not, true_and, and_true, if_true, if_false, ↓reduceIte, eq_self, Value.int.injEq, Value.long.injEq, exists_eq_left', ik_b1, ik_b0, ik_bz0, ik_bz3, ik_bz3_1, ik_bz3_0, ik_cmp, ik_cmpL, ik_eI, ik_eL, ik_as, ik_i0, ik_i1, decide_eq_true_eq, decide_eq_false_iff_not, decide_true, decide_false, Bool.not_true, Bool.not_false, reduceCtorEq, forall_const, false_implies, true_implies, implies_true, true_and, and_true, and_self, false_and, and_false, Bool.and_true, Bool.true_and, not_true_eq_false, not_false_eq_true, if_true, if_false, ite_true, ite_false, ik_bz3_0, ik_bz3_1, ik_bz0, c1.f1, e50, b0]
        refine wF_mono (w_behindM ht c1 c2 c3 c5 c6) ?_
        rintro v g3 (⟨rfl, hh⟩ | ⟨rfl, hh⟩)
        · simp (decide := true) only [Nat.reduceAdd, Nat.zero_add, Bool.not_not, true_and, and_true, if_true, if_false, ↓reduceIte, eq_self, Value.int.injEq, Value.long.injEq, exists_eq_left', ik_b1, ik_b0, ik_bz0, ik_bz3, ik_bz3_1, ik_bz3_0, ik_cmp, ik_cmpL, ik_eI, ik_eL, ik_as, ik_i0, ik_i1, decide_eq_true_eq, decide_eq_false_iff_not, decide_true, decide_false, Bool.not_true, Bool.not_false, reduceCtorEq, forall_const, false_implies, true_implies, implies_true, true_and, and_true, and_self, false_and, and_false, Bool.and_true, Bool.true_and, not_true_eq_false, not_false_eq_true, if_true, if_false, ite_true, ite_false, ik_bz3_0, ik_bz3_1, ik_bz0, upd_at]
          rcases hh with ⟨e, q, e1, e2⟩ | ⟨p3, st3, cs3, d1, d2, d3, d4, d5, d6⟩
          · exact ⟨0, hk, Or.inl ⟨e, q, e1, e2⟩⟩
          · exact ⟨k - 1, by omega, Or.inr (Or.inr (Or.inl ⟨0, Or.inr ⟨p3, st3, cs3, d1, d2, d3, by omega, d5, d6⟩, by omega⟩))⟩
        · simp (decide := true) only [Nat.reduceAdd, Nat.zero_add, Bool.not_not, true_and, and_true, if_true, if_false, ↓reduceIte, eq_self, Value.int.injEq, Value.long.injEq, exists_eq_left', ik_b1, ik_b0, ik_bz0, ik_bz3, ik_bz3_1, ik_bz3_0, ik_cmp, ik_cmpL, ik_eI, ik_eL, ik_as, ik_i0, ik_i1, decide_eq_true_eq, decide_eq_false_iff_not, decide_true, decide_false, Bool.not_true, Bool.not_false, reduceCtorEq, forall_const, false_implies, true_implies, implies_true, true_and, and_true, and_self, false_and, and_false, Bool.and_true, Bool.true_and, not_true_eq_false, not_false_eq_true, if_true, if_false, ite_true, ite_false, ik_bz3_0, ik_bz3_1, ik_bz0, upd_at]
          rcases hh with ⟨e, q, e1, e2⟩ | (⟨e, q, e1, e2⟩ | ⟨p3, st3, cs3, d1, d2, d3, d4, d5, d6⟩) | ⟨cs3, d1, d2, d3, d4⟩
          · exact ⟨0, hk, Or.inl ⟨e, q, e1, e2⟩⟩
          · exact ⟨0, hk, Or.inl ⟨e, q, e1, e2⟩⟩
          · exact ⟨k - 1, by omega, Or.inr (Or.inr (Or.inr ⟨Or.inr ⟨p3, st3, cs3, d1, d2, d3, by omega, d5, d6⟩, by omega⟩))⟩
          · exact ⟨0, hk, Or.inr (Or.inl ⟨p2 + 1, cs3, d1, d2, d3, d4⟩)⟩
  · have hspec : sp_cl2 c p = .inl (1, p) := if_neg c40
    rw [hspec]
    have e30 : y.1 0 30 = nI p := hyA.2.1
    have wr := fun Q => w_wrongs (g := y) (e := 1) (p := p) hyA.2.2.1 Q (v := 1) rfl
    have hb := hyA.bad (e := 1) (q := p) (by omega) (by omega)
    rw [hy] at hyA hr e30 wr hb
    simp (decide := true) only [wE_lit, wL_lit, wE_loc, wL_loc, wE_add, wE_sub, wE_mul, wE_and, wE_or, wE_xor, wE_shl, wE_shr, wE_ushr, wE_div, wE_rem, wE_neg, wE_i2b, wE_l2i, wL_i2l, wL_add, wL_mul, wE_fld, wL_fld, wE_arr, wL_arr, wC_cmp, wC_cmp0, wC_cmpL, wC_and, wC_or, wC_not, wC_ite, wL_ite, wA_nil, wA_int, wA_long, wE_call, wL_call, wS_skip, wS_seq, wS_set, wS_setL, wS_inc, wS_if, wS_put, wS_putL, wS_putOp, wS_putOpL, wS_ast, wS_astL, wS_aop, wS_aopL, wS_ret, wS_retL, wS_retV, wS_do, wS_pop, wS_dead, wS_sw, wF_body, Nat.reduceAdd, Nat.zero_add, Bool.not_not, true_and, and_true, if_true, if_false, ↓reduceIte, eq_self, Value.int.injEq, Value.long.injEq, exists_eq_left', ik_b1, ik_b0, ik_bz0, ik_bz3, ik_bz3_1, ik_bz3_0, ik_cmp, ik_cmpL, ik_eI, ik_eL, ik_as, ik_i0, ik_i1, decide_eq_true_eq, decide_eq_false_iff_not, decide_true, decide_false, Bool.not_true, Bool.not_false, reduceCtorEq, forall_const, false_implies, true_implies, implies_true, true_and, and_true, and_self, false_and, and_false, Bool.and_true, Bool.true_and, not_true_eq_false, not_false_eq_true, if_true, if_false, ite_true, ite_false, ik_bz3_0, ik_bz3_1, ik_bz0, hr, n40, c40, e30, wr, hb.f0]
    exact hb
