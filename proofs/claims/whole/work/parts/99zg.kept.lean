theorem w_habits {x m g : GG} {N B S T n H : Nat} {c : Nat → Nat} {M : Nat} {L : List (Nat × RC)} (h : rE x m N B S) (hR : rlD c M L x m) (hmn : m.1 0 7 = nI n) (hn : n ≤ 20) (hH : m.1 0 8 = nI H) (hH60 : H ≤ 60) (hmT : m.1 0 6 = nI T) (hT : T ≤ 20) (hB : 0 < B) (hm : eqM m g) :
    wF fX12_habits [] g (fun v g' => v = .null ∧ eqM m g' ∧ ∀ k i, k < B → i < N → g'.1 46 (24 * k + i) = LH N B S T n m L k i (N ^ B)) := by
  have hN24 := h.2.2.1.1
  have hB4 := h.2.2.2.1.1
  have eN := h.2.2.1.2.2.1
  have eB := h.2.2.2.1.2.2.1
  have pNB := NB_lt hN24 hB4
  obtain ⟨_, g1, ea, rfl, k1, k2, k3, k4⟩ := w_asks h hR hmn hn hH hH60 hm
  unfold fX12_habits
  simp (decide := true) only [wE_lit, wL_lit, wE_loc, wL_loc, wE_add, wE_sub, wE_mul, wE_and, wE_or, wE_xor, wE_shl, wE_shr, wE_ushr, wE_div, wE_rem, wE_neg, wE_i2b, wE_l2i, wL_i2l, wL_add, wL_mul, wE_fld, wL_fld, wE_arr, wL_arr, wC_cmp, wC_cmp0, wC_cmpL, wC_and, wC_or, wC_not, wC_ite, wL_ite, wA_nil, wA_int, wA_long, wE_call, wL_call, wS_skip, wS_seq, wS_set, wS_setL, wS_inc, wS_if, wS_put, wS_putL, wS_putOp, wS_putOpL, wS_ast, wS_astL, wS_aop, wS_aopL, wS_ret, wS_retL, wS_retV, wS_do, wS_pop, wS_dead, wS_sw, wF_body, Nat.reduceAdd, Nat.zero_add, Bool.not_not, true_and, and_true, if_true, if_false, ↓reduceIte, eq_self, Value.int.injEq, Value.long.injEq, exists_eq_left', ik_b1, ik_b0, ik_bz0, ik_bz3, ik_bz3_1, ik_bz3_0, ik_cmp, ik_cmpL, ik_eI, ik_eL, ik_as, ik_i0, ik_i1, decide_eq_true_eq, decide_eq_false_iff_not, decide_true, decide_false, Bool.not_true, Bool.not_false, reduceCtorEq, forall_const, false_implies, true_implies, implies_true, true_and, and_true, and_self, false_and, and_false, Bool.and_true, Bool.true_and, not_true_eq_false, not_false_eq_true, if_true, if_false, ite_true, ite_false, ik_bz3_0, ik_bz3_1, ik_bz0, wF_eq ea]
  refine wS_for _ _ (fun k σ => σ.1 1 = nI k ∧ (∀ a, a ≠ 46 → σ.2.2.1 a = g1.1 a) ∧ ∀ j, j < k → σ.2.2.1 46 j = 201) 0 96 _ ⟨by simp [upd, nI_0], fun _ _ => rfl, fun j hj => by omega⟩ (by omega) (by omega) ?_ ?_ ?_
  · rintro k ⟨s1, s2, s3⟩ h1 ⟨h2, -⟩
    exact wc_L (n := 96) (by omega) h1 h2
  · rintro k ⟨s1, s2, s3⟩ h1 ⟨h2, h3, h4⟩
    simp only at h2 h3 h4
    simp (decide := true) only [wE_lit, wL_lit, wE_loc, wL_loc, wE_add, wE_sub, wE_mul, wE_and, wE_or, wE_xor, wE_shl, wE_shr, wE_ushr, wE_div, wE_rem, wE_neg, wE_i2b, wE_l2i, wL_i2l, wL_add, wL_mul, wE_fld, wL_fld, wE_arr, wL_arr, wC_cmp, wC_cmp0, wC_cmpL, wC_and, wC_or, wC_not, wC_ite, wL_ite, wA_nil, wA_int, wA_long, wE_call, wL_call, wS_skip, wS_seq, wS_set, wS_setL, wS_inc, wS_if, wS_put, wS_putL, wS_putOp, wS_putOpL, wS_ast, wS_astL, wS_aop, wS_aopL, wS_ret, wS_retL, wS_retV, wS_do, wS_pop, wS_dead, wS_sw, wF_body, Nat.reduceAdd, Nat.zero_add, Bool.not_not, true_and, and_true, if_true, if_false, ↓reduceIte, eq_self, Value.int.injEq, Value.long.injEq, exists_eq_left', ik_b1, ik_b0, ik_bz0, ik_bz3, ik_bz3_1, ik_bz3_0, ik_cmp, ik_cmpL, ik_eI, ik_eL, ik_as, ik_i0, ik_i1, decide_eq_true_eq, decide_eq_false_iff_not, decide_true, decide_false, Bool.not_true, Bool.not_false, reduceCtorEq, forall_const, false_implies, true_implies, implies_true, true_and, and_true, and_self, false_and, and_false, Bool.and_true, Bool.true_and, not_true_eq_false, not_false_eq_true, if_true, if_false, ite_true, ite_false, ik_bz3_0, ik_bz3_1, ik_bz0, h2, ik_ix_nI (show k < 96 by omega) (by omega), Option.some.injEq, upd_at, upd_off, nI_1, nI_add]
    refine ⟨fun a ha => by rw [ik_si_row _ _ _ _ _ ha]; exact h3 a ha, fun j hj => ?_⟩
    by_cases e : j = k
    · subst e; exact ik_si_same _ _ _ _
    · rw [ik_si_ne _ _ _ _ _ e]; exact h4 j (by omega)
  rintro ⟨s1, s2, s3⟩ ⟨h2, h3, h4⟩
  simp only at h3 h4
  have k6 : eqM m s3 := ⟨fun a ha => by rw [h3 a (by omega)]; exact k1.1 a ha, fun j hj => by rw [h3 0 (by decide)]; exact k1.2 j hj⟩
  obtain ⟨_, g3, eb, rfl, l1, l2, l3, l4⟩ := w_beginsM hN24 eN hB4 eB hB k6
  simp (decide := true) only [wE_lit, wL_lit, wE_loc, wL_loc, wE_add, wE_sub, wE_mul, wE_and, wE_or, wE_xor, wE_shl, wE_shr, wE_ushr, wE_div, wE_rem, wE_neg, wE_i2b, wE_l2i, wL_i2l, wL_add, wL_mul, wE_fld, wL_fld, wE_arr, wL_arr, wC_cmp, wC_cmp0, wC_cmpL, wC_and, wC_or, wC_not, wC_ite, wL_ite, wA_nil, wA_int, wA_long, wE_call, wL_call, wS_skip, wS_seq, wS_set, wS_setL, wS_inc, wS_if, wS_put, wS_putL, wS_putOp, wS_putOpL, wS_ast, wS_astL, wS_aop, wS_aopL, wS_ret, wS_retL, wS_retV, wS_do, wS_pop, wS_dead, wS_sw, wF_body, Nat.reduceAdd, Nat.zero_add, Bool.not_not, true_and, and_true, if_true, if_false, ↓reduceIte, eq_self, Value.int.injEq, Value.long.injEq, exists_eq_left', ik_b1, ik_b0, ik_bz0, ik_bz3, ik_bz3_1, ik_bz3_0, ik_cmp, ik_cmpL, ik_eI, ik_eL, ik_as, ik_i0, ik_i1, decide_eq_true_eq, decide_eq_false_iff_not, decide_true, decide_false, Bool.not_true, Bool.not_false, reduceCtorEq, forall_const, false_implies, true_implies, implies_true, true_and, and_true, and_self, false_and, and_false, Bool.and_true, Bool.true_and, not_true_eq_false, not_false_eq_true, if_true, if_false, ite_true, ite_false, ik_bz3_0, ik_bz3_1, ik_bz0, wF_eq eb]
  refine wS_for _ _ (fun r σ => σ.1 1 = ik_b2 (decide (r < N ^ B)) ∧ eqM m σ.2.2 ∧ σ.2.2.1 44 = g1.1 44 ∧ (r < N ^ B → rwU N B r σ.2.2) ∧ ∀ k i, k < B → i < N → σ.2.2.1 46 (24 * k + i) = LH N B S T n m L k i r) 0 (N ^ B) _ ⟨by simp [upd], l1, ?_, fun _ => l4, fun k i hk hi => ?_⟩ (by omega) (by omega) ?_ ?_ ?_
  · show g3.1 44 = _
    rw [l2 44 (by decide), h3 44 (by decide)]
  · show g3.1 46 _ = _
    rw [l2 46 (by decide), h4 _ (by omega)]
    rfl
  · rintro r ⟨t1, t2, t3⟩ p1 ⟨p2, -⟩
    exact wc_b2 p2
  · rintro r ⟨t1, t2, t3⟩ p1 ⟨p2, p4, p5, p6, p9⟩
    simp only at p2 p4 p5 p6 p9
    have N0 : 0 < N := by
      apply Classical.byContradiction
      intro z
      have : N = 0 := by omega
      subst this
      rw [Nat.zero_pow hB] at p1
      exact absurd p1 (Nat.not_lt_zero _)
    obtain ⟨u, hu0⟩ : ∃ u, u = row N B r := ⟨_, rfl⟩
    have hu : ∀ k, k < B → u k < N ∧ t3.1 20 k = nI (u k) := fun k hk => by rw [hu0]; exact ⟨row_lt k N0, p6 p1 k hk⟩
    have tb := w_tableOf (R := rsN m S n H L) hB4 (show t3.1 0 3 = nI B by rw [p4.2 3 (by decide)]; exact eB) hN24 hu (fun k i hk hi => by rw [p5]; exact k4 k i hk hi)
    have tk := tab_K m B S n H L u
    obtain ⟨st, hst⟩ : ∃ st, st = nI (rsA (fun k => rsN m S n H L k (u k)) B) := ⟨_, rfl⟩
    rw [← hst] at tb tk
    obtain ⟨_, g4, es, rfl, q1, q2⟩ := w_speaks h p4 hu hT hmT 0 0 (ib_0 1)
    have g44 : g4.1 44 = g1.1 44 := by rw [q2.1 44 (by decide) (by decide) (by decide) (by decide)]; exact p5
    have g46 : g4.1 46 = t3.1 46 := q2.1 46 (by decide) (by decide) (by decide) (by decide)
    have g20 : g4.1 20 = t3.1 20 := q2.1 20 (by decide) (by decide) (by decide) (by decide)
    have nxt : ∀ (v1 : Nat → Int32) (v2 : Nat → Int64) (v3 : GG), eqM m v3 → v3.1 44 = g1.1 44 → v3.1 20 = t3.1 20 → (∀ k i, k < B → i < N → v3.1 46 (24 * k + i) = LH N B S T n m L k i (r + 1)) →
        wS (sSet 1 (sCall fX12_goesOnNames sNil)) (v1, v2, v3) (fun σ => σ.1 1 = ik_b2 (decide (r + 1 < N ^ B)) ∧ eqM m σ.2.2 ∧ σ.2.2.1 44 = g1.1 44 ∧ (r + 1 < N ^ B → rwU N B (r + 1) σ.2.2) ∧ ∀ k i, k < B → i < N → σ.2.2.1 46 (24 * k + i) = LH N B S T n m L k i (r + 1)) (fun v g' => v = .null ∧ eqM m g' ∧ ∀ k i, k < B → i < N → g'.1 46 (24 * k + i) = LH N B S T n m L k i (N ^ B)) := by
      intro v1 v2 v3 b2 b3 b4 b7
      obtain ⟨_, g5, eg, rfl, o1, o2, o3, o4⟩ := w_goesOnN hN24 eN hB4 eB hB b2 p1 (fun k hk => by rw [b4, ← hu0]; exact (hu k hk).2)
      simp (decide := true) only [wE_lit, wL_lit, wE_loc, wL_loc, wE_add, wE_sub, wE_mul, wE_and, wE_or, wE_xor, wE_shl, wE_shr, wE_ushr, wE_div, wE_rem, wE_neg, wE_i2b, wE_l2i, wL_i2l, wL_add, wL_mul, wE_fld, wL_fld, wE_arr, wL_arr, wC_cmp, wC_cmp0, wC_cmpL, wC_and, wC_or, wC_not, wC_ite, wL_ite, wA_nil, wA_int, wA_long, wE_call, wL_call, wS_skip, wS_seq, wS_set, wS_setL, wS_inc, wS_if, wS_put, wS_putL, wS_putOp, wS_putOpL, wS_ast, wS_astL, wS_aop, wS_aopL, wS_ret, wS_retL, wS_retV, wS_do, wS_pop, wS_dead, wS_sw, wF_body, Nat.reduceAdd, Nat.zero_add, Bool.not_not, true_and, and_true, if_true, if_false, ↓reduceIte, eq_self, Value.int.injEq, Value.long.injEq, exists_eq_left', ik_b1, ik_b0, ik_bz0, ik_bz3, ik_bz3_1, ik_bz3_0, ik_cmp, ik_cmpL, ik_eI, ik_eL, ik_as, ik_i0, ik_i1, decide_eq_true_eq, decide_eq_false_iff_not, decide_true, decide_false, Bool.not_true, Bool.not_false, reduceCtorEq, forall_const, false_implies, true_implies, implies_true, true_and, and_true, and_self, false_and, and_false, Bool.and_true, Bool.true_and, not_true_eq_false, not_false_eq_true, if_true, if_false, ite_true, ite_false, ik_bz3_0, ik_bz3_1, ik_bz0, wF_eq eg]
      exact ⟨by simp [upd], o1, by rw [o2 44 (by decide)]; exact b3, o4, fun k i hk hi => by rw [o2 46 (by decide)]; exact b7 k i hk hi⟩
    have LHs : ∀ k i, LH N B S T n m L k i (r + 1) = if clB (okK m B S T n L u ∧ u k = i ∧ ndI (slk m u) B < LH N B S T n m L k i r) = true then ndI (slk m u) B else LH N B S T n m L k i r := fun k i => by rw [hu0]; rfl
    rw [wS_seq, wS_set]
    simp only [wE_and, wE_call, wA_nil, tb, Value.int.injEq, exists_eq_left', wE_lit]
    rw [wS_seq, wS_set, wE_lit, wS_seq, wS_set]
    have t4 : ∀ (P : Int32 → GG → Prop) (f : Nat → Int32), f 2 = st &&& (-2) → (wE (sIte (sCmp0 0 (sLoc 2)) (sLit 1) (sLit 0)) (f, t2, t3) P ↔ P (ik_b2 (decide (st &&& (-2) = 0))) t3) := by
      intro P f hf
      by_cases d : st &&& (-2) = 0
      · simp (decide := true) only [wE_lit, wL_lit, wE_loc, wL_loc, wE_add, wE_sub, wE_mul, wE_and, wE_or, wE_xor, wE_shl, wE_shr, wE_ushr, wE_div, wE_rem, wE_neg, wE_i2b, wE_l2i, wL_i2l, wL_add, wL_mul, wE_fld, wL_fld, wE_arr, wL_arr, wC_cmp, wC_cmp0, wC_cmpL, wC_and, wC_or, wC_not, wC_ite, wL_ite, wA_nil, wA_int, wA_long, wE_call, wL_call, wS_skip, wS_seq, wS_set, wS_setL, wS_inc, wS_if, wS_put, wS_putL, wS_putOp, wS_putOpL, wS_ast, wS_astL, wS_aop, wS_aopL, wS_ret, wS_retL, wS_retV, wS_do, wS_pop, wS_dead, wS_sw, wF_body, Nat.reduceAdd, Nat.zero_add, Bool.not_not, true_and, and_true, if_true, if_false, ↓reduceIte, eq_self, Value.int.injEq, Value.long.injEq, exists_eq_left', ik_b1, ik_b0, ik_bz0, ik_bz3, ik_bz3_1, ik_bz3_0, ik_cmp, ik_cmpL, ik_eI, ik_eL, ik_as, ik_i0, ik_i1, decide_eq_true_eq, decide_eq_false_iff_not, decide_true, decide_false, Bool.not_true, Bool.not_false, reduceCtorEq, forall_const, false_implies, true_implies, implies_true, true_and, and_true, and_self, false_and, and_false, Bool.and_true, Bool.true_and, not_true_eq_false, not_false_eq_true, if_true, if_false, ite_true, ite_false, ik_bz3_0, ik_bz3_1, ik_bz0, wE_ite, hf, d, show ik_b2 true = 1 from rfl]
      · simp (decide := true) only [wE_lit, wL_lit, wE_loc, wL_loc, wE_add, wE_sub, wE_mul, wE_and, wE_or, wE_xor, wE_shl, wE_shr, wE_ushr, wE_div, wE_rem, wE_neg, wE_i2b, wE_l2i, wL_i2l, wL_add, wL_mul, wE_fld, wL_fld, wE_arr, wL_arr, wC_cmp, wC_cmp0, wC_cmpL, wC_and, wC_or, wC_not, wC_ite, wL_ite, wA_nil, wA_int, wA_long, wE_call, wL_call, wS_skip, wS_seq, wS_set, wS_setL, wS_inc, wS_if, wS_put, wS_putL, wS_putOp, wS_putOpL, wS_ast, wS_astL, wS_aop, wS_aopL, wS_ret, wS_retL, wS_retV, wS_do, wS_pop, wS_dead, wS_sw, wF_body, Nat.reduceAdd, Nat.zero_add, Bool.not_not, true_and, and_true, if_true, if_false, ↓reduceIte, eq_self, Value.int.injEq, Value.long.injEq, exists_eq_left', ik_b1, ik_b0, ik_bz0, ik_bz3, ik_bz3_1, ik_bz3_0, ik_cmp, ik_cmpL, ik_eI, ik_eL, ik_as, ik_i0, ik_i1, decide_eq_true_eq, decide_eq_false_iff_not, decide_true, decide_false, Bool.not_true, Bool.not_false, reduceCtorEq, forall_const, false_implies, true_implies, implies_true, true_and, and_true, and_self, false_and, and_false, Bool.and_true, Bool.true_and, not_true_eq_false, not_false_eq_true, if_true, if_false, ite_true, ite_false, ik_bz3_0, ik_bz3_1, ik_bz0, wE_ite, hf, d, show ik_b2 false = 0 from rfl]
    rw [t4 _ _ (by simp [upd]), wS_seq]
    refine w_slacks (tb := decide (st &&& (-2) = 0)) h.2.2.1 p4 hB4 eB hu (by simp [upd]) (by simp [upd]) (fun v1 b1 b2 => ?_)
    rw [wS_seq, wS_if]
    have cond : ∃ (b : Bool) (g5 : GG), (b = true → g5 = g4 ∧ okK m B S T n L u) ∧ (b = false → (g5 = g4 ∨ g5 = t3) ∧ ¬ okK m B S T n L u) ∧ ∀ B' : Bool → GG → Prop, wC (sAnd (sAnd (sCmp0 1 (sLoc 4)) (sCmp 5 (sLoc 3) (sLit 200))) (sCmp0 0 (sCall fX12_speaks (sArgI (sLit 0) (sArgI (sLit 0) sNil))))) (v1, t2, t3) B' ↔ B' b g5 := by
      have neg : ∀ k, k < B → (ik_any (fun j => decide (slk m u j < 0)) B = false) → 0 ≤ slk m u k := by
        intro k hk z
        apply Classical.byContradiction
        intro w
        rw [Int32.not_le] at w
        rw [ik_any_ex.mpr ⟨k, hk, decide_eq_true w⟩] at z
        cases z
      generalize hcn : (decide (st &&& (-2) = 0) && !ik_any (fun j => decide (slk m u j < 0)) B) = cn at b2
      cases cn with
      | false =>
        have b2' : v1 4 = 0 := b2
        refine ⟨false, t3, fun z => absurd z (by decide), fun _ => ⟨Or.inr rfl, fun z => ?_⟩, fun B' => ?_⟩
        · rw [decide_eq_true (tk.mpr z.1), Bool.true_and] at hcn
          rw [ik_any_no (fun j hj => decide_eq_false (by rw [Int32.not_lt]; exact z.2.1 j hj))] at hcn
          cases hcn
        · simp (decide := true) only [wE_lit, wL_lit, wE_loc, wL_loc, wE_add, wE_sub, wE_mul, wE_and, wE_or, wE_xor, wE_shl, wE_shr, wE_ushr, wE_div, wE_rem, wE_neg, wE_i2b, wE_l2i, wL_i2l, wL_add, wL_mul, wE_fld, wL_fld, wE_arr, wL_arr, wC_cmp, wC_cmp0, wC_cmpL, wC_and, wC_or, wC_not, wC_ite, wL_ite, wA_nil, wA_int, wA_long, wE_call, wL_call, wS_skip, wS_seq, wS_set, wS_setL, wS_inc, wS_if, wS_put, wS_putL, wS_putOp, wS_putOpL, wS_ast, wS_astL, wS_aop, wS_aopL, wS_ret, wS_retL, wS_retV, wS_do, wS_pop, wS_dead, wS_sw, wF_body, Nat.reduceAdd, Nat.zero_add, Bool.not_not, true_and, and_true, if_true, if_false, ↓reduceIte, eq_self, Value.int.injEq, Value.long.injEq, exists_eq_left', ik_b1, ik_b0, ik_bz0, ik_bz3, ik_bz3_1, ik_bz3_0, ik_cmp, ik_cmpL, ik_eI, ik_eL, ik_as, ik_i0, ik_i1, decide_eq_true_eq, decide_eq_false_iff_not, decide_true, decide_false, Bool.not_true, Bool.not_false, reduceCtorEq, forall_const, false_implies, true_implies, implies_true, true_and, and_true, and_self, false_and, and_false, Bool.and_true, Bool.true_and, not_true_eq_false, not_false_eq_true, if_true, if_false, ite_true, ite_false, ik_bz3_0, ik_bz3_1, ik_bz0, b2']
      | true =>
        have b2' : v1 4 = 1 := b2
        rw [Bool.and_eq_true, decide_eq_true_iff, Bool.not_eq_true'] at hcn
        by_cases d1 : ndI (slk m u) B ≤ 200
        · by_cases d2 : spk 0 0 (tiA m u T) (otA m u S) = 0
          · refine ⟨true, g4, fun _ => ⟨rfl, tk.mp hcn.1, fun k hk => neg k hk hcn.2, d1, (spk_0.mp d2).1, (spk_0.mp d2).2⟩, fun z => absurd z (by decide), fun B' => ?_⟩
            simp (decide := true) only [wE_lit, wL_lit, wE_loc, wL_loc, wE_add, wE_sub, wE_mul, wE_and, wE_or, wE_xor, wE_shl, wE_shr, wE_ushr, wE_div, wE_rem, wE_neg, wE_i2b, wE_l2i, wL_i2l, wL_add, wL_mul, wE_fld, wL_fld, wE_arr, wL_arr, wC_cmp, wC_cmp0, wC_cmpL, wC_and, wC_or, wC_not, wC_ite, wL_ite, wA_nil, wA_int, wA_long, wE_call, wL_call, wS_skip, wS_seq, wS_set, wS_setL, wS_inc, wS_if, wS_put, wS_putL, wS_putOp, wS_putOpL, wS_ast, wS_astL, wS_aop, wS_aopL, wS_ret, wS_retL, wS_retV, wS_do, wS_pop, wS_dead, wS_sw, wF_body, Nat.reduceAdd, Nat.zero_add, Bool.not_not, true_and, and_true, if_true, if_false, ↓reduceIte, eq_self, Value.int.injEq, Value.long.injEq, exists_eq_left', ik_b1, ik_b0, ik_bz0, ik_bz3, ik_bz3_1, ik_bz3_0, ik_cmp, ik_cmpL, ik_eI, ik_eL, ik_as, ik_i0, ik_i1, decide_eq_true_eq, decide_eq_false_iff_not, decide_true, decide_false, Bool.not_true, Bool.not_false, reduceCtorEq, forall_const, false_implies, true_implies, implies_true, true_and, and_true, and_self, false_and, and_false, Bool.and_true, Bool.true_and, not_true_eq_false, not_false_eq_true, if_true, if_false, ite_true, ite_false, ik_bz3_0, ik_bz3_1, ik_bz0, b1, b2', d1, wF_eq es, d2]
          · refine ⟨false, g4, fun z => absurd z (by decide), fun _ => ⟨Or.inl rfl, fun z => d2 (spk_0.mpr ⟨z.2.2.2.1, z.2.2.2.2⟩)⟩, fun B' => ?_⟩
            simp (decide := true) only [wE_lit, wL_lit, wE_loc, wL_loc, wE_add, wE_sub, wE_mul, wE_and, wE_or, wE_xor, wE_shl, wE_shr, wE_ushr, wE_div, wE_rem, wE_neg, wE_i2b, wE_l2i, wL_i2l, wL_add, wL_mul, wE_fld, wL_fld, wE_arr, wL_arr, wC_cmp, wC_cmp0, wC_cmpL, wC_and, wC_or, wC_not, wC_ite, wL_ite, wA_nil, wA_int, wA_long, wE_call, wL_call, wS_skip, wS_seq, wS_set, wS_setL, wS_inc, wS_if, wS_put, wS_putL, wS_putOp, wS_putOpL, wS_ast, wS_astL, wS_aop, wS_aopL, wS_ret, wS_retL, wS_retV, wS_do, wS_pop, wS_dead, wS_sw, wF_body, Nat.reduceAdd, Nat.zero_add, Bool.not_not, true_and, and_true, if_true, if_false, ↓reduceIte, eq_self, Value.int.injEq, Value.long.injEq, exists_eq_left', ik_b1, ik_b0, ik_bz0, ik_bz3, ik_bz3_1, ik_bz3_0, ik_cmp, ik_cmpL, ik_eI, ik_eL, ik_as, ik_i0, ik_i1, decide_eq_true_eq, decide_eq_false_iff_not, decide_true, decide_false, Bool.not_true, Bool.not_false, reduceCtorEq, forall_const, false_implies, true_implies, implies_true, true_and, and_true, and_self, false_and, and_false, Bool.and_true, Bool.true_and, not_true_eq_false, not_false_eq_true, if_true, if_false, ite_true, ite_false, ik_bz3_0, ik_bz3_1, ik_bz0, b1, b2', d1, wF_eq es, d2]
        · refine ⟨false, t3, fun z => absurd z (by decide), fun _ => ⟨Or.inr rfl, fun z => d1 z.2.2.1⟩, fun B' => ?_⟩
          simp (decide := true) only [wE_lit, wL_lit, wE_loc, wL_loc, wE_add, wE_sub, wE_mul, wE_and, wE_or, wE_xor, wE_shl, wE_shr, wE_ushr, wE_div, wE_rem, wE_neg, wE_i2b, wE_l2i, wL_i2l, wL_add, wL_mul, wE_fld, wL_fld, wE_arr, wL_arr, wC_cmp, wC_cmp0, wC_cmpL, wC_and, wC_or, wC_not, wC_ite, wL_ite, wA_nil, wA_int, wA_long, wE_call, wL_call, wS_skip, wS_seq, wS_set, wS_setL, wS_inc, wS_if, wS_put, wS_putL, wS_putOp, wS_putOpL, wS_ast, wS_astL, wS_aop, wS_aopL, wS_ret, wS_retL, wS_retV, wS_do, wS_pop, wS_dead, wS_sw, wF_body, Nat.reduceAdd, Nat.zero_add, Bool.not_not, true_and, and_true, if_true, if_false, ↓reduceIte, eq_self, Value.int.injEq, Value.long.injEq, exists_eq_left', ik_b1, ik_b0, ik_bz0, ik_bz3, ik_bz3_1, ik_bz3_0, ik_cmp, ik_cmpL, ik_eI, ik_eL, ik_as, ik_i0, ik_i1, decide_eq_true_eq, decide_eq_false_iff_not, decide_true, decide_false, Bool.not_true, Bool.not_false, reduceCtorEq, forall_const, false_implies, true_implies, implies_true, true_and, and_true, and_self, false_and, and_false, Bool.and_true, Bool.true_and, not_true_eq_false, not_false_eq_true, if_true, if_false, ite_true, ite_false, ik_bz3_0, ik_bz3_1, ik_bz0, b1, b2', d1]
    obtain ⟨b, g5, d1, d2, d3⟩ := cond
    rw [d3]
    cases b with
    | true =>
      obtain ⟨rfl, yes⟩ := d1 rfl
      refine ⟨fun _ => ?_, fun z => absurd z (by decide)⟩
      refine wS_mono (w_lhit (B := B) (u := u) hB4 (by rw [q1.2 3 (by decide)]; exact eB) (fun k hk => ⟨by have := (hu k hk).1; omega, by rw [g20]; exact (hu k hk).2⟩) b1) ?_ (fun _ _ z => z)
      rintro ⟨v1', v2', v3⟩ ⟨w1', w2', w3'⟩
      simp only at w1' w2' w3'
      refine nxt v1' v2' v3 ⟨fun a ha => by rw [w2' a (by omega)]; exact q1.1 a ha, fun j hj => by rw [w2' 0 (by decide)]; exact q1.2 j hj⟩ (by rw [w2' 44 (by decide)]; exact g44) (by rw [w2' 20 (by decide)]; exact g20) (fun k i hk hi => ?_)
      rw [w3' k i hk (by omega), g46, p9 k i hk hi, LHs]
      by_cases d : u k = i ∧ ndI (slk m u) B < LH N B S T n m L k i r
      · rw [if_pos d, if_pos (clB_iff.mpr ⟨yes, d⟩)]
      · rw [if_neg d, if_neg (fun z => d (clB_iff.mp z).2)]
    | false =>
      obtain ⟨dg, no⟩ := d2 rfl
      refine ⟨fun z => absurd z (by decide), fun _ => ?_⟩
      rw [wS_skip]
      have f : eqM m g5 ∧ g5.1 44 = g1.1 44 ∧ g5.1 20 = t3.1 20 ∧ g5.1 46 = t3.1 46 := by
        rcases dg with rfl | rfl
        · exact ⟨q1, g44, g20, g46⟩
        · exact ⟨p4, p5, rfl, rfl⟩
      obtain ⟨f1, f2, f3, f4⟩ := f
      refine nxt v1 t2 g5 f1 f2 f3 (fun k i hk hi => ?_)
      rw [f4, p9 k i hk hi, LHs, if_neg (fun z => no (clB_iff.mp z).1)]
  · rintro ⟨t1, t2, t3⟩ ⟨p2, p4, p5, p6, p9⟩
    simp only at p4 p9
    simp (decide := true) only [wE_lit, wL_lit, wE_loc, wL_loc, wE_add, wE_sub, wE_mul, wE_and, wE_or, wE_xor, wE_shl, wE_shr, wE_ushr, wE_div, wE_rem, wE_neg, wE_i2b, wE_l2i, wL_i2l, wL_add, wL_mul, wE_fld, wL_fld, wE_arr, wL_arr, wC_cmp, wC_cmp0, wC_cmpL, wC_and, wC_or, wC_not, wC_ite, wL_ite, wA_nil, wA_int, wA_long, wE_call, wL_call, wS_skip, wS_seq, wS_set, wS_setL, wS_inc, wS_if, wS_put, wS_putL, wS_putOp, wS_putOpL, wS_ast, wS_astL, wS_aop, wS_aopL, wS_ret, wS_retL, wS_retV, wS_do, wS_pop, wS_dead, wS_sw, wF_body, Nat.reduceAdd, Nat.zero_add, Bool.not_not, true_and, and_true, if_true, if_false, ↓reduceIte, eq_self, Value.int.injEq, Value.long.injEq, exists_eq_left', ik_b1, ik_b0, ik_bz0, ik_bz3, ik_bz3_1, ik_bz3_0, ik_cmp, ik_cmpL, ik_eI, ik_eL, ik_as, ik_i0, ik_i1, decide_eq_true_eq, decide_eq_false_iff_not, decide_true, decide_false, Bool.not_true, Bool.not_false, reduceCtorEq, forall_const, false_implies, true_implies, implies_true, true_and, and_true, and_self, false_and, and_false, Bool.and_true, Bool.true_and, not_true_eq_false, not_false_eq_true, if_true, if_false, ite_true, ite_false, ik_bz3_0, ik_bz3_1, ik_bz0]
    exact ⟨p4, p9⟩
theorem bgc_stop {c : Nat → Bool} {N : Nat} : ∀ d, bgc (fun i => decide (i < N) && c i) (N + d) = bgc c N
  | 0 => bgc_congr (fun t ht => by rw [decide_eq_true (show t < N from ht), Bool.true_and])
  | d + 1 => by
    rw [show N + (d + 1) = N + d + 1 by omega, bgc_f (by rw [decide_eq_false (show ¬ N + d < N by omega), Bool.false_and])]
    exact bgc_stop d
theorem w_haveAll {g : GG} {N B q : Nat} {x : Int32} (hN : N ≤ 24) (hB : B ≤ 4) (e2 : g.1 0 2 = nI N) (e3 : g.1 0 3 = nI B) (hq : q ≤ 24) (Q : Value → GG → Prop) : wF fX12_haveAll [.int (nI q), .int x] g Q ↔ Q (.int (ik_b2 (!ik_any (fun k => decide (bgc (fun i => decide (g.1 46 (24 * k + i) ≤ x)) N < q)) B))) g := by
  refine wF_eq (eq_of_wF ?_) Q
  unfold fX12_haveAll
  simp (decide := true) only [wE_lit, wL_lit, wE_loc, wL_loc, wE_add, wE_sub, wE_mul, wE_and, wE_or, wE_xor, wE_shl, wE_shr, wE_ushr, wE_div, wE_rem, wE_neg, wE_i2b, wE_l2i, wL_i2l, wL_add, wL_mul, wE_fld, wL_fld, wE_arr, wL_arr, wC_cmp, wC_cmp0, wC_cmpL, wC_and, wC_or, wC_not, wC_ite, wL_ite, wA_nil, wA_int, wA_long, wE_call, wL_call, wS_skip, wS_seq, wS_set, wS_setL, wS_inc, wS_if, wS_put, wS_putL, wS_putOp, wS_putOpL, wS_ast, wS_astL, wS_aop, wS_aopL, wS_ret, wS_retL, wS_retV, wS_do, wS_pop, wS_dead, wS_sw, wF_body, Nat.reduceAdd, Nat.zero_add, Bool.not_not, true_and, and_true, if_true, if_false, ↓reduceIte, eq_self, Value.int.injEq, Value.long.injEq, exists_eq_left', ik_b1, ik_b0, ik_bz0, ik_bz3, ik_bz3_1, ik_bz3_0, ik_cmp, ik_cmpL, ik_eI, ik_eL, ik_as, ik_i0, ik_i1, decide_eq_true_eq, decide_eq_false_iff_not, decide_true, decide_false, Bool.not_true, Bool.not_false, reduceCtorEq, forall_const, false_implies, true_implies, implies_true, true_and, and_true, and_self, false_and, and_false, Bool.and_true, Bool.true_and, not_true_eq_false, not_false_eq_true, if_true, if_false, ite_true, ite_false, ik_bz3_0, ik_bz3_1, ik_bz0]
  refine wS_for _ _ (fun k σ => σ.1 3 = nI k ∧ σ.1 1 = nI q ∧ σ.1 2 = x ∧ σ.2.2 = g ∧ ik_any (fun k => decide (bgc (fun i => decide (g.1 46 (24 * k + i) ≤ x)) N < q)) k = false) 0 B _ ⟨by simp [upd, nI_0], by simp [upd, ik_eI], by simp [upd, ik_eI], rfl, rfl⟩ (by omega) (by omega) ?_ ?_ ?_
  · rintro k ⟨s1, s2, s3⟩ h1 ⟨h2, -, -, h3, -⟩
    simp only at h2 h3
    subst h3
    exact wc_1 e3 (by omega) h1 h2
  · rintro k ⟨s1, s2, s3⟩ h1 ⟨h2, h3, h4, h5, h6⟩
    simp only at h2 h3 h4 h5
    subst h5
    simp (decide := true) only [wE_lit, wL_lit, wE_loc, wL_loc, wE_add, wE_sub, wE_mul, wE_and, wE_or, wE_xor, wE_shl, wE_shr, wE_ushr, wE_div, wE_rem, wE_neg, wE_i2b, wE_l2i, wL_i2l, wL_add, wL_mul, wE_fld, wL_fld, wE_arr, wL_arr, wC_cmp, wC_cmp0, wC_cmpL, wC_and, wC_or, wC_not, wC_ite, wL_ite, wA_nil, wA_int, wA_long, wE_call, wL_call, wS_skip, wS_seq, wS_set, wS_setL, wS_inc, wS_if, wS_put, wS_putL, wS_putOp, wS_putOpL, wS_ast, wS_astL, wS_aop, wS_aopL, wS_ret, wS_retL, wS_retV, wS_do, wS_pop, wS_dead, wS_sw, wF_body, Nat.reduceAdd, Nat.zero_add, Bool.not_not, true_and, and_true, if_true, if_false, ↓reduceIte, eq_self, Value.int.injEq, Value.long.injEq, exists_eq_left', ik_b1, ik_b0, ik_bz0, ik_bz3, ik_bz3_1, ik_bz3_0, ik_cmp, ik_cmpL, ik_eI, ik_eL, ik_as, ik_i0, ik_i1, decide_eq_true_eq, decide_eq_false_iff_not, decide_true, decide_false, Bool.not_true, Bool.not_false, reduceCtorEq, forall_const, false_implies, true_implies, implies_true, true_and, and_true, and_self, false_and, and_false, Bool.and_true, Bool.true_and, not_true_eq_false, not_false_eq_true, if_true, if_false, ite_true, ite_false, ik_bz3_0, ik_bz3_1, ik_bz0]
    refine wS_for _ _ (fun i σ => σ.1 5 = nI i ∧ σ.1 3 = nI k ∧ σ.1 1 = nI q ∧ σ.1 2 = x ∧ σ.1 4 = nI (bgc (fun i => decide (s3.1 46 (24 * k + i) ≤ x)) i) ∧ σ.2.2 = s3) 0 N _ ⟨by simp [upd, nI_0], by simp [upd, h2], by simp [upd, h3], by simp [upd, h4], by simp [upd, bgc, nI_0], rfl⟩ (by omega) (by omega) ?_ ?_ ?_
    · rintro i ⟨t1, t2, t3⟩ a1 ⟨a2, -, -, -, -, a3⟩
      simp only at a2 a3
      subst a3
      exact wc_1 e2 (by omega) a1 a2
    · rintro i ⟨t1, t2, t3⟩ a1 ⟨a2, a3, a4, a5, a6, a7⟩
      simp only at a2 a3 a4 a5 a6 a7
      subst a7
      have ix := ik_ix_nI (show 24 * k + i < 96 by omega) (by omega)
      have e62 : (24 : Int32) * nI k + nI i = nI (24 * k + i) := by rw [show (24 : Int32) = nI 24 from rfl, pk_mul, nI_add]
      by_cases c : t3.1 46 (24 * k + i) ≤ x
      · have b := bgc_t (p := fun i => decide (t3.1 46 (24 * k + i) ≤ x)) (t := i) (decide_eq_true c)
        simp (decide := true) only [wE_lit, wL_lit, wE_loc, wL_loc, wE_add, wE_sub, wE_mul, wE_and, wE_or, wE_xor, wE_shl, wE_shr, wE_ushr, wE_div, wE_rem, wE_neg, wE_i2b, wE_l2i, wL_i2l, wL_add, wL_mul, wE_fld, wL_fld, wE_arr, wL_arr, wC_cmp, wC_cmp0, wC_cmpL, wC_and, wC_or, wC_not, wC_ite, wL_ite, wA_nil, wA_int, wA_long, wE_call, wL_call, wS_skip, wS_seq, wS_set, wS_setL, wS_inc, wS_if, wS_put, wS_putL, wS_putOp, wS_putOpL, wS_ast, wS_astL, wS_aop, wS_aopL, wS_ret, wS_retL, wS_retV, wS_do, wS_pop, wS_dead, wS_sw, wF_body, Nat.reduceAdd, Nat.zero_add, Bool.not_not, true_and, and_true, if_true, if_false, ↓reduceIte, eq_self, Value.int.injEq, Value.long.injEq, exists_eq_left', ik_b1, ik_b0, ik_bz0, ik_bz3, ik_bz3_1, ik_bz3_0, ik_cmp, ik_cmpL, ik_eI, ik_eL, ik_as, ik_i0, ik_i1, decide_eq_true_eq, decide_eq_false_iff_not, decide_true, decide_false, Bool.not_true, Bool.not_false, reduceCtorEq, forall_const, false_implies, true_implies, implies_true, true_and, and_true, and_self, false_and, and_false, Bool.and_true, Bool.true_and, not_true_eq_false, not_false_eq_true, if_true, if_false, ite_true, ite_false, ik_bz3_0, ik_bz3_1, ik_bz0, wE_ite, a2, a3, a4, a5, a6, e62, ix, Option.some.injEq, c, upd_at, upd_off, nI_1, nI_add, b]
      · have b := bgc_f (p := fun i => decide (t3.1 46 (24 * k + i) ≤ x)) (t := i) (decide_eq_false c)
        simp (decide := true) only [wE_lit, wL_lit, wE_loc, wL_loc, wE_add, wE_sub, wE_mul, wE_and, wE_or, wE_xor, wE_shl, wE_shr, wE_ushr, wE_div, wE_rem, wE_neg, wE_i2b, wE_l2i, wL_i2l, wL_add, wL_mul, wE_fld, wL_fld, wE_arr, wL_arr, wC_cmp, wC_cmp0, wC_cmpL, wC_and, wC_or, wC_not, wC_ite, wL_ite, wA_nil, wA_int, wA_long, wE_call, wL_call, wS_skip, wS_seq, wS_set, wS_setL, wS_inc, wS_if, wS_put, wS_putL, wS_putOp, wS_putOpL, wS_ast, wS_astL, wS_aop, wS_aopL, wS_ret, wS_retL, wS_retV, wS_do, wS_pop, wS_dead, wS_sw, wF_body, Nat.reduceAdd, Nat.zero_add, Bool.not_not, true_and, and_true, if_true, if_false, ↓reduceIte, eq_self, Value.int.injEq, Value.long.injEq, exists_eq_left', ik_b1, ik_b0, ik_bz0, ik_bz3, ik_bz3_1, ik_bz3_0, ik_cmp, ik_cmpL, ik_eI, ik_eL, ik_as, ik_i0, ik_i1, decide_eq_true_eq, decide_eq_false_iff_not, decide_true, decide_false, Bool.not_true, Bool.not_false, reduceCtorEq, forall_const, false_implies, true_implies, implies_true, true_and, and_true, and_self, false_and, and_false, Bool.and_true, Bool.true_and, not_true_eq_false, not_false_eq_true, if_true, if_false, ite_true, ite_false, ik_bz3_0, ik_bz3_1, ik_bz0, wE_ite, a2, a3, a4, a5, a6, e62, ix, Option.some.injEq, c, upd_at, upd_off, nI_1, nI_add, b, Int32.add_zero]
    · rintro ⟨t1, t2, t3⟩ ⟨a2, a3, a4, a5, a6, a7⟩
      simp only at a3 a4 a5 a6 a7
      subst a7
      have bl := bgc_le (fun i => decide (t3.1 46 (24 * k + i) ≤ x)) N
      have lt : (nI (bgc (fun i => decide (t3.1 46 (24 * k + i) ≤ x)) N) < nI q) ↔ bgc (fun i => decide (t3.1 46 (24 * k + i) ≤ x)) N < q := nI_ltI (by omega) (by omega)
      by_cases c : bgc (fun i => decide (t3.1 46 (24 * k + i) ≤ x)) N < q
      · have cT := eq_true (lt.mpr c)
        have r : ik_any (fun k => decide (bgc (fun i => decide (t3.1 46 (24 * k + i) ≤ x)) N < q)) B = true := ik_any_ex.mpr ⟨k, h1, decide_eq_true c⟩
        rw [r]
        simp (decide := true) only [wE_lit, wL_lit, wE_loc, wL_loc, wE_add, wE_sub, wE_mul, wE_and, wE_or, wE_xor, wE_shl, wE_shr, wE_ushr, wE_div, wE_rem, wE_neg, wE_i2b, wE_l2i, wL_i2l, wL_add, wL_mul, wE_fld, wL_fld, wE_arr, wL_arr, wC_cmp, wC_cmp0, wC_cmpL, wC_and, wC_or, wC_not, wC_ite, wL_ite, wA_nil, wA_int, wA_long, wE_call, wL_call, wS_skip, wS_seq, wS_set, wS_setL, wS_inc, wS_if, wS_put, wS_putL, wS_putOp, wS_putOpL, wS_ast, wS_astL, wS_aop, wS_aopL, wS_ret, wS_retL, wS_retV, wS_do, wS_pop, wS_dead, wS_sw, wF_body, Nat.reduceAdd, Nat.zero_add, Bool.not_not, true_and, and_true, if_true, if_false, ↓reduceIte, eq_self, Value.int.injEq, Value.long.injEq, exists_eq_left', ik_b1, ik_b0, ik_bz0, ik_bz3, ik_bz3_1, ik_bz3_0, ik_cmp, ik_cmpL, ik_eI, ik_eL, ik_as, ik_i0, ik_i1, decide_eq_true_eq, decide_eq_false_iff_not, decide_true, decide_false, Bool.not_true, Bool.not_false, reduceCtorEq, forall_const, false_implies, true_implies, implies_true, true_and, and_true, and_self, false_and, and_false, Bool.and_true, Bool.true_and, not_true_eq_false, not_false_eq_true, if_true, if_false, ite_true, ite_false, ik_bz3_0, ik_bz3_1, ik_bz0, exists_eq', a4, a6, cT, show ik_b2 false = 0 from rfl]
      · have cF := eq_false (fun z => c (lt.mp z))
        have r : ik_any (fun k => decide (bgc (fun i => decide (t3.1 46 (24 * k + i) ≤ x)) N < q)) (k + 1) = false := ik_any_s h6 (decide_eq_false c)
        simp (decide := true) only [wE_lit, wL_lit, wE_loc, wL_loc, wE_add, wE_sub, wE_mul, wE_and, wE_or, wE_xor, wE_shl, wE_shr, wE_ushr, wE_div, wE_rem, wE_neg, wE_i2b, wE_l2i, wL_i2l, wL_add, wL_mul, wE_fld, wL_fld, wE_arr, wL_arr, wC_cmp, wC_cmp0, wC_cmpL, wC_and, wC_or, wC_not, wC_ite, wL_ite, wA_nil, wA_int, wA_long, wE_call, wL_call, wS_skip, wS_seq, wS_set, wS_setL, wS_inc, wS_if, wS_put, wS_putL, wS_putOp, wS_putOpL, wS_ast, wS_astL, wS_aop, wS_aopL, wS_ret, wS_retL, wS_retV, wS_do, wS_pop, wS_dead, wS_sw, wF_body, Nat.reduceAdd, Nat.zero_add, Bool.not_not, true_and, and_true, if_true, if_false, ↓reduceIte, eq_self, Value.int.injEq, Value.long.injEq, exists_eq_left', ik_b1, ik_b0, ik_bz0, ik_bz3, ik_bz3_1, ik_bz3_0, ik_cmp, ik_cmpL, ik_eI, ik_eL, ik_as, ik_i0, ik_i1, decide_eq_true_eq, decide_eq_false_iff_not, decide_true, decide_false, Bool.not_true, Bool.not_false, reduceCtorEq, forall_const, false_implies, true_implies, implies_true, true_and, and_true, and_self, false_and, and_false, Bool.and_true, Bool.true_and, not_true_eq_false, not_false_eq_true, if_true, if_false, ite_true, ite_false, ik_bz3_0, ik_bz3_1, ik_bz0, exists_eq', a3, a4, a5, a6, cF, upd_at, upd_off, nI_1, nI_add]
        exact r
  · rintro ⟨s1, s2, s3⟩ ⟨h2, h3, h4, h5, h6⟩
    simp only at h5
    subst h5
    rw [h6]
    simp (decide := true) only [wE_lit, wL_lit, wE_loc, wL_loc, wE_add, wE_sub, wE_mul, wE_and, wE_or, wE_xor, wE_shl, wE_shr, wE_ushr, wE_div, wE_rem, wE_neg, wE_i2b, wE_l2i, wL_i2l, wL_add, wL_mul, wE_fld, wL_fld, wE_arr, wL_arr, wC_cmp, wC_cmp0, wC_cmpL, wC_and, wC_or, wC_not, wC_ite, wL_ite, wA_nil, wA_int, wA_long, wE_call, wL_call, wS_skip, wS_seq, wS_set, wS_setL, wS_inc, wS_if, wS_put, wS_putL, wS_putOp, wS_putOpL, wS_ast, wS_astL, wS_aop, wS_aopL, wS_ret, wS_retL, wS_retV, wS_do, wS_pop, wS_dead, wS_sw, wF_body, Nat.reduceAdd, Nat.zero_add, Bool.not_not, true_and, and_true, if_true, if_false, ↓reduceIte, eq_self, Value.int.injEq, Value.long.injEq, exists_eq_left', ik_b1, ik_b0, ik_bz0, ik_bz3, ik_bz3_1, ik_bz3_0, ik_cmp, ik_cmpL, ik_eI, ik_eL, ik_as, ik_i0, ik_i1, decide_eq_true_eq, decide_eq_false_iff_not, decide_true, decide_false, Bool.not_true, Bool.not_false, reduceCtorEq, forall_const, false_implies, true_implies, implies_true, true_and, and_true, and_self, false_and, and_false, Bool.and_true, Bool.true_and, not_true_eq_false, not_false_eq_true, if_true, if_false, ite_true, ite_false, ik_bz3_0, ik_bz3_1, ik_bz0, exists_eq', show ik_b2 true = 1 from rfl]
/-- both ask the same of a habit -/
theorem have_kp {g m : GG} {N B S T n q : Nat} {L : List (Nat × RC)} {h : Nat} (hN : N ≤ 24) (h2 : h ≤ 200) (h46 : ∀ k i, k < B → i < N → g.1 46 (24 * k + i) = LH N B S T n m L k i (N ^ B)) : (!ik_any (fun k => decide (bgc (fun i => decide (g.1 46 (24 * k + i) ≤ nI h)) N < q)) B) = kpB N B S T n m L q (nI h) := by
  have p0 : 0 ≤ nI h := nI_pos' (by omega)
  have p2 : nI h ≤ 200 := (nI_leI (b := 200) (by omega) (by omega)).mpr h2
  have ct : ∀ k, k < B → bgc (fun i => decide (g.1 46 (24 * k + i) ≤ nI h)) N = ctF N B S T m (ftK m S n L (nI h)) k := by
    intro k hk
    unfold ctF
    have := bgc_stop (c := fun i => decide (0 < SF N B S T m (ftK m S n L (nI h)) true true (fO w1 k i))) (N := N) (24 - N)
    rw [show N + (24 - N) = 24 by omega] at this
    rw [this]
    refine bgc_congr (fun i hi => decide_eq_decide.mpr ?_)
    rw [h46 k i hk hi, LH_le p2, SF_w1 hk]
    constructor
    · rintro ⟨r, r1, r2, r3, r4⟩
      exact ⟨r, r1, (FB_K p0 p2).mpr ⟨r2, r4⟩, r3⟩
    · rintro ⟨r, r1, r2, r3⟩
      obtain ⟨r4, r5⟩ := (FB_K p0 p2).mp r2
      exact ⟨r, r1, r4, r3, r5⟩
  cases hk : kpB N B S T n m L q (nI h) with
  | true =>
    have z := clB_iff.mp hk
    rw [ik_any_no (fun k hk => decide_eq_false (by rw [ct k hk]; have := z k hk; omega))]
    rfl
  | false =>
    cases c : ik_any (fun k => decide (bgc (fun i => decide (g.1 46 (24 * k + i) ≤ nI h)) N < q)) B with
    | true => rfl
    | false =>
      have : kpB N B S T n m L q (nI h) = true := clB_iff.mpr (fun k hk => by
        apply Classical.byContradiction
        intro z
        rw [ik_any_ex.mpr ⟨k, hk, decide_eq_true (by rw [ct k hk]; omega)⟩] at c
        cases c)
      rw [hk] at this
      cases this
theorem op_kept (a : Int32) (x m : GG) (h : Rel x m) : ∃ v x' m', fX11_kept [.int a] x = some (v, x') ∧ fX12_kept [.int a] m = some (v, m') ∧ Rel x' m' := by
  have h0 := h
  obtain ⟨N, B, S, h⟩ := h
  have hA := h
  obtain ⟨hT, hL, hN, hB, hTi, hLi, hH, hC, hNo, hS, hR, hQ⟩ := h
  have hB4 := hB.1
  have hN24 := hN.1
  have xB := hB.2.1
  have mB := hB.2.2.1
  by_cases z : B = 0
  · subst z
    refine ⟨.int (-1), x, m, eq_of_wF ?_, eq_of_wF ?_, h0⟩
    · unfold fX11_kept
      simp (decide := true) only [wE_lit, wL_lit, wE_loc, wL_loc, wE_add, wE_sub, wE_mul, wE_and, wE_or, wE_xor, wE_shl, wE_shr, wE_ushr, wE_div, wE_rem, wE_neg, wE_i2b, wE_l2i, wL_i2l, wL_add, wL_mul, wE_fld, wL_fld, wE_arr, wL_arr, wC_cmp, wC_cmp0, wC_cmpL, wC_and, wC_or, wC_not, wC_ite, wL_ite, wA_nil, wA_int, wA_long, wE_call, wL_call, wS_skip, wS_seq, wS_set, wS_setL, wS_inc, wS_if, wS_put, wS_putL, wS_putOp, wS_putOpL, wS_ast, wS_astL, wS_aop, wS_aopL, wS_ret, wS_retL, wS_retV, wS_do, wS_pop, wS_dead, wS_sw, wF_body, Nat.reduceAdd, Nat.zero_add, Bool.not_not, true_and, and_true, if_true, if_false, ↓reduceIte, eq_self, Value.int.injEq, Value.long.injEq, exists_eq_left', ik_b1, ik_b0, ik_bz0, ik_bz3, ik_bz3_1, ik_bz3_0, ik_cmp, ik_cmpL, ik_eI, ik_eL, ik_as, ik_i0, ik_i1, decide_eq_true_eq, decide_eq_false_iff_not, decide_true, decide_false, Bool.not_true, Bool.not_false, reduceCtorEq, forall_const, false_implies, true_implies, implies_true, true_and, and_true, and_self, false_and, and_false, Bool.and_true, Bool.true_and, not_true_eq_false, not_false_eq_true, if_true, if_false, ite_true, ite_false, ik_bz3_0, ik_bz3_1, ik_bz0, exists_eq', w_cnt0, xB, nI_0]
    · unfold fX12_kept
      simp (decide := true) only [wE_lit, wL_lit, wE_loc, wL_loc, wE_add, wE_sub, wE_mul, wE_and, wE_or, wE_xor, wE_shl, wE_shr, wE_ushr, wE_div, wE_rem, wE_neg, wE_i2b, wE_l2i, wL_i2l, wL_add, wL_mul, wE_fld, wL_fld, wE_arr, wL_arr, wC_cmp, wC_cmp0, wC_cmpL, wC_and, wC_or, wC_not, wC_ite, wL_ite, wA_nil, wA_int, wA_long, wE_call, wL_call, wS_skip, wS_seq, wS_set, wS_setL, wS_inc, wS_if, wS_put, wS_putL, wS_putOp, wS_putOpL, wS_ast, wS_astL, wS_aop, wS_aopL, wS_ret, wS_retL, wS_retV, wS_do, wS_pop, wS_dead, wS_sw, wF_body, Nat.reduceAdd, Nat.zero_add, Bool.not_not, true_and, and_true, if_true, if_false, ↓reduceIte, eq_self, Value.int.injEq, Value.long.injEq, exists_eq_left', ik_b1, ik_b0, ik_bz0, ik_bz3, ik_bz3_1, ik_bz3_0, ik_cmp, ik_cmpL, ik_eI, ik_eL, ik_as, ik_i0, ik_i1, decide_eq_true_eq, decide_eq_false_iff_not, decide_true, decide_false, Bool.not_true, Bool.not_false, reduceCtorEq, forall_const, false_implies, true_implies, implies_true, true_and, and_true, and_self, false_and, and_false, Bool.and_true, Bool.true_and, not_true_eq_false, not_false_eq_true, if_true, if_false, ite_true, ite_false, ik_bz3_0, ik_bz3_1, ik_bz0, exists_eq', mB, nI_0]
  have nz : (nI B = 0) = False := eq_false (fun q => z ((nI_eq (by omega) (by omega)).mp (q.trans nI_0.symm)))
  by_cases c : 1 ≤ a ∧ a ≤ 24
  · obtain ⟨q, q2, rfl⟩ := nI_of3 (x := a) (a := 24) (by omega) (Int32.le_trans (by decide) c.1) c.2
    have q1 : 1 ≤ q := (nI_leI (a := 1) (by omega) (by omega)).mp c.1
    obtain ⟨c1, M, L, hD⟩ := hR.d
    obtain ⟨n, ln1, ln2, ln3, ln4⟩ := hLi
    obtain ⟨⟨Hn, hn1, hn2, hn3, hn4⟩, hh⟩ := hH
    obtain ⟨T, t1, t2, t3, t4⟩ := hTi
    obtain ⟨v, g, e1, k1, k2, k3⟩ := w_keptX hA.e hQ hD ln1 ln3 t3 t1 (show 0 < B by omega) q1 q2
    obtain ⟨_, m1, e2, rfl, p1, p2⟩ := w_habits hA.e hD ln3 ln1 hn3 hn1 t3 t1 (show 0 < B by omega) (eqM.rfl' m)
    have hv : ∀ r, r ≤ 200 → ∀ Q : Value → GG → Prop, wF fX12_haveAll [.int (nI q), .int (nI r)] m1 Q ↔ Q (.int (ik_b2 (kpB N B S T n m L q (nI r)))) m1 := fun r hr Q => by
      have := w_haveAll (q := q) (x := nI r) hN24 hB4 (show m1.1 0 2 = nI N by rw [p1.2 2 (by decide)]; exact hN.2.2.1) (show m1.1 0 3 = nI B by rw [p1.2 3 (by decide)]; exact mB) q2 Q
      rw [have_kp hN24 hr p2] at this
      exact this
    have Y : wF fX12_kept [.int (nI q)] m (fun w g' => w = v ∧ g' = m1) := by
      unfold fX12_kept
      simp (decide := true) only [wE_lit, wL_lit, wE_loc, wL_loc, wE_add, wE_sub, wE_mul, wE_and, wE_or, wE_xor, wE_shl, wE_shr, wE_ushr, wE_div, wE_rem, wE_neg, wE_i2b, wE_l2i, wL_i2l, wL_add, wL_mul, wE_fld, wL_fld, wE_arr, wL_arr, wC_cmp, wC_cmp0, wC_cmpL, wC_and, wC_or, wC_not, wC_ite, wL_ite, wA_nil, wA_int, wA_long, wE_call, wL_call, wS_skip, wS_seq, wS_set, wS_setL, wS_inc, wS_if, wS_put, wS_putL, wS_putOp, wS_putOpL, wS_ast, wS_astL, wS_aop, wS_aopL, wS_ret, wS_retL, wS_retV, wS_do, wS_pop, wS_dead, wS_sw, wF_body, Nat.reduceAdd, Nat.zero_add, Bool.not_not, true_and, and_true, if_true, if_false, ↓reduceIte, eq_self, Value.int.injEq, Value.long.injEq, exists_eq_left', ik_b1, ik_b0, ik_bz0, ik_bz3, ik_bz3_1, ik_bz3_0, ik_cmp, ik_cmpL, ik_eI, ik_eL, ik_as, ik_i0, ik_i1, decide_eq_true_eq, decide_eq_false_iff_not, decide_true, decide_false, Bool.not_true, Bool.not_false, reduceCtorEq, forall_const, false_implies, true_implies, implies_true, true_and, and_true, and_self, false_and, and_false, Bool.and_true, Bool.true_and, not_true_eq_false, not_false_eq_true, if_true, if_false, ite_true, ite_false, ik_bz3_0, ik_bz3_1, ik_bz0, i64_n20, i64_n1, l64_0, l64_1, l64_2, l64_3, l64_7, l64_12, l64_19, l64_20, l64_23, l64_24, l64_26, l64_29, l64_40, l64_50, l64_60, l64_63, l64_100, l64_160, l64_199, l64_255, l64_1000, l64_3000, l64_5000, l64_9999, l64_m1, l64_m20, mB, nz, w_lies, c, wF_eq e2]
      refine wS_for _ _ (fun r σ => σ.1 2 = nI r ∧ σ.1 1 = nI q ∧ σ.2.2 = m1 ∧ ∀ r', r' < r → kpB N B S T n m L q (nI r') = false) 0 201 _ ⟨by simp [upd, nI_0], by simp [upd, ik_eI], rfl, fun r' hr => absurd hr (Nat.not_lt_zero _)⟩ (by omega) (by omega) ?_ ?_ ?_
      · rintro r ⟨s1, s2, s3⟩ h1 ⟨h2, -, h3, -⟩
        simp only at h2 h3
        have le : (nI r ≤ 200) = (r < 201) := propext (by rw [show (200 : Int32) = nI 200 from rfl, nI_leI (by omega) (by omega)]; omega)
        simp (decide := true) only [wE_lit, wL_lit, wE_loc, wL_loc, wE_add, wE_sub, wE_mul, wE_and, wE_or, wE_xor, wE_shl, wE_shr, wE_ushr, wE_div, wE_rem, wE_neg, wE_i2b, wE_l2i, wL_i2l, wL_add, wL_mul, wE_fld, wL_fld, wE_arr, wL_arr, wC_cmp, wC_cmp0, wC_cmpL, wC_and, wC_or, wC_not, wC_ite, wL_ite, wA_nil, wA_int, wA_long, wE_call, wL_call, wS_skip, wS_seq, wS_set, wS_setL, wS_inc, wS_if, wS_put, wS_putL, wS_putOp, wS_putOpL, wS_ast, wS_astL, wS_aop, wS_aopL, wS_ret, wS_retL, wS_retV, wS_do, wS_pop, wS_dead, wS_sw, wF_body, Nat.reduceAdd, Nat.zero_add, Bool.not_not, true_and, and_true, if_true, if_false, ↓reduceIte, eq_self, Value.int.injEq, Value.long.injEq, exists_eq_left', ik_b1, ik_b0, ik_bz0, ik_bz3, ik_bz3_1, ik_bz3_0, ik_cmp, ik_cmpL, ik_eI, ik_eL, ik_as, ik_i0, ik_i1, decide_eq_true_eq, decide_eq_false_iff_not, decide_true, decide_false, Bool.not_true, Bool.not_false, reduceCtorEq, forall_const, false_implies, true_implies, implies_true, true_and, and_true, and_self, false_and, and_false, Bool.and_true, Bool.true_and, not_true_eq_false, not_false_eq_true, if_true, if_false, ite_true, ite_false, ik_bz3_0, ik_bz3_1, ik_bz0, h2, le]
      · rintro r ⟨s1, s2, s3⟩ h1 ⟨h2, h3, h4, h5⟩
        simp only at h2 h3 h4
        subst h4
        have ha := hv r (by omega)
        cases d : kpB N B S T n m L q (nI r) with
        | true =>
          rw [d] at ha
          have res : v = .int (nI r) := by
            rcases k3 with ⟨k4, -⟩ | ⟨r0, r1, rfl, r3, r4⟩
            · have := kpB_mono (b := 200) ((nI_leI (b := 200) (by omega) (by omega)).mpr (by omega)) d
              rw [k4] at this
              cases this
            · have : r0 = r := by
                rcases Nat.lt_trichotomy r0 r with l | l | l
                · rw [h5 r0 l] at r3; cases r3
                · exact l
                · rw [r4 r l] at d; cases d
              rw [this]
          simp (decide := true) only [wE_lit, wL_lit, wE_loc, wL_loc, wE_add, wE_sub, wE_mul, wE_and, wE_or, wE_xor, wE_shl, wE_shr, wE_ushr, wE_div, wE_rem, wE_neg, wE_i2b, wE_l2i, wL_i2l, wL_add, wL_mul, wE_fld, wL_fld, wE_arr, wL_arr, wC_cmp, wC_cmp0, wC_cmpL, wC_and, wC_or, wC_not, wC_ite, wL_ite, wA_nil, wA_int, wA_long, wE_call, wL_call, wS_skip, wS_seq, wS_set, wS_setL, wS_inc, wS_if, wS_put, wS_putL, wS_putOp, wS_putOpL, wS_ast, wS_astL, wS_aop, wS_aopL, wS_ret, wS_retL, wS_retV, wS_do, wS_pop, wS_dead, wS_sw, wF_body, Nat.reduceAdd, Nat.zero_add, Bool.not_not, true_and, and_true, if_true, if_false, ↓reduceIte, eq_self, Value.int.injEq, Value.long.injEq, exists_eq_left', ik_b1, ik_b0, ik_bz0, ik_bz3, ik_bz3_1, ik_bz3_0, ik_cmp, ik_cmpL, ik_eI, ik_eL, ik_as, ik_i0, ik_i1, decide_eq_true_eq, decide_eq_false_iff_not, decide_true, decide_false, Bool.not_true, Bool.not_false, reduceCtorEq, forall_const, false_implies, true_implies, implies_true, true_and, and_true, and_self, false_and, and_false, Bool.and_true, Bool.true_and, not_true_eq_false, not_false_eq_true, if_true, if_false, ite_true, ite_false, ik_bz3_0, ik_bz3_1, ik_bz0, exists_eq', h2, h3, ha, show ik_b2 true = 1 from rfl]
          exact res.symm
        | false =>
          rw [d] at ha
          simp (decide := true) only [wE_lit, wL_lit, wE_loc, wL_loc, wE_add, wE_sub, wE_mul, wE_and, wE_or, wE_xor, wE_shl, wE_shr, wE_ushr, wE_div, wE_rem, wE_neg, wE_i2b, wE_l2i, wL_i2l, wL_add, wL_mul, wE_fld, wL_fld, wE_arr, wL_arr, wC_cmp, wC_cmp0, wC_cmpL, wC_and, wC_or, wC_not, wC_ite, wL_ite, wA_nil, wA_int, wA_long, wE_call, wL_call, wS_skip, wS_seq, wS_set, wS_setL, wS_inc, wS_if, wS_put, wS_putL, wS_putOp, wS_putOpL, wS_ast, wS_astL, wS_aop, wS_aopL, wS_ret, wS_retL, wS_retV, wS_do, wS_pop, wS_dead, wS_sw, wF_body, Nat.reduceAdd, Nat.zero_add, Bool.not_not, true_and, and_true, if_true, if_false, ↓reduceIte, eq_self, Value.int.injEq, Value.long.injEq, exists_eq_left', ik_b1, ik_b0, ik_bz0, ik_bz3, ik_bz3_1, ik_bz3_0, ik_cmp, ik_cmpL, ik_eI, ik_eL, ik_as, ik_i0, ik_i1, decide_eq_true_eq, decide_eq_false_iff_not, decide_true, decide_false, Bool.not_true, Bool.not_false, reduceCtorEq, forall_const, false_implies, true_implies, implies_true, true_and, and_true, and_self, false_and, and_false, Bool.and_true, Bool.true_and, not_true_eq_false, not_false_eq_true, if_true, if_false, ite_true, ite_false, ik_bz3_0, ik_bz3_1, ik_bz0, exists_eq', h2, h3, ha, show ik_b2 false = 0 from rfl, upd_at, upd_off, nI_1, nI_add]
          intro r' hr
          by_cases e : r' = r
          · subst e; exact d
          · exact h5 r' (by omega)
      · rintro ⟨s1, s2, s3⟩ ⟨h2, h3, h4, h5⟩
        simp only at h4
        subst h4
        have res : v = .int (-1) := by
          rcases k3 with ⟨-, k4⟩ | ⟨r0, r1, -, r3, -⟩
          · exact k4
          · rw [h5 r0 (by omega)] at r3; cases r3
        simp (decide := true) only [wE_lit, wL_lit, wE_loc, wL_loc, wE_add, wE_sub, wE_mul, wE_and, wE_or, wE_xor, wE_shl, wE_shr, wE_ushr, wE_div, wE_rem, wE_neg, wE_i2b, wE_l2i, wL_i2l, wL_add, wL_mul, wE_fld, wL_fld, wE_arr, wL_arr, wC_cmp, wC_cmp0, wC_cmpL, wC_and, wC_or, wC_not, wC_ite, wL_ite, wA_nil, wA_int, wA_long, wE_call, wL_call, wS_skip, wS_seq, wS_set, wS_setL, wS_inc, wS_if, wS_put, wS_putL, wS_putOp, wS_putOpL, wS_ast, wS_astL, wS_aop, wS_aopL, wS_ret, wS_retL, wS_retV, wS_do, wS_pop, wS_dead, wS_sw, wF_body, Nat.reduceAdd, Nat.zero_add, Bool.not_not, true_and, and_true, if_true, if_false, ↓reduceIte, eq_self, Value.int.injEq, Value.long.injEq, exists_eq_left', ik_b1, ik_b0, ik_bz0, ik_bz3, ik_bz3_1, ik_bz3_0, ik_cmp, ik_cmpL, ik_eI, ik_eL, ik_as, ik_i0, ik_i1, decide_eq_true_eq, decide_eq_false_iff_not, decide_true, decide_false, Bool.not_true, Bool.not_false, reduceCtorEq, forall_const, false_implies, true_implies, implies_true, true_and, and_true, and_self, false_and, and_false, Bool.and_true, Bool.true_and, not_true_eq_false, not_false_eq_true, if_true, if_false, ite_true, ite_false, ik_bz3_0, ik_bz3_1, ik_bz0, exists_eq']
        exact res.symm
    exact ⟨v, g, m1, e1, eq_of_wF Y, N, B, S, hA.w k1 p1 (k2.m p1)⟩
  · refine ⟨.int (-1), x, m, eq_of_wF ?_, eq_of_wF ?_, h0⟩
    · unfold fX11_kept
      simp (decide := true) only [wE_lit, wL_lit, wE_loc, wL_loc, wE_add, wE_sub, wE_mul, wE_and, wE_or, wE_xor, wE_shl, wE_shr, wE_ushr, wE_div, wE_rem, wE_neg, wE_i2b, wE_l2i, wL_i2l, wL_add, wL_mul, wE_fld, wL_fld, wE_arr, wL_arr, wC_cmp, wC_cmp0, wC_cmpL, wC_and, wC_or, wC_not, wC_ite, wL_ite, wA_nil, wA_int, wA_long, wE_call, wL_call, wS_skip, wS_seq, wS_set, wS_setL, wS_inc, wS_if, wS_put, wS_putL, wS_putOp, wS_putOpL, wS_ast, wS_astL, wS_aop, wS_aopL, wS_ret, wS_retL, wS_retV, wS_do, wS_pop, wS_dead, wS_sw, wF_body, Nat.reduceAdd, Nat.zero_add, Bool.not_not, true_and, and_true, if_true, if_false, ↓reduceIte, eq_self, Value.int.injEq, Value.long.injEq, exists_eq_left', ik_b1, ik_b0, ik_bz0, ik_bz3, ik_bz3_1, ik_bz3_0, ik_cmp, ik_cmpL, ik_eI, ik_eL, ik_as, ik_i0, ik_i1, decide_eq_true_eq, decide_eq_false_iff_not, decide_true, decide_false, Bool.not_true, Bool.not_false, reduceCtorEq, forall_const, false_implies, true_implies, implies_true, true_and, and_true, and_self, false_and, and_false, Bool.and_true, Bool.true_and, not_true_eq_false, not_false_eq_true, if_true, if_false, ite_true, ite_false, ik_bz3_0, ik_bz3_1, ik_bz0, exists_eq', w_cnt0, xB, nz, w_within, c]
    · unfold fX12_kept
      simp (decide := true) only [wE_lit, wL_lit, wE_loc, wL_loc, wE_add, wE_sub, wE_mul, wE_and, wE_or, wE_xor, wE_shl, wE_shr, wE_ushr, wE_div, wE_rem, wE_neg, wE_i2b, wE_l2i, wL_i2l, wL_add, wL_mul, wE_fld, wL_fld, wE_arr, wL_arr, wC_cmp, wC_cmp0, wC_cmpL, wC_and, wC_or, wC_not, wC_ite, wL_ite, wA_nil, wA_int, wA_long, wE_call, wL_call, wS_skip, wS_seq, wS_set, wS_setL, wS_inc, wS_if, wS_put, wS_putL, wS_putOp, wS_putOpL, wS_ast, wS_astL, wS_aop, wS_aopL, wS_ret, wS_retL, wS_retV, wS_do, wS_pop, wS_dead, wS_sw, wF_body, Nat.reduceAdd, Nat.zero_add, Bool.not_not, true_and, and_true, if_true, if_false, ↓reduceIte, eq_self, Value.int.injEq, Value.long.injEq, exists_eq_left', ik_b1, ik_b0, ik_bz0, ik_bz3, ik_bz3_1, ik_bz3_0, ik_cmp, ik_cmpL, ik_eI, ik_eL, ik_as, ik_i0, ik_i1, decide_eq_true_eq, decide_eq_false_iff_not, decide_true, decide_false, Bool.not_true, Bool.not_false, reduceCtorEq, forall_const, false_implies, true_implies, implies_true, true_and, and_true, and_self, false_and, and_false, Bool.and_true, Bool.true_and, not_true_eq_false, not_false_eq_true, if_true, if_false, ite_true, ite_false, ik_bz3_0, ik_bz3_1, ik_bz0, exists_eq', i64_n20, i64_n1, l64_0, l64_1, l64_2, l64_3, l64_7, l64_12, l64_19, l64_20, l64_23, l64_24, l64_26, l64_29, l64_40, l64_50, l64_60, l64_63, l64_100, l64_160, l64_199, l64_255, l64_1000, l64_3000, l64_5000, l64_9999, l64_m1, l64_m20, mB, nz, w_lies, c]
