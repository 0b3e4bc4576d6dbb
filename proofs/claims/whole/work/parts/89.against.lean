theorem agB_or (m : GG) (S n : Nat) (L : List (Nat × RC)) (k i : Nat) (ink : Bool) : nI (agB m S n L k i + (if ink = true then 1 else 0)) = (((if ink = true then (1 : Int32) else 0) ||| (if grG m k i S = true then 4 else 0)) ||| (if rlH (valM m k i) k L = true then 0 else 8) ||| (if ik_any (liF m k i) n = true then 16 else 0)) ||| (if yrB m k i = true then 32 else 0) := by
  unfold agB
  cases ink <;> cases grG m k i S <;> cases rlH (valM m k i) k L <;> cases ik_any (liF m k i) n <;> cases yrB m k i <;> rfl
theorem agB_or2 (m : GG) (S n : Nat) (L : List (Nat × RC)) (k i : Nat) (ink : Bool) : nI (agB m S n L k i) ||| (if ink = true then (1 : Int32) else 0) = nI (agB m S n L k i + (if ink = true then 1 else 0)) := by
  unfold agB
  cases ink <;> cases grG m k i S <;> cases rlH (valM m k i) k L <;> cases ik_any (liF m k i) n <;> cases yrB m k i <;> rfl
theorem yrB_iff {m : GG} {k i : Nat} : yrB m k i = true ↔ ((¬ m.1 11 k = -1 ∧ ¬ (m.1 7 i ≤ m.1 11 k ∧ m.1 11 k ≤ m.1 8 i)) ∨ (m.1 12 k >>> (m.1 6 i &&& 31)) &&& 1 = 0) := by
  unfold yrB
  simp only [Bool.or_eq_true, Bool.and_eq_true, Bool.not_eq_true', decide_eq_false_iff_not, decide_eq_true_eq, Bool.and_eq_false_iff]
  constructor
  · rintro (⟨h1, h2⟩ | h2)
    · refine Or.inl ⟨h1, fun h => ?_⟩
      rcases h2 with h2 | h2
      · exact h2 h.1
      · exact h2 h.2
    · exact Or.inr h2
  · rintro (⟨h1, h2⟩ | h2)
    · refine Or.inl ⟨h1, ?_⟩
      by_cases q : m.1 7 i ≤ m.1 11 k
      · exact Or.inr (fun h => h2 ⟨q, h⟩)
      · exact Or.inl q
    · exact Or.inr h2
theorem w_againstOf {x m g : GG} {N B S k i n H : Nat} {c : Nat → Nat} {M : Nat} {L : List (Nat × RC)} (h : rE x m N B S) (hR : rlD c M L x m) (hmn : m.1 0 7 = nI n) (hn : n ≤ 20) (hH : m.1 0 8 = nI H) (hH60 : H ≤ 60) (hm : eqM m g) (hk : k < B) (hi : i < N) :
    wF fX12_againstOf [.int (nI k), .int (nI i)] g (fun v g' => v = .int (nI (agB m S n L k i + (if inkB m H k i = true then 1 else 0))) ∧ eqN m g g') := by
  have hg := h.eq (eqX.rfl' x) hm
  have hN := hg.2.2.1
  have hB := hg.2.2.2.1
  have hS := hg.2.2.2.2.2.2.2.2.2.1
  have hN24 := hN.1
  have ixk := ik_ix_nI (show k < 4 by have := hB.1; omega) (by omega)
  have ixi := ik_ix_nI (show i < 24 by omega) (by omega)
  obtain ⟨⟨n', hn', hxn, hgn, ht⟩, -⟩ := hg.2.2.2.2.2.2.1
  have en : n' = H := (nI_eq (by omega) (by omega)).mp ((hgn.symm.trans (hm.2 8 (by decide))).trans hH)
  subst en
  obtain ⟨nl, ln1, ln2, ln3, ln4⟩ := hg.2.2.2.2.2.1
  have el : nl = n := (nI_eq (by omega) (by omega)).mp ((ln3.symm.trans (hm.2 7 (by decide))).trans hmn)
  subst el
  have wd := w_wideOfM hN hi
  have ht' : ∀ t, t < n' → ∃ a, a < N ∧ g.1 42 t = nI a := fun t h => (ht t h).2.2.2.2.1
  have h0 : ∀ Q : Value → GG → Prop, wF fX12_habitOf [.int (m.1 0 11), .int 0] g Q ↔ _ := fun Q => w_habitOf hN hn' hgn ht' (m.1 0 11) false Q
  have h1 : ∀ Q : Value → GG → Prop, wF fX12_habitOf [.int (m.1 0 11), .int 1] g Q ↔ _ := fun Q => w_habitOf hN hn' hgn ht' (m.1 0 11) true Q
  rw [ik_hb_eq hm] at h0 h1
  have gr := fun Q => w_grammarM hS hB.1 (show i < 24 by omega) (grG g k i S) (grG_iff hS) Q
  rw [grG_eq hm] at gr
  rw [ik_nw_eq hm] at wd
  have ru := w_agRulesM h.2.2.1 hB.1 hk hi hm hR
  have r10 : g.1 10 = m.1 10 := hm.1 10 (by omega)
  have r011 : g.1 0 11 = m.1 0 11 := hm.2 11 (by decide)
  have or0 : ∀ v : Int32, v ||| 0 = v := fun v => by simp
  unfold fX12_againstOf
  obtain ⟨ink, hink⟩ : ∃ ink, ink = inkB m n' k i := ⟨_, rfl⟩
  have tail : ∀ (i0 : Int32), i0 = (if inkB m n' k i = true then (1 : Int32) else 0) → ∀ (gv : Int32), gv = (if grG m k i S = true then 4 else 0) → ∀ (u : Nat → Int32) (u2 : Nat → Int64), u 1 = nI k → u 2 = nI i → u 4 = i0 ||| gv →
      wS (sSeq (sSet 4 (sBin 4 (sLoc 4) (sIte (sCmp0 1 (sCall fX12_isAgainstRules (sArgI (sLoc 1) (sArgI (sLoc 2) sNil)))) (sLit 8) (sLit 0)))) (sSeq (sSet 4 (sBin 4 (sLoc 4) (sIte (sCmp0 1 (sCall fX12_isAgainstLists (sArgI (sLoc 1) (sArgI (sLoc 2) sNil)))) (sLit 16) (sLit 0)))) (sSeq (sSet 5 (sIte (sAnd (sCmp 1 (sArr 11 4 (sLoc 1)) (sLit (-1))) (sNot (sCmp0 1 (sCall fX12_lies (sArgL (sI2l (sArr 11 4 (sLoc 1))) (sArgL (sI2l (sArr 7 24 (sLoc 2))) (sArgL (sI2l (sArr 8 24 (sLoc 2))) sNil))))))) (sLit 1) (sLit 0))) (sRet 0 (sBin 4 (sLoc 4) (sIte (sOr (sCmp0 1 (sLoc 5)) (sNot (sCmp0 1 (sCall fX12_has (sArgI (sArr 12 4 (sLoc 1)) (sArgI (sArr 6 24 (sLoc 2)) sNil)))))) (sLit 32) (sLit 0))))))) (u, u2, g) (fun _ => False) (fun v g' => v = .int (nI (agB m S nl L k i + (if inkB m n' k i = true then 1 else 0))) ∧ eqN m g g') := by
    intro i0 hi0 gv hgv u u2 e1 e2 e4
    simp (decide := true) only [wE_lit, wL_lit, wE_loc, wL_loc, wE_add, wE_sub, wE_mul, wE_and, wE_or, wE_xor, wE_shl, wE_shr, wE_ushr, wE_div, wE_rem, wE_neg, wE_i2b, wE_l2i, wL_i2l, wL_add, wL_mul, wE_fld, wL_fld, wE_arr, wL_arr, wC_cmp, wC_cmp0, wC_cmpL, wC_and, wC_or, wC_not, wC_ite, wL_ite, wA_nil, wA_int, wA_long, wE_call, wL_call, wS_skip, wS_seq, wS_set, wS_setL, wS_inc, wS_if, wS_put, wS_putL, wS_putOp, wS_putOpL, wS_ast, wS_astL, wS_aop, wS_aopL, wS_ret, wS_retL, wS_retV, wS_do, wS_pop, wS_dead, wS_sw, wF_body, Nat.reduceAdd, Nat.zero_add, Bool.not_not, true_and, and_true, if_true, if_false, ↓reduceIte, eq_self, Value.int.injEq, Value.long.injEq, exists_eq_left', ik_b1, ik_b0, ik_bz0, ik_bz3, ik_bz3_1, ik_bz3_0, ik_cmp, ik_cmpL, ik_eI, ik_eL, ik_as, ik_i0, ik_i1, decide_eq_true_eq, decide_eq_false_iff_not, decide_true, decide_false, Bool.not_true, Bool.not_false, reduceCtorEq, forall_const, false_implies, true_implies, implies_true, true_and, and_true, and_self, false_and, and_false, Bool.and_true, Bool.true_and, not_true_eq_false, not_false_eq_true, if_true, if_false, ite_true, ite_false, ik_bz3_0, ik_bz3_1, ik_bz0, wE_ite2, e1, e2, e4]
    refine wF_mono ru ?_
    rintro _ g2 ⟨rfl, k1⟩
    have hg2 := h.eq (eqX.rfl' x) k1.1
    have li := fun Q => w_listsM (B := B) (k := k) hg2.2.2.1 hn (by rw [k1.1.2 7 (by decide)]; exact hmn) (fun t ht => by rw [k1.1.1 39 (by omega), k1.1.1 40 (by omega), ← hm.1 39 (by omega), ← hm.1 40 (by omega)]; exact ⟨(ln4 t ht).2.2.2.2.1, (ln4 t ht).2.2.2.2.2⟩) hi Q
    rw [liF_eq k1.1] at li
    have r11 : g2.1 11 = m.1 11 := k1.1.1 11 (by omega)
    have r12 : g2.1 12 = m.1 12 := k1.1.1 12 (by omega)
    have r6 : g2.1 6 = m.1 6 := k1.1.1 6 (by omega)
    have r7 : g2.1 7 = m.1 7 := k1.1.1 7 (by omega)
    have r8 : g2.1 8 = m.1 8 := k1.1.1 8 (by omega)
    have bz : ∀ (P : Prop) [Decidable P], ((if P then (1 : Int32) else 0) = 0) ↔ ¬ P := fun P _ => by by_cases q : P <;> simp [q]
    simp (decide := true) only [wE_lit, wL_lit, wE_loc, wL_loc, wE_add, wE_sub, wE_mul, wE_and, wE_or, wE_xor, wE_shl, wE_shr, wE_ushr, wE_div, wE_rem, wE_neg, wE_i2b, wE_l2i, wL_i2l, wL_add, wL_mul, wE_fld, wL_fld, wE_arr, wL_arr, wC_cmp, wC_cmp0, wC_cmpL, wC_and, wC_or, wC_not, wC_ite, wL_ite, wA_nil, wA_int, wA_long, wE_call, wL_call, wS_skip, wS_seq, wS_set, wS_setL, wS_inc, wS_if, wS_put, wS_putL, wS_putOp, wS_putOpL, wS_ast, wS_astL, wS_aop, wS_aopL, wS_ret, wS_retL, wS_retV, wS_do, wS_pop, wS_dead, wS_sw, wF_body, Nat.reduceAdd, Nat.zero_add, Bool.not_not, true_and, and_true, if_true, if_false, ↓reduceIte, eq_self, Value.int.injEq, Value.long.injEq, exists_eq_left', ik_b1, ik_b0, ik_bz0, ik_bz3, ik_bz3_1, ik_bz3_0, ik_cmp, ik_cmpL, ik_eI, ik_eL, ik_as, ik_i0, ik_i1, decide_eq_true_eq, decide_eq_false_iff_not, decide_true, decide_false, Bool.not_true, Bool.not_false, reduceCtorEq, forall_const, false_implies, true_implies, implies_true, true_and, and_true, and_self, false_and, and_false, Bool.and_true, Bool.true_and, not_true_eq_false, not_false_eq_true, if_true, if_false, ite_true, ite_false, ik_bz3_0, ik_bz3_1, ik_bz0, wE_ite2, upd_at, upd_off, li, ixk, ixi, Option.some.injEq, r11, r12, r6, r7, r8, w_lies, w_has, e1, e2, ik_b2_0]
    have fin : ∀ v : Int32, v = (((i0 ||| gv) ||| (if rlH (valM m k i) k L = true then 0 else 8) ||| (if ik_any (liF m k i) nl = true then 16 else 0)) ||| (if yrB m k i = true then 32 else 0)) → v = nI (agB m S nl L k i + (if inkB m n' k i = true then 1 else 0)) ∧ eqN m g g2 := by
      intro v hv
      refine ⟨?_, k1⟩
      rw [agB_or, hv, hi0, hgv]
    have hw := yrB_iff (m := m) (k := k) (i := i)
    by_cases q1 : m.1 11 k = -1 <;> by_cases q3 : m.1 7 i ≤ m.1 11 k ∧ m.1 11 k ≤ m.1 8 i <;> by_cases q2 : (m.1 12 k >>> (m.1 6 i &&& 31)) &&& 1 = 0
    all_goals
      cases hr : rlH (valM m k i) k L <;> cases hl : ik_any (liF m k i) nl <;> cases hy : yrB m k i <;> rw [hr, hl, hy] at fin <;> simp only [q1, q2, q3, hy, not_true_eq_false, not_false_eq_true, and_true, true_and, and_false, false_and, or_true, true_or, or_false, false_or, true_iff, false_iff, iff_true, iff_false, Bool.false_eq_true, reduceCtorEq] at hw
      all_goals
        simp (decide := true) only [ik_i0, ik_i1, decide_eq_true_eq, decide_eq_false_iff_not, decide_true, decide_false, Bool.not_true, Bool.not_false, reduceCtorEq, forall_const, false_implies, true_implies, implies_true, true_and, and_true, and_self, false_and, and_false, Bool.and_true, Bool.true_and, not_true_eq_false, not_false_eq_true, if_true, if_false, ite_true, ite_false, ik_bz3_0, ik_bz3_1, ik_bz0, Nat.reduceAdd, Nat.zero_add, Bool.not_not, true_and, and_true, if_true, if_false, ↓reduceIte, eq_self, Value.int.injEq, Value.long.injEq, exists_eq_left', ik_b1, ik_b0, ik_bz0, ik_bz3, ik_bz3_1, ik_bz3_0, ik_cmp, ik_cmpL, ik_eI, ik_eL, ik_as, q1, q2, q3]
        exact fin _ (by simp)
  have put : ∀ (i0 gv : Int32), i0 = (if inkB m n' k i = true then (1 : Int32) else 0) → gv = (if grG m k i S = true then 4 else 0) → _ := fun i0 gv e1 e2 => tail i0 e1 gv e2 (fun j => if j = 1 then nI k else if j = 2 then nI i else if j = 4 then i0 ||| gv else 0) (fun _ => 0) rfl rfl rfl
  by_cases c1 : m.1 10 k - ik_nw m i < ik_hb m (m.1 0 11) false n'
  · have hi1 : (1 : Int32) = if inkB m n' k i = true then 1 else 0 := by unfold inkB; simp [c1]
    cases hg : grG m k i S
    · have t := put 1 0 hi1 (by rw [hg]; rfl)
      simp (decide := true) only [wE_lit, wL_lit, wE_loc, wL_loc, wE_add, wE_sub, wE_mul, wE_and, wE_or, wE_xor, wE_shl, wE_shr, wE_ushr, wE_div, wE_rem, wE_neg, wE_i2b, wE_l2i, wL_i2l, wL_add, wL_mul, wE_fld, wL_fld, wE_arr, wL_arr, wC_cmp, wC_cmp0, wC_cmpL, wC_and, wC_or, wC_not, wC_ite, wL_ite, wA_nil, wA_int, wA_long, wE_call, wL_call, wS_skip, wS_seq, wS_set, wS_setL, wS_inc, wS_if, wS_put, wS_putL, wS_putOp, wS_putOpL, wS_ast, wS_astL, wS_aop, wS_aopL, wS_ret, wS_retL, wS_retV, wS_do, wS_pop, wS_dead, wS_sw, wF_body, Nat.reduceAdd, Nat.zero_add, Bool.not_not, true_and, and_true, if_true, if_false, ↓reduceIte, eq_self, Value.int.injEq, Value.long.injEq, exists_eq_left', ik_b1, ik_b0, ik_bz0, ik_bz3, ik_bz3_1, ik_bz3_0, ik_cmp, ik_cmpL, ik_eI, ik_eL, ik_as, ik_i0, ik_i1, decide_eq_true_eq, decide_eq_false_iff_not, decide_true, decide_false, Bool.not_true, Bool.not_false, reduceCtorEq, forall_const, false_implies, true_implies, implies_true, true_and, and_true, and_self, false_and, and_false, Bool.and_true, Bool.true_and, not_true_eq_false, not_false_eq_true, if_true, if_false, ite_true, ite_false, ik_bz3_0, ik_bz3_1, ik_bz0, wE_ite, wE_ite2, ixk, ixi, Option.some.injEq, r10, r011, wd, h0, h1, upd_at, upd_off, gr, ik_b2, c1, hg] at t ⊢
      exact t
    · have t := put 1 4 hi1 (by rw [hg]; rfl)
      simp (decide := true) only [wE_lit, wL_lit, wE_loc, wL_loc, wE_add, wE_sub, wE_mul, wE_and, wE_or, wE_xor, wE_shl, wE_shr, wE_ushr, wE_div, wE_rem, wE_neg, wE_i2b, wE_l2i, wL_i2l, wL_add, wL_mul, wE_fld, wL_fld, wE_arr, wL_arr, wC_cmp, wC_cmp0, wC_cmpL, wC_and, wC_or, wC_not, wC_ite, wL_ite, wA_nil, wA_int, wA_long, wE_call, wL_call, wS_skip, wS_seq, wS_set, wS_setL, wS_inc, wS_if, wS_put, wS_putL, wS_putOp, wS_putOpL, wS_ast, wS_astL, wS_aop, wS_aopL, wS_ret, wS_retL, wS_retV, wS_do, wS_pop, wS_dead, wS_sw, wF_body, Nat.reduceAdd, Nat.zero_add, Bool.not_not, true_and, and_true, if_true, if_false, ↓reduceIte, eq_self, Value.int.injEq, Value.long.injEq, exists_eq_left', ik_b1, ik_b0, ik_bz0, ik_bz3, ik_bz3_1, ik_bz3_0, ik_cmp, ik_cmpL, ik_eI, ik_eL, ik_as, ik_i0, ik_i1, decide_eq_true_eq, decide_eq_false_iff_not, decide_true, decide_false, Bool.not_true, Bool.not_false, reduceCtorEq, forall_const, false_implies, true_implies, implies_true, true_and, and_true, and_self, false_and, and_false, Bool.and_true, Bool.true_and, not_true_eq_false, not_false_eq_true, if_true, if_false, ite_true, ite_false, ik_bz3_0, ik_bz3_1, ik_bz0, wE_ite, wE_ite2, ixk, ixi, Option.some.injEq, r10, r011, wd, h0, h1, upd_at, upd_off, gr, ik_b2, c1, hg] at t ⊢
      exact t
  · by_cases c2 : ik_hb m (m.1 0 11) true n' < m.1 10 k - ik_nw m i
    · have hi1 : (1 : Int32) = if inkB m n' k i = true then 1 else 0 := by unfold inkB; simp [c2]
      cases hg : grG m k i S
      · have t := put 1 0 hi1 (by rw [hg]; rfl)
        simp (decide := true) only [wE_lit, wL_lit, wE_loc, wL_loc, wE_add, wE_sub, wE_mul, wE_and, wE_or, wE_xor, wE_shl, wE_shr, wE_ushr, wE_div, wE_rem, wE_neg, wE_i2b, wE_l2i, wL_i2l, wL_add, wL_mul, wE_fld, wL_fld, wE_arr, wL_arr, wC_cmp, wC_cmp0, wC_cmpL, wC_and, wC_or, wC_not, wC_ite, wL_ite, wA_nil, wA_int, wA_long, wE_call, wL_call, wS_skip, wS_seq, wS_set, wS_setL, wS_inc, wS_if, wS_put, wS_putL, wS_putOp, wS_putOpL, wS_ast, wS_astL, wS_aop, wS_aopL, wS_ret, wS_retL, wS_retV, wS_do, wS_pop, wS_dead, wS_sw, wF_body, Nat.reduceAdd, Nat.zero_add, Bool.not_not, true_and, and_true, if_true, if_false, ↓reduceIte, eq_self, Value.int.injEq, Value.long.injEq, exists_eq_left', ik_b1, ik_b0, ik_bz0, ik_bz3, ik_bz3_1, ik_bz3_0, ik_cmp, ik_cmpL, ik_eI, ik_eL, ik_as, ik_i0, ik_i1, decide_eq_true_eq, decide_eq_false_iff_not, decide_true, decide_false, Bool.not_true, Bool.not_false, reduceCtorEq, forall_const, false_implies, true_implies, implies_true, true_and, and_true, and_self, false_and, and_false, Bool.and_true, Bool.true_and, not_true_eq_false, not_false_eq_true, if_true, if_false, ite_true, ite_false, ik_bz3_0, ik_bz3_1, ik_bz0, wE_ite, wE_ite2, ixk, ixi, Option.some.injEq, r10, r011, wd, h0, h1, upd_at, upd_off, gr, ik_b2, c1, c2, hg] at t ⊢
        exact t
      · have t := put 1 4 hi1 (by rw [hg]; rfl)
        simp (decide := true) only [wE_lit, wL_lit, wE_loc, wL_loc, wE_add, wE_sub, wE_mul, wE_and, wE_or, wE_xor, wE_shl, wE_shr, wE_ushr, wE_div, wE_rem, wE_neg, wE_i2b, wE_l2i, wL_i2l, wL_add, wL_mul, wE_fld, wL_fld, wE_arr, wL_arr, wC_cmp, wC_cmp0, wC_cmpL, wC_and, wC_or, wC_not, wC_ite, wL_ite, wA_nil, wA_int, wA_long, wE_call, wL_call, wS_skip, wS_seq, wS_set, wS_setL, wS_inc, wS_if, wS_put, wS_putL, wS_putOp, wS_putOpL, wS_ast, wS_astL, wS_aop, wS_aopL, wS_ret, wS_retL, wS_retV, wS_do, wS_pop, wS_dead, wS_sw, wF_body, Nat.reduceAdd, Nat.zero_add, Bool.not_not, true_and, and_true, if_true, if_false, ↓reduceIte, eq_self, Value.int.injEq, Value.long.injEq, exists_eq_left', ik_b1, ik_b0, ik_bz0, ik_bz3, ik_bz3_1, ik_bz3_0, ik_cmp, ik_cmpL, ik_eI, ik_eL, ik_as, ik_i0, ik_i1, decide_eq_true_eq, decide_eq_false_iff_not, decide_true, decide_false, Bool.not_true, Bool.not_false, reduceCtorEq, forall_const, false_implies, true_implies, implies_true, true_and, and_true, and_self, false_and, and_false, Bool.and_true, Bool.true_and, not_true_eq_false, not_false_eq_true, if_true, if_false, ite_true, ite_false, ik_bz3_0, ik_bz3_1, ik_bz0, wE_ite, wE_ite2, ixk, ixi, Option.some.injEq, r10, r011, wd, h0, h1, upd_at, upd_off, gr, ik_b2, c1, c2, hg] at t ⊢
        exact t
    · have hi1 : (0 : Int32) = if inkB m n' k i = true then 1 else 0 := by unfold inkB; simp [c1, c2]
      cases hg : grG m k i S
      · have t := put 0 0 hi1 (by rw [hg]; rfl)
        simp (decide := true) only [wE_lit, wL_lit, wE_loc, wL_loc, wE_add, wE_sub, wE_mul, wE_and, wE_or, wE_xor, wE_shl, wE_shr, wE_ushr, wE_div, wE_rem, wE_neg, wE_i2b, wE_l2i, wL_i2l, wL_add, wL_mul, wE_fld, wL_fld, wE_arr, wL_arr, wC_cmp, wC_cmp0, wC_cmpL, wC_and, wC_or, wC_not, wC_ite, wL_ite, wA_nil, wA_int, wA_long, wE_call, wL_call, wS_skip, wS_seq, wS_set, wS_setL, wS_inc, wS_if, wS_put, wS_putL, wS_putOp, wS_putOpL, wS_ast, wS_astL, wS_aop, wS_aopL, wS_ret, wS_retL, wS_retV, wS_do, wS_pop, wS_dead, wS_sw, wF_body, Nat.reduceAdd, Nat.zero_add, Bool.not_not, true_and, and_true, if_true, if_false, ↓reduceIte, eq_self, Value.int.injEq, Value.long.injEq, exists_eq_left', ik_b1, ik_b0, ik_bz0, ik_bz3, ik_bz3_1, ik_bz3_0, ik_cmp, ik_cmpL, ik_eI, ik_eL, ik_as, ik_i0, ik_i1, decide_eq_true_eq, decide_eq_false_iff_not, decide_true, decide_false, Bool.not_true, Bool.not_false, reduceCtorEq, forall_const, false_implies, true_implies, implies_true, true_and, and_true, and_self, false_and, and_false, Bool.and_true, Bool.true_and, not_true_eq_false, not_false_eq_true, if_true, if_false, ite_true, ite_false, ik_bz3_0, ik_bz3_1, ik_bz0, wE_ite, wE_ite2, ixk, ixi, Option.some.injEq, r10, r011, wd, h0, h1, upd_at, upd_off, gr, ik_b2, c1, c2, hg] at t ⊢
        exact t
      · have t := put 0 4 hi1 (by rw [hg]; rfl)
        simp (decide := true) only [wE_lit, wL_lit, wE_loc, wL_loc, wE_add, wE_sub, wE_mul, wE_and, wE_or, wE_xor, wE_shl, wE_shr, wE_ushr, wE_div, wE_rem, wE_neg, wE_i2b, wE_l2i, wL_i2l, wL_add, wL_mul, wE_fld, wL_fld, wE_arr, wL_arr, wC_cmp, wC_cmp0, wC_cmpL, wC_and, wC_or, wC_not, wC_ite, wL_ite, wA_nil, wA_int, wA_long, wE_call, wL_call, wS_skip, wS_seq, wS_set, wS_setL, wS_inc, wS_if, wS_put, wS_putL, wS_putOp, wS_putOpL, wS_ast, wS_astL, wS_aop, wS_aopL, wS_ret, wS_retL, wS_retV, wS_do, wS_pop, wS_dead, wS_sw, wF_body, Nat.reduceAdd, Nat.zero_add, Bool.not_not, true_and, and_true, if_true, if_false, ↓reduceIte, eq_self, Value.int.injEq, Value.long.injEq, exists_eq_left', ik_b1, ik_b0, ik_bz0, ik_bz3, ik_bz3_1, ik_bz3_0, ik_cmp, ik_cmpL, ik_eI, ik_eL, ik_as, ik_i0, ik_i1, decide_eq_true_eq, decide_eq_false_iff_not, decide_true, decide_false, Bool.not_true, Bool.not_false, reduceCtorEq, forall_const, false_implies, true_implies, implies_true, true_and, and_true, and_self, false_and, and_false, Bool.and_true, Bool.true_and, not_true_eq_false, not_false_eq_true, if_true, if_false, ite_true, ite_false, ik_bz3_0, ik_bz3_1, ik_bz0, wE_ite, wE_ite2, ixk, ixi, Option.some.injEq, r10, r011, wd, h0, h1, upd_at, upd_off, gr, ik_b2, c1, c2, hg] at t ⊢
        exact t
