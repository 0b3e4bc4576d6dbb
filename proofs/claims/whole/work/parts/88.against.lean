theorem ik_hb_eq {m g : GG} (h : eqM m g) (a : Int32) (up : Bool) (n : Nat) : ik_hb g a up n = ik_hb m a up n := by
  have e : ik_hs g a up = ik_hs m a up := by
    funext t p
    unfold ik_hs ik_hd
    rw [h.1 41 (by omega), h.1 42 (by omega), h.1 43 (by omega), ik_nw_eq h]
  unfold ik_hb
  rw [e]
theorem liF_eq {m g : GG} (h : eqM m g) (k i : Nat) : liF g k i = liF m k i := by
  unfold liF
  rw [h.1 38 (by omega), h.1 39 (by omega), h.1 40 (by omega), h.1 4 (by omega), h.1 5 (by omega)]
theorem grG_eq {m g : GG} (h : eqM m g) (k i S : Nat) : grG g k i S = grG m k i S := by
  unfold grG grF isWd ik_vb
  rw [h.1 14 (by omega), h.1 15 (by omega), h.1 16 (by omega), h.1 17 (by omega), h.1 18 (by omega), h.1 4 (by omega)]
/-- what all of it says, for bar k and name i: with what stands in the parts -/
theorem w_reasonsX {x m y : GG} {N B S k i n : Nat} {c : Nat → Nat} {M : Nat} {L : List (Nat × RC)} (h : rE x m N B S) (hR : rlD c M L x m) (hn : n ≤ 20) (hmn : m.1 0 7 = nI n) (hx : eqF x y) (hk : k < B) (hi : i < N) :
    wF fX11_reasonsButInk [.int (nI k), .int (nI i)] y (fun v g => v = .int (nI (agB m S n L k i)) ∧ eqF x g) := by
  have hh : ∀ z, eqF x z → rE z m N B S := fun z hz => h.eq hz.x (eqM.rfl' m)
  have hy := hh y hx
  have hB := hy.2.2.2.1
  have hN := hy.2.2.1
  have hB4 : k < 4 := by have := hB.1; omega
  have v6 := w_vowel6 hN hi
  obtain ⟨a, b, a1, b1, xa, xb, ha, hb⟩ := hy.2.2.2.2.2.2.2.2.2.1.2.2.2.2.2
  have gX := grX (i := i) hy.2.2.2.2.2.2.2.2.2.1 hB.1 hk ha hb
  have ibA : ∀ Q : Value → GG → Prop, wF fX8_isBehindA [.int (nI k)] y Q ↔ Q (.int (ik_b2 (a.testBit k))) y := by
    intro Q
    refine wF_eq (eq_of_wF ?_) Q
    have e := nI_bit (n := a) (k := k) (by omega) (by omega)
    unfold fX8_isBehindA
    simp (decide := true) only [wE_lit, wL_lit, wE_loc, wL_loc, wE_add, wE_sub, wE_mul, wE_and, wE_or, wE_xor, wE_shl, wE_shr, wE_ushr, wE_div, wE_rem, wE_neg, wE_i2b, wE_l2i, wL_i2l, wL_add, wL_mul, wE_fld, wL_fld, wE_arr, wL_arr, wC_cmp, wC_cmp0, wC_cmpL, wC_and, wC_or, wC_not, wC_ite, wL_ite, wA_nil, wA_int, wA_long, wE_call, wL_call, wS_skip, wS_seq, wS_set, wS_setL, wS_inc, wS_if, wS_put, wS_putL, wS_putOp, wS_putOpL, wS_ast, wS_astL, wS_aop, wS_aopL, wS_ret, wS_retL, wS_retV, wS_do, wS_pop, wS_dead, wS_sw, wF_body, Nat.reduceAdd, Nat.zero_add, Bool.not_not, true_and, and_true, if_true, if_false, ↓reduceIte, eq_self, Value.int.injEq, Value.long.injEq, exists_eq_left', ik_b1, ik_b0, ik_bz0, ik_bz3, ik_bz3_1, ik_bz3_0, ik_cmp, ik_cmpL, ik_eI, ik_eL, ik_as, ik_i0, ik_i1, decide_eq_true_eq, decide_eq_false_iff_not, decide_true, decide_false, Bool.not_true, Bool.not_false, reduceCtorEq, forall_const, false_implies, true_implies, implies_true, true_and, and_true, and_self, false_and, and_false, Bool.and_true, Bool.true_and, not_true_eq_false, not_false_eq_true, if_true, if_false, ite_true, ite_false, ik_bz3_0, ik_bz3_1, ik_bz0, w_bit, xa, e]
    cases a.testBit k <;> simp [ik_b2, ik_bz]
  have ibN : ∀ Q : Value → GG → Prop, wF fX8_isBehindAn [.int (nI k)] y Q ↔ Q (.int (ik_b2 (b.testBit k))) y := by
    intro Q
    refine wF_eq (eq_of_wF ?_) Q
    have e := nI_bit (n := b) (k := k) (by omega) (by omega)
    unfold fX8_isBehindAn
    simp (decide := true) only [wE_lit, wL_lit, wE_loc, wL_loc, wE_add, wE_sub, wE_mul, wE_and, wE_or, wE_xor, wE_shl, wE_shr, wE_ushr, wE_div, wE_rem, wE_neg, wE_i2b, wE_l2i, wL_i2l, wL_add, wL_mul, wE_fld, wL_fld, wE_arr, wL_arr, wC_cmp, wC_cmp0, wC_cmpL, wC_and, wC_or, wC_not, wC_ite, wL_ite, wA_nil, wA_int, wA_long, wE_call, wL_call, wS_skip, wS_seq, wS_set, wS_setL, wS_inc, wS_if, wS_put, wS_putL, wS_putOp, wS_putOpL, wS_ast, wS_astL, wS_aop, wS_aopL, wS_ret, wS_retL, wS_retV, wS_do, wS_pop, wS_dead, wS_sw, wF_body, Nat.reduceAdd, Nat.zero_add, Bool.not_not, true_and, and_true, if_true, if_false, ↓reduceIte, eq_self, Value.int.injEq, Value.long.injEq, exists_eq_left', ik_b1, ik_b0, ik_bz0, ik_bz3, ik_bz3_1, ik_bz3_0, ik_cmp, ik_cmpL, ik_eI, ik_eL, ik_as, ik_i0, ik_i1, decide_eq_true_eq, decide_eq_false_iff_not, decide_true, decide_false, Bool.not_true, Bool.not_false, reduceCtorEq, forall_const, false_implies, true_implies, implies_true, true_and, and_true, and_self, false_and, and_false, Bool.and_true, Bool.true_and, not_true_eq_false, not_false_eq_true, if_true, if_false, ite_true, ite_false, ik_bz3_0, ik_bz3_1, ik_bz0, w_bit, xb, e]
    cases b.testBit k <;> simp [ik_b2, ik_bz]
  -- behind the grammar: the number so far, the rest
  have rest : ∀ (u1 : Nat → Int32) (u2 : Nat → Int64), u1 1 = nI k → u1 2 = nI i → u1 4 = ik_b2 (ik_vb m i) → u1 3 = (if grG m k i S = true then 4 else 0) →
      wS (sSeq (sDo fX11_tellFacts (sArgI (sLoc 1) (sArgI (sLoc 2) (sArgI (sLoc 4) sNil)))) (sSeq (sIf (sNot (sCmp0 1 (sCall fX7_hold (sArgI (sLoc 1) sNil)))) (sSet 3 (sBin 4 (sLoc 3) (sLit 8))) sSkip) (sSeq (sIf (sNot (sCmp0 1 (sCall fX0_inLists (sArgI (sLoc 1) (sArgI (sLoc 2) sNil))))) (sSet 3 (sBin 4 (sLoc 3) (sLit 16))) sSkip) (sSeq (sSet 5 (sCall fX0_year (sArgI (sLoc 1) sNil))) (sSeq (sIf (sOr (sAnd (sCmp 1 (sLoc 5) (sLit (-1))) (sNot (sCmp0 1 (sCall fX6_lives (sArgI (sLoc 2) (sArgI (sLoc 5) sNil)))))) (sNot (sCmp0 1 (sCall fX11_bit (sArgI (sCall fX0_sorts (sArgI (sLoc 1) sNil)) (sArgI (sCall fX6_sort (sArgI (sLoc 2) sNil)) sNil)))))) (sSet 3 (sBin 4 (sLoc 3) (sLit 32))) sSkip) (sRet 0 (sLoc 3))))))) (u1, u2, y) (fun _ => False) (fun v g => v = .int (nI (agB m S n L k i)) ∧ eqF x g) := by
    intro u1 u2 e1 e2 e4 e3
    simp (decide := true) only [wE_lit, wL_lit, wE_loc, wL_loc, wE_add, wE_sub, wE_mul, wE_and, wE_or, wE_xor, wE_shl, wE_shr, wE_ushr, wE_div, wE_rem, wE_neg, wE_i2b, wE_l2i, wL_i2l, wL_add, wL_mul, wE_fld, wL_fld, wE_arr, wL_arr, wC_cmp, wC_cmp0, wC_cmpL, wC_and, wC_or, wC_not, wC_ite, wL_ite, wA_nil, wA_int, wA_long, wE_call, wL_call, wS_skip, wS_seq, wS_set, wS_setL, wS_inc, wS_if, wS_put, wS_putL, wS_putOp, wS_putOpL, wS_ast, wS_astL, wS_aop, wS_aopL, wS_ret, wS_retL, wS_retV, wS_do, wS_pop, wS_dead, wS_sw, wF_body, Nat.reduceAdd, Nat.zero_add, Bool.not_not, true_and, and_true, if_true, if_false, ↓reduceIte, eq_self, Value.int.injEq, Value.long.injEq, exists_eq_left', ik_b1, ik_b0, ik_bz0, ik_bz3, ik_bz3_1, ik_bz3_0, ik_cmp, ik_cmpL, ik_eI, ik_eL, ik_as, ik_i0, ik_i1, decide_eq_true_eq, decide_eq_false_iff_not, decide_true, decide_false, Bool.not_true, Bool.not_false, reduceCtorEq, forall_const, false_implies, true_implies, implies_true, true_and, and_true, and_self, false_and, and_false, Bool.and_true, Bool.true_and, not_true_eq_false, not_false_eq_true, if_true, if_false, ite_true, ite_false, ik_bz3_0, ik_bz3_1, ik_bz0, e1, e2, e4]
    refine wF_mono (w_tellFacts h hx hk hi) ?_
    rintro _ g1 ⟨rfl, k1, k2⟩
    refine ⟨rfl, ?_⟩
    refine wF_mono (w_holdX hB4 hR k1) ?_
    rintro _ g2 ⟨rfl, k3⟩
    have hrl : rlH (fun l => g1.1 38 (l - 97)) k L = rlH (valM m k i) k L := rlH_congr k2 (fun q hq => (hR.2.2.2.2.2.2.2.2.2.2 q hq).1)
    rw [hrl]
    have hg := hh g2 k3
    have hL := hg.2.2.2.2.2.1
    obtain ⟨n', ln1, ln2, ln3, ln4⟩ := hL
    have en : n' = n := (nI_eq (by omega) (by omega)).mp (ln3.symm.trans hmn)
    subst en
    have li := w_listsX (B := B) (k := k) hg.2.2.1 ln1 ln2 (fun t ht => ⟨(ln4 t ht).1, (ln4 t ht).2.1, (ln4 t ht).2.2.1, (ln4 t ht).2.2.2.2.1, (ln4 t ht).2.2.2.2.2⟩) hi
    have yr := w_year0 hg.2.2.2.1 hk
    have so := w_sorts0 hg.2.2.2.1 hk
    have st := w_sort6 hg.2.2.1 hi
    have fr := w_from6 hg.2.2.1 hi
    have tt := w_to6 hg.2.2.1 hi
    have lv : ∀ (v : Int32) (Q : Value → GG → Prop), wF fX6_lives [.int (nI i), .int v] g2 Q ↔ Q (.int (if m.1 7 i ≤ v ∧ v ≤ m.1 8 i then 1 else 0)) g2 := by
      intro v Q
      refine wF_eq (eq_of_wF ?_) Q
      unfold fX6_lives
      simp (decide := true) only [wE_lit, wL_lit, wE_loc, wL_loc, wE_add, wE_sub, wE_mul, wE_and, wE_or, wE_xor, wE_shl, wE_shr, wE_ushr, wE_div, wE_rem, wE_neg, wE_i2b, wE_l2i, wL_i2l, wL_add, wL_mul, wE_fld, wL_fld, wE_arr, wL_arr, wC_cmp, wC_cmp0, wC_cmpL, wC_and, wC_or, wC_not, wC_ite, wL_ite, wA_nil, wA_int, wA_long, wE_call, wL_call, wS_skip, wS_seq, wS_set, wS_setL, wS_inc, wS_if, wS_put, wS_putL, wS_putOp, wS_putOpL, wS_ast, wS_astL, wS_aop, wS_aopL, wS_ret, wS_retL, wS_retV, wS_do, wS_pop, wS_dead, wS_sw, wF_body, Nat.reduceAdd, Nat.zero_add, Bool.not_not, true_and, and_true, if_true, if_false, ↓reduceIte, eq_self, Value.int.injEq, Value.long.injEq, exists_eq_left', ik_b1, ik_b0, ik_bz0, ik_bz3, ik_bz3_1, ik_bz3_0, ik_cmp, ik_cmpL, ik_eI, ik_eL, ik_as, ik_i0, ik_i1, decide_eq_true_eq, decide_eq_false_iff_not, decide_true, decide_false, Bool.not_true, Bool.not_false, reduceCtorEq, forall_const, false_implies, true_implies, implies_true, true_and, and_true, and_self, false_and, and_false, Bool.and_true, Bool.true_and, not_true_eq_false, not_false_eq_true, if_true, if_false, ite_true, ite_false, ik_bz3_0, ik_bz3_1, ik_bz0, wE_ite2, fr, tt]
      by_cases h1 : m.1 7 i ≤ v <;> by_cases h2 : v ≤ m.1 8 i <;> simp [h1, h2, ik_bz]
    have fin : ∀ v : Int32, v = nI (agB m S n' L k i) → v = nI (agB m S n' L k i) ∧ eqF x g2 := fun v hv => ⟨hv, k3⟩
    have step : ∀ (r l w : Bool), rlH (valM m k i) k L = r → ik_any (liF m k i) n' = l → yrB m k i = w → nI (agB m S n' L k i) = ((if grG m k i S = true then (4 : Int32) else 0) ||| (if r = true then 0 else 8) ||| (if l = true then 16 else 0) ||| (if w = true then 32 else 0)) := by
      intro r l w h1 h2 h3
      unfold agB
      rw [h1, h2, h3]
      cases grG m k i S <;> cases r <;> cases l <;> cases w <;> rfl
    have hw : yrB m k i = true ↔ ((¬ m.1 11 k = -1 ∧ ¬ (m.1 7 i ≤ m.1 11 k ∧ m.1 11 k ≤ m.1 8 i)) ∨ (m.1 12 k >>> (m.1 6 i &&& 31)) &&& 1 = 0) := by
      unfold yrB
      simp only [Bool.or_eq_true, Bool.and_eq_true, Bool.not_eq_true', decide_eq_false_iff_not, decide_eq_true_eq, Bool.and_eq_false_iff]
      constructor
      · rintro (⟨h1, h2⟩ | h2)
        · refine Or.inl ⟨h1, fun h => ?_⟩
          rcases h2 with h2 | h2
          · exact h2 h.1
          · exact h2 h.2
        · exact Or.inr h2
      · rintro (⟨h1, h2⟩ | h2)
        · refine Or.inl ⟨h1, ?_⟩
          by_cases q : m.1 7 i ≤ m.1 11 k
          · exact Or.inr (fun h => h2 ⟨q, h⟩)
          · exact Or.inl q
        · exact Or.inr h2
    have o0 : ∀ v : Int32, v ||| 0 = v := fun v => by simp
    cases hr : rlH (valM m k i) k L <;> cases hl : ik_any (liF m k i) n'
    all_goals
      have s1 := step _ _ true hr hl
      have s0 := step _ _ false hr hl
      simp (decide := true) only [wE_lit, wL_lit, wE_loc, wL_loc, wE_add, wE_sub, wE_mul, wE_and, wE_or, wE_xor, wE_shl, wE_shr, wE_ushr, wE_div, wE_rem, wE_neg, wE_i2b, wE_l2i, wL_i2l, wL_add, wL_mul, wE_fld, wL_fld, wE_arr, wL_arr, wC_cmp, wC_cmp0, wC_cmpL, wC_and, wC_or, wC_not, wC_ite, wL_ite, wA_nil, wA_int, wA_long, wE_call, wL_call, wS_skip, wS_seq, wS_set, wS_setL, wS_inc, wS_if, wS_put, wS_putL, wS_putOp, wS_putOpL, wS_ast, wS_astL, wS_aop, wS_aopL, wS_ret, wS_retL, wS_retV, wS_do, wS_pop, wS_dead, wS_sw, wF_body, Nat.reduceAdd, Nat.zero_add, Bool.not_not, true_and, and_true, if_true, if_false, ↓reduceIte, eq_self, Value.int.injEq, Value.long.injEq, exists_eq_left', ik_b1, ik_b0, ik_bz0, ik_bz3, ik_bz3_1, ik_bz3_0, ik_cmp, ik_cmpL, ik_eI, ik_eL, ik_as, ik_i0, ik_i1, decide_eq_true_eq, decide_eq_false_iff_not, decide_true, decide_false, Bool.not_true, Bool.not_false, reduceCtorEq, forall_const, false_implies, true_implies, implies_true, true_and, and_true, and_self, false_and, and_false, Bool.and_true, Bool.true_and, not_true_eq_false, not_false_eq_true, if_true, if_false, ite_true, ite_false, ik_bz3_0, ik_bz3_1, ik_bz0, e1, e2, e3, hr, hl, ik_b2, li, yr, so, st, lv, w_bit, upd_at, upd_off] at *
      by_cases q1 : m.1 11 k = -1
      · by_cases q2 : (m.1 12 k >>> (m.1 6 i &&& 31)) &&& 1 = 0
        · have hwt : yrB m k i = true := hw.mpr (Or.inr q2)
          simp (decide := true) only [ik_i0, ik_i1, decide_eq_true_eq, decide_eq_false_iff_not, decide_true, decide_false, Bool.not_true, Bool.not_false, reduceCtorEq, forall_const, false_implies, true_implies, implies_true, true_and, and_true, and_self, false_and, and_false, Bool.and_true, Bool.true_and, not_true_eq_false, not_false_eq_true, if_true, if_false, ite_true, ite_false, ik_bz3_0, ik_bz3_1, ik_bz0, Nat.reduceAdd, Nat.zero_add, Bool.not_not, true_and, and_true, if_true, if_false, ↓reduceIte, eq_self, Value.int.injEq, Value.long.injEq, exists_eq_left', ik_b1, ik_b0, ik_bz0, ik_bz3, ik_bz3_1, ik_bz3_0, ik_cmp, ik_cmpL, ik_eI, ik_eL, ik_as, wE_lit, wL_lit, wE_loc, wL_loc, wE_add, wE_sub, wE_mul, wE_and, wE_or, wE_xor, wE_shl, wE_shr, wE_ushr, wE_div, wE_rem, wE_neg, wE_i2b, wE_l2i, wL_i2l, wL_add, wL_mul, wE_fld, wL_fld, wE_arr, wL_arr, wC_cmp, wC_cmp0, wC_cmpL, wC_and, wC_or, wC_not, wC_ite, wL_ite, wA_nil, wA_int, wA_long, wE_call, wL_call, wS_skip, wS_seq, wS_set, wS_setL, wS_inc, wS_if, wS_put, wS_putL, wS_putOp, wS_putOpL, wS_ast, wS_astL, wS_aop, wS_aopL, wS_ret, wS_retL, wS_retV, wS_do, wS_pop, wS_dead, wS_sw, wF_body, q1, q2, e1, e2, e3, upd_at, upd_off]
          exact ⟨by rw [s1 hwt] <;> simp [o0], k3⟩
        · have hwf : yrB m k i = false := by
            cases e : yrB m k i with
            | false => rfl
            | true => rcases hw.mp e with h | h
                      · exact absurd q1 h.1
                      · exact absurd h q2
          simp (decide := true) only [ik_i0, ik_i1, decide_eq_true_eq, decide_eq_false_iff_not, decide_true, decide_false, Bool.not_true, Bool.not_false, reduceCtorEq, forall_const, false_implies, true_implies, implies_true, true_and, and_true, and_self, false_and, and_false, Bool.and_true, Bool.true_and, not_true_eq_false, not_false_eq_true, if_true, if_false, ite_true, ite_false, ik_bz3_0, ik_bz3_1, ik_bz0, Nat.reduceAdd, Nat.zero_add, Bool.not_not, true_and, and_true, if_true, if_false, ↓reduceIte, eq_self, Value.int.injEq, Value.long.injEq, exists_eq_left', ik_b1, ik_b0, ik_bz0, ik_bz3, ik_bz3_1, ik_bz3_0, ik_cmp, ik_cmpL, ik_eI, ik_eL, ik_as, wE_lit, wL_lit, wE_loc, wL_loc, wE_add, wE_sub, wE_mul, wE_and, wE_or, wE_xor, wE_shl, wE_shr, wE_ushr, wE_div, wE_rem, wE_neg, wE_i2b, wE_l2i, wL_i2l, wL_add, wL_mul, wE_fld, wL_fld, wE_arr, wL_arr, wC_cmp, wC_cmp0, wC_cmpL, wC_and, wC_or, wC_not, wC_ite, wL_ite, wA_nil, wA_int, wA_long, wE_call, wL_call, wS_skip, wS_seq, wS_set, wS_setL, wS_inc, wS_if, wS_put, wS_putL, wS_putOp, wS_putOpL, wS_ast, wS_astL, wS_aop, wS_aopL, wS_ret, wS_retL, wS_retV, wS_do, wS_pop, wS_dead, wS_sw, wF_body, q1, q2, e1, e2, e3, upd_at, upd_off]
          exact ⟨by rw [s0 hwf] <;> simp [o0], k3⟩
      · by_cases q3 : m.1 7 i ≤ m.1 11 k ∧ m.1 11 k ≤ m.1 8 i
        · by_cases q2 : (m.1 12 k >>> (m.1 6 i &&& 31)) &&& 1 = 0
          · have hwt : yrB m k i = true := hw.mpr (Or.inr q2)
            simp (decide := true) only [ik_i0, ik_i1, decide_eq_true_eq, decide_eq_false_iff_not, decide_true, decide_false, Bool.not_true, Bool.not_false, reduceCtorEq, forall_const, false_implies, true_implies, implies_true, true_and, and_true, and_self, false_and, and_false, Bool.and_true, Bool.true_and, not_true_eq_false, not_false_eq_true, if_true, if_false, ite_true, ite_false, ik_bz3_0, ik_bz3_1, ik_bz0, Nat.reduceAdd, Nat.zero_add, Bool.not_not, true_and, and_true, if_true, if_false, ↓reduceIte, eq_self, Value.int.injEq, Value.long.injEq, exists_eq_left', ik_b1, ik_b0, ik_bz0, ik_bz3, ik_bz3_1, ik_bz3_0, ik_cmp, ik_cmpL, ik_eI, ik_eL, ik_as, wE_lit, wL_lit, wE_loc, wL_loc, wE_add, wE_sub, wE_mul, wE_and, wE_or, wE_xor, wE_shl, wE_shr, wE_ushr, wE_div, wE_rem, wE_neg, wE_i2b, wE_l2i, wL_i2l, wL_add, wL_mul, wE_fld, wL_fld, wE_arr, wL_arr, wC_cmp, wC_cmp0, wC_cmpL, wC_and, wC_or, wC_not, wC_ite, wL_ite, wA_nil, wA_int, wA_long, wE_call, wL_call, wS_skip, wS_seq, wS_set, wS_setL, wS_inc, wS_if, wS_put, wS_putL, wS_putOp, wS_putOpL, wS_ast, wS_astL, wS_aop, wS_aopL, wS_ret, wS_retL, wS_retV, wS_do, wS_pop, wS_dead, wS_sw, wF_body, q1, q2, q3, e1, e2, e3, upd_at, upd_off]
            exact ⟨by rw [s1 hwt] <;> simp [o0], k3⟩
          · have hwf : yrB m k i = false := by
              cases e : yrB m k i with
              | false => rfl
              | true => rcases hw.mp e with h | h
                        · exact absurd q3 h.2
                        · exact absurd h q2
            simp (decide := true) only [ik_i0, ik_i1, decide_eq_true_eq, decide_eq_false_iff_not, decide_true, decide_false, Bool.not_true, Bool.not_false, reduceCtorEq, forall_const, false_implies, true_implies, implies_true, true_and, and_true, and_self, false_and, and_false, Bool.and_true, Bool.true_and, not_true_eq_false, not_false_eq_true, if_true, if_false, ite_true, ite_false, ik_bz3_0, ik_bz3_1, ik_bz0, Nat.reduceAdd, Nat.zero_add, Bool.not_not, true_and, and_true, if_true, if_false, ↓reduceIte, eq_self, Value.int.injEq, Value.long.injEq, exists_eq_left', ik_b1, ik_b0, ik_bz0, ik_bz3, ik_bz3_1, ik_bz3_0, ik_cmp, ik_cmpL, ik_eI, ik_eL, ik_as, wE_lit, wL_lit, wE_loc, wL_loc, wE_add, wE_sub, wE_mul, wE_and, wE_or, wE_xor, wE_shl, wE_shr, wE_ushr, wE_div, wE_rem, wE_neg, wE_i2b, wE_l2i, wL_i2l, wL_add, wL_mul, wE_fld, wL_fld, wE_arr, wL_arr, wC_cmp, wC_cmp0, wC_cmpL, wC_and, wC_or, wC_not, wC_ite, wL_ite, wA_nil, wA_int, wA_long, wE_call, wL_call, wS_skip, wS_seq, wS_set, wS_setL, wS_inc, wS_if, wS_put, wS_putL, wS_putOp, wS_putOpL, wS_ast, wS_astL, wS_aop, wS_aopL, wS_ret, wS_retL, wS_retV, wS_do, wS_pop, wS_dead, wS_sw, wF_body, q1, q2, q3, e1, e2, e3, upd_at, upd_off]
            exact ⟨by rw [s0 hwf] <;> simp [o0], k3⟩
        · have hwt : yrB m k i = true := hw.mpr (Or.inl ⟨q1, q3⟩)
          simp (decide := true) only [ik_i0, ik_i1, decide_eq_true_eq, decide_eq_false_iff_not, decide_true, decide_false, Bool.not_true, Bool.not_false, reduceCtorEq, forall_const, false_implies, true_implies, implies_true, true_and, and_true, and_self, false_and, and_false, Bool.and_true, Bool.true_and, not_true_eq_false, not_false_eq_true, if_true, if_false, ite_true, ite_false, ik_bz3_0, ik_bz3_1, ik_bz0, Nat.reduceAdd, Nat.zero_add, Bool.not_not, true_and, and_true, if_true, if_false, ↓reduceIte, eq_self, Value.int.injEq, Value.long.injEq, exists_eq_left', ik_b1, ik_b0, ik_bz0, ik_bz3, ik_bz3_1, ik_bz3_0, ik_cmp, ik_cmpL, ik_eI, ik_eL, ik_as, wE_lit, wL_lit, wE_loc, wL_loc, wE_add, wE_sub, wE_mul, wE_and, wE_or, wE_xor, wE_shl, wE_shr, wE_ushr, wE_div, wE_rem, wE_neg, wE_i2b, wE_l2i, wL_i2l, wL_add, wL_mul, wE_fld, wL_fld, wE_arr, wL_arr, wC_cmp, wC_cmp0, wC_cmpL, wC_and, wC_or, wC_not, wC_ite, wL_ite, wA_nil, wA_int, wA_long, wE_call, wL_call, wS_skip, wS_seq, wS_set, wS_setL, wS_inc, wS_if, wS_put, wS_putL, wS_putOp, wS_putOpL, wS_ast, wS_astL, wS_aop, wS_aopL, wS_ret, wS_retL, wS_retV, wS_do, wS_pop, wS_dead, wS_sw, wF_body, q1, q3, e1, e2, e3, upd_at, upd_off]
          exact ⟨by rw [s1 hwt] <;> simp [o0], k3⟩
  unfold fX11_reasonsButInk
  cases hv : ik_vb m i with
  | true =>
    rw [hv] at v6 gX rest
    rw [if_pos rfl] at gX
    cases hg : a.testBit k with
    | true =>
      rw [hg] at gX ibA
      have r := rest (fun j => if j = 1 then nI k else if j = 2 then nI i else if j = 3 then 4 else if j = 4 then 1 else 0) (fun _ => 0) rfl rfl rfl (by rw [← gX]; rfl)
      simp (decide := true) only [wE_lit, wL_lit, wE_loc, wL_loc, wE_add, wE_sub, wE_mul, wE_and, wE_or, wE_xor, wE_shl, wE_shr, wE_ushr, wE_div, wE_rem, wE_neg, wE_i2b, wE_l2i, wL_i2l, wL_add, wL_mul, wE_fld, wL_fld, wE_arr, wL_arr, wC_cmp, wC_cmp0, wC_cmpL, wC_and, wC_or, wC_not, wC_ite, wL_ite, wA_nil, wA_int, wA_long, wE_call, wL_call, wS_skip, wS_seq, wS_set, wS_setL, wS_inc, wS_if, wS_put, wS_putL, wS_putOp, wS_putOpL, wS_ast, wS_astL, wS_aop, wS_aopL, wS_ret, wS_retL, wS_retV, wS_do, wS_pop, wS_dead, wS_sw, wF_body, Nat.reduceAdd, Nat.zero_add, Bool.not_not, true_and, and_true, if_true, if_false, ↓reduceIte, eq_self, Value.int.injEq, Value.long.injEq, exists_eq_left', ik_b1, ik_b0, ik_bz0, ik_bz3, ik_bz3_1, ik_bz3_0, ik_cmp, ik_cmpL, ik_eI, ik_eL, ik_as, ik_i0, ik_i1, decide_eq_true_eq, decide_eq_false_iff_not, decide_true, decide_false, Bool.not_true, Bool.not_false, reduceCtorEq, forall_const, false_implies, true_implies, implies_true, true_and, and_true, and_self, false_and, and_false, Bool.and_true, Bool.true_and, not_true_eq_false, not_false_eq_true, if_true, if_false, ite_true, ite_false, ik_bz3_0, ik_bz3_1, ik_bz0, v6, ibA, ik_b2, upd_at, upd_off, wC_ite] at r ⊢
      exact r
    | false =>
      rw [hg] at gX ibA
      have r := rest (fun j => if j = 1 then nI k else if j = 2 then nI i else if j = 3 then 0 else if j = 4 then 1 else 0) (fun _ => 0) rfl rfl rfl (by rw [← gX]; rfl)
      simp (decide := true) only [wE_lit, wL_lit, wE_loc, wL_loc, wE_add, wE_sub, wE_mul, wE_and, wE_or, wE_xor, wE_shl, wE_shr, wE_ushr, wE_div, wE_rem, wE_neg, wE_i2b, wE_l2i, wL_i2l, wL_add, wL_mul, wE_fld, wL_fld, wE_arr, wL_arr, wC_cmp, wC_cmp0, wC_cmpL, wC_and, wC_or, wC_not, wC_ite, wL_ite, wA_nil, wA_int, wA_long, wE_call, wL_call, wS_skip, wS_seq, wS_set, wS_setL, wS_inc, wS_if, wS_put, wS_putL, wS_putOp, wS_putOpL, wS_ast, wS_astL, wS_aop, wS_aopL, wS_ret, wS_retL, wS_retV, wS_do, wS_pop, wS_dead, wS_sw, wF_body, Nat.reduceAdd, Nat.zero_add, Bool.not_not, true_and, and_true, if_true, if_false, ↓reduceIte, eq_self, Value.int.injEq, Value.long.injEq, exists_eq_left', ik_b1, ik_b0, ik_bz0, ik_bz3, ik_bz3_1, ik_bz3_0, ik_cmp, ik_cmpL, ik_eI, ik_eL, ik_as, ik_i0, ik_i1, decide_eq_true_eq, decide_eq_false_iff_not, decide_true, decide_false, Bool.not_true, Bool.not_false, reduceCtorEq, forall_const, false_implies, true_implies, implies_true, true_and, and_true, and_self, false_and, and_false, Bool.and_true, Bool.true_and, not_true_eq_false, not_false_eq_true, if_true, if_false, ite_true, ite_false, ik_bz3_0, ik_bz3_1, ik_bz0, v6, ibA, ik_b2, upd_at, upd_off, wC_ite] at r ⊢
      exact r
  | false =>
    rw [hv] at v6 gX rest
    rw [if_neg (by simp)] at gX
    cases hg : b.testBit k with
    | true =>
      rw [hg] at gX ibN
      have r := rest (fun j => if j = 1 then nI k else if j = 2 then nI i else if j = 3 then 4 else if j = 4 then 0 else 0) (fun _ => 0) rfl rfl rfl (by rw [← gX]; rfl)
      simp (decide := true) only [wE_lit, wL_lit, wE_loc, wL_loc, wE_add, wE_sub, wE_mul, wE_and, wE_or, wE_xor, wE_shl, wE_shr, wE_ushr, wE_div, wE_rem, wE_neg, wE_i2b, wE_l2i, wL_i2l, wL_add, wL_mul, wE_fld, wL_fld, wE_arr, wL_arr, wC_cmp, wC_cmp0, wC_cmpL, wC_and, wC_or, wC_not, wC_ite, wL_ite, wA_nil, wA_int, wA_long, wE_call, wL_call, wS_skip, wS_seq, wS_set, wS_setL, wS_inc, wS_if, wS_put, wS_putL, wS_putOp, wS_putOpL, wS_ast, wS_astL, wS_aop, wS_aopL, wS_ret, wS_retL, wS_retV, wS_do, wS_pop, wS_dead, wS_sw, wF_body, Nat.reduceAdd, Nat.zero_add, Bool.not_not, true_and, and_true, if_true, if_false, ↓reduceIte, eq_self, Value.int.injEq, Value.long.injEq, exists_eq_left', ik_b1, ik_b0, ik_bz0, ik_bz3, ik_bz3_1, ik_bz3_0, ik_cmp, ik_cmpL, ik_eI, ik_eL, ik_as, ik_i0, ik_i1, decide_eq_true_eq, decide_eq_false_iff_not, decide_true, decide_false, Bool.not_true, Bool.not_false, reduceCtorEq, forall_const, false_implies, true_implies, implies_true, true_and, and_true, and_self, false_and, and_false, Bool.and_true, Bool.true_and, not_true_eq_false, not_false_eq_true, if_true, if_false, ite_true, ite_false, ik_bz3_0, ik_bz3_1, ik_bz0, v6, ibN, ik_b2, upd_at, upd_off, wC_ite] at r ⊢
      exact r
    | false =>
      rw [hg] at gX ibN
      have r := rest (fun j => if j = 1 then nI k else if j = 2 then nI i else if j = 3 then 0 else if j = 4 then 0 else 0) (fun _ => 0) rfl rfl rfl (by rw [← gX]; rfl)
      simp (decide := true) only [wE_lit, wL_lit, wE_loc, wL_loc, wE_add, wE_sub, wE_mul, wE_and, wE_or, wE_xor, wE_shl, wE_shr, wE_ushr, wE_div, wE_rem, wE_neg, wE_i2b, wE_l2i, wL_i2l, wL_add, wL_mul, wE_fld, wL_fld, wE_arr, wL_arr, wC_cmp, wC_cmp0, wC_cmpL, wC_and, wC_or, wC_not, wC_ite, wL_ite, wA_nil, wA_int, wA_long, wE_call, wL_call, wS_skip, wS_seq, wS_set, wS_setL, wS_inc, wS_if, wS_put, wS_putL, wS_putOp, wS_putOpL, wS_ast, wS_astL, wS_aop, wS_aopL, wS_ret, wS_retL, wS_retV, wS_do, wS_pop, wS_dead, wS_sw, wF_body, Nat.reduceAdd, Nat.zero_add, Bool.not_not, true_and, and_true, if_true, if_false, ↓reduceIte, eq_self, Value.int.injEq, Value.long.injEq, exists_eq_left', ik_b1, ik_b0, ik_bz0, ik_bz3, ik_bz3_1, ik_bz3_0, ik_cmp, ik_cmpL, ik_eI, ik_eL, ik_as, ik_i0, ik_i1, decide_eq_true_eq, decide_eq_false_iff_not, decide_true, decide_false, Bool.not_true, Bool.not_false, reduceCtorEq, forall_const, false_implies, true_implies, implies_true, true_and, and_true, and_self, false_and, and_false, Bool.and_true, Bool.true_and, not_true_eq_false, not_false_eq_true, if_true, if_false, ite_true, ite_false, ik_bz3_0, ik_bz3_1, ik_bz0, v6, ibN, ik_b2, upd_at, upd_off, wC_ite] at r ⊢
      exact r
