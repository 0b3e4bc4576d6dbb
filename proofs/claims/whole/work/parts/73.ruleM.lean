def frK (g0 g : GG) : Prop := (∀ a, a ≠ 0 → (a < 27 ∨ 32 < a) → g.1 a = g0.1 a) ∧ (∀ j, j ≠ 30 → j ≠ 32 → (j < 46 ∨ 51 < j) → g.1 0 j = g0.1 0 j) ∧ g.2 = g0.2
def rwK (g : GG) (L : List (Nat × RC)) : Prop := ∀ q b ds, L[q]? = some (b, ds) → g.1 27 q = nI b ∧ g.1 28 q = nI (cls (L.take q)).length ∧ g.1 29 q = nI (cls (L.take (q + 1))).length
def clK (g0 g : GG) (p : Nat) (L : List (Nat × RC)) : Prop := frK g0 g ∧ g.1 0 30 = nI p ∧ g.1 0 32 = 0 ∧ g.1 0 46 = nI L.length ∧ g.1 0 47 = nI (cls L).length ∧ cdM g (cls L) ∧ rwK g L ∧ (cls L).length ≤ p
def flK (g0 g : GG) (e q : Nat) : Prop := frK g0 g ∧ g.1 0 32 = -(nI (1000 * e + q)) ∧ (1 ≤ e ∧ e ≤ 5) ∧ q ≤ 160
theorem cls_app (L : List (Nat × RC)) (b : Nat) (ds : RC) : cls (L ++ [(b, ds)]) = cls L ++ ds := by simp [cls]
theorem frM.refl' (g : GG) : frM g g := ⟨fun _ _ _ _ _ => rfl, fun _ _ _ _ _ _ _ _ => rfl, rfl⟩
theorem w_clauseM {c : Nat → Nat} {N p : Nat} {g0 g : GG} {L : List (Nat × RC)} (ht : txM c N g0) (h : clK g0 g p L) (hL : L.length ≤ 12) (hp : p ≤ N) :
    wF fX12_clause [] g (fun v g' => v = .null ∧ match sp_cl c L.length p with
      | .inl (e, q) => flK g0 g' e q
      | .inr (q, ds) => clK g0 g' q (L ++ [(c p - 48, ds)]) ∧ q ≤ N ∧ L.length < 12) := by
  obtain ⟨t1, t2, hz, t4⟩ := id ht
  have hc : ∀ k, c k < 256 := fun k => by
    by_cases hk : k < N
    · exact (t4 k hk).1
    · rw [hz k (by omega)]; decide
  obtain ⟨hf, h1, h2, h3, h4, h5, h6, h7⟩ := h
  have txg : ∀ y : GG, y.1 0 31 = g0.1 0 31 → y.1 1 = g0.1 1 → txM c N y := fun y e1 e2 => ⟨e1.trans t1, t2, hz, fun k hk => ⟨(t4 k hk).1, by rw [e2]; exact (t4 k hk).2⟩⟩
  have g31 : g.1 0 31 = g0.1 0 31 := hf.2.1 31 (by decide) (by decide) (by omega)
  have g1 : g.1 1 = g0.1 1 := hf.1 1 (by decide) (by omega)
  have hr := fun Q => w_hereM (txg g g31 g1) (frM.refl' g) h1 (show p < 2 ^ 31 by omega) Q
  have q1 := nI_dig (hc p)
  have wr := fun e (v : Int32) (hv : v = nI e) Q => w_wrongs (g := g) (e := e) (p := p) h2 Q (v := v) hv
  have bad : ∀ e, 1 ≤ e → e ≤ 5 → flK g0 (ik_si g 0 32 (-(nI (1000 * e + p)))) e p := by
    intro e e1 e2
    refine ⟨⟨fun a h0 h => ?_, fun j j1 j2 j3 => ?_, hf.2.2⟩, ik_si_same _ _ _ _, ⟨e1, e2⟩, by omega⟩
    · rw [ik_si_row _ _ _ _ _ h0]; exact hf.1 a h0 h
    · rw [ik_si_ne _ _ _ _ _ j2]; exact hf.2.1 j j1 j2 j3
  have bgood : ∀ e, 1 ≤ e → e ≤ 5 → ∀ Q : Value → GG → Prop, wF fX12_isGood [] (ik_si g 0 32 (-(nI (1000 * e + p)))) Q ↔ Q (.int 0) (ik_si g 0 32 (-(nI (1000 * e + p)))) := by
    intro e e1 e2 Q
    rw [w_good, ik_si_same, if_neg (nI_negne (by omega) (by omega)).1]
  have n12 : (nI L.length = 12) ↔ L.length = 12 := nI_ne_of rfl (by omega) (by omega)
  unfold fX12_clause sp_cl
  by_cases c1 : sg_dig (c p) = true
  · have c1' := q1.mpr c1
    have hlt := sp_end hz (sg_num (Or.inl rfl) c1).1
    have hd : 48 ≤ c p ∧ c p ≤ 57 := by simpa [sg_dig] using c1
    have hsub : nI (c p) - 48 = nI (c p - 48) := by rw [show (48 : Int32) = nI 48 from rfl, pk_sub hd.1]
    have n4 : (4 ≤ nI (c p - 48)) ↔ 52 ≤ c p := by rw [show (4 : Int32) = nI 4 from rfl, nI_leI (by omega) (by omega)]; omega
    rw [if_neg (fun h => h c1)]
    by_cases c2 : 12 ≤ L.length
    · rw [if_pos c2]
      have c2' : L.length = 12 := by omega
      simp (decide := true) only [wE_lit, wL_lit, wE_loc, wL_loc, wE_add, wE_sub, wE_mul, wE_and, wE_or, wE_xor, wE_shl, wE_shr, wE_ushr, wE_div, wE_rem, wE_neg, wE_i2b, wE_l2i, wL_i2l, wL_add, wL_mul, wE_fld, wL_fld, wE_arr, wL_arr, wC_cmp, wC_cmp0, wC_cmpL, wC_and, wC_or, wC_not, wC_ite, wL_ite, wA_nil, wA_int, wA_long, wE_call, wL_call, wS_skip, wS_seq, wS_set, wS_setL, wS_inc, wS_if, wS_put, wS_putL, wS_putOp, wS_putOpL, wS_ast, wS_astL, wS_aop, wS_aopL, wS_ret, wS_retL, wS_retV, wS_do, wS_pop, wS_dead, wS_sw, wF_body, Nat.reduceAdd, Nat.zero_add, Bool.not_not, true_and, and_true, if_true, if_false, ↓reduceIte, eq_self, Value.int.injEq, Value.long.injEq, exists_eq_left', ik_b1, ik_b0, ik_bz0, ik_bz3, ik_bz3_1, ik_bz3_0, ik_cmp, ik_cmpL, ik_eI, ik_eL, ik_as, ik_i0, ik_i1, decide_eq_true_eq, decide_eq_false_iff_not, decide_true, decide_false, Bool.not_true, Bool.not_false, reduceCtorEq, forall_const, false_implies, true_implies, implies_true, true_and, and_true, and_self, false_and, and_false, Bool.and_true, Bool.true_and, not_true_eq_false, not_false_eq_true, if_true, if_false, ite_true, ite_false, ik_bz3_0, ik_bz3_1, ik_bz0, hr, upd_at, upd_off, w_digitM, c1', h3, n12, c2', h1, wr 4 4 rfl, bgood 4 (by omega) (by omega)]
      exact bad 4 (by omega) (by omega)
    · rw [if_neg c2]
      have c2' : ¬ L.length = 12 := by omega
      by_cases c3 : 52 ≤ c p
      · rw [if_pos c3]
        simp (decide := true) only [wE_lit, wL_lit, wE_loc, wL_loc, wE_add, wE_sub, wE_mul, wE_and, wE_or, wE_xor, wE_shl, wE_shr, wE_ushr, wE_div, wE_rem, wE_neg, wE_i2b, wE_l2i, wL_i2l, wL_add, wL_mul, wE_fld, wL_fld, wE_arr, wL_arr, wC_cmp, wC_cmp0, wC_cmpL, wC_and, wC_or, wC_not, wC_ite, wL_ite, wA_nil, wA_int, wA_long, wE_call, wL_call, wS_skip, wS_seq, wS_set, wS_setL, wS_inc, wS_if, wS_put, wS_putL, wS_putOp, wS_putOpL, wS_ast, wS_astL, wS_aop, wS_aopL, wS_ret, wS_retL, wS_retV, wS_do, wS_pop, wS_dead, wS_sw, wF_body, Nat.reduceAdd, Nat.zero_add, Bool.not_not, true_and, and_true, if_true, if_false, ↓reduceIte, eq_self, Value.int.injEq, Value.long.injEq, exists_eq_left', ik_b1, ik_b0, ik_bz0, ik_bz3, ik_bz3_1, ik_bz3_0, ik_cmp, ik_cmpL, ik_eI, ik_eL, ik_as, ik_i0, ik_i1, decide_eq_true_eq, decide_eq_false_iff_not, decide_true, decide_false, Bool.not_true, Bool.not_false, reduceCtorEq, forall_const, false_implies, true_implies, implies_true, true_and, and_true, and_self, false_and, and_false, Bool.and_true, Bool.true_and, not_true_eq_false, not_false_eq_true, if_true, if_false, ite_true, ite_false, ik_bz3_0, ik_bz3_1, ik_bz0, hr, upd_at, upd_off, w_digitM, c1', h3, n12, c2', h1, hsub, n4, c3, wr 3 3 rfl, bgood 3 (by omega) (by omega)]
        exact bad 3 (by omega) (by omega)
      · rw [if_neg c3]
        have ix := ik_ix_nI (show L.length < 12 by omega) (by omega)
        have gd : ∀ Q : Value → GG → Prop, wF fX12_isGood [] g Q ↔ Q (.int 1) g := fun Q => by rw [w_good, h2, if_pos rfl]
        obtain ⟨y, hy⟩ : ∃ y, y = ik_si (ik_si (ik_si g 27 L.length (nI (c p - 48))) 28 L.length (nI (cls L).length)) 0 30 (nI (p + 1)) := ⟨_, rfl⟩
        have yen : enM y y (p + 1) (cls L) := by
          refine ⟨frM.refl' y, ?_, ?_, ?_, ?_⟩
          · rw [hy, ik_si_same]
          · rw [hy]; simp (decide := true) only [ik_si_row, ik_si_ne]; exact h2
          · rw [hy]; simp (decide := true) only [ik_si_row, ik_si_ne]; exact h4
          · intro k o hk
            rw [hy]; simp (decide := true) only [ik_si_row]; exact h5 k o hk
        have y31 : y.1 0 31 = g0.1 0 31 := by rw [hy]; simp (decide := true) only [ik_si_row, ik_si_ne]; exact g31
        have y1 : y.1 1 = g0.1 1 := by rw [hy]; simp (decide := true) only [ik_si_row]; exact g1
        have yfr : frK g0 y := by
          refine ⟨fun a h0 h => ?_, fun j j1 j2 j3 => ?_, by rw [hy]; exact hf.2.2⟩
          · rw [hy, ik_si_row _ _ _ _ _ h0, ik_si_row _ _ _ _ _ (by omega), ik_si_row _ _ _ _ _ (by omega)]; exact hf.1 a h0 h
          · rw [hy, ik_si_ne _ _ _ _ _ j1, ik_si_row _ _ _ _ _ (by omega), ik_si_row _ _ _ _ _ (by omega)]; exact hf.2.1 j j1 j2 j3
        have y46 : y.1 0 46 = nI L.length := by rw [hy]; simp (decide := true) only [ik_si_row, ik_si_ne]; exact h3
        have call := w_condM (txg y y31 y1) yen (by omega) (show p + 1 ≤ N by omega)
        simp (decide := true) only [wE_lit, wL_lit, wE_loc, wL_loc, wE_add, wE_sub, wE_mul, wE_and, wE_or, wE_xor, wE_shl, wE_shr, wE_ushr, wE_div, wE_rem, wE_neg, wE_i2b, wE_l2i, wL_i2l, wL_add, wL_mul, wE_fld, wL_fld, wE_arr, wL_arr, wC_cmp, wC_cmp0, wC_cmpL, wC_and, wC_or, wC_not, wC_ite, wL_ite, wA_nil, wA_int, wA_long, wE_call, wL_call, wS_skip, wS_seq, wS_set, wS_setL, wS_inc, wS_if, wS_put, wS_putL, wS_putOp, wS_putOpL, wS_ast, wS_astL, wS_aop, wS_aopL, wS_ret, wS_retL, wS_retV, wS_do, wS_pop, wS_dead, wS_sw, wF_body, Nat.reduceAdd, Nat.zero_add, Bool.not_not, true_and, and_true, if_true, if_false, ↓reduceIte, eq_self, Value.int.injEq, Value.long.injEq, exists_eq_left', ik_b1, ik_b0, ik_bz0, ik_bz3, ik_bz3_1, ik_bz3_0, ik_cmp, ik_cmpL, ik_eI, ik_eL, ik_as, ik_i0, ik_i1, decide_eq_true_eq, decide_eq_false_iff_not, decide_true, decide_false, Bool.not_true, Bool.not_false, reduceCtorEq, forall_const, false_implies, true_implies, implies_true, true_and, and_true, and_self, false_and, and_false, Bool.and_true, Bool.true_and, not_true_eq_false, not_false_eq_true, if_true, if_false, ite_true, ite_false, ik_bz3_0, ik_bz3_1, ik_bz0, hr, upd_at, upd_off, w_digitM, c1', h3, n12, c2', h1, hsub, n4, c3, gd, ix, Option.some.injEq, ik_si_row, h4, ik_bo, nI_1, ← hy]
        refine wF_mono call ?_
        rintro _ g' ⟨rfl, k1⟩
        have step : ∀ (hfr : frM y g'), g'.1 0 46 = nI L.length := fun hfr => by rw [hfr.2.1 46 (by decide) (by decide) (by decide) (by decide) (by decide) (by decide) (by decide)]; exact y46
        have frk : ∀ (hfr : frM y g') (v w : Int32), frK g0 (ik_si (ik_si g' 29 L.length v) 0 46 w) := by
          intro hfr v w
          refine ⟨fun a h0 h => ?_, fun j j1 j2 j3 => ?_, hfr.2.2.trans yfr.2.2⟩
          · rw [ik_si_row _ _ _ _ _ h0, ik_si_row _ _ _ _ _ (by omega), hfr.1 a h0 (by omega) (by omega) (by omega)]; exact yfr.1 a h0 h
          · rw [ik_si_ne _ _ _ _ _ (by omega), ik_si_row _ _ _ _ _ (by omega), hfr.2.1 j j1 j2 (by omega) (by omega) (by omega) (by omega) (by omega)]; exact yfr.2.1 j j1 j2 j3
        revert k1
        rcases sp_cl2 c (p + 1) with ⟨e, q⟩ | ⟨q, ds⟩
        · intro k1
          have e46 := step k1.1
          simp (decide := true) only [ik_i0, ik_i1, decide_eq_true_eq, decide_eq_false_iff_not, decide_true, decide_false, Bool.not_true, Bool.not_false, reduceCtorEq, forall_const, false_implies, true_implies, implies_true, true_and, and_true, and_self, false_and, and_false, Bool.and_true, Bool.true_and, not_true_eq_false, not_false_eq_true, if_true, if_false, ite_true, ite_false, ik_bz3_0, ik_bz3_1, ik_bz0, Nat.reduceAdd, Nat.zero_add, Bool.not_not, true_and, and_true, if_true, if_false, ↓reduceIte, eq_self, Value.int.injEq, Value.long.injEq, exists_eq_left', ik_b1, ik_b0, ik_bz0, ik_bz3, ik_bz3_1, ik_bz3_0, ik_cmp, ik_cmpL, ik_eI, ik_eL, ik_as, e46, ix, Option.some.injEq, ik_si_row, ik_bo, nI_1]
          refine ⟨frk k1.1 _ _, ?_, k1.2.2⟩
          simp (decide := true) only [ik_si_row, ik_si_ne]; exact k1.2.1
        · rintro ⟨k1, k2, k3⟩
          obtain ⟨m1, m2, m3, m4, m5⟩ := k1
          have e46 := step m1
          simp (decide := true) only [ik_i0, ik_i1, decide_eq_true_eq, decide_eq_false_iff_not, decide_true, decide_false, Bool.not_true, Bool.not_false, reduceCtorEq, forall_const, false_implies, true_implies, implies_true, true_and, and_true, and_self, false_and, and_false, Bool.and_true, Bool.true_and, not_true_eq_false, not_false_eq_true, if_true, if_false, ite_true, ite_false, ik_bz3_0, ik_bz3_1, ik_bz0, Nat.reduceAdd, Nat.zero_add, Bool.not_not, true_and, and_true, if_true, if_false, ↓reduceIte, eq_self, Value.int.injEq, Value.long.injEq, exists_eq_left', ik_b1, ik_b0, ik_bz0, ik_bz3, ik_bz3_1, ik_bz3_0, ik_cmp, ik_cmpL, ik_eI, ik_eL, ik_as, e46, ix, Option.some.injEq, ik_si_row, ik_bo, nI_1, m4]
          refine ⟨⟨frk m1 _ _, ?_, ?_, ?_, ?_, ?_, ?_, ?_⟩, k3, by omega⟩
          · simp (decide := true) only [ik_si_row, ik_si_ne]; exact m2
          · simp (decide := true) only [ik_si_row, ik_si_ne]; exact m3
          · rw [ik_si_same]; simp
          · rw [ik_si_ne _ _ _ _ _ (by decide), ik_si_row _ _ _ _ _ (by decide), cls_app]; exact m4
          · intro k o hk
            simp (decide := true) only [ik_si_row]
            rw [cls_app] at hk
            exact m5 k o hk
          · intro k b es hk
            have r27 : g'.1 27 = y.1 27 := m1.1 27 (by decide) (by decide) (by decide) (by decide)
            have r28 : g'.1 28 = y.1 28 := m1.1 28 (by decide) (by decide) (by decide) (by decide)
            have r29 : g'.1 29 = y.1 29 := m1.1 29 (by decide) (by decide) (by decide) (by decide)
            by_cases e : k = L.length
            · subst e
              rw [List.getElem?_append_right (Nat.le_refl _)] at hk
              simp at hk
              obtain ⟨rfl, rfl⟩ := hk
              refine ⟨?_, ?_, ?_⟩
              · rw [ik_si_row _ _ _ _ _ (by decide), ik_si_row _ _ _ _ _ (by decide), r27, hy]
                simp (decide := true) only [ik_si_row, ik_si_same]
              · rw [ik_si_row _ _ _ _ _ (by decide), ik_si_row _ _ _ _ _ (by decide), r28, hy]
                simp (decide := true) only [ik_si_row, ik_si_same]
                rw [List.take_append_of_le_length (Nat.le_refl _), List.take_length]
              · rw [ik_si_row _ _ _ _ _ (by decide), ik_si_same]
                rw [List.take_of_length_le (by simp), cls_app]
            · have hkl : k < L.length := by
                by_cases q : k < L.length
                · exact q
                · rw [List.getElem?_eq_none (by simp; omega)] at hk
                  cases hk
              rw [List.getElem?_append_left hkl] at hk
              obtain ⟨w1, w2, w3⟩ := h6 k b es hk
              rw [List.take_append_of_le_length (by omega), List.take_append_of_le_length (by omega)]
              refine ⟨?_, ?_, ?_⟩
              · rw [ik_si_row _ _ _ _ _ (by decide), ik_si_row _ _ _ _ _ (by decide), r27, hy]
                simp (decide := true) only [ik_si_row, ik_si_ne _ _ _ _ _ e]
                exact w1
              · rw [ik_si_row _ _ _ _ _ (by decide), ik_si_row _ _ _ _ _ (by decide), r28, hy]
                simp (decide := true) only [ik_si_row, ik_si_ne _ _ _ _ _ e]
                exact w2
              · rw [ik_si_row _ _ _ _ _ (by decide), ik_si_ne _ _ _ _ _ e, r29, hy]
                simp (decide := true) only [ik_si_row]
                exact w3
          · rw [cls_app]; exact k2
  · have c1' : ¬ (48 ≤ nI (c p) ∧ nI (c p) ≤ 57) := fun h => c1 (q1.mp h)
    rw [if_pos c1]
    simp (decide := true) only [wE_lit, wL_lit, wE_loc, wL_loc, wE_add, wE_sub, wE_mul, wE_and, wE_or, wE_xor, wE_shl, wE_shr, wE_ushr, wE_div, wE_rem, wE_neg, wE_i2b, wE_l2i, wL_i2l, wL_add, wL_mul, wE_fld, wL_fld, wE_arr, wL_arr, wC_cmp, wC_cmp0, wC_cmpL, wC_and, wC_or, wC_not, wC_ite, wL_ite, wA_nil, wA_int, wA_long, wE_call, wL_call, wS_skip, wS_seq, wS_set, wS_setL, wS_inc, wS_if, wS_put, wS_putL, wS_putOp, wS_putOpL, wS_ast, wS_astL, wS_aop, wS_aopL, wS_ret, wS_retL, wS_retV, wS_do, wS_pop, wS_dead, wS_sw, wF_body, Nat.reduceAdd, Nat.zero_add, Bool.not_not, true_and, and_true, if_true, if_false, ↓reduceIte, eq_self, Value.int.injEq, Value.long.injEq, exists_eq_left', ik_b1, ik_b0, ik_bz0, ik_bz3, ik_bz3_1, ik_bz3_0, ik_cmp, ik_cmpL, ik_eI, ik_eL, ik_as, ik_i0, ik_i1, decide_eq_true_eq, decide_eq_false_iff_not, decide_true, decide_false, Bool.not_true, Bool.not_false, reduceCtorEq, forall_const, false_implies, true_implies, implies_true, true_and, and_true, and_self, false_and, and_false, Bool.and_true, Bool.true_and, not_true_eq_false, not_false_eq_true, if_true, if_false, ite_true, ite_false, ik_bz3_0, ik_bz3_1, ik_bz0, hr, upd_at, upd_off, w_digitM, c1', h1, wr 1 1 rfl, bgood 1 (by omega) (by omega)]
    exact bad 1 (by omega) (by omega)
