theorem cutx {x x' : GG} {k : Nat → Nat → Bool} (h : ∀ a j, k a j = true → x'.1 a j = x.1 a j) : ik_cut k k0 x' = ik_cut k k0 x := cut_of2 h k0_no
theorem ts_fb {B v p st n f : Nat} {brk : Bool} {fr ln : Nat → Nat} {bg : Nat → Bool} (h : ts B v p st brk n fr ln bg = .inl f) : 1 ≤ f ∧ f ≤ 4 := by
  unfold ts at h
  split at h
  · split at h
    · split at h
      · cases h; omega
      · split at h
        · cases h; omega
        · cases h
    · cases h; omega
  · split at h
    · cases h
    · split at h
      · split at h
        · cases h; omega
        · cases h
      · cases h; omega
theorem tr_fb {B : Nat} {c : Nat → Nat} : ∀ {p : Nat} {f : Nat × Nat}, tr B c p = .inl f → 1 ≤ f.1 ∧ f.1 ≤ 4 ∧ f.2 < p
  | 0, f, h => by cases h
  | p + 1, f, h => by
    rw [tr_s] at h
    cases e : tr B c p with
    | inl g =>
      rw [e] at h
      have h' : (Sum.inl g : (Nat × Nat) ⊕ TS) = .inl f := h
      cases h'
      have := tr_fb e
      omega
    | inr a =>
      rw [e] at h
      unfold trS at h
      dsimp only at h
      cases e2 : ts B (c p) p a.1 a.2.1 a.2.2.1 a.2.2.2.1 a.2.2.2.2.1 a.2.2.2.2.2 with
      | inl g =>
        rw [e2] at h
        cases h
        have := ts_fb e2
        exact ⟨this.1, this.2, Nat.lt_succ_self _⟩
      | inr a =>
        rw [e2] at h
        cases h
theorem op_sheet (a b : Int32) (x m : GG) (h : Rel x m) : ∃ v x' m', fX11_sheet [.int a, .int b] x = some (v, x') ∧ fX12_sheet [.int a, .int b] m = some (v, m') ∧ Rel x' m' := by
  have hR0 := h
  obtain ⟨Nn, B, S, h⟩ := h
  obtain ⟨hT, hL, hN, hB, hTi, hLi, hH, hC, hNo, hS, hR, hQ⟩ := h
  obtain ⟨T, hT1, hT2, hT3, bt, hb⟩ := hT.byte
  have hB4 := hB.1
  have hS6 := hS.1
  have xB := hB.2.1
  have mB := hB.2.2.1
  have xS := hS.2.1
  have mS := hS.2.2.1
  have len := w_length (g := x)
  have full : ∀ Q : Value → GG → Prop, wF fX8_full [] x Q ↔ Q (.int (if S = 6 then 1 else 0)) x := fun Q => by
    refine wF_eq (eq_of_wF ?_) Q
    unfold fX8_full
    by_cases c : S = 6
    · subst c
      have : (nI 6 ≥ (6 : Int32)) = True := by decide
      simp (decide := true) only [wE_lit, wL_lit, wE_loc, wL_loc, wE_add, wE_sub, wE_mul, wE_and, wE_or, wE_xor, wE_shl, wE_shr, wE_ushr, wE_div, wE_rem, wE_neg, wE_i2b, wE_l2i, wL_i2l, wL_add, wL_mul, wE_fld, wL_fld, wE_arr, wL_arr, wC_cmp, wC_cmp0, wC_cmpL, wC_and, wC_or, wC_not, wC_ite, wL_ite, wA_nil, wA_int, wA_long, wE_call, wL_call, wS_skip, wS_seq, wS_set, wS_setL, wS_inc, wS_if, wS_put, wS_putL, wS_putOp, wS_putOpL, wS_ast, wS_astL, wS_aop, wS_aopL, wS_ret, wS_retL, wS_retV, wS_do, wS_pop, wS_dead, wS_sw, wF_body, Nat.reduceAdd, Nat.zero_add, Bool.not_not, true_and, and_true, if_true, if_false, ↓reduceIte, eq_self, Value.int.injEq, Value.long.injEq, exists_eq_left', ik_b1, ik_b0, ik_bz0, ik_bz3, ik_bz3_1, ik_bz3_0, ik_cmp, ik_cmpL, ik_eI, ik_eL, ik_as, ik_i0, ik_i1, decide_eq_true_eq, decide_eq_false_iff_not, decide_true, decide_false, Bool.not_true, Bool.not_false, reduceCtorEq, forall_const, false_implies, true_implies, implies_true, true_and, and_true, and_self, false_and, and_false, Bool.and_true, Bool.true_and, not_true_eq_false, not_false_eq_true, if_true, if_false, ite_true, ite_false, ik_bz3_0, ik_bz3_1, ik_bz0, wE_ite2, xS, this]
    · have : (nI S ≥ 6) = False := eq_false (fun z => by
        have z' : nI 6 ≤ nI S := z
        rw [nI_leI (by omega) (by omega)] at z'
        omega)
      simp (decide := true) only [wE_lit, wL_lit, wE_loc, wL_loc, wE_add, wE_sub, wE_mul, wE_and, wE_or, wE_xor, wE_shl, wE_shr, wE_ushr, wE_div, wE_rem, wE_neg, wE_i2b, wE_l2i, wL_i2l, wL_add, wL_mul, wE_fld, wL_fld, wE_arr, wL_arr, wC_cmp, wC_cmp0, wC_cmpL, wC_and, wC_or, wC_not, wC_ite, wL_ite, wA_nil, wA_int, wA_long, wE_call, wL_call, wS_skip, wS_seq, wS_set, wS_setL, wS_inc, wS_if, wS_put, wS_putL, wS_putOp, wS_putOpL, wS_ast, wS_astL, wS_aop, wS_aopL, wS_ret, wS_retL, wS_retV, wS_do, wS_pop, wS_dead, wS_sw, wF_body, Nat.reduceAdd, Nat.zero_add, Bool.not_not, true_and, and_true, if_true, if_false, ↓reduceIte, eq_self, Value.int.injEq, Value.long.injEq, exists_eq_left', ik_b1, ik_b0, ik_bz0, ik_bz3, ik_bz3_1, ik_bz3_0, ik_cmp, ik_cmpL, ik_eI, ik_eL, ik_as, ik_i0, ik_i1, decide_eq_true_eq, decide_eq_false_iff_not, decide_true, decide_false, Bool.not_true, Bool.not_false, reduceCtorEq, forall_const, false_implies, true_implies, implies_true, true_and, and_true, and_self, false_and, and_false, Bool.and_true, Bool.true_and, not_true_eq_false, not_false_eq_true, if_true, if_false, ite_true, ite_false, ik_bz3_0, ik_bz3_1, ik_bz0, wE_ite2, xS, this, c]
  have s6 : (nI S = 6) = (S = 6) := propext (nI_eq (b := 6) (by omega) (by omega))
  by_cases c1 : 50 ≤ a ∧ a ≤ 5000
  · by_cases c2 : 1 ≤ b ∧ b ≤ 160
    · by_cases c3 : S = 6
      · refine ⟨.int (-1), x, m, eq_of_wF ?_, eq_of_wF ?_, hR0⟩
        · unfold fX11_sheet
          simp (decide := true) only [wE_lit, wL_lit, wE_loc, wL_loc, wE_add, wE_sub, wE_mul, wE_and, wE_or, wE_xor, wE_shl, wE_shr, wE_ushr, wE_div, wE_rem, wE_neg, wE_i2b, wE_l2i, wL_i2l, wL_add, wL_mul, wE_fld, wL_fld, wE_arr, wL_arr, wC_cmp, wC_cmp0, wC_cmpL, wC_and, wC_or, wC_not, wC_ite, wL_ite, wA_nil, wA_int, wA_long, wE_call, wL_call, wS_skip, wS_seq, wS_set, wS_setL, wS_inc, wS_if, wS_put, wS_putL, wS_putOp, wS_putOpL, wS_ast, wS_astL, wS_aop, wS_aopL, wS_ret, wS_retL, wS_retV, wS_do, wS_pop, wS_dead, wS_sw, wF_body, Nat.reduceAdd, Nat.zero_add, Bool.not_not, true_and, and_true, if_true, if_false, ↓reduceIte, eq_self, Value.int.injEq, Value.long.injEq, exists_eq_left', ik_b1, ik_b0, ik_bz0, ik_bz3, ik_bz3_1, ik_bz3_0, ik_cmp, ik_cmpL, ik_eI, ik_eL, ik_as, ik_i0, ik_i1, decide_eq_true_eq, decide_eq_false_iff_not, decide_true, decide_false, Bool.not_true, Bool.not_false, reduceCtorEq, forall_const, false_implies, true_implies, implies_true, true_and, and_true, and_self, false_and, and_false, Bool.and_true, Bool.true_and, not_true_eq_false, not_false_eq_true, if_true, if_false, ite_true, ite_false, ik_bz3_0, ik_bz3_1, ik_bz0, exists_eq', w_within, c1, c2, full, c3]
        · unfold fX12_sheet
          simp (decide := true) only [wE_lit, wL_lit, wE_loc, wL_loc, wE_add, wE_sub, wE_mul, wE_and, wE_or, wE_xor, wE_shl, wE_shr, wE_ushr, wE_div, wE_rem, wE_neg, wE_i2b, wE_l2i, wL_i2l, wL_add, wL_mul, wE_fld, wL_fld, wE_arr, wL_arr, wC_cmp, wC_cmp0, wC_cmpL, wC_and, wC_or, wC_not, wC_ite, wL_ite, wA_nil, wA_int, wA_long, wE_call, wL_call, wS_skip, wS_seq, wS_set, wS_setL, wS_inc, wS_if, wS_put, wS_putL, wS_putOp, wS_putOpL, wS_ast, wS_astL, wS_aop, wS_aopL, wS_ret, wS_retL, wS_retV, wS_do, wS_pop, wS_dead, wS_sw, wF_body, Nat.reduceAdd, Nat.zero_add, Bool.not_not, true_and, and_true, if_true, if_false, ↓reduceIte, eq_self, Value.int.injEq, Value.long.injEq, exists_eq_left', ik_b1, ik_b0, ik_bz0, ik_bz3, ik_bz3_1, ik_bz3_0, ik_cmp, ik_cmpL, ik_eI, ik_eL, ik_as, ik_i0, ik_i1, decide_eq_true_eq, decide_eq_false_iff_not, decide_true, decide_false, Bool.not_true, Bool.not_false, reduceCtorEq, forall_const, false_implies, true_implies, implies_true, true_and, and_true, and_self, false_and, and_false, Bool.and_true, Bool.true_and, not_true_eq_false, not_false_eq_true, if_true, if_false, ite_true, ite_false, ik_bz3_0, ik_bz3_1, ik_bz0, i64_n20, i64_n1, l64_0, l64_1, l64_2, l64_3, l64_7, l64_12, l64_19, l64_20, l64_23, l64_24, l64_26, l64_29, l64_40, l64_50, l64_60, l64_63, l64_100, l64_160, l64_199, l64_255, l64_1000, l64_3000, l64_5000, l64_9999, l64_m1, l64_m20, exists_eq', w_lies, c1, c2, mS, s6, c3]
      · by_cases c4 : nI T < b
        · have c4' : (b > nI T) = True := eq_true c4
          have c4x := eq_true c4
          refine ⟨.int (-1), x, m, eq_of_wF ?_, eq_of_wF ?_, hR0⟩
          · unfold fX11_sheet
            simp (decide := true) only [wE_lit, wL_lit, wE_loc, wL_loc, wE_add, wE_sub, wE_mul, wE_and, wE_or, wE_xor, wE_shl, wE_shr, wE_ushr, wE_div, wE_rem, wE_neg, wE_i2b, wE_l2i, wL_i2l, wL_add, wL_mul, wE_fld, wL_fld, wE_arr, wL_arr, wC_cmp, wC_cmp0, wC_cmpL, wC_and, wC_or, wC_not, wC_ite, wL_ite, wA_nil, wA_int, wA_long, wE_call, wL_call, wS_skip, wS_seq, wS_set, wS_setL, wS_inc, wS_if, wS_put, wS_putL, wS_putOp, wS_putOpL, wS_ast, wS_astL, wS_aop, wS_aopL, wS_ret, wS_retL, wS_retV, wS_do, wS_pop, wS_dead, wS_sw, wF_body, Nat.reduceAdd, Nat.zero_add, Bool.not_not, true_and, and_true, if_true, if_false, ↓reduceIte, eq_self, Value.int.injEq, Value.long.injEq, exists_eq_left', ik_b1, ik_b0, ik_bz0, ik_bz3, ik_bz3_1, ik_bz3_0, ik_cmp, ik_cmpL, ik_eI, ik_eL, ik_as, ik_i0, ik_i1, decide_eq_true_eq, decide_eq_false_iff_not, decide_true, decide_false, Bool.not_true, Bool.not_false, reduceCtorEq, forall_const, false_implies, true_implies, implies_true, true_and, and_true, and_self, false_and, and_false, Bool.and_true, Bool.true_and, not_true_eq_false, not_false_eq_true, if_true, if_false, ite_true, ite_false, ik_bz3_0, ik_bz3_1, ik_bz0, exists_eq', w_within, c1, c2, full, c3, w_length, hT2, c4x]
          · unfold fX12_sheet
            simp (decide := true) only [wE_lit, wL_lit, wE_loc, wL_loc, wE_add, wE_sub, wE_mul, wE_and, wE_or, wE_xor, wE_shl, wE_shr, wE_ushr, wE_div, wE_rem, wE_neg, wE_i2b, wE_l2i, wL_i2l, wL_add, wL_mul, wE_fld, wL_fld, wE_arr, wL_arr, wC_cmp, wC_cmp0, wC_cmpL, wC_and, wC_or, wC_not, wC_ite, wL_ite, wA_nil, wA_int, wA_long, wE_call, wL_call, wS_skip, wS_seq, wS_set, wS_setL, wS_inc, wS_if, wS_put, wS_putL, wS_putOp, wS_putOpL, wS_ast, wS_astL, wS_aop, wS_aopL, wS_ret, wS_retL, wS_retV, wS_do, wS_pop, wS_dead, wS_sw, wF_body, Nat.reduceAdd, Nat.zero_add, Bool.not_not, true_and, and_true, if_true, if_false, ↓reduceIte, eq_self, Value.int.injEq, Value.long.injEq, exists_eq_left', ik_b1, ik_b0, ik_bz0, ik_bz3, ik_bz3_1, ik_bz3_0, ik_cmp, ik_cmpL, ik_eI, ik_eL, ik_as, ik_i0, ik_i1, decide_eq_true_eq, decide_eq_false_iff_not, decide_true, decide_false, Bool.not_true, Bool.not_false, reduceCtorEq, forall_const, false_implies, true_implies, implies_true, true_and, and_true, and_self, false_and, and_false, Bool.and_true, Bool.true_and, not_true_eq_false, not_false_eq_true, if_true, if_false, ite_true, ite_false, ik_bz3_0, ik_bz3_1, ik_bz0, i64_n20, i64_n1, l64_0, l64_1, l64_2, l64_3, l64_7, l64_12, l64_19, l64_20, l64_23, l64_24, l64_26, l64_29, l64_40, l64_50, l64_60, l64_63, l64_100, l64_160, l64_199, l64_255, l64_1000, l64_3000, l64_5000, l64_9999, l64_m1, l64_m20, exists_eq', w_lies, c1, c2, mS, s6, c3, hT3, c4']
        · obtain ⟨N, hN160, rfl⟩ := nI_of3 (x := b) (a := 160) (by omega) (Int32.le_trans (by decide) c2.1) c2.2
          have hN1 : 1 ≤ N := (nI_leI (a := 1) (by omega) (by omega)).mp c2.1
          have hNT : N ≤ T := by
            rw [Int32.not_lt, nI_leI (by omega) (by omega)] at c4
            exact c4
          obtain ⟨c, hcd⟩ : ∃ c : Nat → Nat, c = fun k => if k < N then bt k else 0 := ⟨_, rfl⟩
          have hz : ∀ k, N ≤ k → c k = 0 := fun k hk => by rw [hcd]; exact if_neg (by omega)
          have hcb : ∀ k, k < N → c k = bt k := fun k hk => by rw [hcd]; exact if_pos hk
          obtain ⟨v1, g1, e1, f1, f2⟩ := w_readSX (c := c) (B := B) (N := N) hS.2.2.2.1 xS (show S < 6 by omega) hB4 hN160 hT1 hNT hT2 (fun k hk => by rw [hcb k hk]; exact ⟨(hb k (by omega)).1, (hb k (by omega)).2.1⟩)
          obtain ⟨m0, hm0⟩ : ∃ m0, m0 = ik_si (ik_si (ik_si (ik_si m 0 1 0) 0 30 0) 0 31 (nI N)) 0 32 0 := ⟨_, rfl⟩
          obtain ⟨v2, m', e2, f3⟩ := w_sheetM (c := c) (B := B) (w := a) hm0 hN1 hN160 hNT hT1 hT3 (show S < 6 by omega) mS hB4 mB c1 hz (fun k hk => by rw [hcb k hk]; exact ⟨(hb k (by omega)).1, (hb k (by omega)).2.2⟩)
          have z0 : ∀ a, a ≠ 0 → m0.1 a = m.1 a := fun a ha => by rw [hm0, ik_si_row _ _ _ _ _ ha, ik_si_row _ _ _ _ _ ha, ik_si_row _ _ _ _ _ ha, ik_si_row _ _ _ _ _ ha]
          have y0 : ∀ j, j ≠ 1 → j < 30 → m0.1 0 j = m.1 0 j := fun j a b => by rw [hm0, ik_si_ne _ _ _ _ _ (by omega), ik_si_ne _ _ _ _ _ (by omega), ik_si_ne _ _ _ _ _ (by omega), ik_si_ne _ _ _ _ _ a]
          have m01 : m0.1 0 1 = 0 := by rw [hm0, ik_si_ne _ _ _ _ _ (by decide), ik_si_ne _ _ _ _ _ (by decide), ik_si_ne _ _ _ _ _ (by decide)]; exact ik_si_same _ _ _ _
          obtain ⟨g2, hg2⟩ : ∃ g2, g2 = ik_si g1 1 1 0 := ⟨_, rfl⟩
          have x2 : ∀ a, a ≠ 1 → a ≠ 25 → a ≠ 27 → a ≠ 28 → a ≠ 29 → a ≠ 30 → g2.1 a = x.1 a := fun a h1 h2 h3 h4 h5 h6 => by rw [hg2, ik_si_row _ _ _ _ _ h1]; exact f1.1 a h2 h3 h4 h5 h6
          have x25 : ∀ j, j ≠ 8 → g2.1 25 j = x.1 25 j := fun j hj => by rw [hg2, ik_si_row _ _ _ _ _ (by decide)]; exact f1.2.1 j hj
          have xr : ∀ j, j < 24 * S → g2.1 28 j = x.1 28 j ∧ g2.1 29 j = x.1 29 j ∧ g2.1 30 j = x.1 30 j := fun j hj => by rw [hg2, ik_si_row _ _ _ _ _ (by decide), ik_si_row _ _ _ _ _ (by decide), ik_si_row _ _ _ _ _ (by decide)]; exact f1.2.2.1 j hj
          have x27 : ∀ j, j < 288 * S → g2.1 27 j = x.1 27 j := fun j hj => by rw [hg2, ik_si_row _ _ _ _ _ (by decide)]; exact f1.2.2.2.1 j hj
          have xl : g2.2 = x.2 := by rw [hg2]; exact f1.2.2.2.2
          have x11 : g2.1 1 1 = 0 := by rw [hg2]; exact ik_si_same _ _ _ _
          have c4x := eq_false c4
          rcases hE : tEnd B c N with e | st'
          · -- a fault
            have f2' : v1 = .int (nI e) := by
              rcases f2 with ⟨e', q1, q2⟩ | ⟨st, brk, n, fr, ln, bg, q1, -⟩
              · rw [hE] at q1; cases q1; exact q2
              · rw [hE] at q1; cases q1
            obtain ⟨w1, w2⟩ : v2 = .int (-(nI e)) ∧ fsM S m0 m' := by
              rcases f3 with ⟨e', q1, q2, q3⟩ | ⟨st, brk, n, fr, ln, bg, q1, -⟩
              · rw [hE] at q1; cases q1; exact ⟨q2, q3⟩
              · rw [hE] at q1; cases q1
            have e0 : ¬ nI e = 0 := by
              have eb : 1 ≤ e ∧ e < 2 ^ 30 := by
                unfold tEnd at hE
                cases ht : tr B c N with
                | inl f => 
                  rw [ht] at hE
                  have hE' : (Sum.inl (1000 * f.1 + f.2) : Nat ⊕ TS) = .inl e := hE
                  have := tr_fb ht
                  cases hE'
                  omega
                | inr t =>
                  rw [ht] at hE
                  dsimp only at hE
                  split at hE
                  · cases hE; omega
                  · cases hE
              intro z
              have := (nI_eq (by omega) (by omega)).mp (z.trans nI_0.symm)
              omega
            subst f2' w1
            have mr : ∀ a, a ≠ 0 → (a < 16 ∨ 19 < a) → m'.1 a = m.1 a := fun a h1 h2 => (w2.1 a h1 h2).trans (z0 a h1)
            have mq : ∀ a j, 16 ≤ a → a ≤ 19 → j < 24 * S → m'.1 a j = m.1 a j := fun a j h1 h2 h3 => (w2.2.1 a j h1 h2 h3).trans (by rw [z0 a (by omega)])
            have m0j : ∀ j, j ≠ 1 → j < 30 → m'.1 0 j = m.1 0 j := fun j h1 h2 => (w2.2.2.1 j (by omega) (by omega)).trans (y0 j h1 h2)
            have m11 : m'.1 0 1 = 0 := (w2.2.2.1 1 (by decide) (by decide)).trans m01
            refine ⟨.int (-(nI e)), g2, m', eq_of_wF ?_, e2, Nn, B, S, ?_, ?_, hN.frk (cutx ?_) (cutx ?_), hB.frk (cutx ?_) (cutx ?_), hTi.frk (cutx ?_) (cutx ?_), hLi.frk (cutx ?_) (cutx ?_), hH.frk (cutx ?_) (cutx ?_), hC.frk (cutx ?_) (cutx ?_), hNo.frk (cutx ?_) (cutx ?_), ?_, hR.fr (cutx ?_) (cutx ?_), hQ.fr2 ?_ (cut_of2 ?_ ?_) ?_⟩
            · unfold fX11_sheet
              simp (decide := true) only [wE_lit, wL_lit, wE_loc, wL_loc, wE_add, wE_sub, wE_mul, wE_and, wE_or, wE_xor, wE_shl, wE_shr, wE_ushr, wE_div, wE_rem, wE_neg, wE_i2b, wE_l2i, wL_i2l, wL_add, wL_mul, wE_fld, wL_fld, wE_arr, wL_arr, wC_cmp, wC_cmp0, wC_cmpL, wC_and, wC_or, wC_not, wC_ite, wL_ite, wA_nil, wA_int, wA_long, wE_call, wL_call, wS_skip, wS_seq, wS_set, wS_setL, wS_inc, wS_if, wS_put, wS_putL, wS_putOp, wS_putOpL, wS_ast, wS_astL, wS_aop, wS_aopL, wS_ret, wS_retL, wS_retV, wS_do, wS_pop, wS_dead, wS_sw, wF_body, Nat.reduceAdd, Nat.zero_add, Bool.not_not, true_and, and_true, if_true, if_false, ↓reduceIte, eq_self, Value.int.injEq, Value.long.injEq, exists_eq_left', ik_b1, ik_b0, ik_bz0, ik_bz3, ik_bz3_1, ik_bz3_0, ik_cmp, ik_cmpL, ik_eI, ik_eL, ik_as, ik_i0, ik_i1, decide_eq_true_eq, decide_eq_false_iff_not, decide_true, decide_false, Bool.not_true, Bool.not_false, reduceCtorEq, forall_const, false_implies, true_implies, implies_true, true_and, and_true, and_self, false_and, and_false, Bool.and_true, Bool.true_and, not_true_eq_false, not_false_eq_true, if_true, if_false, ite_true, ite_false, ik_bz3_0, ik_bz3_1, ik_bz0, exists_eq', w_within, c1, c2, full, c3, w_length, hT2, c4x, w_cnt0, xB, wF_eq e1, w_clear9, ← hg2, e0, upd_at, upd_off]
            · rw [x11, m11]; exact rT.none _ _
            · rw [x2 4 (by decide) (by decide) (by decide) (by decide) (by decide) (by decide), x2 5 (by decide) (by decide) (by decide) (by decide) (by decide) (by decide), mr 2 (by decide) (by decide), mr 3 (by decide) (by decide)]
              exact hL
            any_goals first
              | (intro a j hk; simp only [kNm, kBm, kTim, kLim, kHm, kCm, kNom, kRm, Bool.or_eq_true, Bool.and_eq_true, beq_iff_eq, decide_eq_true_eq] at hk; by_cases a0 : a = 0 <;> first | (subst a0; rw [m0j j (by omega) (by omega)]; done) | (rw [mr a a0 (by omega)]; done))
              | (intro a j hk; simp only [kNx, kBx, kTix, kLix, kHx, kCx, kNox, kRx, Bool.or_eq_true, Bool.and_eq_true, beq_iff_eq, decide_eq_true_eq] at hk; rw [x2 a (by omega) (by omega) (by omega) (by omega) (by omega) (by omega)]; done)
            · exact hS.fr3 x25 (x2 26 (by decide) (by decide) (by decide) (by decide) (by decide) (by decide)) (x2 32 (by decide) (by decide) (by decide) (by decide) (by decide) (by decide)) (x2 33 (by decide) (by decide) (by decide) (by decide) (by decide) (by decide)) xr x27 (m0j 4 (by decide) (by decide)) (mr 13 (by decide) (by decide)) (mr 14 (by decide) (by decide)) (mr 15 (by decide) (by decide)) mq
            · rw [x2 0 (by decide) (by decide) (by decide) (by decide) (by decide) (by decide)]
            · intro a j hk
              rw [x2 a (fun z => by subst z; cases hk) (fun z => by subst z; cases hk) (fun z => by subst z; cases hk) (fun z => by subst z; cases hk) (fun z => by subst z; cases hk) (fun z => by subst z; cases hk)]
            · intro a j hk
              rw [xl]
            · refine kPd_cut (m0j 2 (by decide) (by decide)) (m0j 4 (by decide) (by decide)) (fun a j hk => ?_)
              have hk0 := kPm_of hk
              by_cases a0 : a = 0
              · subst a0
                have hj : j ≠ 1 ∧ j < 30 := by
                  unfold kPm at hk0
                  simp only [Bool.or_eq_true, Bool.and_eq_true, beq_iff_eq, decide_eq_true_eq] at hk0
                  omega
                exact m0j j hj.1 hj.2
              · by_cases a16 : 16 ≤ a ∧ a ≤ 19
                · have eS : (m.1 0 4).toInt.toNat = S := by rw [mS, nI_nat (by omega)]
                  unfold kPd at hk
                  rw [eS, decide_eq_true a16.1, decide_eq_true a16.2] at hk
                  simp only [Bool.and_eq_true, Bool.and_true, Bool.not_true, Bool.false_or, decide_eq_true_eq] at hk
                  exact mq a j a16.1 a16.2 hk.2
                · rw [mr a a0 (by omega)]
          · obtain ⟨st, brk, n, fr, ln, bg⟩ := st'
            obtain ⟨hti, hst, w0, cx⟩ : TI B c N st brk n fr ln bg ∧ st ≠ 0 ∧ v1 = .int 0 ∧ CX S c n fr ln bg g1 := by
              rcases f2 with ⟨e', q1, -⟩ | ⟨st, brk, n, fr, ln, bg, q1, q2, q3, q4, q5⟩
              · rw [hE] at q1; cases q1
              · rw [hE] at q1; cases q1; exact ⟨q2, q3, q4, q5⟩
            obtain ⟨w1, cm, sm⟩ : v2 = .int (nI S) ∧ CM S c n fr ln bg m' ∧ ShM S N n c a m0 m' := by
              rcases f3 with ⟨e', q1, -⟩ | ⟨st, brk, n, fr, ln, bg, q1, q2, q3, q4⟩
              · rw [hE] at q1; cases q1
              · rw [hE] at q1; cases q1; exact ⟨q2, q3, q4⟩
            subst w0 w1
            have n1 : 1 ≤ n := hti.2.2.1 hst
            have n24 : n ≤ 24 := hti.1
            obtain ⟨g3, hg3⟩ : ∃ g3, g3 = ik_si g2 0 13 0 := ⟨_, rfl⟩
            have t3 : ∀ q, q ≠ 0 → g3.1 q = g2.1 q := fun q hq => by rw [hg3, ik_si_row _ _ _ _ _ hq]
            have t31 : ∀ q, q ≠ 0 → q ≠ 1 → g3.1 q = g1.1 q := fun q hq h1 => by rw [t3 q hq, hg2, ik_si_row _ _ _ _ _ h1]
            have cx3 : CX S c n fr ln bg g3 := by
              obtain ⟨q1, q2⟩ := cx
              refine ⟨by rw [t31 25 (by decide) (by decide)]; exact q1, fun t ht => ?_⟩
              rw [t31 29 (by decide) (by decide), t31 28 (by decide) (by decide), t31 27 (by decide) (by decide), t31 30 (by decide) (by decide)]
              exact q2 t ht
            obtain ⟨-, -, -, hS26, hSr, a0, b0, ha0, hb0, ea0, eb0, ar1, ar2⟩ := hS
            have hSr' : ∀ s, s < S → RSr x m B s := hSr
            obtain ⟨_, g4, e4, rfl, sx, a', b', ha', hb', e9, e10, br1, br2⟩ := w_addX (g0 := g3) (w := a) (n := n) (by rw [t3 26 (by decide), x2 26 (by decide) (by decide) (by decide) (by decide) (by decide) (by decide)]; exact hS26) (by rw [t3 25 (by decide), x25 7 (by decide)]; exact xS) (show S < 6 by omega) cx3.1 n1 n24 ha0 hb0 (by rw [t3 25 (by decide), x25 9 (by decide)]; exact ea0) (by rw [t3 25 (by decide), x25 10 (by decide)]; exact eb0) (fun t ht => by
              obtain ⟨q1, q2, q3, q4⟩ := cx3.2 t ht
              rcases hti.2.2.2.2.2.1 t ht with ⟨k1, k2, k3, k4⟩ | ⟨k1, k2, k3, k4, k5⟩
              · rw [if_pos k1] at q1
                exact ⟨⟨ln t, by omega, q2⟩, Or.inr ⟨c (fr t) - 48, by omega, q1⟩⟩
              · rw [if_neg (by rw [k1]; decide)] at q1
                exact ⟨⟨ln t, k3, q2⟩, Or.inl q1⟩)
            obtain ⟨s1, s2, s3, s4, s5, s5', s6', s7, s8, s9⟩ := sx
            have x4 : ∀ q, q ≠ 0 → q ≠ 1 → q ≠ 25 → q ≠ 27 → q ≠ 28 → q ≠ 29 → q ≠ 30 → q ≠ 32 → q ≠ 33 → q ≠ 34 → g4.1 q = x.1 q := fun q h0 h1 h2 h3 h4 h5 h6 h7 h8 h9 => by rw [s1 q h2 h7 h8 h9, t3 q h0, x2 q h1 h2 h3 h4 h5 h6]
            have x4o : ∀ j, j ≠ 13 → g4.1 0 j = x.1 0 j := fun j hj => by rw [s1 0 (by decide) (by decide) (by decide) (by decide), hg3, ik_si_ne _ _ _ _ _ hj, x2 0 (by decide) (by decide) (by decide) (by decide) (by decide) (by decide)]
            have x413 : g4.1 0 13 = 0 := by rw [s1 0 (by decide) (by decide) (by decide) (by decide), hg3]; exact ik_si_same _ _ _ _
            have x411 : g4.1 1 1 = 0 := by rw [s1 1 (by decide) (by decide) (by decide) (by decide), t3 1 (by decide)]; exact x11
            have g4r : ∀ q, q = 26 ∨ q = 27 ∨ q = 28 ∨ q = 29 ∨ q = 30 → g4.1 q = g3.1 q := fun q hq => s1 q (by omega) (by omega) (by omega) (by omega)
            have yr : ∀ j, j < 24 * S → g4.1 28 j = x.1 28 j ∧ g4.1 29 j = x.1 29 j ∧ g4.1 30 j = x.1 30 j := fun j hj => by
              rw [g4r 28 (by omega), g4r 29 (by omega), g4r 30 (by omega), t3 28 (by decide), t3 29 (by decide), t3 30 (by decide)]
              exact xr j hj
            have y27 : ∀ j, j < 288 * S → g4.1 27 j = x.1 27 j := fun j hj => by rw [g4r 27 (by omega), t3 27 (by decide)]; exact x27 j hj
            have y32 : ∀ s, s ≠ S → g4.1 32 s = x.1 32 s := fun s hs => by rw [s5' s hs, t3 32 (by decide), x2 32 (by decide) (by decide) (by decide) (by decide) (by decide) (by decide)]
            have y33 : ∀ s, s ≠ S → g4.1 33 s = x.1 33 s := fun s hs => by rw [s7 s hs, t3 33 (by decide), x2 33 (by decide) (by decide) (by decide) (by decide) (by decide) (by decide)]
            have y34 : ∀ s, s ≠ S → g4.1 34 s = x.1 34 s := fun s hs => by rw [s9 s hs, t3 34 (by decide), x2 34 (by decide) (by decide) (by decide) (by decide) (by decide) (by decide)]
            obtain ⟨r1, r2, r3, r4, r5, r6, r7, r8, r9, r10, r11⟩ := sm
            have mr : ∀ a, a ≠ 0 → a ≠ 13 → a ≠ 14 → a ≠ 15 → (a < 16 ∨ 19 < a) → m'.1 a = m.1 a := fun a h1 h2 h3 h4 h5 => (r1 a h1 h2 h3 h4 h5).trans (z0 a h1)
            have mq : ∀ a j, 16 ≤ a → a ≤ 19 → j < 24 * S → m'.1 a j = m.1 a j := fun a j h1 h2 h3 => (r2 a j h1 h2 h3).trans (by rw [z0 a (by omega)])
            have m0j : ∀ j, j ≠ 1 → j ≠ 4 → j < 30 → m'.1 0 j = m.1 0 j := fun j h1 h2 h3 => (r3 j h2 (by omega) (by omega)).trans (y0 j h1 h3)
            have m11 : m'.1 0 1 = 0 := (r3 1 (by decide) (by decide) (by decide)).trans m01
            have cx4 : CX S c n fr ln bg g4 := by
              obtain ⟨q1, q2⟩ := cx3
              refine ⟨by rw [s2 8 (by decide) (by decide) (by decide)]; exact q1, fun t ht => ?_⟩
              rw [g4r 29 (by omega), g4r 28 (by omega), g4r 27 (by omega), g4r 30 (by omega)]
              exact q2 t ht
            have new : RSr g4 m' B S := RSr.new c1 hN160 hti hst s5 s6' r6 r8 r10 cx4 cm
            have old : ∀ s, s < S → RSr g4 m' B s := fun s hs => (hSr' s hs).fr hs (y32 s (by omega)) (y33 s (by omega)) yr y27 (by rw [r7 s (by omega), z0 13 (by decide)]) (by rw [r9 s (by omega), z0 14 (by decide)]) (fun j hj => by rw [r11 j hj, z0 15 (by decide)]) mq
            have n33 : ∀ t, (nI (t + 1) < g4.1 33 S ∧ t < 24) ↔ t + 1 < n := fun t => by
              rw [s6']
              constructor
              · rintro ⟨q1, q2⟩
                rw [nI_ltI (by omega) (by omega)] at q1
                exact q1
              · intro q
                exact ⟨(nI_ltI (by omega) (by omega)).mpr q, by omega⟩
            have g29 : g4.1 29 = g3.1 29 := g4r 29 (by omega)
            have g28 : g4.1 28 = g3.1 28 := g4r 28 (by omega)
            have g27 : g4.1 27 = g3.1 27 := g4r 27 (by omega)
            have art : ∀ (A A0 : Nat) (nn k : Nat), (A0.testBit k = true ↔ ∃ s t, s < S ∧ t < 24 ∧ nI (t + 1) < x.1 33 s ∧ x.1 29 (24 * s + t + 1) = nI k ∧ k < 4 ∧ ik_art (x.1 28) (x.1 27) (24 * s + t) nn) → (A.testBit k = true ↔ (A0.testBit k = true ∨ ∃ t, t + 1 < n ∧ g3.1 29 (24 * S + t + 1) = nI k ∧ k < 4 ∧ ik_art (g3.1 28) (g3.1 27) (24 * S + t) nn)) → (A.testBit k = true ↔ ∃ s t, s < S + 1 ∧ t < 24 ∧ nI (t + 1) < g4.1 33 s ∧ g4.1 29 (24 * s + t + 1) = nI k ∧ k < 4 ∧ ik_art (g4.1 28) (g4.1 27) (24 * s + t) nn) := by
              intro A A0 nn k h1 h2
              rw [h2, h1, ← art_fr (x' := g4) hSr' (fun s hs => y33 s (by omega)) yr y27]
              constructor
              · rintro (⟨s, t, q1, q2⟩ | ⟨t, q1, q2⟩)
                · exact ⟨s, t, by omega, q2⟩
                · obtain ⟨q3, q4⟩ := (n33 t).mpr q1
                  rw [g29, g28, g27]
                  exact ⟨S, t, by omega, q4, q3, q2⟩
              · rintro ⟨s, t, q1, q2, q3, q4⟩
                by_cases es : s = S
                · subst es
                  rw [g29, g28, g27] at q4
                  exact Or.inr ⟨t, (n33 t).mp ⟨q3, q2⟩, q4⟩
                · exact Or.inl ⟨s, t, by omega, q2, q3, q4⟩
            refine ⟨.int (nI S), g4, m', eq_of_wF ?_, e2, Nn, B, S + 1, ?_, ?_, hN.frk (cutx ?_) (cutx ?_), hB.frk (cutx ?_) (cutx ?_), hTi.frk (cutx ?_) (cutx ?_), hLi.frk (cutx ?_) (cutx ?_), hH.frk (cutx ?_) (cutx ?_), ?_, ?_, ⟨by omega, s4, r5, ?_, fun s hs => ?_, a', b', ha', hb', e9, e10, fun k => art a' a0 1 k (ar1 k) (br1 k), fun k => art b' b0 2 k (ar2 k) (br2 k)⟩, hR.fr (cutx ?_) (cutx ?_), rQ.new x413⟩
            · unfold fX11_sheet
              simp (decide := true) only [wE_lit, wL_lit, wE_loc, wL_loc, wE_add, wE_sub, wE_mul, wE_and, wE_or, wE_xor, wE_shl, wE_shr, wE_ushr, wE_div, wE_rem, wE_neg, wE_i2b, wE_l2i, wL_i2l, wL_add, wL_mul, wE_fld, wL_fld, wE_arr, wL_arr, wC_cmp, wC_cmp0, wC_cmpL, wC_and, wC_or, wC_not, wC_ite, wL_ite, wA_nil, wA_int, wA_long, wE_call, wL_call, wS_skip, wS_seq, wS_set, wS_setL, wS_inc, wS_if, wS_put, wS_putL, wS_putOp, wS_putOpL, wS_ast, wS_astL, wS_aop, wS_aopL, wS_ret, wS_retL, wS_retV, wS_do, wS_pop, wS_dead, wS_sw, wF_body, Nat.reduceAdd, Nat.zero_add, Bool.not_not, true_and, and_true, if_true, if_false, ↓reduceIte, eq_self, Value.int.injEq, Value.long.injEq, exists_eq_left', ik_b1, ik_b0, ik_bz0, ik_bz3, ik_bz3_1, ik_bz3_0, ik_cmp, ik_cmpL, ik_eI, ik_eL, ik_as, ik_i0, ik_i1, decide_eq_true_eq, decide_eq_false_iff_not, decide_true, decide_false, Bool.not_true, Bool.not_false, reduceCtorEq, forall_const, false_implies, true_implies, implies_true, true_and, and_true, and_self, false_and, and_false, Bool.and_true, Bool.true_and, not_true_eq_false, not_false_eq_true, if_true, if_false, ite_true, ite_false, ik_bz3_0, ik_bz3_1, ik_bz0, exists_eq', w_within, c1, c2, full, c3, w_length, hT2, c4x, w_cnt0, xB, wF_eq e1, w_clear9, ← hg2, w_changed, ← hg3, wF_eq e4, upd_at, upd_off]
            · rw [x411, m11]; exact rT.none _ _
            · rw [x4 4 (by decide) (by decide) (by decide) (by decide) (by decide) (by decide) (by decide) (by decide) (by decide) (by decide), x4 5 (by decide) (by decide) (by decide) (by decide) (by decide) (by decide) (by decide) (by decide) (by decide) (by decide), mr 2 (by decide) (by decide) (by decide) (by decide) (by decide), mr 3 (by decide) (by decide) (by decide) (by decide) (by decide)]
              exact hL
            any_goals first
              | (intro a j hk; simp only [kNm, kBm, kTim, kLim, kHm, kRm, Bool.or_eq_true, Bool.and_eq_true, beq_iff_eq, decide_eq_true_eq] at hk; by_cases a0 : a = 0 <;> first | (subst a0; rw [m0j j (by omega) (by omega) (by omega)]; done) | (rw [mr a a0 (by omega) (by omega) (by omega) (by omega)]; done))
              | (intro a j hk; simp only [kNx, kBx, kTix, kLix, kHx, kRx, Bool.or_eq_true, Bool.and_eq_true, beq_iff_eq, decide_eq_true_eq] at hk; by_cases a0 : a = 0 <;> first | (subst a0; rw [x4o j (by omega)]; done) | (rw [x4 a a0 (by omega) (by omega) (by omega) (by omega) (by omega) (by omega) (by omega) (by omega) (by omega)]; done))
            · have hC' : rC g4 m' S := hC.frk (cutx (by intro a j hk; simp only [kCx, Bool.or_eq_true, Bool.and_eq_true, beq_iff_eq, decide_eq_true_eq] at hk; rw [x4 a (by omega) (by omega) (by omega) (by omega) (by omega) (by omega) (by omega) (by omega) (by omega) (by omega)])) (cutx (by intro a j hk; simp only [kCm, Bool.or_eq_true, Bool.and_eq_true, beq_iff_eq, decide_eq_true_eq] at hk; by_cases a0 : a = 0 <;> first | (subst a0; rw [m0j j (by omega) (by omega) (by omega)]; done) | (rw [mr a a0 (by omega) (by omega) (by omega) (by omega)]; done)))
              obtain ⟨q, q1, q2, q3, q4⟩ := hC'
              refine ⟨q, q1, q2, q3, fun t ht => ?_⟩
              obtain ⟨u1, u2, u3, u4, ⟨w, w1, w2⟩, u5⟩ := q4 t ht
              exact ⟨u1, u2, u3, u4, ⟨w, by omega, w2⟩, u5⟩
            · obtain ⟨n1', n2', n3', n4'⟩ := hNo
              have e51 : m'.1 51 = m.1 51 := mr 51 (by decide) (by decide) (by decide) (by decide) (by decide)
              have z51 : m.1 51 S = 0 := n2' S (Nat.le_refl _) (by omega)
              refine ⟨fun s hs => ?_, fun s hs1 hs2 => ?_, fun s t h1 h2 h3 h4 => ?_, ?_⟩
              · rw [e51]
                by_cases es : s = S
                · subst es
                  rw [s8, z51]
                  exact ⟨rfl, by decide, by decide⟩
                · rw [y34 s es]; exact n1' s (by omega)
              · rw [e51]; exact n2' s (by omega) hs2
              · rw [e51] at h3 h4 ⊢
                by_cases et : t = S
                · subst et; exact absurd z51 h4
                · exact n3' s t h1 (by omega) h3 h4
              · rw [e51, m0j 10 (by decide) (by decide) (by decide), n4']
                show _ = nI (ik_nz (m.1 51) S + if m.1 51 S ≠ 0 then 1 else 0)
                rw [if_neg (fun z => z z51), Nat.add_zero]
            · rw [g4r 26 (by omega), t3 26 (by decide), x2 26 (by decide) (by decide) (by decide) (by decide) (by decide) (by decide)]; exact hS26
            · by_cases es : s = S
              · subst es; exact new
              · exact old s (by omega)
    · refine ⟨.int (-1), x, m, eq_of_wF ?_, eq_of_wF ?_, hR0⟩
      · unfold fX11_sheet
        simp (decide := true) only [wE_lit, wL_lit, wE_loc, wL_loc, wE_add, wE_sub, wE_mul, wE_and, wE_or, wE_xor, wE_shl, wE_shr, wE_ushr, wE_div, wE_rem, wE_neg, wE_i2b, wE_l2i, wL_i2l, wL_add, wL_mul, wE_fld, wL_fld, wE_arr, wL_arr, wC_cmp, wC_cmp0, wC_cmpL, wC_and, wC_or, wC_not, wC_ite, wL_ite, wA_nil, wA_int, wA_long, wE_call, wL_call, wS_skip, wS_seq, wS_set, wS_setL, wS_inc, wS_if, wS_put, wS_putL, wS_putOp, wS_putOpL, wS_ast, wS_astL, wS_aop, wS_aopL, wS_ret, wS_retL, wS_retV, wS_do, wS_pop, wS_dead, wS_sw, wF_body, Nat.reduceAdd, Nat.zero_add, Bool.not_not, true_and, and_true, if_true, if_false, ↓reduceIte, eq_self, Value.int.injEq, Value.long.injEq, exists_eq_left', ik_b1, ik_b0, ik_bz0, ik_bz3, ik_bz3_1, ik_bz3_0, ik_cmp, ik_cmpL, ik_eI, ik_eL, ik_as, ik_i0, ik_i1, decide_eq_true_eq, decide_eq_false_iff_not, decide_true, decide_false, Bool.not_true, Bool.not_false, reduceCtorEq, forall_const, false_implies, true_implies, implies_true, true_and, and_true, and_self, false_and, and_false, Bool.and_true, Bool.true_and, not_true_eq_false, not_false_eq_true, if_true, if_false, ite_true, ite_false, ik_bz3_0, ik_bz3_1, ik_bz0, exists_eq', w_within, c1, c2]
      · unfold fX12_sheet
        by_cases c3 : S = 6
        · simp (decide := true) only [wE_lit, wL_lit, wE_loc, wL_loc, wE_add, wE_sub, wE_mul, wE_and, wE_or, wE_xor, wE_shl, wE_shr, wE_ushr, wE_div, wE_rem, wE_neg, wE_i2b, wE_l2i, wL_i2l, wL_add, wL_mul, wE_fld, wL_fld, wE_arr, wL_arr, wC_cmp, wC_cmp0, wC_cmpL, wC_and, wC_or, wC_not, wC_ite, wL_ite, wA_nil, wA_int, wA_long, wE_call, wL_call, wS_skip, wS_seq, wS_set, wS_setL, wS_inc, wS_if, wS_put, wS_putL, wS_putOp, wS_putOpL, wS_ast, wS_astL, wS_aop, wS_aopL, wS_ret, wS_retL, wS_retV, wS_do, wS_pop, wS_dead, wS_sw, wF_body, Nat.reduceAdd, Nat.zero_add, Bool.not_not, true_and, and_true, if_true, if_false, ↓reduceIte, eq_self, Value.int.injEq, Value.long.injEq, exists_eq_left', ik_b1, ik_b0, ik_bz0, ik_bz3, ik_bz3_1, ik_bz3_0, ik_cmp, ik_cmpL, ik_eI, ik_eL, ik_as, ik_i0, ik_i1, decide_eq_true_eq, decide_eq_false_iff_not, decide_true, decide_false, Bool.not_true, Bool.not_false, reduceCtorEq, forall_const, false_implies, true_implies, implies_true, true_and, and_true, and_self, false_and, and_false, Bool.and_true, Bool.true_and, not_true_eq_false, not_false_eq_true, if_true, if_false, ite_true, ite_false, ik_bz3_0, ik_bz3_1, ik_bz0, i64_n20, i64_n1, l64_0, l64_1, l64_2, l64_3, l64_7, l64_12, l64_19, l64_20, l64_23, l64_24, l64_26, l64_29, l64_40, l64_50, l64_60, l64_63, l64_100, l64_160, l64_199, l64_255, l64_1000, l64_3000, l64_5000, l64_9999, l64_m1, l64_m20, exists_eq', w_lies, c1, c2, mS, s6, c3]
        · simp (decide := true) only [wE_lit, wL_lit, wE_loc, wL_loc, wE_add, wE_sub, wE_mul, wE_and, wE_or, wE_xor, wE_shl, wE_shr, wE_ushr, wE_div, wE_rem, wE_neg, wE_i2b, wE_l2i, wL_i2l, wL_add, wL_mul, wE_fld, wL_fld, wE_arr, wL_arr, wC_cmp, wC_cmp0, wC_cmpL, wC_and, wC_or, wC_not, wC_ite, wL_ite, wA_nil, wA_int, wA_long, wE_call, wL_call, wS_skip, wS_seq, wS_set, wS_setL, wS_inc, wS_if, wS_put, wS_putL, wS_putOp, wS_putOpL, wS_ast, wS_astL, wS_aop, wS_aopL, wS_ret, wS_retL, wS_retV, wS_do, wS_pop, wS_dead, wS_sw, wF_body, Nat.reduceAdd, Nat.zero_add, Bool.not_not, true_and, and_true, if_true, if_false, ↓reduceIte, eq_self, Value.int.injEq, Value.long.injEq, exists_eq_left', ik_b1, ik_b0, ik_bz0, ik_bz3, ik_bz3_1, ik_bz3_0, ik_cmp, ik_cmpL, ik_eI, ik_eL, ik_as, ik_i0, ik_i1, decide_eq_true_eq, decide_eq_false_iff_not, decide_true, decide_false, Bool.not_true, Bool.not_false, reduceCtorEq, forall_const, false_implies, true_implies, implies_true, true_and, and_true, and_self, false_and, and_false, Bool.and_true, Bool.true_and, not_true_eq_false, not_false_eq_true, if_true, if_false, ite_true, ite_false, ik_bz3_0, ik_bz3_1, ik_bz0, i64_n20, i64_n1, l64_0, l64_1, l64_2, l64_3, l64_7, l64_12, l64_19, l64_20, l64_23, l64_24, l64_26, l64_29, l64_40, l64_50, l64_60, l64_63, l64_100, l64_160, l64_199, l64_255, l64_1000, l64_3000, l64_5000, l64_9999, l64_m1, l64_m20, exists_eq', w_lies, c1, c2, mS, s6, c3]
  · refine ⟨.int (-1), x, m, eq_of_wF ?_, eq_of_wF ?_, hR0⟩
    · unfold fX11_sheet
      simp (decide := true) only [wE_lit, wL_lit, wE_loc, wL_loc, wE_add, wE_sub, wE_mul, wE_and, wE_or, wE_xor, wE_shl, wE_shr, wE_ushr, wE_div, wE_rem, wE_neg, wE_i2b, wE_l2i, wL_i2l, wL_add, wL_mul, wE_fld, wL_fld, wE_arr, wL_arr, wC_cmp, wC_cmp0, wC_cmpL, wC_and, wC_or, wC_not, wC_ite, wL_ite, wA_nil, wA_int, wA_long, wE_call, wL_call, wS_skip, wS_seq, wS_set, wS_setL, wS_inc, wS_if, wS_put, wS_putL, wS_putOp, wS_putOpL, wS_ast, wS_astL, wS_aop, wS_aopL, wS_ret, wS_retL, wS_retV, wS_do, wS_pop, wS_dead, wS_sw, wF_body, Nat.reduceAdd, Nat.zero_add, Bool.not_not, true_and, and_true, if_true, if_false, ↓reduceIte, eq_self, Value.int.injEq, Value.long.injEq, exists_eq_left', ik_b1, ik_b0, ik_bz0, ik_bz3, ik_bz3_1, ik_bz3_0, ik_cmp, ik_cmpL, ik_eI, ik_eL, ik_as, ik_i0, ik_i1, decide_eq_true_eq, decide_eq_false_iff_not, decide_true, decide_false, Bool.not_true, Bool.not_false, reduceCtorEq, forall_const, false_implies, true_implies, implies_true, true_and, and_true, and_self, false_and, and_false, Bool.and_true, Bool.true_and, not_true_eq_false, not_false_eq_true, if_true, if_false, ite_true, ite_false, ik_bz3_0, ik_bz3_1, ik_bz0, exists_eq', w_within, c1]
    · unfold fX12_sheet
      by_cases c3 : S = 6
      · simp (decide := true) only [wE_lit, wL_lit, wE_loc, wL_loc, wE_add, wE_sub, wE_mul, wE_and, wE_or, wE_xor, wE_shl, wE_shr, wE_ushr, wE_div, wE_rem, wE_neg, wE_i2b, wE_l2i, wL_i2l, wL_add, wL_mul, wE_fld, wL_fld, wE_arr, wL_arr, wC_cmp, wC_cmp0, wC_cmpL, wC_and, wC_or, wC_not, wC_ite, wL_ite, wA_nil, wA_int, wA_long, wE_call, wL_call, wS_skip, wS_seq, wS_set, wS_setL, wS_inc, wS_if, wS_put, wS_putL, wS_putOp, wS_putOpL, wS_ast, wS_astL, wS_aop, wS_aopL, wS_ret, wS_retL, wS_retV, wS_do, wS_pop, wS_dead, wS_sw, wF_body, Nat.reduceAdd, Nat.zero_add, Bool.not_not, true_and, and_true, if_true, if_false, ↓reduceIte, eq_self, Value.int.injEq, Value.long.injEq, exists_eq_left', ik_b1, ik_b0, ik_bz0, ik_bz3, ik_bz3_1, ik_bz3_0, ik_cmp, ik_cmpL, ik_eI, ik_eL, ik_as, ik_i0, ik_i1, decide_eq_true_eq, decide_eq_false_iff_not, decide_true, decide_false, Bool.not_true, Bool.not_false, reduceCtorEq, forall_const, false_implies, true_implies, implies_true, true_and, and_true, and_self, false_and, and_false, Bool.and_true, Bool.true_and, not_true_eq_false, not_false_eq_true, if_true, if_false, ite_true, ite_false, ik_bz3_0, ik_bz3_1, ik_bz0, i64_n20, i64_n1, l64_0, l64_1, l64_2, l64_3, l64_7, l64_12, l64_19, l64_20, l64_23, l64_24, l64_26, l64_29, l64_40, l64_50, l64_60, l64_63, l64_100, l64_160, l64_199, l64_255, l64_1000, l64_3000, l64_5000, l64_9999, l64_m1, l64_m20, exists_eq', w_lies, c1, mS, s6, c3]
      · simp (decide := true) only [wE_lit, wL_lit, wE_loc, wL_loc, wE_add, wE_sub, wE_mul, wE_and, wE_or, wE_xor, wE_shl, wE_shr, wE_ushr, wE_div, wE_rem, wE_neg, wE_i2b, wE_l2i, wL_i2l, wL_add, wL_mul, wE_fld, wL_fld, wE_arr, wL_arr, wC_cmp, wC_cmp0, wC_cmpL, wC_and, wC_or, wC_not, wC_ite, wL_ite, wA_nil, wA_int, wA_long, wE_call, wL_call, wS_skip, wS_seq, wS_set, wS_setL, wS_inc, wS_if, wS_put, wS_putL, wS_putOp, wS_putOpL, wS_ast, wS_astL, wS_aop, wS_aopL, wS_ret, wS_retL, wS_retV, wS_do, wS_pop, wS_dead, wS_sw, wF_body, Nat.reduceAdd, Nat.zero_add, Bool.not_not, true_and, and_true, if_true, if_false, ↓reduceIte, eq_self, Value.int.injEq, Value.long.injEq, exists_eq_left', ik_b1, ik_b0, ik_bz0, ik_bz3, ik_bz3_1, ik_bz3_0, ik_cmp, ik_cmpL, ik_eI, ik_eL, ik_as, ik_i0, ik_i1, decide_eq_true_eq, decide_eq_false_iff_not, decide_true, decide_false, Bool.not_true, Bool.not_false, reduceCtorEq, forall_const, false_implies, true_implies, implies_true, true_and, and_true, and_self, false_and, and_false, Bool.and_true, Bool.true_and, not_true_eq_false, not_false_eq_true, if_true, if_false, ite_true, ite_false, ik_bz3_0, ik_bz3_1, ik_bz0, i64_n20, i64_n1, l64_0, l64_1, l64_2, l64_3, l64_7, l64_12, l64_19, l64_20, l64_23, l64_24, l64_26, l64_29, l64_40, l64_50, l64_60, l64_63, l64_100, l64_160, l64_199, l64_255, l64_1000, l64_3000, l64_5000, l64_9999, l64_m1, l64_m20, exists_eq', w_lies, c1, mS, s6, c3]
