theorem ik_nz_off (f : Nat → Int32) (s : Nat) (v : Int32) : ∀ {S : Nat}, S ≤ s → ik_nz (upd f s v) S = ik_nz f S
  | 0, _ => rfl
  | S + 1, h => by
    unfold ik_nz
    rw [ik_nz_off f s v (by omega), upd_off _ _ _ _ (by omega)]
theorem ik_nz_on (f : Nat → Int32) (s : Nat) (v : Int32) (h0 : f s = 0) (hv : v ≠ 0) : ∀ {S : Nat}, s < S → ik_nz (upd f s v) S = ik_nz f S + 1
  | 0, h => by omega
  | S + 1, h => by
    unfold ik_nz
    by_cases e : s = S
    · subst e
      rw [ik_nz_off f s v (Nat.le_refl _), upd_at, if_pos hv, if_neg (by simpa using h0)]
    · rw [ik_nz_on f s v h0 hv (S := S) (by omega), upd_off _ _ _ _ (by omega)]
      omega
theorem ik_nz_le (f : Nat → Int32) : ∀ S, ik_nz f S ≤ S
  | 0 => Nat.le_refl _
  | S + 1 => by
    unfold ik_nz
    have := ik_nz_le f S
    split <;> omega
theorem ik_any_congr {p q : Nat → Bool} : ∀ {n : Nat}, (∀ t, t < n → p t = q t) → ik_any p n = ik_any q n
  | 0, _ => rfl
  | n + 1, h => by
    unfold ik_any
    rw [ik_any_congr (n := n) (fun t ht => h t (by omega)), h n (by omega)]
theorem ik_any_off {p : Nat → Bool} : ∀ {n : Nat}, ik_any p n = false → ∀ t, t < n → p t = false
  | 0, _, t, h => by omega
  | n + 1, h, t, ht => by
    unfold ik_any at h
    rw [Bool.or_eq_false_iff] at h
    by_cases e : t = n
    · rw [e]; exact h.2
    · exact ik_any_off h.1 t (by omega)
theorem ik_nXM {m : GG} {n : Int32} {s S : Nat} (hS : S ≤ 6) (hs : s < S) (h0 : m.1 51 s = 0) (hp : ∀ t, t < S → 0 ≤ m.1 51 t) : ik_any (ik_nX m n s) S = ik_any (ik_nM m n s) S := by
  refine ik_any_congr fun t ht => ?_
  unfold ik_nX ik_nM
  have h1 := hp t ht
  have e1 : (nI t = nI s) ↔ t = s := nI_eq (by omega) (by omega)
  have e2 : (nI t < nI s) ↔ t < s := nI_ltI (by omega) (by omega)
  have e3 : (m.1 51 t = 0) ↔ (m.1 51 t).toInt = 0 := Int32.toInt_inj.symm
  have e4 : (m.1 51 t = n) ↔ (m.1 51 t).toInt = n.toInt := Int32.toInt_inj.symm
  rw [Int32.le_iff_toInt_le] at h1
  simp only [e1, e2, e3, e4, Int32.lt_iff_toInt_lt, Int32.le_iff_toInt_le]
  have z : (0 : Int32).toInt = 0 := rfl
  rw [z] at h1 ⊢
  by_cases d1 : t = s
  · subst d1
    rw [h0]
    simp [z]
  · by_cases d2 : t < s
    · by_cases c1 : (m.1 51 t).toInt = 0
      · simp [c1]
      · have c2 : 0 < (m.1 51 t).toInt := by omega
        by_cases c3 : n.toInt ≤ (m.1 51 t).toInt <;> by_cases c4 : (m.1 51 t).toInt = n.toInt <;> by_cases c5 : (m.1 51 t).toInt < n.toInt <;> by_cases c6 : n.toInt = 0 <;> by_cases c7 : 0 < n.toInt <;> first | omega | (simp (decide := true) [d1, d2, c1, c2, c3, c4, c5, c7]; done) | simp (decide := true) [d1, d2, c1, c2, c3, c4, c5, c6, c7]
    · by_cases c1 : (m.1 51 t).toInt = 0
      · simp [c1]
      · have c2 : 0 < (m.1 51 t).toInt := by omega
        by_cases c3 : (m.1 51 t).toInt ≤ n.toInt <;> by_cases c4 : (m.1 51 t).toInt = n.toInt <;> by_cases c5 : (m.1 51 t).toInt < n.toInt <;> by_cases c6 : n.toInt = 0 <;> by_cases c7 : 0 < n.toInt <;> first | omega | (simp (decide := true) [d1, d2, c1, c2, c3, c4, c5, c7]; done) | simp (decide := true) [d1, d2, c1, c2, c3, c4, c5, c6, c7]
theorem op_note (n a : Int32) (x m : GG) (h : Rel x m) : ∃ v x' m', fX11_note [.int n, .int a] x = some (v, x') ∧ fX12_note [.int n, .int a] m = some (v, m') ∧ Rel x' m' := by
  have h0 := h
  obtain ⟨N, B, S, hT, hL, hN, hB, hTi, hLi, hH, hC, ⟨n1, n2, n3, n4⟩, hS, hR, hQ⟩ := h
  have hS6 := hS.1
  have fS := w_sheetHas hS.2.1 hS.1
  have mS := w_isSheet (show S < 2 ^ 31 by omega) hS.2.2.1
  by_cases hc : (1 ≤ n ∧ n ≤ 40) ∧ isI a S
  · obtain ⟨c1, c2⟩ := hc
    obtain ⟨s, hs, rfl⟩ := isI_ex (by omega) c2
    have is := ik_ix_nI (show s < 6 by omega) (by omega)
    have fT := w_takesNote hS6 hS.2.1 (fun t ht => (n1 t ht).1) n s
    have hn0 : n ≠ 0 := by
      rintro rfl
      exact absurd c1.1 (by decide)
    -- the reference's loop
    have loop : ∀ (Q : Value → GG → Prop) (P : SS → Prop), m.1 51 s = 0 → (ik_any (ik_nM m n s) S = true → Q (.int 0) m) → (ik_any (ik_nM m n s) S = false → ∀ s1 s2, s1 1 = n → s1 2 = nI s → P (s1, s2, m)) → ∀ s1 s2, s1 1 = n → s1 2 = nI s → s1 3 = 0 → wS (sWh (sCmp 2 (sLoc 3) (sFld 0 4)) (sSeq (sIf (sAnd (sCmp0 4 (sArr 51 6 (sLoc 3))) (sOr (sCmp 0 (sArr 51 6 (sLoc 3)) (sLoc 1)) (sCmp 1 (sIte (sCmp 2 (sArr 51 6 (sLoc 3)) (sLoc 1)) (sLit 1) (sLit 0)) (sIte (sCmp 2 (sLoc 3) (sLoc 2)) (sLit 1) (sLit 0))))) (sRet 3 (sLit 0)) sSkip) (sInc 3 1)) ik_fuel) (s1, s2, m) P Q := by
      intro Q P z yes no s1 s2 k1 k2 k3
      refine wS_for _ _ (fun t σ => σ.1 3 = nI t ∧ σ.1 1 = n ∧ σ.1 2 = nI s ∧ (∀ q, q < t → ik_nM m n s q = false) ∧ σ.2.2 = m) 0 S _ ⟨by rw [nI_0]; exact k3, k1, k2, fun q hq => by omega, rfl⟩ (by omega) (by omega) ?_ ?_ ?_
      · rintro t ⟨s1, s2, s3⟩ h1 ⟨h2, h3, h4, h5, h6⟩
        simp only at h2 h3 h4 h5 h6
        subst h6
        exact wc_1 (by exact hS.2.2.1) (by omega) h1 h2
      · rintro t ⟨s1, s2, s3⟩ h1 ⟨h2, h3, h4, h5, h6⟩
        simp only at h2 h3 h4 h5 h6
        subst h6
        simp (decide := true) only [wE_lit, wL_lit, wE_loc, wL_loc, wE_add, wE_sub, wE_mul, wE_and, wE_or, wE_xor, wE_shl, wE_shr, wE_ushr, wE_div, wE_rem, wE_neg, wE_i2b, wE_l2i, wL_i2l, wL_add, wL_mul, wE_fld, wL_fld, wE_arr, wL_arr, wC_cmp, wC_cmp0, wC_cmpL, wC_and, wC_or, wC_not, wC_ite, wL_ite, wA_nil, wA_int, wA_long, wE_call, wL_call, wS_skip, wS_seq, wS_set, wS_setL, wS_inc, wS_if, wS_put, wS_putL, wS_putOp, wS_putOpL, wS_ast, wS_astL, wS_aop, wS_aopL, wS_ret, wS_retL, wS_retV, wS_do, wS_pop, wS_dead, wS_sw, wF_body, Nat.reduceAdd, Nat.zero_add, Bool.not_not, true_and, and_true, if_true, if_false, ↓reduceIte, eq_self, Value.int.injEq, Value.long.injEq, exists_eq_left', ik_b1, ik_b0, ik_bz0, ik_bz3, ik_bz3_1, ik_bz3_0, ik_cmp, ik_cmpL, ik_eI, ik_eL, ik_as, wE_ite2, h2, h3, h4, ik_ix_nI (show t < 6 by omega) (by omega), Option.some.injEq, upd_at, upd_off, nI_1, nI_add]
        by_cases d2 : s3.1 51 t = n
        · have d3 : ¬ n < n := Int32.lt_irrefl
          by_cases d1 : 0 < n <;> by_cases d4 : nI t < nI s <;> simp (decide := true) only [d2, d1, d3, d4, ik_i0, ik_i1, decide_eq_true_eq, decide_eq_false_iff_not, decide_true, decide_false, Bool.not_true, Bool.not_false, reduceCtorEq, forall_const, false_implies, true_implies, implies_true, true_and, and_true, and_self, false_and, and_false, Bool.and_true, Bool.true_and, not_true_eq_false, not_false_eq_true, if_true, if_false, ite_true, ite_false, ik_bz3_0, ik_bz3_1, ik_bz0, upd_at, upd_off, h2, h3, h4, nI_1, nI_add] <;> first | exact yes (ik_any_yes h1 (by unfold ik_nM; simp (decide := true) only [d1, d2, d3, d4, ik_i0, ik_i1, decide_eq_true_eq, decide_eq_false_iff_not, decide_true, decide_false, Bool.not_true, Bool.not_false, reduceCtorEq, forall_const, false_implies, true_implies, implies_true, true_and, and_true, and_self, false_and, and_false, Bool.and_true, Bool.true_and, not_true_eq_false, not_false_eq_true, if_true, if_false, ite_true, ite_false, ik_bz3_0, ik_bz3_1, ik_bz0, Bool.false_or, Bool.true_or, Bool.or_false])) | (intro q hq; by_cases e : q = t; (subst e; unfold ik_nM; simp (decide := true) only [d1, d2, d3, d4, ik_i0, ik_i1, decide_eq_true_eq, decide_eq_false_iff_not, decide_true, decide_false, Bool.not_true, Bool.not_false, reduceCtorEq, forall_const, false_implies, true_implies, implies_true, true_and, and_true, and_self, false_and, and_false, Bool.and_true, Bool.true_and, not_true_eq_false, not_false_eq_true, if_true, if_false, ite_true, ite_false, ik_bz3_0, ik_bz3_1, ik_bz0, Bool.false_or, Bool.true_or, Bool.or_false, Bool.false_and]); exact h5 q (by omega)) | skip
        · by_cases d1 : 0 < s3.1 51 t <;> by_cases d3 : s3.1 51 t < n <;> by_cases d4 : nI t < nI s <;> simp (decide := true) only [d1, d2, d3, d4, ik_i0, ik_i1, decide_eq_true_eq, decide_eq_false_iff_not, decide_true, decide_false, Bool.not_true, Bool.not_false, reduceCtorEq, forall_const, false_implies, true_implies, implies_true, true_and, and_true, and_self, false_and, and_false, Bool.and_true, Bool.true_and, not_true_eq_false, not_false_eq_true, if_true, if_false, ite_true, ite_false, ik_bz3_0, ik_bz3_1, ik_bz0, upd_at, upd_off, h2, h3, h4, nI_1, nI_add] <;> first | exact yes (ik_any_yes h1 (by unfold ik_nM; simp (decide := true) only [d1, d2, d3, d4, ik_i0, ik_i1, decide_eq_true_eq, decide_eq_false_iff_not, decide_true, decide_false, Bool.not_true, Bool.not_false, reduceCtorEq, forall_const, false_implies, true_implies, implies_true, true_and, and_true, and_self, false_and, and_false, Bool.and_true, Bool.true_and, not_true_eq_false, not_false_eq_true, if_true, if_false, ite_true, ite_false, ik_bz3_0, ik_bz3_1, ik_bz0, Bool.false_or, Bool.true_or, Bool.or_false])) | (intro q hq; by_cases e : q = t; (subst e; unfold ik_nM; simp (decide := true) only [d1, d2, d3, d4, ik_i0, ik_i1, decide_eq_true_eq, decide_eq_false_iff_not, decide_true, decide_false, Bool.not_true, Bool.not_false, reduceCtorEq, forall_const, false_implies, true_implies, implies_true, true_and, and_true, and_self, false_and, and_false, Bool.and_true, Bool.true_and, not_true_eq_false, not_false_eq_true, if_true, if_false, ite_true, ite_false, ik_bz3_0, ik_bz3_1, ik_bz0, Bool.false_or, Bool.true_or, Bool.or_false, Bool.false_and]); exact h5 q (by omega)) | skip
      · rintro ⟨s1, s2, s3⟩ ⟨h2, h3, h4, h5, h6⟩
        simp only at h2 h3 h4 h5 h6
        subst h6
        exact no (ik_any_no h5) s1 s2 h3 h4
    by_cases c3 : m.1 51 s = 0
    · have e := ik_nXM (n := n) hS6 hs c3 (fun t ht => (n1 t ht).2.1)
      have c3' : ¬ 0 < m.1 51 s := by rw [c3]; decide
      cases c4 : ik_any (ik_nM m n s) S
      · have e1 : ik_any (ik_nX m n s) S = false := by rw [e, c4]
        refine ⟨.int 1, ik_si x 34 s n, ik_si (ik_si m 51 s n) 0 10 (nI (ik_nz (m.1 51) S + 1)), eq_of_wF ?_, eq_of_wF ?_, N, B, S, by simpa [ik_si] using hT, by simpa [ik_si] using hL, hN.frk ?_ ?_, hB.frk ?_ ?_, hTi.frk ?_ ?_, hLi.frk ?_ ?_, hH.frk ?_ ?_, hC.frk ?_ ?_, ?_, hS.frk ?_ ?_, hR.fr ?_ ?_, hQ.fr (by simp [ik_si]) ?_ ?_⟩
        any_goals (solve | (rw [ik_cut_si rfl]) | (rw [ik_cut_si rfl, ik_cut_si rfl]) | (rw [ik_cut_si rfl, ik_cut_si rfl, ik_cut_si rfl]) | (rw [ik_cut_si rfl, ik_cut_si rfl, ik_cut_si rfl, ik_cut_si rfl]) | (rw [ik_cut_si rfl, ik_cut_si rfl, ik_cut_si rfl, ik_cut_si rfl, ik_cut_si rfl]) | (rw [ik_cut_si rfl, ik_cut_si rfl, ik_cut_si rfl, ik_cut_si rfl, ik_cut_si rfl, ik_cut_si rfl]) | (rw [ik_cut_si rfl, ik_cut_si rfl, ik_cut_si rfl, ik_cut_si rfl, ik_cut_si rfl, ik_cut_si rfl, ik_cut_si rfl]))
        · unfold fX11_note
          have ea : fX8_addNote [.int n, .int (nI s)] x = some (.null, ik_si x 34 s n) := by
            apply eq_of_wF
            unfold fX8_addNote
            simp (decide := true) only [wE_lit, wL_lit, wE_loc, wL_loc, wE_add, wE_sub, wE_mul, wE_and, wE_or, wE_xor, wE_shl, wE_shr, wE_ushr, wE_div, wE_rem, wE_neg, wE_i2b, wE_l2i, wL_i2l, wL_add, wL_mul, wE_fld, wL_fld, wE_arr, wL_arr, wC_cmp, wC_cmp0, wC_cmpL, wC_and, wC_or, wC_not, wC_ite, wL_ite, wA_nil, wA_int, wA_long, wE_call, wL_call, wS_skip, wS_seq, wS_set, wS_setL, wS_inc, wS_if, wS_put, wS_putL, wS_putOp, wS_putOpL, wS_ast, wS_astL, wS_aop, wS_aopL, wS_ret, wS_retL, wS_retV, wS_do, wS_pop, wS_dead, wS_sw, wF_body, Nat.reduceAdd, Nat.zero_add, Bool.not_not, true_and, and_true, if_true, if_false, ↓reduceIte, eq_self, Value.int.injEq, Value.long.injEq, exists_eq_left', ik_b1, ik_b0, ik_bz0, ik_bz3, ik_bz3_1, ik_bz3_0, ik_cmp, ik_cmpL, ik_eI, ik_eL, ik_as, ik_i0, ik_i1, decide_eq_true_eq, decide_eq_false_iff_not, decide_true, decide_false, Bool.not_true, Bool.not_false, reduceCtorEq, forall_const, false_implies, true_implies, implies_true, true_and, and_true, and_self, false_and, and_false, Bool.and_true, Bool.true_and, not_true_eq_false, not_false_eq_true, if_true, if_false, ite_true, ite_false, ik_bz3_0, ik_bz3_1, ik_bz0, fS, is, isI, c2, Option.some.injEq]
          simp (decide := true) only [wE_lit, wL_lit, wE_loc, wL_loc, wE_add, wE_sub, wE_mul, wE_and, wE_or, wE_xor, wE_shl, wE_shr, wE_ushr, wE_div, wE_rem, wE_neg, wE_i2b, wE_l2i, wL_i2l, wL_add, wL_mul, wE_fld, wL_fld, wE_arr, wL_arr, wC_cmp, wC_cmp0, wC_cmpL, wC_and, wC_or, wC_not, wC_ite, wL_ite, wA_nil, wA_int, wA_long, wE_call, wL_call, wS_skip, wS_seq, wS_set, wS_setL, wS_inc, wS_if, wS_put, wS_putL, wS_putOp, wS_putOpL, wS_ast, wS_astL, wS_aop, wS_aopL, wS_ret, wS_retL, wS_retV, wS_do, wS_pop, wS_dead, wS_sw, wF_body, Nat.reduceAdd, Nat.zero_add, Bool.not_not, true_and, and_true, if_true, if_false, ↓reduceIte, eq_self, Value.int.injEq, Value.long.injEq, exists_eq_left', ik_b1, ik_b0, ik_bz0, ik_bz3, ik_bz3_1, ik_bz3_0, ik_cmp, ik_cmpL, ik_eI, ik_eL, ik_as, ik_i0, ik_i1, decide_eq_true_eq, decide_eq_false_iff_not, decide_true, decide_false, Bool.not_true, Bool.not_false, reduceCtorEq, forall_const, false_implies, true_implies, implies_true, true_and, and_true, and_self, false_and, and_false, Bool.and_true, Bool.true_and, not_true_eq_false, not_false_eq_true, if_true, if_false, ite_true, ite_false, ik_bz3_0, ik_bz3_1, ik_bz0, w_within, fS, fT, wF_eq ea, e1, c1, isI, c2]
        · unfold fX12_note
          simp (decide := true) only [wE_lit, wL_lit, wE_loc, wL_loc, wE_add, wE_sub, wE_mul, wE_and, wE_or, wE_xor, wE_shl, wE_shr, wE_ushr, wE_div, wE_rem, wE_neg, wE_i2b, wE_l2i, wL_i2l, wL_add, wL_mul, wE_fld, wL_fld, wE_arr, wL_arr, wC_cmp, wC_cmp0, wC_cmpL, wC_and, wC_or, wC_not, wC_ite, wL_ite, wA_nil, wA_int, wA_long, wE_call, wL_call, wS_skip, wS_seq, wS_set, wS_setL, wS_inc, wS_if, wS_put, wS_putL, wS_putOp, wS_putOpL, wS_ast, wS_astL, wS_aop, wS_aopL, wS_ret, wS_retL, wS_retV, wS_do, wS_pop, wS_dead, wS_sw, wF_body, Nat.reduceAdd, Nat.zero_add, Bool.not_not, true_and, and_true, if_true, if_false, ↓reduceIte, eq_self, Value.int.injEq, Value.long.injEq, exists_eq_left', ik_b1, ik_b0, ik_bz0, ik_bz3, ik_bz3_1, ik_bz3_0, ik_cmp, ik_cmpL, ik_eI, ik_eL, ik_as, ik_i0, ik_i1, decide_eq_true_eq, decide_eq_false_iff_not, decide_true, decide_false, Bool.not_true, Bool.not_false, reduceCtorEq, forall_const, false_implies, true_implies, implies_true, true_and, and_true, and_self, false_and, and_false, Bool.and_true, Bool.true_and, not_true_eq_false, not_false_eq_true, if_true, if_false, ite_true, ite_false, ik_bz3_0, ik_bz3_1, ik_bz0, i64_n20, i64_n1, l64_0, l64_1, l64_2, l64_3, l64_7, l64_12, l64_19, l64_20, l64_23, l64_24, l64_26, l64_29, l64_40, l64_50, l64_60, l64_63, l64_100, l64_160, l64_199, l64_255, l64_1000, l64_3000, l64_5000, l64_9999, l64_m1, l64_m20, w_lies, mS, is, Option.some.injEq, c1, isI, c2, c3']
          refine loop _ _ c3 (fun h => absurd h (by rw [c4]; decide)) (fun _ s1 s2 k1 k2 => ?_) _ _ (by simp [upd, ik_eI]) (by simp [upd, ik_eI]) (by simp [upd])
          simp (decide := true) only [wE_lit, wL_lit, wE_loc, wL_loc, wE_add, wE_sub, wE_mul, wE_and, wE_or, wE_xor, wE_shl, wE_shr, wE_ushr, wE_div, wE_rem, wE_neg, wE_i2b, wE_l2i, wL_i2l, wL_add, wL_mul, wE_fld, wL_fld, wE_arr, wL_arr, wC_cmp, wC_cmp0, wC_cmpL, wC_and, wC_or, wC_not, wC_ite, wL_ite, wA_nil, wA_int, wA_long, wE_call, wL_call, wS_skip, wS_seq, wS_set, wS_setL, wS_inc, wS_if, wS_put, wS_putL, wS_putOp, wS_putOpL, wS_ast, wS_astL, wS_aop, wS_aopL, wS_ret, wS_retL, wS_retV, wS_do, wS_pop, wS_dead, wS_sw, wF_body, Nat.reduceAdd, Nat.zero_add, Bool.not_not, true_and, and_true, if_true, if_false, ↓reduceIte, eq_self, Value.int.injEq, Value.long.injEq, exists_eq_left', ik_b1, ik_b0, ik_bz0, ik_bz3, ik_bz3_1, ik_bz3_0, ik_cmp, ik_cmpL, ik_eI, ik_eL, ik_as, ik_i0, ik_i1, decide_eq_true_eq, decide_eq_false_iff_not, decide_true, decide_false, Bool.not_true, Bool.not_false, reduceCtorEq, forall_const, false_implies, true_implies, implies_true, true_and, and_true, and_self, false_and, and_false, Bool.and_true, Bool.true_and, not_true_eq_false, not_false_eq_true, if_true, if_false, ite_true, ite_false, ik_bz3_0, ik_bz3_1, ik_bz0, k1, k2, is, Option.some.injEq, ik_si_row, ik_si_ne, n4, ik_bo, nI_1, nI_add]
        · have n4' := n4
          refine ⟨fun t ht => ?_, fun t h1 h2 => ?_, fun t u htu hu => ?_, ?_⟩
          · by_cases e : t = s
            · subst e
              simp only [ik_si]
              simp
              exact ⟨Int32.le_trans (by decide) c1.1, c1.2⟩
            · have := n1 t ht
              simpa [ik_si, e] using this
          · have e : t ≠ s := by omega
            have := n2 t h1 h2
            simpa [ik_si, e] using this
          · have q1 := ik_any_off e1 t (by omega)
            have q2 := ik_any_off e1 u hu
            unfold ik_nX at q1 q2
            by_cases e : t = s
            · subst e
              have e2 : u ≠ t := by omega
              have e3 : ¬ nI u = nI t := by rw [nI_eq (by omega) (by omega)]; omega
              have e4 : ¬ nI u < nI t := by rw [nI_ltI (by omega) (by omega)]; omega
              simp (decide := true) only [e3, e4, ik_i0, ik_i1, decide_eq_true_eq, decide_eq_false_iff_not, decide_true, decide_false, Bool.not_true, Bool.not_false, reduceCtorEq, forall_const, false_implies, true_implies, implies_true, true_and, and_true, and_self, false_and, and_false, Bool.and_true, Bool.true_and, not_true_eq_false, not_false_eq_true, if_true, if_false, ite_true, ite_false, ik_bz3_0, ik_bz3_1, ik_bz0, Bool.false_or] at q2
              simp [ik_si, e2]
              intro _ h2
              simp [h2] at q2
              exact q2
            · by_cases e2 : u = s
              · subst e2
                have e3 : ¬ nI t = nI u := by rw [nI_eq (by omega) (by omega)]; omega
                have e4 : nI t < nI u := nI_lt htu (by omega)
                simp (decide := true) only [e3, e4, ik_i0, ik_i1, decide_eq_true_eq, decide_eq_false_iff_not, decide_true, decide_false, Bool.not_true, Bool.not_false, reduceCtorEq, forall_const, false_implies, true_implies, implies_true, true_and, and_true, and_self, false_and, and_false, Bool.and_true, Bool.true_and, not_true_eq_false, not_false_eq_true, if_true, if_false, ite_true, ite_false, ik_bz3_0, ik_bz3_1, ik_bz0, Bool.false_or] at q1
                simp [ik_si, e]
                intro h2 _
                simp [h2] at q1
                exact q1
              · have := n3 t u htu hu
                simpa [ik_si, e, e2] using this
          · have e2 : (ik_si (ik_si m 51 s n) 0 10 (nI (ik_nz (m.1 51) S + 1))).1 51 = upd (m.1 51) s n := by
              funext k
              simp [ik_si, upd]
            rw [e2, ik_nz_on _ _ _ c3 hn0 hs]
            simp [ik_si]
      · have e1 : ik_any (ik_nX m n s) S = true := by rw [e, c4]
        refine ⟨.int 0, x, m, eq_of_wF ?_, eq_of_wF ?_, h0⟩
        · unfold fX11_note
          simp (decide := true) only [wE_lit, wL_lit, wE_loc, wL_loc, wE_add, wE_sub, wE_mul, wE_and, wE_or, wE_xor, wE_shl, wE_shr, wE_ushr, wE_div, wE_rem, wE_neg, wE_i2b, wE_l2i, wL_i2l, wL_add, wL_mul, wE_fld, wL_fld, wE_arr, wL_arr, wC_cmp, wC_cmp0, wC_cmpL, wC_and, wC_or, wC_not, wC_ite, wL_ite, wA_nil, wA_int, wA_long, wE_call, wL_call, wS_skip, wS_seq, wS_set, wS_setL, wS_inc, wS_if, wS_put, wS_putL, wS_putOp, wS_putOpL, wS_ast, wS_astL, wS_aop, wS_aopL, wS_ret, wS_retL, wS_retV, wS_do, wS_pop, wS_dead, wS_sw, wF_body, Nat.reduceAdd, Nat.zero_add, Bool.not_not, true_and, and_true, if_true, if_false, ↓reduceIte, eq_self, Value.int.injEq, Value.long.injEq, exists_eq_left', ik_b1, ik_b0, ik_bz0, ik_bz3, ik_bz3_1, ik_bz3_0, ik_cmp, ik_cmpL, ik_eI, ik_eL, ik_as, ik_i0, ik_i1, decide_eq_true_eq, decide_eq_false_iff_not, decide_true, decide_false, Bool.not_true, Bool.not_false, reduceCtorEq, forall_const, false_implies, true_implies, implies_true, true_and, and_true, and_self, false_and, and_false, Bool.and_true, Bool.true_and, not_true_eq_false, not_false_eq_true, if_true, if_false, ite_true, ite_false, ik_bz3_0, ik_bz3_1, ik_bz0, w_within, fS, fT, e1, c1, isI, c2, exists_eq']
        · unfold fX12_note
          simp (decide := true) only [wE_lit, wL_lit, wE_loc, wL_loc, wE_add, wE_sub, wE_mul, wE_and, wE_or, wE_xor, wE_shl, wE_shr, wE_ushr, wE_div, wE_rem, wE_neg, wE_i2b, wE_l2i, wL_i2l, wL_add, wL_mul, wE_fld, wL_fld, wE_arr, wL_arr, wC_cmp, wC_cmp0, wC_cmpL, wC_and, wC_or, wC_not, wC_ite, wL_ite, wA_nil, wA_int, wA_long, wE_call, wL_call, wS_skip, wS_seq, wS_set, wS_setL, wS_inc, wS_if, wS_put, wS_putL, wS_putOp, wS_putOpL, wS_ast, wS_astL, wS_aop, wS_aopL, wS_ret, wS_retL, wS_retV, wS_do, wS_pop, wS_dead, wS_sw, wF_body, Nat.reduceAdd, Nat.zero_add, Bool.not_not, true_and, and_true, if_true, if_false, ↓reduceIte, eq_self, Value.int.injEq, Value.long.injEq, exists_eq_left', ik_b1, ik_b0, ik_bz0, ik_bz3, ik_bz3_1, ik_bz3_0, ik_cmp, ik_cmpL, ik_eI, ik_eL, ik_as, ik_i0, ik_i1, decide_eq_true_eq, decide_eq_false_iff_not, decide_true, decide_false, Bool.not_true, Bool.not_false, reduceCtorEq, forall_const, false_implies, true_implies, implies_true, true_and, and_true, and_self, false_and, and_false, Bool.and_true, Bool.true_and, not_true_eq_false, not_false_eq_true, if_true, if_false, ite_true, ite_false, ik_bz3_0, ik_bz3_1, ik_bz0, i64_n20, i64_n1, l64_0, l64_1, l64_2, l64_3, l64_7, l64_12, l64_19, l64_20, l64_23, l64_24, l64_26, l64_29, l64_40, l64_50, l64_60, l64_63, l64_100, l64_160, l64_199, l64_255, l64_1000, l64_3000, l64_5000, l64_9999, l64_m1, l64_m20, w_lies, mS, is, Option.some.injEq, c1, isI, c2, c3']
          refine loop _ _ c3 (fun _ => ⟨rfl, rfl⟩) (fun h => absurd h (by rw [c4]; decide)) _ _ (by simp [upd, ik_eI]) (by simp [upd, ik_eI]) (by simp [upd])
    · have c3' : 0 < m.1 51 s := by
        have h1 := (n1 s hs).2.1
        have e3 : ¬ (m.1 51 s).toInt = 0 := fun h => c3 (Int32.toInt_inj.mp h)
        rw [Int32.le_iff_toInt_le] at h1
        rw [Int32.lt_iff_toInt_lt]
        have z : (0 : Int32).toInt = 0 := rfl
        omega
      have e1 : ik_any (ik_nX m n s) S = true := ik_any_yes hs (by unfold ik_nX; simp [c3])
      refine ⟨.int 0, x, m, eq_of_wF ?_, eq_of_wF ?_, h0⟩
      · unfold fX11_note
        simp (decide := true) only [wE_lit, wL_lit, wE_loc, wL_loc, wE_add, wE_sub, wE_mul, wE_and, wE_or, wE_xor, wE_shl, wE_shr, wE_ushr, wE_div, wE_rem, wE_neg, wE_i2b, wE_l2i, wL_i2l, wL_add, wL_mul, wE_fld, wL_fld, wE_arr, wL_arr, wC_cmp, wC_cmp0, wC_cmpL, wC_and, wC_or, wC_not, wC_ite, wL_ite, wA_nil, wA_int, wA_long, wE_call, wL_call, wS_skip, wS_seq, wS_set, wS_setL, wS_inc, wS_if, wS_put, wS_putL, wS_putOp, wS_putOpL, wS_ast, wS_astL, wS_aop, wS_aopL, wS_ret, wS_retL, wS_retV, wS_do, wS_pop, wS_dead, wS_sw, wF_body, Nat.reduceAdd, Nat.zero_add, Bool.not_not, true_and, and_true, if_true, if_false, ↓reduceIte, eq_self, Value.int.injEq, Value.long.injEq, exists_eq_left', ik_b1, ik_b0, ik_bz0, ik_bz3, ik_bz3_1, ik_bz3_0, ik_cmp, ik_cmpL, ik_eI, ik_eL, ik_as, ik_i0, ik_i1, decide_eq_true_eq, decide_eq_false_iff_not, decide_true, decide_false, Bool.not_true, Bool.not_false, reduceCtorEq, forall_const, false_implies, true_implies, implies_true, true_and, and_true, and_self, false_and, and_false, Bool.and_true, Bool.true_and, not_true_eq_false, not_false_eq_true, if_true, if_false, ite_true, ite_false, ik_bz3_0, ik_bz3_1, ik_bz0, w_within, fS, fT, e1, c1, isI, c2, exists_eq']
      · unfold fX12_note
        simp (decide := true) only [wE_lit, wL_lit, wE_loc, wL_loc, wE_add, wE_sub, wE_mul, wE_and, wE_or, wE_xor, wE_shl, wE_shr, wE_ushr, wE_div, wE_rem, wE_neg, wE_i2b, wE_l2i, wL_i2l, wL_add, wL_mul, wE_fld, wL_fld, wE_arr, wL_arr, wC_cmp, wC_cmp0, wC_cmpL, wC_and, wC_or, wC_not, wC_ite, wL_ite, wA_nil, wA_int, wA_long, wE_call, wL_call, wS_skip, wS_seq, wS_set, wS_setL, wS_inc, wS_if, wS_put, wS_putL, wS_putOp, wS_putOpL, wS_ast, wS_astL, wS_aop, wS_aopL, wS_ret, wS_retL, wS_retV, wS_do, wS_pop, wS_dead, wS_sw, wF_body, Nat.reduceAdd, Nat.zero_add, Bool.not_not, true_and, and_true, if_true, if_false, ↓reduceIte, eq_self, Value.int.injEq, Value.long.injEq, exists_eq_left', ik_b1, ik_b0, ik_bz0, ik_bz3, ik_bz3_1, ik_bz3_0, ik_cmp, ik_cmpL, ik_eI, ik_eL, ik_as, ik_i0, ik_i1, decide_eq_true_eq, decide_eq_false_iff_not, decide_true, decide_false, Bool.not_true, Bool.not_false, reduceCtorEq, forall_const, false_implies, true_implies, implies_true, true_and, and_true, and_self, false_and, and_false, Bool.and_true, Bool.true_and, not_true_eq_false, not_false_eq_true, if_true, if_false, ite_true, ite_false, ik_bz3_0, ik_bz3_1, ik_bz0, i64_n20, i64_n1, l64_0, l64_1, l64_2, l64_3, l64_7, l64_12, l64_19, l64_20, l64_23, l64_24, l64_26, l64_29, l64_40, l64_50, l64_60, l64_63, l64_100, l64_160, l64_199, l64_255, l64_1000, l64_3000, l64_5000, l64_9999, l64_m1, l64_m20, w_lies, mS, is, Option.some.injEq, c1, isI, c2, c3', exists_eq']
  · refine ⟨.int 0, x, m, eq_of_wF ?_, eq_of_wF ?_, h0⟩
    · unfold fX11_note
      simp (decide := true) only [wE_lit, wL_lit, wE_loc, wL_loc, wE_add, wE_sub, wE_mul, wE_and, wE_or, wE_xor, wE_shl, wE_shr, wE_ushr, wE_div, wE_rem, wE_neg, wE_i2b, wE_l2i, wL_i2l, wL_add, wL_mul, wE_fld, wL_fld, wE_arr, wL_arr, wC_cmp, wC_cmp0, wC_cmpL, wC_and, wC_or, wC_not, wC_ite, wL_ite, wA_nil, wA_int, wA_long, wE_call, wL_call, wS_skip, wS_seq, wS_set, wS_setL, wS_inc, wS_if, wS_put, wS_putL, wS_putOp, wS_putOpL, wS_ast, wS_astL, wS_aop, wS_aopL, wS_ret, wS_retL, wS_retV, wS_do, wS_pop, wS_dead, wS_sw, wF_body, Nat.reduceAdd, Nat.zero_add, Bool.not_not, true_and, and_true, if_true, if_false, ↓reduceIte, eq_self, Value.int.injEq, Value.long.injEq, exists_eq_left', ik_b1, ik_b0, ik_bz0, ik_bz3, ik_bz3_1, ik_bz3_0, ik_cmp, ik_cmpL, ik_eI, ik_eL, ik_as, w_within, fS]
      by_cases h1 : 1 ≤ n ∧ n ≤ 40 <;> by_cases h2 : isI a S <;> first | exact absurd (And.intro h1 h2) hc | (simp (decide := true) only [isI] at h2 ⊢; simp (decide := true) only [h1, h2, ik_i0, ik_i1, decide_eq_true_eq, decide_eq_false_iff_not, decide_true, decide_false, Bool.not_true, Bool.not_false, reduceCtorEq, forall_const, false_implies, true_implies, implies_true, true_and, and_true, and_self, false_and, and_false, Bool.and_true, Bool.true_and, not_true_eq_false, not_false_eq_true, if_true, if_false, ite_true, ite_false, ik_bz3_0, ik_bz3_1, ik_bz0])
    · unfold fX12_note
      simp (decide := true) only [wE_lit, wL_lit, wE_loc, wL_loc, wE_add, wE_sub, wE_mul, wE_and, wE_or, wE_xor, wE_shl, wE_shr, wE_ushr, wE_div, wE_rem, wE_neg, wE_i2b, wE_l2i, wL_i2l, wL_add, wL_mul, wE_fld, wL_fld, wE_arr, wL_arr, wC_cmp, wC_cmp0, wC_cmpL, wC_and, wC_or, wC_not, wC_ite, wL_ite, wA_nil, wA_int, wA_long, wE_call, wL_call, wS_skip, wS_seq, wS_set, wS_setL, wS_inc, wS_if, wS_put, wS_putL, wS_putOp, wS_putOpL, wS_ast, wS_astL, wS_aop, wS_aopL, wS_ret, wS_retL, wS_retV, wS_do, wS_pop, wS_dead, wS_sw, wF_body, Nat.reduceAdd, Nat.zero_add, Bool.not_not, true_and, and_true, if_true, if_false, ↓reduceIte, eq_self, Value.int.injEq, Value.long.injEq, exists_eq_left', ik_b1, ik_b0, ik_bz0, ik_bz3, ik_bz3_1, ik_bz3_0, ik_cmp, ik_cmpL, ik_eI, ik_eL, ik_as, i64_n20, i64_n1, l64_0, l64_1, l64_2, l64_3, l64_7, l64_12, l64_19, l64_20, l64_23, l64_24, l64_26, l64_29, l64_40, l64_50, l64_60, l64_63, l64_100, l64_160, l64_199, l64_255, l64_1000, l64_3000, l64_5000, l64_9999, l64_m1, l64_m20, w_lies, mS]
      by_cases h1 : 1 ≤ n ∧ n ≤ 40 <;> by_cases h2 : isI a S <;> first | exact absurd (And.intro h1 h2) hc | (simp (decide := true) only [isI] at h2 ⊢; simp (decide := true) only [h1, h2, ik_i0, ik_i1, decide_eq_true_eq, decide_eq_false_iff_not, decide_true, decide_false, Bool.not_true, Bool.not_false, reduceCtorEq, forall_const, false_implies, true_implies, implies_true, true_and, and_true, and_self, false_and, and_false, Bool.and_true, Bool.true_and, not_true_eq_false, not_false_eq_true, if_true, if_false, ite_true, ite_false, ik_bz3_0, ik_bz3_1, ik_bz0])
