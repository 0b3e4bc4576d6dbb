/-! the reference sets a sheet in lines -/
theorem bgc_t {p : Nat → Bool} {t : Nat} (h : p t = true) : bgc p (t + 1) = bgc p t + 1 := by show bgc p t + _ = _; rw [if_pos h]
theorem bgc_f {p : Nat → Bool} {t : Nat} (h : p t = false) : bgc p (t + 1) = bgc p t := by show bgc p t + _ = _; rw [if_neg (by rw [h]; decide)]; rfl
theorem w_setsM {x m g : GG} {N B S s n : Nat} {u : Nat → Nat} (h : rE x m N B S) (hm : eqM m g) (hu : ∀ k, k < B → u k < N ∧ g.1 20 k = nI (u k)) (hs : s < S) (e : m.1 14 s = nI n) (hn : n ≤ 24) : wF fX12_sets [.int (nI s)] g (fun v g' => v = .null ∧ eqM m g' ∧ eqV g g' ∧ g'.1 0 34 = nI (bgc (bgS m u s) n) ∧ ∀ t, t < n → bgS m u s t = true → g'.1 21 (bgc (bgS m u s) t) = nI t) := by
  have hS := h.2.2.2.2.2.2.2.2.2.1
  have hS6 := hS.1
  unfold fX12_sets
  simp (decide := true) only [wE_lit, wL_lit, wE_loc, wL_loc, wE_add, wE_sub, wE_mul, wE_and, wE_or, wE_xor, wE_shl, wE_shr, wE_ushr, wE_div, wE_rem, wE_neg, wE_i2b, wE_l2i, wL_i2l, wL_add, wL_mul, wE_fld, wL_fld, wE_arr, wL_arr, wC_cmp, wC_cmp0, wC_cmpL, wC_and, wC_or, wC_not, wC_ite, wL_ite, wA_nil, wA_int, wA_long, wE_call, wL_call, wS_skip, wS_seq, wS_set, wS_setL, wS_inc, wS_if, wS_put, wS_putL, wS_putOp, wS_putOpL, wS_ast, wS_astL, wS_aop, wS_aopL, wS_ret, wS_retL, wS_retV, wS_do, wS_pop, wS_dead, wS_sw, wF_body, Nat.reduceAdd, Nat.zero_add, Bool.not_not, true_and, and_true, if_true, if_false, ↓reduceIte, eq_self, Value.int.injEq, Value.long.injEq, exists_eq_left', ik_b1, ik_b0, ik_bz0, ik_bz3, ik_bz3_1, ik_bz3_0, ik_cmp, ik_cmpL, ik_eI, ik_eL, ik_as, ik_i0, ik_i1, decide_eq_true_eq, decide_eq_false_iff_not, decide_true, decide_false, Bool.not_true, Bool.not_false, reduceCtorEq, forall_const, false_implies, true_implies, implies_true, true_and, and_true, and_self, false_and, and_false, Bool.and_true, Bool.true_and, not_true_eq_false, not_false_eq_true, if_true, if_false, ite_true, ite_false, ik_bz3_0, ik_bz3_1, ik_bz0, upd_at, upd_off]
  refine wS_for _ _ (fun t σ => σ.1 3 = nI t ∧ σ.1 1 = nI s ∧ σ.1 2 = acr (tokw m u s) (m.1 2 0) (m.1 13 s) t ∧ eqM m σ.2.2 ∧ eqV g σ.2.2 ∧ σ.2.2.1 0 34 = nI (bgc (bgS m u s) t) ∧ ∀ j, j < t → bgS m u s j = true → σ.2.2.1 21 (bgc (bgS m u s) j) = nI j) 0 n _ ⟨by simp [upd, nI_0], by simp [upd, ik_eI], by simp [upd, acr], hm.si 0 (by omega), (eqV.rfl' g).si 0 (by omega), by simp [ik_si, bgc, nI_0], fun j hj => by omega⟩ (by omega) (by omega) ?_ ?_ ?_
  · rintro t ⟨s1, s2, s3⟩ h1 ⟨h2, h3, h4, h5, h6, h7, h8⟩
    simp only at h2 h3 h4 h5 h6 h7 h8
    have r14 : s3.1 14 s = nI n := by rw [h5.1 14 (by omega)]; exact e
    simp (decide := true) only [wE_lit, wL_lit, wE_loc, wL_loc, wE_add, wE_sub, wE_mul, wE_and, wE_or, wE_xor, wE_shl, wE_shr, wE_ushr, wE_div, wE_rem, wE_neg, wE_i2b, wE_l2i, wL_i2l, wL_add, wL_mul, wE_fld, wL_fld, wE_arr, wL_arr, wC_cmp, wC_cmp0, wC_cmpL, wC_and, wC_or, wC_not, wC_ite, wL_ite, wA_nil, wA_int, wA_long, wE_call, wL_call, wS_skip, wS_seq, wS_set, wS_setL, wS_inc, wS_if, wS_put, wS_putL, wS_putOp, wS_putOpL, wS_ast, wS_astL, wS_aop, wS_aopL, wS_ret, wS_retL, wS_retV, wS_do, wS_pop, wS_dead, wS_sw, wF_body, Nat.reduceAdd, Nat.zero_add, Bool.not_not, true_and, and_true, if_true, if_false, ↓reduceIte, eq_self, Value.int.injEq, Value.long.injEq, exists_eq_left', ik_b1, ik_b0, ik_bz0, ik_bz3, ik_bz3_1, ik_bz3_0, ik_cmp, ik_cmpL, ik_eI, ik_eL, ik_as, ik_i0, ik_i1, decide_eq_true_eq, decide_eq_false_iff_not, decide_true, decide_false, Bool.not_true, Bool.not_false, reduceCtorEq, forall_const, false_implies, true_implies, implies_true, true_and, and_true, and_self, false_and, and_false, Bool.and_true, Bool.true_and, not_true_eq_false, not_false_eq_true, if_true, if_false, ite_true, ite_false, ik_bz3_0, ik_bz3_1, ik_bz0, h2, h3, ik_ix_nI (show s < 6 by omega) (by omega), Option.some.injEq, r14, nI_ltI (show t < 2 ^ 31 by omega) (show n < 2 ^ 31 by omega)]
  · rintro t ⟨s1, s2, s3⟩ h1 ⟨h2, h3, h4, h5, h6, h7, h8⟩
    simp only at h2 h3 h4 h5 h6 h7 h8
    have hu' : ∀ k, k < B → u k < N ∧ s3.1 20 k = nI (u k) := fun k hk => by rw [h6.1 20 (by decide) (by decide) (by decide) (by decide)]; exact hu k hk
    have wt := fun Q => w_tokenM h h5 hu' hs e hn h1 Q
    have r13 : s3.1 13 s = m.1 13 s := by rw [h5.1 13 (by omega)]
    have r2 : s3.1 2 0 = m.1 2 0 := by rw [h5.1 2 (by omega)]
    have i0 : ik_ix 0 27 = some 0 := rfl
    have is := ik_ix_nI (show s < 6 by omega) (by omega)
    have z0 : ((0 : Int32) < nI t) ↔ ¬ t = 0 := by rw [← nI_0, nI_ltI (by omega) (by omega)]; omega
    have cl := bgc_le (bgS m u s) t
    have ic := ik_ix_nI (show bgc (bgS m u s) t < 24 by omega) (by omega)
    have beg : bgS m u s t = true → eqM m (ik_si (ik_si s3 21 (bgc (bgS m u s) t) (nI t)) 0 34 (nI (bgc (bgS m u s) t + 1))) ∧ eqV g (ik_si (ik_si s3 21 (bgc (bgS m u s) t) (nI t)) 0 34 (nI (bgc (bgS m u s) t + 1))) ∧ (ik_si (ik_si s3 21 (bgc (bgS m u s) t) (nI t)) 0 34 (nI (bgc (bgS m u s) t + 1))).1 0 34 = nI (bgc (bgS m u s) (t + 1)) ∧ ∀ j, j < t + 1 → bgS m u s j = true → (ik_si (ik_si s3 21 (bgc (bgS m u s) t) (nI t)) 0 34 (nI (bgc (bgS m u s) t + 1))).1 21 (bgc (bgS m u s) j) = nI j := by
      intro hb
      refine ⟨(h5.si _ (by omega)).si _ (by omega), (h6.si _ (by omega)).si _ (by omega), ?_, fun j hj hb' => ?_⟩
      · rw [ik_si_same, bgc_t hb]
      · rw [ik_si_row _ _ _ _ _ (by decide)]
        by_cases ej : j = t
        · subst ej; exact ik_si_same _ _ _ _
        · have m1 := bgc_mono (bgS m u s) (show j + 1 ≤ t by omega)
          rw [bgc_t hb'] at m1
          rw [ik_si_ne _ _ _ _ _ (by omega)]; exact h8 j (by omega) hb'
    have s34 : ∀ v, (ik_si s3 21 (bgc (bgS m u s) t) v).1 0 34 = nI (bgc (bgS m u s) t) := fun v => by rw [ik_si_row _ _ _ _ _ (by decide)]; exact h7
    by_cases t0 : t = 0
    · have hb : bgS m u s t = true := by unfold bgS bgB; simp [t0]
      have hz : ((0 : Int32) < nI t) = False := eq_false (fun q => z0.mp q t0)
      have hz' : (nI t > (0 : Int32)) = False := hz
      have ea := acr_s (tokw m u s) (m.1 2 0) (m.1 13 s) t
      rw [show bgB (tokw m u s) (m.1 2 0) (m.1 13 s) t = true from hb, if_pos rfl] at ea
      simp (decide := true) only [wE_lit, wL_lit, wE_loc, wL_loc, wE_add, wE_sub, wE_mul, wE_and, wE_or, wE_xor, wE_shl, wE_shr, wE_ushr, wE_div, wE_rem, wE_neg, wE_i2b, wE_l2i, wL_i2l, wL_add, wL_mul, wE_fld, wL_fld, wE_arr, wL_arr, wC_cmp, wC_cmp0, wC_cmpL, wC_and, wC_or, wC_not, wC_ite, wL_ite, wA_nil, wA_int, wA_long, wE_call, wL_call, wS_skip, wS_seq, wS_set, wS_setL, wS_inc, wS_if, wS_put, wS_putL, wS_putOp, wS_putOpL, wS_ast, wS_astL, wS_aop, wS_aopL, wS_ret, wS_retL, wS_retV, wS_do, wS_pop, wS_dead, wS_sw, wF_body, Nat.reduceAdd, Nat.zero_add, Bool.not_not, true_and, and_true, if_true, if_false, ↓reduceIte, eq_self, Value.int.injEq, Value.long.injEq, exists_eq_left', ik_b1, ik_b0, ik_bz0, ik_bz3, ik_bz3_1, ik_bz3_0, ik_cmp, ik_cmpL, ik_eI, ik_eL, ik_as, ik_i0, ik_i1, decide_eq_true_eq, decide_eq_false_iff_not, decide_true, decide_false, Bool.not_true, Bool.not_false, reduceCtorEq, forall_const, false_implies, true_implies, implies_true, true_and, and_true, and_self, false_and, and_false, Bool.and_true, Bool.true_and, not_true_eq_false, not_false_eq_true, if_true, if_false, ite_true, ite_false, ik_bz3_0, ik_bz3_1, ik_bz0, wE_ite, upd_at, upd_off, h2, h3, h4, wt, r13, r2, i0, is, ic, s34, h7, hz, hz', Option.some.injEq, nI_1, nI_add, ea]
      exact ⟨_, show ik_bo 0 (nI (bgc (bgS m u s) t)) 1 = some (nI (bgc (bgS m u s) t + 1)) from by show some (nI _ + nI 1) = _; rw [nI_add], beg hb⟩
    · have hz : ((0 : Int32) < nI t) = True := eq_true (z0.mpr t0)
      have hz' : (nI t > (0 : Int32)) = True := hz
      have ea := acr_s (tokw m u s) (m.1 2 0) (m.1 13 s) t
      by_cases gt : m.1 13 s < acr (tokw m u s) (m.1 2 0) (m.1 13 s) t + m.1 2 0 + tokw m u s t
      · have hb : bgS m u s t = true := by unfold bgS bgB; simp [gt]
        have nle : ¬ acr (tokw m u s) (m.1 2 0) (m.1 13 s) t + m.1 2 0 + tokw m u s t ≤ m.1 13 s := by rw [Int32.not_le]; exact gt
        rw [show bgB (tokw m u s) (m.1 2 0) (m.1 13 s) t = true from hb, if_pos rfl] at ea
        simp (decide := true) only [wE_lit, wL_lit, wE_loc, wL_loc, wE_add, wE_sub, wE_mul, wE_and, wE_or, wE_xor, wE_shl, wE_shr, wE_ushr, wE_div, wE_rem, wE_neg, wE_i2b, wE_l2i, wL_i2l, wL_add, wL_mul, wE_fld, wL_fld, wE_arr, wL_arr, wC_cmp, wC_cmp0, wC_cmpL, wC_and, wC_or, wC_not, wC_ite, wL_ite, wA_nil, wA_int, wA_long, wE_call, wL_call, wS_skip, wS_seq, wS_set, wS_setL, wS_inc, wS_if, wS_put, wS_putL, wS_putOp, wS_putOpL, wS_ast, wS_astL, wS_aop, wS_aopL, wS_ret, wS_retL, wS_retV, wS_do, wS_pop, wS_dead, wS_sw, wF_body, Nat.reduceAdd, Nat.zero_add, Bool.not_not, true_and, and_true, if_true, if_false, ↓reduceIte, eq_self, Value.int.injEq, Value.long.injEq, exists_eq_left', ik_b1, ik_b0, ik_bz0, ik_bz3, ik_bz3_1, ik_bz3_0, ik_cmp, ik_cmpL, ik_eI, ik_eL, ik_as, ik_i0, ik_i1, decide_eq_true_eq, decide_eq_false_iff_not, decide_true, decide_false, Bool.not_true, Bool.not_false, reduceCtorEq, forall_const, false_implies, true_implies, implies_true, true_and, and_true, and_self, false_and, and_false, Bool.and_true, Bool.true_and, not_true_eq_false, not_false_eq_true, if_true, if_false, ite_true, ite_false, ik_bz3_0, ik_bz3_1, ik_bz0, wE_ite, upd_at, upd_off, h2, h3, h4, wt, r13, r2, i0, is, ic, s34, h7, hz, hz', nle, Option.some.injEq, nI_1, nI_add, ea]
        exact ⟨_, show ik_bo 0 (nI (bgc (bgS m u s) t)) 1 = some (nI (bgc (bgS m u s) t + 1)) from by show some (nI _ + nI 1) = _; rw [nI_add], beg hb⟩
      · have hb : bgS m u s t = false := by unfold bgS bgB; simp [gt, t0]
        have le : acr (tokw m u s) (m.1 2 0) (m.1 13 s) t + m.1 2 0 + tokw m u s t ≤ m.1 13 s := by rw [Int32.not_lt] at gt; exact gt
        rw [show bgB (tokw m u s) (m.1 2 0) (m.1 13 s) t = false from hb, if_neg (by decide)] at ea
        simp (decide := true) only [wE_lit, wL_lit, wE_loc, wL_loc, wE_add, wE_sub, wE_mul, wE_and, wE_or, wE_xor, wE_shl, wE_shr, wE_ushr, wE_div, wE_rem, wE_neg, wE_i2b, wE_l2i, wL_i2l, wL_add, wL_mul, wE_fld, wL_fld, wE_arr, wL_arr, wC_cmp, wC_cmp0, wC_cmpL, wC_and, wC_or, wC_not, wC_ite, wL_ite, wA_nil, wA_int, wA_long, wE_call, wL_call, wS_skip, wS_seq, wS_set, wS_setL, wS_inc, wS_if, wS_put, wS_putL, wS_putOp, wS_putOpL, wS_ast, wS_astL, wS_aop, wS_aopL, wS_ret, wS_retL, wS_retV, wS_do, wS_pop, wS_dead, wS_sw, wF_body, Nat.reduceAdd, Nat.zero_add, Bool.not_not, true_and, and_true, if_true, if_false, ↓reduceIte, eq_self, Value.int.injEq, Value.long.injEq, exists_eq_left', ik_b1, ik_b0, ik_bz0, ik_bz3, ik_bz3_1, ik_bz3_0, ik_cmp, ik_cmpL, ik_eI, ik_eL, ik_as, ik_i0, ik_i1, decide_eq_true_eq, decide_eq_false_iff_not, decide_true, decide_false, Bool.not_true, Bool.not_false, reduceCtorEq, forall_const, false_implies, true_implies, implies_true, true_and, and_true, and_self, false_and, and_false, Bool.and_true, Bool.true_and, not_true_eq_false, not_false_eq_true, if_true, if_false, ite_true, ite_false, ik_bz3_0, ik_bz3_1, ik_bz0, wE_ite, upd_at, upd_off, h2, h3, h4, wt, r13, r2, i0, is, hz, hz', le, Option.some.injEq, nI_1, nI_add, ea, ← Int32.add_assoc]
        refine ⟨h5, h6, ?_, fun j hj hb' => ?_⟩
        · rw [bgc_f hb]; exact h7
        · by_cases ej : j = t
          · subst ej; rw [hb] at hb'; cases hb'
          · exact h8 j (by omega) hb'
  · rintro ⟨s1, s2, s3⟩ ⟨h2, h3, h4, h5, h6, h7, h8⟩
    simp only at h5 h6 h7 h8
    simp (decide := true) only [wE_lit, wL_lit, wE_loc, wL_loc, wE_add, wE_sub, wE_mul, wE_and, wE_or, wE_xor, wE_shl, wE_shr, wE_ushr, wE_div, wE_rem, wE_neg, wE_i2b, wE_l2i, wL_i2l, wL_add, wL_mul, wE_fld, wL_fld, wE_arr, wL_arr, wC_cmp, wC_cmp0, wC_cmpL, wC_and, wC_or, wC_not, wC_ite, wL_ite, wA_nil, wA_int, wA_long, wE_call, wL_call, wS_skip, wS_seq, wS_set, wS_setL, wS_inc, wS_if, wS_put, wS_putL, wS_putOp, wS_putOpL, wS_ast, wS_astL, wS_aop, wS_aopL, wS_ret, wS_retL, wS_retV, wS_do, wS_pop, wS_dead, wS_sw, wF_body, Nat.reduceAdd, Nat.zero_add, Bool.not_not, true_and, and_true, if_true, if_false, ↓reduceIte, eq_self, Value.int.injEq, Value.long.injEq, exists_eq_left', ik_b1, ik_b0, ik_bz0, ik_bz3, ik_bz3_1, ik_bz3_0, ik_cmp, ik_cmpL, ik_eI, ik_eL, ik_as, ik_i0, ik_i1, decide_eq_true_eq, decide_eq_false_iff_not, decide_true, decide_false, Bool.not_true, Bool.not_false, reduceCtorEq, forall_const, false_implies, true_implies, implies_true, true_and, and_true, and_self, false_and, and_false, Bool.and_true, Bool.true_and, not_true_eq_false, not_false_eq_true, if_true, if_false, ite_true, ite_false, ik_bz3_0, ik_bz3_1, ik_bz0]
    exact ⟨h5, h6, h7, h8⟩
theorem w_begins2 {x m y : GG} {N B S s t n : Nat} (h : rE x m N B S) (hx : eqX x y) (hs : s < S) (e : m.1 14 s = nI n) (hn : n ≤ 24) (ht : t < n) (Q : Value → GG → Prop) : wF fX8_begins [.int (nI s), .int (nI t)] y Q ↔ Q (.int (if t = 0 then 1 else m.1 19 (24 * s + t))) y := by
  have a1 := h.eq hx (eqM.rfl' m)
  have hS := a1.2.2.2.2.2.2.2.2.2.1
  have hS6 := hS.1
  obtain ⟨-, -, n', k1, k2, e1, e2, e3, e4⟩ := hS.2.2.2.2.1 s hs
  have en : n = n' := (nI_eq (by omega) (by omega)).mp (e.symm.trans e2)
  subst en
  obtain ⟨-, q1, q2⟩ := e4 t ht
  rw [w_begins hS6 hS.2.1 hs hn e1 ht, q2]
  by_cases t0 : t = 0
  · simp [t0]
  · rw [if_neg t0]
    rcases q1 with q1 | q1 <;> rw [q1] <;> rfl
/-- whether a sheet breaks otherwise than it is set -/
def otB (m : GG) (u : Nat → Nat) (s t : Nat) : Bool := decide (¬ ik_b2 (bgS m u s t) = if t = 0 then 1 else m.1 19 (24 * s + t))
theorem w_otherX {x m y : GG} {N B S s n : Nat} {u : Nat → Nat} (h : rE x m N B S) (hx : eqX x y) (hs : s < S) (e : m.1 14 s = nI n) (hn : n ≤ 24) (h31 : ∀ t, t < n → y.1 31 t = ik_b2 (bgS m u s t)) (Q : Value → GG → Prop) : wF fX8_breaksOtherwise [.int (nI s)] y Q ↔ Q (.int (ik_b2 (ik_any (otB m u s) n))) y := by
  refine wF_eq (eq_of_wF ?_) Q
  have a1 := h.eq hx (eqM.rfl' m)
  unfold fX8_breaksOtherwise
  simp (decide := true) only [wE_lit, wL_lit, wE_loc, wL_loc, wE_add, wE_sub, wE_mul, wE_and, wE_or, wE_xor, wE_shl, wE_shr, wE_ushr, wE_div, wE_rem, wE_neg, wE_i2b, wE_l2i, wL_i2l, wL_add, wL_mul, wE_fld, wL_fld, wE_arr, wL_arr, wC_cmp, wC_cmp0, wC_cmpL, wC_and, wC_or, wC_not, wC_ite, wL_ite, wA_nil, wA_int, wA_long, wE_call, wL_call, wS_skip, wS_seq, wS_set, wS_setL, wS_inc, wS_if, wS_put, wS_putL, wS_putOp, wS_putOpL, wS_ast, wS_astL, wS_aop, wS_aopL, wS_ret, wS_retL, wS_retV, wS_do, wS_pop, wS_dead, wS_sw, wF_body, Nat.reduceAdd, Nat.zero_add, Bool.not_not, true_and, and_true, if_true, if_false, ↓reduceIte, eq_self, Value.int.injEq, Value.long.injEq, exists_eq_left', ik_b1, ik_b0, ik_bz0, ik_bz3, ik_bz3_1, ik_bz3_0, ik_cmp, ik_cmpL, ik_eI, ik_eL, ik_as, ik_i0, ik_i1, decide_eq_true_eq, decide_eq_false_iff_not, decide_true, decide_false, Bool.not_true, Bool.not_false, reduceCtorEq, forall_const, false_implies, true_implies, implies_true, true_and, and_true, and_self, false_and, and_false, Bool.and_true, Bool.true_and, not_true_eq_false, not_false_eq_true, if_true, if_false, ite_true, ite_false, ik_bz3_0, ik_bz3_1, ik_bz0, upd_at, upd_off]
  refine wS_for _ _ (fun t σ => σ.1 2 = nI t ∧ σ.1 1 = nI s ∧ ik_any (otB m u s) t = false ∧ σ.2.2 = y) 0 n _ ⟨by simp [upd, nI_0], by simp [upd, ik_eI], rfl, rfl⟩ (by omega) (by omega) ?_ ?_ ?_
  · rintro t ⟨s1, s2, s3⟩ h1 ⟨h2, h3, h4, h5⟩
    simp only at h2 h3 h4 h5
    subst h5
    exact wc_toks a1.2.2.2.2.2.2.2.2.2.1 hs e hn h1 h2 h3
  · rintro t ⟨s1, s2, s3⟩ h1 ⟨h2, h3, h4, h5⟩
    simp only at h2 h3 h4 h5
    subst h5
    have b2 := w_begins2 h hx hs e hn h1
    have it := ik_ix_nI (show t < 24 by omega) (by omega)
    by_cases q : ik_b2 (bgS m u s t) = if t = 0 then 1 else m.1 19 (24 * s + t)
    · have ob : otB m u s t = false := by unfold otB; simp [q]
      have an : ik_any (otB m u s) (t + 1) = false := by show (ik_any (otB m u s) t || otB m u s t) = false; rw [h4, ob]; rfl
      rw [← q] at b2
      simp (decide := true) only [wE_lit, wL_lit, wE_loc, wL_loc, wE_add, wE_sub, wE_mul, wE_and, wE_or, wE_xor, wE_shl, wE_shr, wE_ushr, wE_div, wE_rem, wE_neg, wE_i2b, wE_l2i, wL_i2l, wL_add, wL_mul, wE_fld, wL_fld, wE_arr, wL_arr, wC_cmp, wC_cmp0, wC_cmpL, wC_and, wC_or, wC_not, wC_ite, wL_ite, wA_nil, wA_int, wA_long, wE_call, wL_call, wS_skip, wS_seq, wS_set, wS_setL, wS_inc, wS_if, wS_put, wS_putL, wS_putOp, wS_putOpL, wS_ast, wS_astL, wS_aop, wS_aopL, wS_ret, wS_retL, wS_retV, wS_do, wS_pop, wS_dead, wS_sw, wF_body, Nat.reduceAdd, Nat.zero_add, Bool.not_not, true_and, and_true, if_true, if_false, ↓reduceIte, eq_self, Value.int.injEq, Value.long.injEq, exists_eq_left', ik_b1, ik_b0, ik_bz0, ik_bz3, ik_bz3_1, ik_bz3_0, ik_cmp, ik_cmpL, ik_eI, ik_eL, ik_as, ik_i0, ik_i1, decide_eq_true_eq, decide_eq_false_iff_not, decide_true, decide_false, Bool.not_true, Bool.not_false, reduceCtorEq, forall_const, false_implies, true_implies, implies_true, true_and, and_true, and_self, false_and, and_false, Bool.and_true, Bool.true_and, not_true_eq_false, not_false_eq_true, if_true, if_false, ite_true, ite_false, ik_bz3_0, ik_bz3_1, ik_bz0, h2, h3, b2, it, Option.some.injEq, h31 t h1, nI_1, nI_add, upd_at, upd_off, an]
    · have ob : otB m u s t = true := by unfold otB; simp [q]
      have an : ik_any (otB m u s) n = true := ik_any_ex.mpr ⟨t, h1, ob⟩
      simp (decide := true) only [wE_lit, wL_lit, wE_loc, wL_loc, wE_add, wE_sub, wE_mul, wE_and, wE_or, wE_xor, wE_shl, wE_shr, wE_ushr, wE_div, wE_rem, wE_neg, wE_i2b, wE_l2i, wL_i2l, wL_add, wL_mul, wE_fld, wL_fld, wE_arr, wL_arr, wC_cmp, wC_cmp0, wC_cmpL, wC_and, wC_or, wC_not, wC_ite, wL_ite, wA_nil, wA_int, wA_long, wE_call, wL_call, wS_skip, wS_seq, wS_set, wS_setL, wS_inc, wS_if, wS_put, wS_putL, wS_putOp, wS_putOpL, wS_ast, wS_astL, wS_aop, wS_aopL, wS_ret, wS_retL, wS_retV, wS_do, wS_pop, wS_dead, wS_sw, wF_body, Nat.reduceAdd, Nat.zero_add, Bool.not_not, true_and, and_true, if_true, if_false, ↓reduceIte, eq_self, Value.int.injEq, Value.long.injEq, exists_eq_left', ik_b1, ik_b0, ik_bz0, ik_bz3, ik_bz3_1, ik_bz3_0, ik_cmp, ik_cmpL, ik_eI, ik_eL, ik_as, ik_i0, ik_i1, decide_eq_true_eq, decide_eq_false_iff_not, decide_true, decide_false, Bool.not_true, Bool.not_false, reduceCtorEq, forall_const, false_implies, true_implies, implies_true, true_and, and_true, and_self, false_and, and_false, Bool.and_true, Bool.true_and, not_true_eq_false, not_false_eq_true, if_true, if_false, ite_true, ite_false, ik_bz3_0, ik_bz3_1, ik_bz0, h2, h3, b2, it, Option.some.injEq, h31 t h1, q, an, show ik_b2 true = 1 from rfl]
  · rintro ⟨s1, s2, s3⟩ ⟨h2, h3, h4, h5⟩
    simp only at h4 h5
    subst h5
    simp (decide := true) only [wE_lit, wL_lit, wE_loc, wL_loc, wE_add, wE_sub, wE_mul, wE_and, wE_or, wE_xor, wE_shl, wE_shr, wE_ushr, wE_div, wE_rem, wE_neg, wE_i2b, wE_l2i, wL_i2l, wL_add, wL_mul, wE_fld, wL_fld, wE_arr, wL_arr, wC_cmp, wC_cmp0, wC_cmpL, wC_and, wC_or, wC_not, wC_ite, wL_ite, wA_nil, wA_int, wA_long, wE_call, wL_call, wS_skip, wS_seq, wS_set, wS_setL, wS_inc, wS_if, wS_put, wS_putL, wS_putOp, wS_putOpL, wS_ast, wS_astL, wS_aop, wS_aopL, wS_ret, wS_retL, wS_retV, wS_do, wS_pop, wS_dead, wS_sw, wF_body, Nat.reduceAdd, Nat.zero_add, Bool.not_not, true_and, and_true, if_true, if_false, ↓reduceIte, eq_self, Value.int.injEq, Value.long.injEq, exists_eq_left', ik_b1, ik_b0, ik_bz0, ik_bz3, ik_bz3_1, ik_bz3_0, ik_cmp, ik_cmpL, ik_eI, ik_eL, ik_as, ik_i0, ik_i1, decide_eq_true_eq, decide_eq_false_iff_not, decide_true, decide_false, Bool.not_true, Bool.not_false, reduceCtorEq, forall_const, false_implies, true_implies, implies_true, true_and, and_true, and_self, false_and, and_false, Bool.and_true, Bool.true_and, not_true_eq_false, not_false_eq_true, if_true, if_false, ite_true, ite_false, ik_bz3_0, ik_bz3_1, ik_bz0, h4, ik_b2]
theorem bgc_next {p : Nat → Bool} : ∀ (d t : Nat), bgc p t < bgc p (t + d) → ∃ q, t ≤ q ∧ q < t + d ∧ p q = true ∧ bgc p q = bgc p t
  | 0, t, h => absurd h (Nat.lt_irrefl _)
  | d + 1, t, h => by
    cases e : p t with
    | true => exact ⟨t, Nat.le_refl _, by omega, e, rfl⟩
    | false =>
      have e1 := bgc_f e
      rw [show t + (d + 1) = (t + 1) + d by omega, ← e1] at h
      obtain ⟨q, h1, h2, h3, h4⟩ := bgc_next d (t + 1) h
      exact ⟨q, by omega, by omega, h3, by rw [h4, e1]⟩
theorem w_breaksSo {x m g : GG} {N B S s n : Nat} {u : Nat → Nat} (h : rE x m N B S) (hm : eqM m g) (hu : ∀ k, k < B → u k < N ∧ g.1 20 k = nI (u k)) (hs : s < S) (e : m.1 14 s = nI n) (hn : n ≤ 24) (hn1 : 1 ≤ n) : wF fX12_breaksSo [.int (nI s)] g (fun v g' => v = .int (ik_b2 (!ik_any (otB m u s) n)) ∧ eqM m g' ∧ eqV g g') := by
  have hS := h.2.2.2.2.2.2.2.2.2.1
  have hS6 := hS.1
  unfold fX12_breaksSo
  simp (decide := true) only [wE_lit, wL_lit, wE_loc, wL_loc, wE_add, wE_sub, wE_mul, wE_and, wE_or, wE_xor, wE_shl, wE_shr, wE_ushr, wE_div, wE_rem, wE_neg, wE_i2b, wE_l2i, wL_i2l, wL_add, wL_mul, wE_fld, wL_fld, wE_arr, wL_arr, wC_cmp, wC_cmp0, wC_cmpL, wC_and, wC_or, wC_not, wC_ite, wL_ite, wA_nil, wA_int, wA_long, wE_call, wL_call, wS_skip, wS_seq, wS_set, wS_setL, wS_inc, wS_if, wS_put, wS_putL, wS_putOp, wS_putOpL, wS_ast, wS_astL, wS_aop, wS_aopL, wS_ret, wS_retL, wS_retV, wS_do, wS_pop, wS_dead, wS_sw, wF_body, Nat.reduceAdd, Nat.zero_add, Bool.not_not, true_and, and_true, if_true, if_false, ↓reduceIte, eq_self, Value.int.injEq, Value.long.injEq, exists_eq_left', ik_b1, ik_b0, ik_bz0, ik_bz3, ik_bz3_1, ik_bz3_0, ik_cmp, ik_cmpL, ik_eI, ik_eL, ik_as, ik_i0, ik_i1, decide_eq_true_eq, decide_eq_false_iff_not, decide_true, decide_false, Bool.not_true, Bool.not_false, reduceCtorEq, forall_const, false_implies, true_implies, implies_true, true_and, and_true, and_self, false_and, and_false, Bool.and_true, Bool.true_and, not_true_eq_false, not_false_eq_true, if_true, if_false, ite_true, ite_false, ik_bz3_0, ik_bz3_1, ik_bz0, upd_at, upd_off]
  refine wF_mono (w_setsM h hm hu hs e hn) ?_
  rintro _ g1 ⟨rfl, k1, k2, k3, k4⟩
  simp (decide := true) only [wE_lit, wL_lit, wE_loc, wL_loc, wE_add, wE_sub, wE_mul, wE_and, wE_or, wE_xor, wE_shl, wE_shr, wE_ushr, wE_div, wE_rem, wE_neg, wE_i2b, wE_l2i, wL_i2l, wL_add, wL_mul, wE_fld, wL_fld, wE_arr, wL_arr, wC_cmp, wC_cmp0, wC_cmpL, wC_and, wC_or, wC_not, wC_ite, wL_ite, wA_nil, wA_int, wA_long, wE_call, wL_call, wS_skip, wS_seq, wS_set, wS_setL, wS_inc, wS_if, wS_put, wS_putL, wS_putOp, wS_putOpL, wS_ast, wS_astL, wS_aop, wS_aopL, wS_ret, wS_retL, wS_retV, wS_do, wS_pop, wS_dead, wS_sw, wF_body, Nat.reduceAdd, Nat.zero_add, Bool.not_not, true_and, and_true, if_true, if_false, ↓reduceIte, eq_self, Value.int.injEq, Value.long.injEq, exists_eq_left', ik_b1, ik_b0, ik_bz0, ik_bz3, ik_bz3_1, ik_bz3_0, ik_cmp, ik_cmpL, ik_eI, ik_eL, ik_as, ik_i0, ik_i1, decide_eq_true_eq, decide_eq_false_iff_not, decide_true, decide_false, Bool.not_true, Bool.not_false, reduceCtorEq, forall_const, false_implies, true_implies, implies_true, true_and, and_true, and_self, false_and, and_false, Bool.and_true, Bool.true_and, not_true_eq_false, not_false_eq_true, if_true, if_false, ite_true, ite_false, ik_bz3_0, ik_bz3_1, ik_bz0, upd_at, upd_off]
  have p0 : bgS m u s 0 = true := by unfold bgS bgB; simp
  have o0 : otB m u s 0 = false := by unfold otB; rw [p0]; simp [ik_b2]
  refine wS_for _ _ (fun t σ => 1 ≤ t ∧ σ.1 3 = nI t ∧ σ.1 1 = nI s ∧ σ.1 2 = nI (bgc (bgS m u s) t) ∧ ik_any (otB m u s) t = false ∧ σ.2.2 = g1) 1 n _ ⟨Nat.le_refl _, by simp [upd]; rfl, by simp [upd, ik_eI], by rw [bgc_t p0]; simp [upd, bgc]; rfl, by show (false || otB m u s 0) = false; rw [o0]; rfl, rfl⟩ hn1 (by omega) ?_ ?_ ?_
  · rintro t ⟨s1, s2, s3⟩ h1 ⟨h0, h2, h3, h4, h5, h6⟩
    simp only at h2 h3 h6
    subst h6
    have r14 : s3.1 14 s = nI n := by rw [k1.1 14 (by omega)]; exact e
    simp (decide := true) only [wE_lit, wL_lit, wE_loc, wL_loc, wE_add, wE_sub, wE_mul, wE_and, wE_or, wE_xor, wE_shl, wE_shr, wE_ushr, wE_div, wE_rem, wE_neg, wE_i2b, wE_l2i, wL_i2l, wL_add, wL_mul, wE_fld, wL_fld, wE_arr, wL_arr, wC_cmp, wC_cmp0, wC_cmpL, wC_and, wC_or, wC_not, wC_ite, wL_ite, wA_nil, wA_int, wA_long, wE_call, wL_call, wS_skip, wS_seq, wS_set, wS_setL, wS_inc, wS_if, wS_put, wS_putL, wS_putOp, wS_putOpL, wS_ast, wS_astL, wS_aop, wS_aopL, wS_ret, wS_retL, wS_retV, wS_do, wS_pop, wS_dead, wS_sw, wF_body, Nat.reduceAdd, Nat.zero_add, Bool.not_not, true_and, and_true, if_true, if_false, ↓reduceIte, eq_self, Value.int.injEq, Value.long.injEq, exists_eq_left', ik_b1, ik_b0, ik_bz0, ik_bz3, ik_bz3_1, ik_bz3_0, ik_cmp, ik_cmpL, ik_eI, ik_eL, ik_as, ik_i0, ik_i1, decide_eq_true_eq, decide_eq_false_iff_not, decide_true, decide_false, Bool.not_true, Bool.not_false, reduceCtorEq, forall_const, false_implies, true_implies, implies_true, true_and, and_true, and_self, false_and, and_false, Bool.and_true, Bool.true_and, not_true_eq_false, not_false_eq_true, if_true, if_false, ite_true, ite_false, ik_bz3_0, ik_bz3_1, ik_bz0, h2, h3, ik_ix_nI (show s < 6 by omega) (by omega), Option.some.injEq, r14, nI_ltI (show t < 2 ^ 31 by omega) (show n < 2 ^ 31 by omega)]
  · rintro t ⟨s1, s2, s3⟩ h1 ⟨h0, h2, h3, h4, h5, h6⟩
    simp only at h2 h3 h4 h5 h6
    subst h6
    have r19 : s3.1 19 (24 * s + t) = m.1 19 (24 * s + t) := by rw [k1.1 19 (by omega)]
    have cl := bgc_le (bgS m u s) t
    have cn := bgc_le (bgS m u s) n
    have ix := ik_ix_nI (show 24 * s + t < 144 by omega) (by omega)
    have e24 : (24 : Int32) = nI 24 := rfl
    have t0 : ¬ t = 0 := by omega
    have lt := nI_ltI (show bgc (bgS m u s) t < 2 ^ 31 by omega) (show bgc (bgS m u s) n < 2 ^ 31 by omega)
    have c0 : ∀ v : Int32, v = ik_b2 (bgS m u s t) → (v = m.1 19 (24 * s + t) → ik_any (otB m u s) (t + 1) = false) ∧ (¬ v = m.1 19 (24 * s + t) → ik_any (otB m u s) n = true) := by
      intro v hv
      subst hv
      constructor
      · intro q
        have ob : otB m u s t = false := by unfold otB; simp [q, t0]
        show (ik_any (otB m u s) t || otB m u s t) = false
        rw [h5, ob]; rfl
      · intro q
        have ob : otB m u s t = true := by unfold otB; simp [q, t0]
        exact ik_any_ex.mpr ⟨t, h1, ob⟩
    have ib : ∀ v : Int32, (v = m.1 19 (24 * s + t)) ∨ ¬ (v = m.1 19 (24 * s + t)) := fun v => Classical.em _
    have o1 : nI (bgc (bgS m u s) t) + (1 : Int32) = nI (bgc (bgS m u s) t + 1) := by show nI _ + nI 1 = _; rw [nI_add]
    have o2 : nI (bgc (bgS m u s) t) + (0 : Int32) = nI (bgc (bgS m u s) t) := Int32.add_zero _
    cases hb : bgS m u s t with
    | true =>
      have m1 := bgc_mono (bgS m u s) (show t + 1 ≤ n by omega)
      rw [bgc_t hb] at m1
      have l1 : (nI (bgc (bgS m u s) t) < nI (bgc (bgS m u s) n)) = True := eq_true (lt.mpr (by omega))
      have a21 := k4 t h1 hb
      have i21 := ik_ix_nI (show bgc (bgS m u s) t < 24 by omega) (by omega)
      obtain ⟨c1, c2⟩ := c0 1 (by rw [hb]; rfl)
      rcases ib 1 with q | q
      · simp (decide := true) only [wE_lit, wL_lit, wE_loc, wL_loc, wE_add, wE_sub, wE_mul, wE_and, wE_or, wE_xor, wE_shl, wE_shr, wE_ushr, wE_div, wE_rem, wE_neg, wE_i2b, wE_l2i, wL_i2l, wL_add, wL_mul, wE_fld, wL_fld, wE_arr, wL_arr, wC_cmp, wC_cmp0, wC_cmpL, wC_and, wC_or, wC_not, wC_ite, wL_ite, wA_nil, wA_int, wA_long, wE_call, wL_call, wS_skip, wS_seq, wS_set, wS_setL, wS_inc, wS_if, wS_put, wS_putL, wS_putOp, wS_putOpL, wS_ast, wS_astL, wS_aop, wS_aopL, wS_ret, wS_retL, wS_retV, wS_do, wS_pop, wS_dead, wS_sw, wF_body, Nat.reduceAdd, Nat.zero_add, Bool.not_not, true_and, and_true, if_true, if_false, ↓reduceIte, eq_self, Value.int.injEq, Value.long.injEq, exists_eq_left', ik_b1, ik_b0, ik_bz0, ik_bz3, ik_bz3_1, ik_bz3_0, ik_cmp, ik_cmpL, ik_eI, ik_eL, ik_as, ik_i0, ik_i1, decide_eq_true_eq, decide_eq_false_iff_not, decide_true, decide_false, Bool.not_true, Bool.not_false, reduceCtorEq, forall_const, false_implies, true_implies, implies_true, true_and, and_true, and_self, false_and, and_false, Bool.and_true, Bool.true_and, not_true_eq_false, not_false_eq_true, if_true, if_false, ite_true, ite_false, ik_bz3_0, ik_bz3_1, ik_bz0, wE_ite, upd_at, upd_off, h2, h3, h4, k3, l1, i21, a21, Option.some.injEq, e24, pk_mul, nI_add, ix, r19, ← q, o1, bgc_t hb]
        exact ⟨by omega, by show nI t + nI 1 = _; rw [nI_add], c1 q⟩
      · simp (decide := true) only [wE_lit, wL_lit, wE_loc, wL_loc, wE_add, wE_sub, wE_mul, wE_and, wE_or, wE_xor, wE_shl, wE_shr, wE_ushr, wE_div, wE_rem, wE_neg, wE_i2b, wE_l2i, wL_i2l, wL_add, wL_mul, wE_fld, wL_fld, wE_arr, wL_arr, wC_cmp, wC_cmp0, wC_cmpL, wC_and, wC_or, wC_not, wC_ite, wL_ite, wA_nil, wA_int, wA_long, wE_call, wL_call, wS_skip, wS_seq, wS_set, wS_setL, wS_inc, wS_if, wS_put, wS_putL, wS_putOp, wS_putOpL, wS_ast, wS_astL, wS_aop, wS_aopL, wS_ret, wS_retL, wS_retV, wS_do, wS_pop, wS_dead, wS_sw, wF_body, Nat.reduceAdd, Nat.zero_add, Bool.not_not, true_and, and_true, if_true, if_false, ↓reduceIte, eq_self, Value.int.injEq, Value.long.injEq, exists_eq_left', ik_b1, ik_b0, ik_bz0, ik_bz3, ik_bz3_1, ik_bz3_0, ik_cmp, ik_cmpL, ik_eI, ik_eL, ik_as, ik_i0, ik_i1, decide_eq_true_eq, decide_eq_false_iff_not, decide_true, decide_false, Bool.not_true, Bool.not_false, reduceCtorEq, forall_const, false_implies, true_implies, implies_true, true_and, and_true, and_self, false_and, and_false, Bool.and_true, Bool.true_and, not_true_eq_false, not_false_eq_true, if_true, if_false, ite_true, ite_false, ik_bz3_0, ik_bz3_1, ik_bz0, wE_ite, upd_at, upd_off, h2, h3, h4, k3, l1, i21, a21, Option.some.injEq, e24, pk_mul, nI_add, ix, r19, q, c2 q]
        exact ⟨k1, k2⟩
    | false =>
      obtain ⟨c1, c2⟩ := c0 0 (by rw [hb]; rfl)
      by_cases l : bgc (bgS m u s) t < bgc (bgS m u s) n
      · have l1 : (nI (bgc (bgS m u s) t) < nI (bgc (bgS m u s) n)) = True := eq_true (lt.mpr l)
        have i21 := ik_ix_nI (show bgc (bgS m u s) t < 24 by omega) (by omega)
        obtain ⟨q', w1, w2, w3, w4⟩ := bgc_next (n - t) t (by rw [show t + (n - t) = n by omega]; exact l)
        have a21 := k4 q' (by omega) w3
        rw [w4] at a21
        have ne : (nI q' = nI t) = False := eq_false (fun qq => by
          have := (nI_eq (by omega) (by omega)).mp qq
          subst this
          rw [hb] at w3; cases w3)
        rcases ib 0 with q | q
        · simp (decide := true) only [wE_lit, wL_lit, wE_loc, wL_loc, wE_add, wE_sub, wE_mul, wE_and, wE_or, wE_xor, wE_shl, wE_shr, wE_ushr, wE_div, wE_rem, wE_neg, wE_i2b, wE_l2i, wL_i2l, wL_add, wL_mul, wE_fld, wL_fld, wE_arr, wL_arr, wC_cmp, wC_cmp0, wC_cmpL, wC_and, wC_or, wC_not, wC_ite, wL_ite, wA_nil, wA_int, wA_long, wE_call, wL_call, wS_skip, wS_seq, wS_set, wS_setL, wS_inc, wS_if, wS_put, wS_putL, wS_putOp, wS_putOpL, wS_ast, wS_astL, wS_aop, wS_aopL, wS_ret, wS_retL, wS_retV, wS_do, wS_pop, wS_dead, wS_sw, wF_body, Nat.reduceAdd, Nat.zero_add, Bool.not_not, true_and, and_true, if_true, if_false, ↓reduceIte, eq_self, Value.int.injEq, Value.long.injEq, exists_eq_left', ik_b1, ik_b0, ik_bz0, ik_bz3, ik_bz3_1, ik_bz3_0, ik_cmp, ik_cmpL, ik_eI, ik_eL, ik_as, ik_i0, ik_i1, decide_eq_true_eq, decide_eq_false_iff_not, decide_true, decide_false, Bool.not_true, Bool.not_false, reduceCtorEq, forall_const, false_implies, true_implies, implies_true, true_and, and_true, and_self, false_and, and_false, Bool.and_true, Bool.true_and, not_true_eq_false, not_false_eq_true, if_true, if_false, ite_true, ite_false, ik_bz3_0, ik_bz3_1, ik_bz0, wE_ite, upd_at, upd_off, h2, h3, h4, k3, l1, i21, a21, ne, Option.some.injEq, e24, pk_mul, nI_add, ix, r19, ← q, o2, bgc_f hb]
          exact ⟨by omega, by show nI t + nI 1 = _; rw [nI_add], c1 q⟩
        · simp (decide := true) only [wE_lit, wL_lit, wE_loc, wL_loc, wE_add, wE_sub, wE_mul, wE_and, wE_or, wE_xor, wE_shl, wE_shr, wE_ushr, wE_div, wE_rem, wE_neg, wE_i2b, wE_l2i, wL_i2l, wL_add, wL_mul, wE_fld, wL_fld, wE_arr, wL_arr, wC_cmp, wC_cmp0, wC_cmpL, wC_and, wC_or, wC_not, wC_ite, wL_ite, wA_nil, wA_int, wA_long, wE_call, wL_call, wS_skip, wS_seq, wS_set, wS_setL, wS_inc, wS_if, wS_put, wS_putL, wS_putOp, wS_putOpL, wS_ast, wS_astL, wS_aop, wS_aopL, wS_ret, wS_retL, wS_retV, wS_do, wS_pop, wS_dead, wS_sw, wF_body, Nat.reduceAdd, Nat.zero_add, Bool.not_not, true_and, and_true, if_true, if_false, ↓reduceIte, eq_self, Value.int.injEq, Value.long.injEq, exists_eq_left', ik_b1, ik_b0, ik_bz0, ik_bz3, ik_bz3_1, ik_bz3_0, ik_cmp, ik_cmpL, ik_eI, ik_eL, ik_as, ik_i0, ik_i1, decide_eq_true_eq, decide_eq_false_iff_not, decide_true, decide_false, Bool.not_true, Bool.not_false, reduceCtorEq, forall_const, false_implies, true_implies, implies_true, true_and, and_true, and_self, false_and, and_false, Bool.and_true, Bool.true_and, not_true_eq_false, not_false_eq_true, if_true, if_false, ite_true, ite_false, ik_bz3_0, ik_bz3_1, ik_bz0, wE_ite, upd_at, upd_off, h2, h3, h4, k3, l1, i21, a21, ne, Option.some.injEq, e24, pk_mul, nI_add, ix, r19, q, c2 q]
          exact ⟨k1, k2⟩
      · have l1 : (nI (bgc (bgS m u s) t) < nI (bgc (bgS m u s) n)) = False := eq_false (fun q => l (lt.mp q))
        rcases ib 0 with q | q
        · simp (decide := true) only [wE_lit, wL_lit, wE_loc, wL_loc, wE_add, wE_sub, wE_mul, wE_and, wE_or, wE_xor, wE_shl, wE_shr, wE_ushr, wE_div, wE_rem, wE_neg, wE_i2b, wE_l2i, wL_i2l, wL_add, wL_mul, wE_fld, wL_fld, wE_arr, wL_arr, wC_cmp, wC_cmp0, wC_cmpL, wC_and, wC_or, wC_not, wC_ite, wL_ite, wA_nil, wA_int, wA_long, wE_call, wL_call, wS_skip, wS_seq, wS_set, wS_setL, wS_inc, wS_if, wS_put, wS_putL, wS_putOp, wS_putOpL, wS_ast, wS_astL, wS_aop, wS_aopL, wS_ret, wS_retL, wS_retV, wS_do, wS_pop, wS_dead, wS_sw, wF_body, Nat.reduceAdd, Nat.zero_add, Bool.not_not, true_and, and_true, if_true, if_false, ↓reduceIte, eq_self, Value.int.injEq, Value.long.injEq, exists_eq_left', ik_b1, ik_b0, ik_bz0, ik_bz3, ik_bz3_1, ik_bz3_0, ik_cmp, ik_cmpL, ik_eI, ik_eL, ik_as, ik_i0, ik_i1, decide_eq_true_eq, decide_eq_false_iff_not, decide_true, decide_false, Bool.not_true, Bool.not_false, reduceCtorEq, forall_const, false_implies, true_implies, implies_true, true_and, and_true, and_self, false_and, and_false, Bool.and_true, Bool.true_and, not_true_eq_false, not_false_eq_true, if_true, if_false, ite_true, ite_false, ik_bz3_0, ik_bz3_1, ik_bz0, wE_ite, upd_at, upd_off, h2, h3, h4, k3, l1, Option.some.injEq, e24, pk_mul, nI_add, ix, r19, ← q, o2, bgc_f hb]
          exact ⟨by omega, by show nI t + nI 1 = _; rw [nI_add], c1 q⟩
        · simp (decide := true) only [wE_lit, wL_lit, wE_loc, wL_loc, wE_add, wE_sub, wE_mul, wE_and, wE_or, wE_xor, wE_shl, wE_shr, wE_ushr, wE_div, wE_rem, wE_neg, wE_i2b, wE_l2i, wL_i2l, wL_add, wL_mul, wE_fld, wL_fld, wE_arr, wL_arr, wC_cmp, wC_cmp0, wC_cmpL, wC_and, wC_or, wC_not, wC_ite, wL_ite, wA_nil, wA_int, wA_long, wE_call, wL_call, wS_skip, wS_seq, wS_set, wS_setL, wS_inc, wS_if, wS_put, wS_putL, wS_putOp, wS_putOpL, wS_ast, wS_astL, wS_aop, wS_aopL, wS_ret, wS_retL, wS_retV, wS_do, wS_pop, wS_dead, wS_sw, wF_body, Nat.reduceAdd, Nat.zero_add, Bool.not_not, true_and, and_true, if_true, if_false, ↓reduceIte, eq_self, Value.int.injEq, Value.long.injEq, exists_eq_left', ik_b1, ik_b0, ik_bz0, ik_bz3, ik_bz3_1, ik_bz3_0, ik_cmp, ik_cmpL, ik_eI, ik_eL, ik_as, ik_i0, ik_i1, decide_eq_true_eq, decide_eq_false_iff_not, decide_true, decide_false, Bool.not_true, Bool.not_false, reduceCtorEq, forall_const, false_implies, true_implies, implies_true, true_and, and_true, and_self, false_and, and_false, Bool.and_true, Bool.true_and, not_true_eq_false, not_false_eq_true, if_true, if_false, ite_true, ite_false, ik_bz3_0, ik_bz3_1, ik_bz0, wE_ite, upd_at, upd_off, h2, h3, h4, k3, l1, Option.some.injEq, e24, pk_mul, nI_add, ix, r19, q, c2 q]
          exact ⟨k1, k2⟩
  · rintro ⟨s1, s2, s3⟩ ⟨h0, h2, h3, h4, h5, h6⟩
    simp only at h5 h6
    subst h6
    simp (decide := true) only [wE_lit, wL_lit, wE_loc, wL_loc, wE_add, wE_sub, wE_mul, wE_and, wE_or, wE_xor, wE_shl, wE_shr, wE_ushr, wE_div, wE_rem, wE_neg, wE_i2b, wE_l2i, wL_i2l, wL_add, wL_mul, wE_fld, wL_fld, wE_arr, wL_arr, wC_cmp, wC_cmp0, wC_cmpL, wC_and, wC_or, wC_not, wC_ite, wL_ite, wA_nil, wA_int, wA_long, wE_call, wL_call, wS_skip, wS_seq, wS_set, wS_setL, wS_inc, wS_if, wS_put, wS_putL, wS_putOp, wS_putOpL, wS_ast, wS_astL, wS_aop, wS_aopL, wS_ret, wS_retL, wS_retV, wS_do, wS_pop, wS_dead, wS_sw, wF_body, Nat.reduceAdd, Nat.zero_add, Bool.not_not, true_and, and_true, if_true, if_false, ↓reduceIte, eq_self, Value.int.injEq, Value.long.injEq, exists_eq_left', ik_b1, ik_b0, ik_bz0, ik_bz3, ik_bz3_1, ik_bz3_0, ik_cmp, ik_cmpL, ik_eI, ik_eL, ik_as, ik_i0, ik_i1, decide_eq_true_eq, decide_eq_false_iff_not, decide_true, decide_false, Bool.not_true, Bool.not_false, reduceCtorEq, forall_const, false_implies, true_implies, implies_true, true_and, and_true, and_self, false_and, and_false, Bool.and_true, Bool.true_and, not_true_eq_false, not_false_eq_true, if_true, if_false, ite_true, ite_false, ik_bz3_0, ik_bz3_1, ik_bz0, h5]
    exact ⟨k1, k2⟩
