theorem by_by : ∀ b : Fin 256, (ik_by b.val).toInt8.toInt32 = ik_by b.val := by decide +kernel
/-- a sheet that was read, in the reference -/
def ShM (S N n : Nat) (c : Nat → Nat) (w : Int32) (g0 g : GG) : Prop := (∀ a, a ≠ 0 → a ≠ 13 → a ≠ 14 → a ≠ 15 → (a < 16 ∨ 19 < a) → g.1 a = g0.1 a) ∧ (∀ a j, 16 ≤ a → a ≤ 19 → j < 24 * S → g.1 a j = g0.1 a j) ∧ (∀ j, j ≠ 4 → j ≠ 30 → j ≠ 32 → g.1 0 j = g0.1 0 j) ∧ g.2 = g0.2 ∧ g.1 0 4 = nI (S + 1) ∧ g.1 13 S = w ∧ (∀ j, j ≠ S → g.1 13 j = g0.1 13 j) ∧ g.1 14 S = nI n ∧ (∀ j, j ≠ S → g.1 14 j = g0.1 14 j) ∧ (∀ k, k < N → g.1 15 (160 * S + k) = ik_by (c k)) ∧ ∀ j, j < 160 * S → g.1 15 j = g0.1 15 j
theorem w_sheetM {m g0 : GG} {B S N T : Nat} {c : Nat → Nat} {w : Int32} (hg0 : g0 = ik_si (ik_si (ik_si (ik_si m 0 1 0) 0 30 0) 0 31 (nI N)) 0 32 0) (hN1 : 1 ≤ N) (hN : N ≤ 160) (hNT : N ≤ T) (hT : T ≤ 400) (h1 : m.1 0 1 = nI T) (hS : S < 6) (e4 : m.1 0 4 = nI S) (hB : B ≤ 4) (e3 : m.1 0 3 = nI B) (hw : 50 ≤ w ∧ w ≤ 5000) (hz : ∀ k, N ≤ k → c k = 0) (hc : ∀ k, k < N → c k < 256 ∧ m.1 1 k = ik_by (c k)) :
    wF fX12_sheet [.int w, .int (nI N)] m (fun v g => (∃ e, tEnd B c N = .inl e ∧ v = .int (-(nI e)) ∧ fsM S g0 g) ∨ ∃ st brk n fr ln bg, tEnd B c N = .inr (st, brk, n, fr, ln, bg) ∧ v = .int (nI S) ∧ CM S c n fr ln bg g ∧ ShM S N n c w g0 g) := by
  have z0 : ∀ a, a ≠ 0 → g0.1 a = m.1 a := fun a ha => by rw [hg0, ik_si_row _ _ _ _ _ ha, ik_si_row _ _ _ _ _ ha, ik_si_row _ _ _ _ _ ha, ik_si_row _ _ _ _ _ ha]
  have y0 : ∀ j, j ≠ 1 → j ≠ 30 → j ≠ 31 → j ≠ 32 → g0.1 0 j = m.1 0 j := fun j a b d e => by rw [hg0, ik_si_ne _ _ _ _ _ e, ik_si_ne _ _ _ _ _ d, ik_si_ne _ _ _ _ _ b, ik_si_ne _ _ _ _ _ a]
  have hx : txS c N g0 := ⟨by rw [hg0, ik_si_ne _ _ _ _ _ (by decide)]; exact ik_si_same _ _ _ _, hN, hz, fun k hk => ⟨(hc k hk).1, by rw [z0 1 (by decide)]; exact (hc k hk).2⟩⟩
  have e30 : g0.1 0 30 = nI 0 := by rw [hg0, ik_si_ne _ _ _ _ _ (by decide), ik_si_ne _ _ _ _ _ (by decide)]; exact ik_si_same _ _ _ _
  have e32 : g0.1 0 32 = 0 := by rw [hg0]; exact ik_si_same _ _ _ _
  have e31 := hx.1
  have e3' : g0.1 0 3 = nI B := by rw [y0 3 (by decide) (by decide) (by decide) (by decide)]; exact e3
  have e4' : g0.1 0 4 = nI S := by rw [y0 4 (by decide) (by decide) (by decide) (by decide)]; exact e4
  have c1 : 1 ≤ nI N ∧ nI N ≤ 160 := ⟨(nI_leI (a := 1) (by omega) (by omega)).mpr hN1, (nI_leI (b := 160) (by omega) (by omega)).mpr hN⟩
  have c2 : (nI N > nI T) = False := eq_false (fun z => by
    have z' : nI T < nI N := z
    rw [nI_ltI (by omega) (by omega)] at z'
    omega)
  have c3 : (nI S = 6) = False := eq_false (fun z => by have := (nI_eq (b := 6) (by omega) (by omega)).mp z; omega)
  have gd := fun g' => w_good g'
  unfold fX12_sheet
  simp (decide := true) only [wE_lit, wL_lit, wE_loc, wL_loc, wE_add, wE_sub, wE_mul, wE_and, wE_or, wE_xor, wE_shl, wE_shr, wE_ushr, wE_div, wE_rem, wE_neg, wE_i2b, wE_l2i, wL_i2l, wL_add, wL_mul, wE_fld, wL_fld, wE_arr, wL_arr, wC_cmp, wC_cmp0, wC_cmpL, wC_and, wC_or, wC_not, wC_ite, wL_ite, wA_nil, wA_int, wA_long, wE_call, wL_call, wS_skip, wS_seq, wS_set, wS_setL, wS_inc, wS_if, wS_put, wS_putL, wS_putOp, wS_putOpL, wS_ast, wS_astL, wS_aop, wS_aopL, wS_ret, wS_retL, wS_retV, wS_do, wS_pop, wS_dead, wS_sw, wF_body, Nat.reduceAdd, Nat.zero_add, Bool.not_not, true_and, and_true, if_true, if_false, ↓reduceIte, eq_self, Value.int.injEq, Value.long.injEq, exists_eq_left', ik_b1, ik_b0, ik_bz0, ik_bz3, ik_bz3_1, ik_bz3_0, ik_cmp, ik_cmpL, ik_eI, ik_eL, ik_as, ik_i0, ik_i1, decide_eq_true_eq, decide_eq_false_iff_not, decide_true, decide_false, Bool.not_true, Bool.not_false, reduceCtorEq, forall_const, false_implies, true_implies, implies_true, true_and, and_true, and_self, false_and, and_false, Bool.and_true, Bool.true_and, not_true_eq_false, not_false_eq_true, if_true, if_false, ite_true, ite_false, ik_bz3_0, ik_bz3_1, ik_bz0, i64_n20, i64_n1, l64_0, l64_1, l64_2, l64_3, l64_7, l64_12, l64_19, l64_20, l64_23, l64_24, l64_26, l64_29, l64_40, l64_50, l64_60, l64_63, l64_100, l64_160, l64_199, l64_255, l64_1000, l64_3000, l64_5000, l64_9999, l64_m1, l64_m20, w_lies, hw, c1, c3, e4, h1, c2, ← hg0]
  refine wS_wh _ _ (fun k σ => σ.1 1 = w ∧ σ.1 2 = nI N ∧ fsM S g0 σ.2.2 ∧ ((∃ p n brk fr ln bg, k = 200 - p ∧ p ≤ N ∧ tr B c p = .inr (0, brk, n, fr, ln, bg) ∧ σ.1 4 = 1 ∧ σ.1 3 = nI n ∧ σ.1 5 = ik_b2 (decide (0 < n) && brk) ∧ σ.2.2.1 0 30 = nI p ∧ σ.2.2.1 0 32 = 0 ∧ CM S c n fr ln bg σ.2.2) ∨ (∃ e, tEnd B c N = .inl e ∧ 1 ≤ e ∧ e < 6000 ∧ σ.2.2.1 0 32 = -(nI e)) ∨ ∃ st brk n fr ln bg, tEnd B c N = .inr (st, brk, n, fr, ln, bg) ∧ σ.1 4 = 0 ∧ σ.1 3 = nI n ∧ n ≤ 24 ∧ σ.2.2.1 0 32 = 0 ∧ CM S c n fr ln bg σ.2.2)) ?_ ik_fuel 200 _ (by unfold ik_fuel; omega) ⟨by simp [upd, ik_eI], by simp [upd, ik_eI], fsM.rfl' S g0, Or.inl ⟨0, 0, true, fun _ => 0, fun _ => 0, fun _ => false, rfl, by omega, rfl, by simp [upd], by simp [upd, nI_0], by simp [upd]; rfl, e30, e32, fun t ht => by omega⟩⟩
  rintro k ⟨s1, s2, s3⟩ ⟨h2, h3, h4, h5⟩
  simp only at h2 h3 h4 h5
  rcases h5 with ⟨p, n, brk, fr, ln, bg, a1, a2, a3, a4, a5, a6, a7, a8, a9⟩ | ⟨e, a1, a2, a3, a4⟩ | ⟨st, brk, n, fr, ln, bg, a1, a4, a5, a6, a7, a8⟩
  · have i1 := (tr_TI a3).1
    have s4 : s3.1 0 4 = nI S := by rw [h4.2.2.1 4 (by decide) (by decide)]; exact e4'
    obtain ⟨_, g1, et, rfl, f1, f2⟩ := w_tok a3 a2 hS hB e3' hx h4 a7 a8 a9
    rcases f2 with ⟨e, b1, b2, b3, b4⟩ | ⟨st, l, e, b1, b2, b3, b4, b5, b6, b7, b8, b9, b10, b11⟩
    · have nz := (nI_negne (k := e) (by omega) (by omega)).1
      simp (decide := true) only [wE_lit, wL_lit, wE_loc, wL_loc, wE_add, wE_sub, wE_mul, wE_and, wE_or, wE_xor, wE_shl, wE_shr, wE_ushr, wE_div, wE_rem, wE_neg, wE_i2b, wE_l2i, wL_i2l, wL_add, wL_mul, wE_fld, wL_fld, wE_arr, wL_arr, wC_cmp, wC_cmp0, wC_cmpL, wC_and, wC_or, wC_not, wC_ite, wL_ite, wA_nil, wA_int, wA_long, wE_call, wL_call, wS_skip, wS_seq, wS_set, wS_setL, wS_inc, wS_if, wS_put, wS_putL, wS_putOp, wS_putOpL, wS_ast, wS_astL, wS_aop, wS_aopL, wS_ret, wS_retL, wS_retV, wS_do, wS_pop, wS_dead, wS_sw, wF_body, Nat.reduceAdd, Nat.zero_add, Bool.not_not, true_and, and_true, if_true, if_false, ↓reduceIte, eq_self, Value.int.injEq, Value.long.injEq, exists_eq_left', ik_b1, ik_b0, ik_bz0, ik_bz3, ik_bz3_1, ik_bz3_0, ik_cmp, ik_cmpL, ik_eI, ik_eL, ik_as, ik_i0, ik_i1, decide_eq_true_eq, decide_eq_false_iff_not, decide_true, decide_false, Bool.not_true, Bool.not_false, reduceCtorEq, forall_const, false_implies, true_implies, implies_true, true_and, and_true, and_self, false_and, and_false, Bool.and_true, Bool.true_and, not_true_eq_false, not_false_eq_true, if_true, if_false, ite_true, ite_false, ik_bz3_0, ik_bz3_1, ik_bz0, exists_eq', h2, h3, a4, gd, a8, a5, s4, wF_eq et, b4, nz]
      exact Or.inl ⟨e, b1, rfl, f1⟩
    · have hti := tr_TI b6
      have n24 : n + 1 ≤ 24 := hti.1
      have ix := ik_ix_nI (show 24 * S + n < 144 by omega) (by omega)
      have eq' : (24 : Int32) * nI S + nI n = nI (24 * S + n) := by rw [show (24 : Int32) = nI 24 from rfl, pk_mul, nI_add]
      have s4' : g1.1 0 4 = nI S := by rw [f1.2.2.1 4 (by decide) (by decide)]; exact e4'
      obtain ⟨bv, hbv⟩ : ∃ bv, bv = (decide (0 < n) && brk) := ⟨_, rfl⟩
      rw [← hbv] at a6
      have as3 : (ik_b2 bv = 0 ∨ ik_b2 bv = 1) = True := by cases bv <;> simp [ik_b2]
      obtain ⟨g2, hg2⟩ : ∃ g2, g2 = ik_si g1 19 (24 * S + n) (ik_b2 bv) := ⟨_, rfl⟩
      have q2 : fsM S g0 g2 := by rw [hg2]; exact f1.si _ (by omega)
      have q30 : g2.1 0 30 = nI e := by rw [hg2, ik_si_row _ _ _ _ _ (by decide)]; exact b2
      have q32 : g2.1 0 32 = 0 := by rw [hg2, ik_si_row _ _ _ _ _ (by decide)]; exact b1
      have q31 : g2.1 0 31 = nI N := by rw [q2.2.2.1 31 (by decide) (by decide)]; exact e31
      have cm : CM S c (n + 1) (updN fr n p) (updN ln n l) (updB bg n brk) g2 := by
        intro t ht
        by_cases et : t = n
        · subst et
          rw [updN_at, updN_at, updB_at, hg2, ik_si_row _ _ _ _ _ (by decide), ik_si_row _ _ _ _ _ (by decide), ik_si_row _ _ _ _ _ (by decide), ik_si_same]
          refine ⟨b9, b10, b11, ?_⟩
          rw [hbv]
          by_cases t0 : t = 0
          · subst t0; rfl
          · rw [if_neg t0, decide_eq_true (by omega), Bool.true_and]
        · rw [updN_off et, updN_off et, updB_off et, hg2]
          exact (b8.siq _) t (by omega)
      have he := w_hereS hx q2 q30 (by omega)
      have ce := hx.lt e
      have lt : (nI e < nI N) = (e < N) := propext (nI_ltI (by omega) (by omega))
      have q47 : (nI (c e) = 47) = (c e = 47) := propext (nI_eq (b := 47) (by omega) (by omega))
      have q32' : (nI (c e) = 32) = (c e = 32) := propext (nI_eq (b := 32) (by omega) (by omega))
      have bo : ik_bo 0 (nI e) 1 = some (nI (e + 1)) := by show some (nI e + nI 1) = _; rw [nI_add]
      by_cases eN : e < N
      · have eN' := eq_true eN
        by_cases d1 : c e = 32
        · have tf : ts B (c e) e st brk (n + 1) (updN fr n p) (updN ln n l) (updB bg n brk) = .inr (0, false, n + 1, updN fr n p, updN ln n l, updB bg n brk) := by
            unfold ts
            rw [if_neg b5, if_pos (Or.inl d1), decide_eq_false (show ¬ c e = 47 by omega)]
          have t2 := tr_n b6 tf
          have d1' := eq_true d1
          have d2' : (c e = 47) = False := eq_false (by omega)
          simp (decide := true) only [wE_lit, wL_lit, wE_loc, wL_loc, wE_add, wE_sub, wE_mul, wE_and, wE_or, wE_xor, wE_shl, wE_shr, wE_ushr, wE_div, wE_rem, wE_neg, wE_i2b, wE_l2i, wL_i2l, wL_add, wL_mul, wE_fld, wL_fld, wE_arr, wL_arr, wC_cmp, wC_cmp0, wC_cmpL, wC_and, wC_or, wC_not, wC_ite, wL_ite, wA_nil, wA_int, wA_long, wE_call, wL_call, wS_skip, wS_seq, wS_set, wS_setL, wS_inc, wS_if, wS_put, wS_putL, wS_putOp, wS_putOpL, wS_ast, wS_astL, wS_aop, wS_aopL, wS_ret, wS_retL, wS_retV, wS_do, wS_pop, wS_dead, wS_sw, wF_body, Nat.reduceAdd, Nat.zero_add, Bool.not_not, true_and, and_true, if_true, if_false, ↓reduceIte, eq_self, Value.int.injEq, Value.long.injEq, exists_eq_left', ik_b1, ik_b0, ik_bz0, ik_bz3, ik_bz3_1, ik_bz3_0, ik_cmp, ik_cmpL, ik_eI, ik_eL, ik_as, ik_i0, ik_i1, decide_eq_true_eq, decide_eq_false_iff_not, decide_true, decide_false, Bool.not_true, Bool.not_false, reduceCtorEq, forall_const, false_implies, true_implies, implies_true, true_and, and_true, and_self, false_and, and_false, Bool.and_true, Bool.true_and, not_true_eq_false, not_false_eq_true, if_true, if_false, ite_true, ite_false, ik_bz3_0, ik_bz3_1, ik_bz0, exists_eq', wE_ite, h2, h3, a4, gd, a8, a5, a6, s4, wF_eq et, b1, s4', eq', ix, Option.some.injEq, as3, ← hg2, q30, q31, lt, eN', he, q47, q32', d1', d2', bo, upd_at, upd_off, nI_1, nI_add]
          exact ⟨200 - (e + 1), by omega, q2.si _ (by omega), Or.inl ⟨e + 1, n + 1, false, _, _, _, rfl, by omega, t2, rfl, by rw [decide_eq_true (by omega)]; rfl, ik_si_same _ _ _ _, by rw [ik_si_ne _ _ _ _ _ (by decide)]; exact q32, cm.si0 _ _⟩⟩
        · by_cases d2 : c e = 47
          · have tf : ts B (c e) e st brk (n + 1) (updN fr n p) (updN ln n l) (updB bg n brk) = .inr (0, true, n + 1, updN fr n p, updN ln n l, updB bg n brk) := by
              unfold ts
              rw [if_neg b5, if_pos (Or.inr d2), decide_eq_true d2]
            have t2 := tr_n b6 tf
            have d1' := eq_false d1
            have d2' := eq_true d2
            simp (decide := true) only [wE_lit, wL_lit, wE_loc, wL_loc, wE_add, wE_sub, wE_mul, wE_and, wE_or, wE_xor, wE_shl, wE_shr, wE_ushr, wE_div, wE_rem, wE_neg, wE_i2b, wE_l2i, wL_i2l, wL_add, wL_mul, wE_fld, wL_fld, wE_arr, wL_arr, wC_cmp, wC_cmp0, wC_cmpL, wC_and, wC_or, wC_not, wC_ite, wL_ite, wA_nil, wA_int, wA_long, wE_call, wL_call, wS_skip, wS_seq, wS_set, wS_setL, wS_inc, wS_if, wS_put, wS_putL, wS_putOp, wS_putOpL, wS_ast, wS_astL, wS_aop, wS_aopL, wS_ret, wS_retL, wS_retV, wS_do, wS_pop, wS_dead, wS_sw, wF_body, Nat.reduceAdd, Nat.zero_add, Bool.not_not, true_and, and_true, if_true, if_false, ↓reduceIte, eq_self, Value.int.injEq, Value.long.injEq, exists_eq_left', ik_b1, ik_b0, ik_bz0, ik_bz3, ik_bz3_1, ik_bz3_0, ik_cmp, ik_cmpL, ik_eI, ik_eL, ik_as, ik_i0, ik_i1, decide_eq_true_eq, decide_eq_false_iff_not, decide_true, decide_false, Bool.not_true, Bool.not_false, reduceCtorEq, forall_const, false_implies, true_implies, implies_true, true_and, and_true, and_self, false_and, and_false, Bool.and_true, Bool.true_and, not_true_eq_false, not_false_eq_true, if_true, if_false, ite_true, ite_false, ik_bz3_0, ik_bz3_1, ik_bz0, exists_eq', wE_ite, h2, h3, a4, gd, a8, a5, a6, s4, wF_eq et, b1, s4', eq', ix, Option.some.injEq, as3, ← hg2, q30, q31, lt, eN', he, q47, q32', d1', d2', bo, upd_at, upd_off, nI_1, nI_add]
            exact ⟨200 - (e + 1), by omega, q2.si _ (by omega), Or.inl ⟨e + 1, n + 1, true, _, _, _, rfl, by omega, t2, rfl, by rw [decide_eq_true (by omega)]; rfl, ik_si_same _ _ _ _, by rw [ik_si_ne _ _ _ _ _ (by decide)]; exact q32, cm.si0 _ _⟩⟩
          · have nsep : ¬ (c e = 32 ∨ c e = 47) := fun z => z.elim d1 d2
            have tf : ts B (c e) e st brk (n + 1) (updN fr n p) (updN ln n l) (updB bg n brk) = .inl 1 := by
              unfold ts
              rw [if_neg b5, if_neg nsep, if_neg (fun z => by rw [b7 z.1] at z; cases z.2)]
            have te := tEnd_f b6 tf eN
            have wr := w_wrongs (g := g2) (e := 1) (p := e) q32 (Q := fun v g2' => v = .null ∧ g2' = ik_si g2 0 32 (-(nI (1000 * 1 + e)))) (v := 1) rfl
            have wr' : fX12_wrongs [.int 1, .int (nI e)] g2 = some (.null, ik_si g2 0 32 (-(nI (1000 * 1 + e)))) := eq_of_wF (wr.mpr ⟨rfl, rfl⟩)
            have w30 : (ik_si g2 0 32 (-(nI (1000 * 1 + e)))).1 0 30 = nI e := by rw [ik_si_ne _ _ _ _ _ (by decide)]; exact q30
            have d1' := eq_false d1
            have d2' := eq_false d2
            simp (decide := true) only [wE_lit, wL_lit, wE_loc, wL_loc, wE_add, wE_sub, wE_mul, wE_and, wE_or, wE_xor, wE_shl, wE_shr, wE_ushr, wE_div, wE_rem, wE_neg, wE_i2b, wE_l2i, wL_i2l, wL_add, wL_mul, wE_fld, wL_fld, wE_arr, wL_arr, wC_cmp, wC_cmp0, wC_cmpL, wC_and, wC_or, wC_not, wC_ite, wL_ite, wA_nil, wA_int, wA_long, wE_call, wL_call, wS_skip, wS_seq, wS_set, wS_setL, wS_inc, wS_if, wS_put, wS_putL, wS_putOp, wS_putOpL, wS_ast, wS_astL, wS_aop, wS_aopL, wS_ret, wS_retL, wS_retV, wS_do, wS_pop, wS_dead, wS_sw, wF_body, Nat.reduceAdd, Nat.zero_add, Bool.not_not, true_and, and_true, if_true, if_false, ↓reduceIte, eq_self, Value.int.injEq, Value.long.injEq, exists_eq_left', ik_b1, ik_b0, ik_bz0, ik_bz3, ik_bz3_1, ik_bz3_0, ik_cmp, ik_cmpL, ik_eI, ik_eL, ik_as, ik_i0, ik_i1, decide_eq_true_eq, decide_eq_false_iff_not, decide_true, decide_false, Bool.not_true, Bool.not_false, reduceCtorEq, forall_const, false_implies, true_implies, implies_true, true_and, and_true, and_self, false_and, and_false, Bool.and_true, Bool.true_and, not_true_eq_false, not_false_eq_true, if_true, if_false, ite_true, ite_false, ik_bz3_0, ik_bz3_1, ik_bz0, exists_eq', wE_ite, h2, h3, a4, gd, a8, a5, a6, s4, wF_eq et, b1, s4', eq', ix, Option.some.injEq, as3, ← hg2, q30, q31, lt, eN', he, q47, q32', d1', d2', wF_eq wr', w30, bo, upd_at, upd_off, nI_1, nI_add]
            exact ⟨k - 1, by omega, (q2.si _ (by omega)).si _ (by omega), Or.inr (Or.inl ⟨1000 * 1 + e, te, by omega, by omega, by rw [ik_si_ne _ _ _ _ _ (by decide)]; exact ik_si_same _ _ _ _⟩)⟩
      · have eN' := eq_false eN
        have eqN : e = N := by omega
        have cz : c e = 0 := hz e (by omega)
        have d2' : (c e = 47) = False := eq_false (by omega)
        rw [eqN] at b6
        have te := tEnd_y b6 b5
        simp (decide := true) only [wE_lit, wL_lit, wE_loc, wL_loc, wE_add, wE_sub, wE_mul, wE_and, wE_or, wE_xor, wE_shl, wE_shr, wE_ushr, wE_div, wE_rem, wE_neg, wE_i2b, wE_l2i, wL_i2l, wL_add, wL_mul, wE_fld, wL_fld, wE_arr, wL_arr, wC_cmp, wC_cmp0, wC_cmpL, wC_and, wC_or, wC_not, wC_ite, wL_ite, wA_nil, wA_int, wA_long, wE_call, wL_call, wS_skip, wS_seq, wS_set, wS_setL, wS_inc, wS_if, wS_put, wS_putL, wS_putOp, wS_putOpL, wS_ast, wS_astL, wS_aop, wS_aopL, wS_ret, wS_retL, wS_retV, wS_do, wS_pop, wS_dead, wS_sw, wF_body, Nat.reduceAdd, Nat.zero_add, Bool.not_not, true_and, and_true, if_true, if_false, ↓reduceIte, eq_self, Value.int.injEq, Value.long.injEq, exists_eq_left', ik_b1, ik_b0, ik_bz0, ik_bz3, ik_bz3_1, ik_bz3_0, ik_cmp, ik_cmpL, ik_eI, ik_eL, ik_as, ik_i0, ik_i1, decide_eq_true_eq, decide_eq_false_iff_not, decide_true, decide_false, Bool.not_true, Bool.not_false, reduceCtorEq, forall_const, false_implies, true_implies, implies_true, true_and, and_true, and_self, false_and, and_false, Bool.and_true, Bool.true_and, not_true_eq_false, not_false_eq_true, if_true, if_false, ite_true, ite_false, ik_bz3_0, ik_bz3_1, ik_bz0, exists_eq', wE_ite, h2, h3, a4, gd, a8, a5, a6, s4, wF_eq et, b1, s4', eq', ix, Option.some.injEq, as3, ← hg2, q30, q31, lt, eN', he, q47, q32', d2', bo, upd_at, upd_off, nI_1, nI_add]
        exact ⟨k - 1, by omega, q2.si _ (by omega), Or.inr (Or.inr ⟨st, brk, n + 1, _, _, _, te, rfl, n24, by rw [ik_si_ne _ _ _ _ _ (by decide)]; exact q32, cm.si0 _ _⟩)⟩
  · have nz := nI_negne (k := e) (by omega) (by omega)
    rw [← a4] at nz
    have nz1 := nz.1
    have nz2 := nz.2
    by_cases f4 : s1 4 = 0
    · simp (decide := true) only [wE_lit, wL_lit, wE_loc, wL_loc, wE_add, wE_sub, wE_mul, wE_and, wE_or, wE_xor, wE_shl, wE_shr, wE_ushr, wE_div, wE_rem, wE_neg, wE_i2b, wE_l2i, wL_i2l, wL_add, wL_mul, wE_fld, wL_fld, wE_arr, wL_arr, wC_cmp, wC_cmp0, wC_cmpL, wC_and, wC_or, wC_not, wC_ite, wL_ite, wA_nil, wA_int, wA_long, wE_call, wL_call, wS_skip, wS_seq, wS_set, wS_setL, wS_inc, wS_if, wS_put, wS_putL, wS_putOp, wS_putOpL, wS_ast, wS_astL, wS_aop, wS_aopL, wS_ret, wS_retL, wS_retV, wS_do, wS_pop, wS_dead, wS_sw, wF_body, Nat.reduceAdd, Nat.zero_add, Bool.not_not, true_and, and_true, if_true, if_false, ↓reduceIte, eq_self, Value.int.injEq, Value.long.injEq, exists_eq_left', ik_b1, ik_b0, ik_bz0, ik_bz3, ik_bz3_1, ik_bz3_0, ik_cmp, ik_cmpL, ik_eI, ik_eL, ik_as, ik_i0, ik_i1, decide_eq_true_eq, decide_eq_false_iff_not, decide_true, decide_false, Bool.not_true, Bool.not_false, reduceCtorEq, forall_const, false_implies, true_implies, implies_true, true_and, and_true, and_self, false_and, and_false, Bool.and_true, Bool.true_and, not_true_eq_false, not_false_eq_true, if_true, if_false, ite_true, ite_false, ik_bz3_0, ik_bz3_1, ik_bz0, exists_eq', f4, nz2]
      exact Or.inl ⟨e, a1, by rw [a4], h4⟩
    · simp (decide := true) only [wE_lit, wL_lit, wE_loc, wL_loc, wE_add, wE_sub, wE_mul, wE_and, wE_or, wE_xor, wE_shl, wE_shr, wE_ushr, wE_div, wE_rem, wE_neg, wE_i2b, wE_l2i, wL_i2l, wL_add, wL_mul, wE_fld, wL_fld, wE_arr, wL_arr, wC_cmp, wC_cmp0, wC_cmpL, wC_and, wC_or, wC_not, wC_ite, wL_ite, wA_nil, wA_int, wA_long, wE_call, wL_call, wS_skip, wS_seq, wS_set, wS_setL, wS_inc, wS_if, wS_put, wS_putL, wS_putOp, wS_putOpL, wS_ast, wS_astL, wS_aop, wS_aopL, wS_ret, wS_retL, wS_retV, wS_do, wS_pop, wS_dead, wS_sw, wF_body, Nat.reduceAdd, Nat.zero_add, Bool.not_not, true_and, and_true, if_true, if_false, ↓reduceIte, eq_self, Value.int.injEq, Value.long.injEq, exists_eq_left', ik_b1, ik_b0, ik_bz0, ik_bz3, ik_bz3_1, ik_bz3_0, ik_cmp, ik_cmpL, ik_eI, ik_eL, ik_as, ik_i0, ik_i1, decide_eq_true_eq, decide_eq_false_iff_not, decide_true, decide_false, Bool.not_true, Bool.not_false, reduceCtorEq, forall_const, false_implies, true_implies, implies_true, true_and, and_true, and_self, false_and, and_false, Bool.and_true, Bool.true_and, not_true_eq_false, not_false_eq_true, if_true, if_false, ite_true, ite_false, ik_bz3_0, ik_bz3_1, ik_bz0, exists_eq', f4, gd, nz1, nz2]
      exact Or.inl ⟨e, a1, by rw [a4], h4⟩
  · have n0 : ¬ (s3.1 0 32 < 0) := by rw [a7]; decide
    simp (decide := true) only [wE_lit, wL_lit, wE_loc, wL_loc, wE_add, wE_sub, wE_mul, wE_and, wE_or, wE_xor, wE_shl, wE_shr, wE_ushr, wE_div, wE_rem, wE_neg, wE_i2b, wE_l2i, wL_i2l, wL_add, wL_mul, wE_fld, wL_fld, wE_arr, wL_arr, wC_cmp, wC_cmp0, wC_cmpL, wC_and, wC_or, wC_not, wC_ite, wL_ite, wA_nil, wA_int, wA_long, wE_call, wL_call, wS_skip, wS_seq, wS_set, wS_setL, wS_inc, wS_if, wS_put, wS_putL, wS_putOp, wS_putOpL, wS_ast, wS_astL, wS_aop, wS_aopL, wS_ret, wS_retL, wS_retV, wS_do, wS_pop, wS_dead, wS_sw, wF_body, Nat.reduceAdd, Nat.zero_add, Bool.not_not, true_and, and_true, if_true, if_false, ↓reduceIte, eq_self, Value.int.injEq, Value.long.injEq, exists_eq_left', ik_b1, ik_b0, ik_bz0, ik_bz3, ik_bz3_1, ik_bz3_0, ik_cmp, ik_cmpL, ik_eI, ik_eL, ik_as, ik_i0, ik_i1, decide_eq_true_eq, decide_eq_false_iff_not, decide_true, decide_false, Bool.not_true, Bool.not_false, reduceCtorEq, forall_const, false_implies, true_implies, implies_true, true_and, and_true, and_self, false_and, and_false, Bool.and_true, Bool.true_and, not_true_eq_false, not_false_eq_true, if_true, if_false, ite_true, ite_false, ik_bz3_0, ik_bz3_1, ik_bz0, exists_eq', a4, n0]
    refine wS_for _ _ (fun j σ => σ.1 6 = nI j ∧ σ.1 1 = w ∧ σ.1 2 = nI N ∧ σ.1 3 = nI n ∧ σ.2.2.2 = s3.2 ∧ (∀ a, a ≠ 15 → σ.2.2.1 a = s3.1 a) ∧ (∀ q, q < 160 * S → σ.2.2.1 15 q = s3.1 15 q) ∧ ∀ q, q < j → σ.2.2.1 15 (160 * S + q) = ik_by (c q)) 0 N _ ⟨by simp [upd, nI_0], by simp [upd, h2], by simp [upd, h3], by simp [upd, a5], rfl, fun _ _ => rfl, fun _ _ => rfl, fun q hq => by omega⟩ (by omega) (by omega) ?_ ?_ ?_
    · rintro j ⟨t1, t2, t3⟩ q1 ⟨q2, -, q3, -⟩
      simp only at q2 q3
      simp (decide := true) only [wE_lit, wL_lit, wE_loc, wL_loc, wE_add, wE_sub, wE_mul, wE_and, wE_or, wE_xor, wE_shl, wE_shr, wE_ushr, wE_div, wE_rem, wE_neg, wE_i2b, wE_l2i, wL_i2l, wL_add, wL_mul, wE_fld, wL_fld, wE_arr, wL_arr, wC_cmp, wC_cmp0, wC_cmpL, wC_and, wC_or, wC_not, wC_ite, wL_ite, wA_nil, wA_int, wA_long, wE_call, wL_call, wS_skip, wS_seq, wS_set, wS_setL, wS_inc, wS_if, wS_put, wS_putL, wS_putOp, wS_putOpL, wS_ast, wS_astL, wS_aop, wS_aopL, wS_ret, wS_retL, wS_retV, wS_do, wS_pop, wS_dead, wS_sw, wF_body, Nat.reduceAdd, Nat.zero_add, Bool.not_not, true_and, and_true, if_true, if_false, ↓reduceIte, eq_self, Value.int.injEq, Value.long.injEq, exists_eq_left', ik_b1, ik_b0, ik_bz0, ik_bz3, ik_bz3_1, ik_bz3_0, ik_cmp, ik_cmpL, ik_eI, ik_eL, ik_as, ik_i0, ik_i1, decide_eq_true_eq, decide_eq_false_iff_not, decide_true, decide_false, Bool.not_true, Bool.not_false, reduceCtorEq, forall_const, false_implies, true_implies, implies_true, true_and, and_true, and_self, false_and, and_false, Bool.and_true, Bool.true_and, not_true_eq_false, not_false_eq_true, if_true, if_false, ite_true, ite_false, ik_bz3_0, ik_bz3_1, ik_bz0, q2, q3, nI_ltI (show j < 2 ^ 31 by omega) (show N < 2 ^ 31 by omega)]
    · rintro j ⟨t1, t2, t3⟩ q1 ⟨q2, q3, q4, q5, q6, q7, q8, q9⟩
      simp only at q2 q3 q4 q5 q6 q7 q8 q9
      have t04 : t3.1 0 4 = nI S := by rw [q7 0 (by decide), h4.2.2.1 4 (by decide) (by decide)]; exact e4'
      have t1j : t3.1 1 j = ik_by (c j) := by rw [q7 1 (by decide), h4.1 1 (by decide) (by decide), z0 1 (by decide)]; exact (hc j q1).2
      have ix := ik_ix_nI (show 160 * S + j < 960 by omega) (by omega)
      have ix2 := ik_ix_nI (show j < 400 by omega) (by omega)
      have e160 : (160 : Int32) * nI S + nI j = nI (160 * S + j) := by rw [show (160 : Int32) = nI 160 from rfl, pk_mul, nI_add]
      have bb := by_by ⟨c j, (hc j q1).1⟩
      simp only at bb
      simp (decide := true) only [wE_lit, wL_lit, wE_loc, wL_loc, wE_add, wE_sub, wE_mul, wE_and, wE_or, wE_xor, wE_shl, wE_shr, wE_ushr, wE_div, wE_rem, wE_neg, wE_i2b, wE_l2i, wL_i2l, wL_add, wL_mul, wE_fld, wL_fld, wE_arr, wL_arr, wC_cmp, wC_cmp0, wC_cmpL, wC_and, wC_or, wC_not, wC_ite, wL_ite, wA_nil, wA_int, wA_long, wE_call, wL_call, wS_skip, wS_seq, wS_set, wS_setL, wS_inc, wS_if, wS_put, wS_putL, wS_putOp, wS_putOpL, wS_ast, wS_astL, wS_aop, wS_aopL, wS_ret, wS_retL, wS_retV, wS_do, wS_pop, wS_dead, wS_sw, wF_body, Nat.reduceAdd, Nat.zero_add, Bool.not_not, true_and, and_true, if_true, if_false, ↓reduceIte, eq_self, Value.int.injEq, Value.long.injEq, exists_eq_left', ik_b1, ik_b0, ik_bz0, ik_bz3, ik_bz3_1, ik_bz3_0, ik_cmp, ik_cmpL, ik_eI, ik_eL, ik_as, ik_i0, ik_i1, decide_eq_true_eq, decide_eq_false_iff_not, decide_true, decide_false, Bool.not_true, Bool.not_false, reduceCtorEq, forall_const, false_implies, true_implies, implies_true, true_and, and_true, and_self, false_and, and_false, Bool.and_true, Bool.true_and, not_true_eq_false, not_false_eq_true, if_true, if_false, ite_true, ite_false, ik_bz3_0, ik_bz3_1, ik_bz0, q2, q3, q4, q5, t04, e160, ix, ix2, Option.some.injEq, t1j, bb, upd_at, upd_off, nI_1, nI_add]
      refine ⟨q6, fun a ha => by rw [ik_si_row _ _ _ _ _ ha]; exact q7 a ha, fun q hq => by rw [ik_si_ne _ _ _ _ _ (by omega)]; exact q8 q hq, fun q hq => ?_⟩
      by_cases ej : q = j
      · subst ej; exact ik_si_same _ _ _ _
      · rw [ik_si_ne _ _ _ _ _ (by omega)]; exact q9 q (by omega)
    · rintro ⟨t1, t2, t3⟩ ⟨q2, q3, q4, q5, q6, q7, q8, q9⟩
      simp only at q3 q5 q6 q7 q8 q9
      have t04 : t3.1 0 4 = nI S := by rw [q7 0 (by decide), h4.2.2.1 4 (by decide) (by decide)]; exact e4'
      have t04a : (ik_si t3 13 S w).1 0 4 = nI S := by rw [ik_si_row _ _ _ _ _ (by decide)]; exact t04
      have t04b : (ik_si (ik_si t3 13 S w) 14 S (nI n)).1 0 4 = nI S := by rw [ik_si_row _ _ _ _ _ (by decide)]; exact t04a
      have ix := ik_ix_nI hS (by omega)
      have bo : ik_bo 0 (nI S) 1 = some (nI (S + 1)) := by show some (nI S + nI 1) = _; rw [nI_add]
      obtain ⟨g9, hg9⟩ : ∃ g9, g9 = ik_si (ik_si (ik_si t3 13 S w) 14 S (nI n)) 0 4 (nI (S + 1)) := ⟨_, rfl⟩
      have g94 : g9.1 0 4 = nI (S + 1) := by rw [hg9]; exact ik_si_same _ _ _ _
      simp (decide := true) only [wE_lit, wL_lit, wE_loc, wL_loc, wE_add, wE_sub, wE_mul, wE_and, wE_or, wE_xor, wE_shl, wE_shr, wE_ushr, wE_div, wE_rem, wE_neg, wE_i2b, wE_l2i, wL_i2l, wL_add, wL_mul, wE_fld, wL_fld, wE_arr, wL_arr, wC_cmp, wC_cmp0, wC_cmpL, wC_and, wC_or, wC_not, wC_ite, wL_ite, wA_nil, wA_int, wA_long, wE_call, wL_call, wS_skip, wS_seq, wS_set, wS_setL, wS_inc, wS_if, wS_put, wS_putL, wS_putOp, wS_putOpL, wS_ast, wS_astL, wS_aop, wS_aopL, wS_ret, wS_retL, wS_retV, wS_do, wS_pop, wS_dead, wS_sw, wF_body, Nat.reduceAdd, Nat.zero_add, Bool.not_not, true_and, and_true, if_true, if_false, ↓reduceIte, eq_self, Value.int.injEq, Value.long.injEq, exists_eq_left', ik_b1, ik_b0, ik_bz0, ik_bz3, ik_bz3_1, ik_bz3_0, ik_cmp, ik_cmpL, ik_eI, ik_eL, ik_as, ik_i0, ik_i1, decide_eq_true_eq, decide_eq_false_iff_not, decide_true, decide_false, Bool.not_true, Bool.not_false, reduceCtorEq, forall_const, false_implies, true_implies, implies_true, true_and, and_true, and_self, false_and, and_false, Bool.and_true, Bool.true_and, not_true_eq_false, not_false_eq_true, if_true, if_false, ite_true, ite_false, ik_bz3_0, ik_bz3_1, ik_bz0, exists_eq', t04, t04a, t04b, q3, q5, ix, Option.some.injEq, bo, ← hg9, g94, nI_pred]
      refine Or.inr ⟨st, brk, n, fr, ln, bg, a1, fun t ht => ?_, fun a b1 b2 b3 b4 b5 => ?_, fun a j b1 b2 hj => ?_, fun j b1 b2 b3 => ?_, ?_, g94, ?_, fun j hj => ?_, ?_, fun j hj => ?_, fun q hq => ?_, fun q hq => ?_⟩
      · have r : ∀ a, 16 ≤ a → a ≤ 19 → g9.1 a = s3.1 a := fun a b1 b2 => by rw [hg9, ik_si_row _ _ _ _ _ (by omega), ik_si_row _ _ _ _ _ (by omega), ik_si_row _ _ _ _ _ (by omega)]; exact q7 a (by omega)
        rw [r 16 (by decide) (by decide), r 17 (by decide) (by decide), r 18 (by decide) (by decide), r 19 (by decide) (by decide)]
        exact a8 t ht
      · rw [hg9, ik_si_row _ _ _ _ _ b1, ik_si_row _ _ _ _ _ b3, ik_si_row _ _ _ _ _ b2, q7 a b4]
        exact h4.1 a b1 b5
      · rw [hg9, ik_si_row _ _ _ _ _ (by omega), ik_si_row _ _ _ _ _ (by omega), ik_si_row _ _ _ _ _ (by omega), q7 a (by omega)]
        exact h4.2.1 a j b1 b2 hj
      · rw [hg9, ik_si_ne _ _ _ _ _ b1, ik_si_row _ _ _ _ _ (by decide), ik_si_row _ _ _ _ _ (by decide), q7 0 (by decide)]
        exact h4.2.2.1 j b2 b3
      · rw [hg9]; exact q6.trans h4.2.2.2
      · rw [hg9, ik_si_row _ _ _ _ _ (by decide), ik_si_row _ _ _ _ _ (by decide)]; exact ik_si_same _ _ _ _
      · rw [hg9, ik_si_row _ _ _ _ _ (by decide), ik_si_row _ _ _ _ _ (by decide), ik_si_ne _ _ _ _ _ hj, q7 13 (by decide)]; rw [h4.1 13 (by decide) (by decide)]
      · rw [hg9, ik_si_row _ _ _ _ _ (by decide)]; exact ik_si_same _ _ _ _
      · rw [hg9, ik_si_row _ _ _ _ _ (by decide), ik_si_ne _ _ _ _ _ hj, ik_si_row _ _ _ _ _ (by decide), q7 14 (by decide)]; rw [h4.1 14 (by decide) (by decide)]
      · rw [hg9, ik_si_row _ _ _ _ _ (by decide), ik_si_row _ _ _ _ _ (by decide), ik_si_row _ _ _ _ _ (by decide)]; exact q9 q hq
      · rw [hg9, ik_si_row _ _ _ _ _ (by decide), ik_si_row _ _ _ _ _ (by decide), ik_si_row _ _ _ _ _ (by decide), q8 q hq]; rw [h4.1 15 (by decide) (by decide)]
