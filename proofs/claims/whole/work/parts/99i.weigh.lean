/-! the odds -/
theorem i64_nI {z : Nat} (hz : z < 2 ^ 31) : (nI z).toInt64 = lN z := by
  apply Int64.toInt_inj.mp
  rw [Int32.toInt_toInt64, nI_toInt hz, lN_toInt hz]
theorem lN_0 : lN 0 = 0 := rfl
theorem lN_z (a : Int64) : a + lN 0 = a := by rw [lN_0]; exact Int64.add_zero a
def wtN (m : GG) (i : Nat) : Nat := (m.1 9 i).toInt.toNat
theorem wtN_ex {m : GG} {i : Nat} (h1 : 1 ≤ m.1 9 i) (h2 : m.1 9 i ≤ 100) : m.1 9 i = nI (wtN m i) ∧ 1 ≤ wtN m i ∧ wtN m i ≤ 100 := by
  obtain ⟨k, hk, e⟩ := nI_of3 (x := m.1 9 i) (a := 100) (by omega) (Int32.le_trans (by decide) h1) h2
  unfold wtN
  rw [e, nI_nat (by omega)]
  rw [e, show (1 : Int32) = nI 1 from rfl, nI_leI (by omega) (by omega)] at h1
  exact ⟨rfl, h1, hk⟩
/-- what name i0 under bar j gains, by the first i names under bar k -/
def ctN (cd : Nat → (Nat → Nat) → Nat → Bool) (w : Nat → Nat) (N d k : Nat) (u : Nat → Nat) (j i0 i : Nat) : Nat := sm (fun i' => if cd k u i' = true then fO w j i0 k i' * nst cd (fO w j i0) N d (k + 1) (updN u k i') else 0) i
theorem ctN_nst (cd : Nat → (Nat → Nat) → Nat → Bool) (w : Nat → Nat) (N d k : Nat) (u : Nat → Nat) (j i0 : Nat) : ctN cd w N d k u j i0 N = nst cd (fO w j i0) N (d + 1) k u := rfl
theorem ctN_s (cd : Nat → (Nat → Nat) → Nat → Bool) (w : Nat → Nat) (N d k : Nat) (u : Nat → Nat) (j i0 i : Nat) : ctN cd w N d k u j i0 (i + 1) = ctN cd w N d k u j i0 i + (if cd k u i = true then fO w j i0 k i * nst cd (fO w j i0) N d (k + 1) (updN u k i) else 0) := rfl
theorem w_weighF {B N T A : Nat} {M : Nat → Nat} {y m : GG} {P : (Nat → Int) → Prop} {ft : Nat → Nat → Bool} {td ld : Bool} (hy : SR B N T M y m A P ft td ld) :
    ∀ (d n k : Nat) (u : Nat → Nat) (g : GG) (W : Nat), k + d = B → 1 ≤ d → d ≤ n → eqS y g → uOK N m g u k → wF (g_weighFrom n) [.int (nI k), .long (lN W)] g (fun v g' => eqS y g' ∧ kpU g g' k ∧ (∀ a, a ≠ 62 → g'.2 a = g.2 a) ∧ (∀ j i, j < 4 → i < 24 → g'.2 62 (24 * j + i) = g.2 62 (24 * j + i) + lN (if k ≤ j ∧ j < B ∧ i < N then W * nst (cdB M y m T ft td ld) (fO (wtN m) j i) N d k u else 0)) ∧ v = .long (lN (W * nst (cdB M y m T ft td ld) (fun _ => wtN m) N d k u)))
  | 0, _, _, _, _, _, _, h1, _, _, _ => absurd h1 (by decide)
  | _ + 1, 0, _, _, _, _, _, _, h2, _, _ => absurd h2 (Nat.not_succ_le_zero _)
  | d + 1, n + 1, k, u, g, W, hB, h1, h2, hg, hu => by
    have hB4 : B ≤ 4 := hy.2.2.2.1
    have hN24 : N ≤ 24 := hy.2.2.1
    obtain ⟨_, g1, ec, p1, rfl⟩ := w_cand hy hg hu (show k < B by omega)
    have hg1 := hg.tr p1.s
    have k1 : kpU g g1 k := fun q _ => ⟨by rw [p1.1 59 (by decide)], by rw [p1.1 60 (by decide)]⟩
    have hu1 := hu.kp k1
    obtain ⟨cd, hcd⟩ : ∃ cd, cd = cdB M y m T ft td ld := ⟨_, rfl⟩
    obtain ⟨b, hb⟩ : ∃ b, b = ik_bs (fun i => decide (i < N) && cdB M y m T ft td ld k u i) 24 := ⟨_, rfl⟩
    have bl : b < 2 ^ 24 := by rw [hb]; exact ik_bs_lt _ _
    have bt : ∀ i, i < N → ib (nI b) i = cd k u i := by
      intro i hi
      rw [ib_nI (by omega), hb, ik_bs_bit, hcd]
      simp [hi, show i < 24 by omega]
    rw [← hb] at ec
    rw [← hcd]
    have isb := w_isBar2 (show k < 4 by omega) g
    have lt : (nI k < nI (B - 1)) ↔ ¬ d = 0 := by
      rw [nI_ltI (by omega) (by omega)]
      omega
    show wF (fX2_weighFrom (fX2_weighBehind (g_weighFrom n))) [.int (nI k), .long (lN W)] g _
    unfold fX2_weighFrom
    simp (decide := true) only [wE_lit, wL_lit, wE_loc, wL_loc, wE_add, wE_sub, wE_mul, wE_and, wE_or, wE_xor, wE_shl, wE_shr, wE_ushr, wE_div, wE_rem, wE_neg, wE_i2b, wE_l2i, wL_i2l, wL_add, wL_mul, wE_fld, wL_fld, wE_arr, wL_arr, wC_cmp, wC_cmp0, wC_cmpL, wC_and, wC_or, wC_not, wC_ite, wL_ite, wA_nil, wA_int, wA_long, wE_call, wL_call, wS_skip, wS_seq, wS_set, wS_setL, wS_inc, wS_if, wS_put, wS_putL, wS_putOp, wS_putOpL, wS_ast, wS_astL, wS_aop, wS_aopL, wS_ret, wS_retL, wS_retV, wS_do, wS_pop, wS_dead, wS_sw, wF_body, Nat.reduceAdd, Nat.zero_add, Bool.not_not, true_and, and_true, if_true, if_false, ↓reduceIte, eq_self, Value.int.injEq, Value.long.injEq, exists_eq_left', ik_b1, ik_b0, ik_bz0, ik_bz3, ik_bz3_1, ik_bz3_0, ik_cmp, ik_cmpL, ik_eI, ik_eL, ik_as, ik_i0, ik_i1, decide_eq_true_eq, decide_eq_false_iff_not, decide_true, decide_false, Bool.not_true, Bool.not_false, reduceCtorEq, forall_const, false_implies, true_implies, implies_true, true_and, and_true, and_self, false_and, and_false, Bool.and_true, Bool.true_and, not_true_eq_false, not_false_eq_true, if_true, if_false, ite_true, ite_false, ik_bz3_0, ik_bz3_1, ik_bz0, isb, wF_eq ec, upd_at, upd_off]
    refine wS_for _ _ (fun i σ => σ.1 7 = nI i ∧ σ.1 1 = nI k ∧ σ.1 4 = nI b ∧ σ.2.1 2 = lN W ∧ σ.2.1 5 = lN (W * sm (fun i => if cd k u i = true then wtN m i * nst cd (fun _ => wtN m) N d (k + 1) (updN u k i) else 0) i) ∧ eqS y σ.2.2 ∧ kpU g σ.2.2 k ∧ (∀ a, a ≠ 62 → σ.2.2.2 a = g.2 a) ∧ ∀ j i0, j < 4 → i0 < 24 → σ.2.2.2 62 (24 * j + i0) = g.2 62 (24 * j + i0) + lN (if k ≤ j ∧ j < B ∧ i0 < N then W * ctN cd (wtN m) N d k u j i0 i else 0)) 0 N _ ⟨by simp [upd, nI_0], by simp [upd, ik_eI], by simp [upd], by simp [vp_updL, ik_eL], by simp [vp_updL, sm, lN_0], hg1, k1, fun a _ => by rw [p1.2.2], fun j i0 _ _ => ?_⟩ (by omega) (by omega) ?_ ?_ ?_
    · show g1.2 62 (24 * j + i0) = _
      rw [p1.2.2, show W * ctN cd (wtN m) N d k u j i0 0 = 0 from rfl]
      simp only [ite_self]
      exact (lN_z _).symm
    · rintro i ⟨t1, t2, t3⟩ a1 ⟨a2, a3, a4, a5, a6, a7, a8, a9, a10⟩
      simp only at a2 a7
      exact wc_X (M := 24) (by show t3.1 48 10 = _; rw [a7.1 48 (by decide) (by decide) (by decide) (by decide)]; exact hy.2.2.2.2.2.1) hN24 (by decide) a1 a2
    · rintro i ⟨t1, t2, t3⟩ a1 ⟨a2, a3, a4, a5, a6, a7, a8, a9, a10⟩
      simp only at a2 a3 a4 a5 a6 a7 a8 a9 a10
      have bb := w_bitb (nI b) (show i < 32 by omega) t3
      rw [bt i a1] at bb
      have nx : nI i + (1 : Int32) = nI (i + 1) := by show nI i + nI 1 = _; rw [nI_add]
      obtain ⟨e57, wb, e58, w1, w2⟩ := hy.2.2.2.2.2.2.2.2.1 i a1
      obtain ⟨we, wl1, wl2⟩ := wtN_ex w1 w2
      have w57 : t3.1 57 i = ik_nw m i := by rw [a7.1 57 (by decide) (by decide) (by decide) (by decide)]; exact e57
      have w58 : t3.1 58 i = nI (wtN m i) := by rw [a7.1 58 (by decide) (by decide) (by decide) (by decide), ← we]; exact e58
      have e9 : t3.1 48 9 = nI (B - 1 + 1) := by rw [a7.1 48 (by decide) (by decide) (by decide) (by decide), hy.2.2.2.2.1, show B - 1 + 1 = B by omega]
      have ix58 := ik_ix_nI (show i < 24 by omega) (by omega)
      have ix62 := ik_ix_nI (show 24 * k + i < 96 by omega) (by omega)
      have e62 : nI k * (24 : Int32) + nI i = nI (24 * k + i) := by rw [show (24 : Int32) = nI 24 from rfl, pk_mul, nI_add, Nat.mul_comm]
      have i64w := i64_nI (z := wtN m i) (by omega)
      cases hc : cd k u i with
      | false =>
        rw [hc] at bb
        simp (decide := true) only [wE_lit, wL_lit, wE_loc, wL_loc, wE_add, wE_sub, wE_mul, wE_and, wE_or, wE_xor, wE_shl, wE_shr, wE_ushr, wE_div, wE_rem, wE_neg, wE_i2b, wE_l2i, wL_i2l, wL_add, wL_mul, wE_fld, wL_fld, wE_arr, wL_arr, wC_cmp, wC_cmp0, wC_cmpL, wC_and, wC_or, wC_not, wC_ite, wL_ite, wA_nil, wA_int, wA_long, wE_call, wL_call, wS_skip, wS_seq, wS_set, wS_setL, wS_inc, wS_if, wS_put, wS_putL, wS_putOp, wS_putOpL, wS_ast, wS_astL, wS_aop, wS_aopL, wS_ret, wS_retL, wS_retV, wS_do, wS_pop, wS_dead, wS_sw, wF_body, Nat.reduceAdd, Nat.zero_add, Bool.not_not, true_and, and_true, if_true, if_false, ↓reduceIte, eq_self, Value.int.injEq, Value.long.injEq, exists_eq_left', ik_b1, ik_b0, ik_bz0, ik_bz3, ik_bz3_1, ik_bz3_0, ik_cmp, ik_cmpL, ik_eI, ik_eL, ik_as, ik_i0, ik_i1, decide_eq_true_eq, decide_eq_false_iff_not, decide_true, decide_false, Bool.not_true, Bool.not_false, reduceCtorEq, forall_const, false_implies, true_implies, implies_true, true_and, and_true, and_self, false_and, and_false, Bool.and_true, Bool.true_and, not_true_eq_false, not_false_eq_true, if_true, if_false, ite_true, ite_false, ik_bz3_0, ik_bz3_1, ik_bz0, a2, a3, a4, bb, show ik_b2 false = 0 from rfl, upd_at, upd_off, nx]
        refine ⟨a5, ?_, a7, a8, a9, fun j i0 j4 i24 => ?_⟩
        · rw [a6]
          show _ = lN (W * (sm _ i + (if cd k u i = true then _ else 0)))
          rw [hc]
          rfl
        · rw [a10 j i0 j4 i24, ctN_s, hc]
          rfl
      | true =>
        rw [hc] at bb
        -- what goes on behind
        obtain ⟨g2, V, p2, p3, p4, p5, hV, cont⟩ : ∃ (g2 : GG) (V : Nat), eqS y g2 ∧ kpU g g2 k ∧ (∀ a, a ≠ 62 → g2.2 a = g.2 a) ∧ (∀ j i0, j < 4 → i0 < 24 → g2.2 62 (24 * j + i0) = t3.2 62 (24 * j + i0) + lN (if k < j ∧ j < B ∧ i0 < N then (W * wtN m i) * nst cd (fO (wtN m) j i0) N d (k + 1) (updN u k i) else 0)) ∧ V = nst cd (fun _ => wtN m) N d (k + 1) (updN u k i) ∧ ∀ (q1 : Nat → Int32) (q2 : Nat → Int64) (J : Int64 → GG → Prop), q1 1 = nI k → q1 7 = nI i → q2 8 = lN (W * wtN m i) → (wL (sIteL (sCmp 2 (sLoc 1) (sBin 1 (sFld 48 9) (sLit 1))) (sCallL (fX2_weighBehind (g_weighFrom n)) (sArgI (sLoc 1) (sArgI (sLoc 7) (sArgL (sLocL 8) sNil)))) (sLocL 8)) (q1, q2, t3) J ↔ J (lN ((W * wtN m i) * V)) g2) := by
          by_cases d0 : d = 0
          · subst d0
            refine ⟨t3, 1, a7, a8, a9, fun j i0 j4 i24 => ?_, rfl, fun q1 q2 J b1 b2 b3 => ?_⟩
            · rw [if_neg (by omega)]
              exact (lN_z _).symm
            · have lF := eq_false (fun q => (lt.mp q) rfl)
              simp (decide := true) only [wE_lit, wL_lit, wE_loc, wL_loc, wE_add, wE_sub, wE_mul, wE_and, wE_or, wE_xor, wE_shl, wE_shr, wE_ushr, wE_div, wE_rem, wE_neg, wE_i2b, wE_l2i, wL_i2l, wL_add, wL_mul, wE_fld, wL_fld, wE_arr, wL_arr, wC_cmp, wC_cmp0, wC_cmpL, wC_and, wC_or, wC_not, wC_ite, wL_ite, wA_nil, wA_int, wA_long, wE_call, wL_call, wS_skip, wS_seq, wS_set, wS_setL, wS_inc, wS_if, wS_put, wS_putL, wS_putOp, wS_putOpL, wS_ast, wS_astL, wS_aop, wS_aopL, wS_ret, wS_retL, wS_retV, wS_do, wS_pop, wS_dead, wS_sw, wF_body, Nat.reduceAdd, Nat.zero_add, Bool.not_not, true_and, and_true, if_true, if_false, ↓reduceIte, eq_self, Value.int.injEq, Value.long.injEq, exists_eq_left', ik_b1, ik_b0, ik_bz0, ik_bz3, ik_bz3_1, ik_bz3_0, ik_cmp, ik_cmpL, ik_eI, ik_eL, ik_as, ik_i0, ik_i1, decide_eq_true_eq, decide_eq_false_iff_not, decide_true, decide_false, Bool.not_true, Bool.not_false, reduceCtorEq, forall_const, false_implies, true_implies, implies_true, true_and, and_true, and_self, false_and, and_false, Bool.and_true, Bool.true_and, not_true_eq_false, not_false_eq_true, if_true, if_false, ite_true, ite_false, ik_bz3_0, ik_bz3_1, ik_bz0, b1, e9, nI_pred, lF, b3, Nat.mul_one]
          · have ih := w_weighF hy d n (k + 1) (updN u k i) (gUn t3 k (nI i) (ik_nw m i)) (W * wtN m i) (by omega) (by omega) (by omega) (gUn_s a7 _ _ _) (gUn_ok (hu.kp a8) a1)
            obtain ⟨_, g2, e2, c2, c3, c4, c5, rfl⟩ := ih
            rw [← hcd] at e2 c5
            have eb : fX2_weighBehind (g_weighFrom n) [.int (nI k), .int (nI i), .long (lN (W * wtN m i))] t3 = some (.long (lN ((W * wtN m i) * nst cd (fun _ => wtN m) N d (k + 1) (updN u k i))), g2) := by
              apply eq_of_wF
              unfold fX2_weighBehind
              simp (decide := true) only [wE_lit, wL_lit, wE_loc, wL_loc, wE_add, wE_sub, wE_mul, wE_and, wE_or, wE_xor, wE_shl, wE_shr, wE_ushr, wE_div, wE_rem, wE_neg, wE_i2b, wE_l2i, wL_i2l, wL_add, wL_mul, wE_fld, wL_fld, wE_arr, wL_arr, wC_cmp, wC_cmp0, wC_cmpL, wC_and, wC_or, wC_not, wC_ite, wL_ite, wA_nil, wA_int, wA_long, wE_call, wL_call, wS_skip, wS_seq, wS_set, wS_setL, wS_inc, wS_if, wS_put, wS_putL, wS_putOp, wS_putOpL, wS_ast, wS_astL, wS_aop, wS_aopL, wS_ret, wS_retL, wS_retV, wS_do, wS_pop, wS_dead, wS_sw, wF_body, Nat.reduceAdd, Nat.zero_add, Bool.not_not, true_and, and_true, if_true, if_false, ↓reduceIte, eq_self, Value.int.injEq, Value.long.injEq, exists_eq_left', ik_b1, ik_b0, ik_bz0, ik_bz3, ik_bz3_1, ik_bz3_0, ik_cmp, ik_cmpL, ik_eI, ik_eL, ik_as, ik_i0, ik_i1, decide_eq_true_eq, decide_eq_false_iff_not, decide_true, decide_false, Bool.not_true, Bool.not_false, reduceCtorEq, forall_const, false_implies, true_implies, implies_true, true_and, and_true, and_self, false_and, and_false, Bool.and_true, Bool.true_and, not_true_eq_false, not_false_eq_true, if_true, if_false, ite_true, ite_false, ik_bz3_0, ik_bz3_1, ik_bz0, w_putF (show k < 4 by omega) (show i < 24 by omega) t3 w57, nI_1, nI_add, wF_eq e2]
            refine ⟨g2, _, c2, fun q hq => ?_, fun a ha => ?_, fun j i0 j4 i24 => ?_, rfl, fun q1 q2 J b1 b2 b3 => ?_⟩
            · have q1 := c3 q (by omega)
              have q2 := gUn_kp t3 k (nI i) (ik_nw m i) q hq
              have q3 := a8 q hq
              exact ⟨q1.1.trans (q2.1.trans q3.1), q1.2.trans (q2.2.trans q3.2)⟩
            · rw [c4 a ha]; exact a9 a ha
            · rw [c5 j i0 j4 i24]
              rfl
            · have lT := eq_true (lt.mpr d0)
              simp (decide := true) only [wE_lit, wL_lit, wE_loc, wL_loc, wE_add, wE_sub, wE_mul, wE_and, wE_or, wE_xor, wE_shl, wE_shr, wE_ushr, wE_div, wE_rem, wE_neg, wE_i2b, wE_l2i, wL_i2l, wL_add, wL_mul, wE_fld, wL_fld, wE_arr, wL_arr, wC_cmp, wC_cmp0, wC_cmpL, wC_and, wC_or, wC_not, wC_ite, wL_ite, wA_nil, wA_int, wA_long, wE_call, wL_call, wS_skip, wS_seq, wS_set, wS_setL, wS_inc, wS_if, wS_put, wS_putL, wS_putOp, wS_putOpL, wS_ast, wS_astL, wS_aop, wS_aopL, wS_ret, wS_retL, wS_retV, wS_do, wS_pop, wS_dead, wS_sw, wF_body, Nat.reduceAdd, Nat.zero_add, Bool.not_not, true_and, and_true, if_true, if_false, ↓reduceIte, eq_self, Value.int.injEq, Value.long.injEq, exists_eq_left', ik_b1, ik_b0, ik_bz0, ik_bz3, ik_bz3_1, ik_bz3_0, ik_cmp, ik_cmpL, ik_eI, ik_eL, ik_as, ik_i0, ik_i1, decide_eq_true_eq, decide_eq_false_iff_not, decide_true, decide_false, Bool.not_true, Bool.not_false, reduceCtorEq, forall_const, false_implies, true_implies, implies_true, true_and, and_true, and_self, false_and, and_false, Bool.and_true, Bool.true_and, not_true_eq_false, not_false_eq_true, if_true, if_false, ite_true, ite_false, ik_bz3_0, ik_bz3_1, ik_bz0, b1, b2, e9, nI_pred, lT, b3, wF_eq eb]
        simp (decide := true) only [wE_lit, wL_lit, wE_loc, wL_loc, wE_add, wE_sub, wE_mul, wE_and, wE_or, wE_xor, wE_shl, wE_shr, wE_ushr, wE_div, wE_rem, wE_neg, wE_i2b, wE_l2i, wL_i2l, wL_add, wL_mul, wE_fld, wL_fld, wE_arr, wL_arr, wC_cmp, wC_cmp0, wC_cmpL, wC_and, wC_or, wC_not, wC_ite, wA_nil, wA_int, wA_long, wE_call, wL_call, wS_skip, wS_seq, wS_set, wS_setL, wS_inc, wS_if, wS_put, wS_putL, wS_putOp, wS_putOpL, wS_ast, wS_astL, wS_aop, wS_aopL, wS_ret, wS_retL, wS_retV, wS_do, wS_pop, wS_dead, wS_sw, wF_body, Nat.reduceAdd, Nat.zero_add, Bool.not_not, true_and, and_true, if_true, if_false, ↓reduceIte, eq_self, Value.int.injEq, Value.long.injEq, exists_eq_left', ik_b1, ik_b0, ik_bz0, ik_bz3, ik_bz3_1, ik_bz3_0, ik_cmp, ik_cmpL, ik_eI, ik_eL, ik_as, ik_i0, ik_i1, decide_eq_true_eq, decide_eq_false_iff_not, decide_true, decide_false, Bool.not_true, Bool.not_false, reduceCtorEq, forall_const, false_implies, true_implies, implies_true, true_and, and_true, and_self, false_and, and_false, Bool.and_true, Bool.true_and, not_true_eq_false, not_false_eq_true, if_true, if_false, ite_true, ite_false, ik_bz3_0, ik_bz3_1, ik_bz0, a2, a3, a4, a5, bb, show ik_b2 true = 1 from rfl, ix58, Option.some.injEq, w58, i64w, lN_mul]
        rw [cont _ _ _ (by simp [a3]) (by simp [a2]) (by simp [vp_updL])]
        simp (decide := true) only [wE_lit, wL_lit, wE_loc, wL_loc, wE_add, wE_sub, wE_mul, wE_and, wE_or, wE_xor, wE_shl, wE_shr, wE_ushr, wE_div, wE_rem, wE_neg, wE_i2b, wE_l2i, wL_i2l, wL_add, wL_mul, wE_fld, wL_fld, wE_arr, wL_arr, wC_cmp, wC_cmp0, wC_cmpL, wC_and, wC_or, wC_not, wC_ite, wL_ite, wA_nil, wA_int, wA_long, wE_call, wL_call, wS_skip, wS_seq, wS_set, wS_setL, wS_inc, wS_if, wS_put, wS_putL, wS_putOp, wS_putOpL, wS_ast, wS_astL, wS_aop, wS_aopL, wS_ret, wS_retL, wS_retV, wS_do, wS_pop, wS_dead, wS_sw, wF_body, Nat.reduceAdd, Nat.zero_add, Bool.not_not, true_and, and_true, if_true, if_false, ↓reduceIte, eq_self, Value.int.injEq, Value.long.injEq, exists_eq_left', ik_b1, ik_b0, ik_bz0, ik_bz3, ik_bz3_1, ik_bz3_0, ik_cmp, ik_cmpL, ik_eI, ik_eL, ik_as, ik_i0, ik_i1, decide_eq_true_eq, decide_eq_false_iff_not, decide_true, decide_false, Bool.not_true, Bool.not_false, reduceCtorEq, forall_const, false_implies, true_implies, implies_true, true_and, and_true, and_self, false_and, and_false, Bool.and_true, Bool.true_and, not_true_eq_false, not_false_eq_true, if_true, if_false, ite_true, ite_false, ik_bz3_0, ik_bz3_1, ik_bz0, a2, a3, a4, a5, a6, e62, ix62, Option.some.injEq, upd_at, upd_off, nx, vp_updL, lN_add]
        refine ⟨?_, p2.sl _ _ _, p3, fun a ha => ?_, fun j i0 j4 i24 => ?_⟩
        · show _ = lN (W * (sm _ i + (if cd k u i = true then _ else 0)))
          rw [hc, if_pos rfl, hV, Nat.mul_add, Nat.mul_assoc]
        · rw [ik_sl_row _ _ _ _ _ ha]; exact p4 a ha
        · rw [ctN_s, hc, if_pos rfl]
          have pv := p5 j i0 j4 i24
          have av := a10 j i0 j4 i24
          by_cases ek : j = k
          · subst ek
            rw [if_neg (by omega), lN_z] at pv
            by_cases ei : i0 = i
            · subst ei
              rw [ik_sl_same, pv, av, if_pos ⟨Nat.le_refl _, by omega, a1⟩, if_pos ⟨Nat.le_refl _, by omega, a1⟩, hV]
              have e1 : fO (wtN m) j i0 j i0 = wtN m i0 := by unfold fO; rw [if_neg (fun q => q.2 rfl)]
              rw [e1, fO_nst _ _ _ (Nat.lt_succ_self _), Int64.add_assoc, lN_add, Nat.mul_add, Nat.mul_assoc]
            · have ne : 24 * j + i0 ≠ 24 * j + i := by omega
              have e1 : fO (wtN m) j i0 j i = 0 := by unfold fO; rw [if_pos ⟨rfl, fun q => ei q.symm⟩]
              have : (ik_sl g2 62 (24 * j + i) (g2.2 62 (24 * j + i) + lN (W * wtN m i * V))).2 62 (24 * j + i0) = g2.2 62 (24 * j + i0) := by simp [ik_sl, ei]
              rw [this, pv, av, e1, Nat.zero_mul, Nat.add_zero]
          · have ne : 24 * j + i0 ≠ 24 * k + i := by omega
            have : (ik_sl g2 62 (24 * k + i) (g2.2 62 (24 * k + i) + lN (W * wtN m i * V))).2 62 (24 * j + i0) = g2.2 62 (24 * j + i0) := by simp [ik_sl, ne]
            rw [this, pv, av, fO_off (fun q => ek q.symm)]
            by_cases c : k ≤ j ∧ j < B ∧ i0 < N
            · rw [if_pos c, if_pos ⟨by omega, c.2⟩, if_pos c, Int64.add_assoc, lN_add, Nat.mul_add, Nat.mul_assoc]
            · rw [if_neg c, if_neg (fun q => c ⟨by omega, q.2⟩), if_neg c, lN_z]
    · rintro ⟨t1, t2, t3⟩ ⟨a2, a3, a4, a5, a6, a7, a8, a9, a10⟩
      simp only at a6 a7 a8 a9 a10
      simp (decide := true) only [wE_lit, wL_lit, wE_loc, wL_loc, wE_add, wE_sub, wE_mul, wE_and, wE_or, wE_xor, wE_shl, wE_shr, wE_ushr, wE_div, wE_rem, wE_neg, wE_i2b, wE_l2i, wL_i2l, wL_add, wL_mul, wE_fld, wL_fld, wE_arr, wL_arr, wC_cmp, wC_cmp0, wC_cmpL, wC_and, wC_or, wC_not, wC_ite, wL_ite, wA_nil, wA_int, wA_long, wE_call, wL_call, wS_skip, wS_seq, wS_set, wS_setL, wS_inc, wS_if, wS_put, wS_putL, wS_putOp, wS_putOpL, wS_ast, wS_astL, wS_aop, wS_aopL, wS_ret, wS_retL, wS_retV, wS_do, wS_pop, wS_dead, wS_sw, wF_body, Nat.reduceAdd, Nat.zero_add, Bool.not_not, true_and, and_true, if_true, if_false, ↓reduceIte, eq_self, Value.int.injEq, Value.long.injEq, exists_eq_left', ik_b1, ik_b0, ik_bz0, ik_bz3, ik_bz3_1, ik_bz3_0, ik_cmp, ik_cmpL, ik_eI, ik_eL, ik_as, ik_i0, ik_i1, decide_eq_true_eq, decide_eq_false_iff_not, decide_true, decide_false, Bool.not_true, Bool.not_false, reduceCtorEq, forall_const, false_implies, true_implies, implies_true, true_and, and_true, and_self, false_and, and_false, Bool.and_true, Bool.true_and, not_true_eq_false, not_false_eq_true, if_true, if_false, ite_true, ite_false, ik_bz3_0, ik_bz3_1, ik_bz0, a6]
      refine ⟨a7, a8, a9, fun j i j4 i24 => ?_, rfl⟩
      rw [a10 j i j4 i24, ctN_nst]
