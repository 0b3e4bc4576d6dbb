/-! which names each bar has in some filling -/
theorem ik_bz3b (b : Bool) : ik_bz 3 (ik_b2 b) = true := by cases b <;> rfl
abbrev w1 : Nat → Nat := fun _ => 1
theorem pos_at {cd : Nat → (Nat → Nat) → Nat → Bool} {N d k i : Nat} {u : Nat → Nat} (hi : i < N) : (0 < nst cd (fO w1 k i) N (d + 1) k u) ↔ (cd k u i = true ∧ 0 < nst cd (fun _ => w1) N d (k + 1) (updN u k i)) := by
  have e0 : fO w1 k i k i = 1 := by unfold fO; rw [if_neg (fun q => q.2 rfl)]
  have z : ∀ i', i' ≠ i → fO w1 k i k i' = 0 := fun i' h => by unfold fO; rw [if_pos ⟨rfl, h⟩]
  rw [show nst cd (fO w1 k i) N (d + 1) k u = sm (fun i' => if cd k u i' = true then fO w1 k i k i' * nst cd (fO w1 k i) N d (k + 1) (updN u k i') else 0) N from rfl, sm_pos]
  constructor
  · rintro ⟨i', h1, h2⟩
    by_cases e : i' = i
    · subst e
      by_cases c : cd k u i' = true
      · rw [if_pos c, e0, Nat.one_mul, fO_nst _ _ _ (Nat.lt_succ_self _)] at h2
        exact ⟨c, h2⟩
      · rw [if_neg c] at h2
        exact absurd h2 (Nat.lt_irrefl _)
    · rw [z i' e] at h2
      simp at h2
  · rintro ⟨h1, h2⟩
    refine ⟨i, hi, ?_⟩
    rw [if_pos h1, e0, Nat.one_mul, fO_nst _ _ _ (Nat.lt_succ_self _)]
    exact h2
theorem pos_any {cd : Nat → (Nat → Nat) → Nat → Bool} {N d k : Nat} {u : Nat → Nat} : (0 < nst cd (fun _ => w1) N (d + 1) k u) ↔ ∃ i, i < N ∧ cd k u i = true ∧ 0 < nst cd (fun _ => w1) N d (k + 1) (updN u k i) := by
  rw [show nst cd (fun _ => w1) N (d + 1) k u = sm (fun i' => if cd k u i' = true then 1 * nst cd (fun _ => w1) N d (k + 1) (updN u k i') else 0) N from rfl, sm_pos]
  constructor
  · rintro ⟨i, h1, h2⟩
    by_cases c : cd k u i = true
    · rw [if_pos c, Nat.one_mul] at h2
      exact ⟨i, h1, c, h2⟩
    · rw [if_neg c] at h2
      exact absurd h2 (Nat.lt_irrefl _)
  · rintro ⟨i, h1, h2, h3⟩
    refine ⟨i, h1, ?_⟩
    rw [if_pos h2, Nat.one_mul]
    exact h3
theorem dor {p q : Prop} [Decidable p] [Decidable q] {b c : Bool} (h1 : b = (c || decide p)) (h2 : p ↔ q) : b = (c || decide q) := by
  rw [h1]
  congr 1
  exact decide_eq_decide.mpr h2
theorem w_reachF {B N T A : Nat} {M : Nat → Nat} {y m : GG} {P : (Nat → Int) → Prop} {ft : Nat → Nat → Bool} {td ld : Bool} (hy : SR B N T M y m A P ft td ld) :
    ∀ (d n k : Nat) (u : Nat → Nat) (g : GG), k + d = B → 1 ≤ d → d ≤ n → eqS y g → uOK N m g u k → wF (g_reachFrom n) [.int (nI k)] g (fun v g' => eqS y g' ∧ kpU g g' k ∧ g'.2 = g.2 ∧ (∀ j i, j < 4 → i < 32 → ib (g'.1 61 j) i = (ib (g.1 61 j) i || decide (k ≤ j ∧ j < B ∧ i < N ∧ 0 < nst (cdB M y m T ft td ld) (fO w1 j i) N d k u))) ∧ v = .int (ik_b2 (decide (0 < nst (cdB M y m T ft td ld) (fun _ => w1) N d k u))))
  | 0, _, _, _, _, _, h1, _, _, _ => absurd h1 (by decide)
  | _ + 1, 0, _, _, _, _, _, h2, _, _ => absurd h2 (Nat.not_succ_le_zero _)
  | d + 1, n + 1, k, u, g, hB, h1, h2, hg, hu => by
    have hB4 : B ≤ 4 := hy.2.2.2.1
    have hN24 : N ≤ 24 := hy.2.2.1
    obtain ⟨_, g1, ec, p1, rfl⟩ := w_cand hy hg hu (show k < B by omega)
    have hg1 := hg.tr p1.s
    have k1 : kpU g g1 k := fun q _ => ⟨by rw [p1.1 59 (by decide)], by rw [p1.1 60 (by decide)]⟩
    have hu1 := hu.kp k1
    obtain ⟨cd, hcd⟩ : ∃ cd, cd = cdB M y m T ft td ld := ⟨_, rfl⟩
    obtain ⟨b, hb⟩ : ∃ b, b = ik_bs (fun i => decide (i < N) && cdB M y m T ft td ld k u i) 24 := ⟨_, rfl⟩
    have bl : b < 2 ^ 24 := by rw [hb]; exact ik_bs_lt _ _
    have bt : ∀ i, i < 32 → ib (nI b) i = (decide (i < N) && cd k u i) := by
      intro i hi
      rw [ib_nI (by omega), hb, ik_bs_bit, hcd]
      by_cases c : i < N
      · simp [c, show i < 24 by omega]
      · simp [c]
    rw [← hb] at ec
    rw [← hcd]
    have isb := w_isBar2 (show k < 4 by omega) g
    have ixk := ik_ix_nI (show k < 4 by omega) (by omega)
    have lt : (nI k < nI (B - 1)) ↔ ¬ d = 0 := by
      rw [nI_ltI (by omega) (by omega)]
      omega
    have e9 : ∀ g2, eqS y g2 → g2.1 48 9 = nI (B - 1 + 1) := fun g2 h => by rw [h.1 48 (by decide) (by decide) (by decide) (by decide), hy.2.2.2.2.1, show B - 1 + 1 = B by omega]
    -- at the end: the bits that are left
    have fin : ∀ (t1 : Nat → Int32) (t2 : Nat → Int64) (t3 : GG), t1 1 = nI k → (∀ j, j < 32 → ib (t1 2) j = (decide (j < N) && cd k u j && decide (0 < nst cd (fun _ => w1) N d (k + 1) (updN u k j)))) → eqS y t3 → kpU g t3 k → t3.2 = g.2 → (∀ j i, j < 4 → i < 32 → ib (t3.1 61 j) i = (ib (g.1 61 j) i || decide (k < j ∧ j < B ∧ i < N ∧ 0 < nst cd (fO w1 j i) N (d + 1) k u))) →
        wS (sSeq (sAop 61 4 4 (sLoc 1) (sLoc 2)) (sRet 3 (sIte (sCmp0 1 (sLoc 2)) (sLit 1) (sLit 0)))) (t1, t2, t3) (fun _ => False) (fun v g' => eqS y g' ∧ kpU g g' k ∧ g'.2 = g.2 ∧ (∀ j i, j < 4 → i < 32 → ib (g'.1 61 j) i = (ib (g.1 61 j) i || decide (k ≤ j ∧ j < B ∧ i < N ∧ 0 < nst cd (fO w1 j i) N (d + 1) k u))) ∧ v = .int (ik_b2 (decide (0 < nst cd (fun _ => w1) N (d + 1) k u)))) := by
      intro t1 t2 t3 e1 e2 e3 e4 e5 e6
      have bo : ik_bo 4 (t3.1 61 k) (t1 2) = some (t3.1 61 k ||| t1 2) := rfl
      have ss : eqS y (ik_si t3 61 k (t3.1 61 k ||| t1 2)) := e3.si _ (by omega)
      have kk : kpU g (ik_si t3 61 k (t3.1 61 k ||| t1 2)) k := fun q hq => by
        rw [ik_si_row _ _ _ _ _ (by decide), ik_si_row _ _ _ _ _ (by decide)]
        exact e4 q hq
      have rows : ∀ j i, j < 4 → i < 32 → ib ((ik_si t3 61 k (t3.1 61 k ||| t1 2)).1 61 j) i = (ib (g.1 61 j) i || decide (k ≤ j ∧ j < B ∧ i < N ∧ 0 < nst cd (fO w1 j i) N (d + 1) k u)) := by
        intro j i j4 i32
        have q := e6 j i j4 i32
        by_cases e : j = k
        · subst e
          rw [ik_si_same, ib_or, q, e2 i i32, decide_eq_false (show ¬ (j < j ∧ j < B ∧ i < N ∧ 0 < nst cd (fO w1 j i) N (d + 1) j u) from fun z => Nat.lt_irrefl _ z.1), Bool.or_false]
          congr 1
          by_cases c : i < N
          · have := pos_at (cd := cd) (d := d) (k := j) (u := u) c
            rw [decide_eq_true c, Bool.true_and]
            cases hc : cd j u i with
            | false =>
              rw [hc] at this
              symm
              simp only [Bool.false_and]
              exact decide_eq_false (fun z => absurd (this.mp z.2.2.2).1 (by decide))
            | true =>
              rw [hc] at this
              rw [Bool.true_and]
              refine decide_eq_decide.mpr ⟨fun z => ⟨Nat.le_refl _, by omega, c, this.mpr ⟨rfl, z⟩⟩, fun z => (this.mp z.2.2.2).2⟩
          · rw [decide_eq_false c, Bool.false_and, Bool.false_and]
            symm
            exact decide_eq_false (fun z => c z.2.2.1)
        · rw [ik_si_ne _ _ _ _ _ e]
          exact dor q ⟨fun z => ⟨by omega, z.2⟩, fun z => ⟨by omega, z.2⟩⟩
      have val : (t1 2 = 0) ↔ ¬ 0 < nst cd (fun _ => w1) N (d + 1) k u := by
        rw [ib_z, pos_any]
        constructor
        · rintro a ⟨i, h1, h2, h3⟩
          have := a i (by omega)
          rw [e2 i (by omega), h2, decide_eq_true h1, decide_eq_true h3] at this
          cases this
        · intro a j hj
          rw [e2 j hj]
          cases hc : cd k u j with
          | false => simp
          | true =>
            by_cases c : j < N
            · rw [decide_eq_false (fun z => a ⟨j, c, hc, z⟩)]
              simp
            · simp [c]
      by_cases z : t1 2 = 0
      · have nz := val.mp z
        rw [decide_eq_false nz]
        rw [z] at ss kk rows bo
        simp (decide := true) only [wE_lit, wL_lit, wE_loc, wL_loc, wE_add, wE_sub, wE_mul, wE_and, wE_or, wE_xor, wE_shl, wE_shr, wE_ushr, wE_div, wE_rem, wE_neg, wE_i2b, wE_l2i, wL_i2l, wL_add, wL_mul, wE_fld, wL_fld, wE_arr, wL_arr, wC_cmp, wC_cmp0, wC_cmpL, wC_and, wC_or, wC_not, wC_ite, wL_ite, wA_nil, wA_int, wA_long, wE_call, wL_call, wS_skip, wS_seq, wS_set, wS_setL, wS_inc, wS_if, wS_put, wS_putL, wS_putOp, wS_putOpL, wS_ast, wS_astL, wS_aop, wS_aopL, wS_ret, wS_retL, wS_retV, wS_do, wS_pop, wS_dead, wS_sw, wF_body, Nat.reduceAdd, Nat.zero_add, Bool.not_not, true_and, and_true, if_true, if_false, ↓reduceIte, eq_self, Value.int.injEq, Value.long.injEq, exists_eq_left', ik_b1, ik_b0, ik_bz0, ik_bz3, ik_bz3_1, ik_bz3_0, ik_cmp, ik_cmpL, ik_eI, ik_eL, ik_as, ik_i0, ik_i1, decide_eq_true_eq, decide_eq_false_iff_not, decide_true, decide_false, Bool.not_true, Bool.not_false, reduceCtorEq, forall_const, false_implies, true_implies, implies_true, true_and, and_true, and_self, false_and, and_false, Bool.and_true, Bool.true_and, not_true_eq_false, not_false_eq_true, if_true, if_false, ite_true, ite_false, ik_bz3_0, ik_bz3_1, ik_bz0, wE_ite2, e1, ixk, Option.some.injEq, z, bo]
        exact ⟨ss, kk, e5, rows⟩
      · have nz : 0 < nst cd (fun _ => w1) N (d + 1) k u := Classical.byContradiction (fun q => z (val.mpr q))
        rw [decide_eq_true nz]
        simp (decide := true) only [wE_lit, wL_lit, wE_loc, wL_loc, wE_add, wE_sub, wE_mul, wE_and, wE_or, wE_xor, wE_shl, wE_shr, wE_ushr, wE_div, wE_rem, wE_neg, wE_i2b, wE_l2i, wL_i2l, wL_add, wL_mul, wE_fld, wL_fld, wE_arr, wL_arr, wC_cmp, wC_cmp0, wC_cmpL, wC_and, wC_or, wC_not, wC_ite, wL_ite, wA_nil, wA_int, wA_long, wE_call, wL_call, wS_skip, wS_seq, wS_set, wS_setL, wS_inc, wS_if, wS_put, wS_putL, wS_putOp, wS_putOpL, wS_ast, wS_astL, wS_aop, wS_aopL, wS_ret, wS_retL, wS_retV, wS_do, wS_pop, wS_dead, wS_sw, wF_body, Nat.reduceAdd, Nat.zero_add, Bool.not_not, true_and, and_true, if_true, if_false, ↓reduceIte, eq_self, Value.int.injEq, Value.long.injEq, exists_eq_left', ik_b1, ik_b0, ik_bz0, ik_bz3, ik_bz3_1, ik_bz3_0, ik_cmp, ik_cmpL, ik_eI, ik_eL, ik_as, ik_i0, ik_i1, decide_eq_true_eq, decide_eq_false_iff_not, decide_true, decide_false, Bool.not_true, Bool.not_false, reduceCtorEq, forall_const, false_implies, true_implies, implies_true, true_and, and_true, and_self, false_and, and_false, Bool.and_true, Bool.true_and, not_true_eq_false, not_false_eq_true, if_true, if_false, ite_true, ite_false, ik_bz3_0, ik_bz3_1, ik_bz0, wE_ite2, e1, ixk, Option.some.injEq, z, bo]
        exact ⟨ss, kk, e5, rows⟩
    show wF (fX2_reachFrom (fX2_reachBehind (g_reachFrom n))) [.int (nI k)] g _
    unfold fX2_reachFrom
    by_cases d0 : d = 0
    · subst d0
      have lF := eq_false (fun q => (lt.mp q) rfl)
      have f := fin (upd (ik_eI 0 [.inr 48, .inl 0] [.int (nI k)]) 2 (nI b)) (ik_eL 0 [.inr 48, .inl 0] [.int (nI k)]) g1 (by simp [upd, ik_eI]) (fun j hj => by rw [upd_at, bt j hj]; simp [nst]) hg1 k1 p1.2.2 (fun j i j4 i32 => by rw [p1.1 61 (by decide), decide_eq_false (fun z => by omega), Bool.or_false])
      rw [wF_body]
      simp (decide := true) only [wS_seq, wS_if, wC_not, wC_cmp0, wE_call, wA_int, wA_nil, wE_loc, Nat.reduceAdd, Nat.zero_add, Bool.not_not, true_and, and_true, if_true, if_false, ↓reduceIte, eq_self, Value.int.injEq, Value.long.injEq, exists_eq_left', ik_b1, ik_b0, ik_bz0, ik_bz3, ik_bz3_1, ik_bz3_0, ik_cmp, ik_cmpL, ik_eI, ik_eL, ik_as, ik_i0, ik_i1, decide_eq_true_eq, decide_eq_false_iff_not, decide_true, decide_false, Bool.not_true, Bool.not_false, reduceCtorEq, forall_const, false_implies, true_implies, implies_true, true_and, and_true, and_self, false_and, and_false, Bool.and_true, Bool.true_and, not_true_eq_false, not_false_eq_true, if_true, if_false, ite_true, ite_false, ik_bz3_0, ik_bz3_1, ik_bz0, isb, wS_skip, wS_set, wF_eq ec, wC_cmp, wE_sub, wE_fld, wE_lit, e9 g1 hg1, nI_pred, lF, upd_at, upd_off]
      simp (decide := true) only [wS_seq, Nat.reduceAdd, Nat.zero_add, Bool.not_not, true_and, and_true, if_true, if_false, ↓reduceIte, eq_self, Value.int.injEq, Value.long.injEq, exists_eq_left', ik_b1, ik_b0, ik_bz0, ik_bz3, ik_bz3_1, ik_bz3_0, ik_cmp, ik_cmpL, ik_eI, ik_eL, ik_as, ik_i0, ik_i1, decide_eq_true_eq, decide_eq_false_iff_not, decide_true, decide_false, Bool.not_true, Bool.not_false, reduceCtorEq, forall_const, false_implies, true_implies, implies_true, true_and, and_true, and_self, false_and, and_false, Bool.and_true, Bool.true_and, not_true_eq_false, not_false_eq_true, if_true, if_false, ite_true, ite_false, ik_bz3_0, ik_bz3_1, ik_bz0] at f
      exact f
    · have lT := eq_true (lt.mpr d0)
      rw [wF_body]
      simp (decide := true) only [wS_seq, wS_if, wC_not, wC_cmp0, wE_call, wA_int, wA_nil, wE_loc, Nat.reduceAdd, Nat.zero_add, Bool.not_not, true_and, and_true, if_true, if_false, ↓reduceIte, eq_self, Value.int.injEq, Value.long.injEq, exists_eq_left', ik_b1, ik_b0, ik_bz0, ik_bz3, ik_bz3_1, ik_bz3_0, ik_cmp, ik_cmpL, ik_eI, ik_eL, ik_as, ik_i0, ik_i1, decide_eq_true_eq, decide_eq_false_iff_not, decide_true, decide_false, Bool.not_true, Bool.not_false, reduceCtorEq, forall_const, false_implies, true_implies, implies_true, true_and, and_true, and_self, false_and, and_false, Bool.and_true, Bool.true_and, not_true_eq_false, not_false_eq_true, if_true, if_false, ite_true, ite_false, ik_bz3_0, ik_bz3_1, ik_bz0, isb, wS_skip, wS_set, wF_eq ec, wC_cmp, wE_sub, wE_fld, wE_lit, e9 g1 hg1, nI_pred, lT, upd_at, upd_off]
      refine wS_for _ _ (fun i σ => σ.1 3 = nI i ∧ σ.1 1 = nI k ∧ (∀ j, j < 32 → ib (σ.1 2) j = (decide (j < N) && cd k u j && (decide (i ≤ j) || decide (0 < nst cd (fun _ => w1) N d (k + 1) (updN u k j))))) ∧ eqS y σ.2.2 ∧ kpU g σ.2.2 k ∧ σ.2.2.2 = g.2 ∧ ∀ j i0, j < 4 → i0 < 32 → ib (σ.2.2.1 61 j) i0 = (ib (g.1 61 j) i0 || decide (k < j ∧ j < B ∧ i0 < N ∧ 0 < ctN cd w1 N d k u j i0 i))) 0 N _ ⟨by simp [upd, nI_0], by simp [upd, ik_eI], fun j hj => ?_, hg1, k1, p1.2.2, fun j i0 j4 i32 => ?_⟩ (by omega) (by omega) ?_ ?_ ?_
      · have q : ∀ f : Nat → Int32, ib (upd (upd f 2 (nI b)) 3 0 2) j = (decide (j < N) && cd k u j && (decide (0 ≤ j) || decide (0 < nst cd (fun _ => w1) N d (k + 1) (updN u k j)))) := fun f => by
          rw [upd_off _ _ _ _ (by decide), upd_at, bt j hj]
          simp
        exact q (fun _ => 0)
      · show ib (g1.1 61 j) i0 = _
        rw [p1.1 61 (by decide), decide_eq_false (fun z => absurd z.2.2.2 (Nat.lt_irrefl _)), Bool.or_false]
      · rintro i ⟨t1, t2, t3⟩ a1 ⟨a2, a3, a4, a5, a6, a7, a8⟩
        simp only at a2 a5
        exact wc_X (M := 24) (by show t3.1 48 10 = _; rw [a5.1 48 (by decide) (by decide) (by decide) (by decide)]; exact hy.2.2.2.2.2.1) hN24 (by decide) a1 a2
      · rintro i ⟨t1, t2, t3⟩ a1 ⟨a2, a3, a4, a5, a6, a7, a8⟩
        simp only at a2 a3 a4 a5 a6 a7 a8
        have bb := w_bitb (t1 2) (show i < 32 by omega) t3
        rw [a4 i (by omega), decide_eq_true a1, decide_eq_true (Nat.le_refl i), Bool.true_and, Bool.true_or, Bool.and_true] at bb
        have nx : nI i + (1 : Int32) = nI (i + 1) := by show nI i + nI 1 = _; rw [nI_add]
        have p31 : 2 ^ i < 2 ^ 31 := Nat.pow_lt_pow_right (by decide) (by omega)
        have pw := nI_pow i (by omega)
        cases hc : cd k u i with
        | false =>
          rw [hc] at bb
          simp (decide := true) only [wE_lit, wL_lit, wE_loc, wL_loc, wE_add, wE_sub, wE_mul, wE_and, wE_or, wE_xor, wE_shl, wE_shr, wE_ushr, wE_div, wE_rem, wE_neg, wE_i2b, wE_l2i, wL_i2l, wL_add, wL_mul, wE_fld, wL_fld, wE_arr, wL_arr, wC_cmp, wC_cmp0, wC_cmpL, wC_and, wC_or, wC_not, wC_ite, wL_ite, wA_nil, wA_int, wA_long, wE_call, wL_call, wS_skip, wS_seq, wS_set, wS_setL, wS_inc, wS_if, wS_put, wS_putL, wS_putOp, wS_putOpL, wS_ast, wS_astL, wS_aop, wS_aopL, wS_ret, wS_retL, wS_retV, wS_do, wS_pop, wS_dead, wS_sw, wF_body, Nat.reduceAdd, Nat.zero_add, Bool.not_not, true_and, and_true, if_true, if_false, ↓reduceIte, eq_self, Value.int.injEq, Value.long.injEq, exists_eq_left', ik_b1, ik_b0, ik_bz0, ik_bz3, ik_bz3_1, ik_bz3_0, ik_cmp, ik_cmpL, ik_eI, ik_eL, ik_as, ik_i0, ik_i1, decide_eq_true_eq, decide_eq_false_iff_not, decide_true, decide_false, Bool.not_true, Bool.not_false, reduceCtorEq, forall_const, false_implies, true_implies, implies_true, true_and, and_true, and_self, false_and, and_false, Bool.and_true, Bool.true_and, not_true_eq_false, not_false_eq_true, if_true, if_false, ite_true, ite_false, ik_bz3_0, ik_bz3_1, ik_bz0, a2, a3, bb, show ik_b2 false = 0 from rfl, upd_at, upd_off, nx]
          refine ⟨fun j hj => ?_, a5, a6, a7, fun j i0 j4 i32 => ?_⟩
          · rw [a4 j hj]
            by_cases e : j = i
            · subst e
              rw [hc]
              simp
            · rw [show decide (i + 1 ≤ j) = decide (i ≤ j) from decide_eq_decide.mpr (by omega)]
          · rw [a8 j i0 j4 i32, ctN_s, hc]
            rfl
        | true =>
          rw [hc] at bb
          have w57 : t3.1 57 i = ik_nw m i := by rw [a5.1 57 (by decide) (by decide) (by decide) (by decide)]; exact (hy.2.2.2.2.2.2.2.2.1 i a1).1
          have ih := w_reachF hy d n (k + 1) (updN u k i) (gUn t3 k (nI i) (ik_nw m i)) (by omega) (by omega) (by omega) (gUn_s a5 _ _ _) (gUn_ok (hu.kp a6) a1)
          obtain ⟨_, g2, e2, p2, p3, p4, p5, rfl⟩ := ih
          rw [← hcd] at e2 p5
          obtain ⟨rb, hrb⟩ : ∃ rb, rb = decide (0 < nst cd (fun _ => w1) N d (k + 1) (updN u k i)) := ⟨_, rfl⟩
          rw [← hrb] at e2
          have eb : fX2_reachBehind (g_reachFrom n) [.int (nI k), .int (nI i)] t3 = some (.int (ik_b2 rb), g2) := by
            apply eq_of_wF
            unfold fX2_reachBehind
            simp (decide := true) only [wE_lit, wL_lit, wE_loc, wL_loc, wE_add, wE_sub, wE_mul, wE_and, wE_or, wE_xor, wE_shl, wE_shr, wE_ushr, wE_div, wE_rem, wE_neg, wE_i2b, wE_l2i, wL_i2l, wL_add, wL_mul, wE_fld, wL_fld, wE_arr, wL_arr, wC_cmp, wC_cmp0, wC_cmpL, wC_and, wC_or, wC_not, wC_ite, wL_ite, wA_nil, wA_int, wA_long, wE_call, wL_call, wS_skip, wS_seq, wS_set, wS_setL, wS_inc, wS_if, wS_put, wS_putL, wS_putOp, wS_putOpL, wS_ast, wS_astL, wS_aop, wS_aopL, wS_ret, wS_retL, wS_retV, wS_do, wS_pop, wS_dead, wS_sw, wF_body, Nat.reduceAdd, Nat.zero_add, Bool.not_not, true_and, and_true, if_true, if_false, ↓reduceIte, eq_self, Value.int.injEq, Value.long.injEq, exists_eq_left', ik_b1, ik_b0, ik_bz0, ik_bz3, ik_bz3_1, ik_bz3_0, ik_cmp, ik_cmpL, ik_eI, ik_eL, ik_as, ik_i0, ik_i1, decide_eq_true_eq, decide_eq_false_iff_not, decide_true, decide_false, Bool.not_true, Bool.not_false, reduceCtorEq, forall_const, false_implies, true_implies, implies_true, true_and, and_true, and_self, false_and, and_false, Bool.and_true, Bool.true_and, not_true_eq_false, not_false_eq_true, if_true, if_false, ite_true, ite_false, ik_bz3_0, ik_bz3_1, ik_bz0, w_putF (show k < 4 by omega) (show i < 24 by omega) t3 w57, nI_1, nI_add, wF_eq e2, ik_bz3b]
          have kk : kpU g g2 k := fun q hq => by
            have q1 := p3 q (by omega)
            have q2 := gUn_kp t3 k (nI i) (ik_nw m i) q hq
            have q3 := a6 q hq
            exact ⟨q1.1.trans (q2.1.trans q3.1), q1.2.trans (q2.2.trans q3.2)⟩
          have rows : ∀ j i0, j < 4 → i0 < 32 → ib (g2.1 61 j) i0 = (ib (g.1 61 j) i0 || decide (k < j ∧ j < B ∧ i0 < N ∧ 0 < ctN cd w1 N d k u j i0 (i + 1))) := by
            intro j i0 j4 i32
            have q1 := p5 j i0 j4 i32
            have q2 : ib ((gUn t3 k (nI i) (ik_nw m i)).1 61 j) i0 = ib (t3.1 61 j) i0 := by
              unfold gUn
              rw [ik_si_row _ _ _ _ _ (by decide), ik_si_row _ _ _ _ _ (by decide)]
            rw [q2, a8 j i0 j4 i32, Bool.or_assoc] at q1
            rw [q1]
            congr 1
            rw [ctN_s, hc, if_pos rfl]
            by_cases c : k < j ∧ j < B ∧ i0 < N
            · rw [fO_off (show k ≠ j by omega), Nat.one_mul, ← Bool.decide_or]
              refine decide_eq_decide.mpr ?_
              constructor
              · rintro (z | z)
                · exact ⟨c.1, c.2.1, c.2.2, by have := z.2.2.2; omega⟩
                · exact ⟨c.1, c.2.1, c.2.2, by have := z.2.2.2; omega⟩
              · rintro ⟨-, -, -, z⟩
                by_cases c2 : 0 < ctN cd w1 N d k u j i0 i
                · exact Or.inl ⟨c.1, c.2.1, c.2.2, c2⟩
                · exact Or.inr ⟨by omega, c.2.1, c.2.2, by omega⟩
            · rw [decide_eq_false (fun z => c ⟨z.1, z.2.1, z.2.2.1⟩), decide_eq_false (fun z => c ⟨by omega, z.2.1, z.2.2.1⟩), decide_eq_false (fun z => c ⟨z.1, z.2.1, z.2.2.1⟩)]
              rfl
          have g22 : g2.2 = g.2 := by rw [p4]; exact a7
          cases hr : rb with
          | true =>
            rw [hr] at eb hrb
            simp (decide := true) only [wE_lit, wL_lit, wE_loc, wL_loc, wE_add, wE_sub, wE_mul, wE_and, wE_or, wE_xor, wE_shl, wE_shr, wE_ushr, wE_div, wE_rem, wE_neg, wE_i2b, wE_l2i, wL_i2l, wL_add, wL_mul, wE_fld, wL_fld, wE_arr, wL_arr, wC_cmp, wC_cmp0, wC_cmpL, wC_and, wC_or, wC_not, wC_ite, wL_ite, wA_nil, wA_int, wA_long, wE_call, wL_call, wS_skip, wS_seq, wS_set, wS_setL, wS_inc, wS_if, wS_put, wS_putL, wS_putOp, wS_putOpL, wS_ast, wS_astL, wS_aop, wS_aopL, wS_ret, wS_retL, wS_retV, wS_do, wS_pop, wS_dead, wS_sw, wF_body, Nat.reduceAdd, Nat.zero_add, Bool.not_not, true_and, and_true, if_true, if_false, ↓reduceIte, eq_self, Value.int.injEq, Value.long.injEq, exists_eq_left', ik_b1, ik_b0, ik_bz0, ik_bz3, ik_bz3_1, ik_bz3_0, ik_cmp, ik_cmpL, ik_eI, ik_eL, ik_as, ik_i0, ik_i1, decide_eq_true_eq, decide_eq_false_iff_not, decide_true, decide_false, Bool.not_true, Bool.not_false, reduceCtorEq, forall_const, false_implies, true_implies, implies_true, true_and, and_true, and_self, false_and, and_false, Bool.and_true, Bool.true_and, not_true_eq_false, not_false_eq_true, if_true, if_false, ite_true, ite_false, ik_bz3_0, ik_bz3_1, ik_bz0, a2, a3, bb, show ik_b2 true = 1 from rfl, wF_eq eb, upd_at, upd_off, nx]
            refine ⟨fun j hj => ?_, p2, kk, g22, rows⟩
            rw [a4 j hj]
            by_cases e : j = i
            · subst e
              rw [← hrb]
              simp
            · rw [show decide (i + 1 ≤ j) = decide (i ≤ j) from decide_eq_decide.mpr (by omega)]
          | false =>
            rw [hr] at eb hrb
            simp (decide := true) only [wE_lit, wL_lit, wE_loc, wL_loc, wE_add, wE_sub, wE_mul, wE_and, wE_or, wE_xor, wE_shl, wE_shr, wE_ushr, wE_div, wE_rem, wE_neg, wE_i2b, wE_l2i, wL_i2l, wL_add, wL_mul, wE_fld, wL_fld, wE_arr, wL_arr, wC_cmp, wC_cmp0, wC_cmpL, wC_and, wC_or, wC_not, wC_ite, wL_ite, wA_nil, wA_int, wA_long, wE_call, wL_call, wS_skip, wS_seq, wS_set, wS_setL, wS_inc, wS_if, wS_put, wS_putL, wS_putOp, wS_putOpL, wS_ast, wS_astL, wS_aop, wS_aopL, wS_ret, wS_retL, wS_retV, wS_do, wS_pop, wS_dead, wS_sw, wF_body, Nat.reduceAdd, Nat.zero_add, Bool.not_not, true_and, and_true, if_true, if_false, ↓reduceIte, eq_self, Value.int.injEq, Value.long.injEq, exists_eq_left', ik_b1, ik_b0, ik_bz0, ik_bz3, ik_bz3_1, ik_bz3_0, ik_cmp, ik_cmpL, ik_eI, ik_eL, ik_as, ik_i0, ik_i1, decide_eq_true_eq, decide_eq_false_iff_not, decide_true, decide_false, Bool.not_true, Bool.not_false, reduceCtorEq, forall_const, false_implies, true_implies, implies_true, true_and, and_true, and_self, false_and, and_false, Bool.and_true, Bool.true_and, not_true_eq_false, not_false_eq_true, if_true, if_false, ite_true, ite_false, ik_bz3_0, ik_bz3_1, ik_bz0, a2, a3, bb, show ik_b2 true = 1 from rfl, show ik_b2 false = 0 from rfl, wF_eq eb, upd_at, upd_off, nx, pw]
            refine ⟨fun j hj => ?_, p2, kk, g22, rows⟩
            rw [ib_and, ib_not _ hj, ib_nI p31, Nat.testBit_two_pow, a4 j hj]
            by_cases e : i = j
            · subst e
              rw [← hrb]
              simp
            · rw [show decide (i + 1 ≤ j) = decide (i ≤ j) from decide_eq_decide.mpr (by omega)]
              simp [e]
      · rintro ⟨t1, t2, t3⟩ ⟨a2, a3, a4, a5, a6, a7, a8⟩
        simp only at a3 a4 a5 a6 a7 a8
        have f := fin t1 t2 t3 a3 (fun j hj => by
          rw [a4 j hj]
          by_cases c : j < N
          · rw [decide_eq_false (show ¬ N ≤ j by omega), Bool.false_or]
          · simp [c]) a5 a6 a7 (fun j i0 j4 i32 => by rw [a8 j i0 j4 i32, ctN_nst])
        simp (decide := true) only [wS_seq] at f ⊢
        exact f
