/-- what a row adds -/
noncomputable def Frow (N B S T : Nat) (m : GG) (ft : Nat → Nat → Bool) (td ld : Bool) (w : Nat → Nat → Nat) (r : Nat) : Nat := if FB B S T m ft td ld (row N B r) = true then pwN w (row N B r) B else 0
theorem SF_row (N B S T : Nat) (m : GG) (ft : Nat → Nat → Bool) (td ld : Bool) (w : Nat → Nat → Nat) : SF N B S T m ft td ld w = sm (Frow N B S T m ft td ld w) (N ^ B) := rfl
theorem Frow_y {N B S T : Nat} {m : GG} {ft : Nat → Nat → Bool} {td ld : Bool} {r : Nat} (h : FB B S T m ft td ld (row N B r) = true) (w : Nat → Nat → Nat) : Frow N B S T m ft td ld w r = pwN w (row N B r) B := if_pos h
theorem Frow_n {N B S T : Nat} {m : GG} {ft : Nat → Nat → Bool} {td ld : Bool} {r : Nat} (h : ¬ FB B S T m ft td ld (row N B r) = true) (w : Nat → Nat → Nat) : Frow N B S T m ft td ld w r = 0 := if_neg h
theorem sm_s (f : Nat → Nat) (n : Nat) : sm f (n + 1) = sm f n + f n := rfl
theorem NB_lt {N B : Nat} (hN : N ≤ 24) (hB : B ≤ 4) : N ^ B ≤ 331776 := Nat.le_trans (Nat.pow_le_pow_left hN B) (pw24 hB)
theorem wc_b2 {i : Nat} {b : Bool} {s1 : Nat → Int32} {s2 : (Nat → Int64) × GG} (h : s1 i = ik_b2 b) : wC (sCmp0 1 (sLoc i)) (s1, s2) (fun t g => t = b ∧ g = s2.2) := by
  cases b with
  | true =>
    have h' : s1 i = 1 := h
    simp (decide := true) only [wE_lit, wL_lit, wE_loc, wL_loc, wE_add, wE_sub, wE_mul, wE_and, wE_or, wE_xor, wE_shl, wE_shr, wE_ushr, wE_div, wE_rem, wE_neg, wE_i2b, wE_l2i, wL_i2l, wL_add, wL_mul, wE_fld, wL_fld, wE_arr, wL_arr, wC_cmp, wC_cmp0, wC_cmpL, wC_and, wC_or, wC_not, wC_ite, wL_ite, wA_nil, wA_int, wA_long, wE_call, wL_call, wS_skip, wS_seq, wS_set, wS_setL, wS_inc, wS_if, wS_put, wS_putL, wS_putOp, wS_putOpL, wS_ast, wS_astL, wS_aop, wS_aopL, wS_ret, wS_retL, wS_retV, wS_do, wS_pop, wS_dead, wS_sw, wF_body, Nat.reduceAdd, Nat.zero_add, Bool.not_not, true_and, and_true, if_true, if_false, ↓reduceIte, eq_self, Value.int.injEq, Value.long.injEq, exists_eq_left', ik_b1, ik_b0, ik_bz0, ik_bz3, ik_bz3_1, ik_bz3_0, ik_cmp, ik_cmpL, ik_eI, ik_eL, ik_as, ik_i0, ik_i1, decide_eq_true_eq, decide_eq_false_iff_not, decide_true, decide_false, Bool.not_true, Bool.not_false, reduceCtorEq, forall_const, false_implies, true_implies, implies_true, true_and, and_true, and_self, false_and, and_false, Bool.and_true, Bool.true_and, not_true_eq_false, not_false_eq_true, if_true, if_false, ite_true, ite_false, ik_bz3_0, ik_bz3_1, ik_bz0, h']
  | false =>
    have h' : s1 i = 0 := h
    simp (decide := true) only [wE_lit, wL_lit, wE_loc, wL_loc, wE_add, wE_sub, wE_mul, wE_and, wE_or, wE_xor, wE_shl, wE_shr, wE_ushr, wE_div, wE_rem, wE_neg, wE_i2b, wE_l2i, wL_i2l, wL_add, wL_mul, wE_fld, wL_fld, wE_arr, wL_arr, wC_cmp, wC_cmp0, wC_cmpL, wC_and, wC_or, wC_not, wC_ite, wL_ite, wA_nil, wA_int, wA_long, wE_call, wL_call, wS_skip, wS_seq, wS_set, wS_setL, wS_inc, wS_if, wS_put, wS_putL, wS_putOp, wS_putOpL, wS_ast, wS_astL, wS_aop, wS_aopL, wS_ret, wS_retL, wS_retV, wS_do, wS_pop, wS_dead, wS_sw, wF_body, Nat.reduceAdd, Nat.zero_add, Bool.not_not, true_and, and_true, if_true, if_false, ↓reduceIte, eq_self, Value.int.injEq, Value.long.injEq, exists_eq_left', ik_b1, ik_b0, ik_bz0, ik_bz3, ik_bz3_1, ik_bz3_0, ik_cmp, ik_cmpL, ik_eI, ik_eL, ik_as, ik_i0, ik_i1, decide_eq_true_eq, decide_eq_false_iff_not, decide_true, decide_false, Bool.not_true, Bool.not_false, reduceCtorEq, forall_const, false_implies, true_implies, implies_true, true_and, and_true, and_self, false_and, and_false, Bool.and_true, Bool.true_and, not_true_eq_false, not_false_eq_true, if_true, if_false, ite_true, ite_false, ik_bz3_0, ik_bz3_1, ik_bz0, h']
theorem w_fills {x m g : GG} {N B S T n H : Nat} {c : Nat → Nat} {M : Nat} {L : List (Nat × RC)} (h : rE x m N B S) (hR : rlD c M L x m) (hmn : m.1 0 7 = nI n) (hn : n ≤ 20) (hH : m.1 0 8 = nI H) (hH60 : H ≤ 60) (hmT : m.1 0 6 = nI T) (hT : T ≤ 20) (hB : 0 < B) (hm : eqM m g) (wo : Int32) :
    wF fX12_fills [.int wo] g (fun v g' => v = .null ∧ eqM m g' ∧ g'.1 0 67 = nI (SF N B S T m (ftW m S n H L wo) (decide (wo &&& 16 = 0)) (decide (wo &&& 2 = 0)) (fun _ _ => 1)) ∧ g'.2 0 69 = lN (SF N B S T m (ftW m S n H L wo) (decide (wo &&& 16 = 0)) (decide (wo &&& 2 = 0)) (fun _ => wtN m)) ∧ ∀ k i, k < B → i < N → g'.2 45 (24 * k + i) = lN (SF N B S T m (ftW m S n H L wo) (decide (wo &&& 16 = 0)) (decide (wo &&& 2 = 0)) (fO (wtN m) k i))) := by
  have hN24 := h.2.2.1.1
  have hB4 := h.2.2.2.1.1
  have eN := h.2.2.1.2.2.1
  have eB := h.2.2.2.1.2.2.1
  have pNB := NB_lt hN24 hB4
  have wts : ∀ i, i < N → m.1 9 i = nI (wtN m i) ∧ wtN m i ≤ 100 := fun i hi => by
    obtain ⟨-, -, -, -, hw, -⟩ := h.2.2.1
    obtain ⟨-, -, -, -, -, -, -, w1, w2⟩ := hw i hi
    obtain ⟨q1, q2, q3⟩ := wtN_ex w1 w2
    exact ⟨q1, q3⟩
  obtain ⟨ft, hft⟩ : ∃ ft, ft = ftW m S n H L wo := ⟨_, rfl⟩
  obtain ⟨td, htd⟩ : ∃ td, td = decide (wo &&& 16 = 0) := ⟨_, rfl⟩
  obtain ⟨ld, hld⟩ : ∃ ld, ld = decide (wo &&& 2 = 0) := ⟨_, rfl⟩
  have hit := fun u => hit_iff m B S T n H L wo u
  rw [← hft, ← htd, ← hld] at hit ⊢
  obtain ⟨_, g1, ea, rfl, k1, k2, k3, k4⟩ := w_asks h hR hmn hn hH hH60 hm
  unfold fX12_fills
  simp (decide := true) only [wE_lit, wL_lit, wE_loc, wL_loc, wE_add, wE_sub, wE_mul, wE_and, wE_or, wE_xor, wE_shl, wE_shr, wE_ushr, wE_div, wE_rem, wE_neg, wE_i2b, wE_l2i, wL_i2l, wL_add, wL_mul, wE_fld, wL_fld, wE_arr, wL_arr, wC_cmp, wC_cmp0, wC_cmpL, wC_and, wC_or, wC_not, wC_ite, wL_ite, wA_nil, wA_int, wA_long, wE_call, wL_call, wS_skip, wS_seq, wS_set, wS_setL, wS_inc, wS_if, wS_put, wS_putL, wS_putOp, wS_putOpL, wS_ast, wS_astL, wS_aop, wS_aopL, wS_ret, wS_retL, wS_retV, wS_do, wS_pop, wS_dead, wS_sw, wF_body, Nat.reduceAdd, Nat.zero_add, Bool.not_not, true_and, and_true, if_true, if_false, ↓reduceIte, eq_self, Value.int.injEq, Value.long.injEq, exists_eq_left', ik_b1, ik_b0, ik_bz0, ik_bz3, ik_bz3_1, ik_bz3_0, ik_cmp, ik_cmpL, ik_eI, ik_eL, ik_as, ik_i0, ik_i1, decide_eq_true_eq, decide_eq_false_iff_not, decide_true, decide_false, Bool.not_true, Bool.not_false, reduceCtorEq, forall_const, false_implies, true_implies, implies_true, true_and, and_true, and_self, false_and, and_false, Bool.and_true, Bool.true_and, not_true_eq_false, not_false_eq_true, if_true, if_false, ite_true, ite_false, ik_bz3_0, ik_bz3_1, ik_bz0, wF_eq ea]
  obtain ⟨g2, hg2⟩ : ∃ g2, g2 = ik_sl (ik_si g1 0 67 0) 0 69 0 := ⟨_, rfl⟩
  rw [← hg2]
  have k5 : eqM m g2 := by rw [hg2]; exact (k1.si _ (by omega)).sl _ _ _
  have a44 : ∀ k i, k < B → i < N → g2.1 44 (24 * k + i) = nI (rsN m S n H L k i) := fun k i hk hi => by rw [hg2]; show (ik_si g1 0 67 0).1 44 _ = _; rw [ik_si_row _ _ _ _ _ (by decide)]; exact k4 k i hk hi
  have a67 : g2.1 0 67 = 0 := by rw [hg2]; show (ik_si g1 0 67 0).1 0 67 = _; exact ik_si_same _ _ _ _
  have a69 : g2.2 0 69 = 0 := by rw [hg2]; exact ik_sl_same _ _ _ _
  refine wS_for _ _ (fun k σ => σ.1 2 = nI k ∧ σ.1 1 = wo ∧ σ.2.2.1 = g2.1 ∧ σ.2.2.2 0 = g2.2 0 ∧ ∀ j, j < k → σ.2.2.2 45 j = 0) 0 96 _ ⟨by simp [upd, nI_0], by simp [upd, ik_eI], rfl, rfl, fun j hj => by omega⟩ (by omega) (by omega) ?_ ?_ ?_
  · rintro k ⟨s1, s2, s3⟩ h1 ⟨h2, -⟩
    exact wc_L (n := 96) (by omega) h1 h2
  · rintro k ⟨s1, s2, s3⟩ h1 ⟨h2, h3, h4, h5, h6⟩
    simp only at h2 h3 h4 h5 h6
    simp (decide := true) only [wE_lit, wL_lit, wE_loc, wL_loc, wE_add, wE_sub, wE_mul, wE_and, wE_or, wE_xor, wE_shl, wE_shr, wE_ushr, wE_div, wE_rem, wE_neg, wE_i2b, wE_l2i, wL_i2l, wL_add, wL_mul, wE_fld, wL_fld, wE_arr, wL_arr, wC_cmp, wC_cmp0, wC_cmpL, wC_and, wC_or, wC_not, wC_ite, wL_ite, wA_nil, wA_int, wA_long, wE_call, wL_call, wS_skip, wS_seq, wS_set, wS_setL, wS_inc, wS_if, wS_put, wS_putL, wS_putOp, wS_putOpL, wS_ast, wS_astL, wS_aop, wS_aopL, wS_ret, wS_retL, wS_retV, wS_do, wS_pop, wS_dead, wS_sw, wF_body, Nat.reduceAdd, Nat.zero_add, Bool.not_not, true_and, and_true, if_true, if_false, ↓reduceIte, eq_self, Value.int.injEq, Value.long.injEq, exists_eq_left', ik_b1, ik_b0, ik_bz0, ik_bz3, ik_bz3_1, ik_bz3_0, ik_cmp, ik_cmpL, ik_eI, ik_eL, ik_as, ik_i0, ik_i1, decide_eq_true_eq, decide_eq_false_iff_not, decide_true, decide_false, Bool.not_true, Bool.not_false, reduceCtorEq, forall_const, false_implies, true_implies, implies_true, true_and, and_true, and_self, false_and, and_false, Bool.and_true, Bool.true_and, not_true_eq_false, not_false_eq_true, if_true, if_false, ite_true, ite_false, ik_bz3_0, ik_bz3_1, ik_bz0, h2, h3, ik_ix_nI (show k < 96 by omega) (by omega), Option.some.injEq, upd_at, upd_off, nI_1, nI_add]
    refine ⟨h4, ?_, fun j hj => ?_⟩
    · rw [ik_sl_row _ _ _ _ _ (by decide)]; exact h5
    · by_cases e : j = k
      · subst e; exact ik_sl_same _ _ _ _
      · have : (ik_sl s3 45 k 0).2 45 j = s3.2 45 j := by simp [ik_sl, e]
        rw [this]; exact h6 j (by omega)
  rintro ⟨s1, s2, s3⟩ ⟨h2, h3, h4, h5, h6⟩
  simp only at h3 h4 h5 h6
  have k6 : eqM m s3 := ⟨fun a ha => by rw [h4]; exact k5.1 a ha, fun j hj => by rw [h4]; exact k5.2 j hj⟩
  obtain ⟨_, g3, eb, rfl, l1, l2, l3, l4⟩ := w_beginsM hN24 eN hB4 eB hB k6
  simp (decide := true) only [wE_lit, wL_lit, wE_loc, wL_loc, wE_add, wE_sub, wE_mul, wE_and, wE_or, wE_xor, wE_shl, wE_shr, wE_ushr, wE_div, wE_rem, wE_neg, wE_i2b, wE_l2i, wL_i2l, wL_add, wL_mul, wE_fld, wL_fld, wE_arr, wL_arr, wC_cmp, wC_cmp0, wC_cmpL, wC_and, wC_or, wC_not, wC_ite, wL_ite, wA_nil, wA_int, wA_long, wE_call, wL_call, wS_skip, wS_seq, wS_set, wS_setL, wS_inc, wS_if, wS_put, wS_putL, wS_putOp, wS_putOpL, wS_ast, wS_astL, wS_aop, wS_aopL, wS_ret, wS_retL, wS_retV, wS_do, wS_pop, wS_dead, wS_sw, wF_body, Nat.reduceAdd, Nat.zero_add, Bool.not_not, true_and, and_true, if_true, if_false, ↓reduceIte, eq_self, Value.int.injEq, Value.long.injEq, exists_eq_left', ik_b1, ik_b0, ik_bz0, ik_bz3, ik_bz3_1, ik_bz3_0, ik_cmp, ik_cmpL, ik_eI, ik_eL, ik_as, ik_i0, ik_i1, decide_eq_true_eq, decide_eq_false_iff_not, decide_true, decide_false, Bool.not_true, Bool.not_false, reduceCtorEq, forall_const, false_implies, true_implies, implies_true, true_and, and_true, and_self, false_and, and_false, Bool.and_true, Bool.true_and, not_true_eq_false, not_false_eq_true, if_true, if_false, ite_true, ite_false, ik_bz3_0, ik_bz3_1, ik_bz0, wF_eq eb]
  refine wS_for _ _ (fun r σ => σ.1 2 = ik_b2 (decide (r < N ^ B)) ∧ σ.1 1 = wo ∧ eqM m σ.2.2 ∧ σ.2.2.1 44 = g2.1 44 ∧ (r < N ^ B → rwU N B r σ.2.2) ∧ σ.2.2.1 0 67 = nI (sm (Frow N B S T m ft td ld (fun _ _ => 1)) r) ∧ σ.2.2.2 0 69 = lN (sm (Frow N B S T m ft td ld (fun _ => wtN m)) r) ∧ ∀ k i, k < B → i < N → σ.2.2.2 45 (24 * k + i) = lN (sm (Frow N B S T m ft td ld (fO (wtN m) k i)) r)) 0 (N ^ B) _ ⟨by simp [upd], by simp [upd, h3], l1, ?_, fun _ => l4, ?_, ?_, fun k i hk hi => ?_⟩ (by omega) (by omega) ?_ ?_ ?_
  · show g3.1 44 = _
    rw [l2 44 (by decide), h4]
  · show g3.1 0 67 = _
    rw [l2 0 (by decide), h4, a67]
    rfl
  · show g3.2 0 69 = _
    rw [l3, h5, a69]
    rfl
  · show g3.2 45 _ = _
    rw [l3, h6 _ (by omega)]
    rfl
  · rintro r ⟨t1, t2, t3⟩ p1 ⟨p2, -⟩
    exact wc_b2 p2
  · rintro r ⟨t1, t2, t3⟩ p1 ⟨p2, p3, p4, p5, p6, p7, p8, p9⟩
    simp only at p2 p3 p4 p5 p6 p7 p8 p9
    have N0 : 0 < N := by
      apply Classical.byContradiction
      intro z
      have : N = 0 := by omega
      subst this
      rw [Nat.zero_pow hB] at p1
      exact absurd p1 (Nat.not_lt_zero _)
    have hu : ∀ k, k < B → row N B r k < N ∧ t3.1 20 k = nI (row N B r k) := fun k hk => ⟨row_lt k N0, p6 p1 k hk⟩
    have tb := w_tableOf (R := rsN m S n H L) hB4 (show t3.1 0 3 = nI B by rw [p4.2 3 (by decide)]; exact eB) hN24 hu (fun k i hk hi => by rw [p5]; exact a44 k i hk hi)
    obtain ⟨st, hst⟩ : ∃ st, st = nI (rsA (fun k => rsN m S n H L k (row N B r k)) B) := ⟨_, rfl⟩
    have st1 : ib st 1 = false := by
      rw [hst]
      have rl := rsA_lt (r := fun k => rsN m S n H L k (row N B r k)) (fun k => rsN_lt _ _ _ _ _ _ _) B
      rw [ib_nI (by omega)]
      exact rl.2
    obtain ⟨_, g4, es, rfl, q1, q2⟩ := w_speaks h p4 hu hT hmT wo st st1
    have ht := hit (row N B r)
    rw [← hst] at ht tb
    have g44 : g4.1 44 = g2.1 44 := by rw [q2.1 44 (by decide) (by decide) (by decide) (by decide)]; exact p5
    have g20 : g4.1 20 = t3.1 20 := q2.1 20 (by decide) (by decide) (by decide) (by decide)
    have g67 : g4.1 0 67 = t3.1 0 67 := q2.2.1 67 (by decide) (by decide) (by decide)
    -- then the next row
    have nxt : ∀ (v1 : Nat → Int32) (v2 : Nat → Int64) (v3 : GG), v1 1 = wo → eqM m v3 → v3.1 44 = g2.1 44 → v3.1 20 = t3.1 20 → v3.1 0 67 = nI (sm (Frow N B S T m ft td ld (fun _ _ => 1)) (r + 1)) → v3.2 0 69 = lN (sm (Frow N B S T m ft td ld (fun _ => wtN m)) (r + 1)) → (∀ k i, k < B → i < N → v3.2 45 (24 * k + i) = lN (sm (Frow N B S T m ft td ld (fO (wtN m) k i)) (r + 1))) →
        wS (sSet 2 (sCall fX12_goesOnNames sNil)) (v1, v2, v3) (fun σ => σ.1 2 = ik_b2 (decide (r + 1 < N ^ B)) ∧ σ.1 1 = wo ∧ eqM m σ.2.2 ∧ σ.2.2.1 44 = g2.1 44 ∧ (r + 1 < N ^ B → rwU N B (r + 1) σ.2.2) ∧ σ.2.2.1 0 67 = nI (sm (Frow N B S T m ft td ld (fun _ _ => 1)) (r + 1)) ∧ σ.2.2.2 0 69 = lN (sm (Frow N B S T m ft td ld (fun _ => wtN m)) (r + 1)) ∧ ∀ k i, k < B → i < N → σ.2.2.2 45 (24 * k + i) = lN (sm (Frow N B S T m ft td ld (fO (wtN m) k i)) (r + 1))) (fun v g' => v = .null ∧ eqM m g' ∧ g'.1 0 67 = nI (SF N B S T m ft td ld (fun _ _ => 1)) ∧ g'.2 0 69 = lN (SF N B S T m ft td ld (fun _ => wtN m)) ∧ ∀ k i, k < B → i < N → g'.2 45 (24 * k + i) = lN (SF N B S T m ft td ld (fO (wtN m) k i))) := by
      intro v1 v2 v3 b1 b2 b3 b4 b5 b6 b7
      obtain ⟨_, g5, eg, rfl, o1, o2, o3, o4⟩ := w_goesOnN hN24 eN hB4 eB hB b2 p1 (fun k hk => by rw [b4]; exact (hu k hk).2)
      simp (decide := true) only [wE_lit, wL_lit, wE_loc, wL_loc, wE_add, wE_sub, wE_mul, wE_and, wE_or, wE_xor, wE_shl, wE_shr, wE_ushr, wE_div, wE_rem, wE_neg, wE_i2b, wE_l2i, wL_i2l, wL_add, wL_mul, wE_fld, wL_fld, wE_arr, wL_arr, wC_cmp, wC_cmp0, wC_cmpL, wC_and, wC_or, wC_not, wC_ite, wL_ite, wA_nil, wA_int, wA_long, wE_call, wL_call, wS_skip, wS_seq, wS_set, wS_setL, wS_inc, wS_if, wS_put, wS_putL, wS_putOp, wS_putOpL, wS_ast, wS_astL, wS_aop, wS_aopL, wS_ret, wS_retL, wS_retV, wS_do, wS_pop, wS_dead, wS_sw, wF_body, Nat.reduceAdd, Nat.zero_add, Bool.not_not, true_and, and_true, if_true, if_false, ↓reduceIte, eq_self, Value.int.injEq, Value.long.injEq, exists_eq_left', ik_b1, ik_b0, ik_bz0, ik_bz3, ik_bz3_1, ik_bz3_0, ik_cmp, ik_cmpL, ik_eI, ik_eL, ik_as, ik_i0, ik_i1, decide_eq_true_eq, decide_eq_false_iff_not, decide_true, decide_false, Bool.not_true, Bool.not_false, reduceCtorEq, forall_const, false_implies, true_implies, implies_true, true_and, and_true, and_self, false_and, and_false, Bool.and_true, Bool.true_and, not_true_eq_false, not_false_eq_true, if_true, if_false, ite_true, ite_false, ik_bz3_0, ik_bz3_1, ik_bz0, wF_eq eg]
      refine ⟨by simp [upd], by simp [upd, b1], o1, by rw [o2 44 (by decide)]; exact b3, o4, by rw [o2 0 (by decide)]; exact b5, by rw [o3]; exact b6, fun k i hk hi => by rw [o3]; exact b7 k i hk hi⟩
    have cond : ∃ (b : Bool) (g5 : GG), (b = true → g5 = g4 ∧ FB B S T m ft td ld (row N B r) = true) ∧ (b = false → (g5 = g4 ∨ g5 = t3) ∧ ¬ FB B S T m ft td ld (row N B r) = true) ∧ ∀ B' : Bool → GG → Prop, wC (sAnd (sCmp0 0 (sBin 3 (sLoc 3) (sBin 5 (sLoc 1) (sLit (-1))))) (sCmp0 0 (sBin 3 (sCall fX12_speaks (sArgI (sLoc 1) (sArgI (sLoc 3) sNil))) (sBin 5 (sLoc 1) (sLit (-1)))))) (upd t1 3 st, t2, t3) B' ↔ B' b g5 := by
      by_cases c1 : st &&& (wo ^^^ -1) = 0
      · by_cases c2 : spk wo st (tiA m (row N B r) T) (otA m (row N B r) S) &&& (wo ^^^ -1) = 0
        · refine ⟨true, g4, fun _ => ⟨rfl, ht.mp ⟨c1, c2⟩⟩, fun z => absurd z (by decide), fun B' => ?_⟩
          simp (decide := true) only [wE_lit, wL_lit, wE_loc, wL_loc, wE_add, wE_sub, wE_mul, wE_and, wE_or, wE_xor, wE_shl, wE_shr, wE_ushr, wE_div, wE_rem, wE_neg, wE_i2b, wE_l2i, wL_i2l, wL_add, wL_mul, wE_fld, wL_fld, wE_arr, wL_arr, wC_cmp, wC_cmp0, wC_cmpL, wC_and, wC_or, wC_not, wC_ite, wL_ite, wA_nil, wA_int, wA_long, wE_call, wL_call, wS_skip, wS_seq, wS_set, wS_setL, wS_inc, wS_if, wS_put, wS_putL, wS_putOp, wS_putOpL, wS_ast, wS_astL, wS_aop, wS_aopL, wS_ret, wS_retL, wS_retV, wS_do, wS_pop, wS_dead, wS_sw, wF_body, Nat.reduceAdd, Nat.zero_add, Bool.not_not, true_and, and_true, if_true, if_false, ↓reduceIte, eq_self, Value.int.injEq, Value.long.injEq, exists_eq_left', ik_b1, ik_b0, ik_bz0, ik_bz3, ik_bz3_1, ik_bz3_0, ik_cmp, ik_cmpL, ik_eI, ik_eL, ik_as, ik_i0, ik_i1, decide_eq_true_eq, decide_eq_false_iff_not, decide_true, decide_false, Bool.not_true, Bool.not_false, reduceCtorEq, forall_const, false_implies, true_implies, implies_true, true_and, and_true, and_self, false_and, and_false, Bool.and_true, Bool.true_and, not_true_eq_false, not_false_eq_true, if_true, if_false, ite_true, ite_false, ik_bz3_0, ik_bz3_1, ik_bz0, upd_at, upd_off, p3, wF_eq es, c1, c2]
        · refine ⟨false, g4, fun z => absurd z (by decide), fun _ => ⟨Or.inl rfl, fun z => c2 (ht.mpr z).2⟩, fun B' => ?_⟩
          simp (decide := true) only [wE_lit, wL_lit, wE_loc, wL_loc, wE_add, wE_sub, wE_mul, wE_and, wE_or, wE_xor, wE_shl, wE_shr, wE_ushr, wE_div, wE_rem, wE_neg, wE_i2b, wE_l2i, wL_i2l, wL_add, wL_mul, wE_fld, wL_fld, wE_arr, wL_arr, wC_cmp, wC_cmp0, wC_cmpL, wC_and, wC_or, wC_not, wC_ite, wL_ite, wA_nil, wA_int, wA_long, wE_call, wL_call, wS_skip, wS_seq, wS_set, wS_setL, wS_inc, wS_if, wS_put, wS_putL, wS_putOp, wS_putOpL, wS_ast, wS_astL, wS_aop, wS_aopL, wS_ret, wS_retL, wS_retV, wS_do, wS_pop, wS_dead, wS_sw, wF_body, Nat.reduceAdd, Nat.zero_add, Bool.not_not, true_and, and_true, if_true, if_false, ↓reduceIte, eq_self, Value.int.injEq, Value.long.injEq, exists_eq_left', ik_b1, ik_b0, ik_bz0, ik_bz3, ik_bz3_1, ik_bz3_0, ik_cmp, ik_cmpL, ik_eI, ik_eL, ik_as, ik_i0, ik_i1, decide_eq_true_eq, decide_eq_false_iff_not, decide_true, decide_false, Bool.not_true, Bool.not_false, reduceCtorEq, forall_const, false_implies, true_implies, implies_true, true_and, and_true, and_self, false_and, and_false, Bool.and_true, Bool.true_and, not_true_eq_false, not_false_eq_true, if_true, if_false, ite_true, ite_false, ik_bz3_0, ik_bz3_1, ik_bz0, upd_at, upd_off, p3, wF_eq es, c1, c2]
      · refine ⟨false, t3, fun z => absurd z (by decide), fun _ => ⟨Or.inr rfl, fun z => c1 (ht.mpr z).1⟩, fun B' => ?_⟩
        simp (decide := true) only [wE_lit, wL_lit, wE_loc, wL_loc, wE_add, wE_sub, wE_mul, wE_and, wE_or, wE_xor, wE_shl, wE_shr, wE_ushr, wE_div, wE_rem, wE_neg, wE_i2b, wE_l2i, wL_i2l, wL_add, wL_mul, wE_fld, wL_fld, wE_arr, wL_arr, wC_cmp, wC_cmp0, wC_cmpL, wC_and, wC_or, wC_not, wC_ite, wL_ite, wA_nil, wA_int, wA_long, wE_call, wL_call, wS_skip, wS_seq, wS_set, wS_setL, wS_inc, wS_if, wS_put, wS_putL, wS_putOp, wS_putOpL, wS_ast, wS_astL, wS_aop, wS_aopL, wS_ret, wS_retL, wS_retV, wS_do, wS_pop, wS_dead, wS_sw, wF_body, Nat.reduceAdd, Nat.zero_add, Bool.not_not, true_and, and_true, if_true, if_false, ↓reduceIte, eq_self, Value.int.injEq, Value.long.injEq, exists_eq_left', ik_b1, ik_b0, ik_bz0, ik_bz3, ik_bz3_1, ik_bz3_0, ik_cmp, ik_cmpL, ik_eI, ik_eL, ik_as, ik_i0, ik_i1, decide_eq_true_eq, decide_eq_false_iff_not, decide_true, decide_false, Bool.not_true, Bool.not_false, reduceCtorEq, forall_const, false_implies, true_implies, implies_true, true_and, and_true, and_self, false_and, and_false, Bool.and_true, Bool.true_and, not_true_eq_false, not_false_eq_true, if_true, if_false, ite_true, ite_false, ik_bz3_0, ik_bz3_1, ik_bz0, upd_at, upd_off, p3, c1]
    obtain ⟨b, g5, d1, d2, d3⟩ := cond
    rw [wS_seq, wS_set]
    simp only [wE_call, wA_nil, tb, Value.int.injEq, exists_eq_left']
    rw [wS_seq, wS_if, d3]
    cases b with
    | true =>
      obtain ⟨rfl, yes⟩ := d1 rfl
      refine ⟨fun _ => ?_, fun z => absurd z (by decide)⟩
      refine wS_mono (w_hit (m := m) (B := B) (u := row N B r) hB4 (by rw [q1.2 3 (by decide)]; exact eB) (fun k hk => ⟨by have := (hu k hk).1; omega, by rw [g20]; exact (hu k hk).2⟩) (fun k hk => by rw [q1.1 9 (by omega)]; exact wts _ (hu k hk).1)) ?_ (fun _ _ z => z)
      rintro ⟨v1, v2, v3⟩ ⟨b1, b2, b3, b4, b5, b6⟩
      simp only at b1 b2 b3 b4 b5 b6
      refine nxt v1 v2 v3 ?_ ⟨fun a ha => by rw [b2 a (by omega)]; exact q1.1 a ha, fun j hj => by rw [b3 j (by omega)]; exact q1.2 j hj⟩ (by rw [b2 44 (by decide)]; exact g44) (by rw [b2 20 (by decide)]; exact g20) ?_ ?_ (fun k i hk hi => ?_)
      · rw [b1, upd_off _ _ _ _ (by decide)]; exact p3
      · rw [b4, g67, p7, sm_s, Frow_y yes, pwN_1]
        show nI _ + nI 1 = _
        rw [nI_add]
      · rw [b5, q2.2.2, p8, lN_add, sm_s, Frow_y yes]
      · rw [b6 k i hk (by omega), q2.2.2, p9 k i hk hi, lN_add, sm_s, Frow_y yes, pwN_fO]
        by_cases e : row N B r k = i
        · rw [if_pos e, if_neg (fun z => z.2 e)]
        · rw [if_neg e, if_pos ⟨hk, e⟩]
    | false =>
      obtain ⟨dg, no⟩ := d2 rfl
      refine ⟨fun z => absurd z (by decide), fun _ => ?_⟩
      rw [wS_skip]
      have o : ∀ w, sm (Frow N B S T m ft td ld w) (r + 1) = sm (Frow N B S T m ft td ld w) r := fun w => by rw [sm_s, Frow_n no]; rfl
      have f : eqM m g5 ∧ g5.1 44 = g2.1 44 ∧ g5.1 20 = t3.1 20 ∧ g5.1 0 67 = t3.1 0 67 ∧ g5.2 = t3.2 := by
        rcases dg with rfl | rfl
        · exact ⟨q1, g44, g20, g67, q2.2.2⟩
        · exact ⟨p4, p5, rfl, rfl, rfl⟩
      obtain ⟨f1, f2, f3, f4, f5⟩ := f
      refine nxt (upd t1 3 st) t2 g5 ?_ f1 f2 f3 ?_ ?_ (fun k i hk hi => ?_)
      · rw [upd_off _ _ _ _ (by decide)]; exact p3
      · rw [f4, p7, o]
      · rw [f5, p8, o]
      · rw [f5, p9 k i hk hi, o]
  · rintro ⟨t1, t2, t3⟩ ⟨p2, p3, p4, p5, p6, p7, p8, p9⟩
    simp only at p4 p7 p8 p9
    simp (decide := true) only [wE_lit, wL_lit, wE_loc, wL_loc, wE_add, wE_sub, wE_mul, wE_and, wE_or, wE_xor, wE_shl, wE_shr, wE_ushr, wE_div, wE_rem, wE_neg, wE_i2b, wE_l2i, wL_i2l, wL_add, wL_mul, wE_fld, wL_fld, wE_arr, wL_arr, wC_cmp, wC_cmp0, wC_cmpL, wC_and, wC_or, wC_not, wC_ite, wL_ite, wA_nil, wA_int, wA_long, wE_call, wL_call, wS_skip, wS_seq, wS_set, wS_setL, wS_inc, wS_if, wS_put, wS_putL, wS_putOp, wS_putOpL, wS_ast, wS_astL, wS_aop, wS_aopL, wS_ret, wS_retL, wS_retV, wS_do, wS_pop, wS_dead, wS_sw, wF_body, Nat.reduceAdd, Nat.zero_add, Bool.not_not, true_and, and_true, if_true, if_false, ↓reduceIte, eq_self, Value.int.injEq, Value.long.injEq, exists_eq_left', ik_b1, ik_b0, ik_bz0, ik_bz3, ik_bz3_1, ik_bz3_0, ik_cmp, ik_cmpL, ik_eI, ik_eL, ik_as, ik_i0, ik_i1, decide_eq_true_eq, decide_eq_false_iff_not, decide_true, decide_false, Bool.not_true, Bool.not_false, reduceCtorEq, forall_const, false_implies, true_implies, implies_true, true_and, and_true, and_self, false_and, and_false, Bool.and_true, Bool.true_and, not_true_eq_false, not_false_eq_true, if_true, if_false, ite_true, ite_false, ik_bz3_0, ik_bz3_1, ik_bz0]
    exact ⟨p4, p7, p8, p9⟩
