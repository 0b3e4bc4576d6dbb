theorem w_saysM0 {m g g1 : GG} {N k : Nat} {V : Nat → Nat} {th : Int32} (hk : k < 4) (hN : N ≤ 24) (e2 : m.1 0 2 = nI N) (ef : fX12_fills [.int 0] g = some (.null, g1)) (hm1 : eqM m g1) (hV : ∀ i, i < N → g1.2 45 (24 * k + i) = lN (V i) ∧ V i < 2 ^ 63) (hz : ∀ i, i < N → V i = 0) :
    wF fX12_says [.int (nI k), .int th] g (fun v g' => eqM m g' ∧ v = .int 0 ∧ g'.1 0 68 = -1) := by
  have may := w_mayOf (g := g1) hk hN (by rw [hm1.2 2 (by decide)]; exact e2) hV
  have b0 : nI (myB N V) = 0 := (my_ext (N := N) (V := V) hN (r := 0) (fun j hj => by
    rw [ib_0]
    by_cases c : j < N
    · rw [hz j c]; simp
    · simp [c])).symm
  rw [b0] at may
  unfold fX12_says
  simp (decide := true) only [wE_lit, wL_lit, wE_loc, wL_loc, wE_add, wE_sub, wE_mul, wE_and, wE_or, wE_xor, wE_shl, wE_shr, wE_ushr, wE_div, wE_rem, wE_neg, wE_i2b, wE_l2i, wL_i2l, wL_add, wL_mul, wE_fld, wL_fld, wE_arr, wL_arr, wC_cmp, wC_cmp0, wC_cmpL, wC_and, wC_or, wC_not, wC_ite, wL_ite, wA_nil, wA_int, wA_long, wE_call, wL_call, wS_skip, wS_seq, wS_set, wS_setL, wS_inc, wS_if, wS_put, wS_putL, wS_putOp, wS_putOpL, wS_ast, wS_astL, wS_aop, wS_aopL, wS_ret, wS_retL, wS_retV, wS_do, wS_pop, wS_dead, wS_sw, wF_body, Nat.reduceAdd, Nat.zero_add, Bool.not_not, true_and, and_true, if_true, if_false, ↓reduceIte, eq_self, Value.int.injEq, Value.long.injEq, exists_eq_left', ik_b1, ik_b0, ik_bz0, ik_bz3, ik_bz3_1, ik_bz3_0, ik_cmp, ik_cmpL, ik_eI, ik_eL, ik_as, ik_i0, ik_i1, decide_eq_true_eq, decide_eq_false_iff_not, decide_true, decide_false, Bool.not_true, Bool.not_false, reduceCtorEq, forall_const, false_implies, true_implies, implies_true, true_and, and_true, and_self, false_and, and_false, Bool.and_true, Bool.true_and, not_true_eq_false, not_false_eq_true, if_true, if_false, ite_true, ite_false, ik_bz3_0, ik_bz3_1, ik_bz0, exists_eq', wF_eq ef, may, upd_at, upd_off]
  exact ⟨hm1.si _ (by omega), ik_si_same _ _ _ _⟩
theorem op_said (a b c : Int32) (x m : GG) (h : Rel x m) : ∃ v x' m', fX11_said [.int a, .int b, .int c] x = some (v, x') ∧ fX12_said [.int a, .int b, .int c] m = some (v, m') ∧ Rel x' m' := by
  have h0 := h
  obtain ⟨N, B, S, h⟩ := h
  have hA := h
  obtain ⟨hT, hL, hN, hB, hTi, hLi, hH, hC, hNo, hS, hR, hQ⟩ := h
  have hB4 := hB.1
  have hN24 := hN.1
  have fB := w_barHas hB.2.1 hB.1
  have mB := w_isBar (show B < 2 ^ 31 by omega) hB.2.2.1
  by_cases c1 : isI a B
  · by_cases c2 : 1 ≤ b ∧ b ≤ 1000
    · by_cases c3 : 0 ≤ c ∧ c ≤ 1
      · obtain ⟨k, hk, rfl⟩ := isI_ex (by omega) c1
        obtain ⟨g, -, V, W, e1, ff, k1, k2, k3, b1, b2, k4⟩ := weighed2 hA (show 0 < B by omega)
        obtain ⟨m1, e2, q1, q2, q3⟩ := ff m (eqM.rfl' m)
        have xV : ∀ i, i < 24 → g.2 62 (24 * k + i) = lN (if i < N then V k i else 0) ∧ V k i < 2 ^ 63 := fun i hi => ⟨k4 k i hk hi, by have := b2 k i; omega⟩
        have mV : ∀ i, i < N → m1.2 45 (24 * k + i) = lN (V k i) ∧ V k i < 2 ^ 63 := fun i hi => ⟨q3 k i hk hi, by have := b2 k i; omega⟩
        have f1 := w_may2 (g := g) (N := N) (k := k) (V := V k) (by omega) hN24 xV
        have c01 : c = 0 ∨ c = 1 := by
          obtain ⟨q, hq, rfl⟩ := nI_of3 (x := c) (a := 1) (by omega) c3.1 c3.2
          have : q = 0 ∨ q = 1 := by omega
          rcases this with rfl | rfl
          · exact Or.inl rfl
          · exact Or.inr rfl
        by_cases z : ∀ i, i < N → V k i = 0
        · have b0 : nI (myB N (V k)) = 0 := (my_ext (N := N) (V := V k) hN24 (r := 0) (fun j hj => by
            rw [ib_0]
            by_cases c : j < N
            · rw [z j c]; simp
            · simp [c])).symm
          rw [b0] at f1
          obtain ⟨_, m2, e3, p1, rfl, p2⟩ := w_saysM0 (th := b) (show k < 4 by omega) hN24 hN.2.2.1 e2 q1 mV z
          refine ⟨.int (if c = 0 then 0 else -1), g, m2, eq_of_wF ?_, eq_of_wF ?_, N, B, S, hA.w k1 p1 (k2.m p1)⟩
          · unfold fX11_said
            rcases c01 with rfl | rfl <;> simp (decide := true) only [wE_lit, wL_lit, wE_loc, wL_loc, wE_add, wE_sub, wE_mul, wE_and, wE_or, wE_xor, wE_shl, wE_shr, wE_ushr, wE_div, wE_rem, wE_neg, wE_i2b, wE_l2i, wL_i2l, wL_add, wL_mul, wE_fld, wL_fld, wE_arr, wL_arr, wC_cmp, wC_cmp0, wC_cmpL, wC_and, wC_or, wC_not, wC_ite, wL_ite, wA_nil, wA_int, wA_long, wE_call, wL_call, wS_skip, wS_seq, wS_set, wS_setL, wS_inc, wS_if, wS_put, wS_putL, wS_putOp, wS_putOpL, wS_ast, wS_astL, wS_aop, wS_aopL, wS_ret, wS_retL, wS_retV, wS_do, wS_pop, wS_dead, wS_sw, wF_body, Nat.reduceAdd, Nat.zero_add, Bool.not_not, true_and, and_true, if_true, if_false, ↓reduceIte, eq_self, Value.int.injEq, Value.long.injEq, exists_eq_left', ik_b1, ik_b0, ik_bz0, ik_bz3, ik_bz3_1, ik_bz3_0, ik_cmp, ik_cmpL, ik_eI, ik_eL, ik_as, ik_i0, ik_i1, decide_eq_true_eq, decide_eq_false_iff_not, decide_true, decide_false, Bool.not_true, Bool.not_false, reduceCtorEq, forall_const, false_implies, true_implies, implies_true, true_and, and_true, and_self, false_and, and_false, Bool.and_true, Bool.true_and, not_true_eq_false, not_false_eq_true, if_true, if_false, ite_true, ite_false, ik_bz3_0, ik_bz3_1, ik_bz0, exists_eq', wE_ite2, fB, isI, c1, w_within, c2, wF_eq e1, f1, upd_at, upd_off]
          · unfold fX12_said
            rcases c01 with rfl | rfl <;> simp (decide := true) only [wE_lit, wL_lit, wE_loc, wL_loc, wE_add, wE_sub, wE_mul, wE_and, wE_or, wE_xor, wE_shl, wE_shr, wE_ushr, wE_div, wE_rem, wE_neg, wE_i2b, wE_l2i, wL_i2l, wL_add, wL_mul, wE_fld, wL_fld, wE_arr, wL_arr, wC_cmp, wC_cmp0, wC_cmpL, wC_and, wC_or, wC_not, wC_ite, wL_ite, wA_nil, wA_int, wA_long, wE_call, wL_call, wS_skip, wS_seq, wS_set, wS_setL, wS_inc, wS_if, wS_put, wS_putL, wS_putOp, wS_putOpL, wS_ast, wS_astL, wS_aop, wS_aopL, wS_ret, wS_retL, wS_retV, wS_do, wS_pop, wS_dead, wS_sw, wF_body, Nat.reduceAdd, Nat.zero_add, Bool.not_not, true_and, and_true, if_true, if_false, ↓reduceIte, eq_self, Value.int.injEq, Value.long.injEq, exists_eq_left', ik_b1, ik_b0, ik_bz0, ik_bz3, ik_bz3_1, ik_bz3_0, ik_cmp, ik_cmpL, ik_eI, ik_eL, ik_as, ik_i0, ik_i1, decide_eq_true_eq, decide_eq_false_iff_not, decide_true, decide_false, Bool.not_true, Bool.not_false, reduceCtorEq, forall_const, false_implies, true_implies, implies_true, true_and, and_true, and_self, false_and, and_false, Bool.and_true, Bool.true_and, not_true_eq_false, not_false_eq_true, if_true, if_false, ite_true, ite_false, ik_bz3_0, ik_bz3_1, ik_bz0, exists_eq', i64_n20, i64_n1, l64_0, l64_1, l64_2, l64_3, l64_7, l64_12, l64_19, l64_20, l64_23, l64_24, l64_26, l64_29, l64_40, l64_50, l64_60, l64_63, l64_100, l64_160, l64_199, l64_255, l64_1000, l64_3000, l64_5000, l64_9999, l64_m1, l64_m20, wE_ite, mB, isI, c1, w_lies, c2, wF_eq e3, p2, upd_at, upd_off]
        · obtain ⟨f, hf, hf1, hf2⟩ : ∃ f, f < N ∧ V k f ≠ 0 ∧ ∀ j, j < f → V k j = 0 := by
            have : ik_any (fun i => decide (V k i ≠ 0)) N = true := by
              cases q : ik_any (fun i => decide (V k i ≠ 0)) N with
              | true => rfl
              | false =>
                refine absurd (fun i hi => ?_) z
                apply Classical.byContradiction
                intro n
                rw [ik_any_ex.mpr ⟨i, hi, decide_eq_true n⟩] at q
                cases q
            obtain ⟨f, r1, r2, r3⟩ := least_of this
            refine ⟨f, r1, of_decide_eq_true r2, fun j hj => ?_⟩
            have := of_decide_eq_false (r3 j hj)
            exact Classical.not_not.mp this
          have b0 : ¬ nI (myB N (V k)) = 0 := by
            intro z
            have := (nI_eq (by have := myB_lt N (V k); omega) (by omega)).mp (z.trans nI_0.symm)
            have t := myB_bit (V := V k) hN24 f
            rw [this, decide_eq_true hf, decide_eq_true hf1] at t
            simp at t
          obtain ⟨F, hF⟩ : ∃ F : Nat → Nat, F = fun i => if i < N then V k i else 0 := ⟨_, rfl⟩
          have li := w_likeliest (g := g) (N := N) (k := k) (V := V k) (by omega) hN24 xV
          have bc := w_bitCount (myB_lt N (V k)) g
          have os := w_oneSort (V := V k) (hN.frk (x' := g) (m' := m) (cut_of2 (fun a j hk => k1.z a j (kz_sub hk (by simp))) k0_no) rfl) hf hf1 hf2
          obtain ⟨_, m2, e3, p1, rfl, p2⟩ := w_saysM (th := b) (show k < 4 by omega) hN24 hN.2.2.1 (eqM.rfl' m) e2 q1 q2 mV hf hf1 hf2
          rw [← hF] at li e3 p2
          have amN : am F 24 < 24 := am_lt (by decide)
          have od := w_odds2 (show k < 4 by omega) amN g
          have v24 : g.2 62 (24 * k + am F 24) = lN (V k (am F 24)) := by
            have aN : am F 24 < N := by
              have Fz : ∀ i, N ≤ i → F i = 0 := fun i hi => by rw [hF]; exact if_neg (by omega)
              have := am_z Fz (24 - N)
              rw [show N + (24 - N) = 24 by omega] at this
              rw [this]
              exact am_lt (by omega)
            rw [(xV _ amN).1, if_pos aN]
          rw [v24] at od
          obtain ⟨q, hq⟩ : ∃ q, q = decide (b.toInt64 * lN W ≤ lN (V k (am F 24)) * 1000) := ⟨_, rfl⟩
          rw [← hq] at e3 p2
          have qc : (lN (V k (am F 24)) * 1000 ≥ lN W * b.toInt64) ↔ q = true := by
            rw [hq, decide_eq_true_iff, Int64.mul_comm b.toInt64]
          refine ⟨.int (if c = 0 then (sdW N (V k) m f q).1 else (sdW N (V k) m f q).2), g, m2, eq_of_wF ?_, eq_of_wF ?_, N, B, S, hA.w k1 p1 (k2.m p1)⟩
          · unfold fX11_said
            by_cases d1 : bgc (myB N (V k)).testBit 24 = 1
            · rw [d1] at bc
              have r : sdW N (V k) m f q = (1, nI (am F 24)) := by unfold sdW; rw [if_pos d1, ← hF]
              rw [r]
              rcases c01 with rfl | rfl <;> simp (decide := true) only [wE_lit, wL_lit, wE_loc, wL_loc, wE_add, wE_sub, wE_mul, wE_and, wE_or, wE_xor, wE_shl, wE_shr, wE_ushr, wE_div, wE_rem, wE_neg, wE_i2b, wE_l2i, wL_i2l, wL_add, wL_mul, wE_fld, wL_fld, wE_arr, wL_arr, wC_cmp, wC_cmp0, wC_cmpL, wC_and, wC_or, wC_not, wC_ite, wL_ite, wA_nil, wA_int, wA_long, wE_call, wL_call, wS_skip, wS_seq, wS_set, wS_setL, wS_inc, wS_if, wS_put, wS_putL, wS_putOp, wS_putOpL, wS_ast, wS_astL, wS_aop, wS_aopL, wS_ret, wS_retL, wS_retV, wS_do, wS_pop, wS_dead, wS_sw, wF_body, Nat.reduceAdd, Nat.zero_add, Bool.not_not, true_and, and_true, if_true, if_false, ↓reduceIte, eq_self, Value.int.injEq, Value.long.injEq, exists_eq_left', ik_b1, ik_b0, ik_bz0, ik_bz3, ik_bz3_1, ik_bz3_0, ik_cmp, ik_cmpL, ik_eI, ik_eL, ik_as, ik_i0, ik_i1, decide_eq_true_eq, decide_eq_false_iff_not, decide_true, decide_false, Bool.not_true, Bool.not_false, reduceCtorEq, forall_const, false_implies, true_implies, implies_true, true_and, and_true, and_self, false_and, and_false, Bool.and_true, Bool.true_and, not_true_eq_false, not_false_eq_true, if_true, if_false, ite_true, ite_false, ik_bz3_0, ik_bz3_1, ik_bz0, exists_eq', wE_ite, fB, isI, c1, w_within, c2, wF_eq e1, f1, b0, li, bc, upd_at, upd_off]
            · have d1' : (nI (bgc (myB N (V k)).testBit 24) = 1) = False := eq_false (fun z => d1 ((nI_eq (by have := bgc_le (myB N (V k)).testBit 24; omega) (by omega)).mp z))
              cases hqq : q with
              | true =>
                have qT := eq_true (qc.mpr hqq)
                have r : sdW N (V k) m f true = (2, nI (am F 24)) := by unfold sdW; rw [if_neg d1, if_pos rfl, ← hF]
                rw [r]
                rcases c01 with rfl | rfl <;> simp (decide := true) only [wE_lit, wL_lit, wE_loc, wL_loc, wE_add, wE_sub, wE_mul, wE_and, wE_or, wE_xor, wE_shl, wE_shr, wE_ushr, wE_div, wE_rem, wE_neg, wE_i2b, wE_l2i, wL_i2l, wL_add, wL_mul, wE_fld, wL_fld, wE_arr, wL_arr, wC_cmp, wC_cmp0, wC_cmpL, wC_and, wC_or, wC_not, wC_ite, wL_ite, wA_nil, wA_int, wA_long, wE_call, wL_call, wS_skip, wS_seq, wS_set, wS_setL, wS_inc, wS_if, wS_put, wS_putL, wS_putOp, wS_putOpL, wS_ast, wS_astL, wS_aop, wS_aopL, wS_ret, wS_retL, wS_retV, wS_do, wS_pop, wS_dead, wS_sw, wF_body, Nat.reduceAdd, Nat.zero_add, Bool.not_not, true_and, and_true, if_true, if_false, ↓reduceIte, eq_self, Value.int.injEq, Value.long.injEq, exists_eq_left', ik_b1, ik_b0, ik_bz0, ik_bz3, ik_bz3_1, ik_bz3_0, ik_cmp, ik_cmpL, ik_eI, ik_eL, ik_as, ik_i0, ik_i1, decide_eq_true_eq, decide_eq_false_iff_not, decide_true, decide_false, Bool.not_true, Bool.not_false, reduceCtorEq, forall_const, false_implies, true_implies, implies_true, true_and, and_true, and_self, false_and, and_false, Bool.and_true, Bool.true_and, not_true_eq_false, not_false_eq_true, if_true, if_false, ite_true, ite_false, ik_bz3_0, ik_bz3_1, ik_bz0, exists_eq', wE_ite, fB, isI, c1, w_within, c2, wF_eq e1, f1, b0, li, bc, d1', od, w_all2, k3, qT, upd_at, upd_off]
              | false =>
                have qF := eq_false (fun z => by have := qc.mp z; rw [hqq] at this; cases this)
                cases d3 : oneB N (V k) m f N with
                | true =>
                  rw [d3, if_pos rfl] at os
                  have s1 : ¬ m.1 6 f = -1 := fun z => by
                    obtain ⟨-, -, -, -, hw, -⟩ := hN
                    obtain ⟨-, -, -, -, -, a2, -⟩ := hw f hf
                    rw [z] at a2
                    exact absurd a2.1 (by decide)
                  have r : sdW N (V k) m f false = (3, m.1 6 f) := by unfold sdW; rw [if_neg d1, if_neg (by decide), if_pos d3]
                  rw [r]
                  rcases c01 with rfl | rfl <;> simp (decide := true) only [wE_lit, wL_lit, wE_loc, wL_loc, wE_add, wE_sub, wE_mul, wE_and, wE_or, wE_xor, wE_shl, wE_shr, wE_ushr, wE_div, wE_rem, wE_neg, wE_i2b, wE_l2i, wL_i2l, wL_add, wL_mul, wE_fld, wL_fld, wE_arr, wL_arr, wC_cmp, wC_cmp0, wC_cmpL, wC_and, wC_or, wC_not, wC_ite, wL_ite, wA_nil, wA_int, wA_long, wE_call, wL_call, wS_skip, wS_seq, wS_set, wS_setL, wS_inc, wS_if, wS_put, wS_putL, wS_putOp, wS_putOpL, wS_ast, wS_astL, wS_aop, wS_aopL, wS_ret, wS_retL, wS_retV, wS_do, wS_pop, wS_dead, wS_sw, wF_body, Nat.reduceAdd, Nat.zero_add, Bool.not_not, true_and, and_true, if_true, if_false, ↓reduceIte, eq_self, Value.int.injEq, Value.long.injEq, exists_eq_left', ik_b1, ik_b0, ik_bz0, ik_bz3, ik_bz3_1, ik_bz3_0, ik_cmp, ik_cmpL, ik_eI, ik_eL, ik_as, ik_i0, ik_i1, decide_eq_true_eq, decide_eq_false_iff_not, decide_true, decide_false, Bool.not_true, Bool.not_false, reduceCtorEq, forall_const, false_implies, true_implies, implies_true, true_and, and_true, and_self, false_and, and_false, Bool.and_true, Bool.true_and, not_true_eq_false, not_false_eq_true, if_true, if_false, ite_true, ite_false, ik_bz3_0, ik_bz3_1, ik_bz0, exists_eq', wE_ite, fB, isI, c1, w_within, c2, wF_eq e1, f1, b0, li, bc, d1', od, w_all2, k3, qF, os, s1, upd_at, upd_off]
                | false =>
                  rw [d3, if_neg (by decide)] at os
                  have r : sdW N (V k) m f false = (4, -1) := by unfold sdW; rw [if_neg d1, if_neg (by decide), if_neg (by rw [d3]; decide)]
                  rw [r]
                  rcases c01 with rfl | rfl <;> simp (decide := true) only [wE_lit, wL_lit, wE_loc, wL_loc, wE_add, wE_sub, wE_mul, wE_and, wE_or, wE_xor, wE_shl, wE_shr, wE_ushr, wE_div, wE_rem, wE_neg, wE_i2b, wE_l2i, wL_i2l, wL_add, wL_mul, wE_fld, wL_fld, wE_arr, wL_arr, wC_cmp, wC_cmp0, wC_cmpL, wC_and, wC_or, wC_not, wC_ite, wL_ite, wA_nil, wA_int, wA_long, wE_call, wL_call, wS_skip, wS_seq, wS_set, wS_setL, wS_inc, wS_if, wS_put, wS_putL, wS_putOp, wS_putOpL, wS_ast, wS_astL, wS_aop, wS_aopL, wS_ret, wS_retL, wS_retV, wS_do, wS_pop, wS_dead, wS_sw, wF_body, Nat.reduceAdd, Nat.zero_add, Bool.not_not, true_and, and_true, if_true, if_false, ↓reduceIte, eq_self, Value.int.injEq, Value.long.injEq, exists_eq_left', ik_b1, ik_b0, ik_bz0, ik_bz3, ik_bz3_1, ik_bz3_0, ik_cmp, ik_cmpL, ik_eI, ik_eL, ik_as, ik_i0, ik_i1, decide_eq_true_eq, decide_eq_false_iff_not, decide_true, decide_false, Bool.not_true, Bool.not_false, reduceCtorEq, forall_const, false_implies, true_implies, implies_true, true_and, and_true, and_self, false_and, and_false, Bool.and_true, Bool.true_and, not_true_eq_false, not_false_eq_true, if_true, if_false, ite_true, ite_false, ik_bz3_0, ik_bz3_1, ik_bz0, exists_eq', wE_ite, fB, isI, c1, w_within, c2, wF_eq e1, f1, b0, li, bc, d1', od, w_all2, k3, qF, os, upd_at, upd_off]
          · unfold fX12_said
            rcases c01 with rfl | rfl <;> simp (decide := true) only [wE_lit, wL_lit, wE_loc, wL_loc, wE_add, wE_sub, wE_mul, wE_and, wE_or, wE_xor, wE_shl, wE_shr, wE_ushr, wE_div, wE_rem, wE_neg, wE_i2b, wE_l2i, wL_i2l, wL_add, wL_mul, wE_fld, wL_fld, wE_arr, wL_arr, wC_cmp, wC_cmp0, wC_cmpL, wC_and, wC_or, wC_not, wC_ite, wL_ite, wA_nil, wA_int, wA_long, wE_call, wL_call, wS_skip, wS_seq, wS_set, wS_setL, wS_inc, wS_if, wS_put, wS_putL, wS_putOp, wS_putOpL, wS_ast, wS_astL, wS_aop, wS_aopL, wS_ret, wS_retL, wS_retV, wS_do, wS_pop, wS_dead, wS_sw, wF_body, Nat.reduceAdd, Nat.zero_add, Bool.not_not, true_and, and_true, if_true, if_false, ↓reduceIte, eq_self, Value.int.injEq, Value.long.injEq, exists_eq_left', ik_b1, ik_b0, ik_bz0, ik_bz3, ik_bz3_1, ik_bz3_0, ik_cmp, ik_cmpL, ik_eI, ik_eL, ik_as, ik_i0, ik_i1, decide_eq_true_eq, decide_eq_false_iff_not, decide_true, decide_false, Bool.not_true, Bool.not_false, reduceCtorEq, forall_const, false_implies, true_implies, implies_true, true_and, and_true, and_self, false_and, and_false, Bool.and_true, Bool.true_and, not_true_eq_false, not_false_eq_true, if_true, if_false, ite_true, ite_false, ik_bz3_0, ik_bz3_1, ik_bz0, exists_eq', i64_n20, i64_n1, l64_0, l64_1, l64_2, l64_3, l64_7, l64_12, l64_19, l64_20, l64_23, l64_24, l64_26, l64_29, l64_40, l64_50, l64_60, l64_63, l64_100, l64_160, l64_199, l64_255, l64_1000, l64_3000, l64_5000, l64_9999, l64_m1, l64_m20, wE_ite, mB, isI, c1, w_lies, c2, wF_eq e3, p2, upd_at, upd_off]
      · refine ⟨.int (-1), x, m, eq_of_wF ?_, eq_of_wF ?_, h0⟩
        · unfold fX11_said
          simp (decide := true) only [wE_lit, wL_lit, wE_loc, wL_loc, wE_add, wE_sub, wE_mul, wE_and, wE_or, wE_xor, wE_shl, wE_shr, wE_ushr, wE_div, wE_rem, wE_neg, wE_i2b, wE_l2i, wL_i2l, wL_add, wL_mul, wE_fld, wL_fld, wE_arr, wL_arr, wC_cmp, wC_cmp0, wC_cmpL, wC_and, wC_or, wC_not, wC_ite, wL_ite, wA_nil, wA_int, wA_long, wE_call, wL_call, wS_skip, wS_seq, wS_set, wS_setL, wS_inc, wS_if, wS_put, wS_putL, wS_putOp, wS_putOpL, wS_ast, wS_astL, wS_aop, wS_aopL, wS_ret, wS_retL, wS_retV, wS_do, wS_pop, wS_dead, wS_sw, wF_body, Nat.reduceAdd, Nat.zero_add, Bool.not_not, true_and, and_true, if_true, if_false, ↓reduceIte, eq_self, Value.int.injEq, Value.long.injEq, exists_eq_left', ik_b1, ik_b0, ik_bz0, ik_bz3, ik_bz3_1, ik_bz3_0, ik_cmp, ik_cmpL, ik_eI, ik_eL, ik_as, ik_i0, ik_i1, decide_eq_true_eq, decide_eq_false_iff_not, decide_true, decide_false, Bool.not_true, Bool.not_false, reduceCtorEq, forall_const, false_implies, true_implies, implies_true, true_and, and_true, and_self, false_and, and_false, Bool.and_true, Bool.true_and, not_true_eq_false, not_false_eq_true, if_true, if_false, ite_true, ite_false, ik_bz3_0, ik_bz3_1, ik_bz0, exists_eq', fB, c1, w_within, c2, c3]
        · unfold fX12_said
          simp (decide := true) only [wE_lit, wL_lit, wE_loc, wL_loc, wE_add, wE_sub, wE_mul, wE_and, wE_or, wE_xor, wE_shl, wE_shr, wE_ushr, wE_div, wE_rem, wE_neg, wE_i2b, wE_l2i, wL_i2l, wL_add, wL_mul, wE_fld, wL_fld, wE_arr, wL_arr, wC_cmp, wC_cmp0, wC_cmpL, wC_and, wC_or, wC_not, wC_ite, wL_ite, wA_nil, wA_int, wA_long, wE_call, wL_call, wS_skip, wS_seq, wS_set, wS_setL, wS_inc, wS_if, wS_put, wS_putL, wS_putOp, wS_putOpL, wS_ast, wS_astL, wS_aop, wS_aopL, wS_ret, wS_retL, wS_retV, wS_do, wS_pop, wS_dead, wS_sw, wF_body, Nat.reduceAdd, Nat.zero_add, Bool.not_not, true_and, and_true, if_true, if_false, ↓reduceIte, eq_self, Value.int.injEq, Value.long.injEq, exists_eq_left', ik_b1, ik_b0, ik_bz0, ik_bz3, ik_bz3_1, ik_bz3_0, ik_cmp, ik_cmpL, ik_eI, ik_eL, ik_as, ik_i0, ik_i1, decide_eq_true_eq, decide_eq_false_iff_not, decide_true, decide_false, Bool.not_true, Bool.not_false, reduceCtorEq, forall_const, false_implies, true_implies, implies_true, true_and, and_true, and_self, false_and, and_false, Bool.and_true, Bool.true_and, not_true_eq_false, not_false_eq_true, if_true, if_false, ite_true, ite_false, ik_bz3_0, ik_bz3_1, ik_bz0, exists_eq', i64_n20, i64_n1, l64_0, l64_1, l64_2, l64_3, l64_7, l64_12, l64_19, l64_20, l64_23, l64_24, l64_26, l64_29, l64_40, l64_50, l64_60, l64_63, l64_100, l64_160, l64_199, l64_255, l64_1000, l64_3000, l64_5000, l64_9999, l64_m1, l64_m20, mB, c1, w_lies, c2, c3]
    · refine ⟨.int (-1), x, m, eq_of_wF ?_, eq_of_wF ?_, h0⟩
      · unfold fX11_said
        simp (decide := true) only [wE_lit, wL_lit, wE_loc, wL_loc, wE_add, wE_sub, wE_mul, wE_and, wE_or, wE_xor, wE_shl, wE_shr, wE_ushr, wE_div, wE_rem, wE_neg, wE_i2b, wE_l2i, wL_i2l, wL_add, wL_mul, wE_fld, wL_fld, wE_arr, wL_arr, wC_cmp, wC_cmp0, wC_cmpL, wC_and, wC_or, wC_not, wC_ite, wL_ite, wA_nil, wA_int, wA_long, wE_call, wL_call, wS_skip, wS_seq, wS_set, wS_setL, wS_inc, wS_if, wS_put, wS_putL, wS_putOp, wS_putOpL, wS_ast, wS_astL, wS_aop, wS_aopL, wS_ret, wS_retL, wS_retV, wS_do, wS_pop, wS_dead, wS_sw, wF_body, Nat.reduceAdd, Nat.zero_add, Bool.not_not, true_and, and_true, if_true, if_false, ↓reduceIte, eq_self, Value.int.injEq, Value.long.injEq, exists_eq_left', ik_b1, ik_b0, ik_bz0, ik_bz3, ik_bz3_1, ik_bz3_0, ik_cmp, ik_cmpL, ik_eI, ik_eL, ik_as, ik_i0, ik_i1, decide_eq_true_eq, decide_eq_false_iff_not, decide_true, decide_false, Bool.not_true, Bool.not_false, reduceCtorEq, forall_const, false_implies, true_implies, implies_true, true_and, and_true, and_self, false_and, and_false, Bool.and_true, Bool.true_and, not_true_eq_false, not_false_eq_true, if_true, if_false, ite_true, ite_false, ik_bz3_0, ik_bz3_1, ik_bz0, exists_eq', fB, c1, w_within, c2]
      · unfold fX12_said
        simp (decide := true) only [wE_lit, wL_lit, wE_loc, wL_loc, wE_add, wE_sub, wE_mul, wE_and, wE_or, wE_xor, wE_shl, wE_shr, wE_ushr, wE_div, wE_rem, wE_neg, wE_i2b, wE_l2i, wL_i2l, wL_add, wL_mul, wE_fld, wL_fld, wE_arr, wL_arr, wC_cmp, wC_cmp0, wC_cmpL, wC_and, wC_or, wC_not, wC_ite, wL_ite, wA_nil, wA_int, wA_long, wE_call, wL_call, wS_skip, wS_seq, wS_set, wS_setL, wS_inc, wS_if, wS_put, wS_putL, wS_putOp, wS_putOpL, wS_ast, wS_astL, wS_aop, wS_aopL, wS_ret, wS_retL, wS_retV, wS_do, wS_pop, wS_dead, wS_sw, wF_body, Nat.reduceAdd, Nat.zero_add, Bool.not_not, true_and, and_true, if_true, if_false, ↓reduceIte, eq_self, Value.int.injEq, Value.long.injEq, exists_eq_left', ik_b1, ik_b0, ik_bz0, ik_bz3, ik_bz3_1, ik_bz3_0, ik_cmp, ik_cmpL, ik_eI, ik_eL, ik_as, ik_i0, ik_i1, decide_eq_true_eq, decide_eq_false_iff_not, decide_true, decide_false, Bool.not_true, Bool.not_false, reduceCtorEq, forall_const, false_implies, true_implies, implies_true, true_and, and_true, and_self, false_and, and_false, Bool.and_true, Bool.true_and, not_true_eq_false, not_false_eq_true, if_true, if_false, ite_true, ite_false, ik_bz3_0, ik_bz3_1, ik_bz0, exists_eq', i64_n20, i64_n1, l64_0, l64_1, l64_2, l64_3, l64_7, l64_12, l64_19, l64_20, l64_23, l64_24, l64_26, l64_29, l64_40, l64_50, l64_60, l64_63, l64_100, l64_160, l64_199, l64_255, l64_1000, l64_3000, l64_5000, l64_9999, l64_m1, l64_m20, mB, c1, w_lies, c2]
  · refine ⟨.int (-1), x, m, eq_of_wF ?_, eq_of_wF ?_, h0⟩
    · unfold fX11_said
      simp (decide := true) only [wE_lit, wL_lit, wE_loc, wL_loc, wE_add, wE_sub, wE_mul, wE_and, wE_or, wE_xor, wE_shl, wE_shr, wE_ushr, wE_div, wE_rem, wE_neg, wE_i2b, wE_l2i, wL_i2l, wL_add, wL_mul, wE_fld, wL_fld, wE_arr, wL_arr, wC_cmp, wC_cmp0, wC_cmpL, wC_and, wC_or, wC_not, wC_ite, wL_ite, wA_nil, wA_int, wA_long, wE_call, wL_call, wS_skip, wS_seq, wS_set, wS_setL, wS_inc, wS_if, wS_put, wS_putL, wS_putOp, wS_putOpL, wS_ast, wS_astL, wS_aop, wS_aopL, wS_ret, wS_retL, wS_retV, wS_do, wS_pop, wS_dead, wS_sw, wF_body, Nat.reduceAdd, Nat.zero_add, Bool.not_not, true_and, and_true, if_true, if_false, ↓reduceIte, eq_self, Value.int.injEq, Value.long.injEq, exists_eq_left', ik_b1, ik_b0, ik_bz0, ik_bz3, ik_bz3_1, ik_bz3_0, ik_cmp, ik_cmpL, ik_eI, ik_eL, ik_as, ik_i0, ik_i1, decide_eq_true_eq, decide_eq_false_iff_not, decide_true, decide_false, Bool.not_true, Bool.not_false, reduceCtorEq, forall_const, false_implies, true_implies, implies_true, true_and, and_true, and_self, false_and, and_false, Bool.and_true, Bool.true_and, not_true_eq_false, not_false_eq_true, if_true, if_false, ite_true, ite_false, ik_bz3_0, ik_bz3_1, ik_bz0, exists_eq', fB, c1]
    · unfold fX12_said
      simp (decide := true) only [wE_lit, wL_lit, wE_loc, wL_loc, wE_add, wE_sub, wE_mul, wE_and, wE_or, wE_xor, wE_shl, wE_shr, wE_ushr, wE_div, wE_rem, wE_neg, wE_i2b, wE_l2i, wL_i2l, wL_add, wL_mul, wE_fld, wL_fld, wE_arr, wL_arr, wC_cmp, wC_cmp0, wC_cmpL, wC_and, wC_or, wC_not, wC_ite, wL_ite, wA_nil, wA_int, wA_long, wE_call, wL_call, wS_skip, wS_seq, wS_set, wS_setL, wS_inc, wS_if, wS_put, wS_putL, wS_putOp, wS_putOpL, wS_ast, wS_astL, wS_aop, wS_aopL, wS_ret, wS_retL, wS_retV, wS_do, wS_pop, wS_dead, wS_sw, wF_body, Nat.reduceAdd, Nat.zero_add, Bool.not_not, true_and, and_true, if_true, if_false, ↓reduceIte, eq_self, Value.int.injEq, Value.long.injEq, exists_eq_left', ik_b1, ik_b0, ik_bz0, ik_bz3, ik_bz3_1, ik_bz3_0, ik_cmp, ik_cmpL, ik_eI, ik_eL, ik_as, ik_i0, ik_i1, decide_eq_true_eq, decide_eq_false_iff_not, decide_true, decide_false, Bool.not_true, Bool.not_false, reduceCtorEq, forall_const, false_implies, true_implies, implies_true, true_and, and_true, and_self, false_and, and_false, Bool.and_true, Bool.true_and, not_true_eq_false, not_false_eq_true, if_true, if_false, ite_true, ite_false, ik_bz3_0, ik_bz3_1, ik_bz0, exists_eq', mB, c1]
