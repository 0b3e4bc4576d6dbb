theorem w_lg {y m : GG} {N B S H : Nat} (h : rE y m N B S) (hH : m.1 0 8 = nI H) (hH60 : H ≤ 60) : (∀ Q : Value → GG → Prop, wF fX3_least [.int (y.1 0 12)] y Q ↔ Q (.int (ik_hb m (m.1 0 11) false H)) y) ∧ ∀ Q : Value → GG → Prop, wF fX3_greatest [.int (y.1 0 12)] y Q ↔ Q (.int (ik_hb m (m.1 0 11) true H)) y := by
  obtain ⟨⟨Hn', hn1', hn2', hn3', hn4'⟩, hhh⟩ := h.2.2.2.2.2.2.1
  have eH : Hn' = H := (nI_eq (by omega) (by omega)).mp (hn3'.symm.trans hH)
  subst eH
  have ht' : ∀ t, t < Hn' → y.1 40 t = m.1 41 t ∧ y.1 41 t = m.1 42 t ∧ y.1 42 t = m.1 43 t ∧ ∃ a, a < N ∧ m.1 42 t = nI a := fun t h => ⟨(hn4' t h).1, (hn4' t h).2.1, (hn4' t h).2.2.1, (hn4' t h).2.2.2.2.1⟩
  obtain ⟨hou, hou1, hou2, hou3⟩ := hhh
  rw [hou2, hou3]
  exact ⟨fun Q => w_least h.2.1 h.2.2.1 hn1' hn2' ht' (nI hou) Q, fun Q => w_greatest h.2.1 h.2.2.1 hn1' hn2' ht' (nI hou) Q⟩
theorem kPx_f {a j : Nat} (h : kPx a j = true) : a ≠ 55 ∧ a ≠ 59 ∧ a ≠ 60 ∧ a ≠ 61 ∧ (a = 49 → j < 6) ∧ (a = 48 → j ≠ 11 ∧ j ≠ 12) ∧ (a = 0 → j = 14) := by
  unfold kPx at h
  simp only [Bool.or_eq_true, Bool.and_eq_true, beq_iff_eq, decide_eq_true_eq] at h
  omega
theorem fit_px {y g : GG} (h : eqT y g) : ∀ a j, kPx a j = true → g.1 a j = y.1 a j := by
  intro a j hk
  obtain ⟨p1, p2, p3, p4, p5, p6, p7⟩ := kPx_f hk
  by_cases e : a = 48
  · subst e; exact h.2.1 j (p6 rfl).1 (p6 rfl).2
  · rw [h.1 a e p1]
theorem eqS.px {y g : GG} (h : eqS y g) : ∀ a j, kPx a j = true → g.1 a j = y.1 a j := by
  intro a j hk
  obtain ⟨p1, p2, p3, p4, p5, p6, p7⟩ := kPx_f hk
  by_cases e : a = 49
  · subst e; exact h.2 j (p5 rfl)
  · rw [h.1 a e p2 p3 p4]
theorem eqS.z0 {y g : GG} (h : eqS y g) (j : Nat) : g.1 0 j = y.1 0 j := by rw [h.1 0 (by decide) (by decide) (by decide) (by decide)]
theorem WT.kl {N B S T : Nat} {m : GG} {ft : Nat → Nat → Bool} {td ld : Bool} {g g' : Nat → Nat → Int64} (h : WT N B S T m ft td ld g) (h' : WT N B S T m ft td ld g') : ∀ a j, kPl a j = true → g a j = g' a j := by
  intro a j hk
  unfold kPl at hk
  simp only [Bool.or_eq_true, Bool.and_eq_true, beq_iff_eq, decide_eq_true_eq] at hk
  rcases hk with ⟨rfl, hj⟩ | ⟨rfl, rfl⟩
  · rw [show j = 24 * (j / 24) + j % 24 by omega, h.2 (j / 24) (j % 24) (by omega) (by omega), h'.2 (j / 24) (j % 24) (by omega) (by omega)]
  · rw [h.1, h'.1]
theorem WT.of {N B S T : Nat} {m : GG} {ft : Nat → Nat → Bool} {td ld : Bool} {g g' : Nat → Nat → Int64} (h : WT N B S T m ft td ld g) (e : ∀ a j, kPl a j = true → g' a j = g a j) : WT N B S T m ft td ld g' := by
  refine ⟨by rw [e 48 13 rfl]; exact h.1, fun j i hj hi => ?_⟩
  rw [e 62 _ (by unfold kPl; rw [decide_eq_true (show 24 * j + i < 96 by omega)]; rfl)]
  exact h.2 j i hj hi
theorem w_weigh0 {x1 m : GG} {N B S T n H : Nat} {L : List (Nat × RC)} (h : rE x1 m N B S) (hR : RD B N S T n L x1 m) (hH : m.1 0 8 = nI H) (hH60 : H ≤ 60) (hmT : m.1 0 6 = nI T) (hT : T ≤ 20) (hB : 0 < B) (h13 : x1.1 0 13 = 1) (h14 : x1.1 0 14 = 0) :
    wF fX11_weigh [] x1 (fun v g => v = .null ∧ eqW x1 g ∧ WT N B S T m (ftW m S n H L 0) true true g.2 ∧ g.1 0 13 = 1 ∧ g.1 0 14 = 1 ∧ ∀ a j, kPx a j = true → ¬ (a = 0 ∧ j = 14) → g.1 a j = x1.1 a j) := by
  obtain ⟨le, gr⟩ := w_lg h hH hH60
  unfold fX11_weigh
  simp (decide := true) only [wE_lit, wL_lit, wE_loc, wL_loc, wE_add, wE_sub, wE_mul, wE_and, wE_or, wE_xor, wE_shl, wE_shr, wE_ushr, wE_div, wE_rem, wE_neg, wE_i2b, wE_l2i, wL_i2l, wL_add, wL_mul, wE_fld, wL_fld, wE_arr, wL_arr, wC_cmp, wC_cmp0, wC_cmpL, wC_and, wC_or, wC_not, wC_ite, wL_ite, wA_nil, wA_int, wA_long, wE_call, wL_call, wS_skip, wS_seq, wS_set, wS_setL, wS_inc, wS_if, wS_put, wS_putL, wS_putOp, wS_putOpL, wS_ast, wS_astL, wS_aop, wS_aopL, wS_ret, wS_retL, wS_retV, wS_do, wS_pop, wS_dead, wS_sw, wF_body, Nat.reduceAdd, Nat.zero_add, Bool.not_not, true_and, and_true, if_true, if_false, ↓reduceIte, eq_self, Value.int.injEq, Value.long.injEq, exists_eq_left', ik_b1, ik_b0, ik_bz0, ik_bz3, ik_bz3_1, ik_bz3_0, ik_cmp, ik_cmpL, ik_eI, ik_eL, ik_as, ik_i0, ik_i1, decide_eq_true_eq, decide_eq_false_iff_not, decide_true, decide_false, Bool.not_true, Bool.not_false, reduceCtorEq, forall_const, false_implies, true_implies, implies_true, true_and, and_true, and_self, false_and, and_false, Bool.and_true, Bool.true_and, not_true_eq_false, not_false_eq_true, if_true, if_false, ite_true, ite_false, ik_bz3_0, ik_bz3_1, ik_bz0, wF_eq (x_prep1 h13), h14, le, gr]
  refine wF_mono (w_fit h hR 0 _ _) ?_
  rintro _ g1 ⟨rfl, f1, f2, f3, f4⟩
  refine ⟨rfl, ?_⟩
  obtain ⟨-, M, hM⟩ := hR.sr (ft := ftW m S n H L 0) (td := true) (ld := true) h f1 f2 f3 f4
  refine wF_mono (w_weighAll h hM hmT hT hB) ?_
  rintro _ g2 ⟨rfl, q1, q2⟩
  refine ⟨rfl, ?_⟩
  refine ⟨(f1.w.tr q1.w).si _ rfl, q2, ?_, ik_si_same _ _ _ _, fun a j hk hn => ?_⟩
  · rw [ik_si_ne _ _ _ _ _ (by decide), q1.z0, f1.1 0 (by decide) (by decide)]; exact h13
  · have z : a ≠ 0 := fun z => hn ⟨z, (kPx_f hk).2.2.2.2.2.2 z⟩
    rw [ik_si_row _ _ _ _ _ z, q1.px a j hk, fit_px f1 a j hk]
theorem w_weighed {x m : GG} {N B S T n H : Nat} {c : Nat → Nat} {M : Nat} {L : List (Nat × RC)} (h : rE x m N B S) (hQ : rQ x m) (hD : rlD c M L x m) (hn : n ≤ 20) (hmn : m.1 0 7 = nI n) (hH : m.1 0 8 = nI H) (hH60 : H ≤ 60) (hmT : m.1 0 6 = nI T) (hT : T ≤ 20) (hB : 0 < B) :
    ∃ g, fX11_weigh [] x = some (.null, g) ∧ eqW x g ∧ rQ g m ∧ WT N B S T m (ftW m S n H L 0) true true g.2 := by
  obtain ⟨g1, e1, k1, k2, k3, k4⟩ := w_ready h hQ hD hn hmn hmT hT
  have h1 := h.z k1.z
  have sw : ∀ Q : Value → GG → Prop, wF fX11_weigh [] x Q ↔ wF fX11_weigh [] g1 Q := fun Q => by
    unfold fX11_weigh
    simp (decide := true) only [wE_lit, wL_lit, wE_loc, wL_loc, wE_add, wE_sub, wE_mul, wE_and, wE_or, wE_xor, wE_shl, wE_shr, wE_ushr, wE_div, wE_rem, wE_neg, wE_i2b, wE_l2i, wL_i2l, wL_add, wL_mul, wE_fld, wL_fld, wE_arr, wL_arr, wC_cmp, wC_cmp0, wC_cmpL, wC_and, wC_or, wC_not, wC_ite, wL_ite, wA_nil, wA_int, wA_long, wE_call, wL_call, wS_skip, wS_seq, wS_set, wS_setL, wS_inc, wS_if, wS_put, wS_putL, wS_putOp, wS_putOpL, wS_ast, wS_astL, wS_aop, wS_aopL, wS_ret, wS_retL, wS_retV, wS_do, wS_pop, wS_dead, wS_sw, wF_body, Nat.reduceAdd, Nat.zero_add, Bool.not_not, true_and, and_true, if_true, if_false, ↓reduceIte, eq_self, Value.int.injEq, Value.long.injEq, exists_eq_left', ik_b1, ik_b0, ik_bz0, ik_bz3, ik_bz3_1, ik_bz3_0, ik_cmp, ik_cmpL, ik_eI, ik_eL, ik_as, ik_i0, ik_i1, decide_eq_true_eq, decide_eq_false_iff_not, decide_true, decide_false, Bool.not_true, Bool.not_false, reduceCtorEq, forall_const, false_implies, true_implies, implies_true, true_and, and_true, and_self, false_and, and_false, Bool.and_true, Bool.true_and, not_true_eq_false, not_false_eq_true, if_true, if_false, ite_true, ite_false, ik_bz3_0, ik_bz3_1, ik_bz0, wF_eq e1, wF_eq (x_prep1 k3)]
  obtain ⟨x0, x1, p, alt⟩ := k4.p1 h hD hn hmn hmT hT k3
  obtain ⟨p1, p2, p3, p4, p5, p6, p7⟩ := p
  obtain ⟨_, x2, e3, rfl, -, v2, -⟩ := w_weigh0 p3 p4 hH hH60 hmT hT hB p5 p6
  rcases alt with h14 | ⟨h14, x2', a1, a2⟩
  · obtain ⟨_, g2, e2, rfl, w1, w2, w3, w4, w5⟩ := w_weigh0 h1 k2 hH hH60 hmT hT hB k3 h14
    refine ⟨g2, eq_of_wF ((sw _).mpr ⟨_, _, e2, rfl, rfl⟩), k1.tr w1, rQ.of w3 ⟨p1, p2, p3, p4, p5, p6, fun a j hk hn => (w5 a j hk hn).trans (p7 a j hk hn)⟩ (Or.inr ⟨w4, x2, e3, w2.kl v2⟩), w2⟩
  · have e2 : fX11_weigh [] g1 = some (.null, g1) := by
      apply eq_of_wF
      unfold fX11_weigh
      simp (decide := true) only [wE_lit, wL_lit, wE_loc, wL_loc, wE_add, wE_sub, wE_mul, wE_and, wE_or, wE_xor, wE_shl, wE_shr, wE_ushr, wE_div, wE_rem, wE_neg, wE_i2b, wE_l2i, wL_i2l, wL_add, wL_mul, wE_fld, wL_fld, wE_arr, wL_arr, wC_cmp, wC_cmp0, wC_cmpL, wC_and, wC_or, wC_not, wC_ite, wL_ite, wA_nil, wA_int, wA_long, wE_call, wL_call, wS_skip, wS_seq, wS_set, wS_setL, wS_inc, wS_if, wS_put, wS_putL, wS_putOp, wS_putOpL, wS_ast, wS_astL, wS_aop, wS_aopL, wS_ret, wS_retL, wS_retV, wS_do, wS_pop, wS_dead, wS_sw, wF_body, Nat.reduceAdd, Nat.zero_add, Bool.not_not, true_and, and_true, if_true, if_false, ↓reduceIte, eq_self, Value.int.injEq, Value.long.injEq, exists_eq_left', ik_b1, ik_b0, ik_bz0, ik_bz3, ik_bz3_1, ik_bz3_0, ik_cmp, ik_cmpL, ik_eI, ik_eL, ik_as, ik_i0, ik_i1, decide_eq_true_eq, decide_eq_false_iff_not, decide_true, decide_false, Bool.not_true, Bool.not_false, reduceCtorEq, forall_const, false_implies, true_implies, implies_true, true_and, and_true, and_self, false_and, and_false, Bool.and_true, Bool.true_and, not_true_eq_false, not_false_eq_true, if_true, if_false, ite_true, ite_false, ik_bz3_0, ik_bz3_1, ik_bz0, wF_eq (x_prep1 k3), h14]
    have ex := a1.symm.trans e3
    simp only [Option.some.injEq, Prod.mk.injEq, true_and] at ex
    subst ex
    exact ⟨g1, eq_of_wF ((sw _).mpr ⟨_, _, e2, rfl, rfl⟩), k1, k4, v2.of a2⟩
theorem rQ.m {x m g : GG} (h : rQ x m) (hm : eqM m g) : rQ x g := h.fr rfl rfl (cut_of2 (fun a j hk => kEm_of hm a j (km_sub hk (by simp))) k0_no)
/-- what a search overwrites: not what stands ready -/
theorem rQ.s {x y m : GG} (h : rQ x m) (h0 : y.1 0 13 = x.1 0 13) (hp : ∀ a j, kPx a j = true → y.1 a j = x.1 a j) (h2 : y.2 = x.2) : rQ y m := h.fr h0 (cut_of2 hp (fun a j _ => by rw [h2])) rfl
theorem w_countW {x m : GG} {N B S T n H : Nat} {c : Nat → Nat} {M : Nat} {L : List (Nat × RC)} (h : rE x m N B S) (hQ : rQ x m) (hD : rlD c M L x m) (hn : n ≤ 20) (hmn : m.1 0 7 = nI n) (hH : m.1 0 8 = nI H) (hH60 : H ≤ 60) (hmT : m.1 0 6 = nI T) (hT : T ≤ 20) (hB : 0 < B) (wo : Int32) :
    ∃ g, fX11_countWithout [.int wo] x = some (.int (nI (SF N B S T m (ftW m S n H L wo) (decide (wo &&& 16 = 0)) (decide (wo &&& 2 = 0)) (fun _ _ => 1))), g) ∧ eqW x g ∧ rQ g m := by
  obtain ⟨g1, e1, k1, k2, k3, k4⟩ := w_ready h hQ hD hn hmn hmT hT
  have h1 := h.z k1.z
  obtain ⟨le, gr⟩ := w_lg h1 hH hH60
  obtain ⟨_, g2, e2, rfl, f1, f2, f3, f4⟩ := w_fit h1 k2 wo (ik_hb m (m.1 0 11) false H) (ik_hb m (m.1 0 11) true H)
  obtain ⟨-, M', hM⟩ := k2.sr (ft := ftW m S n H L wo) h1 f1 f2 f3 f4
  obtain ⟨_, g3, e3, q1, q2, rfl⟩ := w_number h hM hmT hT hB
  refine ⟨g3, eq_of_wF ?_, k1.tr (f1.w.tr q1.w), (k4.s ?_ (fun a j hk => ?_) ?_)⟩
  · unfold fX11_countWithout
    simp (decide := true) only [wE_lit, wL_lit, wE_loc, wL_loc, wE_add, wE_sub, wE_mul, wE_and, wE_or, wE_xor, wE_shl, wE_shr, wE_ushr, wE_div, wE_rem, wE_neg, wE_i2b, wE_l2i, wL_i2l, wL_add, wL_mul, wE_fld, wL_fld, wE_arr, wL_arr, wC_cmp, wC_cmp0, wC_cmpL, wC_and, wC_or, wC_not, wC_ite, wL_ite, wA_nil, wA_int, wA_long, wE_call, wL_call, wS_skip, wS_seq, wS_set, wS_setL, wS_inc, wS_if, wS_put, wS_putL, wS_putOp, wS_putOpL, wS_ast, wS_astL, wS_aop, wS_aopL, wS_ret, wS_retL, wS_retV, wS_do, wS_pop, wS_dead, wS_sw, wF_body, Nat.reduceAdd, Nat.zero_add, Bool.not_not, true_and, and_true, if_true, if_false, ↓reduceIte, eq_self, Value.int.injEq, Value.long.injEq, exists_eq_left', ik_b1, ik_b0, ik_bz0, ik_bz3, ik_bz3_1, ik_bz3_0, ik_cmp, ik_cmpL, ik_eI, ik_eL, ik_as, ik_i0, ik_i1, decide_eq_true_eq, decide_eq_false_iff_not, decide_true, decide_false, Bool.not_true, Bool.not_false, reduceCtorEq, forall_const, false_implies, true_implies, implies_true, true_and, and_true, and_self, false_and, and_false, Bool.and_true, Bool.true_and, not_true_eq_false, not_false_eq_true, if_true, if_false, ite_true, ite_false, ik_bz3_0, ik_bz3_1, ik_bz0, wF_eq e1, le, gr, wF_eq e2, wF_eq e3]
  · rw [q1.z0, f1.1 0 (by decide) (by decide)]
  · rw [q1.px a j hk, fit_px f1 a j hk]
  · rw [q2, f1.2.2]
