theorem kPd_in {m : GG} {N S a j : Nat} (eN : (m.1 0 2).toInt.toNat = N) (eS : (m.1 0 4).toInt.toNat = S) (h1 : kPm a j = true) (h2 : a = 4 → j < 12 * N) (h3 : a = 5 → j < N) (h4 : 16 ≤ a → a ≤ 19 → j < 24 * S) : kPd m a j = true := by
  unfold kPd
  rw [eN, eS, h1]
  simp only [Bool.and_eq_true, Bool.or_eq_true, Bool.not_eq_true', bne_iff_ne, ne_eq, decide_eq_true_eq, Bool.and_eq_false_iff, decide_eq_false_iff_not, true_and]
  refine ⟨⟨?_, ?_⟩, ?_⟩
  · by_cases c : a = 4
    · exact Or.inr (h2 c)
    · exact Or.inl c
  · by_cases c : a = 5
    · exact Or.inr (h3 c)
    · exact Or.inl c
  · by_cases c : 16 ≤ a
    · by_cases c2 : a ≤ 19
      · exact Or.inr (h4 c c2)
      · exact Or.inl (Or.inr c2)
    · exact Or.inl (Or.inl c)
theorem rD.of {x m : GG} {N B S : Nat} (h : rD x (ik_cut (kPd m) k0 m) N B S) : rE x m N B S := by
  obtain ⟨hL, hN, hB, hTi, hLi, hH, hS, hR⟩ := h
  have eN : (m.1 0 2).toInt.toNat = N := by
    have q : (ik_cut (kPd m) k0 m).1 0 2 = m.1 0 2 := cut_iff rfl
    rw [← q, hN.2.2.1, nI_nat (by have := hN.1; omega)]
  have eS : (m.1 0 4).toInt.toNat = S := by
    have q : (ik_cut (kPd m) k0 m).1 0 4 = m.1 0 4 := cut_iff rfl
    rw [← q, hS.2.2.1, nI_nat (by have := hS.1; omega)]
  have kp : ∀ a j, kPm a j = true → (a = 4 → j < 12 * N) → (a = 5 → j < N) → (16 ≤ a → a ≤ 19 → j < 24 * S) → m.1 a j = (ik_cut (kPd m) k0 m).1 a j := fun a j h1 h2 h3 h4 => (cut_iff (kPd_in eN eS h1 h2 h3 h4)).symm
  have kr : ∀ a, (∀ j, kPm a j = true) → a ≠ 4 → a ≠ 5 → (a < 16 ∨ 19 < a) → m.1 a = (ik_cut (kPd m) k0 m).1 a := fun a h1 h2 h3 h4 => funext fun j => kp a j (h1 j) (fun z => absurd z h2) (fun z => absurd z h3) (fun z1 z2 => by omega)
  have kc : ∀ j, kPm 0 j = true → m.1 0 j = (ik_cut (kPd m) k0 m).1 0 j := fun j h1 => kp 0 j h1 (fun z => absurd z (by decide)) (fun z => absurd z (by decide)) (fun z => absurd z (by decide))
  refine ⟨trivial, ?_, hN.fr2 rfl (kc 2 rfl) rfl (fun i hi => ⟨rfl, rfl, rfl, rfl, rfl, rfl⟩) (fun j hj => rfl) (fun i hi => ⟨kp 5 i rfl (fun z => absurd z (by decide)) (fun _ => hi) (fun z => absurd z (by decide)), ?_⟩) (fun j hj => kp 4 j rfl (fun _ => hj) (fun z => absurd z (by decide)) (fun z => absurd z (by decide))), hB.fr rfl (kc 3 rfl) rfl rfl rfl (kr 10 (fun _ => rfl) (by decide) (by decide) (by decide)) (kr 11 (fun _ => rfl) (by decide) (by decide) (by decide)) (kr 12 (fun _ => rfl) (by decide) (by decide) (by decide)), hTi.fr rfl (kc 6 rfl) rfl rfl rfl (kr 35 (fun _ => rfl) (by decide) (by decide) (by decide)) (kr 36 (fun _ => rfl) (by decide) (by decide) (by decide)) (kr 37 (fun _ => rfl) (by decide) (by decide) (by decide)), hLi.fr rfl (kc 7 rfl) rfl rfl rfl (kr 38 (fun _ => rfl) (by decide) (by decide) (by decide)) (kr 39 (fun _ => rfl) (by decide) (by decide) (by decide)) (kr 40 (fun _ => rfl) (by decide) (by decide) (by decide)), hH.fr rfl (kc 8 rfl) rfl rfl rfl (kr 41 (fun _ => rfl) (by decide) (by decide) (by decide)) (kr 42 (fun _ => rfl) (by decide) (by decide) (by decide)) (kr 43 (fun _ => rfl) (by decide) (by decide) (by decide)) rfl (kc 11 rfl), trivial, trivial, hS.fr2 rfl (kc 4 rfl) (kr 13 (fun _ => rfl) (by decide) (by decide) (by decide)) (kr 14 (fun _ => rfl) (by decide) (by decide) (by decide)) (kr 15 (fun _ => rfl) (by decide) (by decide) (by decide)) (fun a j h1 h2 hj => kp a j ?_ (fun z => by omega) (fun z => by omega) (fun _ _ => hj)), rR1.fr hR (fun a j hk => cut_iff hk) (fun a j hk => ?_), trivial⟩
  · rw [kr 2 (fun _ => rfl) (by decide) (by decide) (by decide), kr 3 (fun _ => rfl) (by decide) (by decide) (by decide)]
    exact hL
  · rw [kr 6 (fun _ => rfl) (by decide) (by decide) (by decide), kr 7 (fun _ => rfl) (by decide) (by decide) (by decide), kr 8 (fun _ => rfl) (by decide) (by decide) (by decide), kr 9 (fun _ => rfl) (by decide) (by decide) (by decide)]
    exact ⟨rfl, rfl, rfl, rfl⟩
  · unfold kPm
    rw [decide_eq_true (show 2 ≤ a by omega), decide_eq_true h2]
    rfl
  · rw [cut_iff hk]
    unfold kRm at hk
    simp only [Bool.or_eq_true, Bool.and_eq_true, decide_eq_true_eq, beq_iff_eq] at hk
    rcases hk with ⟨h1, h2⟩ | ⟨rfl, rfl⟩
    · refine kp a j ?_ (fun z => by omega) (fun z => by omega) (fun z1 z2 => by omega)
      unfold kPm
      rw [decide_eq_true h1, decide_eq_true h2]
      simp
    · exact kc 5 rfl
theorem RD.fr {x y m : GG} {B N S T n : Nat} {L : List (Nat × RC)} (h : RD B N S T n L y m) (e : ∀ a j, kPx a j = true → ¬ (a = 0 ∧ j = 14) → x.1 a j = y.1 a j) : RD B N S T n L x m := by
  obtain ⟨h1, h2, h3, h4, h5, h6⟩ := h
  have er : ∀ a, a ≠ 0 → (∀ j, kPx a j = true) → x.1 a = y.1 a := fun a h0 hk => funext fun j => e a j (hk j) (fun z => h0 z.1)
  have r57 := er 57 (by decide) (fun _ => rfl)
  have r58 := er 58 (by decide) (fun _ => rfl)
  have r56 := er 56 (by decide) (fun _ => rfl)
  have r63 := er 63 (by decide) (fun _ => rfl)
  exact ⟨h1.fr (e 49 5 rfl (by decide)) (er 50 (by decide) (fun _ => rfl)) (er 51 (by decide) (fun _ => rfl)) (er 52 (by decide) (fun _ => rfl)) (er 53 (by decide) (fun _ => rfl)), (e 48 9 rfl (by decide)).trans h2, (e 48 10 rfl (by decide)).trans h3, fun i hi => by rw [r57, r58]; exact h4 i hi, fun q k i j a b c d => by rw [r56]; exact h5 q k i j a b c d, fun k i hk hi => by rw [r63]; exact h6 k i hk hi⟩
theorem rlH_one {x x' m : GG} {N B k i : Nat} {c c' : Nat → Nat} {M M' : Nat} {L L' : List (Nat × RC)} (hN : rN x m N) (hN' : rN x' m N) (hB : B ≤ 4) (hk : k < B) (hi : i < N) (h : rlD c M L x m) (h' : rlD c' M' L' x' m) : rlH (valM m k i) k L' = rlH (valM m k i) k L := by
  obtain ⟨v1, g1, e1, k1, -⟩ := w_agRulesM hN hB hk hi (eqM.rfl' m) h
  obtain ⟨v2, g2, e2, k2, -⟩ := w_agRulesM hN' hB hk hi (eqM.rfl' m) h'
  have e := e1.symm.trans e2
  rw [k1, k2] at e
  simp only [Option.some.injEq, Prod.mk.injEq, Value.int.injEq] at e
  have e0 := e.1
  revert e0
  cases rlH (valM m k i) k L <;> cases rlH (valM m k i) k L' <;> simp [ik_b2]
theorem RD.L {x x' y m : GG} {B N S T n : Nat} {c c' : Nat → Nat} {M M' : Nat} {L L' : List (Nat × RC)} (hN : rN x m N) (hN' : rN x' m N) (hB : B ≤ 4) (h : RD B N S T n L' y m) (hD : rlD c M L x m) (hD' : rlD c' M' L' x' m) : RD B N S T n L y m := by
  obtain ⟨h1, h2, h3, h4, h5, h6⟩ := h
  refine ⟨h1, h2, h3, h4, h5, fun k i hk hi => ?_⟩
  rw [h6 k i hk hi]
  unfold agB
  rw [rlH_one hN hN' hB hk hi hD hD']
theorem si_id {g : GG} {a j : Nat} {v : Int32} (h : g.1 a j = v) : ik_si g a j v = g := by
  refine Prod.ext ?_ rfl
  funext b i
  by_cases e : b = a
  · subst e
    by_cases e2 : i = j
    · subst e2; rw [ik_si_same, h]
    · rw [ik_si_ne _ _ _ _ _ e2]
  · rw [ik_si_row _ _ _ _ _ e]
theorem rE.nbs {x x' m : GG} {N B S N' B' S' : Nat} (h : rE x m N B S) (h' : rE x' m N' B' S') : N' = N ∧ B' = B ∧ S' = S := by
  have a1 := h.2.2.1.1
  have a2 := h.2.2.2.1.1
  have a3 := h.2.2.2.2.2.2.2.2.2.1.1
  have b1 := h'.2.2.1.1
  have b2 := h'.2.2.2.1.1
  have b3 := h'.2.2.2.2.2.2.2.2.2.1.1
  exact ⟨(nI_eq (by omega) (by omega)).mp (h'.2.2.1.2.2.1.symm.trans h.2.2.1.2.2.1), (nI_eq (by omega) (by omega)).mp (h'.2.2.2.1.2.2.1.symm.trans h.2.2.2.1.2.2.1), (nI_eq (by omega) (by omega)).mp (h'.2.2.2.2.2.2.2.2.2.1.2.2.1.symm.trans h.2.2.2.2.2.2.2.2.2.1.2.2.1)⟩
theorem cut_x {k1 k2 : Nat → Nat → Bool} {g : GG} {a j : Nat} (h : k1 a j = true) : (ik_cut k1 k2 g).1 a j = g.1 a j := by
  unfold ik_cut
  dsimp only
  rw [if_pos h]
theorem cut_l {k1 k2 : Nat → Nat → Bool} {g : GG} {a j : Nat} (h : k2 a j = true) : (ik_cut k1 k2 g).2 a j = g.2 a j := by
  unfold ik_cut
  dsimp only
  rw [if_pos h]
/-- what was made ready, once it was -/
def P1 (B N S T n : Nat) (L : List (Nat × RC)) (x m x0 x1 : GG) : Prop := rD x0 (ik_cut (kPd m) k0 m) N B S ∧ fX11_prepare [] (ik_si x0 0 13 0) = some (.null, x1) ∧ rE x1 m N B S ∧ RD B N S T n L x1 m ∧ x1.1 0 13 = 1 ∧ x1.1 0 14 = 0 ∧ (∀ a j, kPx a j = true → ¬ (a = 0 ∧ j = 14) → x.1 a j = x1.1 a j)
theorem rQ.p1 {x x' m : GG} {N B S T n : Nat} {c : Nat → Nat} {M : Nat} {L : List (Nat × RC)} (h : rE x' m N B S) (hD : rlD c M L x' m) (hn : n ≤ 20) (hmn : m.1 0 7 = nI n) (hmT : m.1 0 6 = nI T) (hT20 : T ≤ 20) (hq : rQ x m) (h13 : x.1 0 13 = 1) :
    ∃ x0 x1, P1 B N S T n L x m x0 x1 ∧ (x.1 0 14 = 0 ∨ (x.1 0 14 = 1 ∧ ∃ x2, fX11_weigh [] x1 = some (.null, x2) ∧ ∀ a j, kPl a j = true → x.2 a j = x2.2 a j)) := by
  obtain ⟨x0, x1, N', B', S', d1, d2, d3, d4⟩ := hq.2 (by rw [h13]; decide)
  obtain ⟨rfl, rfl, rfl⟩ := h.nbs d1.of
  have w0 : eqW x0 (ik_si x0 0 13 0) := (eqW.rfl' x0).si _ rfl
  have e0 := d1.of.z w0.z
  obtain ⟨c0, M0, L0, hD0⟩ := e0.2.2.2.2.2.2.2.2.2.2.1.d
  obtain ⟨_, g, eg, rfl, k1, k2, k3, k4, k5⟩ := w_prepare e0 hD0 hn hmn hmT hT20 (ik_si_same _ _ _ _)
  have eg' := eg.symm.trans d2
  simp only [Option.some.injEq, Prod.mk.injEq, true_and] at eg'
  subst eg'
  refine ⟨x0, g, ⟨d1, d2, e0.z k1.z, k3.L h.2.2.1 e0.2.2.1 h.2.2.2.1.1 hD hD0, k4, k5, fun a j hk hn => by rw [← d3 a j hk hn, cut_x hk]⟩, ?_⟩
  rcases d4 with d4 | ⟨d4, x2, d5, d6⟩
  · exact Or.inl (by rw [← d4, cut_x (show kPx 0 14 = true from rfl)])
  · exact Or.inr ⟨by rw [← d4, cut_x (show kPx 0 14 = true from rfl)], x2, d5, fun a j hk => by rw [← d6 a j hk, cut_l hk]⟩
theorem rQ.of {x m x0 x1 : GG} {N B S T n : Nat} {L : List (Nat × RC)} (h13 : x.1 0 13 = 1) (h : P1 B N S T n L x m x0 x1) (h4 : x.1 0 14 = 0 ∨ (x.1 0 14 = 1 ∧ ∃ x2, fX11_weigh [] x1 = some (.null, x2) ∧ ∀ a j, kPl a j = true → x.2 a j = x2.2 a j)) : rQ x m := by
  obtain ⟨p1, p2, -, -, -, -, p3⟩ := h
  refine ⟨Or.inr h13, fun _ => ⟨x0, x1, N, B, S, p1, p2, fun a j hk hn => by rw [cut_x hk]; exact p3 a j hk hn, ?_⟩⟩
  rw [cut_x (show kPx 0 14 = true from rfl)]
  rcases h4 with h4 | ⟨h4, x2, d5, d6⟩
  · exact Or.inl h4
  · exact Or.inr ⟨h4, x2, d5, fun a j hk => by rw [cut_l hk]; exact d6 a j hk⟩
theorem x_prep1 {g : GG} (h : g.1 0 13 = 1) : fX11_prepare [] g = some (.null, g) := by
  apply eq_of_wF
  unfold fX11_prepare
  simp (decide := true) only [wE_lit, wL_lit, wE_loc, wL_loc, wE_add, wE_sub, wE_mul, wE_and, wE_or, wE_xor, wE_shl, wE_shr, wE_ushr, wE_div, wE_rem, wE_neg, wE_i2b, wE_l2i, wL_i2l, wL_add, wL_mul, wE_fld, wL_fld, wE_arr, wL_arr, wC_cmp, wC_cmp0, wC_cmpL, wC_and, wC_or, wC_not, wC_ite, wL_ite, wA_nil, wA_int, wA_long, wE_call, wL_call, wS_skip, wS_seq, wS_set, wS_setL, wS_inc, wS_if, wS_put, wS_putL, wS_putOp, wS_putOpL, wS_ast, wS_astL, wS_aop, wS_aopL, wS_ret, wS_retL, wS_retV, wS_do, wS_pop, wS_dead, wS_sw, wF_body, Nat.reduceAdd, Nat.zero_add, Bool.not_not, true_and, and_true, if_true, if_false, ↓reduceIte, eq_self, Value.int.injEq, Value.long.injEq, exists_eq_left', ik_b1, ik_b0, ik_bz0, ik_bz3, ik_bz3_1, ik_bz3_0, ik_cmp, ik_cmpL, ik_eI, ik_eL, ik_as, ik_i0, ik_i1, decide_eq_true_eq, decide_eq_false_iff_not, decide_true, decide_false, Bool.not_true, Bool.not_false, reduceCtorEq, forall_const, false_implies, true_implies, implies_true, true_and, and_true, and_self, false_and, and_false, Bool.and_true, Bool.true_and, not_true_eq_false, not_false_eq_true, if_true, if_false, ite_true, ite_false, ik_bz3_0, ik_bz3_1, ik_bz0, h]
/-- the class makes ready, or all stands ready -/
theorem w_ready {x m : GG} {N B S T n : Nat} {c : Nat → Nat} {M : Nat} {L : List (Nat × RC)} (h : rE x m N B S) (hQ : rQ x m) (hD : rlD c M L x m) (hn : n ≤ 20) (hmn : m.1 0 7 = nI n) (hmT : m.1 0 6 = nI T) (hT20 : T ≤ 20) :
    ∃ g, fX11_prepare [] x = some (.null, g) ∧ eqW x g ∧ RD B N S T n L g m ∧ g.1 0 13 = 1 ∧ rQ g m := by
  rcases hQ.1 with h13 | h13
  · obtain ⟨_, g, eg, rfl, k1, k2, k3, k4, k5⟩ := w_prepare h hD hn hmn hmT hT20 h13
    refine ⟨g, eg, k1, k3, k4, rQ.of (T := T) (n := n) (L := L) k4 ⟨rD.cut h, by rw [si_id h13]; exact eg, h.z k1.z, k3, k4, k5, fun _ _ _ _ => rfl⟩ (Or.inl k5)⟩
  · obtain ⟨x0, x1, p, -⟩ := hQ.p1 h hD hn hmn hmT hT20 h13
    exact ⟨x, x_prep1 h13, eqW.rfl' x, p.2.2.2.1.fr p.2.2.2.2.2.2, h13, hQ⟩
