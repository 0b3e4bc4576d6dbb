/-- what stands ready for the searches, but which names fit -/
def RD (B N S T n : Nat) (L : List (Nat × RC)) (y m : GG) : Prop := LN B y (24 * S) (toldP m S) ∧ y.1 48 9 = nI B ∧ y.1 48 10 = nI N ∧ (∀ i, i < N → y.1 57 i = ik_nw m i ∧ y.1 58 i = m.1 9 i) ∧ (∀ q k i j, q < k → k < B → i < N → j < N → ib (y.1 56 ((q * 4 + k) * 24 + i)) j = prB m T q k i j) ∧ ∀ k i, k < B → i < N → y.1 63 (24 * k + i) = nI (agB m S n L k i)
/-- the pairs that are left by the first t ties, and by the first i0 names of the next one -/
def prT (m : GG) (t i0 q k i j : Nat) : Bool := !ik_any (prF m q k i j) t && !(decide (i < i0) && prF m q k i j t)
theorem prT_0 (m : GG) (t q k i j : Nat) : prT m t 0 q k i j = prB m t q k i j := by
  unfold prT prB
  simp
theorem prT_N {m : GG} {t N q k i j : Nat} (hi : i < N) : prT m t N q k i j = prB m (t + 1) q k i j := by
  unfold prT prB
  rw [decide_eq_true hi, Bool.true_and]
  show _ = !(ik_any (prF m q k i j) t || prF m q k i j t)
  rw [Bool.not_or]
theorem prT_s {m : GG} {t i0 q k i j : Nat} (h : i ≠ i0) : prT m t (i0 + 1) q k i j = prT m t i0 q k i j := by
  unfold prT
  rw [show decide (i < i0 + 1) = decide (i < i0) from decide_eq_decide.mpr (by omega)]
theorem prT_a {m : GG} {t i0 q k j : Nat} : prT m t (i0 + 1) q k i0 j = (prT m t i0 q k i0 j && !prF m q k i0 j t) := by
  unfold prT
  rw [decide_eq_true (Nat.lt_succ_self i0), decide_eq_false (Nat.lt_irrefl i0)]
  simp
/-- the ties of one name -/
theorem w_tie1 {m g : GG} {N B T t i a b : Nat} (hN : rN g m N) (hB4 : B ≤ 4) (hT : T ≤ 20) (e10 : g.1 15 10 = nI T) (ht : t < T) (e19 : g.1 19 t = m.1 35 t) (sv : 0 ≤ m.1 35 t ∧ m.1 35 t ≤ 2) (ha : a < B) (hb : b < B) (ea : m.1 36 t = nI a) (eb : m.1 37 t = nI b) (hab : a ≠ b) (hi : i < N)
    (hp : ∀ q k i' j, q < k → k < B → i' < N → j < N → ib (g.1 56 ((q * 4 + k) * 24 + i')) j = prT m t i q k i' j) :
    ∃ g', eqW g g' ∧ g'.2 = g.2 ∧ (∀ c, c ≠ 56 → g'.1 c = g.1 c) ∧ (∀ q k i' j, q < k → k < B → i' < N → j < N → ib (g'.1 56 ((q * 4 + k) * 24 + i')) j = prT m t (i + 1) q k i' j) ∧
    ∀ (s1 : Nat → Int32) (s2 : Nat → Int64) (Z : SS → Prop) (R : Value → GG → Prop), s1 1 = nI t → s1 2 = nI a → s1 3 = nI b → s1 4 = nI i → (wS (sSeq (sDo fX2_pair (sArgI (sLoc 2) (sArgI (sLoc 4) (sArgI (sLoc 3) (sArgI (sCall fX6_mates (sArgI (sCall fX0_tieSort (sArgI (sLoc 1) sNil)) (sArgI (sLoc 4) (sArgI (sLit 1) sNil)))) sNil))))) (sDo fX2_pair (sArgI (sLoc 3) (sArgI (sLoc 4) (sArgI (sLoc 2) (sArgI (sCall fX6_mates (sArgI (sCall fX0_tieSort (sArgI (sLoc 1) sNil)) (sArgI (sLoc 4) (sArgI (sLit 0) sNil)))) sNil)))))) (s1, s2, g) Z R ↔ Z (s1, s2, g')) := by
  have hN24 := hN.1
  have so := w_tieSort e10 hT ht
  rw [e19] at so
  obtain ⟨_, z1, e1, hz1, r1, rfl, hr1⟩ := w_mates (fst := true) hN hi sv
  rw [hz1] at e1
  obtain ⟨g2, hg2⟩ : ∃ g2, g2 = ik_si g 56 ((a * 4 + b) * 24 + i) (g.1 56 ((a * 4 + b) * 24 + i) &&& r1) := ⟨_, rfl⟩
  have f2 : ∀ c, c ≠ 56 → g2.1 c = g.1 c := fun c hc => by rw [hg2, ik_si_row _ _ _ _ _ hc]
  have hN2 : rN g2 m N := hN.fr (by rw [f2 6 (by decide)]) rfl (by rw [f2 7 (by decide)]) (f2 9 (by decide)) (f2 8 (by decide)) rfl rfl (f2 10 (by decide)) (f2 11 (by decide)) (f2 12 (by decide)) (f2 13 (by decide)) rfl rfl rfl rfl (f2 14 (by decide))
  have so2 := w_tieSort (show g2.1 15 10 = nI T by rw [f2 15 (by decide)]; exact e10) hT ht
  rw [f2 19 (by decide), e19] at so2
  obtain ⟨_, z2, e2, hz2, r2, rfl, hr2⟩ := w_mates (fst := false) hN2 hi sv
  rw [hz2] at e2
  refine ⟨ik_si g2 56 ((b * 4 + a) * 24 + i) (g2.1 56 ((b * 4 + a) * 24 + i) &&& r2), ?_, ?_, fun c hc => ?_, fun q k i' j hq hk hi' hj => ?_, fun s1 s2 Z R b1 b2 b3 b4 => ?_⟩
  · rw [hg2]
    exact ((eqW.rfl' g).si _ (kW_ge (by decide))).si _ (kW_ge (by decide))
  · rw [hg2]
    rfl
  · rw [ik_si_row _ _ _ _ _ hc]
    exact f2 c hc
  · have hp0 := hp q k i' j hq hk hi' hj
    by_cases ei : i' = i
    · subst ei
      rw [prT_a]
      by_cases c1 : q = a ∧ k = b
      · obtain ⟨rfl, rfl⟩ := c1
        have pf : prF m q k i' j t = !mtB m (m.1 35 t) true i' j := by
          unfold prF
          rw [ea, eb, decide_eq_true (And.intro rfl rfl), decide_eq_false (fun z => by have := (nI_eq (by omega) (by omega)).mp z.1; omega)]
          simp
        rw [ik_si_ne _ _ _ _ _ (by omega), hg2, ik_si_same, ib_and, hp0, hr1 j hj, pf, Bool.not_not]
      · by_cases c2 : q = b ∧ k = a
        · obtain ⟨rfl, rfl⟩ := c2
          have pf : prF m q k i' j t = !mtB m (m.1 35 t) false i' j := by
            unfold prF
            rw [ea, eb, decide_eq_false (fun z => by have := (nI_eq (by omega) (by omega)).mp z.1; omega), decide_eq_true (And.intro rfl rfl)]
            simp
          rw [ik_si_same, ib_and, hr2 j hj, pf, Bool.not_not, hg2, ik_si_ne _ _ _ _ _ (by omega), hp0]
        · have pf : prF m q k i' j t = false := by
            unfold prF
            rw [ea, eb, decide_eq_false (fun z => c1 ⟨((nI_eq (by omega) (by omega)).mp z.1).symm, ((nI_eq (by omega) (by omega)).mp z.2).symm⟩), decide_eq_false (fun z => c2 ⟨((nI_eq (by omega) (by omega)).mp z.1).symm, ((nI_eq (by omega) (by omega)).mp z.2).symm⟩)]
            simp
          rw [ik_si_ne _ _ _ _ _ (by omega), hg2, ik_si_ne _ _ _ _ _ (by omega), hp0, pf]
          simp
    · rw [prT_s ei, ik_si_ne _ _ _ _ _ (by omega), hg2, ik_si_ne _ _ _ _ _ (by omega), hp0]
  · have e1' : fX6_mates [.int (m.1 35 t), .int (nI i), .int 1] g = _ := e1
    have e2' : fX6_mates [.int (m.1 35 t), .int (nI i), .int 0] g2 = _ := e2
    have p1 := w_pair2 (show a < 4 by omega) (show b < 4 by omega) (show i < 24 by omega) r1 g
    rw [← hg2] at p1
    have p2 := w_pair2 (show b < 4 by omega) (show a < 4 by omega) (show i < 24 by omega) r2 g2
    simp (decide := true) only [wE_lit, wL_lit, wE_loc, wL_loc, wE_add, wE_sub, wE_mul, wE_and, wE_or, wE_xor, wE_shl, wE_shr, wE_ushr, wE_div, wE_rem, wE_neg, wE_i2b, wE_l2i, wL_i2l, wL_add, wL_mul, wE_fld, wL_fld, wE_arr, wL_arr, wC_cmp, wC_cmp0, wC_cmpL, wC_and, wC_or, wC_not, wC_ite, wL_ite, wA_nil, wA_int, wA_long, wE_call, wL_call, wS_skip, wS_seq, wS_set, wS_setL, wS_inc, wS_if, wS_put, wS_putL, wS_putOp, wS_putOpL, wS_ast, wS_astL, wS_aop, wS_aopL, wS_ret, wS_retL, wS_retV, wS_do, wS_pop, wS_dead, wS_sw, wF_body, Nat.reduceAdd, Nat.zero_add, Bool.not_not, true_and, and_true, if_true, if_false, ↓reduceIte, eq_self, Value.int.injEq, Value.long.injEq, exists_eq_left', ik_b1, ik_b0, ik_bz0, ik_bz3, ik_bz3_1, ik_bz3_0, ik_cmp, ik_cmpL, ik_eI, ik_eL, ik_as, ik_i0, ik_i1, decide_eq_true_eq, decide_eq_false_iff_not, decide_true, decide_false, Bool.not_true, Bool.not_false, reduceCtorEq, forall_const, false_implies, true_implies, implies_true, true_and, and_true, and_self, false_and, and_false, Bool.and_true, Bool.true_and, not_true_eq_false, not_false_eq_true, if_true, if_false, ite_true, ite_false, ik_bz3_0, ik_bz3_1, ik_bz0, b1, b2, b3, b4, so, wF_eq e1', p1, so2, wF_eq e2', p2]
