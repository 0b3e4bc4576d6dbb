def ask5 (P : (Nat → Int) → Prop) (must : Bool) (rest : Int32) (f : Nat → Int32) : (Nat → Int) → Prop := fun w => P w ∧ (must = true ↔ rest.toInt < lnS f w)
theorem LNM.no {B : Nat} {M : Nat → Nat} {y : GG} {A : Nat} {P : (Nat → Int) → Prop} {rest b : Int32} {must : Bool} (h : LNM B M y A P) (h0 : ∀ q, q < 4 → y.1 54 q = 0) (hb : b = if (¬ y.1 49 5 = 0) ∨ ik_b2 must = (if 0 ≤ rest then 1 else 0) then 1 else 0) : LNM B M (ik_si y 49 5 b) (A + 1) (ask5 P must rest (y.1 54)) := by
  obtain ⟨k1, k2, k3⟩ := h
  have r : ∀ a, a ≠ 49 → (ik_si y 49 5 b).1 a = y.1 a := fun a ha => ik_si_row _ _ _ _ _ ha
  have b5 : (ik_si y 49 5 b).1 49 5 = b := ik_si_same _ _ _ _
  have b01 : b = 0 ∨ b = 1 := by
    rcases Classical.em ((¬ y.1 49 5 = 0) ∨ ik_b2 must = (if 0 ≤ rest then 1 else 0)) with c | c
    · exact Or.inr (by rw [hb, if_pos c])
    · exact Or.inl (by rw [hb, if_neg c])
  refine ⟨by rw [b5]; exact b01, fun k hk => ⟨by have := (k2 k hk).1; omega, by rw [r 50 (by decide)]; exact (k2 k hk).2.1, fun j hj => lnK_congr (by rw [r 51 (by decide)]) (by rw [r 52 (by decide)]) (fun q _ => by rw [r 53 (by decide)]) ((k2 k hk).2.2 j hj)⟩, fun w => ?_⟩
  have s0 : lnS (y.1 54) w = 0 := by
    unfold lnS
    rw [h0 0 (by decide), h0 1 (by decide), h0 2 (by decide), h0 3 (by decide), show (0 : Int32).toInt = 0 from rfl]
    omega
  have lc : ∀ c, lnC (ik_si y 49 5 b) w c ↔ lnC y w c := fun c => lnC_congr (by rw [r 51 (by decide)]) (by rw [r 52 (by decide)]) (fun q _ => by rw [r 53 (by decide)])
  have hz : b = 0 ↔ y.1 49 5 = 0 ∧ (must = true ↔ rest.toInt < 0) := by
    have e : (0 ≤ rest) ↔ ¬ rest.toInt < 0 := by rw [tLe, show (0 : Int32).toInt = 0 from rfl]; omega
    subst hb
    by_cases q1 : y.1 49 5 = 0 <;> by_cases q2 : rest.toInt < 0 <;> cases must <;> simp [q1, q2, e, ik_b2]
  show (_ ↔ P w ∧ (must = true ↔ rest.toInt < lnS (y.1 54) w))
  rw [b5, hz, s0, ← k3 w]
  constructor
  · rintro ⟨⟨q1, q2⟩, q3⟩
    exact ⟨⟨q1, fun k j hk hj => (lc _).mp (q3 k j hk hj)⟩, q2⟩
  · rintro ⟨⟨q1, q3⟩, q2⟩
    exact ⟨⟨q1, q2⟩, fun k j hk hj => (lc _).mpr (q3 k j hk hj)⟩
theorem LNM.old {B : Nat} {M : Nat → Nat} {y : GG} {A : Nat} {P : (Nat → Int) → Prop} {rest v : Int32} {must : Bool} (h : LNM B M y A P) (hA : A < 144) {L n : Nat} (hL : L < 4) (hn : n < M L) (hs : sameB y (144 * L + n) = true) (hw : y.1 52 (144 * L + n) = ik_b2 must) (hr : btw rest 100000)
    (hv : v = if must = true then (if rest ≤ y.1 51 (144 * L + n) then y.1 51 (144 * L + n) else rest) else (if y.1 51 (144 * L + n) ≤ rest then y.1 51 (144 * L + n) else rest)) : LNM B M (ik_si y 51 (144 * L + n) v) (A + 1) (ask5 P must rest (y.1 54)) := by
  obtain ⟨k1, k2, k3⟩ := h
  have r : ∀ a, a ≠ 51 → (ik_si y 51 (144 * L + n) v).1 a = y.1 a := fun a ha => ik_si_row _ _ _ _ _ ha
  have v1 : (ik_si y 51 (144 * L + n) v).1 51 (144 * L + n) = v := ik_si_same _ _ _ _
  have v2 : ∀ j, j ≠ 144 * L + n → (ik_si y 51 (144 * L + n) v).1 51 j = y.1 51 j := fun j hj => ik_si_ne _ _ _ _ _ hj
  have kL := (k2 L hL).2.2 n hn
  have same := sameB_t hs
  have dist : ∀ k j, k < 4 → j < M k → ¬ (k = L ∧ j = n) → 144 * k + j ≠ 144 * L + n := by
    intro k j hk hj hne e
    have h1 := (k2 k hk).1
    have h2 := (k2 L hL).1
    have : k = L := by omega
    exact hne ⟨this, by subst this; omega⟩
  refine ⟨by rw [r 49 (by decide)]; exact k1, fun k hk => ⟨by have := (k2 k hk).1; omega, by rw [r 50 (by decide)]; exact (k2 k hk).2.1, fun j hj => ?_⟩, fun w => ?_⟩
  · by_cases e : k = L ∧ j = n
    · obtain ⟨rfl, rfl⟩ := e
      refine ⟨by rw [r 52 (by decide)]; exact kL.1, ?_, fun q hq => by rw [r 53 (by decide)]; exact kL.2.2 q hq⟩
      rw [v1, hv]
      have b := kL.2.1
      split <;> split <;> assumption
    · exact lnK_congr (v2 _ (dist k j hk hj e)) (by rw [r 52 (by decide)]) (fun q _ => by rw [r 53 (by decide)]) ((k2 k hk).2.2 j hj)
  · have lo : ∀ k j, k < 4 → j < M k → ¬ (k = L ∧ j = n) → (lnC (ik_si y 51 (144 * L + n) v) w (144 * k + j) ↔ lnC y w (144 * k + j)) := fun k j hk hj e => lnC_congr (v2 _ (dist k j hk hj e)) (by rw [r 52 (by decide)]) (fun q _ => by rw [r 53 (by decide)])
    have ln : lnC (ik_si y 51 (144 * L + n) v) w (144 * L + n) ↔ (lnC y w (144 * L + n) ∧ (must = true ↔ rest.toInt < lnS (y.1 54) w)) := by
      unfold lnC
      rw [r 52 (by decide), r 53 (by decide), v1, hw, lnS_congr (f' := fun q => y.1 53 (4 * (144 * L + n) + q)) (f := y.1 54) same, hv]
      have z1 : (ik_b2 true = 0) = False := by simp [ik_b2]
      have z0 : (ik_b2 false = 0) = True := by simp [ik_b2]
      cases must with
      | true =>
        simp only [z1, if_false, if_true, true_iff]
        by_cases c : rest ≤ y.1 51 (144 * L + n)
        · simp only [c, if_true]
          rw [tLe] at c
          omega
        · simp only [c, if_false]
          rw [tLe] at c
          omega
      | false =>
        simp only [z0, if_false, if_true, Bool.false_eq_true, false_iff]
        by_cases c : y.1 51 (144 * L + n) ≤ rest
        · simp only [c, if_true]
          rw [tLe] at c
          omega
        · simp only [c, if_false]
          rw [tLe] at c
          omega
    show (_ ↔ P w ∧ (must = true ↔ rest.toInt < lnS (y.1 54) w))
    rw [r 49 (by decide), ← k3 w]
    constructor
    · rintro ⟨q1, q2⟩
      obtain ⟨l1, l2⟩ := ln.mp (q2 L n hL hn)
      refine ⟨⟨q1, fun k j hk hj => ?_⟩, l2⟩
      by_cases e : k = L ∧ j = n
      · obtain ⟨rfl, rfl⟩ := e
        exact l1
      · exact (lo k j hk hj e).mp (q2 k j hk hj)
    · rintro ⟨⟨q1, q2⟩, q3⟩
      refine ⟨q1, fun k j hk hj => ?_⟩
      by_cases e : k = L ∧ j = n
      · obtain ⟨rfl, rfl⟩ := e
        exact ln.mpr ⟨q2 k j hk hj, q3⟩
      · exact (lo k j hk hj e).mpr (q2 k j hk hj)
theorem LNM.nu {B : Nat} {M : Nat → Nat} {y g : GG} {A : Nat} {P : (Nat → Int) → Prop} {rest : Int32} {must : Bool} (h : LNM B M y A P) (hA : A < 144) {L : Nat} (hL : L < 4) (hr : btw rest 100000) (hnow : ∀ q, q < 4 → ∃ z : Nat, z ≤ 24 ∧ y.1 54 q = nI z) (hl : ¬ y.1 54 L = 0) (hLB : L < B) (hz : ∀ q, L < q → q < 4 → y.1 54 q = 0)
    (g49 : g.1 49 = y.1 49) (g50 : g.1 50 L = nI (M L + 1)) (g50' : ∀ k, k ≠ L → g.1 50 k = y.1 50 k) (g51 : g.1 51 (144 * L + M L) = rest) (g52 : g.1 52 (144 * L + M L) = ik_b2 must) (go : ∀ j, j ≠ 144 * L + M L → g.1 51 j = y.1 51 j ∧ g.1 52 j = y.1 52 j) (g53 : ∀ q, q < 4 → g.1 53 (4 * (144 * L + M L) + q) = y.1 54 q) (g53' : ∀ j, j < 4 * (144 * L + M L) ∨ 4 * (144 * L + M L) + 4 ≤ j → g.1 53 j = y.1 53 j) :
    LNM B (fun k => if k = L then M L + 1 else M k) g (A + 1) (ask5 P must rest (y.1 54)) := by
  obtain ⟨k1, k2, k3⟩ := h
  have dist : ∀ k j, k < 4 → j < M k → 144 * k + j ≠ 144 * L + M L := by
    intro k j hk hj e
    have h1 := (k2 k hk).1
    have h2 := (k2 L hL).1
    have : k = L := by omega
    subst this
    omega
  have mL := (k2 L hL).1
  have d53 : ∀ k j, k < 4 → j < M k → ∀ q, q < 4 → g.1 53 (4 * (144 * k + j) + q) = y.1 53 (4 * (144 * k + j) + q) := fun k j hk hj q hq => g53' _ (by have := dist k j hk hj; omega)
  refine ⟨by rw [g49]; exact k1, fun k hk => ?_, fun w => ?_⟩
  · by_cases e : k = L
    · subst e
      refine ⟨?_, ?_, fun j hj => ?_⟩
      · simp only [if_true]; omega
      · simp only [if_true]; exact g50
      · simp only [if_true] at hj
        by_cases ej : j = M k
        · subst ej
          refine ⟨by rw [g52]; cases must <;> simp [ik_b2], by rw [g51]; exact hr, fun q hq => ?_⟩
          obtain ⟨z, z1, z2⟩ := hnow q hq
          refine ⟨z, z1, (g53 q hq).trans z2, fun hlt => ?_, fun he => ?_⟩
          · have := hz q hlt hq
            rw [z2, ← nI_0, nI_eq (by omega) (by omega)] at this
            exact this
          · subst he
            rw [z2, ← nI_0, nI_eq (by omega) (by omega)] at hl
            exact ⟨by omega, hLB⟩
        · have hj' : j < M k := by omega
          have o := go _ (dist k j hk hj')
          exact lnK_congr o.1 o.2 (d53 k j hk hj') ((k2 k hk).2.2 j hj')
    · refine ⟨?_, ?_, fun j hj => ?_⟩
      · simp only [e, if_false]; have := (k2 k hk).1; omega
      · simp only [e, if_false]; rw [g50' k e]; exact (k2 k hk).2.1
      · simp only [e, if_false] at hj
        have o := go _ (dist k j hk hj)
        exact lnK_congr o.1 o.2 (d53 k j hk hj) ((k2 k hk).2.2 j hj)
  · have lo : ∀ k j, k < 4 → j < M k → (lnC g w (144 * k + j) ↔ lnC y w (144 * k + j)) := fun k j hk hj => lnC_congr (go _ (dist k j hk hj)).1 (go _ (dist k j hk hj)).2 (d53 k j hk hj)
    have ln : lnC g w (144 * L + M L) ↔ (must = true ↔ rest.toInt < lnS (y.1 54) w) := by
      unfold lnC
      rw [g52, g51, lnS_congr (f' := fun q => g.1 53 (4 * (144 * L + M L) + q)) (f := y.1 54) g53]
      cases must with
      | true =>
        rw [if_neg (by decide)]
        exact ⟨fun q => ⟨fun _ => q, fun _ => rfl⟩, fun q => q.mp rfl⟩
      | false =>
        rw [if_pos (by rfl)]
        refine ⟨fun q => ⟨fun z => (by cases z), fun z => by omega⟩, fun q => ?_⟩
        apply Classical.byContradiction
        intro z
        have := q.mpr (by omega)
        cases this
    show (_ ↔ P w ∧ (must = true ↔ rest.toInt < lnS (y.1 54) w))
    rw [g49, ← k3 w]
    constructor
    · rintro ⟨q1, q2⟩
      have l2 := q2 L (M L) hL (by simp only [if_true]; omega)
      refine ⟨⟨q1, fun k j hk hj => ?_⟩, ln.mp l2⟩
      refine (lo k j hk hj).mp (q2 k j hk ?_)
      by_cases e : k = L
      · subst e; simp only [if_true]; omega
      · simp only [e, if_false]; exact hj
    · rintro ⟨⟨q1, q2⟩, q3⟩
      refine ⟨q1, fun k j hk hj => ?_⟩
      by_cases e : k = L
      · subst e
        simp only [if_true] at hj
        by_cases ej : j = M k
        · subst ej; exact ln.mpr q3
        · exact (lo k j hk (by omega)).mpr (q2 k j hk (by omega))
      · simp only [e, if_false] at hj
        exact (lo k j hk hj).mpr (q2 k j hk hj)
theorem w_add5 {B : Nat} {y0 y : GG} {A : Nat} {P : (Nat → Int) → Prop} {rest : Int32} {must : Bool} (h0 : eqL y0 y) (h : LN B y A P) (hA : A < 144) (hnow : ∀ q, q < 4 → ∃ z : Nat, z ≤ 24 ∧ y.1 54 q = nI z) (hnB : ∀ q, q < 4 → B ≤ q → y.1 54 q = 0) (hr : btw rest 100000) :
    wF fX5_add [.int rest, .int (ik_b2 must)] y (fun v g => v = .null ∧ LN B g (A + 1) (ask5 P must rest (y.1 54)) ∧ eqL y0 g ∧ g.1 54 = y.1 54) := by
  obtain ⟨M, hM⟩ := h
  have hM' := hM
  obtain ⟨k1, k2, k3⟩ := hM
  have i2 : ∀ p : Int32, ik_b2 must = p ↔ p = ik_b2 must := fun p => ⟨Eq.symm, Eq.symm⟩
  unfold fX5_add
  simp (decide := true) only [wE_lit, wL_lit, wE_loc, wL_loc, wE_add, wE_sub, wE_mul, wE_and, wE_or, wE_xor, wE_shl, wE_shr, wE_ushr, wE_div, wE_rem, wE_neg, wE_i2b, wE_l2i, wL_i2l, wL_add, wL_mul, wE_fld, wL_fld, wE_arr, wL_arr, wC_cmp, wC_cmp0, wC_cmpL, wC_and, wC_or, wC_not, wC_ite, wL_ite, wA_nil, wA_int, wA_long, wE_call, wL_call, wS_skip, wS_seq, wS_set, wS_setL, wS_inc, wS_if, wS_put, wS_putL, wS_putOp, wS_putOpL, wS_ast, wS_astL, wS_aop, wS_aopL, wS_ret, wS_retL, wS_retV, wS_do, wS_pop, wS_dead, wS_sw, wF_body, Nat.reduceAdd, Nat.zero_add, Bool.not_not, true_and, and_true, if_true, if_false, ↓reduceIte, eq_self, Value.int.injEq, Value.long.injEq, exists_eq_left', ik_b1, ik_b0, ik_bz0, ik_bz3, ik_bz3_1, ik_bz3_0, ik_cmp, ik_cmpL, ik_eI, ik_eL, ik_as, ik_i0, ik_i1, decide_eq_true_eq, decide_eq_false_iff_not, decide_true, decide_false, Bool.not_true, Bool.not_false, reduceCtorEq, forall_const, false_implies, true_implies, implies_true, true_and, and_true, and_self, false_and, and_false, Bool.and_true, Bool.true_and, not_true_eq_false, not_false_eq_true, if_true, if_false, ite_true, ite_false, ik_bz3_0, ik_bz3_1, ik_bz0]
  refine wS_wh _ _ (fun k σ => ∃ s, s ≤ 4 ∧ k = 4 - s ∧ σ.1 4 = nI s ∧ σ.1 3 = nI (4 - s) - 1 ∧ σ.1 1 = rest ∧ σ.1 2 = ik_b2 must ∧ (∀ q, 4 - s ≤ q → q < 4 → y.1 54 q = 0) ∧ σ.2.2 = y) ?_ ik_fuel 4 _ (by unfold ik_fuel; omega) ⟨0, by omega, by omega, by simp [upd, nI_0], by simp [upd]; rfl, by simp [upd, ik_eI], by simp [upd, ik_eI], fun q h1 h2 => by omega, rfl⟩
  rintro k ⟨s1, s2, s3⟩ ⟨s, h1, h2, h3, h4, h5, h6, h7, h8⟩
  simp only at h3 h4 h5 h6 h8
  subst h8
  by_cases hs : s = 4
  · subst hs
    have h4' : s1 3 = -1 := h4
    have lt4 : ¬ nI 4 < 4 := by decide
    have z0 : ∀ q, q < 4 → s3.1 54 q = 0 := fun q hq => h7 q (by omega) hq
    have fin : ∀ b : Int32, (b = if (¬ s3.1 49 5 = 0) ∨ ik_b2 must = (if 0 ≤ rest then 1 else 0) then 1 else 0) → LN B (ik_si s3 49 5 b) (A + 1) (ask5 P must rest (s3.1 54)) ∧ eqL y0 (ik_si s3 49 5 b) ∧ (ik_si s3 49 5 b).1 54 = s3.1 54 := fun b hb => ⟨⟨M, hM'.no z0 hb⟩, h0.si _ (by omega), ik_si_row _ _ _ _ _ (by decide)⟩
    by_cases q1 : s3.1 49 5 = 0
    · by_cases q2 : 0 ≤ rest
      · by_cases q3 : ik_b2 must = 1
        · have f := fin 1 (by simp [q1, q2, q3])
          simp (decide := true) only [wE_lit, wL_lit, wE_loc, wL_loc, wE_add, wE_sub, wE_mul, wE_and, wE_or, wE_xor, wE_shl, wE_shr, wE_ushr, wE_div, wE_rem, wE_neg, wE_i2b, wE_l2i, wL_i2l, wL_add, wL_mul, wE_fld, wL_fld, wE_arr, wL_arr, wC_cmp, wC_cmp0, wC_cmpL, wC_and, wC_or, wC_not, wC_ite, wL_ite, wA_nil, wA_int, wA_long, wE_call, wL_call, wS_skip, wS_seq, wS_set, wS_setL, wS_inc, wS_if, wS_put, wS_putL, wS_putOp, wS_putOpL, wS_ast, wS_astL, wS_aop, wS_aopL, wS_ret, wS_retL, wS_retV, wS_do, wS_pop, wS_dead, wS_sw, wF_body, Nat.reduceAdd, Nat.zero_add, Bool.not_not, true_and, and_true, if_true, if_false, ↓reduceIte, eq_self, Value.int.injEq, Value.long.injEq, exists_eq_left', ik_b1, ik_b0, ik_bz0, ik_bz3, ik_bz3_1, ik_bz3_0, ik_cmp, ik_cmpL, ik_eI, ik_eL, ik_as, ik_i0, ik_i1, decide_eq_true_eq, decide_eq_false_iff_not, decide_true, decide_false, Bool.not_true, Bool.not_false, reduceCtorEq, forall_const, false_implies, true_implies, implies_true, true_and, and_true, and_self, false_and, and_false, Bool.and_true, Bool.true_and, not_true_eq_false, not_false_eq_true, if_true, if_false, ite_true, ite_false, ik_bz3_0, ik_bz3_1, ik_bz0, wE_ite, h3, lt4, h4', h5, h6, q1, q2, q3]
          exact f
        · have f := fin 0 (by simp [q1, q2, q3])
          simp (decide := true) only [wE_lit, wL_lit, wE_loc, wL_loc, wE_add, wE_sub, wE_mul, wE_and, wE_or, wE_xor, wE_shl, wE_shr, wE_ushr, wE_div, wE_rem, wE_neg, wE_i2b, wE_l2i, wL_i2l, wL_add, wL_mul, wE_fld, wL_fld, wE_arr, wL_arr, wC_cmp, wC_cmp0, wC_cmpL, wC_and, wC_or, wC_not, wC_ite, wL_ite, wA_nil, wA_int, wA_long, wE_call, wL_call, wS_skip, wS_seq, wS_set, wS_setL, wS_inc, wS_if, wS_put, wS_putL, wS_putOp, wS_putOpL, wS_ast, wS_astL, wS_aop, wS_aopL, wS_ret, wS_retL, wS_retV, wS_do, wS_pop, wS_dead, wS_sw, wF_body, Nat.reduceAdd, Nat.zero_add, Bool.not_not, true_and, and_true, if_true, if_false, ↓reduceIte, eq_self, Value.int.injEq, Value.long.injEq, exists_eq_left', ik_b1, ik_b0, ik_bz0, ik_bz3, ik_bz3_1, ik_bz3_0, ik_cmp, ik_cmpL, ik_eI, ik_eL, ik_as, ik_i0, ik_i1, decide_eq_true_eq, decide_eq_false_iff_not, decide_true, decide_false, Bool.not_true, Bool.not_false, reduceCtorEq, forall_const, false_implies, true_implies, implies_true, true_and, and_true, and_self, false_and, and_false, Bool.and_true, Bool.true_and, not_true_eq_false, not_false_eq_true, if_true, if_false, ite_true, ite_false, ik_bz3_0, ik_bz3_1, ik_bz0, wE_ite, h3, lt4, h4', h5, h6, q1, q2, q3]
          exact f
      · by_cases q3 : ik_b2 must = 0
        · have f := fin 1 (by simp [q1, q2, q3])
          simp (decide := true) only [wE_lit, wL_lit, wE_loc, wL_loc, wE_add, wE_sub, wE_mul, wE_and, wE_or, wE_xor, wE_shl, wE_shr, wE_ushr, wE_div, wE_rem, wE_neg, wE_i2b, wE_l2i, wL_i2l, wL_add, wL_mul, wE_fld, wL_fld, wE_arr, wL_arr, wC_cmp, wC_cmp0, wC_cmpL, wC_and, wC_or, wC_not, wC_ite, wL_ite, wA_nil, wA_int, wA_long, wE_call, wL_call, wS_skip, wS_seq, wS_set, wS_setL, wS_inc, wS_if, wS_put, wS_putL, wS_putOp, wS_putOpL, wS_ast, wS_astL, wS_aop, wS_aopL, wS_ret, wS_retL, wS_retV, wS_do, wS_pop, wS_dead, wS_sw, wF_body, Nat.reduceAdd, Nat.zero_add, Bool.not_not, true_and, and_true, if_true, if_false, ↓reduceIte, eq_self, Value.int.injEq, Value.long.injEq, exists_eq_left', ik_b1, ik_b0, ik_bz0, ik_bz3, ik_bz3_1, ik_bz3_0, ik_cmp, ik_cmpL, ik_eI, ik_eL, ik_as, ik_i0, ik_i1, decide_eq_true_eq, decide_eq_false_iff_not, decide_true, decide_false, Bool.not_true, Bool.not_false, reduceCtorEq, forall_const, false_implies, true_implies, implies_true, true_and, and_true, and_self, false_and, and_false, Bool.and_true, Bool.true_and, not_true_eq_false, not_false_eq_true, if_true, if_false, ite_true, ite_false, ik_bz3_0, ik_bz3_1, ik_bz0, wE_ite, h3, lt4, h4', h5, h6, q1, q2, q3]
          exact f
        · have f := fin 0 (by simp [q1, q2, q3])
          simp (decide := true) only [wE_lit, wL_lit, wE_loc, wL_loc, wE_add, wE_sub, wE_mul, wE_and, wE_or, wE_xor, wE_shl, wE_shr, wE_ushr, wE_div, wE_rem, wE_neg, wE_i2b, wE_l2i, wL_i2l, wL_add, wL_mul, wE_fld, wL_fld, wE_arr, wL_arr, wC_cmp, wC_cmp0, wC_cmpL, wC_and, wC_or, wC_not, wC_ite, wL_ite, wA_nil, wA_int, wA_long, wE_call, wL_call, wS_skip, wS_seq, wS_set, wS_setL, wS_inc, wS_if, wS_put, wS_putL, wS_putOp, wS_putOpL, wS_ast, wS_astL, wS_aop, wS_aopL, wS_ret, wS_retL, wS_retV, wS_do, wS_pop, wS_dead, wS_sw, wF_body, Nat.reduceAdd, Nat.zero_add, Bool.not_not, true_and, and_true, if_true, if_false, ↓reduceIte, eq_self, Value.int.injEq, Value.long.injEq, exists_eq_left', ik_b1, ik_b0, ik_bz0, ik_bz3, ik_bz3_1, ik_bz3_0, ik_cmp, ik_cmpL, ik_eI, ik_eL, ik_as, ik_i0, ik_i1, decide_eq_true_eq, decide_eq_false_iff_not, decide_true, decide_false, Bool.not_true, Bool.not_false, reduceCtorEq, forall_const, false_implies, true_implies, implies_true, true_and, and_true, and_self, false_and, and_false, Bool.and_true, Bool.true_and, not_true_eq_false, not_false_eq_true, if_true, if_false, ite_true, ite_false, ik_bz3_0, ik_bz3_1, ik_bz0, wE_ite, h3, lt4, h4', h5, h6, q1, q2, q3]
          exact f
    · have f := fin 1 (by simp [q1])
      simp (decide := true) only [wE_lit, wL_lit, wE_loc, wL_loc, wE_add, wE_sub, wE_mul, wE_and, wE_or, wE_xor, wE_shl, wE_shr, wE_ushr, wE_div, wE_rem, wE_neg, wE_i2b, wE_l2i, wL_i2l, wL_add, wL_mul, wE_fld, wL_fld, wE_arr, wL_arr, wC_cmp, wC_cmp0, wC_cmpL, wC_and, wC_or, wC_not, wC_ite, wL_ite, wA_nil, wA_int, wA_long, wE_call, wL_call, wS_skip, wS_seq, wS_set, wS_setL, wS_inc, wS_if, wS_put, wS_putL, wS_putOp, wS_putOpL, wS_ast, wS_astL, wS_aop, wS_aopL, wS_ret, wS_retL, wS_retV, wS_do, wS_pop, wS_dead, wS_sw, wF_body, Nat.reduceAdd, Nat.zero_add, Bool.not_not, true_and, and_true, if_true, if_false, ↓reduceIte, eq_self, Value.int.injEq, Value.long.injEq, exists_eq_left', ik_b1, ik_b0, ik_bz0, ik_bz3, ik_bz3_1, ik_bz3_0, ik_cmp, ik_cmpL, ik_eI, ik_eL, ik_as, ik_i0, ik_i1, decide_eq_true_eq, decide_eq_false_iff_not, decide_true, decide_false, Bool.not_true, Bool.not_false, reduceCtorEq, forall_const, false_implies, true_implies, implies_true, true_and, and_true, and_self, false_and, and_false, Bool.and_true, Bool.true_and, not_true_eq_false, not_false_eq_true, if_true, if_false, ite_true, ite_false, ik_bz3_0, ik_bz3_1, ik_bz0, wE_ite, h3, lt4, h4', h5, h6, q1]
      exact f
  · have lt4 : (nI s < 4) = True := eq_true (by rw [show (4 : Int32) = nI 4 from rfl, nI_ltI (by omega) (by omega)]; omega)
    obtain ⟨L, hL⟩ : ∃ L, L = 3 - s := ⟨_, rfl⟩
    have h4' : s1 3 = nI L := by rw [h4, show 4 - s = L + 1 by omega]; exact nI_pred L
    have L4 : L < 4 := by omega
    have ge : (0 ≤ nI L) = True := eq_true (nI_pos' (by omega))
    have ng : (nI L < 0) = False := eq_false (by rw [Int32.not_lt]; exact nI_pos' (by omega))
    have ixL := ik_ix_nI L4 (by omega)
    by_cases z : s3.1 54 L = 0
    · simp (decide := true) only [wE_lit, wL_lit, wE_loc, wL_loc, wE_add, wE_sub, wE_mul, wE_and, wE_or, wE_xor, wE_shl, wE_shr, wE_ushr, wE_div, wE_rem, wE_neg, wE_i2b, wE_l2i, wL_i2l, wL_add, wL_mul, wE_fld, wL_fld, wE_arr, wL_arr, wC_cmp, wC_cmp0, wC_cmpL, wC_and, wC_or, wC_not, wC_ite, wL_ite, wA_nil, wA_int, wA_long, wE_call, wL_call, wS_skip, wS_seq, wS_set, wS_setL, wS_inc, wS_if, wS_put, wS_putL, wS_putOp, wS_putOpL, wS_ast, wS_astL, wS_aop, wS_aopL, wS_ret, wS_retL, wS_retV, wS_do, wS_pop, wS_dead, wS_sw, wF_body, Nat.reduceAdd, Nat.zero_add, Bool.not_not, true_and, and_true, if_true, if_false, ↓reduceIte, eq_self, Value.int.injEq, Value.long.injEq, exists_eq_left', ik_b1, ik_b0, ik_bz0, ik_bz3, ik_bz3_1, ik_bz3_0, ik_cmp, ik_cmpL, ik_eI, ik_eL, ik_as, ik_i0, ik_i1, decide_eq_true_eq, decide_eq_false_iff_not, decide_true, decide_false, Bool.not_true, Bool.not_false, reduceCtorEq, forall_const, false_implies, true_implies, implies_true, true_and, and_true, and_self, false_and, and_false, Bool.and_true, Bool.true_and, not_true_eq_false, not_false_eq_true, if_true, if_false, ite_true, ite_false, ik_bz3_0, ik_bz3_1, ik_bz0, h3, lt4, h4', ge, ixL, Option.some.injEq, z, upd_at, upd_off, nI_1, nI_add]
      refine ⟨4 - (s + 1), by omega, s + 1, by omega, rfl, rfl, ?_, h5, h6, fun q hq1 hq2 => ?_⟩
      · by_cases l0 : L = 0
        · subst l0
          rw [show 4 - (s + 1) = 0 by omega]
          rfl
        · rw [show 4 - (s + 1) = (L - 1) + 1 by omega, nI_pred, show L = (L - 1) + 1 by omega]
          exact pk_m1 _
      · by_cases e : q = L
        · subst e; exact z
        · exact h7 q (by omega) hq2
    · obtain ⟨mA, mE, mK⟩ := k2 L L4
      simp (decide := true) only [wE_lit, wL_lit, wE_loc, wL_loc, wE_add, wE_sub, wE_mul, wE_and, wE_or, wE_xor, wE_shl, wE_shr, wE_ushr, wE_div, wE_rem, wE_neg, wE_i2b, wE_l2i, wL_i2l, wL_add, wL_mul, wE_fld, wL_fld, wE_arr, wL_arr, wC_cmp, wC_cmp0, wC_cmpL, wC_and, wC_or, wC_not, wC_ite, wL_ite, wA_nil, wA_int, wA_long, wE_call, wL_call, wS_skip, wS_seq, wS_set, wS_setL, wS_inc, wS_if, wS_put, wS_putL, wS_putOp, wS_putOpL, wS_ast, wS_astL, wS_aop, wS_aopL, wS_ret, wS_retL, wS_retV, wS_do, wS_pop, wS_dead, wS_sw, wF_body, Nat.reduceAdd, Nat.zero_add, Bool.not_not, true_and, and_true, if_true, if_false, ↓reduceIte, eq_self, Value.int.injEq, Value.long.injEq, exists_eq_left', ik_b1, ik_b0, ik_bz0, ik_bz3, ik_bz3_1, ik_bz3_0, ik_cmp, ik_cmpL, ik_eI, ik_eL, ik_as, ik_i0, ik_i1, decide_eq_true_eq, decide_eq_false_iff_not, decide_true, decide_false, Bool.not_true, Bool.not_false, reduceCtorEq, forall_const, false_implies, true_implies, implies_true, true_and, and_true, and_self, false_and, and_false, Bool.and_true, Bool.true_and, not_true_eq_false, not_false_eq_true, if_true, if_false, ite_true, ite_false, ik_bz3_0, ik_bz3_1, ik_bz0, h3, lt4, h4', ge, ng, ixL, Option.some.injEq, z]
      refine wS_for _ _ (fun n σ => σ.1 4 = nI n ∧ σ.1 3 = nI L ∧ σ.1 1 = rest ∧ σ.1 2 = ik_b2 must ∧ σ.2.2 = s3) 0 (M L) _ ⟨by simp [upd, nI_0], by simp [upd, h4'], by simp [upd, h5], by simp [upd, h6], rfl⟩ (by omega) (by omega) ?_ ?_ ?_
      · rintro n ⟨t1, t2, t3⟩ a1 ⟨a2, a3, a4, a5, a6⟩
        simp only at a2 a3 a6
        subst a6
        have l1 := nI_ltI (show n < 2 ^ 31 by omega) (show M L < 2 ^ 31 by omega)
        by_cases c : n < M L
        · have l2 : (nI n < 144) = True := eq_true (by rw [show (144 : Int32) = nI 144 from rfl, nI_ltI (by omega) (by omega)]; omega)
          simp (decide := true) only [wE_lit, wL_lit, wE_loc, wL_loc, wE_add, wE_sub, wE_mul, wE_and, wE_or, wE_xor, wE_shl, wE_shr, wE_ushr, wE_div, wE_rem, wE_neg, wE_i2b, wE_l2i, wL_i2l, wL_add, wL_mul, wE_fld, wL_fld, wE_arr, wL_arr, wC_cmp, wC_cmp0, wC_cmpL, wC_and, wC_or, wC_not, wC_ite, wL_ite, wA_nil, wA_int, wA_long, wE_call, wL_call, wS_skip, wS_seq, wS_set, wS_setL, wS_inc, wS_if, wS_put, wS_putL, wS_putOp, wS_putOpL, wS_ast, wS_astL, wS_aop, wS_aopL, wS_ret, wS_retL, wS_retV, wS_do, wS_pop, wS_dead, wS_sw, wF_body, Nat.reduceAdd, Nat.zero_add, Bool.not_not, true_and, and_true, if_true, if_false, ↓reduceIte, eq_self, Value.int.injEq, Value.long.injEq, exists_eq_left', ik_b1, ik_b0, ik_bz0, ik_bz3, ik_bz3_1, ik_bz3_0, ik_cmp, ik_cmpL, ik_eI, ik_eL, ik_as, ik_i0, ik_i1, decide_eq_true_eq, decide_eq_false_iff_not, decide_true, decide_false, Bool.not_true, Bool.not_false, reduceCtorEq, forall_const, false_implies, true_implies, implies_true, true_and, and_true, and_self, false_and, and_false, Bool.and_true, Bool.true_and, not_true_eq_false, not_false_eq_true, if_true, if_false, ite_true, ite_false, ik_bz3_0, ik_bz3_1, ik_bz0, a2, a3, ixL, Option.some.injEq, mE, l1, c, l2]
        · simp (decide := true) only [wE_lit, wL_lit, wE_loc, wL_loc, wE_add, wE_sub, wE_mul, wE_and, wE_or, wE_xor, wE_shl, wE_shr, wE_ushr, wE_div, wE_rem, wE_neg, wE_i2b, wE_l2i, wL_i2l, wL_add, wL_mul, wE_fld, wL_fld, wE_arr, wL_arr, wC_cmp, wC_cmp0, wC_cmpL, wC_and, wC_or, wC_not, wC_ite, wL_ite, wA_nil, wA_int, wA_long, wE_call, wL_call, wS_skip, wS_seq, wS_set, wS_setL, wS_inc, wS_if, wS_put, wS_putL, wS_putOp, wS_putOpL, wS_ast, wS_astL, wS_aop, wS_aopL, wS_ret, wS_retL, wS_retV, wS_do, wS_pop, wS_dead, wS_sw, wF_body, Nat.reduceAdd, Nat.zero_add, Bool.not_not, true_and, and_true, if_true, if_false, ↓reduceIte, eq_self, Value.int.injEq, Value.long.injEq, exists_eq_left', ik_b1, ik_b0, ik_bz0, ik_bz3, ik_bz3_1, ik_bz3_0, ik_cmp, ik_cmpL, ik_eI, ik_eL, ik_as, ik_i0, ik_i1, decide_eq_true_eq, decide_eq_false_iff_not, decide_true, decide_false, Bool.not_true, Bool.not_false, reduceCtorEq, forall_const, false_implies, true_implies, implies_true, true_and, and_true, and_self, false_and, and_false, Bool.and_true, Bool.true_and, not_true_eq_false, not_false_eq_true, if_true, if_false, ite_true, ite_false, ik_bz3_0, ik_bz3_1, ik_bz0, a2, a3, ixL, Option.some.injEq, mE, l1, c]
      · rintro n ⟨t1, t2, t3⟩ a1 ⟨a2, a3, a4, a5, a6⟩
        simp only at a2 a3 a4 a5 a6
        subst a6
        have ec : nI L * (144 : Int32) + nI n = nI (144 * L + n) := by rw [show (144 : Int32) = nI 144 from rfl, pk_mul, nI_add, Nat.mul_comm]
        have ixc := ik_ix_nI (show 144 * L + n < 576 by omega) (by omega)
        have sm := w_same (y := t3) (show 144 * L + n < 576 by omega)
        have nx : nI n + (1 : Int32) = nI (n + 1) := by show nI n + nI 1 = _; rw [nI_add]
        by_cases hw : t3.1 52 (144 * L + n) = ik_b2 must
        · cases hsm : sameB t3 (144 * L + n) with
          | true =>
            rw [hsm] at sm
            have fin : ∀ v : Int32, (v = if must = true then (if rest ≤ t3.1 51 (144 * L + n) then t3.1 51 (144 * L + n) else rest) else (if t3.1 51 (144 * L + n) ≤ rest then t3.1 51 (144 * L + n) else rest)) → LN B (ik_si t3 51 (144 * L + n) v) (A + 1) (ask5 P must rest (t3.1 54)) ∧ eqL y0 (ik_si t3 51 (144 * L + n) v) ∧ (ik_si t3 51 (144 * L + n) v).1 54 = t3.1 54 := fun v hv => ⟨⟨M, hM'.old hA L4 a1 hsm hw hr hv⟩, h0.si _ (by omega), ik_si_row _ _ _ _ _ (by decide)⟩
            cases must with
            | true =>
              have f := fin _ (if_pos rfl).symm
              have hw1 : t3.1 52 (144 * L + n) = 1 := hw
              have a5' : t1 2 = 1 := a5
              simp (decide := true) only [wE_lit, wL_lit, wE_loc, wL_loc, wE_add, wE_sub, wE_mul, wE_and, wE_or, wE_xor, wE_shl, wE_shr, wE_ushr, wE_div, wE_rem, wE_neg, wE_i2b, wE_l2i, wL_i2l, wL_add, wL_mul, wE_fld, wL_fld, wE_arr, wL_arr, wC_cmp, wC_cmp0, wC_cmpL, wC_and, wC_or, wC_not, wC_ite, wL_ite, wA_nil, wA_int, wA_long, wE_call, wL_call, wS_skip, wS_seq, wS_set, wS_setL, wS_inc, wS_if, wS_put, wS_putL, wS_putOp, wS_putOpL, wS_ast, wS_astL, wS_aop, wS_aopL, wS_ret, wS_retL, wS_retV, wS_do, wS_pop, wS_dead, wS_sw, wF_body, Nat.reduceAdd, Nat.zero_add, Bool.not_not, true_and, and_true, if_true, if_false, ↓reduceIte, eq_self, Value.int.injEq, Value.long.injEq, exists_eq_left', ik_b1, ik_b0, ik_bz0, ik_bz3, ik_bz3_1, ik_bz3_0, ik_cmp, ik_cmpL, ik_eI, ik_eL, ik_as, ik_i0, ik_i1, decide_eq_true_eq, decide_eq_false_iff_not, decide_true, decide_false, Bool.not_true, Bool.not_false, reduceCtorEq, forall_const, false_implies, true_implies, implies_true, true_and, and_true, and_self, false_and, and_false, Bool.and_true, Bool.true_and, not_true_eq_false, not_false_eq_true, if_true, if_false, ite_true, ite_false, ik_bz3_0, ik_bz3_1, ik_bz0, wE_ite, a2, a3, a4, a5', ec, ixc, Option.some.injEq, hw1, sm, show ik_b2 true = 1 from rfl, w_maxJ, upd_at, upd_off]
              exact f
            | false =>
              have f := fin _ (if_neg (by decide)).symm
              have hw1 : t3.1 52 (144 * L + n) = 0 := hw
              have a5' : t1 2 = 0 := a5
              simp (decide := true) only [wE_lit, wL_lit, wE_loc, wL_loc, wE_add, wE_sub, wE_mul, wE_and, wE_or, wE_xor, wE_shl, wE_shr, wE_ushr, wE_div, wE_rem, wE_neg, wE_i2b, wE_l2i, wL_i2l, wL_add, wL_mul, wE_fld, wL_fld, wE_arr, wL_arr, wC_cmp, wC_cmp0, wC_cmpL, wC_and, wC_or, wC_not, wC_ite, wL_ite, wA_nil, wA_int, wA_long, wE_call, wL_call, wS_skip, wS_seq, wS_set, wS_setL, wS_inc, wS_if, wS_put, wS_putL, wS_putOp, wS_putOpL, wS_ast, wS_astL, wS_aop, wS_aopL, wS_ret, wS_retL, wS_retV, wS_do, wS_pop, wS_dead, wS_sw, wF_body, Nat.reduceAdd, Nat.zero_add, Bool.not_not, true_and, and_true, if_true, if_false, ↓reduceIte, eq_self, Value.int.injEq, Value.long.injEq, exists_eq_left', ik_b1, ik_b0, ik_bz0, ik_bz3, ik_bz3_1, ik_bz3_0, ik_cmp, ik_cmpL, ik_eI, ik_eL, ik_as, ik_i0, ik_i1, decide_eq_true_eq, decide_eq_false_iff_not, decide_true, decide_false, Bool.not_true, Bool.not_false, reduceCtorEq, forall_const, false_implies, true_implies, implies_true, true_and, and_true, and_self, false_and, and_false, Bool.and_true, Bool.true_and, not_true_eq_false, not_false_eq_true, if_true, if_false, ite_true, ite_false, ik_bz3_0, ik_bz3_1, ik_bz0, wE_ite, a2, a3, a4, a5', ec, ixc, Option.some.injEq, hw1, sm, show ik_b2 true = 1 from rfl, w_minJ, upd_at, upd_off]
              exact f
          | false =>
            rw [hsm] at sm
            simp (decide := true) only [wE_lit, wL_lit, wE_loc, wL_loc, wE_add, wE_sub, wE_mul, wE_and, wE_or, wE_xor, wE_shl, wE_shr, wE_ushr, wE_div, wE_rem, wE_neg, wE_i2b, wE_l2i, wL_i2l, wL_add, wL_mul, wE_fld, wL_fld, wE_arr, wL_arr, wC_cmp, wC_cmp0, wC_cmpL, wC_and, wC_or, wC_not, wC_ite, wL_ite, wA_nil, wA_int, wA_long, wE_call, wL_call, wS_skip, wS_seq, wS_set, wS_setL, wS_inc, wS_if, wS_put, wS_putL, wS_putOp, wS_putOpL, wS_ast, wS_astL, wS_aop, wS_aopL, wS_ret, wS_retL, wS_retV, wS_do, wS_pop, wS_dead, wS_sw, wF_body, Nat.reduceAdd, Nat.zero_add, Bool.not_not, true_and, and_true, if_true, if_false, ↓reduceIte, eq_self, Value.int.injEq, Value.long.injEq, exists_eq_left', ik_b1, ik_b0, ik_bz0, ik_bz3, ik_bz3_1, ik_bz3_0, ik_cmp, ik_cmpL, ik_eI, ik_eL, ik_as, ik_i0, ik_i1, decide_eq_true_eq, decide_eq_false_iff_not, decide_true, decide_false, Bool.not_true, Bool.not_false, reduceCtorEq, forall_const, false_implies, true_implies, implies_true, true_and, and_true, and_self, false_and, and_false, Bool.and_true, Bool.true_and, not_true_eq_false, not_false_eq_true, if_true, if_false, ite_true, ite_false, ik_bz3_0, ik_bz3_1, ik_bz0, a2, a3, a4, a5, ec, ixc, Option.some.injEq, hw, sm, show ik_b2 false = 0 from rfl, upd_at, upd_off, nx]
            exact ⟨_, rfl⟩
        · simp (decide := true) only [wE_lit, wL_lit, wE_loc, wL_loc, wE_add, wE_sub, wE_mul, wE_and, wE_or, wE_xor, wE_shl, wE_shr, wE_ushr, wE_div, wE_rem, wE_neg, wE_i2b, wE_l2i, wL_i2l, wL_add, wL_mul, wE_fld, wL_fld, wE_arr, wL_arr, wC_cmp, wC_cmp0, wC_cmpL, wC_and, wC_or, wC_not, wC_ite, wL_ite, wA_nil, wA_int, wA_long, wE_call, wL_call, wS_skip, wS_seq, wS_set, wS_setL, wS_inc, wS_if, wS_put, wS_putL, wS_putOp, wS_putOpL, wS_ast, wS_astL, wS_aop, wS_aopL, wS_ret, wS_retL, wS_retV, wS_do, wS_pop, wS_dead, wS_sw, wF_body, Nat.reduceAdd, Nat.zero_add, Bool.not_not, true_and, and_true, if_true, if_false, ↓reduceIte, eq_self, Value.int.injEq, Value.long.injEq, exists_eq_left', ik_b1, ik_b0, ik_bz0, ik_bz3, ik_bz3_1, ik_bz3_0, ik_cmp, ik_cmpL, ik_eI, ik_eL, ik_as, ik_i0, ik_i1, decide_eq_true_eq, decide_eq_false_iff_not, decide_true, decide_false, Bool.not_true, Bool.not_false, reduceCtorEq, forall_const, false_implies, true_implies, implies_true, true_and, and_true, and_self, false_and, and_false, Bool.and_true, Bool.true_and, not_true_eq_false, not_false_eq_true, if_true, if_false, ite_true, ite_false, ik_bz3_0, ik_bz3_1, ik_bz0, a2, a3, a4, a5, ec, ixc, Option.some.injEq, hw, upd_at, upd_off, nx]
      · rintro ⟨t1, t2, t3⟩ ⟨a2, a3, a4, a5, a6⟩
        simp only at a3 a4 a5 a6
        subst a6
        have ec : nI L * (144 : Int32) + nI (M L) = nI (144 * L + M L) := by rw [show (144 : Int32) = nI 144 from rfl, pk_mul, nI_add, Nat.mul_comm]
        have l1 : (0 ≤ nI (M L)) = True := eq_true (nI_pos' (by omega))
        have l2 : (nI (M L) < 144) = True := eq_true (by rw [show (144 : Int32) = nI 144 from rfl, nI_ltI (by omega) (by omega)]; omega)
        simp (decide := true) only [wE_lit, wL_lit, wE_loc, wL_loc, wE_add, wE_sub, wE_mul, wE_and, wE_or, wE_xor, wE_shl, wE_shr, wE_ushr, wE_div, wE_rem, wE_neg, wE_i2b, wE_l2i, wL_i2l, wL_add, wL_mul, wE_fld, wL_fld, wE_arr, wL_arr, wC_cmp, wC_cmp0, wC_cmpL, wC_and, wC_or, wC_not, wC_ite, wL_ite, wA_nil, wA_int, wA_long, wE_call, wL_call, wS_skip, wS_seq, wS_set, wS_setL, wS_inc, wS_if, wS_put, wS_putL, wS_putOp, wS_putOpL, wS_ast, wS_astL, wS_aop, wS_aopL, wS_ret, wS_retL, wS_retV, wS_do, wS_pop, wS_dead, wS_sw, wF_body, Nat.reduceAdd, Nat.zero_add, Bool.not_not, true_and, and_true, if_true, if_false, ↓reduceIte, eq_self, Value.int.injEq, Value.long.injEq, exists_eq_left', ik_b1, ik_b0, ik_bz0, ik_bz3, ik_bz3_1, ik_bz3_0, ik_cmp, ik_cmpL, ik_eI, ik_eL, ik_as, ik_i0, ik_i1, decide_eq_true_eq, decide_eq_false_iff_not, decide_true, decide_false, Bool.not_true, Bool.not_false, reduceCtorEq, forall_const, false_implies, true_implies, implies_true, true_and, and_true, and_self, false_and, and_false, Bool.and_true, Bool.true_and, not_true_eq_false, not_false_eq_true, if_true, if_false, ite_true, ite_false, ik_bz3_0, ik_bz3_1, ik_bz0, a3, a4, a5, ixL, Option.some.injEq, mE, l1, l2, ec]
        refine wF_mono (w_put5 (show 144 * L + M L < 576 by omega) rest must) ?_
        rintro _ g1 ⟨rfl, p1, p2, p3, p4, p5, p6, p7, p8, p9⟩
        have b50 : g1.1 50 L = nI (M L) := by rw [p3]; exact mE
        simp (decide := true) only [wE_lit, wL_lit, wE_loc, wL_loc, wE_add, wE_sub, wE_mul, wE_and, wE_or, wE_xor, wE_shl, wE_shr, wE_ushr, wE_div, wE_rem, wE_neg, wE_i2b, wE_l2i, wL_i2l, wL_add, wL_mul, wE_fld, wL_fld, wE_arr, wL_arr, wC_cmp, wC_cmp0, wC_cmpL, wC_and, wC_or, wC_not, wC_ite, wL_ite, wA_nil, wA_int, wA_long, wE_call, wL_call, wS_skip, wS_seq, wS_set, wS_setL, wS_inc, wS_if, wS_put, wS_putL, wS_putOp, wS_putOpL, wS_ast, wS_astL, wS_aop, wS_aopL, wS_ret, wS_retL, wS_retV, wS_do, wS_pop, wS_dead, wS_sw, wF_body, Nat.reduceAdd, Nat.zero_add, Bool.not_not, true_and, and_true, if_true, if_false, ↓reduceIte, eq_self, Value.int.injEq, Value.long.injEq, exists_eq_left', ik_b1, ik_b0, ik_bz0, ik_bz3, ik_bz3_1, ik_bz3_0, ik_cmp, ik_cmpL, ik_eI, ik_eL, ik_as, ik_i0, ik_i1, decide_eq_true_eq, decide_eq_false_iff_not, decide_true, decide_false, Bool.not_true, Bool.not_false, reduceCtorEq, forall_const, false_implies, true_implies, implies_true, true_and, and_true, and_self, false_and, and_false, Bool.and_true, Bool.true_and, not_true_eq_false, not_false_eq_true, if_true, if_false, ite_true, ite_false, ik_bz3_0, ik_bz3_1, ik_bz0, a3, ixL, Option.some.injEq, b50]
        refine ⟨_, show ik_bo 0 (nI (M L)) 1 = some (nI (M L + 1)) from by show some (nI _ + nI 1) = _; rw [nI_add], ⟨_, hM'.nu (g := ik_si g1 50 L (nI (M L + 1))) hA L4 hr hnow z (Classical.byContradiction (fun q => z (hnB L L4 (by omega)))) (fun q q1 q2 => h7 q (by omega) q2) ?_ (ik_si_same _ _ _ _) (fun k hk => ?_) ?_ ?_ (fun j hj => ?_) (fun q hq => ?_) (fun j hj => ?_)⟩, (h0.tr p1).si _ (by omega), ?_⟩
        · rw [ik_si_row _ _ _ _ _ (by decide)]; exact p2
        · rw [ik_si_ne _ _ _ _ _ hk, p3]
        · rw [ik_si_row _ _ _ _ _ (by decide)]; exact p5
        · rw [ik_si_row _ _ _ _ _ (by decide)]; exact p6
        · rw [ik_si_row _ _ _ _ _ (by decide), ik_si_row _ _ _ _ _ (by decide)]; exact p7 j hj
        · rw [ik_si_row _ _ _ _ _ (by decide)]; exact p8 q hq
        · rw [ik_si_row _ _ _ _ _ (by decide)]; exact p9 j hj
        · rw [ik_si_row _ _ _ _ _ (by decide)]; exact p4
