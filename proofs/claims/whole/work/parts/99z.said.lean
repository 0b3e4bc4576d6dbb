theorem bgc_1 {p : Nat → Bool} : ∀ {n : Nat}, bgc p n = 0 → ∀ j, j < n → p j = false
  | 0, _, j, hj => absurd hj (Nat.not_lt_zero _)
  | n + 1, h, j, hj => by
    have e : bgc p (n + 1) = bgc p n + (if p n = true then 1 else 0) := rfl
    rw [e] at h
    by_cases c : j = n
    · subst c
      cases d : p j with
      | false => rfl
      | true => rw [d] at h; simp at h
    · exact bgc_1 (n := n) (by omega) j (by omega)
theorem bgc_one {p : Nat → Bool} : ∀ {n : Nat}, bgc p n = 1 → ∀ a b, a < n → b < n → p a = true → p b = true → a = b
  | 0, h, _, _, _, _, _, _ => by cases h
  | n + 1, h, a, b, ha, hb, pa, pb => by
    have e : bgc p (n + 1) = bgc p n + (if p n = true then 1 else 0) := rfl
    rw [e] at h
    cases d : p n with
    | false =>
      rw [d] at h
      have an : a ≠ n := fun z => by subst z; rw [d] at pa; cases pa
      have bn : b ≠ n := fun z => by subst z; rw [d] at pb; cases pb
      exact bgc_one (n := n) (by simpa using h) a b (by omega) (by omega) pa pb
    | true =>
      rw [d] at h
      have z := bgc_1 (p := p) (n := n) (by simpa using h)
      have an : a = n := Classical.byContradiction (fun q => by rw [z a (by omega)] at pa; cases pa)
      have bn : b = n := Classical.byContradiction (fun q => by rw [z b (by omega)] at pb; cases pb)
      rw [an, bn]
/-- what is said of a bar: the word, and the name or the sort -/
def sdW (N : Nat) (V : Nat → Nat) (m : GG) (f : Nat) (q : Bool) : Int32 × Int32 :=
  if bgc (myB N V).testBit 24 = 1 then (1, nI (am (fun i => if i < N then V i else 0) 24)) else if q = true then (2, nI (am (fun i => if i < N then V i else 0) 24)) else if oneB N V m f N = true then (3, m.1 6 f) else (4, -1)
theorem w_saysM {m g g1 : GG} {N k f : Nat} {V : Nat → Nat} {W : Nat} {th : Int32} (hk : k < 4) (hN : N ≤ 24) (e2 : m.1 0 2 = nI N) (hm : eqM m g) (ef : fX12_fills [.int 0] g = some (.null, g1)) (hm1 : eqM m g1) (e69 : g1.2 0 69 = lN W) (hV : ∀ i, i < N → g1.2 45 (24 * k + i) = lN (V i) ∧ V i < 2 ^ 63) (hf : f < N) (hf1 : V f ≠ 0) (hf2 : ∀ j, j < f → V j = 0) :
    wF fX12_says [.int (nI k), .int th] g (fun v g' => eqM m g' ∧ v = .int (sdW N V m f (decide (th.toInt64 * lN W ≤ lN (V (am (fun i => if i < N then V i else 0) 24)) * 1000))).1 ∧ g'.1 0 68 = (sdW N V m f (decide (th.toInt64 * lN W ≤ lN (V (am (fun i => if i < N then V i else 0) 24)) * 1000))).2) := by
  obtain ⟨F, hF⟩ : ∃ F : Nat → Nat, F = fun i => if i < N then V i else 0 := ⟨_, rfl⟩
  have Fi : ∀ i, i < N → F i = V i := fun i hi => by rw [hF]; exact if_pos hi
  have Fz : ∀ i, N ≤ i → F i = 0 := fun i hi => by rw [hF]; exact if_neg (by omega)
  have Ff : ∀ j, j < f → F j = 0 := fun j hj => by rw [Fi j (by omega)]; exact hf2 j hj
  have F1 : 0 < F f := by rw [Fi f hf]; omega
  have a24 : am F 24 = am F N := by
    have := am_z Fz (24 - N)
    rw [show N + (24 - N) = 24 by omega] at this
    exact this
  have aN : am F N < N := am_lt (by omega)
  have may : ∀ g', eqM m g' → g'.2 = g1.2 → ∀ Q : Value → GG → Prop, wF fX12_mayOf [.int (nI k)] g' Q ↔ Q (.int (nI (myB N V))) g' := fun g' h1 h2 => w_mayOf hk hN (by rw [h1.2 2 (by decide)]; exact e2) (fun i hi => by rw [h2]; exact hV i hi)
  have bl := myB_lt N V
  have bitT : ∀ i, i < N → ∀ g' (Q : Value → GG → Prop), wF fX12_has [.int (nI (myB N V)), .int (nI i)] g' Q ↔ Q (.int (ik_b2 (decide (V i ≠ 0)))) g' := by
    intro i hi g' Q
    have := w_hasb (nI (myB N V)) (show i < 32 by omega) g' Q
    rw [ib_nI (by omega), myB_bit hN, decide_eq_true hi, Bool.true_and] at this
    exact this
  have b0 : ¬ nI (myB N V) = 0 := by
    intro z
    have := (nI_eq (by omega) (by omega)).mp (z.trans nI_0.symm)
    have t := myB_bit (V := V) hN f
    rw [this, decide_eq_true hf, decide_eq_true hf1] at t
    simp at t
  rw [← hF]
  unfold fX12_says
  simp (decide := true) only [wE_lit, wL_lit, wE_loc, wL_loc, wE_add, wE_sub, wE_mul, wE_and, wE_or, wE_xor, wE_shl, wE_shr, wE_ushr, wE_div, wE_rem, wE_neg, wE_i2b, wE_l2i, wL_i2l, wL_add, wL_mul, wE_fld, wL_fld, wE_arr, wL_arr, wC_cmp, wC_cmp0, wC_cmpL, wC_and, wC_or, wC_not, wC_ite, wL_ite, wA_nil, wA_int, wA_long, wE_call, wL_call, wS_skip, wS_seq, wS_set, wS_setL, wS_inc, wS_if, wS_put, wS_putL, wS_putOp, wS_putOpL, wS_ast, wS_astL, wS_aop, wS_aopL, wS_ret, wS_retL, wS_retV, wS_do, wS_pop, wS_dead, wS_sw, wF_body, Nat.reduceAdd, Nat.zero_add, Bool.not_not, true_and, and_true, if_true, if_false, ↓reduceIte, eq_self, Value.int.injEq, Value.long.injEq, exists_eq_left', ik_b1, ik_b0, ik_bz0, ik_bz3, ik_bz3_1, ik_bz3_0, ik_cmp, ik_cmpL, ik_eI, ik_eL, ik_as, ik_i0, ik_i1, decide_eq_true_eq, decide_eq_false_iff_not, decide_true, decide_false, Bool.not_true, Bool.not_false, reduceCtorEq, forall_const, false_implies, true_implies, implies_true, true_and, and_true, and_self, false_and, and_false, Bool.and_true, Bool.true_and, not_true_eq_false, not_false_eq_true, if_true, if_false, ite_true, ite_false, ik_bz3_0, ik_bz3_1, ik_bz0, wF_eq ef, may g1 hm1 rfl, b0, upd_at, upd_off]
  obtain ⟨g2, hg2⟩ : ∃ g2, g2 = ik_si g1 0 68 (-1) := ⟨_, rfl⟩
  rw [← hg2]
  have m2 : eqM m g2 := by rw [hg2]; exact hm1.si _ (by omega)
  have l2 : g2.2 = g1.2 := by rw [hg2]; rfl
  refine wS_for _ _ (fun i σ => σ.1 4 = nI i ∧ σ.1 3 = nI (myB N V) ∧ σ.1 1 = nI k ∧ σ.1 2 = th ∧ σ.2.2 = g2) 0 f _ ⟨by simp [upd, nI_0], by simp [upd], by simp [upd, ik_eI], by simp [upd, ik_eI], rfl⟩ (by omega) (by omega) ?_ ?_ ?_
  · rintro i ⟨s1, s2, s3⟩ h1 ⟨h2, h3, -⟩
    simp only at h2 h3
    have bt := bitT i (by omega) s3
    by_cases c : i = f
    · subst c
      rw [decide_eq_true hf1] at bt
      simp (decide := true) only [wE_lit, wL_lit, wE_loc, wL_loc, wE_add, wE_sub, wE_mul, wE_and, wE_or, wE_xor, wE_shl, wE_shr, wE_ushr, wE_div, wE_rem, wE_neg, wE_i2b, wE_l2i, wL_i2l, wL_add, wL_mul, wE_fld, wL_fld, wE_arr, wL_arr, wC_cmp, wC_cmp0, wC_cmpL, wC_and, wC_or, wC_not, wC_ite, wL_ite, wA_nil, wA_int, wA_long, wE_call, wL_call, wS_skip, wS_seq, wS_set, wS_setL, wS_inc, wS_if, wS_put, wS_putL, wS_putOp, wS_putOpL, wS_ast, wS_astL, wS_aop, wS_aopL, wS_ret, wS_retL, wS_retV, wS_do, wS_pop, wS_dead, wS_sw, wF_body, Nat.reduceAdd, Nat.zero_add, Bool.not_not, true_and, and_true, if_true, if_false, ↓reduceIte, eq_self, Value.int.injEq, Value.long.injEq, exists_eq_left', ik_b1, ik_b0, ik_bz0, ik_bz3, ik_bz3_1, ik_bz3_0, ik_cmp, ik_cmpL, ik_eI, ik_eL, ik_as, ik_i0, ik_i1, decide_eq_true_eq, decide_eq_false_iff_not, decide_true, decide_false, Bool.not_true, Bool.not_false, reduceCtorEq, forall_const, false_implies, true_implies, implies_true, true_and, and_true, and_self, false_and, and_false, Bool.and_true, Bool.true_and, not_true_eq_false, not_false_eq_true, if_true, if_false, ite_true, ite_false, ik_bz3_0, ik_bz3_1, ik_bz0, h2, h3, bt, show ik_b2 true = 1 from rfl, Nat.lt_irrefl]
    · have lt : i < f := by omega
      rw [decide_eq_false (show ¬ V i ≠ 0 from fun z => z (hf2 i lt))] at bt
      simp (decide := true) only [wE_lit, wL_lit, wE_loc, wL_loc, wE_add, wE_sub, wE_mul, wE_and, wE_or, wE_xor, wE_shl, wE_shr, wE_ushr, wE_div, wE_rem, wE_neg, wE_i2b, wE_l2i, wL_i2l, wL_add, wL_mul, wE_fld, wL_fld, wE_arr, wL_arr, wC_cmp, wC_cmp0, wC_cmpL, wC_and, wC_or, wC_not, wC_ite, wL_ite, wA_nil, wA_int, wA_long, wE_call, wL_call, wS_skip, wS_seq, wS_set, wS_setL, wS_inc, wS_if, wS_put, wS_putL, wS_putOp, wS_putOpL, wS_ast, wS_astL, wS_aop, wS_aopL, wS_ret, wS_retL, wS_retV, wS_do, wS_pop, wS_dead, wS_sw, wF_body, Nat.reduceAdd, Nat.zero_add, Bool.not_not, true_and, and_true, if_true, if_false, ↓reduceIte, eq_self, Value.int.injEq, Value.long.injEq, exists_eq_left', ik_b1, ik_b0, ik_bz0, ik_bz3, ik_bz3_1, ik_bz3_0, ik_cmp, ik_cmpL, ik_eI, ik_eL, ik_as, ik_i0, ik_i1, decide_eq_true_eq, decide_eq_false_iff_not, decide_true, decide_false, Bool.not_true, Bool.not_false, reduceCtorEq, forall_const, false_implies, true_implies, implies_true, true_and, and_true, and_self, false_and, and_false, Bool.and_true, Bool.true_and, not_true_eq_false, not_false_eq_true, if_true, if_false, ite_true, ite_false, ik_bz3_0, ik_bz3_1, ik_bz0, h2, h3, bt, show ik_b2 false = 0 from rfl, lt]
  · rintro i ⟨s1, s2, s3⟩ h1 ⟨h2, h3, h4, h5, h6⟩
    simp only at h2 h3 h4 h5 h6
    simp (decide := true) only [wE_lit, wL_lit, wE_loc, wL_loc, wE_add, wE_sub, wE_mul, wE_and, wE_or, wE_xor, wE_shl, wE_shr, wE_ushr, wE_div, wE_rem, wE_neg, wE_i2b, wE_l2i, wL_i2l, wL_add, wL_mul, wE_fld, wL_fld, wE_arr, wL_arr, wC_cmp, wC_cmp0, wC_cmpL, wC_and, wC_or, wC_not, wC_ite, wL_ite, wA_nil, wA_int, wA_long, wE_call, wL_call, wS_skip, wS_seq, wS_set, wS_setL, wS_inc, wS_if, wS_put, wS_putL, wS_putOp, wS_putOpL, wS_ast, wS_astL, wS_aop, wS_aopL, wS_ret, wS_retL, wS_retV, wS_do, wS_pop, wS_dead, wS_sw, wF_body, Nat.reduceAdd, Nat.zero_add, Bool.not_not, true_and, and_true, if_true, if_false, ↓reduceIte, eq_self, Value.int.injEq, Value.long.injEq, exists_eq_left', ik_b1, ik_b0, ik_bz0, ik_bz3, ik_bz3_1, ik_bz3_0, ik_cmp, ik_cmpL, ik_eI, ik_eL, ik_as, ik_i0, ik_i1, decide_eq_true_eq, decide_eq_false_iff_not, decide_true, decide_false, Bool.not_true, Bool.not_false, reduceCtorEq, forall_const, false_implies, true_implies, implies_true, true_and, and_true, and_self, false_and, and_false, Bool.and_true, Bool.true_and, not_true_eq_false, not_false_eq_true, if_true, if_false, ite_true, ite_false, ik_bz3_0, ik_bz3_1, ik_bz0, h2, h3, h4, h5, h6, upd_at, upd_off, nI_1, nI_add]
  · rintro ⟨s1, s2, s3⟩ ⟨h2, h3, h4, h5, h6⟩
    simp only at h2 h3 h4 h5 h6
    subst h6
    obtain ⟨g3, hg3⟩ : ∃ g3, g3 = ik_si s3 0 68 (nI f) := ⟨_, rfl⟩
    have m3 : eqM m g3 := by rw [hg3]; exact m2.si _ (by omega)
    have l3 : g3.2 = g1.2 := by rw [hg3]; exact l2
    have so := w_sizeOf bl g3
    rw [← pop_bgc] at so
    by_cases c1 : bgc (myB N V).testBit 24 = 1
    · rw [c1] at so
      have ea : am F 24 = f := by
        rw [a24]
        have h1 := am_max (F := F) (n := N) (i := f) hf
        have h2 : F (am F N) ≠ 0 := by omega
        rw [Fi _ aN] at h2
        refine bgc_one c1 _ _ (by omega) (by omega) ?_ ?_
        · rw [myB_bit hN, decide_eq_true aN, decide_eq_true h2]; rfl
        · rw [myB_bit hN, decide_eq_true hf, decide_eq_true hf1]; rfl
      have r : ∀ q, sdW N V m f q = (1, nI (am F 24)) := fun q => by unfold sdW; rw [if_pos c1, ← hF]
      rw [r, ea]
      simp (decide := true) only [wE_lit, wL_lit, wE_loc, wL_loc, wE_add, wE_sub, wE_mul, wE_and, wE_or, wE_xor, wE_shl, wE_shr, wE_ushr, wE_div, wE_rem, wE_neg, wE_i2b, wE_l2i, wL_i2l, wL_add, wL_mul, wE_fld, wL_fld, wE_arr, wL_arr, wC_cmp, wC_cmp0, wC_cmpL, wC_and, wC_or, wC_not, wC_ite, wL_ite, wA_nil, wA_int, wA_long, wE_call, wL_call, wS_skip, wS_seq, wS_set, wS_setL, wS_inc, wS_if, wS_put, wS_putL, wS_putOp, wS_putOpL, wS_ast, wS_astL, wS_aop, wS_aopL, wS_ret, wS_retL, wS_retV, wS_do, wS_pop, wS_dead, wS_sw, wF_body, Nat.reduceAdd, Nat.zero_add, Bool.not_not, true_and, and_true, if_true, if_false, ↓reduceIte, eq_self, Value.int.injEq, Value.long.injEq, exists_eq_left', ik_b1, ik_b0, ik_bz0, ik_bz3, ik_bz3_1, ik_bz3_0, ik_cmp, ik_cmpL, ik_eI, ik_eL, ik_as, ik_i0, ik_i1, decide_eq_true_eq, decide_eq_false_iff_not, decide_true, decide_false, Bool.not_true, Bool.not_false, reduceCtorEq, forall_const, false_implies, true_implies, implies_true, true_and, and_true, and_self, false_and, and_false, Bool.and_true, Bool.true_and, not_true_eq_false, not_false_eq_true, if_true, if_false, ite_true, ite_false, ik_bz3_0, ik_bz3_1, ik_bz0, h2, h3, ← hg3, so]
      refine ⟨m3, ?_⟩
      rw [hg3]
      exact ik_si_same _ _ _ _
    · have c1' : (nI (bgc (myB N V).testBit 24) = 1) = False := eq_false (fun z => c1 ((nI_eq (by have := bgc_le (myB N V).testBit 24; omega) (by omega)).mp z))
      simp (decide := true) only [wE_lit, wL_lit, wE_loc, wL_loc, wE_add, wE_sub, wE_mul, wE_and, wE_or, wE_xor, wE_shl, wE_shr, wE_ushr, wE_div, wE_rem, wE_neg, wE_i2b, wE_l2i, wL_i2l, wL_add, wL_mul, wE_fld, wL_fld, wE_arr, wL_arr, wC_cmp, wC_cmp0, wC_cmpL, wC_and, wC_or, wC_not, wC_ite, wL_ite, wA_nil, wA_int, wA_long, wE_call, wL_call, wS_skip, wS_seq, wS_set, wS_setL, wS_inc, wS_if, wS_put, wS_putL, wS_putOp, wS_putOpL, wS_ast, wS_astL, wS_aop, wS_aopL, wS_ret, wS_retL, wS_retV, wS_do, wS_pop, wS_dead, wS_sw, wF_body, Nat.reduceAdd, Nat.zero_add, Bool.not_not, true_and, and_true, if_true, if_false, ↓reduceIte, eq_self, Value.int.injEq, Value.long.injEq, exists_eq_left', ik_b1, ik_b0, ik_bz0, ik_bz3, ik_bz3_1, ik_bz3_0, ik_cmp, ik_cmpL, ik_eI, ik_eL, ik_as, ik_i0, ik_i1, decide_eq_true_eq, decide_eq_false_iff_not, decide_true, decide_false, Bool.not_true, Bool.not_false, reduceCtorEq, forall_const, false_implies, true_implies, implies_true, true_and, and_true, and_self, false_and, and_false, Bool.and_true, Bool.true_and, not_true_eq_false, not_false_eq_true, if_true, if_false, ite_true, ite_false, ik_bz3_0, ik_bz3_1, ik_bz0, h2, h3, ← hg3, so, c1', upd_at, upd_off]
      refine wS_for _ _ (fun i σ => σ.1 7 = nI i ∧ σ.1 3 = nI (myB N V) ∧ σ.1 1 = nI k ∧ σ.1 2 = th ∧ σ.1 4 = nI f ∧ σ.1 5 = nI (if i ≤ f then f else am F i) ∧ σ.1 6 = ik_b2 (oneB N V m f i) ∧ σ.2.2 = g3) 0 N _ ⟨by simp [upd, nI_0], by simp [upd, h3], by simp [upd, h4], by simp [upd, h5], by simp [upd, h2], by simp [upd], by simp [upd]; rfl, rfl⟩ (by omega) (by omega) ?_ ?_ ?_
      · rintro i ⟨t1, t2, t3⟩ a1 ⟨a2, -, -, -, -, -, -, a3⟩
        simp only at a2 a3
        subst a3
        exact wc_1 (by show t3.1 0 2 = _; rw [m3.2 2 (by decide)]; exact e2) (by omega) a1 a2
      · rintro i ⟨t1, t2, t3⟩ a1 ⟨a2, a3, a4, a5, a6, a7, a8, a9⟩
        simp only at a2 a3 a4 a5 a6 a7 a8 a9
        subst a9
        have bt := bitT i a1 t3
        obtain ⟨v1, v2⟩ := hV i a1
        rw [← l3] at v1
        have stp : oneB N V m f (i + 1) = (oneB N V m f i && !(decide (V i ≠ 0) && !decide (m.1 6 i = m.1 6 f))) := by
          unfold oneB
          show (!(ik_any _ i || ((decide (i < N) && decide (V i ≠ 0)) && !decide (m.1 6 i = m.1 6 f)))) = _
          rw [decide_eq_true a1, Bool.true_and, Bool.not_or]
        by_cases c : V i ≠ 0
        · rw [decide_eq_true c] at bt stp
          rw [Bool.true_and, Bool.not_not] at stp
          have fi : f ≤ i := Classical.byContradiction (fun z => c (hf2 i (by omega)))
          obtain ⟨b, hb⟩ : ∃ b, b = if i ≤ f then f else am F i := ⟨_, rfl⟩
          have bN : b < N := by
            rw [hb]
            split
            · exact hf
            · have := am_lt (F := F) (n := i) (by omega); omega
          have nxt : (if V b < V i then i else b) = if i + 1 ≤ f then f else am F (i + 1) := by
            rw [if_neg (show ¬ i + 1 ≤ f by omega)]
            by_cases e : i = f
            · subst e
              rw [if_pos (Nat.le_refl _)] at hb
              rw [hb, if_neg (Nat.lt_irrefl _), am_f1 Ff F1]
            · rw [if_neg (by omega)] at hb
              rw [hb]
              have al := am_lt (F := F) (n := i) (by omega)
              by_cases d : F (am F i) < F i
              · rw [am_y d]
                rw [Fi _ a1, Fi _ (by omega)] at d
                rw [if_pos d]
              · rw [am_n d]
                rw [Fi _ a1, Fi _ (by omega)] at d
                rw [if_neg d]
          rw [← hb] at a7
          obtain ⟨w1, w2⟩ := hV b bN
          rw [← l3] at w1
          have lt : (lN (V i) > lN (V b)) ↔ V b < V i := lN_ltB w2 v2
          have ix1 := ik_ix_nI (show 24 * k + i < 96 by omega) (by omega)
          have ix2 := ik_ix_nI (show 24 * k + b < 96 by omega) (by omega)
          have e1 : (24 : Int32) * nI k + nI i = nI (24 * k + i) := by rw [show (24 : Int32) = nI 24 from rfl, pk_mul, nI_add]
          have e3 : (24 : Int32) * nI k + nI b = nI (24 * k + b) := by rw [show (24 : Int32) = nI 24 from rfl, pk_mul, nI_add]
          have r6 : t3.1 6 = m.1 6 := m3.1 6 (by omega)
          have ix3 := ik_ix_nI (show i < 24 by omega) (by omega)
          have ix4 := ik_ix_nI (show f < 24 by omega) (by omega)
          have six : ∀ P : Int32 → GG → Prop, ∀ q1 : Nat → Int32, ∀ q2, q1 6 = ik_b2 (oneB N V m f i) → q1 7 = nI i → q1 4 = nI f → (wE (sIte (sAnd (sCmp0 1 (sLoc 6)) (sCmp 0 (sArr 6 24 (sLoc 7)) (sArr 6 24 (sLoc 4)))) (sLit 1) (sLit 0)) (q1, q2, t3) P ↔ P (ik_b2 (oneB N V m f (i + 1))) t3) := by
            intro P q1 q2 z1 z2 z3
            rw [stp]
            generalize oneB N V m f i = ob at z1 ⊢
            cases ob with
            | false =>
              have z1' : q1 6 = 0 := z1
              simp (decide := true) only [wE_lit, wL_lit, wE_loc, wL_loc, wE_add, wE_sub, wE_mul, wE_and, wE_or, wE_xor, wE_shl, wE_shr, wE_ushr, wE_div, wE_rem, wE_neg, wE_i2b, wE_l2i, wL_i2l, wL_add, wL_mul, wE_fld, wL_fld, wE_arr, wL_arr, wC_cmp, wC_cmp0, wC_cmpL, wC_and, wC_or, wC_not, wC_ite, wL_ite, wA_nil, wA_int, wA_long, wE_call, wL_call, wS_skip, wS_seq, wS_set, wS_setL, wS_inc, wS_if, wS_put, wS_putL, wS_putOp, wS_putOpL, wS_ast, wS_astL, wS_aop, wS_aopL, wS_ret, wS_retL, wS_retV, wS_do, wS_pop, wS_dead, wS_sw, wF_body, Nat.reduceAdd, Nat.zero_add, Bool.not_not, true_and, and_true, if_true, if_false, ↓reduceIte, eq_self, Value.int.injEq, Value.long.injEq, exists_eq_left', ik_b1, ik_b0, ik_bz0, ik_bz3, ik_bz3_1, ik_bz3_0, ik_cmp, ik_cmpL, ik_eI, ik_eL, ik_as, ik_i0, ik_i1, decide_eq_true_eq, decide_eq_false_iff_not, decide_true, decide_false, Bool.not_true, Bool.not_false, reduceCtorEq, forall_const, false_implies, true_implies, implies_true, true_and, and_true, and_self, false_and, and_false, Bool.and_true, Bool.true_and, not_true_eq_false, not_false_eq_true, if_true, if_false, ite_true, ite_false, ik_bz3_0, ik_bz3_1, ik_bz0, wE_ite, z1', Bool.false_and, show ik_b2 false = 0 from rfl]
            | true =>
              have z1' : q1 6 = 1 := z1
              by_cases d : m.1 6 i = m.1 6 f
              · simp (decide := true) only [wE_lit, wL_lit, wE_loc, wL_loc, wE_add, wE_sub, wE_mul, wE_and, wE_or, wE_xor, wE_shl, wE_shr, wE_ushr, wE_div, wE_rem, wE_neg, wE_i2b, wE_l2i, wL_i2l, wL_add, wL_mul, wE_fld, wL_fld, wE_arr, wL_arr, wC_cmp, wC_cmp0, wC_cmpL, wC_and, wC_or, wC_not, wC_ite, wL_ite, wA_nil, wA_int, wA_long, wE_call, wL_call, wS_skip, wS_seq, wS_set, wS_setL, wS_inc, wS_if, wS_put, wS_putL, wS_putOp, wS_putOpL, wS_ast, wS_astL, wS_aop, wS_aopL, wS_ret, wS_retL, wS_retV, wS_do, wS_pop, wS_dead, wS_sw, wF_body, Nat.reduceAdd, Nat.zero_add, Bool.not_not, true_and, and_true, if_true, if_false, ↓reduceIte, eq_self, Value.int.injEq, Value.long.injEq, exists_eq_left', ik_b1, ik_b0, ik_bz0, ik_bz3, ik_bz3_1, ik_bz3_0, ik_cmp, ik_cmpL, ik_eI, ik_eL, ik_as, ik_i0, ik_i1, decide_eq_true_eq, decide_eq_false_iff_not, decide_true, decide_false, Bool.not_true, Bool.not_false, reduceCtorEq, forall_const, false_implies, true_implies, implies_true, true_and, and_true, and_self, false_and, and_false, Bool.and_true, Bool.true_and, not_true_eq_false, not_false_eq_true, if_true, if_false, ite_true, ite_false, ik_bz3_0, ik_bz3_1, ik_bz0, wE_ite, z1', z2, z3, ix3, ix4, Option.some.injEq, r6, d, show ik_b2 true = 1 from rfl]
              · simp (decide := true) only [wE_lit, wL_lit, wE_loc, wL_loc, wE_add, wE_sub, wE_mul, wE_and, wE_or, wE_xor, wE_shl, wE_shr, wE_ushr, wE_div, wE_rem, wE_neg, wE_i2b, wE_l2i, wL_i2l, wL_add, wL_mul, wE_fld, wL_fld, wE_arr, wL_arr, wC_cmp, wC_cmp0, wC_cmpL, wC_and, wC_or, wC_not, wC_ite, wL_ite, wA_nil, wA_int, wA_long, wE_call, wL_call, wS_skip, wS_seq, wS_set, wS_setL, wS_inc, wS_if, wS_put, wS_putL, wS_putOp, wS_putOpL, wS_ast, wS_astL, wS_aop, wS_aopL, wS_ret, wS_retL, wS_retV, wS_do, wS_pop, wS_dead, wS_sw, wF_body, Nat.reduceAdd, Nat.zero_add, Bool.not_not, true_and, and_true, if_true, if_false, ↓reduceIte, eq_self, Value.int.injEq, Value.long.injEq, exists_eq_left', ik_b1, ik_b0, ik_bz0, ik_bz3, ik_bz3_1, ik_bz3_0, ik_cmp, ik_cmpL, ik_eI, ik_eL, ik_as, ik_i0, ik_i1, decide_eq_true_eq, decide_eq_false_iff_not, decide_true, decide_false, Bool.not_true, Bool.not_false, reduceCtorEq, forall_const, false_implies, true_implies, implies_true, true_and, and_true, and_self, false_and, and_false, Bool.and_true, Bool.true_and, not_true_eq_false, not_false_eq_true, if_true, if_false, ite_true, ite_false, ik_bz3_0, ik_bz3_1, ik_bz0, wE_ite, z1', z2, z3, ix3, ix4, Option.some.injEq, r6, d, show ik_b2 false = 0 from rfl]
          by_cases d : V b < V i
          · rw [if_pos d] at nxt
            have dT := eq_true (lt.mpr d)
            simp (decide := true) only [wE_lit, wL_lit, wE_loc, wL_loc, wE_add, wE_sub, wE_mul, wE_and, wE_or, wE_xor, wE_shl, wE_shr, wE_ushr, wE_div, wE_rem, wE_neg, wE_i2b, wE_l2i, wL_i2l, wL_add, wL_mul, wE_fld, wL_fld, wE_arr, wL_arr, wC_cmp, wC_cmp0, wC_cmpL, wC_and, wC_or, wC_not, wC_ite, wL_ite, wA_nil, wA_int, wA_long, wE_call, wL_call, wS_skip, wS_seq, wS_set, wS_setL, wS_inc, wS_if, wS_put, wS_putL, wS_putOp, wS_putOpL, wS_ast, wS_astL, wS_aop, wS_aopL, wS_ret, wS_retL, wS_retV, wS_do, wS_pop, wS_dead, wS_sw, wF_body, Nat.reduceAdd, Nat.zero_add, Bool.not_not, true_and, and_true, if_true, if_false, ↓reduceIte, eq_self, Value.int.injEq, Value.long.injEq, exists_eq_left', ik_b1, ik_b0, ik_bz0, ik_bz3, ik_bz3_1, ik_bz3_0, ik_cmp, ik_cmpL, ik_eI, ik_eL, ik_as, ik_i0, ik_i1, decide_eq_true_eq, decide_eq_false_iff_not, decide_true, decide_false, Bool.not_true, Bool.not_false, reduceCtorEq, forall_const, false_implies, true_implies, implies_true, true_and, and_true, and_self, false_and, and_false, Bool.and_true, Bool.true_and, not_true_eq_false, not_false_eq_true, if_true, if_false, ite_true, ite_false, ik_bz3_0, ik_bz3_1, ik_bz0, a2, a3, a4, a5, a6, a7, bt, show ik_b2 true = 1 from rfl, e1, e3, ix1, ix2, Option.some.injEq, v1, w1, dT, upd_at, upd_off]
            rw [six _ _ _ (by simp [upd, a8]) (by simp [upd, a2]) (by simp [upd, a6])]
            simp (decide := true) only [ik_i0, ik_i1, decide_eq_true_eq, decide_eq_false_iff_not, decide_true, decide_false, Bool.not_true, Bool.not_false, reduceCtorEq, forall_const, false_implies, true_implies, implies_true, true_and, and_true, and_self, false_and, and_false, Bool.and_true, Bool.true_and, not_true_eq_false, not_false_eq_true, if_true, if_false, ite_true, ite_false, ik_bz3_0, ik_bz3_1, ik_bz0, a2, a3, a4, a5, a6, upd_at, upd_off, nI_1, nI_add]
            rw [← nxt]
          · rw [if_neg d] at nxt
            have dF := eq_false (fun z => d (lt.mp z))
            simp (decide := true) only [wE_lit, wL_lit, wE_loc, wL_loc, wE_add, wE_sub, wE_mul, wE_and, wE_or, wE_xor, wE_shl, wE_shr, wE_ushr, wE_div, wE_rem, wE_neg, wE_i2b, wE_l2i, wL_i2l, wL_add, wL_mul, wE_fld, wL_fld, wE_arr, wL_arr, wC_cmp, wC_cmp0, wC_cmpL, wC_and, wC_or, wC_not, wC_ite, wL_ite, wA_nil, wA_int, wA_long, wE_call, wL_call, wS_skip, wS_seq, wS_set, wS_setL, wS_inc, wS_if, wS_put, wS_putL, wS_putOp, wS_putOpL, wS_ast, wS_astL, wS_aop, wS_aopL, wS_ret, wS_retL, wS_retV, wS_do, wS_pop, wS_dead, wS_sw, wF_body, Nat.reduceAdd, Nat.zero_add, Bool.not_not, true_and, and_true, if_true, if_false, ↓reduceIte, eq_self, Value.int.injEq, Value.long.injEq, exists_eq_left', ik_b1, ik_b0, ik_bz0, ik_bz3, ik_bz3_1, ik_bz3_0, ik_cmp, ik_cmpL, ik_eI, ik_eL, ik_as, ik_i0, ik_i1, decide_eq_true_eq, decide_eq_false_iff_not, decide_true, decide_false, Bool.not_true, Bool.not_false, reduceCtorEq, forall_const, false_implies, true_implies, implies_true, true_and, and_true, and_self, false_and, and_false, Bool.and_true, Bool.true_and, not_true_eq_false, not_false_eq_true, if_true, if_false, ite_true, ite_false, ik_bz3_0, ik_bz3_1, ik_bz0, a2, a3, a4, a5, a6, a7, bt, show ik_b2 true = 1 from rfl, e1, e3, ix1, ix2, Option.some.injEq, v1, w1, dF, upd_at, upd_off]
            rw [six _ _ _ (by simp [a8]) (by simp [a2]) (by simp [a6])]
            simp (decide := true) only [ik_i0, ik_i1, decide_eq_true_eq, decide_eq_false_iff_not, decide_true, decide_false, Bool.not_true, Bool.not_false, reduceCtorEq, forall_const, false_implies, true_implies, implies_true, true_and, and_true, and_self, false_and, and_false, Bool.and_true, Bool.true_and, not_true_eq_false, not_false_eq_true, if_true, if_false, ite_true, ite_false, ik_bz3_0, ik_bz3_1, ik_bz0, a2, a3, a4, a5, a6, a7, upd_at, upd_off, nI_1, nI_add]
            rw [← nxt]
        · rw [decide_eq_false c] at bt stp
          rw [Bool.false_and, Bool.not_false, Bool.and_true] at stp
          have nxt : (if i ≤ f then f else am F i) = if i + 1 ≤ f then f else am F (i + 1) := by
            by_cases e : i + 1 ≤ f
            · rw [if_pos e, if_pos (by omega)]
            · have ne : i ≠ f := fun z => by subst z; exact c hf1
              rw [if_neg e, if_neg (by omega), am_n]
              rw [Fi i a1]
              omega
          simp (decide := true) only [wE_lit, wL_lit, wE_loc, wL_loc, wE_add, wE_sub, wE_mul, wE_and, wE_or, wE_xor, wE_shl, wE_shr, wE_ushr, wE_div, wE_rem, wE_neg, wE_i2b, wE_l2i, wL_i2l, wL_add, wL_mul, wE_fld, wL_fld, wE_arr, wL_arr, wC_cmp, wC_cmp0, wC_cmpL, wC_and, wC_or, wC_not, wC_ite, wL_ite, wA_nil, wA_int, wA_long, wE_call, wL_call, wS_skip, wS_seq, wS_set, wS_setL, wS_inc, wS_if, wS_put, wS_putL, wS_putOp, wS_putOpL, wS_ast, wS_astL, wS_aop, wS_aopL, wS_ret, wS_retL, wS_retV, wS_do, wS_pop, wS_dead, wS_sw, wF_body, Nat.reduceAdd, Nat.zero_add, Bool.not_not, true_and, and_true, if_true, if_false, ↓reduceIte, eq_self, Value.int.injEq, Value.long.injEq, exists_eq_left', ik_b1, ik_b0, ik_bz0, ik_bz3, ik_bz3_1, ik_bz3_0, ik_cmp, ik_cmpL, ik_eI, ik_eL, ik_as, ik_i0, ik_i1, decide_eq_true_eq, decide_eq_false_iff_not, decide_true, decide_false, Bool.not_true, Bool.not_false, reduceCtorEq, forall_const, false_implies, true_implies, implies_true, true_and, and_true, and_self, false_and, and_false, Bool.and_true, Bool.true_and, not_true_eq_false, not_false_eq_true, if_true, if_false, ite_true, ite_false, ik_bz3_0, ik_bz3_1, ik_bz0, a2, a3, a4, a5, a6, a7, a8, bt, show ik_b2 false = 0 from rfl, upd_at, upd_off, nI_1, nI_add, stp]
          rw [← nxt]
      · rintro ⟨t1, t2, t3⟩ ⟨a2, a3, a4, a5, a6, a7, a8, a9⟩
        simp only at a3 a4 a5 a6 a7 a8 a9
        subst a9
        rw [if_neg (by omega), ← a24] at a7
        have aN' : am F 24 < N := by rw [a24]; exact aN
        have ix2 := ik_ix_nI (show 24 * k + am F 24 < 96 by omega) (by omega)
        have e3 : (24 : Int32) * nI k + nI (am F 24) = nI (24 * k + am F 24) := by rw [show (24 : Int32) = nI 24 from rfl, pk_mul, nI_add]
        obtain ⟨w1, -⟩ := hV _ aN'
        obtain ⟨g4, hg4⟩ : ∃ g4, g4 = ik_si t3 0 68 (nI (am F 24)) := ⟨_, rfl⟩
        have m4 : eqM m g4 := by rw [hg4]; exact m3.si _ (by omega)
        have l4 : g4.2 = g1.2 := by rw [hg4]; exact l3
        have w1' : g4.2 45 (24 * k + am F 24) = lN (V (am F 24)) := by rw [l4]; exact w1
        have w2' : g4.2 0 69 = lN W := by rw [l4]; exact e69
        by_cases c2 : th.toInt64 * lN W ≤ lN (V (am F 24)) * 1000
        · rw [decide_eq_true c2]
          have r : sdW N V m f true = (2, nI (am F 24)) := by unfold sdW; rw [if_neg c1, if_pos rfl, ← hF]
          rw [r]
          have c2' : (lN (V (am F 24)) * 1000 ≥ th.toInt64 * lN W) = True := eq_true c2
          simp (decide := true) only [wE_lit, wL_lit, wE_loc, wL_loc, wE_add, wE_sub, wE_mul, wE_and, wE_or, wE_xor, wE_shl, wE_shr, wE_ushr, wE_div, wE_rem, wE_neg, wE_i2b, wE_l2i, wL_i2l, wL_add, wL_mul, wE_fld, wL_fld, wE_arr, wL_arr, wC_cmp, wC_cmp0, wC_cmpL, wC_and, wC_or, wC_not, wC_ite, wL_ite, wA_nil, wA_int, wA_long, wE_call, wL_call, wS_skip, wS_seq, wS_set, wS_setL, wS_inc, wS_if, wS_put, wS_putL, wS_putOp, wS_putOpL, wS_ast, wS_astL, wS_aop, wS_aopL, wS_ret, wS_retL, wS_retV, wS_do, wS_pop, wS_dead, wS_sw, wF_body, Nat.reduceAdd, Nat.zero_add, Bool.not_not, true_and, and_true, if_true, if_false, ↓reduceIte, eq_self, Value.int.injEq, Value.long.injEq, exists_eq_left', ik_b1, ik_b0, ik_bz0, ik_bz3, ik_bz3_1, ik_bz3_0, ik_cmp, ik_cmpL, ik_eI, ik_eL, ik_as, ik_i0, ik_i1, decide_eq_true_eq, decide_eq_false_iff_not, decide_true, decide_false, Bool.not_true, Bool.not_false, reduceCtorEq, forall_const, false_implies, true_implies, implies_true, true_and, and_true, and_self, false_and, and_false, Bool.and_true, Bool.true_and, not_true_eq_false, not_false_eq_true, if_true, if_false, ite_true, ite_false, ik_bz3_0, ik_bz3_1, ik_bz0, a4, a5, a7, ← hg4, e3, ix2, Option.some.injEq, w1', w2', c2']
          refine ⟨m4, ?_⟩
          rw [hg4]
          exact ik_si_same _ _ _ _
        · rw [decide_eq_false c2]
          have c2' : (lN (V (am F 24)) * 1000 ≥ th.toInt64 * lN W) = False := eq_false c2
          have ix4 := ik_ix_nI (show f < 24 by omega) (by omega)
          have r6 : g4.1 6 f = m.1 6 f := by rw [m4.1 6 (by omega)]
          cases c3 : oneB N V m f N with
          | true =>
            rw [c3] at a8
            have a8' : t1 6 = 1 := a8
            have r : sdW N V m f false = (3, m.1 6 f) := by unfold sdW; rw [if_neg c1, if_neg (by decide), if_pos c3]
            rw [r]
            simp (decide := true) only [wE_lit, wL_lit, wE_loc, wL_loc, wE_add, wE_sub, wE_mul, wE_and, wE_or, wE_xor, wE_shl, wE_shr, wE_ushr, wE_div, wE_rem, wE_neg, wE_i2b, wE_l2i, wL_i2l, wL_add, wL_mul, wE_fld, wL_fld, wE_arr, wL_arr, wC_cmp, wC_cmp0, wC_cmpL, wC_and, wC_or, wC_not, wC_ite, wL_ite, wA_nil, wA_int, wA_long, wE_call, wL_call, wS_skip, wS_seq, wS_set, wS_setL, wS_inc, wS_if, wS_put, wS_putL, wS_putOp, wS_putOpL, wS_ast, wS_astL, wS_aop, wS_aopL, wS_ret, wS_retL, wS_retV, wS_do, wS_pop, wS_dead, wS_sw, wF_body, Nat.reduceAdd, Nat.zero_add, Bool.not_not, true_and, and_true, if_true, if_false, ↓reduceIte, eq_self, Value.int.injEq, Value.long.injEq, exists_eq_left', ik_b1, ik_b0, ik_bz0, ik_bz3, ik_bz3_1, ik_bz3_0, ik_cmp, ik_cmpL, ik_eI, ik_eL, ik_as, ik_i0, ik_i1, decide_eq_true_eq, decide_eq_false_iff_not, decide_true, decide_false, Bool.not_true, Bool.not_false, reduceCtorEq, forall_const, false_implies, true_implies, implies_true, true_and, and_true, and_self, false_and, and_false, Bool.and_true, Bool.true_and, not_true_eq_false, not_false_eq_true, if_true, if_false, ite_true, ite_false, ik_bz3_0, ik_bz3_1, ik_bz0, wE_ite, a4, a5, a6, a7, a8', ← hg4, e3, ix2, Option.some.injEq, w1', w2', c2', ix4, r6]
            exact ⟨m4.si _ (by omega), ik_si_same _ _ _ _⟩
          | false =>
            rw [c3] at a8
            have a8' : t1 6 = 0 := a8
            have r : sdW N V m f false = (4, -1) := by unfold sdW; rw [if_neg c1, if_neg (by decide), if_neg (by rw [c3]; decide)]
            rw [r]
            simp (decide := true) only [wE_lit, wL_lit, wE_loc, wL_loc, wE_add, wE_sub, wE_mul, wE_and, wE_or, wE_xor, wE_shl, wE_shr, wE_ushr, wE_div, wE_rem, wE_neg, wE_i2b, wE_l2i, wL_i2l, wL_add, wL_mul, wE_fld, wL_fld, wE_arr, wL_arr, wC_cmp, wC_cmp0, wC_cmpL, wC_and, wC_or, wC_not, wC_ite, wL_ite, wA_nil, wA_int, wA_long, wE_call, wL_call, wS_skip, wS_seq, wS_set, wS_setL, wS_inc, wS_if, wS_put, wS_putL, wS_putOp, wS_putOpL, wS_ast, wS_astL, wS_aop, wS_aopL, wS_ret, wS_retL, wS_retV, wS_do, wS_pop, wS_dead, wS_sw, wF_body, Nat.reduceAdd, Nat.zero_add, Bool.not_not, true_and, and_true, if_true, if_false, ↓reduceIte, eq_self, Value.int.injEq, Value.long.injEq, exists_eq_left', ik_b1, ik_b0, ik_bz0, ik_bz3, ik_bz3_1, ik_bz3_0, ik_cmp, ik_cmpL, ik_eI, ik_eL, ik_as, ik_i0, ik_i1, decide_eq_true_eq, decide_eq_false_iff_not, decide_true, decide_false, Bool.not_true, Bool.not_false, reduceCtorEq, forall_const, false_implies, true_implies, implies_true, true_and, and_true, and_self, false_and, and_false, Bool.and_true, Bool.true_and, not_true_eq_false, not_false_eq_true, if_true, if_false, ite_true, ite_false, ik_bz3_0, ik_bz3_1, ik_bz0, wE_ite, a4, a5, a6, a7, a8', ← hg4, e3, ix2, Option.some.injEq, w1', w2', c2']
            exact ⟨m4.si _ (by omega), ik_si_same _ _ _ _⟩
