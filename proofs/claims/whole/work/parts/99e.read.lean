/-! the class reads the sheets' lines -/
def kEz (a j : Nat) : Bool := a == 4 || a == 5 || kNx a j || kBx a j || kTix a j || kLix a j || kHx a j || kSx a j || kRx a j
theorem kz_sub {k : Nat → Nat → Bool} {a j : Nat} (h : k a j = true) (hs : k = kNx ∨ k = kBx ∨ k = kTix ∨ k = kLix ∨ k = kHx ∨ k = kSx ∨ k = kRx) : kEz a j = true := by
  unfold kEz
  rcases hs with rfl | rfl | rfl | rfl | rfl | rfl | rfl <;> rw [h] <;> simp only [Bool.or_true, Bool.true_or]
def eqZ (x y : GG) : Prop := ∀ a j, kEz a j = true → y.1 a j = x.1 a j
theorem eqZ.rfl' (x : GG) : eqZ x x := fun _ _ _ => rfl
theorem eqZ.tr {a b c : GG} (h : eqZ a b) (k : eqZ b c) : eqZ a c := fun q j hk => (k q j hk).trans (h q j hk)
theorem rE.z {x m y : GG} {N B S : Nat} (h : rE x m N B S) (ex : eqZ x y) : rE y m N B S := by
  obtain ⟨-, hL, hN, hB, hTi, hLi, hH, -, -, hS, hR, -⟩ := h
  refine ⟨trivial, ?_, hN.frk ?_ rfl, hB.frk ?_ rfl, hTi.frk ?_ rfl, hLi.frk ?_ rfl, hH.frk ?_ rfl, trivial, trivial, hS.frk ?_ rfl, hR.fr ?_ rfl, trivial⟩
  · rw [funext fun j => ex 4 j rfl, funext fun j => ex 5 j rfl]
    exact hL
  all_goals exact cut_of2 (fun a j hk => ex a j (kz_sub hk (by simp))) k0_no
theorem eqL.z {y g : GG} (h : eqL y g) : eqZ y g := fun a j hk => by
  rw [h.1 a (fun e => by subst e; cases hk) (fun e => by subst e; cases hk) (fun e => by subst e; cases hk) (fun e => by subst e; cases hk) (fun e => by subst e; cases hk) (fun e => by subst e; cases hk)]
theorem eqX.z {x y : GG} (h : eqX x y) : eqZ x y := fun a j hk => h.k a j (by
  unfold kEz at hk
  unfold kEx
  simp only [Bool.or_eq_true] at hk ⊢
  rcases hk with ((((((((h | h) | h) | h) | h) | h) | h) | h) | h) <;> simp [h])
/-- one bar, or none -/
def dlt (k : Int32) (q : Nat) : Int32 := if nI q = k then 1 else 0
theorem dlt_01 (k : Int32) (q : Nat) : dlt k q = nI (if nI q = k then 1 else 0) := by unfold dlt; split <;> rfl
theorem lnS_no {d : Nat → Int32} (w : Nat → Int) (h : ∀ q, q < 4 → d q = 0 + dlt (-1) q) : lnS d w = 0 := by
  unfold lnS
  rw [h 0 (by decide), h 1 (by decide), h 2 (by decide), h 3 (by decide)]
  have e : ∀ q, q < 4 → ((0 : Int32) + dlt (-1) q).toInt = 0 := by
    intro q hq
    have n : ¬ nI q = -1 := nI_m1 (by omega)
    unfold dlt
    rw [if_neg n]
    rfl
  rw [e 0 (by decide), e 1 (by decide), e 2 (by decide), e 3 (by decide)]
  omega
theorem lnS_one {d : Nat → Int32} (w : Nat → Int) {k : Nat} (hk : k < 4) (h : ∀ q, q < 4 → d q = 0 + dlt (nI k) q) : lnS d w = w k := by
  have e : ∀ q, q < 4 → (d q).toInt = if q = k then 1 else 0 := by
    intro q hq
    rw [h q hq]
    unfold dlt
    by_cases c : q = k
    · subst c
      rw [if_pos rfl, if_pos rfl]
      rfl
    · rw [if_neg (fun z => c ((nI_eq (by omega) (by omega)).mp z)), if_neg c]
      rfl
  unfold lnS
  rw [e 0 (by decide), e 1 (by decide), e 2 (by decide), e 3 (by decide)]
  have : k = 0 ∨ k = 1 ∨ k = 2 ∨ k = 3 := by omega
  rcases this with rfl | rfl | rfl | rfl <;> simp
theorem lnS_add {f g : Nat → Int32} {k : Int32} (w : Nat → Int) {T : Nat} (hT : T ≤ 24) (hf : ∀ q, q < 4 → ∃ z : Nat, z ≤ T ∧ f q = nI z) (h : ∀ q, q < 4 → g q = f q + dlt k q) : (∀ q, q < 4 → ∃ z : Nat, z ≤ T + 1 ∧ g q = nI z) ∧ lnS g w = lnS f w + lnS (fun q => 0 + dlt k q) w := by
  have e : ∀ q, q < 4 → (g q).toInt = (f q).toInt + ((0 : Int32) + dlt k q).toInt := by
    intro q hq
    obtain ⟨z, z1, z2⟩ := hf q hq
    rw [h q hq, z2, dlt_01, ← nI_0, nI_add, nI_add]
    have : (if nI q = k then 1 else 0) ≤ 1 := by split <;> omega
    rw [nI_toInt (by omega), nI_toInt (by omega), nI_toInt (by omega)]
    omega
  refine ⟨fun q hq => ?_, ?_⟩
  · obtain ⟨z, z1, z2⟩ := hf q hq
    refine ⟨z + (if nI q = k then 1 else 0), by split <;> omega, ?_⟩
    rw [h q hq, z2, dlt_01, nI_add]
  · unfold lnS
    rw [e 0 (by decide), e 1 (by decide), e 2 (by decide), e 3 (by decide)]
    simp only [Int.add_mul]
    omega
theorem w_readSheet {x m y : GG} {N B S s n : Nat} {P : (Nat → Int) → Prop} (h : rE x m N B S) (hx : eqL x y) (hs : s < S) (e : m.1 14 s = nI n) (hn : n ≤ 24) (hL : LN B y (24 * s) P) :
    wF fX5_readSheet [.int (nI s)] y (fun v g => v = .null ∧ eqL x g ∧ LN B g (24 * (s + 1)) (fun w => P w ∧ ∀ t, 1 ≤ t → t < n → cI m w s t)) := by
  have hS := h.2.2.2.2.2.2.2.2.2.1
  have hS6 := hS.1
  have hB4 := h.2.2.2.1.1
  obtain ⟨b1, b2⟩ := bl_int h
  obtain ⟨d1, d2⟩ := wd_int h hs
  obtain ⟨-, -, n', k1, k2, e1, e2, e3, e4⟩ := hS.2.2.2.2.1 s hs
  have en : n = n' := (nI_eq (by omega) (by omega)).mp (e.symm.trans e2)
  subst en
  unfold fX5_readSheet
  simp (decide := true) only [wE_lit, wL_lit, wE_loc, wL_loc, wE_add, wE_sub, wE_mul, wE_and, wE_or, wE_xor, wE_shl, wE_shr, wE_ushr, wE_div, wE_rem, wE_neg, wE_i2b, wE_l2i, wL_i2l, wL_add, wL_mul, wE_fld, wL_fld, wE_arr, wL_arr, wC_cmp, wC_cmp0, wC_cmpL, wC_and, wC_or, wC_not, wC_ite, wL_ite, wA_nil, wA_int, wA_long, wE_call, wL_call, wS_skip, wS_seq, wS_set, wS_setL, wS_inc, wS_if, wS_put, wS_putL, wS_putOp, wS_putOpL, wS_ast, wS_astL, wS_aop, wS_aopL, wS_ret, wS_retL, wS_retV, wS_do, wS_pop, wS_dead, wS_sw, wF_body, Nat.reduceAdd, Nat.zero_add, Bool.not_not, true_and, and_true, if_true, if_false, ↓reduceIte, eq_self, Value.int.injEq, Value.long.injEq, exists_eq_left', ik_b1, ik_b0, ik_bz0, ik_bz3, ik_bz3_1, ik_bz3_0, ik_cmp, ik_cmpL, ik_eI, ik_eL, ik_as, ik_i0, ik_i1, decide_eq_true_eq, decide_eq_false_iff_not, decide_true, decide_false, Bool.not_true, Bool.not_false, reduceCtorEq, forall_const, false_implies, true_implies, implies_true, true_and, and_true, and_self, false_and, and_false, Bool.and_true, Bool.true_and, not_true_eq_false, not_false_eq_true, if_true, if_false, ite_true, ite_false, ik_bz3_0, ik_bz3_1, ik_bz0, upd_at, upd_off]
  refine wS_for _ _ (fun t σ => σ.1 5 = nI t ∧ σ.1 1 = nI s ∧ eqL x σ.2.2 ∧ LN B σ.2.2 (24 * s + t) (fun w => P w ∧ ∀ t', 1 ≤ t' → t' < t → cI m w s t') ∧ btw (σ.1 4) (1100 * (t : Int)) ∧ (t = 0 → σ.1 4 = 0) ∧ (1 ≤ t → ((∀ q, q < 4 → ∃ z : Nat, z ≤ t ∧ σ.2.2.1 54 q = nI z) ∧ ∀ q, q < 4 → B ≤ q → σ.2.2.1 54 q = 0) ∧ ∀ w, acI m w s t = (σ.1 4).toInt + lnS (σ.2.2.1 54) w)) 0 n _ ⟨by simp [upd, nI_0], by simp [upd, ik_eI], hx, hL.mono (Nat.le_refl _) (fun w => ⟨fun q => ⟨q, fun t' h1 h2 => by omega⟩, fun q => q.1⟩), by simp only [upd_at, upd_off, ne_eq, show ¬ (4 : Nat) = 5 by decide, not_false_eq_true]; exact ⟨by decide, by decide⟩, fun _ => by simp [upd], fun h1 => by omega⟩ (by omega) (by omega) ?_ ?_ ?_
  · rintro t ⟨s1, s2, s3⟩ h1 ⟨h2, h3, h4, -⟩
    simp only at h2 h3 h4
    have tk := w_tokens (h.z h4.z).2.2.2.2.2.2.2.2.2.1 hs
    simp (decide := true) only [wE_lit, wL_lit, wE_loc, wL_loc, wE_add, wE_sub, wE_mul, wE_and, wE_or, wE_xor, wE_shl, wE_shr, wE_ushr, wE_div, wE_rem, wE_neg, wE_i2b, wE_l2i, wL_i2l, wL_add, wL_mul, wE_fld, wL_fld, wE_arr, wL_arr, wC_cmp, wC_cmp0, wC_cmpL, wC_and, wC_or, wC_not, wC_ite, wL_ite, wA_nil, wA_int, wA_long, wE_call, wL_call, wS_skip, wS_seq, wS_set, wS_setL, wS_inc, wS_if, wS_put, wS_putL, wS_putOp, wS_putOpL, wS_ast, wS_astL, wS_aop, wS_aopL, wS_ret, wS_retL, wS_retV, wS_do, wS_pop, wS_dead, wS_sw, wF_body, Nat.reduceAdd, Nat.zero_add, Bool.not_not, true_and, and_true, if_true, if_false, ↓reduceIte, eq_self, Value.int.injEq, Value.long.injEq, exists_eq_left', ik_b1, ik_b0, ik_bz0, ik_bz3, ik_bz3_1, ik_bz3_0, ik_cmp, ik_cmpL, ik_eI, ik_eL, ik_as, ik_i0, ik_i1, decide_eq_true_eq, decide_eq_false_iff_not, decide_true, decide_false, Bool.not_true, Bool.not_false, reduceCtorEq, forall_const, false_implies, true_implies, implies_true, true_and, and_true, and_self, false_and, and_false, Bool.and_true, Bool.true_and, not_true_eq_false, not_false_eq_true, if_true, if_false, ite_true, ite_false, ik_bz3_0, ik_bz3_1, ik_bz0, h2, h3, tk, e, nI_ltI (show t < 2 ^ 31 by omega) (show n < 2 ^ 31 by omega)]
  · rintro t ⟨s1, s2, s3⟩ h1 ⟨h2, h3, h4, h5, h6, h7, h8⟩
    simp only at h2 h3 h4 h5 h6 h7 h8
    have hE := h.z h4.z
    have hSs := hE.2.2.2.2.2.2.2.2.2.1
    obtain ⟨-, q19, -⟩ := e4 t h1
    have bt := w_barAt hSs hs e hn h1
    have bl0 : s3.1 4 0 = m.1 2 0 := (hE.2.1.1 0 (by decide)).1
    have w4 := w_wideOf4 (g := s3) (c := 0) (by decide)
    rw [nI_0, bl0] at w4
    -- what a token adds of its own, and which bar it is
    obtain ⟨own, kk, ⟨o1, o5⟩, o2, o3, o4⟩ : ∃ own kk : Int32, (s3.1 29 (24 * s + t) = kk ∧ ∀ q, q < 4 → B ≤ q → dlt kk q = 0) ∧ btw own 960 ∧ (∀ w, twI m w s t = own.toInt + lnS (fun q => 0 + dlt kk q) w) ∧ ∀ Q : Int32 → GG → Prop, wE (sIte (sCmp 0 (sLoc 6) (sLit (-1))) (sCall fX8_wordWide (sArgI (sLoc 1) (sArgI (sLoc 5) sNil))) (sLit 0)) (upd s1 6 kk, s2, s3) Q ↔ Q own s3 := by
      obtain ⟨n'', -, nn2, -, n4, n5⟩ := hSs.tok hs
      have en : n = n'' := (nI_eq (by omega) (by omega)).mp (e.symm.trans n4)
      subst en
      rcases n5 t h1 with ⟨k, c1, c2, c3, c4⟩ | ⟨c1, c2, -⟩
      · have lt : m.1 16 (24 * s + t) < 4 := by rw [c3, show (4 : Int32) = nI 4 from rfl, nI_ltI (by omega) (by omega)]; omega
        refine ⟨0, nI k, ⟨c2, fun q hq1 hq2 => by unfold dlt; rw [if_neg (fun z => by have := (nI_eq (by omega) (by omega)).mp z; omega)]⟩, ⟨by decide, by decide⟩, fun w => ?_, fun Q => ?_⟩
        · unfold twI
          rw [if_pos lt, c3, nI_nat (by omega), lnS_one w (show k < 4 by omega) (fun q _ => rfl), show (0 : Int32).toInt = 0 from rfl]
          omega
        · have nk : ¬ nI k = -1 := nI_m1 (by omega)
          simp (decide := true) only [wE_lit, wL_lit, wE_loc, wL_loc, wE_add, wE_sub, wE_mul, wE_and, wE_or, wE_xor, wE_shl, wE_shr, wE_ushr, wE_div, wE_rem, wE_neg, wE_i2b, wE_l2i, wL_i2l, wL_add, wL_mul, wE_fld, wL_fld, wE_arr, wL_arr, wC_cmp, wC_cmp0, wC_cmpL, wC_and, wC_or, wC_not, wC_ite, wL_ite, wA_nil, wA_int, wA_long, wE_call, wL_call, wS_skip, wS_seq, wS_set, wS_setL, wS_inc, wS_if, wS_put, wS_putL, wS_putOp, wS_putOpL, wS_ast, wS_astL, wS_aop, wS_aopL, wS_ret, wS_retL, wS_retV, wS_do, wS_pop, wS_dead, wS_sw, wF_body, Nat.reduceAdd, Nat.zero_add, Bool.not_not, true_and, and_true, if_true, if_false, ↓reduceIte, eq_self, Value.int.injEq, Value.long.injEq, exists_eq_left', ik_b1, ik_b0, ik_bz0, ik_bz3, ik_bz3_1, ik_bz3_0, ik_cmp, ik_cmpL, ik_eI, ik_eL, ik_as, ik_i0, ik_i1, decide_eq_true_eq, decide_eq_false_iff_not, decide_true, decide_false, Bool.not_true, Bool.not_false, reduceCtorEq, forall_const, false_implies, true_implies, implies_true, true_and, and_true, and_self, false_and, and_false, Bool.and_true, Bool.true_and, not_true_eq_false, not_false_eq_true, if_true, if_false, ite_true, ite_false, ik_bz3_0, ik_bz3_1, ik_bz0, wE_ite, upd_at, nk]
      · have nlt : ¬ m.1 16 (24 * s + t) < 4 := by rw [c2]; decide
        have ww := w_wordWide hE hs e hn h1 nlt
        refine ⟨ik_tw m s t, -1, ⟨c1, fun q hq1 hq2 => by unfold dlt; rw [if_neg (nI_m1 (by omega))]⟩, tw_btw h hs e hn h1 nlt, fun w => ?_, fun Q => ?_⟩
        · unfold twI
          rw [if_neg nlt, lnS_no w (fun q _ => rfl)]
          omega
        · simp (decide := true) only [wE_lit, wL_lit, wE_loc, wL_loc, wE_add, wE_sub, wE_mul, wE_and, wE_or, wE_xor, wE_shl, wE_shr, wE_ushr, wE_div, wE_rem, wE_neg, wE_i2b, wE_l2i, wL_i2l, wL_add, wL_mul, wE_fld, wL_fld, wE_arr, wL_arr, wC_cmp, wC_cmp0, wC_cmpL, wC_and, wC_or, wC_not, wC_ite, wL_ite, wA_nil, wA_int, wA_long, wE_call, wL_call, wS_skip, wS_seq, wS_set, wS_setL, wS_inc, wS_if, wS_put, wS_putL, wS_putOp, wS_putOpL, wS_ast, wS_astL, wS_aop, wS_aopL, wS_ret, wS_retL, wS_retV, wS_do, wS_pop, wS_dead, wS_sw, wF_body, Nat.reduceAdd, Nat.zero_add, Bool.not_not, true_and, and_true, if_true, if_false, ↓reduceIte, eq_self, Value.int.injEq, Value.long.injEq, exists_eq_left', ik_b1, ik_b0, ik_bz0, ik_bz3, ik_bz3_1, ik_bz3_0, ik_cmp, ik_cmpL, ik_eI, ik_eL, ik_as, ik_i0, ik_i1, decide_eq_true_eq, decide_eq_false_iff_not, decide_true, decide_false, Bool.not_true, Bool.not_false, reduceCtorEq, forall_const, false_implies, true_implies, implies_true, true_and, and_true, and_self, false_and, and_false, Bool.and_true, Bool.true_and, not_true_eq_false, not_false_eq_true, if_true, if_false, ite_true, ite_false, ik_bz3_0, ik_bz3_1, ik_bz0, wE_ite, upd_at, upd_off, h2, h3, ww]
    rw [o1] at bt
    obtain ⟨ow1, ow2⟩ := o2
    obtain ⟨ac1, ac2⟩ := h6
    have s1' := tA (a := m.1 2 0) (b := own) rfl rfl (by omega) (by omega)
    have s2' := tA (a := s1 4) rfl s1' (by omega) (by omega)
    obtain ⟨acr', hacr⟩ : ∃ v, v = s1 4 + (m.1 2 0 + own) := ⟨_, rfl⟩
    rw [← hacr] at s2'
    have nx : nI t + (1 : Int32) = nI (t + 1) := by show nI t + nI 1 = _; rw [nI_add]
    by_cases t0 : t = 0
    · subst t0
      have z0 : (nI 0 = 0) = True := eq_true rfl
      have z1 : (nI 0 > (0 : Int32)) = False := by decide
      have st : wF fX5_stand [.int kk, .int 1] s3 _ := w_stand kk true h4
      simp (decide := true) only [wE_lit, wL_lit, wE_loc, wL_loc, wE_add, wE_sub, wE_mul, wE_and, wE_or, wE_xor, wE_shl, wE_shr, wE_ushr, wE_div, wE_rem, wE_neg, wE_i2b, wE_l2i, wL_i2l, wL_add, wL_mul, wE_fld, wL_fld, wE_arr, wL_arr, wC_cmp, wC_cmp0, wC_cmpL, wC_and, wC_or, wC_not, wC_ite, wL_ite, wA_nil, wA_int, wA_long, wE_call, wL_call, wS_skip, wS_seq, wS_set, wS_setL, wS_inc, wS_if, wS_put, wS_putL, wS_putOp, wS_putOpL, wS_ast, wS_astL, wS_aop, wS_aopL, wS_ret, wS_retL, wS_retV, wS_do, wS_pop, wS_dead, wS_sw, wF_body, Nat.reduceAdd, Nat.zero_add, Bool.not_not, true_and, and_true, if_true, if_false, ↓reduceIte, eq_self, Value.int.injEq, Value.long.injEq, exists_eq_left', ik_b1, ik_b0, ik_bz0, ik_bz3, ik_bz3_1, ik_bz3_0, ik_cmp, ik_cmpL, ik_eI, ik_eL, ik_as, ik_i0, ik_i1, decide_eq_true_eq, decide_eq_false_iff_not, decide_true, decide_false, Bool.not_true, Bool.not_false, reduceCtorEq, forall_const, false_implies, true_implies, implies_true, true_and, and_true, and_self, false_and, and_false, Bool.and_true, Bool.true_and, not_true_eq_false, not_false_eq_true, if_true, if_false, ite_true, ite_false, ik_bz3_0, ik_bz3_1, ik_bz0, wE_ite2, h2, h3, bt, o4, w4, z0, z1, upd_at, upd_off]
      refine wF_mono st ?_
      rintro _ g1 ⟨rfl, p1, p2, p3⟩
      refine ⟨rfl, ?_⟩
      have bg := w_begins2 (h.z p1.z) (eqX.rfl' g1) hs e hn h1
      rw [if_pos rfl] at bg
      have st2 : wF fX5_stand [.int kk, .int 1] g1 _ := w_stand kk true p1
      simp (decide := true) only [wE_lit, wL_lit, wE_loc, wL_loc, wE_add, wE_sub, wE_mul, wE_and, wE_or, wE_xor, wE_shl, wE_shr, wE_ushr, wE_div, wE_rem, wE_neg, wE_i2b, wE_l2i, wL_i2l, wL_add, wL_mul, wE_fld, wL_fld, wE_arr, wL_arr, wC_cmp, wC_cmp0, wC_cmpL, wC_and, wC_or, wC_not, wC_ite, wL_ite, wA_nil, wA_int, wA_long, wE_call, wL_call, wS_skip, wS_seq, wS_set, wS_setL, wS_inc, wS_if, wS_put, wS_putL, wS_putOp, wS_putOpL, wS_ast, wS_astL, wS_aop, wS_aopL, wS_ret, wS_retL, wS_retV, wS_do, wS_pop, wS_dead, wS_sw, wF_body, Nat.reduceAdd, Nat.zero_add, Bool.not_not, true_and, and_true, if_true, if_false, ↓reduceIte, eq_self, Value.int.injEq, Value.long.injEq, exists_eq_left', ik_b1, ik_b0, ik_bz0, ik_bz3, ik_bz3_1, ik_bz3_0, ik_cmp, ik_cmpL, ik_eI, ik_eL, ik_as, ik_i0, ik_i1, decide_eq_true_eq, decide_eq_false_iff_not, decide_true, decide_false, Bool.not_true, Bool.not_false, reduceCtorEq, forall_const, false_implies, true_implies, implies_true, true_and, and_true, and_self, false_and, and_false, Bool.and_true, Bool.true_and, not_true_eq_false, not_false_eq_true, if_true, if_false, ite_true, ite_false, ik_bz3_0, ik_bz3_1, ik_bz0, h2, h3, z1, bg, upd_at, upd_off]
      refine wF_mono st2 ?_
      rintro _ g2 ⟨rfl, p4, p5, p6⟩
      have fr : ∀ a, a ≠ 54 → g2.1 a = s3.1 a := fun a ha => (p5 a ha).trans (p2 a ha)
      have r4 : ∀ q, q < 4 → g2.1 54 q = 0 + dlt kk q := fun q hq => p6 q hq
      simp (decide := true) only [wE_lit, wL_lit, wE_loc, wL_loc, wE_add, wE_sub, wE_mul, wE_and, wE_or, wE_xor, wE_shl, wE_shr, wE_ushr, wE_div, wE_rem, wE_neg, wE_i2b, wE_l2i, wL_i2l, wL_add, wL_mul, wE_fld, wL_fld, wE_arr, wL_arr, wC_cmp, wC_cmp0, wC_cmpL, wC_and, wC_or, wC_not, wC_ite, wL_ite, wA_nil, wA_int, wA_long, wE_call, wL_call, wS_skip, wS_seq, wS_set, wS_setL, wS_inc, wS_if, wS_put, wS_putL, wS_putOp, wS_putOpL, wS_ast, wS_astL, wS_aop, wS_aopL, wS_ret, wS_retL, wS_retV, wS_do, wS_pop, wS_dead, wS_sw, wF_body, Nat.reduceAdd, Nat.zero_add, Bool.not_not, true_and, and_true, if_true, if_false, ↓reduceIte, eq_self, Value.int.injEq, Value.long.injEq, exists_eq_left', ik_b1, ik_b0, ik_bz0, ik_bz3, ik_bz3_1, ik_bz3_0, ik_cmp, ik_cmpL, ik_eI, ik_eL, ik_as, ik_i0, ik_i1, decide_eq_true_eq, decide_eq_false_iff_not, decide_true, decide_false, Bool.not_true, Bool.not_false, reduceCtorEq, forall_const, false_implies, true_implies, implies_true, true_and, and_true, and_self, false_and, and_false, Bool.and_true, Bool.true_and, not_true_eq_false, not_false_eq_true, if_true, if_false, ite_true, ite_false, ik_bz3_0, ik_bz3_1, ik_bz0, h2, h3, upd_at, upd_off, nx]
      refine ⟨p4, (h5.fr (by rw [fr 49 (by decide)]) (fr 50 (by decide)) (fr 51 (by decide)) (fr 52 (by decide)) (fr 53 (by decide))).mono (by omega) (fun w => ⟨fun q => ⟨q.1, fun t' a1 a2 => by omega⟩, fun q => ⟨q.1, fun t' a1 a2 => by omega⟩⟩), ⟨by omega, by omega⟩, ⟨fun q hq => ?_, fun q hq hq2 => by rw [r4 q hq, o5 q hq hq2]; rfl⟩, fun w => ?_⟩
      · rw [r4 q hq, dlt_01, ← nI_0, nI_add]
        exact ⟨_, by split <;> omega, rfl⟩
      · show acI m w s (0 + 1) = _
        have : acI m w s (0 + 1) = if tB m s 0 = true then twI m w s 0 else acI m w s 0 + (m.1 2 0).toInt + twI m w s 0 := rfl
        rw [this, if_pos (by unfold tB; simp), o3 w, lnS_congr (f' := g2.1 54) (f := fun q => 0 + dlt kk q) r4]
    · have z0 : (nI t = 0) = False := eq_false (fun q => t0 ((nI_eq (by omega) (by omega)).mp (q.trans nI_0.symm)))
      have z1 : (nI t > (0 : Int32)) = True := eq_true (by show (0 : Int32) < nI t; rw [← nI_0, nI_ltI (by omega) (by omega)]; omega)
      obtain ⟨⟨f1, f1B⟩, f2⟩ := h8 (by omega)
      have st : wF fX5_stand [.int kk, .int 0] s3 _ := w_stand kk false h4
      simp (decide := true) only [wE_lit, wL_lit, wE_loc, wL_loc, wE_add, wE_sub, wE_mul, wE_and, wE_or, wE_xor, wE_shl, wE_shr, wE_ushr, wE_div, wE_rem, wE_neg, wE_i2b, wE_l2i, wL_i2l, wL_add, wL_mul, wE_fld, wL_fld, wE_arr, wL_arr, wC_cmp, wC_cmp0, wC_cmpL, wC_and, wC_or, wC_not, wC_ite, wL_ite, wA_nil, wA_int, wA_long, wE_call, wL_call, wS_skip, wS_seq, wS_set, wS_setL, wS_inc, wS_if, wS_put, wS_putL, wS_putOp, wS_putOpL, wS_ast, wS_astL, wS_aop, wS_aopL, wS_ret, wS_retL, wS_retV, wS_do, wS_pop, wS_dead, wS_sw, wF_body, Nat.reduceAdd, Nat.zero_add, Bool.not_not, true_and, and_true, if_true, if_false, ↓reduceIte, eq_self, Value.int.injEq, Value.long.injEq, exists_eq_left', ik_b1, ik_b0, ik_bz0, ik_bz3, ik_bz3_1, ik_bz3_0, ik_cmp, ik_cmpL, ik_eI, ik_eL, ik_as, ik_i0, ik_i1, decide_eq_true_eq, decide_eq_false_iff_not, decide_true, decide_false, Bool.not_true, Bool.not_false, reduceCtorEq, forall_const, false_implies, true_implies, implies_true, true_and, and_true, and_self, false_and, and_false, Bool.and_true, Bool.true_and, not_true_eq_false, not_false_eq_true, if_true, if_false, ite_true, ite_false, ik_bz3_0, ik_bz3_1, ik_bz0, wE_ite2, h2, h3, bt, o4, w4, z0, z1, upd_at, upd_off]
      rw [← hacr]
      refine wF_mono st ?_
      rintro _ g1 ⟨rfl, p1, p2, p3⟩
      refine ⟨rfl, ?_⟩
      have hE1 := h.z p1.z
      have bgT : ∀ g, eqL x g → ∀ Q : Value → GG → Prop, wF fX8_begins [.int (nI s), .int (nI t)] g Q ↔ Q (.int (ik_b2 (tB m s t))) g := by
        intro g hg Q
        rw [w_begins2 (h.z hg.z) (eqX.rfl' g) hs e hn h1, if_neg t0]
        unfold tB
        rcases q19 with q | q <;> rw [q] <;> simp [t0, ik_b2]
      have wdd := w_wide8 hE1.2.2.2.2.2.2.2.2.2.1 hs
      obtain ⟨a3, a4⟩ := lnS_add (f := s3.1 54) (g := g1.1 54) (k := kk) (fun _ => 0) (T := t) (by omega) f1 (fun q hq => p3 q hq)
      have a5 : ∀ w, lnS (g1.1 54) w = lnS (s3.1 54) w + lnS (fun q => 0 + dlt kk q) w := fun w => (lnS_add (f := s3.1 54) (g := g1.1 54) (k := kk) w (T := t) (by omega) f1 (fun q hq => p3 q hq)).2
      have nB1 : ∀ q, q < 4 → B ≤ q → g1.1 54 q = 0 := fun q hq hq2 => by
        have := p3 q hq
        rw [show g1.1 54 q = s3.1 54 q + dlt kk q from this, f1B q hq hq2, o5 q hq hq2]; rfl
      have s3' := tS (a := m.1 13 s) rfl s2' (by omega) (by omega)
      have L1 : LN B g1 (24 * s + t) _ := h5.fr (by rw [p2 49 (by decide)]) (p2 50 (by decide)) (p2 51 (by decide)) (p2 52 (by decide)) (p2 53 (by decide))
      have ad := w_add5 (rest := m.1 13 s - acr') (must := tB m s t) p1 L1 (by omega) (fun q hq => by obtain ⟨z, c1, c2⟩ := a3 q hq; exact ⟨z, by omega, c2⟩) nB1 ⟨by omega, by omega⟩
      have ci : ∀ w, (tB m s t = true ↔ (m.1 13 s - acr').toInt < lnS (g1.1 54) w) ↔ cI m w s t := by
        intro w
        unfold cI
        rw [s3', a5 w, f2 w, o3 w]
        constructor
        · intro q
          rw [q]
          constructor <;> intro _ <;> omega
        · intro q
          rw [q]
          constructor <;> intro _ <;> omega
      simp (decide := true) only [wE_lit, wL_lit, wE_loc, wL_loc, wE_add, wE_sub, wE_mul, wE_and, wE_or, wE_xor, wE_shl, wE_shr, wE_ushr, wE_div, wE_rem, wE_neg, wE_i2b, wE_l2i, wL_i2l, wL_add, wL_mul, wE_fld, wL_fld, wE_arr, wL_arr, wC_cmp, wC_cmp0, wC_cmpL, wC_and, wC_or, wC_not, wC_ite, wL_ite, wA_nil, wA_int, wA_long, wE_call, wL_call, wS_skip, wS_seq, wS_set, wS_setL, wS_inc, wS_if, wS_put, wS_putL, wS_putOp, wS_putOpL, wS_ast, wS_astL, wS_aop, wS_aopL, wS_ret, wS_retL, wS_retV, wS_do, wS_pop, wS_dead, wS_sw, wF_body, Nat.reduceAdd, Nat.zero_add, Bool.not_not, true_and, and_true, if_true, if_false, ↓reduceIte, eq_self, Value.int.injEq, Value.long.injEq, exists_eq_left', ik_b1, ik_b0, ik_bz0, ik_bz3, ik_bz3_1, ik_bz3_0, ik_cmp, ik_cmpL, ik_eI, ik_eL, ik_as, ik_i0, ik_i1, decide_eq_true_eq, decide_eq_false_iff_not, decide_true, decide_false, Bool.not_true, Bool.not_false, reduceCtorEq, forall_const, false_implies, true_implies, implies_true, true_and, and_true, and_self, false_and, and_false, Bool.and_true, Bool.true_and, not_true_eq_false, not_false_eq_true, if_true, if_false, ite_true, ite_false, ik_bz3_0, ik_bz3_1, ik_bz0, h2, h3, z1, wdd, bgT g1 p1, upd_at, upd_off]
      refine wF_mono ad ?_
      rintro _ g2 ⟨rfl, p4, p5, p6⟩
      refine ⟨rfl, ?_⟩
      have P2 : LN B g2 (24 * s + (t + 1)) (fun w => P w ∧ ∀ t', 1 ≤ t' → t' < t + 1 → cI m w s t') := by
        refine p4.mono (by omega) (fun w => ?_)
        unfold ask5
        rw [ci w]
        constructor
        · rintro ⟨⟨q1, q2⟩, q3⟩
          refine ⟨q1, fun t' c1 c2 => ?_⟩
          by_cases ee : t' = t
          · subst ee; exact q3
          · exact q2 t' c1 (by omega)
        · rintro ⟨q1, q2⟩
          exact ⟨⟨q1, fun t' c1 c2 => q2 t' c1 (by omega)⟩, q2 t (by omega) (by omega)⟩
      cases hb : tB m s t with
      | true =>
        have bg2 := bgT g2 p5
        rw [hb] at bg2
        have st2 : wF fX5_stand [.int kk, .int 1] g2 _ := w_stand kk true p5
        simp (decide := true) only [wE_lit, wL_lit, wE_loc, wL_loc, wE_add, wE_sub, wE_mul, wE_and, wE_or, wE_xor, wE_shl, wE_shr, wE_ushr, wE_div, wE_rem, wE_neg, wE_i2b, wE_l2i, wL_i2l, wL_add, wL_mul, wE_fld, wL_fld, wE_arr, wL_arr, wC_cmp, wC_cmp0, wC_cmpL, wC_and, wC_or, wC_not, wC_ite, wL_ite, wA_nil, wA_int, wA_long, wE_call, wL_call, wS_skip, wS_seq, wS_set, wS_setL, wS_inc, wS_if, wS_put, wS_putL, wS_putOp, wS_putOpL, wS_ast, wS_astL, wS_aop, wS_aopL, wS_ret, wS_retL, wS_retV, wS_do, wS_pop, wS_dead, wS_sw, wF_body, Nat.reduceAdd, Nat.zero_add, Bool.not_not, true_and, and_true, if_true, if_false, ↓reduceIte, eq_self, Value.int.injEq, Value.long.injEq, exists_eq_left', ik_b1, ik_b0, ik_bz0, ik_bz3, ik_bz3_1, ik_bz3_0, ik_cmp, ik_cmpL, ik_eI, ik_eL, ik_as, ik_i0, ik_i1, decide_eq_true_eq, decide_eq_false_iff_not, decide_true, decide_false, Bool.not_true, Bool.not_false, reduceCtorEq, forall_const, false_implies, true_implies, implies_true, true_and, and_true, and_self, false_and, and_false, Bool.and_true, Bool.true_and, not_true_eq_false, not_false_eq_true, if_true, if_false, ite_true, ite_false, ik_bz3_0, ik_bz3_1, ik_bz0, h2, h3, bg2, show ik_b2 true = 1 from rfl, upd_at, upd_off]
        refine wF_mono st2 ?_
        rintro _ g3 ⟨rfl, p7, p8, p9⟩
        have r4 : ∀ q, q < 4 → g3.1 54 q = 0 + dlt kk q := fun q hq => p9 q hq
        simp (decide := true) only [wE_lit, wL_lit, wE_loc, wL_loc, wE_add, wE_sub, wE_mul, wE_and, wE_or, wE_xor, wE_shl, wE_shr, wE_ushr, wE_div, wE_rem, wE_neg, wE_i2b, wE_l2i, wL_i2l, wL_add, wL_mul, wE_fld, wL_fld, wE_arr, wL_arr, wC_cmp, wC_cmp0, wC_cmpL, wC_and, wC_or, wC_not, wC_ite, wL_ite, wA_nil, wA_int, wA_long, wE_call, wL_call, wS_skip, wS_seq, wS_set, wS_setL, wS_inc, wS_if, wS_put, wS_putL, wS_putOp, wS_putOpL, wS_ast, wS_astL, wS_aop, wS_aopL, wS_ret, wS_retL, wS_retV, wS_do, wS_pop, wS_dead, wS_sw, wF_body, Nat.reduceAdd, Nat.zero_add, Bool.not_not, true_and, and_true, if_true, if_false, ↓reduceIte, eq_self, Value.int.injEq, Value.long.injEq, exists_eq_left', ik_b1, ik_b0, ik_bz0, ik_bz3, ik_bz3_1, ik_bz3_0, ik_cmp, ik_cmpL, ik_eI, ik_eL, ik_as, ik_i0, ik_i1, decide_eq_true_eq, decide_eq_false_iff_not, decide_true, decide_false, Bool.not_true, Bool.not_false, reduceCtorEq, forall_const, false_implies, true_implies, implies_true, true_and, and_true, and_self, false_and, and_false, Bool.and_true, Bool.true_and, not_true_eq_false, not_false_eq_true, if_true, if_false, ite_true, ite_false, ik_bz3_0, ik_bz3_1, ik_bz0, h2, h3, upd_at, upd_off, nx]
        refine ⟨p7, P2.fr (by rw [p8 49 (by decide)]) (p8 50 (by decide)) (p8 51 (by decide)) (p8 52 (by decide)) (p8 53 (by decide)), ⟨by omega, by omega⟩, fun _ => ⟨⟨fun q hq => ?_, fun q hq hq2 => by rw [r4 q hq, o5 q hq hq2]; rfl⟩, fun w => ?_⟩⟩
        · rw [r4 q hq, dlt_01, ← nI_0, nI_add]
          exact ⟨_, by split <;> omega, rfl⟩
        · have : acI m w s (t + 1) = if tB m s t = true then twI m w s t else acI m w s t + (m.1 2 0).toInt + twI m w s t := rfl
          rw [this, if_pos hb, o3 w, lnS_congr (f' := g3.1 54) (f := fun q => 0 + dlt kk q) r4]
      | false =>
        have bg2 := bgT g2 p5
        rw [hb] at bg2
        simp (decide := true) only [wE_lit, wL_lit, wE_loc, wL_loc, wE_add, wE_sub, wE_mul, wE_and, wE_or, wE_xor, wE_shl, wE_shr, wE_ushr, wE_div, wE_rem, wE_neg, wE_i2b, wE_l2i, wL_i2l, wL_add, wL_mul, wE_fld, wL_fld, wE_arr, wL_arr, wC_cmp, wC_cmp0, wC_cmpL, wC_and, wC_or, wC_not, wC_ite, wL_ite, wA_nil, wA_int, wA_long, wE_call, wL_call, wS_skip, wS_seq, wS_set, wS_setL, wS_inc, wS_if, wS_put, wS_putL, wS_putOp, wS_putOpL, wS_ast, wS_astL, wS_aop, wS_aopL, wS_ret, wS_retL, wS_retV, wS_do, wS_pop, wS_dead, wS_sw, wF_body, Nat.reduceAdd, Nat.zero_add, Bool.not_not, true_and, and_true, if_true, if_false, ↓reduceIte, eq_self, Value.int.injEq, Value.long.injEq, exists_eq_left', ik_b1, ik_b0, ik_bz0, ik_bz3, ik_bz3_1, ik_bz3_0, ik_cmp, ik_cmpL, ik_eI, ik_eL, ik_as, ik_i0, ik_i1, decide_eq_true_eq, decide_eq_false_iff_not, decide_true, decide_false, Bool.not_true, Bool.not_false, reduceCtorEq, forall_const, false_implies, true_implies, implies_true, true_and, and_true, and_self, false_and, and_false, Bool.and_true, Bool.true_and, not_true_eq_false, not_false_eq_true, if_true, if_false, ite_true, ite_false, ik_bz3_0, ik_bz3_1, ik_bz0, h2, h3, bg2, show ik_b2 false = 0 from rfl, upd_at, upd_off, nx]
        refine ⟨p5, P2, ⟨by omega, by omega⟩, fun _ => ⟨⟨fun q hq => ?_, fun q hq hq2 => by rw [p6]; exact nB1 q hq hq2⟩, fun w => ?_⟩⟩
        · rw [p6]; exact a3 q hq
        · have : acI m w s (t + 1) = if tB m s t = true then twI m w s t else acI m w s t + (m.1 2 0).toInt + twI m w s t := rfl
          rw [this, if_neg (by rw [hb]; decide), p6, a5 w, f2 w, o3 w, s2']
          omega
  · rintro ⟨s1, s2, s3⟩ ⟨h2, h3, h4, h5, -⟩
    simp only at h4 h5
    simp (decide := true) only [wE_lit, wL_lit, wE_loc, wL_loc, wE_add, wE_sub, wE_mul, wE_and, wE_or, wE_xor, wE_shl, wE_shr, wE_ushr, wE_div, wE_rem, wE_neg, wE_i2b, wE_l2i, wL_i2l, wL_add, wL_mul, wE_fld, wL_fld, wE_arr, wL_arr, wC_cmp, wC_cmp0, wC_cmpL, wC_and, wC_or, wC_not, wC_ite, wL_ite, wA_nil, wA_int, wA_long, wE_call, wL_call, wS_skip, wS_seq, wS_set, wS_setL, wS_inc, wS_if, wS_put, wS_putL, wS_putOp, wS_putOpL, wS_ast, wS_astL, wS_aop, wS_aopL, wS_ret, wS_retL, wS_retV, wS_do, wS_pop, wS_dead, wS_sw, wF_body, Nat.reduceAdd, Nat.zero_add, Bool.not_not, true_and, and_true, if_true, if_false, ↓reduceIte, eq_self, Value.int.injEq, Value.long.injEq, exists_eq_left', ik_b1, ik_b0, ik_bz0, ik_bz3, ik_bz3_1, ik_bz3_0, ik_cmp, ik_cmpL, ik_eI, ik_eL, ik_as, ik_i0, ik_i1, decide_eq_true_eq, decide_eq_false_iff_not, decide_true, decide_false, Bool.not_true, Bool.not_false, reduceCtorEq, forall_const, false_implies, true_implies, implies_true, true_and, and_true, and_self, false_and, and_false, Bool.and_true, Bool.true_and, not_true_eq_false, not_false_eq_true, if_true, if_false, ite_true, ite_false, ik_bz3_0, ik_bz3_1, ik_bz0]
    exact ⟨h4, h5.mono (by omega) (fun w => Iff.rfl)⟩
def toldP (m : GG) (S : Nat) (w : Nat → Int) : Prop := ∀ s, s < S → ∀ t, 1 ≤ t → t < (m.1 14 s).toInt.toNat → cI m w s t
theorem w_readX {x m y : GG} {N B S : Nat} (h : rE x m N B S) (hx : eqL x y) : wF fX5_read [] y (fun v g => v = .null ∧ eqL x g ∧ LN B g (24 * S) (toldP m S)) := by
  have hS := h.2.2.2.2.2.2.2.2.2.1
  have hS6 := hS.1
  unfold fX5_read
  simp (decide := true) only [wE_lit, wL_lit, wE_loc, wL_loc, wE_add, wE_sub, wE_mul, wE_and, wE_or, wE_xor, wE_shl, wE_shr, wE_ushr, wE_div, wE_rem, wE_neg, wE_i2b, wE_l2i, wL_i2l, wL_add, wL_mul, wE_fld, wL_fld, wE_arr, wL_arr, wC_cmp, wC_cmp0, wC_cmpL, wC_and, wC_or, wC_not, wC_ite, wL_ite, wA_nil, wA_int, wA_long, wE_call, wL_call, wS_skip, wS_seq, wS_set, wS_setL, wS_inc, wS_if, wS_put, wS_putL, wS_putOp, wS_putOpL, wS_ast, wS_astL, wS_aop, wS_aopL, wS_ret, wS_retL, wS_retV, wS_do, wS_pop, wS_dead, wS_sw, wF_body, Nat.reduceAdd, Nat.zero_add, Bool.not_not, true_and, and_true, if_true, if_false, ↓reduceIte, eq_self, Value.int.injEq, Value.long.injEq, exists_eq_left', ik_b1, ik_b0, ik_bz0, ik_bz3, ik_bz3_1, ik_bz3_0, ik_cmp, ik_cmpL, ik_eI, ik_eL, ik_as, ik_i0, ik_i1, decide_eq_true_eq, decide_eq_false_iff_not, decide_true, decide_false, Bool.not_true, Bool.not_false, reduceCtorEq, forall_const, false_implies, true_implies, implies_true, true_and, and_true, and_self, false_and, and_false, Bool.and_true, Bool.true_and, not_true_eq_false, not_false_eq_true, if_true, if_false, ite_true, ite_false, ik_bz3_0, ik_bz3_1, ik_bz0]
  refine wS_for _ _ (fun k σ => σ.1 3 = nI k ∧ eqL x σ.2.2 ∧ σ.2.2.1 49 5 = 0 ∧ ∀ k', k' < k → σ.2.2.1 50 k' = 0) 0 4 _ ⟨by simp [upd, nI_0], hx.si _ (by omega), ik_si_same _ _ _ _, fun k' hk => by omega⟩ (by omega) (by omega) ?_ ?_ ?_
  · rintro k ⟨s1, s2, s3⟩ h1 ⟨h2, -⟩
    exact wc_L (n := 4) (by omega) h1 h2
  · rintro k ⟨s1, s2, s3⟩ h1 ⟨h2, h3, h4, h5⟩
    simp only at h2 h3 h4 h5
    simp (decide := true) only [wE_lit, wL_lit, wE_loc, wL_loc, wE_add, wE_sub, wE_mul, wE_and, wE_or, wE_xor, wE_shl, wE_shr, wE_ushr, wE_div, wE_rem, wE_neg, wE_i2b, wE_l2i, wL_i2l, wL_add, wL_mul, wE_fld, wL_fld, wE_arr, wL_arr, wC_cmp, wC_cmp0, wC_cmpL, wC_and, wC_or, wC_not, wC_ite, wL_ite, wA_nil, wA_int, wA_long, wE_call, wL_call, wS_skip, wS_seq, wS_set, wS_setL, wS_inc, wS_if, wS_put, wS_putL, wS_putOp, wS_putOpL, wS_ast, wS_astL, wS_aop, wS_aopL, wS_ret, wS_retL, wS_retV, wS_do, wS_pop, wS_dead, wS_sw, wF_body, Nat.reduceAdd, Nat.zero_add, Bool.not_not, true_and, and_true, if_true, if_false, ↓reduceIte, eq_self, Value.int.injEq, Value.long.injEq, exists_eq_left', ik_b1, ik_b0, ik_bz0, ik_bz3, ik_bz3_1, ik_bz3_0, ik_cmp, ik_cmpL, ik_eI, ik_eL, ik_as, ik_i0, ik_i1, decide_eq_true_eq, decide_eq_false_iff_not, decide_true, decide_false, Bool.not_true, Bool.not_false, reduceCtorEq, forall_const, false_implies, true_implies, implies_true, true_and, and_true, and_self, false_and, and_false, Bool.and_true, Bool.true_and, not_true_eq_false, not_false_eq_true, if_true, if_false, ite_true, ite_false, ik_bz3_0, ik_bz3_1, ik_bz0, h2, ik_ix_nI (show k < 4 by omega) (by omega), Option.some.injEq, upd_at, upd_off, nI_1, nI_add]
    refine ⟨h3.si _ (by omega), ?_, fun k' hk => ?_⟩
    · rw [ik_si_row _ _ _ _ _ (by decide)]; exact h4
    · by_cases e : k' = k
      · subst e; exact ik_si_same _ _ _ _
      · rw [ik_si_ne _ _ _ _ _ e]; exact h5 k' (by omega)
  · rintro ⟨s1, s2, s3⟩ ⟨h2, h3, h4, h5⟩
    simp only at h3 h4 h5
    simp (decide := true) only [wE_lit, wL_lit, wE_loc, wL_loc, wE_add, wE_sub, wE_mul, wE_and, wE_or, wE_xor, wE_shl, wE_shr, wE_ushr, wE_div, wE_rem, wE_neg, wE_i2b, wE_l2i, wL_i2l, wL_add, wL_mul, wE_fld, wL_fld, wE_arr, wL_arr, wC_cmp, wC_cmp0, wC_cmpL, wC_and, wC_or, wC_not, wC_ite, wL_ite, wA_nil, wA_int, wA_long, wE_call, wL_call, wS_skip, wS_seq, wS_set, wS_setL, wS_inc, wS_if, wS_put, wS_putL, wS_putOp, wS_putOpL, wS_ast, wS_astL, wS_aop, wS_aopL, wS_ret, wS_retL, wS_retV, wS_do, wS_pop, wS_dead, wS_sw, wF_body, Nat.reduceAdd, Nat.zero_add, Bool.not_not, true_and, and_true, if_true, if_false, ↓reduceIte, eq_self, Value.int.injEq, Value.long.injEq, exists_eq_left', ik_b1, ik_b0, ik_bz0, ik_bz3, ik_bz3_1, ik_bz3_0, ik_cmp, ik_cmpL, ik_eI, ik_eL, ik_as, ik_i0, ik_i1, decide_eq_true_eq, decide_eq_false_iff_not, decide_true, decide_false, Bool.not_true, Bool.not_false, reduceCtorEq, forall_const, false_implies, true_implies, implies_true, true_and, and_true, and_self, false_and, and_false, Bool.and_true, Bool.true_and, not_true_eq_false, not_false_eq_true, if_true, if_false, ite_true, ite_false, ik_bz3_0, ik_bz3_1, ik_bz0]
    refine wS_for _ _ (fun s σ => σ.1 3 = nI s ∧ eqL x σ.2.2 ∧ LN B σ.2.2 (24 * s) (toldP m s)) 0 S _ ⟨by simp [upd, nI_0], h3, ⟨fun _ => 0, Or.inl h4, fun k hk => ⟨Nat.zero_le _, by rw [h5 k hk, nI_0], fun j hj => absurd hj (Nat.not_lt_zero _)⟩, fun w => ⟨fun _ s hs => absurd hs (Nat.not_lt_zero _), fun _ => ⟨h4, fun k j hk hj => absurd hj (Nat.not_lt_zero _)⟩⟩⟩⟩ (by omega) (by omega) ?_ ?_ ?_
    · rintro s ⟨t1, t2, t3⟩ q1 ⟨q2, q3, q4⟩
      simp only at q2 q3
      have e7 := (h.z q3.z).2.2.2.2.2.2.2.2.2.1.2.1
      simp (decide := true) only [wE_lit, wL_lit, wE_loc, wL_loc, wE_add, wE_sub, wE_mul, wE_and, wE_or, wE_xor, wE_shl, wE_shr, wE_ushr, wE_div, wE_rem, wE_neg, wE_i2b, wE_l2i, wL_i2l, wL_add, wL_mul, wE_fld, wL_fld, wE_arr, wL_arr, wC_cmp, wC_cmp0, wC_cmpL, wC_and, wC_or, wC_not, wC_ite, wL_ite, wA_nil, wA_int, wA_long, wE_call, wL_call, wS_skip, wS_seq, wS_set, wS_setL, wS_inc, wS_if, wS_put, wS_putL, wS_putOp, wS_putOpL, wS_ast, wS_astL, wS_aop, wS_aopL, wS_ret, wS_retL, wS_retV, wS_do, wS_pop, wS_dead, wS_sw, wF_body, Nat.reduceAdd, Nat.zero_add, Bool.not_not, true_and, and_true, if_true, if_false, ↓reduceIte, eq_self, Value.int.injEq, Value.long.injEq, exists_eq_left', ik_b1, ik_b0, ik_bz0, ik_bz3, ik_bz3_1, ik_bz3_0, ik_cmp, ik_cmpL, ik_eI, ik_eL, ik_as, ik_i0, ik_i1, decide_eq_true_eq, decide_eq_false_iff_not, decide_true, decide_false, Bool.not_true, Bool.not_false, reduceCtorEq, forall_const, false_implies, true_implies, implies_true, true_and, and_true, and_self, false_and, and_false, Bool.and_true, Bool.true_and, not_true_eq_false, not_false_eq_true, if_true, if_false, ite_true, ite_false, ik_bz3_0, ik_bz3_1, ik_bz0, fX8_count, q2, e7, nI_ltI (show s < 2 ^ 31 by omega) (show S < 2 ^ 31 by omega)]
    · rintro s ⟨t1, t2, t3⟩ q1 ⟨q2, q3, q4⟩
      simp only at q2 q3 q4
      obtain ⟨n, n1, n2, n3, n4, n5⟩ := hS.tok q1
      simp (decide := true) only [wE_lit, wL_lit, wE_loc, wL_loc, wE_add, wE_sub, wE_mul, wE_and, wE_or, wE_xor, wE_shl, wE_shr, wE_ushr, wE_div, wE_rem, wE_neg, wE_i2b, wE_l2i, wL_i2l, wL_add, wL_mul, wE_fld, wL_fld, wE_arr, wL_arr, wC_cmp, wC_cmp0, wC_cmpL, wC_and, wC_or, wC_not, wC_ite, wL_ite, wA_nil, wA_int, wA_long, wE_call, wL_call, wS_skip, wS_seq, wS_set, wS_setL, wS_inc, wS_if, wS_put, wS_putL, wS_putOp, wS_putOpL, wS_ast, wS_astL, wS_aop, wS_aopL, wS_ret, wS_retL, wS_retV, wS_do, wS_pop, wS_dead, wS_sw, wF_body, Nat.reduceAdd, Nat.zero_add, Bool.not_not, true_and, and_true, if_true, if_false, ↓reduceIte, eq_self, Value.int.injEq, Value.long.injEq, exists_eq_left', ik_b1, ik_b0, ik_bz0, ik_bz3, ik_bz3_1, ik_bz3_0, ik_cmp, ik_cmpL, ik_eI, ik_eL, ik_as, ik_i0, ik_i1, decide_eq_true_eq, decide_eq_false_iff_not, decide_true, decide_false, Bool.not_true, Bool.not_false, reduceCtorEq, forall_const, false_implies, true_implies, implies_true, true_and, and_true, and_self, false_and, and_false, Bool.and_true, Bool.true_and, not_true_eq_false, not_false_eq_true, if_true, if_false, ite_true, ite_false, ik_bz3_0, ik_bz3_1, ik_bz0, q2]
      refine wF_mono (w_readSheet h q3 q1 n4 n2 q4) ?_
      rintro _ g1 ⟨rfl, p1, p2⟩
      simp (decide := true) only [wE_lit, wL_lit, wE_loc, wL_loc, wE_add, wE_sub, wE_mul, wE_and, wE_or, wE_xor, wE_shl, wE_shr, wE_ushr, wE_div, wE_rem, wE_neg, wE_i2b, wE_l2i, wL_i2l, wL_add, wL_mul, wE_fld, wL_fld, wE_arr, wL_arr, wC_cmp, wC_cmp0, wC_cmpL, wC_and, wC_or, wC_not, wC_ite, wL_ite, wA_nil, wA_int, wA_long, wE_call, wL_call, wS_skip, wS_seq, wS_set, wS_setL, wS_inc, wS_if, wS_put, wS_putL, wS_putOp, wS_putOpL, wS_ast, wS_astL, wS_aop, wS_aopL, wS_ret, wS_retL, wS_retV, wS_do, wS_pop, wS_dead, wS_sw, wF_body, Nat.reduceAdd, Nat.zero_add, Bool.not_not, true_and, and_true, if_true, if_false, ↓reduceIte, eq_self, Value.int.injEq, Value.long.injEq, exists_eq_left', ik_b1, ik_b0, ik_bz0, ik_bz3, ik_bz3_1, ik_bz3_0, ik_cmp, ik_cmpL, ik_eI, ik_eL, ik_as, ik_i0, ik_i1, decide_eq_true_eq, decide_eq_false_iff_not, decide_true, decide_false, Bool.not_true, Bool.not_false, reduceCtorEq, forall_const, false_implies, true_implies, implies_true, true_and, and_true, and_self, false_and, and_false, Bool.and_true, Bool.true_and, not_true_eq_false, not_false_eq_true, if_true, if_false, ite_true, ite_false, ik_bz3_0, ik_bz3_1, ik_bz0, q2, upd_at, upd_off, nI_1, nI_add]
      refine ⟨p1, p2.mono (Nat.le_refl _) (fun w => ?_)⟩
      constructor
      · rintro ⟨c1, c2⟩ s' hs'
        by_cases e : s' = s
        · subst e
          rw [n4, nI_nat (by omega)]
          exact c2
        · exact c1 s' (by omega)
      · intro c
        refine ⟨fun s' hs' => c s' (by omega), ?_⟩
        have := c s (by omega)
        rw [n4, nI_nat (by omega)] at this
        exact this
    · rintro ⟨t1, t2, t3⟩ ⟨q2, q3, q4⟩
      simp only at q3 q4
      simp (decide := true) only [wE_lit, wL_lit, wE_loc, wL_loc, wE_add, wE_sub, wE_mul, wE_and, wE_or, wE_xor, wE_shl, wE_shr, wE_ushr, wE_div, wE_rem, wE_neg, wE_i2b, wE_l2i, wL_i2l, wL_add, wL_mul, wE_fld, wL_fld, wE_arr, wL_arr, wC_cmp, wC_cmp0, wC_cmpL, wC_and, wC_or, wC_not, wC_ite, wL_ite, wA_nil, wA_int, wA_long, wE_call, wL_call, wS_skip, wS_seq, wS_set, wS_setL, wS_inc, wS_if, wS_put, wS_putL, wS_putOp, wS_putOpL, wS_ast, wS_astL, wS_aop, wS_aopL, wS_ret, wS_retL, wS_retV, wS_do, wS_pop, wS_dead, wS_sw, wF_body, Nat.reduceAdd, Nat.zero_add, Bool.not_not, true_and, and_true, if_true, if_false, ↓reduceIte, eq_self, Value.int.injEq, Value.long.injEq, exists_eq_left', ik_b1, ik_b0, ik_bz0, ik_bz3, ik_bz3_1, ik_bz3_0, ik_cmp, ik_cmpL, ik_eI, ik_eL, ik_as, ik_i0, ik_i1, decide_eq_true_eq, decide_eq_false_iff_not, decide_true, decide_false, Bool.not_true, Bool.not_false, reduceCtorEq, forall_const, false_implies, true_implies, implies_true, true_and, and_true, and_self, false_and, and_false, Bool.and_true, Bool.true_and, not_true_eq_false, not_false_eq_true, if_true, if_false, ite_true, ite_false, ik_bz3_0, ik_bz3_1, ik_bz0]
      exact ⟨q3, q4⟩
/-- a row of names sets all sheets as they break if it is as all told lines ask -/
theorem otA_iff {x m : GG} {N B S : Nat} {u : Nat → Nat} (h : rE x m N B S) (hu : ∀ k, k < B → u k < N) : otA m u S = false ↔ toldP m S (wU m u) := by
  have hS := h.2.2.2.2.2.2.2.2.2.1
  have key : ∀ s, s < S → (otS m u s = false ↔ ∀ t, 1 ≤ t → t < (m.1 14 s).toInt.toNat → cI m (wU m u) s t) := by
    intro s hs
    obtain ⟨n, n1, n2, n3, n4, n5⟩ := hS.tok hs
    unfold otS
    rw [n4, nI_nat (by omega)]
    exact told_iff h hu hs n4 n2
  constructor
  · intro a s hs
    refine (key s hs).mp ?_
    cases q : otS m u s with
    | false => rfl
    | true =>
      have : otA m u S = true := ik_any_ex.mpr ⟨s, hs, q⟩
      rw [this] at a
      cases a
  · intro a
    exact ik_any_no (fun s hs => (key s hs).mpr (a s hs))
