/-! how narrow and how wide a name may be -/
theorem ib_neg {x : Int32} : x < 0 ↔ ib x 31 = true := by
  rw [tLt, show (0 : Int32).toInt = 0 from rfl]
  unfold ib
  have e1 : x.toBitVec.msb = x.toBitVec.getLsbD 31 := BitVec.msb_eq_getLsbD_last _
  have e2 : x.toBitVec.msb = decide (x.toBitVec.toInt < 0) := BitVec.msb_eq_toInt
  rw [← e1, e2]
  simp only [decide_eq_true_eq]
  exact Iff.rfl
theorem div_at {x z d : Int} (hz : 0 < z) (h1 : z * d ≤ x) (h2 : x < z * d + z) : x / z = d := by
  have a1 : d ≤ x / z := (Int.le_ediv_iff_mul_le hz).mpr (by rw [Int.mul_comm]; exact h1)
  have a2 : x / z < d + 1 := (Int.ediv_lt_iff_lt_mul hz).mpr (by rw [Int.mul_comm, Int.mul_add, Int.mul_one]; exact h2)
  omega
theorem w_floorDiv {x : Int32} {z : Nat} (h1 : 1 ≤ z) (h2 : z ≤ 24) (hx : btw x 1000000) (g : GG) (Q : Value → GG → Prop) : ∃ r : Int32, r.toInt = x.toInt / (z : Int) ∧ (wF fJ9_floorDiv_7cf53 [.int x, .int (nI z)] g Q ↔ Q (.int r) g) := by
  obtain ⟨x1, x2⟩ := hx
  have zI : (nI z).toInt = (z : Int) := nI_toInt (by omega)
  have z0 : ¬ nI z = 0 := fun q => by have := (nI_eq (by omega) (by omega)).mp (q.trans nI_0.symm); omega
  have qI : (x / nI z).toInt = x.toInt.tdiv z := by
    rw [Int32.toInt_div_of_ne_right _ _ (by intro q; have := congrArg Int32.toInt q; rw [zI, show (-1 : Int32).toInt = -1 from rfl] at this; omega), zI]
  obtain ⟨q, hq⟩ : ∃ q, q = x.toInt.tdiv z := ⟨_, rfl⟩
  obtain ⟨r, hr⟩ : ∃ r, r = x.toInt.tmod z := ⟨_, rfl⟩
  have eq1 : (z : Int) * q + r = x.toInt := by rw [hq, hr]; exact Int.mul_tdiv_add_tmod _ _
  have zp : (0 : Int) < z := by omega
  have rp : 0 ≤ x.toInt → 0 ≤ r ∧ r < z := fun h => by rw [hr]; exact ⟨Int.tmod_nonneg _ h, Int.tmod_lt_of_pos _ zp⟩
  have rn : x.toInt < 0 → -(z : Int) < r ∧ r ≤ 0 := fun h => by
    have e : r = -((-x.toInt).tmod z) := by rw [hr, Int.neg_tmod, Int.neg_neg]
    have p1 := Int.tmod_nonneg (z : Int) (show 0 ≤ -x.toInt by omega)
    have p2 := Int.tmod_lt_of_pos (-x.toInt) zp
    rw [e]
    omega
  have sg : (x ^^^ nI z < 0) ↔ x < 0 := by
    rw [ib_neg, ib_neg]
    have : ib (x ^^^ nI z) 31 = (ib x 31).xor (ib (nI z) 31) := by unfold ib; rw [Int32.toBitVec_xor, BitVec.getLsbD_xor]
    rw [this, ib_nI (by omega), Nat.testBit_lt_two_pow (show z < 2 ^ 31 by omega), Bool.xor_false]
  have x0 : (x < 0) ↔ x.toInt < 0 := by rw [tLt, show (0 : Int32).toInt = 0 from rfl]
  have qz : x / nI z * nI z = x ↔ r = 0 := by
    have e : (x / nI z * nI z).toInt = (z : Int) * q := by
      rw [tM qI zI (p := x.toInt.tdiv z) (q := z) ?_ ?_, ← hq, Int.mul_comm]
      · rw [← hq, Int.mul_comm]; rcases Classical.em (x.toInt < 0) with c | c
        · have := rn c; omega
        · have := rp (by omega); omega
      · rw [← hq, Int.mul_comm]; rcases Classical.em (x.toInt < 0) with c | c
        · have := rn c; omega
        · have := rp (by omega); omega
    rw [← Int32.toInt_inj, e]
    omega
  have qb : -1000000 ≤ q ∧ q ≤ 1000000 := by
    rcases Classical.em (x.toInt < 0) with c | c
    · have := rn c
      have h3 : q ≤ 0 := by
        apply Classical.byContradiction
        intro n
        have : (z : Int) * 1 ≤ z * q := Int.mul_le_mul_of_nonneg_left (by omega) (by omega)
        omega
      have h4 : (z : Int) * q ≤ 1 * q := by
        have := Int.mul_le_mul_of_nonneg_left (a := 1) (b := (z : Int)) (c := -q) (by omega) (by omega)
        rw [Int.neg_mul, Int.neg_mul, Int.mul_comm q 1, Int.mul_comm q] at this
        omega
      omega
    · have := rp (by omega)
      have h3 : 0 ≤ q := by
        apply Classical.byContradiction
        intro n
        have : (z : Int) * q ≤ z * (-1) := Int.mul_le_mul_of_nonneg_left (by omega) (by omega)
        omega
      have h4 : 1 * q ≤ (z : Int) * q := by
        have := Int.mul_le_mul_of_nonneg_left (a := 1) (b := (z : Int)) (c := q) (by omega) (by omega)
        rw [Int.mul_comm q 1, Int.mul_comm q] at this
        omega
      omega
  by_cases c : x < 0 ∧ ¬ r = 0
  · obtain ⟨c1, c2⟩ := c
    have := rn (x0.mp c1)
    refine ⟨x / nI z - 1, ?_, wF_eq (eq_of_wF ?_) Q⟩
    · rw [tS (qI.trans hq.symm) (show (1 : Int32).toInt = 1 from rfl) (by omega) (by omega)]
      refine (div_at zp ?_ ?_).symm
      · rw [Int.mul_sub, Int.mul_one]; omega
      · rw [Int.mul_sub, Int.mul_one]; omega
    · unfold fJ9_floorDiv_7cf53
      simp (decide := true) only [wE_lit, wL_lit, wE_loc, wL_loc, wE_add, wE_sub, wE_mul, wE_and, wE_or, wE_xor, wE_shl, wE_shr, wE_ushr, wE_div, wE_rem, wE_neg, wE_i2b, wE_l2i, wL_i2l, wL_add, wL_mul, wE_fld, wL_fld, wE_arr, wL_arr, wC_cmp, wC_cmp0, wC_cmpL, wC_and, wC_or, wC_not, wC_ite, wL_ite, wA_nil, wA_int, wA_long, wE_call, wL_call, wS_skip, wS_seq, wS_set, wS_setL, wS_inc, wS_if, wS_put, wS_putL, wS_putOp, wS_putOpL, wS_ast, wS_astL, wS_aop, wS_aopL, wS_ret, wS_retL, wS_retV, wS_do, wS_pop, wS_dead, wS_sw, wF_body, Nat.reduceAdd, Nat.zero_add, Bool.not_not, true_and, and_true, if_true, if_false, ↓reduceIte, eq_self, Value.int.injEq, Value.long.injEq, exists_eq_left', ik_b1, ik_b0, ik_bz0, ik_bz3, ik_bz3_1, ik_bz3_0, ik_cmp, ik_cmpL, ik_eI, ik_eL, ik_as, ik_i0, ik_i1, decide_eq_true_eq, decide_eq_false_iff_not, decide_true, decide_false, Bool.not_true, Bool.not_false, reduceCtorEq, forall_const, false_implies, true_implies, implies_true, true_and, and_true, and_self, false_and, and_false, Bool.and_true, Bool.true_and, not_true_eq_false, not_false_eq_true, if_true, if_false, ite_true, ite_false, ik_bz3_0, ik_bz3_1, ik_bz0, z0, upd_at, upd_off, sg, c1, qz, c2]
  · refine ⟨x / nI z, ?_, wF_eq (eq_of_wF ?_) Q⟩
    · rw [qI, ← hq]
      refine (div_at zp ?_ ?_).symm
      · rcases Classical.em (x.toInt < 0) with d | d
        · have := rn d
          have : r = 0 := Classical.byContradiction (fun n => c ⟨x0.mpr d, n⟩)
          omega
        · have := rp (by omega); omega
      · rcases Classical.em (x.toInt < 0) with d | d
        · have := rn d; omega
        · have := rp (by omega); omega
    · unfold fJ9_floorDiv_7cf53
      by_cases c1 : x < 0
      · have c2 : r = 0 := Classical.byContradiction (fun n => c ⟨c1, n⟩)
        simp (decide := true) only [wE_lit, wL_lit, wE_loc, wL_loc, wE_add, wE_sub, wE_mul, wE_and, wE_or, wE_xor, wE_shl, wE_shr, wE_ushr, wE_div, wE_rem, wE_neg, wE_i2b, wE_l2i, wL_i2l, wL_add, wL_mul, wE_fld, wL_fld, wE_arr, wL_arr, wC_cmp, wC_cmp0, wC_cmpL, wC_and, wC_or, wC_not, wC_ite, wL_ite, wA_nil, wA_int, wA_long, wE_call, wL_call, wS_skip, wS_seq, wS_set, wS_setL, wS_inc, wS_if, wS_put, wS_putL, wS_putOp, wS_putOpL, wS_ast, wS_astL, wS_aop, wS_aopL, wS_ret, wS_retL, wS_retV, wS_do, wS_pop, wS_dead, wS_sw, wF_body, Nat.reduceAdd, Nat.zero_add, Bool.not_not, true_and, and_true, if_true, if_false, ↓reduceIte, eq_self, Value.int.injEq, Value.long.injEq, exists_eq_left', ik_b1, ik_b0, ik_bz0, ik_bz3, ik_bz3_1, ik_bz3_0, ik_cmp, ik_cmpL, ik_eI, ik_eL, ik_as, ik_i0, ik_i1, decide_eq_true_eq, decide_eq_false_iff_not, decide_true, decide_false, Bool.not_true, Bool.not_false, reduceCtorEq, forall_const, false_implies, true_implies, implies_true, true_and, and_true, and_self, false_and, and_false, Bool.and_true, Bool.true_and, not_true_eq_false, not_false_eq_true, if_true, if_false, ite_true, ite_false, ik_bz3_0, ik_bz3_1, ik_bz0, z0, upd_at, upd_off, sg, c1, qz, c2]
      · simp (decide := true) only [wE_lit, wL_lit, wE_loc, wL_loc, wE_add, wE_sub, wE_mul, wE_and, wE_or, wE_xor, wE_shl, wE_shr, wE_ushr, wE_div, wE_rem, wE_neg, wE_i2b, wE_l2i, wL_i2l, wL_add, wL_mul, wE_fld, wL_fld, wE_arr, wL_arr, wC_cmp, wC_cmp0, wC_cmpL, wC_and, wC_or, wC_not, wC_ite, wL_ite, wA_nil, wA_int, wA_long, wE_call, wL_call, wS_skip, wS_seq, wS_set, wS_setL, wS_inc, wS_if, wS_put, wS_putL, wS_putOp, wS_putOpL, wS_ast, wS_astL, wS_aop, wS_aopL, wS_ret, wS_retL, wS_retV, wS_do, wS_pop, wS_dead, wS_sw, wF_body, Nat.reduceAdd, Nat.zero_add, Bool.not_not, true_and, and_true, if_true, if_false, ↓reduceIte, eq_self, Value.int.injEq, Value.long.injEq, exists_eq_left', ik_b1, ik_b0, ik_bz0, ik_bz3, ik_bz3_1, ik_bz3_0, ik_cmp, ik_cmpL, ik_eI, ik_eL, ik_as, ik_i0, ik_i1, decide_eq_true_eq, decide_eq_false_iff_not, decide_true, decide_false, Bool.not_true, Bool.not_false, reduceCtorEq, forall_const, false_implies, true_implies, implies_true, true_and, and_true, and_self, false_and, and_false, Bool.and_true, Bool.true_and, not_true_eq_false, not_false_eq_true, if_true, if_false, ite_true, ite_false, ik_bz3_0, ik_bz3_1, ik_bz0, z0, upd_at, upd_off, sg, c1]
def prS (f : Nat → Int32) (w : Nat → Int) : Nat → Int
  | 0 => 0
  | q + 1 => prS f w q + (f q).toInt * w q
theorem prS_lnS (f : Nat → Int32) (w : Nat → Int) {k : Nat} (hk : k < 4) (hz : ∀ q, k < q → q < 4 → f q = 0) : lnS f w = prS f w k + (f k).toInt * w k := by
  have z0 : (0 : Int32).toInt = 0 := rfl
  have h4 : k = 0 ∨ k = 1 ∨ k = 2 ∨ k = 3 := by omega
  unfold lnS
  rcases h4 with rfl | rfl | rfl | rfl
  · rw [hz 1 (by omega) (by omega), hz 2 (by omega) (by omega), hz 3 (by omega) (by omega), z0]
    simp [prS]
  · rw [hz 2 (by omega) (by omega), hz 3 (by omega) (by omega), z0]
    simp [prS]
  · rw [hz 3 (by omega) (by omega), z0]
    simp [prS]
  · simp [prS]
theorem mul_b {z : Nat} {w : Int} (hz : z ≤ 24) (h1 : -960 ≤ w) (h2 : w ≤ 960) : -23040 ≤ (z : Int) * w ∧ (z : Int) * w ≤ 23040 := by
  have a1 : (z : Int) * w ≤ z * 960 := Int.mul_le_mul_of_nonneg_left h2 (by omega)
  have a2 : (z : Int) * (-960) ≤ z * w := Int.mul_le_mul_of_nonneg_left h1 (by omega)
  omega
theorem prS_b {f : Nat → Int32} {w : Nat → Int} : ∀ {k : Nat}, k ≤ 4 → (∀ q, q < k → ∃ z : Nat, z ≤ 24 ∧ f q = nI z) → (∀ q, q < k → -960 ≤ w q ∧ w q ≤ 960) → -(23040 * (k : Int)) ≤ prS f w k ∧ prS f w k ≤ 23040 * (k : Int)
  | 0, _, _, _ => by
    show -(23040 * (0 : Int)) ≤ 0 ∧ (0 : Int) ≤ 23040 * (0 : Int)
    decide
  | k + 1, hk, hf, hw => by
    obtain ⟨i1, i2⟩ := prS_b (k := k) (f := f) (w := w) (by omega) (fun q hq => hf q (by omega)) (fun q hq => hw q (by omega))
    obtain ⟨z, z1, z2⟩ := hf k (by omega)
    obtain ⟨w1, w2⟩ := hw k (by omega)
    have m := mul_b z1 w1 w2
    have e : prS f w (k + 1) = prS f w k + (f k).toInt * w k := rfl
    rw [e, z2, nI_toInt (by omega)]
    omega
/-- nothing but what lines.least and lines.greatest are -/
def eqG (y g : GG) : Prop := (∀ a, a ≠ 49 → g.1 a = y.1 a) ∧ (∀ j, j ≠ 6 → j ≠ 7 → g.1 49 j = y.1 49 j) ∧ g.2 = y.2
theorem eqG.rfl' (y : GG) : eqG y y := ⟨fun _ _ => rfl, fun _ _ _ => rfl, rfl⟩
theorem eqG.si {y g : GG} (h : eqG y g) {j : Nat} (v : Int32) (hj : j = 6 ∨ j = 7) : eqG y (ik_si g 49 j v) := by
  refine ⟨fun a ha => ?_, fun k k1 k2 => ?_, h.2.2⟩
  · rw [ik_si_row _ _ _ _ _ ha]; exact h.1 a ha
  · rw [ik_si_ne _ _ _ _ _ (by omega)]; exact h.2.1 k k1 k2
theorem w_heeds {B : Nat} {M : Nat → Nat} {y g : GG} {A : Nat} {P : (Nat → Int) → Prop} (h : LNM B M y A P) (hA : A ≤ 144) (e50 : g.1 50 = y.1 50) {k : Nat} (hk : k < 4) (Q : Value → GG → Prop) : wF fX5_heeds [.int (nI k)] g Q ↔ Q (.int (if 0 < M k then 1 else 0)) g := by
  refine wF_eq (eq_of_wF ?_) Q
  obtain ⟨m1, m2, -⟩ := h.2.1 k hk
  have p1 := nI_pos' (n := k) (by omega)
  have p2 : nI k < 4 := by rw [show (4 : Int32) = nI 4 from rfl, nI_ltI (by omega) (by omega)]; omega
  have p3 : (0 < nI (M k)) ↔ 0 < M k := by rw [← nI_0, nI_ltI (by omega) (by omega)]
  unfold fX5_heeds
  by_cases c : 0 < M k
  · have c' : (nI (M k) > (0 : Int32)) = True := eq_true (p3.mpr c)
    simp (decide := true) only [wE_lit, wL_lit, wE_loc, wL_loc, wE_add, wE_sub, wE_mul, wE_and, wE_or, wE_xor, wE_shl, wE_shr, wE_ushr, wE_div, wE_rem, wE_neg, wE_i2b, wE_l2i, wL_i2l, wL_add, wL_mul, wE_fld, wL_fld, wE_arr, wL_arr, wC_cmp, wC_cmp0, wC_cmpL, wC_and, wC_or, wC_not, wC_ite, wL_ite, wA_nil, wA_int, wA_long, wE_call, wL_call, wS_skip, wS_seq, wS_set, wS_setL, wS_inc, wS_if, wS_put, wS_putL, wS_putOp, wS_putOpL, wS_ast, wS_astL, wS_aop, wS_aopL, wS_ret, wS_retL, wS_retV, wS_do, wS_pop, wS_dead, wS_sw, wF_body, Nat.reduceAdd, Nat.zero_add, Bool.not_not, true_and, and_true, if_true, if_false, ↓reduceIte, eq_self, Value.int.injEq, Value.long.injEq, exists_eq_left', ik_b1, ik_b0, ik_bz0, ik_bz3, ik_bz3_1, ik_bz3_0, ik_cmp, ik_cmpL, ik_eI, ik_eL, ik_as, ik_i0, ik_i1, decide_eq_true_eq, decide_eq_false_iff_not, decide_true, decide_false, Bool.not_true, Bool.not_false, reduceCtorEq, forall_const, false_implies, true_implies, implies_true, true_and, and_true, and_self, false_and, and_false, Bool.and_true, Bool.true_and, not_true_eq_false, not_false_eq_true, if_true, if_false, ite_true, ite_false, ik_bz3_0, ik_bz3_1, ik_bz0, wE_ite, p1, p2, ik_ix_nI hk (by omega), Option.some.injEq, e50, m2, c', c]
  · have c' : (nI (M k) > (0 : Int32)) = False := eq_false (fun q => c (p3.mp q))
    simp (decide := true) only [wE_lit, wL_lit, wE_loc, wL_loc, wE_add, wE_sub, wE_mul, wE_and, wE_or, wE_xor, wE_shl, wE_shr, wE_ushr, wE_div, wE_rem, wE_neg, wE_i2b, wE_l2i, wL_i2l, wL_add, wL_mul, wE_fld, wL_fld, wE_arr, wL_arr, wC_cmp, wC_cmp0, wC_cmpL, wC_and, wC_or, wC_not, wC_ite, wL_ite, wA_nil, wA_int, wA_long, wE_call, wL_call, wS_skip, wS_seq, wS_set, wS_setL, wS_inc, wS_if, wS_put, wS_putL, wS_putOp, wS_putOpL, wS_ast, wS_astL, wS_aop, wS_aopL, wS_ret, wS_retL, wS_retV, wS_do, wS_pop, wS_dead, wS_sw, wF_body, Nat.reduceAdd, Nat.zero_add, Bool.not_not, true_and, and_true, if_true, if_false, ↓reduceIte, eq_self, Value.int.injEq, Value.long.injEq, exists_eq_left', ik_b1, ik_b0, ik_bz0, ik_bz3, ik_bz3_1, ik_bz3_0, ik_cmp, ik_cmpL, ik_eI, ik_eL, ik_as, ik_i0, ik_i1, decide_eq_true_eq, decide_eq_false_iff_not, decide_true, decide_false, Bool.not_true, Bool.not_false, reduceCtorEq, forall_const, false_implies, true_implies, implies_true, true_and, and_true, and_self, false_and, and_false, Bool.and_true, Bool.true_and, not_true_eq_false, not_false_eq_true, if_true, if_false, ite_true, ite_false, ik_bz3_0, ik_bz3_1, ik_bz0, wE_ite, p1, p2, ik_ix_nI hk (by omega), Option.some.injEq, e50, m2, c', c]
theorem w_narrow {B : Nat} {M : Nat → Nat} {y : GG} {A : Nat} {P : (Nat → Int) → Prop} (h : LNM B M y A P) (hA : A ≤ 144) {k : Nat} (hk : k < 4) (h60 : ∀ q, q < k → btw (y.1 60 q) 960) :
    wF fX5_narrow [.int (nI k)] y (fun v g => v = .null ∧ eqG y g ∧ ∀ (w : Nat → Int) (v : Int32), btw v 960 → (∀ q, q < k → w q = (y.1 60 q).toInt) → w k = v.toInt → ((g.1 49 6 ≤ v ∧ v ≤ g.1 49 7) ↔ ∀ j, j < M k → lnC y w (144 * k + j))) := by
  obtain ⟨mA, mE, mK⟩ := h.2.1 k hk
  have ixk := ik_ix_nI hk (by omega)
  unfold fX5_narrow
  simp (decide := true) only [wE_lit, wL_lit, wE_loc, wL_loc, wE_add, wE_sub, wE_mul, wE_and, wE_or, wE_xor, wE_shl, wE_shr, wE_ushr, wE_div, wE_rem, wE_neg, wE_i2b, wE_l2i, wL_i2l, wL_add, wL_mul, wE_fld, wL_fld, wE_arr, wL_arr, wC_cmp, wC_cmp0, wC_cmpL, wC_and, wC_or, wC_not, wC_ite, wL_ite, wA_nil, wA_int, wA_long, wE_call, wL_call, wS_skip, wS_seq, wS_set, wS_setL, wS_inc, wS_if, wS_put, wS_putL, wS_putOp, wS_putOpL, wS_ast, wS_astL, wS_aop, wS_aopL, wS_ret, wS_retL, wS_retV, wS_do, wS_pop, wS_dead, wS_sw, wF_body, Nat.reduceAdd, Nat.zero_add, Bool.not_not, true_and, and_true, if_true, if_false, ↓reduceIte, eq_self, Value.int.injEq, Value.long.injEq, exists_eq_left', ik_b1, ik_b0, ik_bz0, ik_bz3, ik_bz3_1, ik_bz3_0, ik_cmp, ik_cmpL, ik_eI, ik_eL, ik_as, ik_i0, ik_i1, decide_eq_true_eq, decide_eq_false_iff_not, decide_true, decide_false, Bool.not_true, Bool.not_false, reduceCtorEq, forall_const, false_implies, true_implies, implies_true, true_and, and_true, and_self, false_and, and_false, Bool.and_true, Bool.true_and, not_true_eq_false, not_false_eq_true, if_true, if_false, ite_true, ite_false, ik_bz3_0, ik_bz3_1, ik_bz0]
  refine wS_for _ _ (fun j σ => σ.1 3 = nI j ∧ σ.1 1 = nI k ∧ eqG y σ.2.2 ∧ ∀ (w : Nat → Int) (v : Int32), btw v 960 → (∀ q, q < k → w q = (y.1 60 q).toInt) → w k = v.toInt → ((σ.2.2.1 49 6 ≤ v ∧ v ≤ σ.2.2.1 49 7) ↔ ∀ j', j' < j → lnC y w (144 * k + j'))) 0 (M k) _ ⟨by simp [upd, nI_0], by simp [upd, ik_eI], ((eqG.rfl' y).si _ (by omega)).si _ (by omega), ?_⟩ (by omega) (by omega) ?_ ?_ ?_
  · intro w v hv _ _
    have e6 : (ik_si (ik_si y 49 6 (-1000000)) 49 7 1000000).1 49 6 = -1000000 := by rw [ik_si_ne _ _ _ _ _ (by decide)]; exact ik_si_same _ _ _ _
    have e7 : (ik_si (ik_si y 49 6 (-1000000)) 49 7 1000000).1 49 7 = 1000000 := ik_si_same _ _ _ _
    show (((ik_si (ik_si y 49 6 (-1000000)) 49 7 1000000).1 49 6 ≤ v ∧ v ≤ (ik_si (ik_si y 49 6 (-1000000)) 49 7 1000000).1 49 7) ↔ _)
    rw [e6, e7, tLe, tLe, show (-1000000 : Int32).toInt = -1000000 from rfl, show (1000000 : Int32).toInt = 1000000 from rfl]
    obtain ⟨v1, v2⟩ := hv
    exact ⟨fun _ j' hj => absurd hj (Nat.not_lt_zero _), fun _ => by omega⟩
  · rintro j ⟨s1, s2, s3⟩ h1 ⟨h2, h3, h4, -⟩
    simp only at h2 h3 h4
    have e50 : s3.1 50 = y.1 50 := h4.1 50 (by decide)
    have hd := w_heeds h hA e50 hk
    have l1 := nI_ltI (show j < 2 ^ 31 by omega) (show M k < 2 ^ 31 by omega)
    by_cases c : 0 < M k
    · by_cases c2 : j < M k
      · have l2 : (nI j < 144) = True := eq_true (by rw [show (144 : Int32) = nI 144 from rfl, nI_ltI (by omega) (by omega)]; omega)
        simp (decide := true) only [wE_lit, wL_lit, wE_loc, wL_loc, wE_add, wE_sub, wE_mul, wE_and, wE_or, wE_xor, wE_shl, wE_shr, wE_ushr, wE_div, wE_rem, wE_neg, wE_i2b, wE_l2i, wL_i2l, wL_add, wL_mul, wE_fld, wL_fld, wE_arr, wL_arr, wC_cmp, wC_cmp0, wC_cmpL, wC_and, wC_or, wC_not, wC_ite, wL_ite, wA_nil, wA_int, wA_long, wE_call, wL_call, wS_skip, wS_seq, wS_set, wS_setL, wS_inc, wS_if, wS_put, wS_putL, wS_putOp, wS_putOpL, wS_ast, wS_astL, wS_aop, wS_aopL, wS_ret, wS_retL, wS_retV, wS_do, wS_pop, wS_dead, wS_sw, wF_body, Nat.reduceAdd, Nat.zero_add, Bool.not_not, true_and, and_true, if_true, if_false, ↓reduceIte, eq_self, Value.int.injEq, Value.long.injEq, exists_eq_left', ik_b1, ik_b0, ik_bz0, ik_bz3, ik_bz3_1, ik_bz3_0, ik_cmp, ik_cmpL, ik_eI, ik_eL, ik_as, ik_i0, ik_i1, decide_eq_true_eq, decide_eq_false_iff_not, decide_true, decide_false, Bool.not_true, Bool.not_false, reduceCtorEq, forall_const, false_implies, true_implies, implies_true, true_and, and_true, and_self, false_and, and_false, Bool.and_true, Bool.true_and, not_true_eq_false, not_false_eq_true, if_true, if_false, ite_true, ite_false, ik_bz3_0, ik_bz3_1, ik_bz0, h2, h3, hd, c, ixk, Option.some.injEq, e50, mE, l1, c2, l2]
      · simp (decide := true) only [wE_lit, wL_lit, wE_loc, wL_loc, wE_add, wE_sub, wE_mul, wE_and, wE_or, wE_xor, wE_shl, wE_shr, wE_ushr, wE_div, wE_rem, wE_neg, wE_i2b, wE_l2i, wL_i2l, wL_add, wL_mul, wE_fld, wL_fld, wE_arr, wL_arr, wC_cmp, wC_cmp0, wC_cmpL, wC_and, wC_or, wC_not, wC_ite, wL_ite, wA_nil, wA_int, wA_long, wE_call, wL_call, wS_skip, wS_seq, wS_set, wS_setL, wS_inc, wS_if, wS_put, wS_putL, wS_putOp, wS_putOpL, wS_ast, wS_astL, wS_aop, wS_aopL, wS_ret, wS_retL, wS_retV, wS_do, wS_pop, wS_dead, wS_sw, wF_body, Nat.reduceAdd, Nat.zero_add, Bool.not_not, true_and, and_true, if_true, if_false, ↓reduceIte, eq_self, Value.int.injEq, Value.long.injEq, exists_eq_left', ik_b1, ik_b0, ik_bz0, ik_bz3, ik_bz3_1, ik_bz3_0, ik_cmp, ik_cmpL, ik_eI, ik_eL, ik_as, ik_i0, ik_i1, decide_eq_true_eq, decide_eq_false_iff_not, decide_true, decide_false, Bool.not_true, Bool.not_false, reduceCtorEq, forall_const, false_implies, true_implies, implies_true, true_and, and_true, and_self, false_and, and_false, Bool.and_true, Bool.true_and, not_true_eq_false, not_false_eq_true, if_true, if_false, ite_true, ite_false, ik_bz3_0, ik_bz3_1, ik_bz0, h2, h3, hd, c, ixk, Option.some.injEq, e50, mE, l1, c2]
        exact ⟨_, rfl⟩
    · have c2 : ¬ j < M k := by omega
      simp (decide := true) only [wE_lit, wL_lit, wE_loc, wL_loc, wE_add, wE_sub, wE_mul, wE_and, wE_or, wE_xor, wE_shl, wE_shr, wE_ushr, wE_div, wE_rem, wE_neg, wE_i2b, wE_l2i, wL_i2l, wL_add, wL_mul, wE_fld, wL_fld, wE_arr, wL_arr, wC_cmp, wC_cmp0, wC_cmpL, wC_and, wC_or, wC_not, wC_ite, wL_ite, wA_nil, wA_int, wA_long, wE_call, wL_call, wS_skip, wS_seq, wS_set, wS_setL, wS_inc, wS_if, wS_put, wS_putL, wS_putOp, wS_putOpL, wS_ast, wS_astL, wS_aop, wS_aopL, wS_ret, wS_retL, wS_retV, wS_do, wS_pop, wS_dead, wS_sw, wF_body, Nat.reduceAdd, Nat.zero_add, Bool.not_not, true_and, and_true, if_true, if_false, ↓reduceIte, eq_self, Value.int.injEq, Value.long.injEq, exists_eq_left', ik_b1, ik_b0, ik_bz0, ik_bz3, ik_bz3_1, ik_bz3_0, ik_cmp, ik_cmpL, ik_eI, ik_eL, ik_as, ik_i0, ik_i1, decide_eq_true_eq, decide_eq_false_iff_not, decide_true, decide_false, Bool.not_true, Bool.not_false, reduceCtorEq, forall_const, false_implies, true_implies, implies_true, true_and, and_true, and_self, false_and, and_false, Bool.and_true, Bool.true_and, not_true_eq_false, not_false_eq_true, if_true, if_false, ite_true, ite_false, ik_bz3_0, ik_bz3_1, ik_bz0, h2, h3, hd, c, c2]
  · rintro j ⟨s1, s2, s3⟩ h1 ⟨h2, h3, h4, h5⟩
    simp only at h2 h3 h4 h5
    obtain ⟨k1, k2, k3⟩ := mK j h1
    obtain ⟨c, hc⟩ : ∃ c, c = 144 * k + j := ⟨_, rfl⟩
    have ec : nI k * (144 : Int32) + nI j = nI c := by rw [show (144 : Int32) = nI 144 from rfl, pk_mul, nI_add, hc, Nat.mul_comm]
    rw [← hc] at k1 k2 k3
    have ixc := ik_ix_nI (show c < 576 by omega) (by omega)
    have e51 : s3.1 51 = y.1 51 := h4.1 51 (by decide)
    have e52 : s3.1 52 = y.1 52 := h4.1 52 (by decide)
    have e53 : s3.1 53 = y.1 53 := h4.1 53 (by decide)
    have e60 : s3.1 60 = y.1 60 := h4.1 60 (by decide)
    obtain ⟨W, hW⟩ : ∃ W : Nat → Int, W = fun q => (y.1 60 q).toInt := ⟨_, rfl⟩
    obtain ⟨f, hf⟩ : ∃ f : Nat → Int32, f = fun q => y.1 53 (4 * c + q) := ⟨_, rfl⟩
    have fz : ∀ q, q < 4 → ∃ z : Nat, z ≤ 24 ∧ f q = nI z := fun q hq => by obtain ⟨z, a, b, -⟩ := k3 q hq; exact ⟨z, a, by rw [hf]; exact b⟩
    have Wb : ∀ q, q < k → -960 ≤ W q ∧ W q ≤ 960 := fun q hq => by rw [hW]; exact h60 q hq
    simp (decide := true) only [wE_lit, wL_lit, wE_loc, wL_loc, wE_add, wE_sub, wE_mul, wE_and, wE_or, wE_xor, wE_shl, wE_shr, wE_ushr, wE_div, wE_rem, wE_neg, wE_i2b, wE_l2i, wL_i2l, wL_add, wL_mul, wE_fld, wL_fld, wE_arr, wL_arr, wC_cmp, wC_cmp0, wC_cmpL, wC_and, wC_or, wC_not, wC_ite, wL_ite, wA_nil, wA_int, wA_long, wE_call, wL_call, wS_skip, wS_seq, wS_set, wS_setL, wS_inc, wS_if, wS_put, wS_putL, wS_putOp, wS_putOpL, wS_ast, wS_astL, wS_aop, wS_aopL, wS_ret, wS_retL, wS_retV, wS_do, wS_pop, wS_dead, wS_sw, wF_body, Nat.reduceAdd, Nat.zero_add, Bool.not_not, true_and, and_true, if_true, if_false, ↓reduceIte, eq_self, Value.int.injEq, Value.long.injEq, exists_eq_left', ik_b1, ik_b0, ik_bz0, ik_bz3, ik_bz3_1, ik_bz3_0, ik_cmp, ik_cmpL, ik_eI, ik_eL, ik_as, ik_i0, ik_i1, decide_eq_true_eq, decide_eq_false_iff_not, decide_true, decide_false, Bool.not_true, Bool.not_false, reduceCtorEq, forall_const, false_implies, true_implies, implies_true, true_and, and_true, and_self, false_and, and_false, Bool.and_true, Bool.true_and, not_true_eq_false, not_false_eq_true, if_true, if_false, ite_true, ite_false, ik_bz3_0, ik_bz3_1, ik_bz0, h2, h3, ec, ixc, Option.some.injEq, e51, upd_at, upd_off]
    obtain ⟨l1, l2⟩ := k2
    refine wS_for _ _ (fun q σ => σ.1 6 = nI q ∧ σ.1 1 = nI k ∧ σ.1 3 = nI j ∧ σ.1 4 = nI c ∧ (σ.1 5).toInt = (y.1 51 c).toInt - prS f W q ∧ σ.2.2 = s3) 0 k _ ⟨by simp [upd, nI_0], by simp [upd, h3], by simp [upd, h2], by simp [upd], by simp [upd, prS], rfl⟩ (by omega) (by omega) ?_ ?_ ?_
    · rintro q ⟨t1, t2, t3⟩ a1 ⟨a2, a3, -, -, -, a4⟩
      simp only at a2 a3 a4
      have l1 := nI_ltI (show q < 2 ^ 31 by omega) (show k < 2 ^ 31 by omega)
      by_cases c2 : q < k
      · have l2 : (nI q < Int32.ofNat 4) = True := eq_true (by show nI q < nI 4; rw [nI_ltI (by omega) (by omega)]; omega)
        simp (decide := true) only [wE_lit, wL_lit, wE_loc, wL_loc, wE_add, wE_sub, wE_mul, wE_and, wE_or, wE_xor, wE_shl, wE_shr, wE_ushr, wE_div, wE_rem, wE_neg, wE_i2b, wE_l2i, wL_i2l, wL_add, wL_mul, wE_fld, wL_fld, wE_arr, wL_arr, wC_cmp, wC_cmp0, wC_cmpL, wC_and, wC_or, wC_not, wC_ite, wL_ite, wA_nil, wA_int, wA_long, wE_call, wL_call, wS_skip, wS_seq, wS_set, wS_setL, wS_inc, wS_if, wS_put, wS_putL, wS_putOp, wS_putOpL, wS_ast, wS_astL, wS_aop, wS_aopL, wS_ret, wS_retL, wS_retV, wS_do, wS_pop, wS_dead, wS_sw, wF_body, Nat.reduceAdd, Nat.zero_add, Bool.not_not, true_and, and_true, if_true, if_false, ↓reduceIte, eq_self, Value.int.injEq, Value.long.injEq, exists_eq_left', ik_b1, ik_b0, ik_bz0, ik_bz3, ik_bz3_1, ik_bz3_0, ik_cmp, ik_cmpL, ik_eI, ik_eL, ik_as, ik_i0, ik_i1, decide_eq_true_eq, decide_eq_false_iff_not, decide_true, decide_false, Bool.not_true, Bool.not_false, reduceCtorEq, forall_const, false_implies, true_implies, implies_true, true_and, and_true, and_self, false_and, and_false, Bool.and_true, Bool.true_and, not_true_eq_false, not_false_eq_true, if_true, if_false, ite_true, ite_false, ik_bz3_0, ik_bz3_1, ik_bz0, a2, a3, l1, c2, l2, a4]
      · simp (decide := true) only [wE_lit, wL_lit, wE_loc, wL_loc, wE_add, wE_sub, wE_mul, wE_and, wE_or, wE_xor, wE_shl, wE_shr, wE_ushr, wE_div, wE_rem, wE_neg, wE_i2b, wE_l2i, wL_i2l, wL_add, wL_mul, wE_fld, wL_fld, wE_arr, wL_arr, wC_cmp, wC_cmp0, wC_cmpL, wC_and, wC_or, wC_not, wC_ite, wL_ite, wA_nil, wA_int, wA_long, wE_call, wL_call, wS_skip, wS_seq, wS_set, wS_setL, wS_inc, wS_if, wS_put, wS_putL, wS_putOp, wS_putOpL, wS_ast, wS_astL, wS_aop, wS_aopL, wS_ret, wS_retL, wS_retV, wS_do, wS_pop, wS_dead, wS_sw, wF_body, Nat.reduceAdd, Nat.zero_add, Bool.not_not, true_and, and_true, if_true, if_false, ↓reduceIte, eq_self, Value.int.injEq, Value.long.injEq, exists_eq_left', ik_b1, ik_b0, ik_bz0, ik_bz3, ik_bz3_1, ik_bz3_0, ik_cmp, ik_cmpL, ik_eI, ik_eL, ik_as, ik_i0, ik_i1, decide_eq_true_eq, decide_eq_false_iff_not, decide_true, decide_false, Bool.not_true, Bool.not_false, reduceCtorEq, forall_const, false_implies, true_implies, implies_true, true_and, and_true, and_self, false_and, and_false, Bool.and_true, Bool.true_and, not_true_eq_false, not_false_eq_true, if_true, if_false, ite_true, ite_false, ik_bz3_0, ik_bz3_1, ik_bz0, a2, a3, l1, c2, a4]
    · rintro q ⟨t1, t2, t3⟩ a1 ⟨a2, a3, a4, a5, a6, a7⟩
      simp only at a2 a3 a4 a5 a6 a7
      subst a7
      have ix1 := ik_ix_nI (show 4 * c + q < 2304 by omega) (by omega)
      have ix2 := ik_ix_nI (show q < 4 by omega) (by omega)
      have ec2 : nI c * (4 : Int32) + nI q = nI (4 * c + q) := by rw [show (4 : Int32) = nI 4 from rfl, pk_mul, nI_add, Nat.mul_comm]
      obtain ⟨z, z1, z2⟩ := fz q (by omega)
      have z2' : y.1 53 (4 * c + q) = nI z := by rw [hf] at z2; exact z2
      obtain ⟨w1, w2⟩ := Wb q a1
      have pb := prS_b (f := f) (w := W) (k := q) (by omega) (fun q' hq => fz q' (by omega)) (fun q' hq => Wb q' (by omega))
      have mb := mul_b z1 w1 w2
      have m1 := tM (a := nI z) (b := y.1 60 q) (nI_toInt (by omega)) (show (y.1 60 q).toInt = W q by rw [hW]) (by omega) (by omega)
      have m2 := tS a6 m1 (by omega) (by omega)
      simp (decide := true) only [wE_lit, wL_lit, wE_loc, wL_loc, wE_add, wE_sub, wE_mul, wE_and, wE_or, wE_xor, wE_shl, wE_shr, wE_ushr, wE_div, wE_rem, wE_neg, wE_i2b, wE_l2i, wL_i2l, wL_add, wL_mul, wE_fld, wL_fld, wE_arr, wL_arr, wC_cmp, wC_cmp0, wC_cmpL, wC_and, wC_or, wC_not, wC_ite, wL_ite, wA_nil, wA_int, wA_long, wE_call, wL_call, wS_skip, wS_seq, wS_set, wS_setL, wS_inc, wS_if, wS_put, wS_putL, wS_putOp, wS_putOpL, wS_ast, wS_astL, wS_aop, wS_aopL, wS_ret, wS_retL, wS_retV, wS_do, wS_pop, wS_dead, wS_sw, wF_body, Nat.reduceAdd, Nat.zero_add, Bool.not_not, true_and, and_true, if_true, if_false, ↓reduceIte, eq_self, Value.int.injEq, Value.long.injEq, exists_eq_left', ik_b1, ik_b0, ik_bz0, ik_bz3, ik_bz3_1, ik_bz3_0, ik_cmp, ik_cmpL, ik_eI, ik_eL, ik_as, ik_i0, ik_i1, decide_eq_true_eq, decide_eq_false_iff_not, decide_true, decide_false, Bool.not_true, Bool.not_false, reduceCtorEq, forall_const, false_implies, true_implies, implies_true, true_and, and_true, and_self, false_and, and_false, Bool.and_true, Bool.true_and, not_true_eq_false, not_false_eq_true, if_true, if_false, ite_true, ite_false, ik_bz3_0, ik_bz3_1, ik_bz0, a2, a3, a4, a5, ec2, ix1, ix2, Option.some.injEq, e53, e60, z2', upd_at, upd_off, nI_1, nI_add]
      rw [m2]
      show _ = _ - (prS f W q + (f q).toInt * W q)
      rw [z2, nI_toInt (by omega)]
      omega
    · rintro ⟨t1, t2, t3⟩ ⟨a2, a3, a4, a5, a6, a7⟩
      simp only at a3 a4 a5 a6 a7
      subst a7
      have ix1 := ik_ix_nI (show 4 * c + k < 2304 by omega) (by omega)
      have ec2 : nI c * (4 : Int32) + nI k = nI (4 * c + k) := by rw [show (4 : Int32) = nI 4 from rfl, pk_mul, nI_add, Nat.mul_comm]
      obtain ⟨z, z1, z2, -, z4⟩ := k3 k hk
      have z1' := (z4 rfl).1
      have pb := prS_b (f := f) (w := W) (k := k) (by omega) (fun q' hq => fz q' (by omega)) Wb
      have rb : btw (t1 5) 1000000 := ⟨by omega, by omega⟩
      have gz : (nI z > (0 : Int32)) = True := eq_true (by show (0 : Int32) < nI z; rw [← nI_0, nI_ltI (by omega) (by omega)]; omega)
      obtain ⟨r, r1, -⟩ := w_floorDiv z1' z1 rb t3 (fun _ _ => True)
      have fd : ∀ Q : Value → GG → Prop, wF fJ9_floorDiv_7cf53 [.int (t1 5), .int (nI z)] t3 Q ↔ Q (.int r) t3 := by
        intro Q
        obtain ⟨r', q1, q2⟩ := w_floorDiv z1' z1 rb t3 Q
        have : r' = r := Int32.toInt_inj.mp (q1.trans r1.symm)
        rw [this] at q2
        exact q2
      have zp : (0 : Int) < z := by omega
      have rlo : -1000000 ≤ r.toInt := by
        rw [r1]
        refine (Int.le_ediv_iff_mul_le zp).mpr ?_
        have : (-1000000 : Int) * z ≤ -1000000 * 1 := by omega
        have := rb.1
        omega
      have rhi : r.toInt < 1000001 := by
        rw [r1]
        refine (Int.ediv_lt_iff_lt_mul zp).mpr ?_
        have := rb.2
        omega
      have r1' := tA (a := r) (b := 1) rfl (show (1 : Int32).toInt = 1 from rfl) (by omega) (by omega)
      have nx : nI j + (1 : Int32) = nI (j + 1) := by show nI j + nI 1 = _; rw [nI_add]
      have hw3 : nI j = t1 3 := a4.symm
      -- what the line asks of the name's width
      have ask : ∀ (w : Nat → Int) (v : Int32), (∀ q, q < k → w q = (y.1 60 q).toInt) → w k = v.toInt → (lnC y w c ↔ if y.1 52 c = 0 then v.toInt ≤ r.toInt else r.toInt + 1 ≤ v.toInt) := by
        intro w v q1 q2
        have ew : prS f w k = prS f W k := by
          have : ∀ n, n ≤ k → prS f w n = prS f W n := by
            intro n
            induction n with
            | zero => intro _; rfl
            | succ n ih =>
              intro hn
              show prS f w n + (f n).toInt * w n = prS f W n + (f n).toInt * W n
              rw [ih (by omega), q1 n (by omega), hW]
          exact this k (Nat.le_refl _)
        have es := prS_lnS f w hk (fun q h1 h2 => by obtain ⟨z', -, z2', z3', -⟩ := k3 q h2; rw [hf]; show y.1 53 (4 * c + q) = 0; rw [z2', z3' h1]; rfl)
        have ez : (f k).toInt = z := by rw [hf]; show (y.1 53 (4 * c + k)).toInt = _; rw [z2, nI_toInt (by omega)]
        unfold lnC
        rw [← hf, es, ew, ez, q2]
        by_cases c0 : y.1 52 c = 0
        · rw [if_pos c0, if_pos c0, r1, Int.le_ediv_iff_mul_le zp, Int.mul_comm]
          omega
        · rw [if_neg c0, if_neg c0, Int.add_one_le_iff, r1, Int.ediv_lt_iff_lt_mul zp, Int.mul_comm]
          omega
      have split : ∀ w, (∀ j', j' < j + 1 → lnC y w (144 * k + j')) ↔ ((∀ j', j' < j → lnC y w (144 * k + j')) ∧ lnC y w c) := by
        intro w
        rw [hc]
        constructor
        · exact fun q => ⟨fun j' hj => q j' (by omega), q j (by omega)⟩
        · rintro ⟨q1, q2⟩ j' hj
          by_cases e : j' = j
          · subst e; exact q2
          · exact q1 j' (by omega)
      rcases k1 with k0 | k0
      · have e52' : t3.1 52 c = 0 := by rw [e52]; exact k0
        simp (decide := true) only [wE_lit, wL_lit, wE_loc, wL_loc, wE_add, wE_sub, wE_mul, wE_and, wE_or, wE_xor, wE_shl, wE_shr, wE_ushr, wE_div, wE_rem, wE_neg, wE_i2b, wE_l2i, wL_i2l, wL_add, wL_mul, wE_fld, wL_fld, wE_arr, wL_arr, wC_cmp, wC_cmp0, wC_cmpL, wC_and, wC_or, wC_not, wC_ite, wL_ite, wA_nil, wA_int, wA_long, wE_call, wL_call, wS_skip, wS_seq, wS_set, wS_setL, wS_inc, wS_if, wS_put, wS_putL, wS_putOp, wS_putOpL, wS_ast, wS_astL, wS_aop, wS_aopL, wS_ret, wS_retL, wS_retV, wS_do, wS_pop, wS_dead, wS_sw, wF_body, Nat.reduceAdd, Nat.zero_add, Bool.not_not, true_and, and_true, if_true, if_false, ↓reduceIte, eq_self, Value.int.injEq, Value.long.injEq, exists_eq_left', ik_b1, ik_b0, ik_bz0, ik_bz3, ik_bz3_1, ik_bz3_0, ik_cmp, ik_cmpL, ik_eI, ik_eL, ik_as, ik_i0, ik_i1, decide_eq_true_eq, decide_eq_false_iff_not, decide_true, decide_false, Bool.not_true, Bool.not_false, reduceCtorEq, forall_const, false_implies, true_implies, implies_true, true_and, and_true, and_self, false_and, and_false, Bool.and_true, Bool.true_and, not_true_eq_false, not_false_eq_true, if_true, if_false, ite_true, ite_false, ik_bz3_0, ik_bz3_1, ik_bz0, wE_ite, a3, a4, a5, ec2, ix1, ixc, Option.some.injEq, e53, z2, gz, fd, e52', w_minJ, upd_at, upd_off, nx]
        refine ⟨h4.si _ (by omega), fun w v hv q1 q2 => ?_⟩
        have i := h5 w v hv q1 q2
        rw [split w, ← i, ask w v q1 q2, if_pos k0, ik_si_same, ik_si_ne _ _ _ _ _ (by decide), ← tLe]
        by_cases c2 : t3.1 49 7 ≤ r
        · rw [if_pos c2]
          rw [tLe] at c2
          simp only [tLe]
          omega
        · rw [if_neg c2]
          rw [tLe] at c2
          simp only [tLe]
          omega
      · have e52' : t3.1 52 c = 1 := by rw [e52]; exact k0
        simp (decide := true) only [wE_lit, wL_lit, wE_loc, wL_loc, wE_add, wE_sub, wE_mul, wE_and, wE_or, wE_xor, wE_shl, wE_shr, wE_ushr, wE_div, wE_rem, wE_neg, wE_i2b, wE_l2i, wL_i2l, wL_add, wL_mul, wE_fld, wL_fld, wE_arr, wL_arr, wC_cmp, wC_cmp0, wC_cmpL, wC_and, wC_or, wC_not, wC_ite, wL_ite, wA_nil, wA_int, wA_long, wE_call, wL_call, wS_skip, wS_seq, wS_set, wS_setL, wS_inc, wS_if, wS_put, wS_putL, wS_putOp, wS_putOpL, wS_ast, wS_astL, wS_aop, wS_aopL, wS_ret, wS_retL, wS_retV, wS_do, wS_pop, wS_dead, wS_sw, wF_body, Nat.reduceAdd, Nat.zero_add, Bool.not_not, true_and, and_true, if_true, if_false, ↓reduceIte, eq_self, Value.int.injEq, Value.long.injEq, exists_eq_left', ik_b1, ik_b0, ik_bz0, ik_bz3, ik_bz3_1, ik_bz3_0, ik_cmp, ik_cmpL, ik_eI, ik_eL, ik_as, ik_i0, ik_i1, decide_eq_true_eq, decide_eq_false_iff_not, decide_true, decide_false, Bool.not_true, Bool.not_false, reduceCtorEq, forall_const, false_implies, true_implies, implies_true, true_and, and_true, and_self, false_and, and_false, Bool.and_true, Bool.true_and, not_true_eq_false, not_false_eq_true, if_true, if_false, ite_true, ite_false, ik_bz3_0, ik_bz3_1, ik_bz0, wE_ite, a3, a4, a5, ec2, ix1, ixc, Option.some.injEq, e53, z2, gz, fd, e52', w_maxJ, upd_at, upd_off, nx]
        refine ⟨h4.si _ (by omega), fun w v hv q1 q2 => ?_⟩
        have i := h5 w v hv q1 q2
        have n0 : ¬ y.1 52 c = 0 := by rw [k0]; decide
        rw [split w, ← i, ask w v q1 q2, if_neg n0, ik_si_same, ik_si_ne _ _ _ _ _ (by decide)]
        by_cases c2 : r + 1 ≤ t3.1 49 6
        · rw [if_pos c2]
          rw [tLe, r1'] at c2
          simp only [tLe]
          omega
        · rw [if_neg c2]
          rw [tLe, r1'] at c2
          simp only [tLe, r1']
          omega
  · rintro ⟨s1, s2, s3⟩ ⟨h2, h3, h4, h5⟩
    simp only at h4 h5
    simp (decide := true) only [wE_lit, wL_lit, wE_loc, wL_loc, wE_add, wE_sub, wE_mul, wE_and, wE_or, wE_xor, wE_shl, wE_shr, wE_ushr, wE_div, wE_rem, wE_neg, wE_i2b, wE_l2i, wL_i2l, wL_add, wL_mul, wE_fld, wL_fld, wE_arr, wL_arr, wC_cmp, wC_cmp0, wC_cmpL, wC_and, wC_or, wC_not, wC_ite, wL_ite, wA_nil, wA_int, wA_long, wE_call, wL_call, wS_skip, wS_seq, wS_set, wS_setL, wS_inc, wS_if, wS_put, wS_putL, wS_putOp, wS_putOpL, wS_ast, wS_astL, wS_aop, wS_aopL, wS_ret, wS_retL, wS_retV, wS_do, wS_pop, wS_dead, wS_sw, wF_body, Nat.reduceAdd, Nat.zero_add, Bool.not_not, true_and, and_true, if_true, if_false, ↓reduceIte, eq_self, Value.int.injEq, Value.long.injEq, exists_eq_left', ik_b1, ik_b0, ik_bz0, ik_bz3, ik_bz3_1, ik_bz3_0, ik_cmp, ik_cmpL, ik_eI, ik_eL, ik_as, ik_i0, ik_i1, decide_eq_true_eq, decide_eq_false_iff_not, decide_true, decide_false, Bool.not_true, Bool.not_false, reduceCtorEq, forall_const, false_implies, true_implies, implies_true, true_and, and_true, and_self, false_and, and_false, Bool.and_true, Bool.true_and, not_true_eq_false, not_false_eq_true, if_true, if_false, ite_true, ite_false, ik_bz3_0, ik_bz3_1, ik_bz0]
    exact ⟨h4, h5⟩
