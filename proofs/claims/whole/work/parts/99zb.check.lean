/-! numbers of four bytes -/
theorem ib_shl {r : Int32} {s j : Nat} (hs : s < 32) (hj : j < 32) : ib (r <<< (nI s &&& 31)) j = (decide (s ≤ j) && ib r (j - s)) := by
  have e : ∀ q : Fin 32, ((nI q.val &&& 31).toBitVec.smod 32).toNat = q.val := by decide +kernel
  have es : ((nI s &&& 31).toBitVec.smod 32).toNat = s := e ⟨s, hs⟩
  unfold ib
  have e2 : (r <<< (nI s &&& 31)).toBitVec = r.toBitVec <<< ((nI s &&& 31).toBitVec.smod 32) := rfl
  rw [e2, BitVec.getLsbD_shiftLeft', es, decide_eq_true hj, Bool.true_and]
  congr 1
  by_cases c : s ≤ j
  · rw [decide_eq_true c, decide_eq_false (by omega)]; rfl
  · rw [decide_eq_false c, decide_eq_true (by omega)]; rfl
theorem num_eq (a b c d : Int32) : ((((((((0 : Int32) <<< (8 &&& 31)) ||| a) <<< (8 &&& 31)) ||| b) <<< (8 &&& 31)) ||| c) <<< (8 &&& 31)) ||| d = (((a <<< (24 &&& 31)) ||| (b <<< (16 &&& 31))) ||| (c <<< (8 &&& 31))) ||| d := by
  refine ib_ext (fun j hj => ?_)
  have s8 : ∀ (r : Int32) (j : Nat), j < 32 → ib (r <<< (8 &&& 31)) j = (decide (8 ≤ j) && ib r (j - 8)) := fun r j h => ib_shl (s := 8) (by decide) h
  have s16 : ∀ (r : Int32) (j : Nat), j < 32 → ib (r <<< (16 &&& 31)) j = (decide (16 ≤ j) && ib r (j - 16)) := fun r j h => ib_shl (s := 16) (by decide) h
  have s24 : ∀ (r : Int32) (j : Nat), j < 32 → ib (r <<< (24 &&& 31)) j = (decide (24 ≤ j) && ib r (j - 24)) := fun r j h => ib_shl (s := 24) (by decide) h
  simp only [ib_or]
  rw [s8 _ j hj, s24 _ j hj, s16 _ j hj, s8 c j hj, ib_or, s8 _ (j - 8) (by omega), ib_or, s8 _ (j - 8 - 8) (by omega), ib_or, s8 _ (j - 8 - 8 - 8) (by omega), ib_0, show j - 8 - 8 - 8 = j - 24 by omega, show j - 8 - 8 = j - 16 by omega, Bool.and_false, Bool.false_or]
  by_cases c1 : 8 ≤ j
  · by_cases c2 : 16 ≤ j
    · by_cases c3 : 24 ≤ j
      · simp [c1, c2, c3, show 8 ≤ j - 8 by omega, show 8 ≤ j - 16 by omega]
      · simp [c1, c2, c3, show 8 ≤ j - 8 by omega, show ¬ 8 ≤ j - 16 by omega]
    · simp [c1, c2, show ¬ 8 ≤ j - 8 by omega, show ¬ 24 ≤ j by omega]
  · simp [c1, show ¬ 16 ≤ j by omega, show ¬ 24 ≤ j by omega]
/-- the number at place p of the tape -/
def nuA (xb : Nat → Int32) (p : Nat) : Int32 := (((xb (4 * p) <<< (24 &&& 31)) ||| (xb (4 * p + 1) <<< (16 &&& 31))) ||| (xb (4 * p + 2) <<< (8 &&& 31))) ||| xb (4 * p + 3)
theorem w_numX {g : GG} {n p : Nat} (hn : n ≤ 400) (hg : g.1 1 1 = nI n) (hp : 4 * p + 3 < n) (Q : Value → GG → Prop) : wF fX9_number [.int (nI p)] g Q ↔ Q (.int (nuA (g.1 2) p)) g := by
  refine wF_eq (eq_of_wF ?_) Q
  have a0 := w_at9 hn hg (show 4 * p < n by omega)
  have a1 := w_at9 hn hg (show 4 * p + 1 < n by omega)
  have a2 := w_at9 hn hg (show 4 * p + 2 < n by omega)
  have a3 := w_at9 hn hg (show 4 * p + 3 < n by omega)
  have m4 : (4 : Int32) * nI p = nI (4 * p) := by rw [show (4 : Int32) = nI 4 from rfl, pk_mul]
  have p1 : nI (4 * p) + 1 = nI (4 * p + 1) := by show nI _ + nI 1 = _; rw [nI_add]
  have p2 : nI (4 * p) + 2 = nI (4 * p + 2) := by show nI _ + nI 2 = _; rw [nI_add]
  have p3 : nI (4 * p) + 3 = nI (4 * p + 3) := by show nI _ + nI 3 = _; rw [nI_add]
  unfold fX9_number
  simp only [wE_lit, wL_lit, wE_loc, wL_loc, wE_add, wE_sub, wE_mul, wE_and, wE_or, wE_xor, wE_shl, wE_shr, wE_ushr, wE_div, wE_rem, wE_neg, wE_i2b, wE_l2i, wL_i2l, wL_add, wL_mul, wE_fld, wL_fld, wE_arr, wL_arr, wC_cmp, wC_cmp0, wC_cmpL, wC_and, wC_or, wC_not, wC_ite, wL_ite, wA_nil, wA_int, wA_long, wE_call, wL_call, wS_skip, wS_seq, wS_set, wS_setL, wS_inc, wS_if, wS_put, wS_putL, wS_putOp, wS_putOpL, wS_ast, wS_astL, wS_aop, wS_aopL, wS_ret, wS_retL, wS_retV, wS_do, wS_pop, wS_dead, wS_sw, wF_body, Nat.reduceAdd, Nat.zero_add, Bool.not_not, true_and, and_true, if_true, if_false, ↓reduceIte, eq_self, Value.int.injEq, Value.long.injEq, exists_eq_left', ik_b1, ik_b0, ik_bz0, ik_bz3, ik_bz3_1, ik_bz3_0, ik_cmp, ik_cmpL, ik_eI, ik_eL, ik_as, ik_i0, ik_i1, decide_eq_true_eq, decide_eq_false_iff_not, decide_true, decide_false, Bool.not_true, Bool.not_false, reduceCtorEq, forall_const, false_implies, true_implies, implies_true, true_and, and_true, and_self, false_and, and_false, Bool.and_true, Bool.true_and, not_true_eq_false, not_false_eq_true, if_true, if_false, ite_true, ite_false, ik_bz3_0, ik_bz3_1, ik_bz0, upd_at, m4, p1, p2, p3, a0, a1, a2, a3]
  rfl
theorem w_numM {g : GG} {xb : Nat → Int32} {n p : Nat} (hn : n ≤ 400) (hp : 4 * p + 3 < n) (hb : ∀ k, k < n → xb k = g.1 1 k &&& 255) (Q : Value → GG → Prop) : wF fX12_numberAt [.int (nI p)] g Q ↔ Q (.int (nuA xb p)) g := by
  refine wF_eq (eq_of_wF ?_) Q
  unfold fX12_numberAt
  simp (decide := true) only [wE_lit, wL_lit, wE_loc, wL_loc, wE_add, wE_sub, wE_mul, wE_and, wE_or, wE_xor, wE_shl, wE_shr, wE_ushr, wE_div, wE_rem, wE_neg, wE_i2b, wE_l2i, wL_i2l, wL_add, wL_mul, wE_fld, wL_fld, wE_arr, wL_arr, wC_cmp, wC_cmp0, wC_cmpL, wC_and, wC_or, wC_not, wC_ite, wL_ite, wA_nil, wA_int, wA_long, wE_call, wL_call, wS_skip, wS_seq, wS_set, wS_setL, wS_inc, wS_if, wS_put, wS_putL, wS_putOp, wS_putOpL, wS_ast, wS_astL, wS_aop, wS_aopL, wS_ret, wS_retL, wS_retV, wS_do, wS_pop, wS_dead, wS_sw, wF_body, Nat.reduceAdd, Nat.zero_add, Bool.not_not, true_and, and_true, if_true, if_false, ↓reduceIte, eq_self, Value.int.injEq, Value.long.injEq, exists_eq_left', ik_b1, ik_b0, ik_bz0, ik_bz3, ik_bz3_1, ik_bz3_0, ik_cmp, ik_cmpL, ik_eI, ik_eL, ik_as, ik_i0, ik_i1, decide_eq_true_eq, decide_eq_false_iff_not, decide_true, decide_false, Bool.not_true, Bool.not_false, reduceCtorEq, forall_const, false_implies, true_implies, implies_true, true_and, and_true, and_self, false_and, and_false, Bool.and_true, Bool.true_and, not_true_eq_false, not_false_eq_true, if_true, if_false, ite_true, ite_false, ik_bz3_0, ik_bz3_1, ik_bz0]
  have m4 : (4 : Int32) * nI p = nI (4 * p) := by rw [show (4 : Int32) = nI 4 from rfl, pk_mul]
  obtain ⟨f, hf⟩ : ∃ f : Nat → Int32, f 0 = 0 ∧ ∀ i, f (i + 1) = (f i <<< (8 &&& 31)) ||| xb (4 * p + i) := ⟨fun i => Nat.rec 0 (fun i v => (v <<< (8 &&& 31)) ||| xb (4 * p + i)) i, rfl, fun i => rfl⟩
  refine wS_for _ _ (fun i σ => σ.1 3 = nI i ∧ σ.1 1 = nI p ∧ σ.1 2 = f i ∧ σ.2.2 = g) 0 4 _ ⟨by simp [upd, nI_0], by simp [upd, ik_eI], by simp [upd, hf.1], rfl⟩ (by omega) (by omega) ?_ ?_ ?_
  · rintro i ⟨s1, s2, s3⟩ h1 ⟨h2, -⟩
    exact wc_L (n := 4) (by omega) h1 h2
  · rintro i ⟨s1, s2, s3⟩ h1 ⟨h2, h3, h4, h5⟩
    simp only at h2 h3 h4 h5
    subst h5
    have ix := ik_ix_nI (show 4 * p + i < 400 by omega) (by omega)
    simp only [wE_lit, wL_lit, wE_loc, wL_loc, wE_add, wE_sub, wE_mul, wE_and, wE_or, wE_xor, wE_shl, wE_shr, wE_ushr, wE_div, wE_rem, wE_neg, wE_i2b, wE_l2i, wL_i2l, wL_add, wL_mul, wE_fld, wL_fld, wE_arr, wL_arr, wC_cmp, wC_cmp0, wC_cmpL, wC_and, wC_or, wC_not, wC_ite, wL_ite, wA_nil, wA_int, wA_long, wE_call, wL_call, wS_skip, wS_seq, wS_set, wS_setL, wS_inc, wS_if, wS_put, wS_putL, wS_putOp, wS_putOpL, wS_ast, wS_astL, wS_aop, wS_aopL, wS_ret, wS_retL, wS_retV, wS_do, wS_pop, wS_dead, wS_sw, wF_body, Nat.reduceAdd, Nat.zero_add, Bool.not_not, true_and, and_true, if_true, if_false, ↓reduceIte, eq_self, Value.int.injEq, Value.long.injEq, exists_eq_left', ik_b1, ik_b0, ik_bz0, ik_bz3, ik_bz3_1, ik_bz3_0, ik_cmp, ik_cmpL, ik_eI, ik_eL, ik_as, ik_i0, ik_i1, decide_eq_true_eq, decide_eq_false_iff_not, decide_true, decide_false, Bool.not_true, Bool.not_false, reduceCtorEq, forall_const, false_implies, true_implies, implies_true, true_and, and_true, and_self, false_and, and_false, Bool.and_true, Bool.true_and, not_true_eq_false, not_false_eq_true, if_true, if_false, ite_true, ite_false, ik_bz3_0, ik_bz3_1, ik_bz0, h2, h3, h4, m4, nI_add, ix, Option.some.injEq, ← hb (4 * p + i) (by omega), upd_at, upd_off, ne_eq, Nat.reduceEqDiff, nI_1, hf.2 i]
  · rintro ⟨s1, s2, s3⟩ ⟨h2, h3, h4, h5⟩
    simp only at h4 h5
    subst h5
    have e : s1 2 = nuA xb p := by
      rw [h4, hf.2 3, hf.2 2, hf.2 1, hf.2 0, hf.1]
      exact num_eq _ _ _ _
    simp (decide := true) only [wE_lit, wL_lit, wE_loc, wL_loc, wE_add, wE_sub, wE_mul, wE_and, wE_or, wE_xor, wE_shl, wE_shr, wE_ushr, wE_div, wE_rem, wE_neg, wE_i2b, wE_l2i, wL_i2l, wL_add, wL_mul, wE_fld, wL_fld, wE_arr, wL_arr, wC_cmp, wC_cmp0, wC_cmpL, wC_and, wC_or, wC_not, wC_ite, wL_ite, wA_nil, wA_int, wA_long, wE_call, wL_call, wS_skip, wS_seq, wS_set, wS_setL, wS_inc, wS_if, wS_put, wS_putL, wS_putOp, wS_putOpL, wS_ast, wS_astL, wS_aop, wS_aopL, wS_ret, wS_retL, wS_retV, wS_do, wS_pop, wS_dead, wS_sw, wF_body, Nat.reduceAdd, Nat.zero_add, Bool.not_not, true_and, and_true, if_true, if_false, ↓reduceIte, eq_self, Value.int.injEq, Value.long.injEq, exists_eq_left', ik_b1, ik_b0, ik_bz0, ik_bz3, ik_bz3_1, ik_bz3_0, ik_cmp, ik_cmpL, ik_eI, ik_eL, ik_as, ik_i0, ik_i1, decide_eq_true_eq, decide_eq_false_iff_not, decide_true, decide_false, Bool.not_true, Bool.not_false, reduceCtorEq, forall_const, false_implies, true_implies, implies_true, true_and, and_true, and_self, false_and, and_false, Bool.and_true, Bool.true_and, not_true_eq_false, not_false_eq_true, if_true, if_false, ite_true, ite_false, ik_bz3_0, ik_bz3_1, ik_bz0, e]
/-! the first number that is not so -/
def rkN (V : Nat → Nat) (i : Nat) : Nat := bgc (fun j => decide (V j ≠ 0)) i
def ckR (nu : Nat → Int32) (V : Nat → Nat) (q i : Nat) : Option Int32 := if V i = 0 then none else if rkN V i = q then some (nI (2 * q)) else if nu (2 * rkN V i) ≠ nI i then some (nI (2 * rkN V i)) else if nu (2 * rkN V i + 1) ≠ nI (V i) then some (nI (2 * rkN V i + 1)) else none
def ckF (nu : Nat → Int32) (V : Nat → Nat) (q : Nat) : Nat → Option Int32
  | 0 => none
  | i + 1 => match ckF nu V q i with
    | some r => some r
    | none => ckR nu V q i
theorem ckF_n {nu : Nat → Int32} {V : Nat → Nat} {q i : Nat} (h : ckF nu V q i = none) : ckF nu V q (i + 1) = ckR nu V q i := by
  show (match ckF nu V q i with | some r => some r | none => ckR nu V q i) = _
  rw [h]
theorem ckF_s {nu : Nat → Int32} {V : Nat → Nat} {q i : Nat} {r : Int32} (h : ckF nu V q i = some r) : ∀ d, ckF nu V q (i + d) = some r
  | 0 => h
  | d + 1 => by
    show (match ckF nu V q (i + d) with | some r => some r | none => ckR nu V q (i + d)) = _
    rw [ckF_s h d]
def ckV (nu : Nat → Int32) (V : Nat → Nat) (q N : Nat) : Int32 := match ckF nu V q N with
  | some r => r
  | none => if rkN V N = q then -1 else nI (2 * rkN V N)
theorem ckV_s {nu : Nat → Int32} {V : Nat → Nat} {q i N : Nat} {r : Int32} (hi : i < N) (h : ckF nu V q i = none) (h2 : ckR nu V q i = some r) : ckV nu V q N = r := by
  have := ckF_s ((ckF_n h).trans h2) (N - (i + 1))
  rw [show i + 1 + (N - (i + 1)) = N by omega] at this
  unfold ckV
  rw [this]
theorem rkN_y {V : Nat → Nat} {i : Nat} (h : V i ≠ 0) : rkN V (i + 1) = rkN V i + 1 := bgc_t (decide_eq_true h)
theorem rkN_n {V : Nat → Nat} {i : Nat} (h : V i = 0) : rkN V (i + 1) = rkN V i := bgc_f (decide_eq_false (fun z => z h))
