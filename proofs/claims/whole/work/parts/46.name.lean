/-! bits, one by one; a name kept -/
def ik_bs (p : Nat → Bool) : Nat → Nat
  | 0 => 0
  | n + 1 => ik_bs p n + (if p n = true then 2 ^ n else 0)
theorem ik_bs_lt (p : Nat → Bool) : ∀ n, ik_bs p n < 2 ^ n
  | 0 => by simp [ik_bs]
  | n + 1 => by
    have h := ik_bs_lt p n
    unfold ik_bs
    have : 2 ^ (n + 1) = 2 ^ n + 2 ^ n := by rw [Nat.pow_succ]; omega
    split <;> omega
theorem ik_bs_or (p : Nat → Bool) (n : Nat) : ik_bs p n ||| 2 ^ n = ik_bs p n + 2 ^ n := by
  have h := Nat.two_pow_add_eq_or_of_lt (ik_bs_lt p n) 1
  rw [Nat.mul_one] at h
  rw [Nat.or_comm, ← h, Nat.add_comm]
theorem ik_bs_bit (p : Nat → Bool) : ∀ (n j : Nat), (ik_bs p n).testBit j = (decide (j < n) && p j)
  | 0, j => by simp [ik_bs]
  | n + 1, j => by
    have h := ik_bs_bit p n j
    have e : ik_bs p (n + 1) = if p n = true then ik_bs p n ||| 2 ^ n else ik_bs p n := by
      show ik_bs p n + _ = _
      by_cases c : p n = true
      · rw [if_pos c, if_pos c, ik_bs_or]
      · rw [if_neg c, if_neg c]; rfl
    rw [e]
    by_cases c : p n = true
    · rw [if_pos c, Nat.testBit_or, h, Nat.testBit_two_pow]
      by_cases d : n = j
      · subst d; simp [c]
      · have : (j < n + 1) = (j < n) := by apply propext; omega
        simp [d, this]
    · rw [if_neg c, h]
      by_cases d : n = j
      · subst d; simp [c]
      · have : (j < n + 1) = (j < n) := by apply propext; omega
        simp [this]
theorem nI_or (a b : Nat) : nI a ||| nI b = nI (a ||| b) := by
  apply Int32.toBitVec_inj.mp
  show BitVec.ofNat 32 a ||| BitVec.ofNat 32 b = BitVec.ofNat 32 (a ||| b)
  rw [BitVec.ofNat_or]
def ik_ad (g : GG) (c : Nat → Bool) (N i : Nat) : GG := (fun a j => if a = 14 then (if j = N then nI (ik_bs c i) else if j < i ∧ c j = false then g.1 14 j ||| nI (2 ^ N) else g.1 14 j) else g.1 a j, g.2)
theorem ik_ad_0 (g : GG) (c : Nat → Bool) (N : Nat) : ik_ad g c N 0 = ik_si g 14 N 0 := by
  unfold ik_ad ik_si
  refine Prod.ext ?_ rfl
  funext a j
  by_cases e : a = 14
  · subst e
    by_cases e2 : j = N
    · simp [e2, ik_bs, nI_0]
    · simp [e2]
  · simp [e]
theorem ad_off {g : GG} {c : Nat → Bool} {N i a : Nat} (h : a ≠ 14) : (ik_ad g c N i).1 a = g.1 a := by
  funext j
  simp [ik_ad, h]
theorem ik_ad_y {g : GG} {c : Nat → Bool} {N i : Nat} (hi : i < N) (h : c i = true) : ik_si (ik_ad g c N i) 14 N ((ik_ad g c N i).1 14 N ||| nI (2 ^ i)) = ik_ad g c N (i + 1) := by
  unfold ik_ad ik_si
  refine Prod.ext ?_ rfl
  funext a j
  dsimp only
  by_cases e : a = 14
  · subst e
    by_cases e2 : j = N
    · subst e2
      simp only [and_self, if_true]
      rw [nI_or, ik_bs_or]
      show _ = nI (ik_bs c i + _)
      rw [if_pos h]
    · by_cases e3 : j = i
      · subst e3
        simp [e2, h]
      · have : (j < i + 1) = (j < i) := by apply propext; omega
        simp [e2, this]
  · simp [e]
theorem ik_ad_n {g : GG} {c : Nat → Bool} {N i : Nat} (hi : i < N) (h : c i = false) : ik_si (ik_ad g c N i) 14 i ((ik_ad g c N i).1 14 i ||| nI (2 ^ N)) = ik_ad g c N (i + 1) := by
  unfold ik_ad ik_si
  refine Prod.ext ?_ rfl
  funext a j
  dsimp only
  by_cases e : a = 14
  · subst e
    by_cases e2 : j = i
    · subst e2
      have : ¬ j = N := by omega
      simp [this, h]
    · by_cases e3 : j = N
      · subst e3
        simp [e2, ik_bs, h]
      · have : (j < i + 1) = (j < i) := by apply propext; omega
        simp [e2, e3, this]
  · simp [e]
theorem w_add6 {g : GG} {N n : Nat} (h24 : g.1 7 0 = nI 24) (hN : N < 24) (h6 : g.1 6 6 = nI N) (hl : ∀ i, i < N → ∃ l, l ≤ 12 ∧ g.1 9 i = nI l) (hn : n ≤ 12) (h9 : g.1 9 N = nI n) (s f t w : Int32) (Q : Value → GG → Prop) :
    wF fX6_add [.int s, .int f, .int t, .int w] g Q ↔ Q (.int (nI N)) (ik_si (ik_ad (ik_si (ik_si (ik_si (ik_si g 10 N s) 11 N f) 12 N t) 13 N w) (fun q => decide (ik_cn (g.1 9) (g.1 8) q N < 0)) N N) 6 6 (nI (N + 1))) := by
  refine wF_eq (eq_of_wF ?_) Q
  obtain ⟨y, hy⟩ : ∃ y, y = ik_si (ik_si (ik_si (ik_si g 10 N s) 11 N f) 12 N t) 13 N w := ⟨_, rfl⟩
  obtain ⟨c, hc⟩ : ∃ c : Nat → Bool, c = fun q => decide (ik_cn (g.1 9) (g.1 8) q N < 0) := ⟨_, rfl⟩
  rw [← hy, ← hc]
  have y6 : y.1 6 = g.1 6 := by rw [hy]; simp (decide := true) only [ik_si_row]
  have y7 : y.1 7 = g.1 7 := by rw [hy]; simp (decide := true) only [ik_si_row]
  have y8 : y.1 8 = g.1 8 := by rw [hy]; simp (decide := true) only [ik_si_row]
  have y9 : y.1 9 = g.1 9 := by rw [hy]; simp (decide := true) only [ik_si_row]
  have ix := ik_ix_nI (show N < 24 by omega) (by omega)
  have c8 : ¬ nI N < 0 := nI_pos (by omega)
  have c9 : ¬ 24 ≤ N := by omega
  have fF : ∀ Q : Value → GG → Prop, wF fX6_full [] g Q ↔ Q (.int (if 24 ≤ N then 1 else 0)) g := fun Q => w_full (M := 24) rfl (by omega) (by omega) h6 Q
  unfold fX6_add
  simp (decide := true) only [wE_lit, wL_lit, wE_loc, wL_loc, wE_add, wE_sub, wE_mul, wE_and, wE_or, wE_xor, wE_shl, wE_shr, wE_ushr, wE_div, wE_rem, wE_neg, wE_i2b, wE_l2i, wL_i2l, wL_add, wL_mul, wE_fld, wL_fld, wE_arr, wL_arr, wC_cmp, wC_cmp0, wC_cmpL, wC_and, wC_or, wC_not, wC_ite, wL_ite, wA_nil, wA_int, wA_long, wE_call, wL_call, wS_skip, wS_seq, wS_set, wS_setL, wS_inc, wS_if, wS_put, wS_putL, wS_putOp, wS_putOpL, wS_ast, wS_astL, wS_aop, wS_aopL, wS_ret, wS_retL, wS_retV, wS_do, wS_pop, wS_dead, wS_sw, wF_body, Nat.reduceAdd, Nat.zero_add, Bool.not_not, true_and, and_true, if_true, if_false, ↓reduceIte, eq_self, Value.int.injEq, Value.long.injEq, exists_eq_left', ik_b1, ik_b0, ik_bz0, ik_bz3, ik_bz3_1, ik_bz3_0, ik_cmp, ik_cmpL, ik_eI, ik_eL, ik_as, ik_i0, ik_i1, decide_eq_true_eq, decide_eq_false_iff_not, decide_true, decide_false, Bool.not_true, Bool.not_false, reduceCtorEq, forall_const, false_implies, true_implies, implies_true, true_and, and_true, and_self, false_and, and_false, Bool.and_true, Bool.true_and, not_true_eq_false, not_false_eq_true, if_true, if_false, ite_true, ite_false, ik_bz3_0, ik_bz3_1, ik_bz0, fF, c9, h6, c8, ix, Option.some.injEq, ik_si_row, ← hy, ← ik_ad_0 y c N]
  refine wS_for _ _ (fun k σ => σ.1 5 = nI k ∧ σ.2.2 = ik_ad y c N k) 0 N _ (by simp [upd, nI_0]) (by omega) (by omega) ?_ ?_ ?_
  · rintro k ⟨s1, s2, s3⟩ hk ⟨e1, e2⟩
    simp only at e1 e2
    subst e2
    exact wc_1 (n := N) (by show (ik_ad y c N k).1 6 6 = _; rw [ad_off (by decide), y6]; exact h6) (by omega) hk e1
  · rintro k ⟨s1, s2, s3⟩ hk ⟨e1, e2⟩
    simp only at e1 e2
    subst e2
    obtain ⟨l, l1, l2⟩ := hl k hk
    have a6 : (ik_ad y c N k).1 6 6 = nI N := by rw [ad_off (by decide), y6]; exact h6
    have a8 : (ik_ad y c N k).1 8 = g.1 8 := by rw [ad_off (by decide), y8]
    have a9 : (ik_ad y c N k).1 9 = g.1 9 := by rw [ad_off (by decide), y9]
    have f1 := w_compare7 (x := ik_ad y c N k) (i := k) (j := N) (by rw [ad_off (by decide), y7]; exact h24) (by omega) hN (ni := l) (nj := n) (by rw [a9]; exact l2) (by rw [a9]; exact h9) l1 hn
    rw [a8, a9] at f1
    have ec : c k = decide (ik_cn (g.1 9) (g.1 8) k N < 0) := by rw [hc]
    have p1 := nI_pow k (by omega)
    have p2 := nI_pow N (by omega)
    by_cases d : ik_cn (g.1 9) (g.1 8) k N < 0
    · rw [decide_eq_true d] at ec
      simp (decide := true) only [wE_lit, wL_lit, wE_loc, wL_loc, wE_add, wE_sub, wE_mul, wE_and, wE_or, wE_xor, wE_shl, wE_shr, wE_ushr, wE_div, wE_rem, wE_neg, wE_i2b, wE_l2i, wL_i2l, wL_add, wL_mul, wE_fld, wL_fld, wE_arr, wL_arr, wC_cmp, wC_cmp0, wC_cmpL, wC_and, wC_or, wC_not, wC_ite, wL_ite, wA_nil, wA_int, wA_long, wE_call, wL_call, wS_skip, wS_seq, wS_set, wS_setL, wS_inc, wS_if, wS_put, wS_putL, wS_putOp, wS_putOpL, wS_ast, wS_astL, wS_aop, wS_aopL, wS_ret, wS_retL, wS_retV, wS_do, wS_pop, wS_dead, wS_sw, wF_body, Nat.reduceAdd, Nat.zero_add, Bool.not_not, true_and, and_true, if_true, if_false, ↓reduceIte, eq_self, Value.int.injEq, Value.long.injEq, exists_eq_left', ik_b1, ik_b0, ik_bz0, ik_bz3, ik_bz3_1, ik_bz3_0, ik_cmp, ik_cmpL, ik_eI, ik_eL, ik_as, ik_i0, ik_i1, decide_eq_true_eq, decide_eq_false_iff_not, decide_true, decide_false, Bool.not_true, Bool.not_false, reduceCtorEq, forall_const, false_implies, true_implies, implies_true, true_and, and_true, and_self, false_and, and_false, Bool.and_true, Bool.true_and, not_true_eq_false, not_false_eq_true, if_true, if_false, ite_true, ite_false, ik_bz3_0, ik_bz3_1, ik_bz0, e1, a6, f1, d, upd_at, upd_off, nI_1, ix, Option.some.injEq, ik_bo, p1, p2, ik_ad_y hk ec]
    · rw [decide_eq_false d] at ec
      simp (decide := true) only [wE_lit, wL_lit, wE_loc, wL_loc, wE_add, wE_sub, wE_mul, wE_and, wE_or, wE_xor, wE_shl, wE_shr, wE_ushr, wE_div, wE_rem, wE_neg, wE_i2b, wE_l2i, wL_i2l, wL_add, wL_mul, wE_fld, wL_fld, wE_arr, wL_arr, wC_cmp, wC_cmp0, wC_cmpL, wC_and, wC_or, wC_not, wC_ite, wL_ite, wA_nil, wA_int, wA_long, wE_call, wL_call, wS_skip, wS_seq, wS_set, wS_setL, wS_inc, wS_if, wS_put, wS_putL, wS_putOp, wS_putOpL, wS_ast, wS_astL, wS_aop, wS_aopL, wS_ret, wS_retL, wS_retV, wS_do, wS_pop, wS_dead, wS_sw, wF_body, Nat.reduceAdd, Nat.zero_add, Bool.not_not, true_and, and_true, if_true, if_false, ↓reduceIte, eq_self, Value.int.injEq, Value.long.injEq, exists_eq_left', ik_b1, ik_b0, ik_bz0, ik_bz3, ik_bz3_1, ik_bz3_0, ik_cmp, ik_cmpL, ik_eI, ik_eL, ik_as, ik_i0, ik_i1, decide_eq_true_eq, decide_eq_false_iff_not, decide_true, decide_false, Bool.not_true, Bool.not_false, reduceCtorEq, forall_const, false_implies, true_implies, implies_true, true_and, and_true, and_self, false_and, and_false, Bool.and_true, Bool.true_and, not_true_eq_false, not_false_eq_true, if_true, if_false, ite_true, ite_false, ik_bz3_0, ik_bz3_1, ik_bz0, e1, a6, f1, d, upd_at, upd_off, nI_1, ik_ix_nI (show k < 24 by omega) (by omega), Option.some.injEq, ik_bo, p1, p2, ik_ad_n hk ec]
  · rintro ⟨s1, s2, s3⟩ ⟨e1, e2⟩
    simp only at e1 e2
    subst e2
    have a6 : (ik_ad y c N N).1 6 6 = nI N := by rw [ad_off (by decide), y6]; exact h6
    simp (decide := true) only [wE_lit, wL_lit, wE_loc, wL_loc, wE_add, wE_sub, wE_mul, wE_and, wE_or, wE_xor, wE_shl, wE_shr, wE_ushr, wE_div, wE_rem, wE_neg, wE_i2b, wE_l2i, wL_i2l, wL_add, wL_mul, wE_fld, wL_fld, wE_arr, wL_arr, wC_cmp, wC_cmp0, wC_cmpL, wC_and, wC_or, wC_not, wC_ite, wL_ite, wA_nil, wA_int, wA_long, wE_call, wL_call, wS_skip, wS_seq, wS_set, wS_setL, wS_inc, wS_if, wS_put, wS_putL, wS_putOp, wS_putOpL, wS_ast, wS_astL, wS_aop, wS_aopL, wS_ret, wS_retL, wS_retV, wS_do, wS_pop, wS_dead, wS_sw, wF_body, Nat.reduceAdd, Nat.zero_add, Bool.not_not, true_and, and_true, if_true, if_false, ↓reduceIte, eq_self, Value.int.injEq, Value.long.injEq, exists_eq_left', ik_b1, ik_b0, ik_bz0, ik_bz3, ik_bz3_1, ik_bz3_0, ik_cmp, ik_cmpL, ik_eI, ik_eL, ik_as, ik_i0, ik_i1, decide_eq_true_eq, decide_eq_false_iff_not, decide_true, decide_false, Bool.not_true, Bool.not_false, reduceCtorEq, forall_const, false_implies, true_implies, implies_true, true_and, and_true, and_self, false_and, and_false, Bool.and_true, Bool.true_and, not_true_eq_false, not_false_eq_true, if_true, if_false, ite_true, ite_false, ik_bz3_0, ik_bz3_1, ik_bz0, a6, Option.some.injEq, ik_bo, nI_1, ik_si_same, nI_pred]
