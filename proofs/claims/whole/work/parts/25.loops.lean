/-! loops that gather, loops that search -/
def ik_fd {α : Type} (f : Nat → α → α) (v : α) : Nat → α
  | 0 => v
  | n + 1 => f n (ik_fd f v n)
theorem ik_fd_congr {α : Type} {f f' : Nat → α → α} {v : α} : ∀ {n : Nat}, (∀ t a, t < n → f t a = f' t a) → ik_fd f v n = ik_fd f' v n
  | 0, _ => rfl
  | n + 1, h => by
    show f n _ = f' n _
    rw [h n _ (by omega), ik_fd_congr (n := n) (fun t a ht => h t a (by omega))]
theorem wS_fd {Z : SS → Prop} {R : Value → GG → Prop} (c : SS → Option (Bool × GG)) (b : ST) (f : Nat → Int32 → Int32) (v : Int32) (n i r : Nat) (s : SS) (hf : n < 1000000) (hi : s.1 i = 0) (hr : s.1 r = v) 
    (hc : ∀ t s1, t ≤ n → s1 i = nI t → wC c (s1, s.2) (fun b g => b = decide (t < n) ∧ g = s.2.2))
    (hb : ∀ t s1, t < n → s1 i = nI t → (∀ k, k ≠ i → k ≠ r → s1 k = s.1 k) → wS b (s1, s.2) (fun σ => σ.1 i = nI (t + 1) ∧ σ.1 r = f t (s1 r) ∧ (∀ k, k ≠ i → k ≠ r → σ.1 k = s1 k) ∧ σ.2 = s.2) R)
    (hx : ∀ s1, s1 i = nI n → s1 r = ik_fd f v n → (∀ k, k ≠ i → k ≠ r → s1 k = s.1 k) → Z (s1, s.2)) : wS (sWh c b ik_fuel) s Z R := by
  refine wS_for c b (fun t σ => σ.1 i = nI t ∧ σ.1 r = ik_fd f v t ∧ (∀ k, k ≠ i → k ≠ r → σ.1 k = s.1 k) ∧ σ.2 = s.2) 0 n s ⟨by rw [hi]; rfl, hr, fun _ _ _ => rfl, rfl⟩ (by omega) hf ?_ ?_ ?_
  · rintro t ⟨s1, s2⟩ ht ⟨h1, h2, h3, h4⟩
    cases h4
    exact hc t s1 ht h1
  · rintro t ⟨s1, s2⟩ ht ⟨h1, h2, h3, h4⟩
    cases h4
    refine wS_mono (hb t s1 ht h1 h3) (fun σ h => ⟨h.1, ?_, fun k k1 k2 => ?_, h.2.2.2⟩) (fun _ _ h => h)
    · rw [h.2.1]
      show f t (s1 r) = f t (ik_fd f v t)
      rw [← h2]
    · rw [h.2.2.1 k k1 k2]
      exact h3 k k1 k2
  · rintro ⟨s1, s2⟩ ⟨h1, h2, h3, h4⟩
    cases h4
    exact hx s1 h1 h2 h3
theorem wS_find {Z : SS → Prop} {R : Value → GG → Prop} (c : SS → Option (Bool × GG)) (b : ST) (p : Nat → Bool) (n i : Nat) (s : SS) (hf : n < 1000000) (hi : s.1 i = 0)
    (hc : ∀ t s1, t ≤ n → s1 i = nI t → wC c (s1, s.2) (fun b g => b = decide (t < n) ∧ g = s.2.2))
    (hb : ∀ t s1, t < n → s1 i = nI t → (∀ k, k ≠ i → s1 k = s.1 k) → (∀ q, q < t → p q = false) → wS b (s1, s.2) (fun σ => p t = false ∧ σ.1 i = nI (t + 1) ∧ (∀ k, k ≠ i → σ.1 k = s1 k) ∧ σ.2 = s.2) R)
    (hx : ∀ s1, s1 i = nI n → (∀ k, k ≠ i → s1 k = s.1 k) → (∀ q, q < n → p q = false) → Z (s1, s.2)) : wS (sWh c b ik_fuel) s Z R := by
  refine wS_for c b (fun t σ => σ.1 i = nI t ∧ (∀ q, q < t → p q = false) ∧ (∀ k, k ≠ i → σ.1 k = s.1 k) ∧ σ.2 = s.2) 0 n s ⟨by rw [hi]; rfl, fun q hq => by omega, fun _ _ => rfl, rfl⟩ (by omega) hf ?_ ?_ ?_
  · rintro t ⟨s1, s2⟩ ht ⟨h1, h2, h3, h4⟩
    cases h4
    exact hc t s1 ht h1
  · rintro t ⟨s1, s2⟩ ht ⟨h1, h2, h3, h4⟩
    cases h4
    refine wS_mono (hb t s1 ht h1 h3 h2) (fun σ h => ⟨h.2.1, fun q hq => ?_, fun k k1 => ?_, h.2.2.2⟩) (fun _ _ h => h)
    · by_cases e : q = t
      · rw [e]; exact h.1
      · exact h2 q (by omega)
    · rw [h.2.2.1 k k1]
      exact h3 k k1
  · rintro ⟨s1, s2⟩ ⟨h1, h2, h3, h4⟩
    cases h4
    exact hx s1 h1 h3 h2
/-- the heads of the two sides' loops -/
theorem wc_X {i o k M n t : Nat} {s1 : Nat → Int32} {s2 : (Nat → Int64) × GG} (hg : s2.2.1 o k = nI n) (hn : n ≤ M) (hM : M < 2 ^ 31) (ht : t ≤ n) (h : s1 i = nI t) : wC (sAnd (sCmp 2 (sLoc i) (sFld o k)) (sCmp 2 (sLoc i) (sLit (nI M)))) (s1, s2) (fun b g => b = decide (t < n) ∧ g = s2.2) := by
  simp (decide := true) only [wE_lit, wL_lit, wE_loc, wL_loc, wE_add, wE_sub, wE_mul, wE_and, wE_or, wE_xor, wE_shl, wE_shr, wE_ushr, wE_div, wE_rem, wE_neg, wE_i2b, wE_l2i, wL_i2l, wL_add, wL_mul, wE_fld, wL_fld, wE_arr, wL_arr, wC_cmp, wC_cmp0, wC_cmpL, wC_and, wC_or, wC_not, wC_ite, wL_ite, wA_nil, wA_int, wA_long, wE_call, wL_call, wS_skip, wS_seq, wS_set, wS_setL, wS_inc, wS_if, wS_put, wS_putL, wS_putOp, wS_putOpL, wS_ast, wS_astL, wS_aop, wS_aopL, wS_ret, wS_retL, wS_retV, wS_do, wS_pop, wS_dead, wS_sw, wF_body, Nat.reduceAdd, Nat.zero_add, Bool.not_not, true_and, and_true, if_true, if_false, ↓reduceIte, eq_self, Value.int.injEq, Value.long.injEq, exists_eq_left', ik_b1, ik_b0, ik_bz0, ik_bz3, ik_bz3_1, ik_bz3_0, ik_cmp, ik_cmpL, ik_eI, ik_eL, ik_as, ik_i0, ik_i1, decide_eq_true_eq, decide_eq_false_iff_not, decide_true, decide_false, Bool.not_true, Bool.not_false, reduceCtorEq, forall_const, false_implies, true_implies, implies_true, true_and, and_true, and_self, false_and, and_false, Bool.and_true, Bool.true_and, not_true_eq_false, not_false_eq_true, if_true, if_false, ite_true, ite_false, ik_bz3_0, ik_bz3_1, ik_bz0, h, hg, nI_ltI (show t < 2 ^ 31 by omega) (show n < 2 ^ 31 by omega), nI_ltI (show t < 2 ^ 31 by omega) hM]
  by_cases h1 : t < n
  · have h2 : t < M := by omega
    simp [h1, h2]
  · simp [h1]
theorem wc_1 {i o k n t : Nat} {s1 : Nat → Int32} {s2 : (Nat → Int64) × GG} (hg : s2.2.1 o k = nI n) (hn : n < 2 ^ 31) (ht : t ≤ n) (h : s1 i = nI t) : wC (sCmp 2 (sLoc i) (sFld o k)) (s1, s2) (fun b g => b = decide (t < n) ∧ g = s2.2) := by
  simp (decide := true) only [wE_lit, wL_lit, wE_loc, wL_loc, wE_add, wE_sub, wE_mul, wE_and, wE_or, wE_xor, wE_shl, wE_shr, wE_ushr, wE_div, wE_rem, wE_neg, wE_i2b, wE_l2i, wL_i2l, wL_add, wL_mul, wE_fld, wL_fld, wE_arr, wL_arr, wC_cmp, wC_cmp0, wC_cmpL, wC_and, wC_or, wC_not, wC_ite, wL_ite, wA_nil, wA_int, wA_long, wE_call, wL_call, wS_skip, wS_seq, wS_set, wS_setL, wS_inc, wS_if, wS_put, wS_putL, wS_putOp, wS_putOpL, wS_ast, wS_astL, wS_aop, wS_aopL, wS_ret, wS_retL, wS_retV, wS_do, wS_pop, wS_dead, wS_sw, wF_body, Nat.reduceAdd, Nat.zero_add, Bool.not_not, true_and, and_true, if_true, if_false, ↓reduceIte, eq_self, Value.int.injEq, Value.long.injEq, exists_eq_left', ik_b1, ik_b0, ik_bz0, ik_bz3, ik_bz3_1, ik_bz3_0, ik_cmp, ik_cmpL, ik_eI, ik_eL, ik_as, ik_i0, ik_i1, decide_eq_true_eq, decide_eq_false_iff_not, decide_true, decide_false, Bool.not_true, Bool.not_false, reduceCtorEq, forall_const, false_implies, true_implies, implies_true, true_and, and_true, and_self, false_and, and_false, Bool.and_true, Bool.true_and, not_true_eq_false, not_false_eq_true, if_true, if_false, ite_true, ite_false, ik_bz3_0, ik_bz3_1, ik_bz0, h, hg, nI_ltI (show t < 2 ^ 31 by omega) hn]
theorem wc_L {i n t : Nat} {s1 : Nat → Int32} {s2 : (Nat → Int64) × GG} (hn : n < 2 ^ 31) (ht : t ≤ n) (h : s1 i = nI t) : wC (sCmp 2 (sLoc i) (sLit (nI n))) (s1, s2) (fun b g => b = decide (t < n) ∧ g = s2.2) := by
  simp (decide := true) only [wE_lit, wL_lit, wE_loc, wL_loc, wE_add, wE_sub, wE_mul, wE_and, wE_or, wE_xor, wE_shl, wE_shr, wE_ushr, wE_div, wE_rem, wE_neg, wE_i2b, wE_l2i, wL_i2l, wL_add, wL_mul, wE_fld, wL_fld, wE_arr, wL_arr, wC_cmp, wC_cmp0, wC_cmpL, wC_and, wC_or, wC_not, wC_ite, wL_ite, wA_nil, wA_int, wA_long, wE_call, wL_call, wS_skip, wS_seq, wS_set, wS_setL, wS_inc, wS_if, wS_put, wS_putL, wS_putOp, wS_putOpL, wS_ast, wS_astL, wS_aop, wS_aopL, wS_ret, wS_retL, wS_retV, wS_do, wS_pop, wS_dead, wS_sw, wF_body, Nat.reduceAdd, Nat.zero_add, Bool.not_not, true_and, and_true, if_true, if_false, ↓reduceIte, eq_self, Value.int.injEq, Value.long.injEq, exists_eq_left', ik_b1, ik_b0, ik_bz0, ik_bz3, ik_bz3_1, ik_bz3_0, ik_cmp, ik_cmpL, ik_eI, ik_eL, ik_as, ik_i0, ik_i1, decide_eq_true_eq, decide_eq_false_iff_not, decide_true, decide_false, Bool.not_true, Bool.not_false, reduceCtorEq, forall_const, false_implies, true_implies, implies_true, true_and, and_true, and_self, false_and, and_false, Bool.and_true, Bool.true_and, not_true_eq_false, not_false_eq_true, if_true, if_false, ite_true, ite_false, ik_bz3_0, ik_bz3_1, ik_bz0, h, nI_ltI (show t < 2 ^ 31 by omega) hn]
theorem upd_at (s : Nat → Int32) (k : Nat) (v : Int32) : upd s k v k = v := by simp [upd]
theorem upd_off (s : Nat → Int32) (k j : Nat) (v : Int32) (h : j ≠ k) : upd s k v j = s j := by simp [upd, h]
theorem upd_off2 {s : Nat → Int32} {i r k : Nat} {v w : Int32} (h : k ≠ i) (h2 : k ≠ r) : upd (upd s r v) i w k = s k := by simp [upd, h, h2]
theorem nI_pow : ∀ n, n < 31 → (1 : Int32) <<< (nI n &&& 31) = nI (2 ^ n) := by decide
