/-! numbers; what the smallest methods answer -/
theorem eq_of_wF {f : FF} {vs : List Value} {g : GG} {v : Value} {g' : GG} (h : wF f vs g (fun w u => w = v ∧ u = g')) : f vs g = some (v, g') := by
  obtain ⟨w, u, e, rfl, rfl⟩ := h
  exact e
theorem ik_bz0 (x : Int32) : ik_bz 0 x = true := rfl
theorem ik_bz3 (c : Prop) [Decidable c] : ik_bz 3 (if c then 1 else 0) = true := by split <;> rfl
theorem ik_bz3_1 : ik_bz 3 1 = true := rfl
theorem ik_bz3_0 : ik_bz 3 0 = true := rfl
theorem ik_si_same (g : GG) (a j : Nat) (x : Int32) : (ik_si g a j x).1 a j = x := by simp [ik_si]
theorem ik_si_row (g : GG) (a b j : Nat) (x : Int32) (h : b ≠ a) : (ik_si g a j x).1 b = g.1 b := by funext k; simp [ik_si, h]
theorem ik_si_ne (g : GG) (a j k : Nat) (x : Int32) (h : k ≠ j) : (ik_si g a j x).1 a k = g.1 a k := by simp [ik_si, h]
theorem ik_si_2 (g : GG) (a j : Nat) (x : Int32) : (ik_si g a j x).2 = g.2 := rfl
theorem ik_si_self (g : GG) (a j : Nat) (x : Int32) : (ik_si g a j x).1 a = upd (g.1 a) j x := by funext k; simp [ik_si, upd]
theorem ik_sl_1 (g : GG) (a j : Nat) (x : Int64) : (ik_sl g a j x).1 = g.1 := rfl
theorem ik_sl_same (g : GG) (a j : Nat) (x : Int64) : (ik_sl g a j x).2 a j = x := by simp [ik_sl]
theorem ik_sl_row (g : GG) (a b j : Nat) (x : Int64) (h : b ≠ a) : (ik_sl g a j x).2 b = g.2 b := by funext k; simp [ik_sl, h]
theorem ik_ix_nI {j n : Nat} (h : j < n) (hn : n < 2 ^ 31) : ik_ix (nI j) n = some j := by
  unfold ik_ix
  rw [if_neg (nI_in h hn), nI_clamp (by omega)]
theorem i64_le (x y : Int32) : x.toInt64 ≤ y.toInt64 ↔ x ≤ y := by
  rw [Int64.le_iff_toInt_le, Int32.le_iff_toInt_le, Int32.toInt_toInt64, Int32.toInt_toInt64]
theorem l64_0 : (0 : Int64) = (0 : Int32).toInt64 := rfl
theorem l64_1 : (1 : Int64) = (1 : Int32).toInt64 := rfl
theorem l64_2 : (2 : Int64) = (2 : Int32).toInt64 := rfl
theorem l64_3 : (3 : Int64) = (3 : Int32).toInt64 := rfl
theorem l64_7 : (7 : Int64) = (7 : Int32).toInt64 := rfl
theorem l64_12 : (12 : Int64) = (12 : Int32).toInt64 := rfl
theorem l64_19 : (19 : Int64) = (19 : Int32).toInt64 := rfl
theorem l64_20 : (20 : Int64) = (20 : Int32).toInt64 := rfl
theorem l64_23 : (23 : Int64) = (23 : Int32).toInt64 := rfl
theorem l64_24 : (24 : Int64) = (24 : Int32).toInt64 := rfl
theorem l64_26 : (26 : Int64) = (26 : Int32).toInt64 := rfl
theorem l64_29 : (29 : Int64) = (29 : Int32).toInt64 := rfl
theorem l64_40 : (40 : Int64) = (40 : Int32).toInt64 := rfl
theorem l64_50 : (50 : Int64) = (50 : Int32).toInt64 := rfl
theorem l64_60 : (60 : Int64) = (60 : Int32).toInt64 := rfl
theorem l64_63 : (63 : Int64) = (63 : Int32).toInt64 := rfl
theorem l64_100 : (100 : Int64) = (100 : Int32).toInt64 := rfl
theorem l64_160 : (160 : Int64) = (160 : Int32).toInt64 := rfl
theorem l64_199 : (199 : Int64) = (199 : Int32).toInt64 := rfl
theorem l64_255 : (255 : Int64) = (255 : Int32).toInt64 := rfl
theorem l64_1000 : (1000 : Int64) = (1000 : Int32).toInt64 := rfl
theorem l64_3000 : (3000 : Int64) = (3000 : Int32).toInt64 := rfl
theorem l64_5000 : (5000 : Int64) = (5000 : Int32).toInt64 := rfl
theorem l64_9999 : (9999 : Int64) = (9999 : Int32).toInt64 := rfl
theorem i64_n20 : -(Int32.toInt64 20) = Int32.toInt64 (-20) := rfl
theorem i64_n1 : -(Int32.toInt64 1) = Int32.toInt64 (-1) := rfl
theorem l64_m1 : (-1 : Int64) = (-1 : Int32).toInt64 := rfl
theorem l64_m20 : (-20 : Int64) = (-20 : Int32).toInt64 := rfl
theorem ik_b1 (c : Prop) [Decidable c] : (!decide ((if c then (1 : Int32) else 0) = 0)) = decide c := by by_cases h : c <;> simp [h]
theorem ik_b0 (c : Prop) [Decidable c] : (decide ((if c then (1 : Int32) else 0) = 0)) = !decide c := by by_cases h : c <;> simp [h]
theorem ik_i0 (c : Prop) [Decidable c] : ((if c then (1 : Int32) else 0) = 0) ↔ ¬ c := by by_cases h : c <;> simp [h]
theorem ik_i1 (c : Prop) [Decidable c] : ((if c then (1 : Int32) else 0) = 1) ↔ c := by by_cases h : c <;> simp [h]
/-- whether a number lies between two -/
theorem v_lies (a b c : Int32) (g : GG) : fX12_lies [.long a.toInt64, .long b.toInt64, .long c.toInt64] g = some (.int (if b ≤ a ∧ a ≤ c then 1 else 0), g) := by
  apply eq_of_wF
  unfold fX12_lies
  simp (decide := true) only [wE_lit, wL_lit, wE_loc, wL_loc, wE_add, wE_sub, wE_mul, wE_and, wE_or, wE_xor, wE_shl, wE_shr, wE_ushr, wE_div, wE_rem, wE_neg, wE_i2b, wE_l2i, wL_i2l, wL_add, wL_mul, wE_fld, wL_fld, wE_arr, wL_arr, wC_cmp, wC_cmp0, wC_cmpL, wC_and, wC_or, wC_not, wC_ite, wL_ite, wA_nil, wA_int, wA_long, wE_call, wL_call, wS_skip, wS_seq, wS_set, wS_setL, wS_inc, wS_if, wS_put, wS_putL, wS_putOp, wS_putOpL, wS_ast, wS_astL, wS_aop, wS_aopL, wS_ret, wS_retL, wS_retV, wS_do, wS_pop, wS_dead, wS_sw, wF_body, Nat.reduceAdd, Nat.zero_add, Bool.not_not, true_and, and_true, if_true, if_false, ↓reduceIte, eq_self, Value.int.injEq, Value.long.injEq, exists_eq_left', ik_b1, ik_b0, ik_bz0, ik_bz3, ik_bz3_1, ik_bz3_0, ik_cmp, ik_cmpL, ik_eI, ik_eL, ik_as, wE_ite2, i64_le, decide_eq_true_eq, decide_eq_false_iff_not]
  by_cases h1 : b ≤ a <;> by_cases h2 : a ≤ c <;> simp [h1, h2, ik_bz]
theorem v_within (a b c : Int32) (g : GG) : fX11_within [.int a, .int b, .int c] g = some (.int (if b ≤ a ∧ a ≤ c then 1 else 0), g) := by
  apply eq_of_wF
  unfold fX11_within
  simp (decide := true) only [wE_lit, wL_lit, wE_loc, wL_loc, wE_add, wE_sub, wE_mul, wE_and, wE_or, wE_xor, wE_shl, wE_shr, wE_ushr, wE_div, wE_rem, wE_neg, wE_i2b, wE_l2i, wL_i2l, wL_add, wL_mul, wE_fld, wL_fld, wE_arr, wL_arr, wC_cmp, wC_cmp0, wC_cmpL, wC_and, wC_or, wC_not, wC_ite, wL_ite, wA_nil, wA_int, wA_long, wE_call, wL_call, wS_skip, wS_seq, wS_set, wS_setL, wS_inc, wS_if, wS_put, wS_putL, wS_putOp, wS_putOpL, wS_ast, wS_astL, wS_aop, wS_aopL, wS_ret, wS_retL, wS_retV, wS_do, wS_pop, wS_dead, wS_sw, wF_body, Nat.reduceAdd, Nat.zero_add, Bool.not_not, true_and, and_true, if_true, if_false, ↓reduceIte, eq_self, Value.int.injEq, Value.long.injEq, exists_eq_left', ik_b1, ik_b0, ik_bz0, ik_bz3, ik_bz3_1, ik_bz3_0, ik_cmp, ik_cmpL, ik_eI, ik_eL, ik_as, wE_ite2, decide_eq_true_eq, decide_eq_false_iff_not]
  by_cases h1 : b ≤ a <;> by_cases h2 : a ≤ c <;> simp [h1, h2, ik_bz]
theorem w_lies (a b c : Int32) (g : GG) (Q : Value → GG → Prop) : wF fX12_lies [.long a.toInt64, .long b.toInt64, .long c.toInt64] g Q ↔ Q (.int (if b ≤ a ∧ a ≤ c then 1 else 0)) g := wF_eq (v_lies a b c g) Q
theorem w_within (a b c : Int32) (g : GG) (Q : Value → GG → Prop) : wF fX11_within [.int a, .int b, .int c] g Q ↔ Q (.int (if b ≤ a ∧ a ≤ c then 1 else 0)) g := wF_eq (v_within a b c g) Q
theorem nI_of3 {x : Int32} {a : Nat} (ha : a < 2 ^ 31) (h0 : 0 ≤ x) (h : x ≤ nI a) : ∃ k, k ≤ a ∧ x = nI k := by
  obtain ⟨j, h1, h2⟩ := nI_of (x := x) (by rw [Int32.not_lt]; exact h0)
  subst h2
  exact ⟨j, (nI_leI h1 ha).mp h, rfl⟩
/-- letters -/
def rL (xw xj mw mj : Nat → Int32) : Prop := (∀ k, k < 27 → xw k = mw k ∧ 1 ≤ mw k ∧ mw k ≤ 60) ∧ (∀ k, k < 729 → xj k = mj k ∧ -20 ≤ mj k ∧ mj k ≤ 20) ∧ ∀ k, k < 27 → mj k = 0
theorem x_changed (g : GG) : fX11_changed [] g = some (.null, ik_si g 0 13 0) := by
  apply eq_of_wF
  unfold fX11_changed
  simp (decide := true) only [wE_lit, wL_lit, wE_loc, wL_loc, wE_add, wE_sub, wE_mul, wE_and, wE_or, wE_xor, wE_shl, wE_shr, wE_ushr, wE_div, wE_rem, wE_neg, wE_i2b, wE_l2i, wL_i2l, wL_add, wL_mul, wE_fld, wL_fld, wE_arr, wL_arr, wC_cmp, wC_cmp0, wC_cmpL, wC_and, wC_or, wC_not, wC_ite, wL_ite, wA_nil, wA_int, wA_long, wE_call, wL_call, wS_skip, wS_seq, wS_set, wS_setL, wS_inc, wS_if, wS_put, wS_putL, wS_putOp, wS_putOpL, wS_ast, wS_astL, wS_aop, wS_aopL, wS_ret, wS_retL, wS_retV, wS_do, wS_pop, wS_dead, wS_sw, wF_body, Nat.reduceAdd, Nat.zero_add, Bool.not_not, true_and, and_true, if_true, if_false, ↓reduceIte, eq_self, Value.int.injEq, Value.long.injEq, exists_eq_left', ik_b1, ik_b0, ik_bz0, ik_bz3, ik_bz3_1, ik_bz3_0, ik_cmp, ik_cmpL, ik_eI, ik_eL, ik_as]
theorem x_setWide (k : Nat) (hk : k < 27) (n : Int32) (g : GG) : fX4_setWide [.int (nI k), .int n] g = some (.null, ik_si g 4 k n) := by
  apply eq_of_wF
  unfold fX4_setWide
  have h1 : 0 ≤ nI k := nI_pos' (by omega)
  have h2 : nI k < nI 27 := nI_lt hk (by omega)
  simp (decide := true) only [wE_lit, wL_lit, wE_loc, wL_loc, wE_add, wE_sub, wE_mul, wE_and, wE_or, wE_xor, wE_shl, wE_shr, wE_ushr, wE_div, wE_rem, wE_neg, wE_i2b, wE_l2i, wL_i2l, wL_add, wL_mul, wE_fld, wL_fld, wE_arr, wL_arr, wC_cmp, wC_cmp0, wC_cmpL, wC_and, wC_or, wC_not, wC_ite, wL_ite, wA_nil, wA_int, wA_long, wE_call, wL_call, wS_skip, wS_seq, wS_set, wS_setL, wS_inc, wS_if, wS_put, wS_putL, wS_putOp, wS_putOpL, wS_ast, wS_astL, wS_aop, wS_aopL, wS_ret, wS_retL, wS_retV, wS_do, wS_pop, wS_dead, wS_sw, wF_body, Nat.reduceAdd, Nat.zero_add, Bool.not_not, true_and, and_true, if_true, if_false, ↓reduceIte, eq_self, Value.int.injEq, Value.long.injEq, exists_eq_left', ik_b1, ik_b0, ik_bz0, ik_bz3, ik_bz3_1, ik_bz3_0, ik_cmp, ik_cmpL, ik_eI, ik_eL, ik_as]
  simp [h1, show (27 : Int32) = nI 27 from rfl, h2, ik_ix_nI hk (by omega)]
theorem w_changed (g : GG) (Q : Value → GG → Prop) : wF fX11_changed [] g Q ↔ Q .null (ik_si g 0 13 0) := wF_eq (x_changed g) Q
theorem w_setWide (k : Nat) (hk : k < 27) (n : Int32) (g : GG) (Q : Value → GG → Prop) : wF fX4_setWide [.int (nI k), .int n] g Q ↔ Q .null (ik_si g 4 k n) := wF_eq (x_setWide k hk n g) Q
