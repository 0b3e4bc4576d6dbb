/-! where a sheet is set in lines -/
def acr (w : Nat → Int32) (bl wd : Int32) : Nat → Int32
  | 0 => 0
  | t + 1 => if t = 0 ∨ wd < acr w bl wd t + bl + w t then w t else acr w bl wd t + bl + w t
def bgB (w : Nat → Int32) (bl wd : Int32) (t : Nat) : Bool := decide (t = 0 ∨ wd < acr w bl wd t + bl + w t)
theorem acr_s (w : Nat → Int32) (bl wd : Int32) (t : Nat) : acr w bl wd (t + 1) = if bgB w bl wd t = true then w t else acr w bl wd t + bl + w t := by
  unfold bgB
  simp only [decide_eq_true_eq]
  rfl
def bgS (m : GG) (u : Nat → Nat) (s t : Nat) : Bool := bgB (tokw m u s) (m.1 2 0) (m.1 13 s) t
def bgc (p : Nat → Bool) : Nat → Nat
  | 0 => 0
  | t + 1 => bgc p t + (if p t = true then 1 else 0)
theorem bgc_le (p : Nat → Bool) (t : Nat) : bgc p t ≤ t := by
  induction t with
  | zero => exact Nat.le_refl _
  | succ t ih => unfold bgc; split <;> omega
theorem bgc_mono (p : Nat → Bool) {a b : Nat} (h : a ≤ b) : bgc p a ≤ bgc p b := by
  induction b with
  | zero => rw [show a = 0 by omega]; exact Nat.le_refl _
  | succ b ih =>
    by_cases e : a = b + 1
    · rw [e]; exact Nat.le_refl _
    · have := ih (by omega)
      show _ ≤ bgc p b + _
      omega
theorem w_wide8 {x m : GG} {S B : Nat} (h : rS x m S B) {s : Nat} (hs : s < S) (Q : Value → GG → Prop) : wF fX8_wide [.int (nI s)] x Q ↔ Q (.int (m.1 13 s)) x := by
  refine wF_eq (eq_of_wF ?_) Q
  have hS := h.1
  obtain ⟨e1, -⟩ := h.2.2.2.2.1 s hs
  unfold fX8_wide
  simp (decide := true) only [wE_lit, wL_lit, wE_loc, wL_loc, wE_add, wE_sub, wE_mul, wE_and, wE_or, wE_xor, wE_shl, wE_shr, wE_ushr, wE_div, wE_rem, wE_neg, wE_i2b, wE_l2i, wL_i2l, wL_add, wL_mul, wE_fld, wL_fld, wE_arr, wL_arr, wC_cmp, wC_cmp0, wC_cmpL, wC_and, wC_or, wC_not, wC_ite, wL_ite, wA_nil, wA_int, wA_long, wE_call, wL_call, wS_skip, wS_seq, wS_set, wS_setL, wS_inc, wS_if, wS_put, wS_putL, wS_putOp, wS_putOpL, wS_ast, wS_astL, wS_aop, wS_aopL, wS_ret, wS_retL, wS_retV, wS_do, wS_pop, wS_dead, wS_sw, wF_body, Nat.reduceAdd, Nat.zero_add, Bool.not_not, true_and, and_true, if_true, if_false, ↓reduceIte, eq_self, Value.int.injEq, Value.long.injEq, exists_eq_left', ik_b1, ik_b0, ik_bz0, ik_bz3, ik_bz3_1, ik_bz3_0, ik_cmp, ik_cmpL, ik_eI, ik_eL, ik_as, ik_i0, ik_i1, decide_eq_true_eq, decide_eq_false_iff_not, decide_true, decide_false, Bool.not_true, Bool.not_false, reduceCtorEq, forall_const, false_implies, true_implies, implies_true, true_and, and_true, and_self, false_and, and_false, Bool.and_true, Bool.true_and, not_true_eq_false, not_false_eq_true, if_true, if_false, ite_true, ite_false, ik_bz3_0, ik_bz3_1, ik_bz0, wE_ite, w_sheetHas h.2.1 h.1, isI, isI_nI (show S < 2 ^ 31 by omega) hs, ik_ix_nI (show s < 6 by omega) (by omega), Option.some.injEq, e1]
theorem w_barAt {x m : GG} {S B : Nat} (h : rS x m S B) {s t n : Nat} (hs : s < S) (e : m.1 14 s = nI n) (hn : n ≤ 24) (ht : t < n) (Q : Value → GG → Prop) : wF fX8_barAt [.int (nI s), .int (nI t)] x Q ↔ Q (.int (x.1 29 (24 * s + t))) x := by
  refine wF_eq (eq_of_wF ?_) Q
  have hS := h.1
  obtain ⟨n', n1, n2, n3, n4, n5⟩ := h.tok hs
  have en : n = n' := (nI_eq (by omega) (by omega)).mp (e.symm.trans n4)
  subst en
  unfold fX8_barAt
  simp (decide := true) only [wE_lit, wL_lit, wE_loc, wL_loc, wE_add, wE_sub, wE_mul, wE_and, wE_or, wE_xor, wE_shl, wE_shr, wE_ushr, wE_div, wE_rem, wE_neg, wE_i2b, wE_l2i, wL_i2l, wL_add, wL_mul, wE_fld, wL_fld, wE_arr, wL_arr, wC_cmp, wC_cmp0, wC_cmpL, wC_and, wC_or, wC_not, wC_ite, wL_ite, wA_nil, wA_int, wA_long, wE_call, wL_call, wS_skip, wS_seq, wS_set, wS_setL, wS_inc, wS_if, wS_put, wS_putL, wS_putOp, wS_putOpL, wS_ast, wS_astL, wS_aop, wS_aopL, wS_ret, wS_retL, wS_retV, wS_do, wS_pop, wS_dead, wS_sw, wF_body, Nat.reduceAdd, Nat.zero_add, Bool.not_not, true_and, and_true, if_true, if_false, ↓reduceIte, eq_self, Value.int.injEq, Value.long.injEq, exists_eq_left', ik_b1, ik_b0, ik_bz0, ik_bz3, ik_bz3_1, ik_bz3_0, ik_cmp, ik_cmpL, ik_eI, ik_eL, ik_as, ik_i0, ik_i1, decide_eq_true_eq, decide_eq_false_iff_not, decide_true, decide_false, Bool.not_true, Bool.not_false, reduceCtorEq, forall_const, false_implies, true_implies, implies_true, true_and, and_true, and_self, false_and, and_false, Bool.and_true, Bool.true_and, not_true_eq_false, not_false_eq_true, if_true, if_false, ite_true, ite_false, ik_bz3_0, ik_bz3_1, ik_bz0, wE_ite, w_stands hS h.2.1 hs n2 n3 ht, w_slot, ik_ix_nI (show 24 * s + t < 144 by omega) (by omega), Option.some.injEq]
theorem wc_toks {x m : GG} {S B s n k i j : Nat} (h : rS x m S B) (hs : s < S) (e : m.1 14 s = nI n) (hn : n ≤ 24) (hk : k ≤ n) {s1 : Nat → Int32} {s2 : Nat → Int64} (hi : s1 i = nI k) (hj : s1 j = nI s) : wC (sAnd (sCmp 2 (sLoc i) (sCall fX8_tokens (sArgI (sLoc j) sNil))) (sCmp 2 (sLoc i) (sLit 24))) (s1, s2, x) (fun b g => b = decide (k < n) ∧ g = x) := by
  simp (decide := true) only [wE_lit, wL_lit, wE_loc, wL_loc, wE_add, wE_sub, wE_mul, wE_and, wE_or, wE_xor, wE_shl, wE_shr, wE_ushr, wE_div, wE_rem, wE_neg, wE_i2b, wE_l2i, wL_i2l, wL_add, wL_mul, wE_fld, wL_fld, wE_arr, wL_arr, wC_cmp, wC_cmp0, wC_cmpL, wC_and, wC_or, wC_not, wC_ite, wL_ite, wA_nil, wA_int, wA_long, wE_call, wL_call, wS_skip, wS_seq, wS_set, wS_setL, wS_inc, wS_if, wS_put, wS_putL, wS_putOp, wS_putOpL, wS_ast, wS_astL, wS_aop, wS_aopL, wS_ret, wS_retL, wS_retV, wS_do, wS_pop, wS_dead, wS_sw, wF_body, Nat.reduceAdd, Nat.zero_add, Bool.not_not, true_and, and_true, if_true, if_false, ↓reduceIte, eq_self, Value.int.injEq, Value.long.injEq, exists_eq_left', ik_b1, ik_b0, ik_bz0, ik_bz3, ik_bz3_1, ik_bz3_0, ik_cmp, ik_cmpL, ik_eI, ik_eL, ik_as, ik_i0, ik_i1, decide_eq_true_eq, decide_eq_false_iff_not, decide_true, decide_false, Bool.not_true, Bool.not_false, reduceCtorEq, forall_const, false_implies, true_implies, implies_true, true_and, and_true, and_self, false_and, and_false, Bool.and_true, Bool.true_and, not_true_eq_false, not_false_eq_true, if_true, if_false, ite_true, ite_false, ik_bz3_0, ik_bz3_1, ik_bz0, hi, hj, w_tokens h hs, e, nI_ltI (show k < 2 ^ 31 by omega) (show n < 2 ^ 31 by omega), show (24 : Int32) = nI 24 from rfl, nI_ltI (show k < 2 ^ 31 by omega) (show 24 < 2 ^ 31 by omega)]
  by_cases h1 : k < n
  · have h2 : k < 24 := by omega
    simp [h1, h2]
  · simp [h1]
theorem w_setX {x m y : GG} {N B S s n : Nat} {u : Nat → Nat} (h : rE x m N B S) (hx : eqX x y) (hu : ∀ k, k < B → u k < N ∧ y.1 65 k = ik_nw m (u k)) (hs : s < S) (e : m.1 14 s = nI n) (hn : n ≤ 24) : wF fX8_set [.int (nI s)] y (fun v g => v = .null ∧ eqX x g ∧ (g.1 64 = y.1 64 ∧ g.1 65 = y.1 65) ∧ ∀ t, t < n → g.1 31 t = ik_b2 (bgS m u s t)) := by
  have hB := h.2.2.2.1.1
  unfold fX8_set
  simp (decide := true) only [wE_lit, wL_lit, wE_loc, wL_loc, wE_add, wE_sub, wE_mul, wE_and, wE_or, wE_xor, wE_shl, wE_shr, wE_ushr, wE_div, wE_rem, wE_neg, wE_i2b, wE_l2i, wL_i2l, wL_add, wL_mul, wE_fld, wL_fld, wE_arr, wL_arr, wC_cmp, wC_cmp0, wC_cmpL, wC_and, wC_or, wC_not, wC_ite, wL_ite, wA_nil, wA_int, wA_long, wE_call, wL_call, wS_skip, wS_seq, wS_set, wS_setL, wS_inc, wS_if, wS_put, wS_putL, wS_putOp, wS_putOpL, wS_ast, wS_astL, wS_aop, wS_aopL, wS_ret, wS_retL, wS_retV, wS_do, wS_pop, wS_dead, wS_sw, wF_body, Nat.reduceAdd, Nat.zero_add, Bool.not_not, true_and, and_true, if_true, if_false, ↓reduceIte, eq_self, Value.int.injEq, Value.long.injEq, exists_eq_left', ik_b1, ik_b0, ik_bz0, ik_bz3, ik_bz3_1, ik_bz3_0, ik_cmp, ik_cmpL, ik_eI, ik_eL, ik_as, ik_i0, ik_i1, decide_eq_true_eq, decide_eq_false_iff_not, decide_true, decide_false, Bool.not_true, Bool.not_false, reduceCtorEq, forall_const, false_implies, true_implies, implies_true, true_and, and_true, and_self, false_and, and_false, Bool.and_true, Bool.true_and, not_true_eq_false, not_false_eq_true, if_true, if_false, ite_true, ite_false, ik_bz3_0, ik_bz3_1, ik_bz0, upd_at, upd_off]
  refine wS_for _ _ (fun t σ => σ.1 5 = nI t ∧ σ.1 1 = nI s ∧ σ.1 4 = acr (tokw m u s) (m.1 2 0) (m.1 13 s) t ∧ eqX x σ.2.2 ∧ (σ.2.2.1 64 = y.1 64 ∧ σ.2.2.1 65 = y.1 65) ∧ ∀ j, j < t → σ.2.2.1 31 j = ik_b2 (bgS m u s j)) 0 n _ ⟨by simp [upd, nI_0], by simp [upd, ik_eI], by simp [upd, acr], hx, ⟨rfl, rfl⟩, fun j hj => by omega⟩ (by omega) (by omega) ?_ ?_ ?_
  · rintro t ⟨s1, s2, s3⟩ h1 ⟨h2, h3, h4, h5, h6, h7⟩
    simp only at h2 h3 h4 h5 h6 h7
    exact wc_toks (h.eq h5 (eqM.rfl' m)).2.2.2.2.2.2.2.2.2.1 hs e hn h1 h2 h3
  · rintro t ⟨s1, s2, s3⟩ h1 ⟨h2, h3, h4, h5, h6, h7⟩
    simp only at h2 h3 h4 h5 h6 h7
    have a1 := h.eq h5 (eqM.rfl' m)
    have hS := a1.2.2.2.2.2.2.2.2.2.1
    have hS6 := hS.1
    obtain ⟨n', n1, n2, n3, n4, n5⟩ := hS.tok hs
    have en : n = n' := (nI_eq (by omega) (by omega)).mp (e.symm.trans n4)
    subst en
    have bl : s3.1 4 0 = m.1 2 0 := (a1.2.1.1 0 (by decide)).1
    have w4 := w_wideOf4 (g := s3) (c := 0) (by decide)
    rw [nI_0, bl] at w4
    have bt := w_barAt hS hs e hn h1
    have wd := w_wide8 hS hs
    have it := ik_ix_nI (show t < 24 by omega) (by omega)
    have z0 : (nI t = 0) ↔ t = 0 := nI_ne_of rfl (by omega) (by decide)
    have fin : ∀ b, bgS m u s t = b → ∀ (v : Int32), v = ik_b2 b → ∀ w : Int32, w = (if b = true then tokw m u s t else acr (tokw m u s) (m.1 2 0) (m.1 13 s) t + m.1 2 0 + tokw m u s t) → w = acr (tokw m u s) (m.1 2 0) (m.1 13 s) (t + 1) ∧ eqX x (ik_si s3 31 t v) ∧ ((ik_si s3 31 t v).1 64 = y.1 64 ∧ (ik_si s3 31 t v).1 65 = y.1 65) ∧ ∀ j, j < t + 1 → (ik_si s3 31 t v).1 31 j = ik_b2 (bgS m u s j) := by
      intro b hb v hv w hw
      subst hv hw
      refine ⟨?_, h5.s t _ (by omega), ⟨?_, ?_⟩, fun j hj => ?_⟩
      · rw [acr_s]; unfold bgS at hb; rw [hb]
      · rw [ik_si_row _ _ _ _ _ (by decide)]; exact h6.1
      · rw [ik_si_row _ _ _ _ _ (by decide)]; exact h6.2
      · by_cases ej : j = t
        · subst ej; rw [ik_si_same, hb]
        · rw [ik_si_ne _ _ _ _ _ ej]; exact h7 j (by omega)
    have at31 : ∀ v, (ik_si s3 31 t v).1 31 t = v := fun v => ik_si_same _ _ _ _
    rcases n5 t h1 with ⟨k, k1, k2, k3, k4⟩ | ⟨k1, k2, f, l, l1, l2, l3, l4, l5, l6, l7⟩
    · have lt : nI k < 4 := by rw [show (4 : Int32) = nI 4 from rfl, nI_ltI (by omega) (by omega)]; omega
      have lt' : nI k < Int32.ofNat 4 := lt
      have ge : 0 ≤ nI k := nI_pos' (by omega)
      obtain ⟨u1, u2⟩ := hu k k1
      rw [← h6.2] at u2
      have tw : tokw m u s t = ik_nw m (u k) := by unfold tokw; rw [k3, if_pos lt, nI_nat (by omega)]
      rw [← tw] at u2
      rw [k2] at bt
      by_cases t0 : t = 0
      · have hb : bgS m u s t = true := by unfold bgS bgB; simp [t0]
        have hz : (nI t = 0) = True := eq_true (z0.mpr t0)
        simp (decide := true) only [wE_lit, wL_lit, wE_loc, wL_loc, wE_add, wE_sub, wE_mul, wE_and, wE_or, wE_xor, wE_shl, wE_shr, wE_ushr, wE_div, wE_rem, wE_neg, wE_i2b, wE_l2i, wL_i2l, wL_add, wL_mul, wE_fld, wL_fld, wE_arr, wL_arr, wC_cmp, wC_cmp0, wC_cmpL, wC_and, wC_or, wC_not, wC_ite, wL_ite, wA_nil, wA_int, wA_long, wE_call, wL_call, wS_skip, wS_seq, wS_set, wS_setL, wS_inc, wS_if, wS_put, wS_putL, wS_putOp, wS_putOpL, wS_ast, wS_astL, wS_aop, wS_aopL, wS_ret, wS_retL, wS_retV, wS_do, wS_pop, wS_dead, wS_sw, wF_body, Nat.reduceAdd, Nat.zero_add, Bool.not_not, true_and, and_true, if_true, if_false, ↓reduceIte, eq_self, Value.int.injEq, Value.long.injEq, exists_eq_left', ik_b1, ik_b0, ik_bz0, ik_bz3, ik_bz3_1, ik_bz3_0, ik_cmp, ik_cmpL, ik_eI, ik_eL, ik_as, ik_i0, ik_i1, decide_eq_true_eq, decide_eq_false_iff_not, decide_true, decide_false, Bool.not_true, Bool.not_false, reduceCtorEq, forall_const, false_implies, true_implies, implies_true, true_and, and_true, and_self, false_and, and_false, Bool.and_true, Bool.true_and, not_true_eq_false, not_false_eq_true, if_true, if_false, ite_true, ite_false, ik_bz3_0, ik_bz3_1, ik_bz0, wE_ite, upd_at, upd_off, h2, h3, h4, bt, lt', ge, ik_ix_nI (show k < 4 by omega) (by omega), Option.some.injEq, u2, w4, hz, it, at31, nI_1, nI_add]
        exact fin true hb 1 rfl _ rfl
      · have hz : (nI t = 0) = False := eq_false (fun q => t0 (z0.mp q))
        by_cases gt : m.1 13 s < acr (tokw m u s) (m.1 2 0) (m.1 13 s) t + m.1 2 0 + tokw m u s t
        · have hb : bgS m u s t = true := by unfold bgS bgB; simp [gt]
          simp (decide := true) only [wE_lit, wL_lit, wE_loc, wL_loc, wE_add, wE_sub, wE_mul, wE_and, wE_or, wE_xor, wE_shl, wE_shr, wE_ushr, wE_div, wE_rem, wE_neg, wE_i2b, wE_l2i, wL_i2l, wL_add, wL_mul, wE_fld, wL_fld, wE_arr, wL_arr, wC_cmp, wC_cmp0, wC_cmpL, wC_and, wC_or, wC_not, wC_ite, wL_ite, wA_nil, wA_int, wA_long, wE_call, wL_call, wS_skip, wS_seq, wS_set, wS_setL, wS_inc, wS_if, wS_put, wS_putL, wS_putOp, wS_putOpL, wS_ast, wS_astL, wS_aop, wS_aopL, wS_ret, wS_retL, wS_retV, wS_do, wS_pop, wS_dead, wS_sw, wF_body, Nat.reduceAdd, Nat.zero_add, Bool.not_not, true_and, and_true, if_true, if_false, ↓reduceIte, eq_self, Value.int.injEq, Value.long.injEq, exists_eq_left', ik_b1, ik_b0, ik_bz0, ik_bz3, ik_bz3_1, ik_bz3_0, ik_cmp, ik_cmpL, ik_eI, ik_eL, ik_as, ik_i0, ik_i1, decide_eq_true_eq, decide_eq_false_iff_not, decide_true, decide_false, Bool.not_true, Bool.not_false, reduceCtorEq, forall_const, false_implies, true_implies, implies_true, true_and, and_true, and_self, false_and, and_false, Bool.and_true, Bool.true_and, not_true_eq_false, not_false_eq_true, if_true, if_false, ite_true, ite_false, ik_bz3_0, ik_bz3_1, ik_bz0, wE_ite, upd_at, upd_off, h2, h3, h4, bt, lt', ge, ik_ix_nI (show k < 4 by omega) (by omega), Option.some.injEq, u2, w4, hz, wd, gt, it, at31, nI_1, nI_add]
          exact fin true hb 1 rfl _ rfl
        · have hb : bgS m u s t = false := by unfold bgS bgB; simp [gt, t0]
          simp (decide := true) only [wE_lit, wL_lit, wE_loc, wL_loc, wE_add, wE_sub, wE_mul, wE_and, wE_or, wE_xor, wE_shl, wE_shr, wE_ushr, wE_div, wE_rem, wE_neg, wE_i2b, wE_l2i, wL_i2l, wL_add, wL_mul, wE_fld, wL_fld, wE_arr, wL_arr, wC_cmp, wC_cmp0, wC_cmpL, wC_and, wC_or, wC_not, wC_ite, wL_ite, wA_nil, wA_int, wA_long, wE_call, wL_call, wS_skip, wS_seq, wS_set, wS_setL, wS_inc, wS_if, wS_put, wS_putL, wS_putOp, wS_putOpL, wS_ast, wS_astL, wS_aop, wS_aopL, wS_ret, wS_retL, wS_retV, wS_do, wS_pop, wS_dead, wS_sw, wF_body, Nat.reduceAdd, Nat.zero_add, Bool.not_not, true_and, and_true, if_true, if_false, ↓reduceIte, eq_self, Value.int.injEq, Value.long.injEq, exists_eq_left', ik_b1, ik_b0, ik_bz0, ik_bz3, ik_bz3_1, ik_bz3_0, ik_cmp, ik_cmpL, ik_eI, ik_eL, ik_as, ik_i0, ik_i1, decide_eq_true_eq, decide_eq_false_iff_not, decide_true, decide_false, Bool.not_true, Bool.not_false, reduceCtorEq, forall_const, false_implies, true_implies, implies_true, true_and, and_true, and_self, false_and, and_false, Bool.and_true, Bool.true_and, not_true_eq_false, not_false_eq_true, if_true, if_false, ite_true, ite_false, ik_bz3_0, ik_bz3_1, ik_bz0, wE_ite, upd_at, upd_off, h2, h3, h4, bt, lt', ge, ik_ix_nI (show k < 4 by omega) (by omega), Option.some.injEq, u2, w4, hz, wd, gt, it, at31, nI_1, nI_add]
          exact fin false hb 0 rfl _ rfl
    · have nge : ¬ (0 : Int32) ≤ -1 := by decide
      have nlt : ¬ m.1 16 (24 * s + t) < 4 := by rw [k2]; decide
      have ww := w_wordWide a1 hs e hn h1 nlt
      have tw : tokw m u s t = ik_tw m s t := by unfold tokw; rw [if_neg nlt]
      rw [← tw] at ww
      rw [k1] at bt
      by_cases t0 : t = 0
      · have hb : bgS m u s t = true := by unfold bgS bgB; simp [t0]
        have hz : (nI t = 0) = True := eq_true (z0.mpr t0)
        simp (decide := true) only [wE_lit, wL_lit, wE_loc, wL_loc, wE_add, wE_sub, wE_mul, wE_and, wE_or, wE_xor, wE_shl, wE_shr, wE_ushr, wE_div, wE_rem, wE_neg, wE_i2b, wE_l2i, wL_i2l, wL_add, wL_mul, wE_fld, wL_fld, wE_arr, wL_arr, wC_cmp, wC_cmp0, wC_cmpL, wC_and, wC_or, wC_not, wC_ite, wL_ite, wA_nil, wA_int, wA_long, wE_call, wL_call, wS_skip, wS_seq, wS_set, wS_setL, wS_inc, wS_if, wS_put, wS_putL, wS_putOp, wS_putOpL, wS_ast, wS_astL, wS_aop, wS_aopL, wS_ret, wS_retL, wS_retV, wS_do, wS_pop, wS_dead, wS_sw, wF_body, Nat.reduceAdd, Nat.zero_add, Bool.not_not, true_and, and_true, if_true, if_false, ↓reduceIte, eq_self, Value.int.injEq, Value.long.injEq, exists_eq_left', ik_b1, ik_b0, ik_bz0, ik_bz3, ik_bz3_1, ik_bz3_0, ik_cmp, ik_cmpL, ik_eI, ik_eL, ik_as, ik_i0, ik_i1, decide_eq_true_eq, decide_eq_false_iff_not, decide_true, decide_false, Bool.not_true, Bool.not_false, reduceCtorEq, forall_const, false_implies, true_implies, implies_true, true_and, and_true, and_self, false_and, and_false, Bool.and_true, Bool.true_and, not_true_eq_false, not_false_eq_true, if_true, if_false, ite_true, ite_false, ik_bz3_0, ik_bz3_1, ik_bz0, wE_ite, upd_at, upd_off, h2, h3, h4, bt, nge, Option.some.injEq, ww, w4, hz, it, at31, nI_1, nI_add]
        exact fin true hb 1 rfl _ rfl
      · have hz : (nI t = 0) = False := eq_false (fun q => t0 (z0.mp q))
        by_cases gt : m.1 13 s < acr (tokw m u s) (m.1 2 0) (m.1 13 s) t + m.1 2 0 + tokw m u s t
        · have hb : bgS m u s t = true := by unfold bgS bgB; simp [gt]
          simp (decide := true) only [wE_lit, wL_lit, wE_loc, wL_loc, wE_add, wE_sub, wE_mul, wE_and, wE_or, wE_xor, wE_shl, wE_shr, wE_ushr, wE_div, wE_rem, wE_neg, wE_i2b, wE_l2i, wL_i2l, wL_add, wL_mul, wE_fld, wL_fld, wE_arr, wL_arr, wC_cmp, wC_cmp0, wC_cmpL, wC_and, wC_or, wC_not, wC_ite, wL_ite, wA_nil, wA_int, wA_long, wE_call, wL_call, wS_skip, wS_seq, wS_set, wS_setL, wS_inc, wS_if, wS_put, wS_putL, wS_putOp, wS_putOpL, wS_ast, wS_astL, wS_aop, wS_aopL, wS_ret, wS_retL, wS_retV, wS_do, wS_pop, wS_dead, wS_sw, wF_body, Nat.reduceAdd, Nat.zero_add, Bool.not_not, true_and, and_true, if_true, if_false, ↓reduceIte, eq_self, Value.int.injEq, Value.long.injEq, exists_eq_left', ik_b1, ik_b0, ik_bz0, ik_bz3, ik_bz3_1, ik_bz3_0, ik_cmp, ik_cmpL, ik_eI, ik_eL, ik_as, ik_i0, ik_i1, decide_eq_true_eq, decide_eq_false_iff_not, decide_true, decide_false, Bool.not_true, Bool.not_false, reduceCtorEq, forall_const, false_implies, true_implies, implies_true, true_and, and_true, and_self, false_and, and_false, Bool.and_true, Bool.true_and, not_true_eq_false, not_false_eq_true, if_true, if_false, ite_true, ite_false, ik_bz3_0, ik_bz3_1, ik_bz0, wE_ite, upd_at, upd_off, h2, h3, h4, bt, nge, Option.some.injEq, ww, w4, hz, wd, gt, it, at31, nI_1, nI_add]
          exact fin true hb 1 rfl _ rfl
        · have hb : bgS m u s t = false := by unfold bgS bgB; simp [gt, t0]
          simp (decide := true) only [wE_lit, wL_lit, wE_loc, wL_loc, wE_add, wE_sub, wE_mul, wE_and, wE_or, wE_xor, wE_shl, wE_shr, wE_ushr, wE_div, wE_rem, wE_neg, wE_i2b, wE_l2i, wL_i2l, wL_add, wL_mul, wE_fld, wL_fld, wE_arr, wL_arr, wC_cmp, wC_cmp0, wC_cmpL, wC_and, wC_or, wC_not, wC_ite, wL_ite, wA_nil, wA_int, wA_long, wE_call, wL_call, wS_skip, wS_seq, wS_set, wS_setL, wS_inc, wS_if, wS_put, wS_putL, wS_putOp, wS_putOpL, wS_ast, wS_astL, wS_aop, wS_aopL, wS_ret, wS_retL, wS_retV, wS_do, wS_pop, wS_dead, wS_sw, wF_body, Nat.reduceAdd, Nat.zero_add, Bool.not_not, true_and, and_true, if_true, if_false, ↓reduceIte, eq_self, Value.int.injEq, Value.long.injEq, exists_eq_left', ik_b1, ik_b0, ik_bz0, ik_bz3, ik_bz3_1, ik_bz3_0, ik_cmp, ik_cmpL, ik_eI, ik_eL, ik_as, ik_i0, ik_i1, decide_eq_true_eq, decide_eq_false_iff_not, decide_true, decide_false, Bool.not_true, Bool.not_false, reduceCtorEq, forall_const, false_implies, true_implies, implies_true, true_and, and_true, and_self, false_and, and_false, Bool.and_true, Bool.true_and, not_true_eq_false, not_false_eq_true, if_true, if_false, ite_true, ite_false, ik_bz3_0, ik_bz3_1, ik_bz0, wE_ite, upd_at, upd_off, h2, h3, h4, bt, nge, Option.some.injEq, ww, w4, hz, wd, gt, it, at31, nI_1, nI_add]
          exact fin false hb 0 rfl _ rfl
  · rintro ⟨s1, s2, s3⟩ ⟨h2, h3, h4, h5, h6, h7⟩
    simp only at h5 h6 h7
    simp (decide := true) only [wE_lit, wL_lit, wE_loc, wL_loc, wE_add, wE_sub, wE_mul, wE_and, wE_or, wE_xor, wE_shl, wE_shr, wE_ushr, wE_div, wE_rem, wE_neg, wE_i2b, wE_l2i, wL_i2l, wL_add, wL_mul, wE_fld, wL_fld, wE_arr, wL_arr, wC_cmp, wC_cmp0, wC_cmpL, wC_and, wC_or, wC_not, wC_ite, wL_ite, wA_nil, wA_int, wA_long, wE_call, wL_call, wS_skip, wS_seq, wS_set, wS_setL, wS_inc, wS_if, wS_put, wS_putL, wS_putOp, wS_putOpL, wS_ast, wS_astL, wS_aop, wS_aopL, wS_ret, wS_retL, wS_retV, wS_do, wS_pop, wS_dead, wS_sw, wF_body, Nat.reduceAdd, Nat.zero_add, Bool.not_not, true_and, and_true, if_true, if_false, ↓reduceIte, eq_self, Value.int.injEq, Value.long.injEq, exists_eq_left', ik_b1, ik_b0, ik_bz0, ik_bz3, ik_bz3_1, ik_bz3_0, ik_cmp, ik_cmpL, ik_eI, ik_eL, ik_as, ik_i0, ik_i1, decide_eq_true_eq, decide_eq_false_iff_not, decide_true, decide_false, Bool.not_true, Bool.not_false, reduceCtorEq, forall_const, false_implies, true_implies, implies_true, true_and, and_true, and_self, false_and, and_false, Bool.and_true, Bool.true_and, not_true_eq_false, not_false_eq_true, if_true, if_false, ite_true, ite_false, ik_bz3_0, ik_bz3_1, ik_bz0]
    exact ⟨h5, h6, h7⟩
