/-! sheets: the reference reads -/
def fsM (S : Nat) (g0 g : GG) : Prop := (∀ a, a ≠ 0 → (a < 16 ∨ 19 < a) → g.1 a = g0.1 a) ∧ (∀ a j, 16 ≤ a → a ≤ 19 → j < 24 * S → g.1 a j = g0.1 a j) ∧ (∀ j, j ≠ 30 → j ≠ 32 → g.1 0 j = g0.1 0 j) ∧ g.2 = g0.2
theorem fsM.rfl' (S : Nat) (g : GG) : fsM S g g := ⟨fun _ _ _ => rfl, fun _ _ _ _ _ => rfl, fun _ _ _ => rfl, rfl⟩
theorem fsM.si {S : Nat} {g0 g : GG} (h : fsM S g0 g) {a j : Nat} (v : Int32) (ha : (a = 0 ∧ (j = 30 ∨ j = 32)) ∨ (16 ≤ a ∧ a ≤ 19 ∧ 24 * S ≤ j)) : fsM S g0 (ik_si g a j v) := by
  obtain ⟨h1, h2, h3, h4⟩ := h
  have f : ∀ b k, ¬ (b = a ∧ k = j) → (ik_si g a j v).1 b k = g.1 b k := fun b k hn => by
    by_cases e : b = a
    · subst e
      rw [ik_si_ne _ _ _ _ _ (fun z => hn ⟨rfl, z⟩)]
    · rw [ik_si_row _ _ _ _ _ e]
  refine ⟨fun b b1 b2 => ?_, fun b k b1 b2 hk => ?_, fun k k1 k2 => ?_, h4⟩
  · rw [ik_si_row _ _ _ _ _ (by omega)]; exact h1 b b1 b2
  · rw [f b k (by omega)]; exact h2 b k b1 b2 hk
  · rw [f 0 k (by omega)]; exact h3 k k1 k2
/-- the tokens so far, in the reference -/
def CM (S : Nat) (c : Nat → Nat) (n : Nat) (fr ln : Nat → Nat) (bg : Nat → Bool) (g : GG) : Prop := ∀ t, t < n → g.1 16 (24 * S + t) = (if sg_dig (c (fr t)) = true then nI (c (fr t) - 48) else 4) ∧ g.1 17 (24 * S + t) = nI (fr t) ∧ g.1 18 (24 * S + t) = nI (fr t + (if sg_dig (c (fr t)) = true then 1 else ln t)) ∧ g.1 19 (24 * S + t) = (if t = 0 then 0 else ik_b2 (bg t))
theorem CM.si0 {S n : Nat} {c : Nat → Nat} {fr ln : Nat → Nat} {bg : Nat → Bool} {g : GG} (h : CM S c n fr ln bg g) (j : Nat) (v : Int32) : CM S c n fr ln bg (ik_si g 0 j v) := fun t ht => by
  rw [ik_si_row _ _ _ _ _ (by decide), ik_si_row _ _ _ _ _ (by decide), ik_si_row _ _ _ _ _ (by decide), ik_si_row _ _ _ _ _ (by decide)]
  exact h t ht
theorem CM.siq {S n a : Nat} {c : Nat → Nat} {fr ln : Nat → Nat} {bg : Nat → Bool} {g : GG} (h : CM S c n fr ln bg g) (v : Int32) : CM S c n fr ln bg (ik_si g a (24 * S + n) v) := fun t ht => by
  have f : ∀ b, (ik_si g a (24 * S + n) v).1 b (24 * S + t) = g.1 b (24 * S + t) := fun b => by
    by_cases e : b = a
    · subst e; rw [ik_si_ne _ _ _ _ _ (by omega)]
    · rw [ik_si_row _ _ _ _ _ e]
  rw [f, f, f, f]
  exact h t ht
theorem w_letM {v : Nat} (hv : v < 256) (g : GG) (Q : Value → GG → Prop) : wF fX12_isLetter [.int (nI v)] g Q ↔ Q (.int (ik_b2 (sg_let v))) g := by
  rw [w_letterM]
  have := letN hv
  cases h : sg_let v with
  | true => rw [if_pos (this.mpr h)]; exact Iff.rfl
  | false => rw [if_neg (fun z => by have := this.mp z; rw [h] at this; cases this)]; exact Iff.rfl
theorem w_digM {v : Nat} (hv : v < 256) (g : GG) (Q : Value → GG → Prop) : wF fX12_isDigit [.int (nI v)] g Q ↔ Q (.int (ik_b2 (sg_dig v))) g := by
  rw [w_digitM]
  have := nI_dig hv
  cases h : sg_dig v with
  | true => rw [if_pos (this.mpr h)]; exact Iff.rfl
  | false => rw [if_neg (fun z => by have := this.mp z; rw [h] at this; cases this)]; exact Iff.rfl
/-- the text, as it stands for the reference -/
def txS (c : Nat → Nat) (N : Nat) (g0 : GG) : Prop := g0.1 0 31 = nI N ∧ N ≤ 160 ∧ (∀ k, N ≤ k → c k = 0) ∧ ∀ k, k < N → c k < 256 ∧ g0.1 1 k = ik_by (c k)
theorem txS.lt {c : Nat → Nat} {N : Nat} {g0 : GG} (h : txS c N g0) (k : Nat) : c k < 256 := by
  by_cases e : k < N
  · exact (h.2.2.2 k e).1
  · rw [h.2.2.1 k (by omega)]; decide
theorem w_hereS {c : Nat → Nat} {N p S : Nat} {g0 g : GG} (ht : txS c N g0) (hf : fsM S g0 g) (hg : g.1 0 30 = nI p) (hp : p < 2 ^ 31) (Q : Value → GG → Prop) : wF fX12_here [] g Q ↔ Q (.int (nI (c p))) g := by
  refine wF_eq (eq_of_wF ?_) Q
  obtain ⟨t1, t2, hz, t4⟩ := ht
  have e31 : g.1 0 31 = nI N := by rw [hf.2.2.1 31 (by decide) (by decide)]; exact t1
  have e1 : g.1 1 = g0.1 1 := hf.1 1 (by decide) (by decide)
  have l : (nI p < nI N) ↔ p < N := nI_ltI hp (by omega)
  unfold fX12_here
  by_cases h : p < N
  · obtain ⟨b1, b2⟩ := t4 p h
    simp (decide := true) only [wE_lit, wL_lit, wE_loc, wL_loc, wE_add, wE_sub, wE_mul, wE_and, wE_or, wE_xor, wE_shl, wE_shr, wE_ushr, wE_div, wE_rem, wE_neg, wE_i2b, wE_l2i, wL_i2l, wL_add, wL_mul, wE_fld, wL_fld, wE_arr, wL_arr, wC_cmp, wC_cmp0, wC_cmpL, wC_and, wC_or, wC_not, wC_ite, wL_ite, wA_nil, wA_int, wA_long, wE_call, wL_call, wS_skip, wS_seq, wS_set, wS_setL, wS_inc, wS_if, wS_put, wS_putL, wS_putOp, wS_putOpL, wS_ast, wS_astL, wS_aop, wS_aopL, wS_ret, wS_retL, wS_retV, wS_do, wS_pop, wS_dead, wS_sw, wF_body, Nat.reduceAdd, Nat.zero_add, Bool.not_not, true_and, and_true, if_true, if_false, ↓reduceIte, eq_self, Value.int.injEq, Value.long.injEq, exists_eq_left', ik_b1, ik_b0, ik_bz0, ik_bz3, ik_bz3_1, ik_bz3_0, ik_cmp, ik_cmpL, ik_eI, ik_eL, ik_as, ik_i0, ik_i1, decide_eq_true_eq, decide_eq_false_iff_not, decide_true, decide_false, Bool.not_true, Bool.not_false, reduceCtorEq, forall_const, false_implies, true_implies, implies_true, true_and, and_true, and_self, false_and, and_false, Bool.and_true, Bool.true_and, not_true_eq_false, not_false_eq_true, if_true, if_false, ite_true, ite_false, ik_bz3_0, ik_bz3_1, ik_bz0, wE_ite, hg, e31, l, h, ik_ix_nI (show p < 400 by omega) (by omega), Option.some.injEq, e1, b2, ik_by_and ⟨c p, b1⟩]
  · simp (decide := true) only [wE_lit, wL_lit, wE_loc, wL_loc, wE_add, wE_sub, wE_mul, wE_and, wE_or, wE_xor, wE_shl, wE_shr, wE_ushr, wE_div, wE_rem, wE_neg, wE_i2b, wE_l2i, wL_i2l, wL_add, wL_mul, wE_fld, wL_fld, wE_arr, wL_arr, wC_cmp, wC_cmp0, wC_cmpL, wC_and, wC_or, wC_not, wC_ite, wL_ite, wA_nil, wA_int, wA_long, wE_call, wL_call, wS_skip, wS_seq, wS_set, wS_setL, wS_inc, wS_if, wS_put, wS_putL, wS_putOp, wS_putOpL, wS_ast, wS_astL, wS_aop, wS_aopL, wS_ret, wS_retL, wS_retV, wS_do, wS_pop, wS_dead, wS_sw, wF_body, Nat.reduceAdd, Nat.zero_add, Bool.not_not, true_and, and_true, if_true, if_false, ↓reduceIte, eq_self, Value.int.injEq, Value.long.injEq, exists_eq_left', ik_b1, ik_b0, ik_bz0, ik_bz3, ik_bz3_1, ik_bz3_0, ik_cmp, ik_cmpL, ik_eI, ik_eL, ik_as, ik_i0, ik_i1, decide_eq_true_eq, decide_eq_false_iff_not, decide_true, decide_false, Bool.not_true, Bool.not_false, reduceCtorEq, forall_const, false_implies, true_implies, implies_true, true_and, and_true, and_self, false_and, and_false, Bool.and_true, Bool.true_and, not_true_eq_false, not_false_eq_true, if_true, if_false, ite_true, ite_false, ik_bz3_0, ik_bz3_1, ik_bz0, wE_ite, hg, e31, l, h, hz p (by omega), nI_0]
theorem let0 : sg_let 0 = false := by decide
theorem updN_2 (f : Nat → Nat) (n a b : Nat) : updN (updN f n a) n b = updN f n b := by
  funext q
  unfold updN
  by_cases e : q = n
  · rw [if_pos e, if_pos e]
  · rw [if_neg e, if_neg e, if_neg e]
theorem w_tok {g0 g : GG} {B S N n p : Nat} {c : Nat → Nat} {brk : Bool} {fr ln : Nat → Nat} {bg : Nat → Bool} (h : tr B c p = .inr (0, brk, n, fr, ln, bg)) (hp : p ≤ N) (hS : S < 6) (hB : B ≤ 4) (e3 : g0.1 0 3 = nI B) (hx : txS c N g0) (hf : fsM S g0 g) (e30 : g.1 0 30 = nI p) (e32 : g.1 0 32 = 0) (hm : CM S c n fr ln bg g) :
    wF fX12_token [.int (nI S), .int (nI n)] g (fun v g' => v = .null ∧ fsM S g0 g' ∧ ((∃ e, tEnd B c N = .inl e ∧ 1 ≤ e ∧ e < 6000 ∧ g'.1 0 32 = -(nI e)) ∨ ∃ st l e, g'.1 0 32 = 0 ∧ g'.1 0 30 = nI e ∧ p < e ∧ e ≤ N ∧ st ≠ 0 ∧ tr B c e = .inr (st, brk, n + 1, updN fr n p, updN ln n l, updB bg n brk) ∧ (st = 1 → sg_let (c e) = false) ∧ CM S c n fr ln bg g' ∧ g'.1 16 (24 * S + n) = (if sg_dig (c p) = true then nI (c p - 48) else 4) ∧ g'.1 17 (24 * S + n) = nI p ∧ g'.1 18 (24 * S + n) = nI (p + (if sg_dig (c p) = true then 1 else l)))) := by
  have hN := hx.2.1
  obtain ⟨i1, i2, i3, i4, i5, i6, i7, i8⟩ := tr_TI h
  have cp := hx.lt p
  have he := w_hereS hx hf e30 (by omega)
  have le := fun g' => w_letM cp g'
  have di := fun g' => w_digM cp g'
  have gd := fun g' => w_good g'
  -- a fault at once
  have flt : ∀ f, 1 ≤ f → f ≤ 4 → (p < N → ts B (c p) p 0 brk n fr ln bg = .inl f) → (p = N → f = 1) → fsM S g0 (ik_si g 0 32 (-(nI (1000 * f + p)))) ∧ (∃ e, tEnd B c N = .inl e ∧ 1 ≤ e ∧ e < 6000 ∧ (ik_si g 0 32 (-(nI (1000 * f + p)))).1 0 32 = -(nI e)) ∧ (¬ (ik_si g 0 32 (-(nI (1000 * f + p)))).1 0 32 = 0) := by
    intro f f1 f4 h1 h2
    refine ⟨hf.si _ (by omega), ⟨1000 * f + p, ?_, by omega, by omega, ik_si_same _ _ _ _⟩, ?_⟩
    · by_cases e : p < N
      · exact tEnd_f h (h1 e) e
      · have pN : p = N := by omega
        have := h2 pN
        subst this
        subst pN
        exact tEnd_0 h
    · rw [ik_si_same]
      exact (nI_negne (by omega) (by omega)).1
  by_cases c1 : (sg_let (c p) || sg_dig (c p)) = true
  · have pN : p < N := by
      apply Classical.byContradiction
      intro z
      rw [hx.2.2.1 p (by omega)] at c1
      exact absurd c1 (by decide)
    by_cases c2 : 24 ≤ n
    · have n24 : n = 24 := by omega
      subst n24
      obtain ⟨z1, z2, z3⟩ := flt 4 (by omega) (by omega) (fun _ => by unfold ts; rw [if_pos rfl, if_pos c1, if_pos c2]) (fun z => by omega)
      have wr := w_wrongs (g := g) (e := 4) (p := p) e32 (Q := fun v g2 => v = .null ∧ g2 = ik_si g 0 32 (-(nI (1000 * 4 + p)))) (v := 4) rfl
      have wr' : fX12_wrongs [.int 4, .int (nI p)] g = some (.null, ik_si g 0 32 (-(nI (1000 * 4 + p)))) := eq_of_wF (wr.mpr ⟨rfl, rfl⟩)
      unfold fX12_token
      have n24' : (nI 24 = (24 : Int32)) = True := eq_true rfl
      cases d1 : sg_let (c p) with
      | true =>
        simp only [d1] at le
        simp (decide := true) only [wE_lit, wL_lit, wE_loc, wL_loc, wE_add, wE_sub, wE_mul, wE_and, wE_or, wE_xor, wE_shl, wE_shr, wE_ushr, wE_div, wE_rem, wE_neg, wE_i2b, wE_l2i, wL_i2l, wL_add, wL_mul, wE_fld, wL_fld, wE_arr, wL_arr, wC_cmp, wC_cmp0, wC_cmpL, wC_and, wC_or, wC_not, wC_ite, wL_ite, wA_nil, wA_int, wA_long, wE_call, wL_call, wS_skip, wS_seq, wS_set, wS_setL, wS_inc, wS_if, wS_put, wS_putL, wS_putOp, wS_putOpL, wS_ast, wS_astL, wS_aop, wS_aopL, wS_ret, wS_retL, wS_retV, wS_do, wS_pop, wS_dead, wS_sw, wF_body, Nat.reduceAdd, Nat.zero_add, Bool.not_not, true_and, and_true, if_true, if_false, ↓reduceIte, eq_self, Value.int.injEq, Value.long.injEq, exists_eq_left', ik_b1, ik_b0, ik_bz0, ik_bz3, ik_bz3_1, ik_bz3_0, ik_cmp, ik_cmpL, ik_eI, ik_eL, ik_as, ik_i0, ik_i1, decide_eq_true_eq, decide_eq_false_iff_not, decide_true, decide_false, Bool.not_true, Bool.not_false, reduceCtorEq, forall_const, false_implies, true_implies, implies_true, true_and, and_true, and_self, false_and, and_false, Bool.and_true, Bool.true_and, not_true_eq_false, not_false_eq_true, if_true, if_false, ite_true, ite_false, ik_bz3_0, ik_bz3_1, ik_bz0, exists_eq', he, le, show ik_b2 true = 1 from rfl, n24', e30, wF_eq wr', gd, z3, upd_at, upd_off]
        exact ⟨z1, Or.inl z2⟩
      | false =>
        rw [d1, Bool.false_or] at c1
        simp only [d1] at le
        simp only [c1] at di
        simp (decide := true) only [wE_lit, wL_lit, wE_loc, wL_loc, wE_add, wE_sub, wE_mul, wE_and, wE_or, wE_xor, wE_shl, wE_shr, wE_ushr, wE_div, wE_rem, wE_neg, wE_i2b, wE_l2i, wL_i2l, wL_add, wL_mul, wE_fld, wL_fld, wE_arr, wL_arr, wC_cmp, wC_cmp0, wC_cmpL, wC_and, wC_or, wC_not, wC_ite, wL_ite, wA_nil, wA_int, wA_long, wE_call, wL_call, wS_skip, wS_seq, wS_set, wS_setL, wS_inc, wS_if, wS_put, wS_putL, wS_putOp, wS_putOpL, wS_ast, wS_astL, wS_aop, wS_aopL, wS_ret, wS_retL, wS_retV, wS_do, wS_pop, wS_dead, wS_sw, wF_body, Nat.reduceAdd, Nat.zero_add, Bool.not_not, true_and, and_true, if_true, if_false, ↓reduceIte, eq_self, Value.int.injEq, Value.long.injEq, exists_eq_left', ik_b1, ik_b0, ik_bz0, ik_bz3, ik_bz3_1, ik_bz3_0, ik_cmp, ik_cmpL, ik_eI, ik_eL, ik_as, ik_i0, ik_i1, decide_eq_true_eq, decide_eq_false_iff_not, decide_true, decide_false, Bool.not_true, Bool.not_false, reduceCtorEq, forall_const, false_implies, true_implies, implies_true, true_and, and_true, and_self, false_and, and_false, Bool.and_true, Bool.true_and, not_true_eq_false, not_false_eq_true, if_true, if_false, ite_true, ite_false, ik_bz3_0, ik_bz3_1, ik_bz0, exists_eq', he, le, di, show ik_b2 true = 1 from rfl, show ik_b2 false = 0 from rfl, n24', e30, wF_eq wr', gd, z3, upd_at, upd_off]
        exact ⟨z1, Or.inl z2⟩
    · have n24' : (nI n = 24) = False := eq_false (fun z => by have := (nI_eq (b := 24) (by omega) (by omega)).mp z; omega)
      have e3' : g.1 0 3 = nI B := by rw [hf.2.2.1 3 (by decide) (by decide)]; exact e3
      by_cases c3 : (sg_dig (c p) && decide (B ≤ c p - 48)) = true
      · have c3' := c3
        rw [Bool.and_eq_true, decide_eq_true_iff] at c3'
        obtain ⟨d1, d2⟩ := c3'
        have dg := dig_ge d1
        have nl : sg_let (c p) = false := by
          cases q : sg_let (c p) with
          | false => rfl
          | true => have := let_ge q; omega
        obtain ⟨z1, z2, z3⟩ := flt 3 (by omega) (by omega) (fun _ => by unfold ts; rw [if_pos rfl, if_pos c1, if_neg c2, if_pos c3]) (fun z => by omega)
        have wr := w_wrongs (g := g) (e := 3) (p := p) e32 (Q := fun v g2 => v = .null ∧ g2 = ik_si g 0 32 (-(nI (1000 * 3 + p)))) (v := 3) rfl
        have wr' : fX12_wrongs [.int 3, .int (nI p)] g = some (.null, ik_si g 0 32 (-(nI (1000 * 3 + p)))) := eq_of_wF (wr.mpr ⟨rfl, rfl⟩)
        have ge : (nI (c p - 48) ≥ nI B) = True := eq_true ((nI_leI (by omega) (by omega)).mpr d2)
        simp only [nl] at le
        simp only [d1] at di
        unfold fX12_token
        simp (decide := true) only [wE_lit, wL_lit, wE_loc, wL_loc, wE_add, wE_sub, wE_mul, wE_and, wE_or, wE_xor, wE_shl, wE_shr, wE_ushr, wE_div, wE_rem, wE_neg, wE_i2b, wE_l2i, wL_i2l, wL_add, wL_mul, wE_fld, wL_fld, wE_arr, wL_arr, wC_cmp, wC_cmp0, wC_cmpL, wC_and, wC_or, wC_not, wC_ite, wL_ite, wA_nil, wA_int, wA_long, wE_call, wL_call, wS_skip, wS_seq, wS_set, wS_setL, wS_inc, wS_if, wS_put, wS_putL, wS_putOp, wS_putOpL, wS_ast, wS_astL, wS_aop, wS_aopL, wS_ret, wS_retL, wS_retV, wS_do, wS_pop, wS_dead, wS_sw, wF_body, Nat.reduceAdd, Nat.zero_add, Bool.not_not, true_and, and_true, if_true, if_false, ↓reduceIte, eq_self, Value.int.injEq, Value.long.injEq, exists_eq_left', ik_b1, ik_b0, ik_bz0, ik_bz3, ik_bz3_1, ik_bz3_0, ik_cmp, ik_cmpL, ik_eI, ik_eL, ik_as, ik_i0, ik_i1, decide_eq_true_eq, decide_eq_false_iff_not, decide_true, decide_false, Bool.not_true, Bool.not_false, reduceCtorEq, forall_const, false_implies, true_implies, implies_true, true_and, and_true, and_self, false_and, and_false, Bool.and_true, Bool.true_and, not_true_eq_false, not_false_eq_true, if_true, if_false, ite_true, ite_false, ik_bz3_0, ik_bz3_1, ik_bz0, exists_eq', he, le, di, show ik_b2 true = 1 from rfl, show ik_b2 false = 0 from rfl, n24', dig_sub dg.1, e3', ge, e30, wF_eq wr', gd, z3, upd_at, upd_off]
        exact ⟨z1, Or.inl z2⟩
      · obtain ⟨q, hq⟩ : ∃ q, q = 24 * S + n := ⟨_, rfl⟩
        have hq144 : q < 144 := by omega
        have ix := ik_ix_nI hq144 (by omega)
        have eq' : (24 : Int32) * nI S + nI n = nI q := by rw [show (24 : Int32) = nI 24 from rfl, pk_mul, nI_add, hq]
        have bo : ik_bo 0 (nI p) 1 = some (nI (p + 1)) := by show some (nI p + nI 1) = _; rw [nI_add]
        cases d1 : sg_let (c p) with
        | true =>
          have nd := let_dig d1
          have lg := let_ge d1
          simp only [d1] at le
          simp only [nd] at di
          obtain ⟨g1, hg1⟩ : ∃ g1, g1 = ik_si (ik_si (ik_si g 16 q 4) 17 q (nI p)) 0 30 (nI (p + 1)) := ⟨_, rfl⟩
          have g30 : (ik_si (ik_si g 16 q 4) 17 q (nI p)).1 0 30 = nI p := by rw [ik_si_row _ _ _ _ _ (by decide), ik_si_row _ _ _ _ _ (by decide)]; exact e30
          have g30a : (ik_si g 16 q 4).1 0 30 = nI p := by rw [ik_si_row _ _ _ _ _ (by decide)]; exact e30
          have fr1 : fsM S g0 g1 := by rw [hg1]; exact ((hf.si _ (by omega)).si _ (by omega)).si _ (by omega)
          have cm1 : CM S c n fr ln bg g1 := by rw [hg1, hq]; exact ((hm.siq _).siq _).si0 _ _
          have p30 : g1.1 0 30 = nI (p + 1) := by rw [hg1]; exact ik_si_same _ _ _ _
          have p32 : g1.1 0 32 = 0 := by rw [hg1, ik_si_ne _ _ _ _ _ (by decide), ik_si_row _ _ _ _ _ (by decide), ik_si_row _ _ _ _ _ (by decide)]; exact e32
          have p16 : g1.1 16 q = 4 := by rw [hg1, ik_si_row _ _ _ _ _ (by decide), ik_si_row _ _ _ _ _ (by decide)]; exact ik_si_same _ _ _ _
          have p17 : g1.1 17 q = nI p := by rw [hg1, ik_si_row _ _ _ _ _ (by decide)]; exact ik_si_same _ _ _ _
          have t1 : tr B c (p + 1) = .inr (1, brk, n + 1, updN fr n p, updN ln n 1, updB bg n brk) := tr_n h (by unfold ts; rw [if_pos rfl, if_pos c1, if_neg c2, if_neg c3, if_pos d1, if_pos d1])
          unfold fX12_token
          simp (decide := true) only [wE_lit, wL_lit, wE_loc, wL_loc, wE_add, wE_sub, wE_mul, wE_and, wE_or, wE_xor, wE_shl, wE_shr, wE_ushr, wE_div, wE_rem, wE_neg, wE_i2b, wE_l2i, wL_i2l, wL_add, wL_mul, wE_fld, wL_fld, wE_arr, wL_arr, wC_cmp, wC_cmp0, wC_cmpL, wC_and, wC_or, wC_not, wC_ite, wL_ite, wA_nil, wA_int, wA_long, wE_call, wL_call, wS_skip, wS_seq, wS_set, wS_setL, wS_inc, wS_if, wS_put, wS_putL, wS_putOp, wS_putOpL, wS_ast, wS_astL, wS_aop, wS_aopL, wS_ret, wS_retL, wS_retV, wS_do, wS_pop, wS_dead, wS_sw, wF_body, Nat.reduceAdd, Nat.zero_add, Bool.not_not, true_and, and_true, if_true, if_false, ↓reduceIte, eq_self, Value.int.injEq, Value.long.injEq, exists_eq_left', ik_b1, ik_b0, ik_bz0, ik_bz3, ik_bz3_1, ik_bz3_0, ik_cmp, ik_cmpL, ik_eI, ik_eL, ik_as, ik_i0, ik_i1, decide_eq_true_eq, decide_eq_false_iff_not, decide_true, decide_false, Bool.not_true, Bool.not_false, reduceCtorEq, forall_const, false_implies, true_implies, implies_true, true_and, and_true, and_self, false_and, and_false, Bool.and_true, Bool.true_and, not_true_eq_false, not_false_eq_true, if_true, if_false, ite_true, ite_false, ik_bz3_0, ik_bz3_1, ik_bz0, exists_eq', wE_ite, he, le, di, show ik_b2 true = 1 from rfl, show ik_b2 false = 0 from rfl, n24', e30, gd, e32, eq', ix, Option.some.injEq, g30, g30a, bo, ← hg1, upd_at, upd_off]
          refine wS_wh _ _ (fun k σ => σ.1 3 = nI (c p) ∧ σ.1 4 = nI q ∧ fsM S g0 σ.2.2 ∧ CM S c n fr ln bg σ.2.2 ∧ σ.2.2.1 16 q = 4 ∧ σ.2.2.1 17 q = nI p ∧ ((∃ e, k = 200 - e ∧ p < e ∧ e ≤ N ∧ σ.2.2.1 0 30 = nI e ∧ σ.2.2.1 0 32 = 0 ∧ tr B c e = .inr (1, brk, n + 1, updN fr n p, updN ln n (e - p), updB bg n brk)) ∨ ∃ e, tEnd B c N = .inl e ∧ 1 ≤ e ∧ e < 6000 ∧ σ.2.2.1 0 32 = -(nI e))) ?_ ik_fuel (200 - (p + 1)) _ (by unfold ik_fuel; omega) ⟨by simp [upd], by simp [upd], fr1, cm1, p16, p17, Or.inl ⟨p + 1, rfl, by omega, by omega, p30, p32, by rw [show p + 1 - p = 1 by omega]; exact t1⟩⟩
          · rintro k ⟨s1, s2, s3⟩ ⟨b1, b2, b3, b4, b5, b6, b7⟩
            simp only at b1 b2 b3 b4 b5 b6 b7
            rcases b7 with ⟨e, k1, k2, k3, k4, k5, k6⟩ | ⟨e, k1, k2, k3, k4⟩
            · have hee := w_hereS hx b3 k4 (by omega)
              have ce := hx.lt e
              have lee := fun g' => w_letM ce g'
              have les := le s3
              cases d2 : sg_let (c e) with
              | true =>
                simp only [d2] at lee
                have le2 := let_ge d2
                have eN : e < N := by
                  apply Classical.byContradiction
                  intro z
                  rw [hx.2.2.1 e (by omega)] at d2
                  exact absurd d2 (by decide)
                have lnE : updN ln n (e - p) (n + 1 - 1) = e - p := by rw [show n + 1 - 1 = n by omega, updN_at]
                have e12 : (nI e = nI p + 12) = (e = p + 12) := propext (by rw [show nI p + 12 = nI (p + 12) by show nI p + nI 12 = _; rw [nI_add]]; exact nI_eq (by omega) (by omega))
                by_cases d3 : e = p + 12
                · have tf : ts B (c e) e 1 brk (n + 1) (updN fr n p) (updN ln n (e - p)) (updB bg n brk) = .inl 2 := by
                    unfold ts
                    rw [if_neg (by decide), if_neg (by omega), if_pos ⟨rfl, d2⟩, lnE, if_pos (by omega)]
                  have te := tEnd_f k6 tf eN
                  have wr := w_wrongs (g := s3) (e := 2) (p := e) k5 (Q := fun v g2 => v = .null ∧ g2 = ik_si s3 0 32 (-(nI (1000 * 2 + e)))) (v := 2) rfl
                  have wr' : fX12_wrongs [.int 2, .int (nI e)] s3 = some (.null, ik_si s3 0 32 (-(nI (1000 * 2 + e)))) := eq_of_wF (wr.mpr ⟨rfl, rfl⟩)
                  have w30 : (ik_si s3 0 32 (-(nI (1000 * 2 + e)))).1 0 30 = nI e := by rw [ik_si_ne _ _ _ _ _ (by decide)]; exact k4
                  have bo2 : ik_bo 0 (nI e) 1 = some (nI (e + 1)) := by show some (nI e + nI 1) = _; rw [nI_add]
                  have d3' := eq_true d3
                  simp (decide := true) only [wE_lit, wL_lit, wE_loc, wL_loc, wE_add, wE_sub, wE_mul, wE_and, wE_or, wE_xor, wE_shl, wE_shr, wE_ushr, wE_div, wE_rem, wE_neg, wE_i2b, wE_l2i, wL_i2l, wL_add, wL_mul, wE_fld, wL_fld, wE_arr, wL_arr, wC_cmp, wC_cmp0, wC_cmpL, wC_and, wC_or, wC_not, wC_ite, wL_ite, wA_nil, wA_int, wA_long, wE_call, wL_call, wS_skip, wS_seq, wS_set, wS_setL, wS_inc, wS_if, wS_put, wS_putL, wS_putOp, wS_putOpL, wS_ast, wS_astL, wS_aop, wS_aopL, wS_ret, wS_retL, wS_retV, wS_do, wS_pop, wS_dead, wS_sw, wF_body, Nat.reduceAdd, Nat.zero_add, Bool.not_not, true_and, and_true, if_true, if_false, ↓reduceIte, eq_self, Value.int.injEq, Value.long.injEq, exists_eq_left', ik_b1, ik_b0, ik_bz0, ik_bz3, ik_bz3_1, ik_bz3_0, ik_cmp, ik_cmpL, ik_eI, ik_eL, ik_as, ik_i0, ik_i1, decide_eq_true_eq, decide_eq_false_iff_not, decide_true, decide_false, Bool.not_true, Bool.not_false, reduceCtorEq, forall_const, false_implies, true_implies, implies_true, true_and, and_true, and_self, false_and, and_false, Bool.and_true, Bool.true_and, not_true_eq_false, not_false_eq_true, if_true, if_false, ite_true, ite_false, ik_bz3_0, ik_bz3_1, ik_bz0, exists_eq', gd, k5, b1, b2, les, hee, lee, show ik_b2 true = 1 from rfl, k4, ix, Option.some.injEq, b6, e12, d3', wF_eq wr', w30, bo2]
                  refine ⟨k - 1, by omega, (b3.si _ (by omega)).si _ (by omega), (b4.si0 _ _).si0 _ _, ?_, ?_, Or.inr ⟨1000 * 2 + e, te, by omega, by omega, ?_⟩⟩
                  · rw [ik_si_row _ _ _ _ _ (by decide), ik_si_row _ _ _ _ _ (by decide)]; exact b5
                  · rw [ik_si_row _ _ _ _ _ (by decide), ik_si_row _ _ _ _ _ (by decide)]; exact b6
                  · rw [ik_si_ne _ _ _ _ _ (by decide)]; exact ik_si_same _ _ _ _
                · have tf : ts B (c e) e 1 brk (n + 1) (updN fr n p) (updN ln n (e - p)) (updB bg n brk) = .inr (1, brk, n + 1, updN fr n p, updN ln n (e + 1 - p), updB bg n brk) := by
                    have hti := tr_TI k6
                    have l12 : e - p ≤ 12 := by
                      rcases hti.2.2.2.2.2.1 n (by omega) with ⟨z, -⟩ | ⟨-, -, z, -⟩
                      · rw [updN_at, nd] at z; cases z
                      · rw [updN_at] at z; exact z
                    unfold ts
                    rw [if_neg (by decide), if_neg (by omega), if_pos ⟨rfl, d2⟩, lnE, if_neg (by omega), show n + 1 - 1 = n by omega, updN_2, show e - p + 1 = e + 1 - p by omega]
                  have t2 := tr_n k6 tf
                  have bo2 : ik_bo 0 (nI e) 1 = some (nI (e + 1)) := by show some (nI e + nI 1) = _; rw [nI_add]
                  have d3' := eq_false d3
                  simp (decide := true) only [wE_lit, wL_lit, wE_loc, wL_loc, wE_add, wE_sub, wE_mul, wE_and, wE_or, wE_xor, wE_shl, wE_shr, wE_ushr, wE_div, wE_rem, wE_neg, wE_i2b, wE_l2i, wL_i2l, wL_add, wL_mul, wE_fld, wL_fld, wE_arr, wL_arr, wC_cmp, wC_cmp0, wC_cmpL, wC_and, wC_or, wC_not, wC_ite, wL_ite, wA_nil, wA_int, wA_long, wE_call, wL_call, wS_skip, wS_seq, wS_set, wS_setL, wS_inc, wS_if, wS_put, wS_putL, wS_putOp, wS_putOpL, wS_ast, wS_astL, wS_aop, wS_aopL, wS_ret, wS_retL, wS_retV, wS_do, wS_pop, wS_dead, wS_sw, wF_body, Nat.reduceAdd, Nat.zero_add, Bool.not_not, true_and, and_true, if_true, if_false, ↓reduceIte, eq_self, Value.int.injEq, Value.long.injEq, exists_eq_left', ik_b1, ik_b0, ik_bz0, ik_bz3, ik_bz3_1, ik_bz3_0, ik_cmp, ik_cmpL, ik_eI, ik_eL, ik_as, ik_i0, ik_i1, decide_eq_true_eq, decide_eq_false_iff_not, decide_true, decide_false, Bool.not_true, Bool.not_false, reduceCtorEq, forall_const, false_implies, true_implies, implies_true, true_and, and_true, and_self, false_and, and_false, Bool.and_true, Bool.true_and, not_true_eq_false, not_false_eq_true, if_true, if_false, ite_true, ite_false, ik_bz3_0, ik_bz3_1, ik_bz0, exists_eq', gd, k5, b1, b2, les, hee, lee, show ik_b2 true = 1 from rfl, k4, ix, Option.some.injEq, b6, e12, d3', bo2]
                  refine ⟨200 - (e + 1), by omega, b3.si _ (by omega), b4.si0 _ _, ?_, ?_, Or.inl ⟨e + 1, rfl, by omega, by omega, ik_si_same _ _ _ _, ?_, t2⟩⟩
                  · rw [ik_si_row _ _ _ _ _ (by decide)]; exact b5
                  · rw [ik_si_row _ _ _ _ _ (by decide)]; exact b6
                  · rw [ik_si_ne _ _ _ _ _ (by decide)]; exact k5
              | false =>
                simp only [d2] at lee
                simp (decide := true) only [wE_lit, wL_lit, wE_loc, wL_loc, wE_add, wE_sub, wE_mul, wE_and, wE_or, wE_xor, wE_shl, wE_shr, wE_ushr, wE_div, wE_rem, wE_neg, wE_i2b, wE_l2i, wL_i2l, wL_add, wL_mul, wE_fld, wL_fld, wE_arr, wL_arr, wC_cmp, wC_cmp0, wC_cmpL, wC_and, wC_or, wC_not, wC_ite, wL_ite, wA_nil, wA_int, wA_long, wE_call, wL_call, wS_skip, wS_seq, wS_set, wS_setL, wS_inc, wS_if, wS_put, wS_putL, wS_putOp, wS_putOpL, wS_ast, wS_astL, wS_aop, wS_aopL, wS_ret, wS_retL, wS_retV, wS_do, wS_pop, wS_dead, wS_sw, wF_body, Nat.reduceAdd, Nat.zero_add, Bool.not_not, true_and, and_true, if_true, if_false, ↓reduceIte, eq_self, Value.int.injEq, Value.long.injEq, exists_eq_left', ik_b1, ik_b0, ik_bz0, ik_bz3, ik_bz3_1, ik_bz3_0, ik_cmp, ik_cmpL, ik_eI, ik_eL, ik_as, ik_i0, ik_i1, decide_eq_true_eq, decide_eq_false_iff_not, decide_true, decide_false, Bool.not_true, Bool.not_false, reduceCtorEq, forall_const, false_implies, true_implies, implies_true, true_and, and_true, and_self, false_and, and_false, Bool.and_true, Bool.true_and, not_true_eq_false, not_false_eq_true, if_true, if_false, ite_true, ite_false, ik_bz3_0, ik_bz3_1, ik_bz0, exists_eq', gd, k5, b1, b2, les, hee, lee, show ik_b2 true = 1 from rfl, show ik_b2 false = 0 from rfl, k4, ix, Option.some.injEq]
                refine ⟨b3.si _ (by omega), Or.inr ⟨1, e - p, e, ?_, ?_, k2, k3, by omega, k6, fun _ => d2, ?_, ?_, ?_, ?_⟩⟩
                · rw [ik_si_row _ _ _ _ _ (by decide)]; exact k5
                · rw [ik_si_row _ _ _ _ _ (by decide)]; exact k4
                · rw [hq]; exact b4.siq _
                · rw [ik_si_row _ _ _ _ _ (by decide), ← hq, nd, if_neg (by decide)]; exact b5
                · rw [ik_si_row _ _ _ _ _ (by decide), ← hq]; exact b6
                · rw [← hq, nd, if_neg (by decide), show p + (e - p) = e by omega]; exact ik_si_same _ _ _ _
            · have nz := (nI_negne (k := e) (by omega) (by omega)).1
              rw [← k4] at nz
              obtain ⟨e30', he30⟩ : ∃ w, w = s3.1 0 30 := ⟨_, rfl⟩
              simp (decide := true) only [wE_lit, wL_lit, wE_loc, wL_loc, wE_add, wE_sub, wE_mul, wE_and, wE_or, wE_xor, wE_shl, wE_shr, wE_ushr, wE_div, wE_rem, wE_neg, wE_i2b, wE_l2i, wL_i2l, wL_add, wL_mul, wE_fld, wL_fld, wE_arr, wL_arr, wC_cmp, wC_cmp0, wC_cmpL, wC_and, wC_or, wC_not, wC_ite, wL_ite, wA_nil, wA_int, wA_long, wE_call, wL_call, wS_skip, wS_seq, wS_set, wS_setL, wS_inc, wS_if, wS_put, wS_putL, wS_putOp, wS_putOpL, wS_ast, wS_astL, wS_aop, wS_aopL, wS_ret, wS_retL, wS_retV, wS_do, wS_pop, wS_dead, wS_sw, wF_body, Nat.reduceAdd, Nat.zero_add, Bool.not_not, true_and, and_true, if_true, if_false, ↓reduceIte, eq_self, Value.int.injEq, Value.long.injEq, exists_eq_left', ik_b1, ik_b0, ik_bz0, ik_bz3, ik_bz3_1, ik_bz3_0, ik_cmp, ik_cmpL, ik_eI, ik_eL, ik_as, ik_i0, ik_i1, decide_eq_true_eq, decide_eq_false_iff_not, decide_true, decide_false, Bool.not_true, Bool.not_false, reduceCtorEq, forall_const, false_implies, true_implies, implies_true, true_and, and_true, and_self, false_and, and_false, Bool.and_true, Bool.true_and, not_true_eq_false, not_false_eq_true, if_true, if_false, ite_true, ite_false, ik_bz3_0, ik_bz3_1, ik_bz0, exists_eq', gd, nz, b2, ix, Option.some.injEq]
              exact ⟨b3.si _ (by omega), Or.inl ⟨e, k1, k2, k3, by rw [ik_si_row _ _ _ _ _ (by decide)]; exact k4⟩⟩
        | false =>
          rw [d1, Bool.false_or] at c1
          have dg := dig_ge c1
          have lt3 : c p - 48 < B := by
            rw [c1, Bool.true_and, decide_eq_true_iff] at c3
            omega
          have gF : (nI (c p - 48) ≥ nI B) = False := eq_false (fun z => by
            have z' : nI B ≤ nI (c p - 48) := z
            rw [nI_leI (by omega) (by omega)] at z'
            omega)
          simp only [d1] at le
          simp only [c1] at di
          obtain ⟨g1, hg1⟩ : ∃ g1, g1 = ik_si (ik_si (ik_si g 16 q (nI (c p - 48))) 17 q (nI p)) 0 30 (nI (p + 1)) := ⟨_, rfl⟩
          have g30 : (ik_si (ik_si g 16 q (nI (c p - 48))) 17 q (nI p)).1 0 30 = nI p := by rw [ik_si_row _ _ _ _ _ (by decide), ik_si_row _ _ _ _ _ (by decide)]; exact e30
          have g30a : (ik_si g 16 q (nI (c p - 48))).1 0 30 = nI p := by rw [ik_si_row _ _ _ _ _ (by decide)]; exact e30
          have fr1 : fsM S g0 g1 := by rw [hg1]; exact ((hf.si _ (by omega)).si _ (by omega)).si _ (by omega)
          have cm1 : CM S c n fr ln bg g1 := by rw [hg1, hq]; exact ((hm.siq _).siq _).si0 _ _
          have p30 : g1.1 0 30 = nI (p + 1) := by rw [hg1]; exact ik_si_same _ _ _ _
          have p32 : g1.1 0 32 = 0 := by rw [hg1, ik_si_ne _ _ _ _ _ (by decide), ik_si_row _ _ _ _ _ (by decide), ik_si_row _ _ _ _ _ (by decide)]; exact e32
          have p16 : g1.1 16 q = nI (c p - 48) := by rw [hg1, ik_si_row _ _ _ _ _ (by decide), ik_si_row _ _ _ _ _ (by decide)]; exact ik_si_same _ _ _ _
          have p17 : g1.1 17 q = nI p := by rw [hg1, ik_si_row _ _ _ _ _ (by decide)]; exact ik_si_same _ _ _ _
          have t1 : tr B c (p + 1) = .inr (2, brk, n + 1, updN fr n p, updN ln n 0, updB bg n brk) := tr_n h (by unfold ts; rw [if_pos rfl, if_pos (by rw [d1, c1]; rfl), if_neg c2, if_neg c3, if_neg (by rw [d1]; decide), if_neg (by rw [d1]; decide)])
          unfold fX12_token
          simp (decide := true) only [wE_lit, wL_lit, wE_loc, wL_loc, wE_add, wE_sub, wE_mul, wE_and, wE_or, wE_xor, wE_shl, wE_shr, wE_ushr, wE_div, wE_rem, wE_neg, wE_i2b, wE_l2i, wL_i2l, wL_add, wL_mul, wE_fld, wL_fld, wE_arr, wL_arr, wC_cmp, wC_cmp0, wC_cmpL, wC_and, wC_or, wC_not, wC_ite, wL_ite, wA_nil, wA_int, wA_long, wE_call, wL_call, wS_skip, wS_seq, wS_set, wS_setL, wS_inc, wS_if, wS_put, wS_putL, wS_putOp, wS_putOpL, wS_ast, wS_astL, wS_aop, wS_aopL, wS_ret, wS_retL, wS_retV, wS_do, wS_pop, wS_dead, wS_sw, wF_body, Nat.reduceAdd, Nat.zero_add, Bool.not_not, true_and, and_true, if_true, if_false, ↓reduceIte, eq_self, Value.int.injEq, Value.long.injEq, exists_eq_left', ik_b1, ik_b0, ik_bz0, ik_bz3, ik_bz3_1, ik_bz3_0, ik_cmp, ik_cmpL, ik_eI, ik_eL, ik_as, ik_i0, ik_i1, decide_eq_true_eq, decide_eq_false_iff_not, decide_true, decide_false, Bool.not_true, Bool.not_false, reduceCtorEq, forall_const, false_implies, true_implies, implies_true, true_and, and_true, and_self, false_and, and_false, Bool.and_true, Bool.true_and, not_true_eq_false, not_false_eq_true, if_true, if_false, ite_true, ite_false, ik_bz3_0, ik_bz3_1, ik_bz0, exists_eq', wE_ite, he, le, di, show ik_b2 true = 1 from rfl, show ik_b2 false = 0 from rfl, n24', dig_sub dg.1, e3', gF, e30, gd, e32, eq', ix, Option.some.injEq, g30, g30a, bo, ← hg1, upd_at, upd_off]
          refine wS_wh _ _ (fun k σ => σ.1 3 = nI (c p) ∧ σ.1 4 = nI q ∧ σ.2.2 = g1) ?_ ik_fuel 0 _ (by unfold ik_fuel; omega) ⟨by simp [upd], by simp [upd], rfl⟩
          rintro k ⟨s1, s2, s3⟩ ⟨b1, b2, b3⟩
          simp only at b1 b2 b3
          subst b3
          simp (decide := true) only [wE_lit, wL_lit, wE_loc, wL_loc, wE_add, wE_sub, wE_mul, wE_and, wE_or, wE_xor, wE_shl, wE_shr, wE_ushr, wE_div, wE_rem, wE_neg, wE_i2b, wE_l2i, wL_i2l, wL_add, wL_mul, wE_fld, wL_fld, wE_arr, wL_arr, wC_cmp, wC_cmp0, wC_cmpL, wC_and, wC_or, wC_not, wC_ite, wL_ite, wA_nil, wA_int, wA_long, wE_call, wL_call, wS_skip, wS_seq, wS_set, wS_setL, wS_inc, wS_if, wS_put, wS_putL, wS_putOp, wS_putOpL, wS_ast, wS_astL, wS_aop, wS_aopL, wS_ret, wS_retL, wS_retV, wS_do, wS_pop, wS_dead, wS_sw, wF_body, Nat.reduceAdd, Nat.zero_add, Bool.not_not, true_and, and_true, if_true, if_false, ↓reduceIte, eq_self, Value.int.injEq, Value.long.injEq, exists_eq_left', ik_b1, ik_b0, ik_bz0, ik_bz3, ik_bz3_1, ik_bz3_0, ik_cmp, ik_cmpL, ik_eI, ik_eL, ik_as, ik_i0, ik_i1, decide_eq_true_eq, decide_eq_false_iff_not, decide_true, decide_false, Bool.not_true, Bool.not_false, reduceCtorEq, forall_const, false_implies, true_implies, implies_true, true_and, and_true, and_self, false_and, and_false, Bool.and_true, Bool.true_and, not_true_eq_false, not_false_eq_true, if_true, if_false, ite_true, ite_false, ik_bz3_0, ik_bz3_1, ik_bz0, exists_eq', gd, p32, b1, b2, le, show ik_b2 false = 0 from rfl, p30, ix, Option.some.injEq]
          refine ⟨fr1.si _ (by omega), Or.inr ⟨2, 0, p + 1, ?_, ?_, by omega, by omega, by omega, t1, fun z => by omega, ?_, ?_, ?_, ?_⟩⟩
          · rw [ik_si_row _ _ _ _ _ (by decide)]; exact p32
          · rw [ik_si_row _ _ _ _ _ (by decide)]; exact p30
          · rw [hq]; exact cm1.siq _
          · rw [ik_si_row _ _ _ _ _ (by decide), ← hq, if_pos c1]; exact p16
          · rw [ik_si_row _ _ _ _ _ (by decide), ← hq]; exact p17
          · rw [← hq, if_pos c1]; exact ik_si_same _ _ _ _
  · obtain ⟨z1, z2, z3⟩ := flt 1 (by omega) (by omega) (fun _ => by unfold ts; rw [if_pos rfl, if_neg c1]) (fun _ => rfl)
    have wr := w_wrongs (g := g) (e := 1) (p := p) e32 (Q := fun v g2 => v = .null ∧ g2 = ik_si g 0 32 (-(nI (1000 * 1 + p)))) (v := 1) rfl
    have wr' : fX12_wrongs [.int 1, .int (nI p)] g = some (.null, ik_si g 0 32 (-(nI (1000 * 1 + p)))) := eq_of_wF (wr.mpr ⟨rfl, rfl⟩)
    have nl : sg_let (c p) = false := by
      cases q : sg_let (c p) with
      | false => rfl
      | true => rw [q] at c1; simp at c1
    have nd : sg_dig (c p) = false := by
      cases q : sg_dig (c p) with
      | false => rfl
      | true => rw [q] at c1; simp at c1
    simp only [nl] at le
    simp only [nd] at di
    unfold fX12_token
    simp (decide := true) only [wE_lit, wL_lit, wE_loc, wL_loc, wE_add, wE_sub, wE_mul, wE_and, wE_or, wE_xor, wE_shl, wE_shr, wE_ushr, wE_div, wE_rem, wE_neg, wE_i2b, wE_l2i, wL_i2l, wL_add, wL_mul, wE_fld, wL_fld, wE_arr, wL_arr, wC_cmp, wC_cmp0, wC_cmpL, wC_and, wC_or, wC_not, wC_ite, wL_ite, wA_nil, wA_int, wA_long, wE_call, wL_call, wS_skip, wS_seq, wS_set, wS_setL, wS_inc, wS_if, wS_put, wS_putL, wS_putOp, wS_putOpL, wS_ast, wS_astL, wS_aop, wS_aopL, wS_ret, wS_retL, wS_retV, wS_do, wS_pop, wS_dead, wS_sw, wF_body, Nat.reduceAdd, Nat.zero_add, Bool.not_not, true_and, and_true, if_true, if_false, ↓reduceIte, eq_self, Value.int.injEq, Value.long.injEq, exists_eq_left', ik_b1, ik_b0, ik_bz0, ik_bz3, ik_bz3_1, ik_bz3_0, ik_cmp, ik_cmpL, ik_eI, ik_eL, ik_as, ik_i0, ik_i1, decide_eq_true_eq, decide_eq_false_iff_not, decide_true, decide_false, Bool.not_true, Bool.not_false, reduceCtorEq, forall_const, false_implies, true_implies, implies_true, true_and, and_true, and_self, false_and, and_false, Bool.and_true, Bool.true_and, not_true_eq_false, not_false_eq_true, if_true, if_false, ite_true, ite_false, ik_bz3_0, ik_bz3_1, ik_bz0, exists_eq', he, le, di, show ik_b2 false = 0 from rfl, e30, wF_eq wr', gd, z3, upd_at, upd_off]
    exact ⟨z1, Or.inl z2⟩
