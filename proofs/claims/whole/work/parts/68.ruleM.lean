theorem flM.f0 {g0 g : GG} {e q : Nat} (h : flM g0 g e q) : ∀ Q : Value → GG → Prop, wF fX12_isGood [] g Q ↔ Q (.int 0) g := by
  intro Q
  have := h.n0.1
  rw [w_good]
  rw [if_neg this]
theorem atM.f1 {g0 g : GG} {p : Nat} {st : List Nat} {cs : RC} {o : Nat} {ob : Bool} {bh : Int32} (h : atM g0 g p st cs o ob bh) : ∀ Q : Value → GG → Prop, wF fX12_isGood [] g Q ↔ Q (.int 1) g := by
  intro Q
  rw [w_good]
  rw [if_pos h.2.2.1]
theorem w_readsM {c : Nat → Nat} {N p : Nat} {g0 g : GG} {st : List Nat} {cs : RC} {o : Nat} {ob : Bool} {bh : Int32} (ht : txM c N g0) (h : atM g0 g p st cs o ob bh) (hp : p ≤ N) :
    wF fX12_reads [] g (fun v g' => ∃ k, v = .int (nI k) ∧ match sp_num c 5 p 0 with
      | .inl (e, q) => flM g0 g' e q
      | .inr (q, ds) => atM g0 g' q st cs o ob bh ∧ ds = [(0, k)]) := by
  obtain ⟨t1, t2, hz, t4⟩ := id ht
  have hc : ∀ k, c k < 256 := fun k => by
    by_cases hk : k < N
    · exact (t4 k hk).1
    · rw [hz k (by omega)]; decide
  have e30 : g.1 0 30 = nI p := h.2.1
  unfold fX12_reads
  simp (decide := true) only [wE_lit, wL_lit, wE_loc, wL_loc, wE_add, wE_sub, wE_mul, wE_and, wE_or, wE_xor, wE_shl, wE_shr, wE_ushr, wE_div, wE_rem, wE_neg, wE_i2b, wE_l2i, wL_i2l, wL_add, wL_mul, wE_fld, wL_fld, wE_arr, wL_arr, wC_cmp, wC_cmp0, wC_cmpL, wC_and, wC_or, wC_not, wC_ite, wL_ite, wA_nil, wA_int, wA_long, wE_call, wL_call, wS_skip, wS_seq, wS_set, wS_setL, wS_inc, wS_if, wS_put, wS_putL, wS_putOp, wS_putOpL, wS_ast, wS_astL, wS_aop, wS_aopL, wS_ret, wS_retL, wS_retV, wS_do, wS_pop, wS_dead, wS_sw, wF_body, Nat.reduceAdd, Nat.zero_add, Bool.not_not, true_and, and_true, if_true, if_false, ↓reduceIte, eq_self, Value.int.injEq, Value.long.injEq, exists_eq_left', ik_b1, ik_b0, ik_bz0, ik_bz3, ik_bz3_1, ik_bz3_0, ik_cmp, ik_cmpL, ik_eI, ik_eL, ik_as, ik_i0, ik_i1, decide_eq_true_eq, decide_eq_false_iff_not, decide_true, decide_false, Bool.not_true, Bool.not_false, reduceCtorEq, forall_const, false_implies, true_implies, implies_true, true_and, and_true, and_self, false_and, and_false, Bool.and_true, Bool.true_and, not_true_eq_false, not_false_eq_true, if_true, if_false, ite_true, ite_false, ik_bz3_0, ik_bz3_1, ik_bz0, e30, upd_at, upd_off]
  refine wS_wh _ _ (fun m σ => m ≤ 6 ∧ σ.1 1 = nI p ∧ ∃ v, σ.1 2 = nI v ∧ ((m ≥ 1 ∧ p + (6 - m) ≤ N ∧ atM g0 σ.2.2 (p + (6 - m)) st cs o ob bh ∧ sp_num c (m - 1) (p + (6 - m)) v = sp_num c 5 p 0) ∨ (m = 0 ∧ ∃ e q, sp_num c 5 p 0 = .inl (e, q) ∧ flM g0 σ.2.2 e q))) ?_ ik_fuel 6 _ (by unfold ik_fuel; omega) ⟨by omega, by simp [upd], 0, by simp [upd, nI_0], Or.inl ⟨by omega, by omega, by simpa using h, rfl⟩⟩
  rintro m ⟨u1, u2, u3⟩ ⟨e1, e2, v, e4, e6⟩
  simp only at e2 e4 e6
  rcases e6 with ⟨a1, a1', a2, a4⟩ | ⟨rfl, e, q, a3, a4⟩
  · have hr := fun Q => w_hereM ht a2.1 a2.2.1 (show p + (6 - m) < 2 ^ 31 by omega) Q
    have e30' : u3.1 0 30 = nI (p + (6 - m)) := a2.2.1
    have q1 := nI_dig (hc (p + (6 - m)))
    have e5 : (nI (p + (6 - m)) = nI (p + 5)) ↔ m = 1 := by rw [nI_eq (by omega) (by omega)]; omega
    by_cases hd : sg_dig (c (p + (6 - m))) = true
    · have hlt := sp_end hz (sg_num (Or.inl rfl) hd).1
      have hd' := q1.mpr hd
      have hr' := hd
      simp only [sg_dig, Bool.and_eq_true, decide_eq_true_eq] at hr'
      have hv' : (10 : Int32) * nI v + nI (c (p + (6 - m))) - 48 = nI (10 * v + c (p + (6 - m)) - 48) := by
        rw [show (10 : Int32) = nI 10 from rfl, show (48 : Int32) = nI 48 from rfl, pk_mul, nI_add, pk_sub (by omega)]
      by_cases hm : m = 1
      · subst hm
        have hb := a2.bad (e := 2) (q := p + (6 - 1)) (by omega) (by omega)
        have wr := fun Q => w_wrongs (g := u3) (e := 2) (p := p + (6 - 1)) a2.2.2.1 Q (v := 2) rfl
        have hr2 : ∀ (Q : Value → GG → Prop), wF fX12_here [] (ik_si u3 0 32 (-(nI (1000 * 2 + (p + (6 - 1)))))) Q ↔ Q (.int (nI (c (p + (6 - 1))))) (ik_si u3 0 32 (-(nI (1000 * 2 + (p + (6 - 1)))))) := fun Q => w_hereM ht hb.1 (by rw [ik_si_ne _ _ _ _ _ (by omega)]; exact a2.2.1) (by omega) Q
        simp (decide := true) only [wE_lit, wL_lit, wE_loc, wL_loc, wE_add, wE_sub, wE_mul, wE_and, wE_or, wE_xor, wE_shl, wE_shr, wE_ushr, wE_div, wE_rem, wE_neg, wE_i2b, wE_l2i, wL_i2l, wL_add, wL_mul, wE_fld, wL_fld, wE_arr, wL_arr, wC_cmp, wC_cmp0, wC_cmpL, wC_and, wC_or, wC_not, wC_ite, wL_ite, wA_nil, wA_int, wA_long, wE_call, wL_call, wS_skip, wS_seq, wS_set, wS_setL, wS_inc, wS_if, wS_put, wS_putL, wS_putOp, wS_putOpL, wS_ast, wS_astL, wS_aop, wS_aopL, wS_ret, wS_retL, wS_retV, wS_do, wS_pop, wS_dead, wS_sw, wF_body, Nat.reduceAdd, Nat.zero_add, Bool.not_not, true_and, and_true, if_true, if_false, ↓reduceIte, eq_self, Value.int.injEq, Value.long.injEq, exists_eq_left', ik_b1, ik_b0, ik_bz0, ik_bz3, ik_bz3_1, ik_bz3_0, ik_cmp, ik_cmpL, ik_eI, ik_eL, ik_as, ik_i0, ik_i1, decide_eq_true_eq, decide_eq_false_iff_not, decide_true, decide_false, Bool.not_true, Bool.not_false, reduceCtorEq, forall_const, false_implies, true_implies, implies_true, true_and, and_true, and_self, false_and, and_false, Bool.and_true, Bool.true_and, not_true_eq_false, not_false_eq_true, if_true, if_false, ite_true, ite_false, ik_bz3_0, ik_bz3_1, ik_bz0, a2.f1, hr, w_digitM, hd', e30', e2, show (5 : Int32) = nI 5 from rfl, nI_add, e5, wr, hr2, e4, hv', upd_at, upd_off, ik_si_ne, ik_bo, Option.some.injEq, nI_1]
        refine ⟨0, by omega, by omega, _, rfl, Or.inr ⟨rfl, 2, p + (6 - 1), ?_, ?_⟩⟩
        · rw [← a4]
          show (if sg_dig (c (p + (6 - 1))) = true then _ else _) = _
          rw [if_pos hd]
        · exact ⟨hb.1.si0 (by omega) _, by rw [ik_si_ne _ _ _ _ _ (by omega)]; exact hb.2.1, hb.2.2⟩
      · have s1 := a2.set.2.1 (p + (6 - m) + 1)
        simp (decide := true) only [wE_lit, wL_lit, wE_loc, wL_loc, wE_add, wE_sub, wE_mul, wE_and, wE_or, wE_xor, wE_shl, wE_shr, wE_ushr, wE_div, wE_rem, wE_neg, wE_i2b, wE_l2i, wL_i2l, wL_add, wL_mul, wE_fld, wL_fld, wE_arr, wL_arr, wC_cmp, wC_cmp0, wC_cmpL, wC_and, wC_or, wC_not, wC_ite, wL_ite, wA_nil, wA_int, wA_long, wE_call, wL_call, wS_skip, wS_seq, wS_set, wS_setL, wS_inc, wS_if, wS_put, wS_putL, wS_putOp, wS_putOpL, wS_ast, wS_astL, wS_aop, wS_aopL, wS_ret, wS_retL, wS_retV, wS_do, wS_pop, wS_dead, wS_sw, wF_body, Nat.reduceAdd, Nat.zero_add, Bool.not_not, true_and, and_true, if_true, if_false, ↓reduceIte, eq_self, Value.int.injEq, Value.long.injEq, exists_eq_left', ik_b1, ik_b0, ik_bz0, ik_bz3, ik_bz3_1, ik_bz3_0, ik_cmp, ik_cmpL, ik_eI, ik_eL, ik_as, ik_i0, ik_i1, decide_eq_true_eq, decide_eq_false_iff_not, decide_true, decide_false, Bool.not_true, Bool.not_false, reduceCtorEq, forall_const, false_implies, true_implies, implies_true, true_and, and_true, and_self, false_and, and_false, Bool.and_true, Bool.true_and, not_true_eq_false, not_false_eq_true, if_true, if_false, ite_true, ite_false, ik_bz3_0, ik_bz3_1, ik_bz0, a2.f1, hr, w_digitM, hd', e30', e2, show (5 : Int32) = nI 5 from rfl, nI_add, e5, hm, e4, hv', upd_at, upd_off, ik_si_ne, ik_bo, Option.some.injEq, nI_1]
        refine ⟨m - 1, by omega, by omega, _, rfl, Or.inl ⟨by omega, by omega, ?_, ?_⟩⟩
        · rw [show p + (6 - (m - 1)) = p + (6 - m) + 1 by omega]; exact s1
        · rw [← a4, show p + (6 - (m - 1)) = p + (6 - m) + 1 by omega]
          obtain ⟨i, hi⟩ : ∃ i, m - 1 = i + 1 := ⟨m - 2, by omega⟩
          rw [hi, show i + 1 - 1 = i by omega]
          show _ = if sg_dig (c (p + (6 - m))) = true then _ else _
          rw [if_pos hd]
    · have hd' : ¬ (48 ≤ nI (c (p + (6 - m))) ∧ nI (c (p + (6 - m))) ≤ 57) := fun h => hd (q1.mp h)
      simp (decide := true) only [wE_lit, wL_lit, wE_loc, wL_loc, wE_add, wE_sub, wE_mul, wE_and, wE_or, wE_xor, wE_shl, wE_shr, wE_ushr, wE_div, wE_rem, wE_neg, wE_i2b, wE_l2i, wL_i2l, wL_add, wL_mul, wE_fld, wL_fld, wE_arr, wL_arr, wC_cmp, wC_cmp0, wC_cmpL, wC_and, wC_or, wC_not, wC_ite, wL_ite, wA_nil, wA_int, wA_long, wE_call, wL_call, wS_skip, wS_seq, wS_set, wS_setL, wS_inc, wS_if, wS_put, wS_putL, wS_putOp, wS_putOpL, wS_ast, wS_astL, wS_aop, wS_aopL, wS_ret, wS_retL, wS_retV, wS_do, wS_pop, wS_dead, wS_sw, wF_body, Nat.reduceAdd, Nat.zero_add, Bool.not_not, true_and, and_true, if_true, if_false, ↓reduceIte, eq_self, Value.int.injEq, Value.long.injEq, exists_eq_left', ik_b1, ik_b0, ik_bz0, ik_bz3, ik_bz3_1, ik_bz3_0, ik_cmp, ik_cmpL, ik_eI, ik_eL, ik_as, ik_i0, ik_i1, decide_eq_true_eq, decide_eq_false_iff_not, decide_true, decide_false, Bool.not_true, Bool.not_false, reduceCtorEq, forall_const, false_implies, true_implies, implies_true, true_and, and_true, and_self, false_and, and_false, Bool.and_true, Bool.true_and, not_true_eq_false, not_false_eq_true, if_true, if_false, ite_true, ite_false, ik_bz3_0, ik_bz3_1, ik_bz0, a2.f1, hr, w_digitM, hd', e4]
      refine ⟨v, rfl, ?_⟩
      rw [← a4]
      have : sp_num c (m - 1) (p + (6 - m)) v = .inr (p + (6 - m), [(0, v)]) := by
        cases hmm : m - 1 with
        | zero => show (if sg_dig (c (p + (6 - m))) = true then _ else _) = _; rw [if_neg hd]
        | succ i => show (if sg_dig (c (p + (6 - m))) = true then _ else _) = _; rw [if_neg hd]
      rw [this]
      exact ⟨a2, rfl⟩
  · simp (decide := true) only [wE_lit, wL_lit, wE_loc, wL_loc, wE_add, wE_sub, wE_mul, wE_and, wE_or, wE_xor, wE_shl, wE_shr, wE_ushr, wE_div, wE_rem, wE_neg, wE_i2b, wE_l2i, wL_i2l, wL_add, wL_mul, wE_fld, wL_fld, wE_arr, wL_arr, wC_cmp, wC_cmp0, wC_cmpL, wC_and, wC_or, wC_not, wC_ite, wL_ite, wA_nil, wA_int, wA_long, wE_call, wL_call, wS_skip, wS_seq, wS_set, wS_setL, wS_inc, wS_if, wS_put, wS_putL, wS_putOp, wS_putOpL, wS_ast, wS_astL, wS_aop, wS_aopL, wS_ret, wS_retL, wS_retV, wS_do, wS_pop, wS_dead, wS_sw, wF_body, Nat.reduceAdd, Nat.zero_add, Bool.not_not, true_and, and_true, if_true, if_false, ↓reduceIte, eq_self, Value.int.injEq, Value.long.injEq, exists_eq_left', ik_b1, ik_b0, ik_bz0, ik_bz3, ik_bz3_1, ik_bz3_0, ik_cmp, ik_cmpL, ik_eI, ik_eL, ik_as, ik_i0, ik_i1, decide_eq_true_eq, decide_eq_false_iff_not, decide_true, decide_false, Bool.not_true, Bool.not_false, reduceCtorEq, forall_const, false_implies, true_implies, implies_true, true_and, and_true, and_self, false_and, and_false, Bool.and_true, Bool.true_and, not_true_eq_false, not_false_eq_true, if_true, if_false, ite_true, ite_false, ik_bz3_0, ik_bz3_1, ik_bz0, a4.f0, e4]
    refine ⟨v, rfl, ?_⟩
    rw [a3]
    exact a4
/-- how a method leaves the machine: stopped by the fault it was to come to, or at such a place -/
def xtM (c : Nat → Nat) (N : Nat) (g0 g : GG) (ob : Bool) (bh : Int32) (ctl lo : Nat) (R : (Nat × Nat) ⊕ AS) : Prop := (∃ e q, R = .inl (e, q) ∧ flM g0 g e q) ∨ ∃ p st cs, atM g0 g p st cs (opn st) ob bh ∧ FT c (ctl, p, st, cs) R ∧ st.length + cs.length ≤ p ∧ lo ≤ p ∧ p ≤ N ∧ opn st ≤ 6
theorem w_factorM {c : Nat → Nat} {N p : Nat} {g0 g : GG} {st : List Nat} {cs : RC} {ob : Bool} {bh : Int32} {R0 : (Nat × Nat) ⊕ AS} (ht : txM c N g0) (h : atM g0 g p st cs (opn st) ob bh) (hF : FT c (1, p, st, cs) R0) (hl : st.length + cs.length ≤ p) (hp : p ≤ N) (ho : opn st ≤ 6) :
    wF fX12_factor [] g (fun v g' => v = .null ∧ xtM c N g0 g' ob bh 2 (p + 1) R0) := by
  obtain ⟨t1, t2, hz, t4⟩ := id ht
  have hc : ∀ k, c k < 256 := fun k => by
    by_cases hk : k < N
    · exact (t4 k hk).1
    · rw [hz k (by omega)]; decide
  unfold fX12_factor
  simp (decide := true) only [wE_lit, wL_lit, wE_loc, wL_loc, wE_add, wE_sub, wE_mul, wE_and, wE_or, wE_xor, wE_shl, wE_shr, wE_ushr, wE_div, wE_rem, wE_neg, wE_i2b, wE_l2i, wL_i2l, wL_add, wL_mul, wE_fld, wL_fld, wE_arr, wL_arr, wC_cmp, wC_cmp0, wC_cmpL, wC_and, wC_or, wC_not, wC_ite, wL_ite, wA_nil, wA_int, wA_long, wE_call, wL_call, wS_skip, wS_seq, wS_set, wS_setL, wS_inc, wS_if, wS_put, wS_putL, wS_putOp, wS_putOpL, wS_ast, wS_astL, wS_aop, wS_aopL, wS_ret, wS_retL, wS_retV, wS_do, wS_pop, wS_dead, wS_sw, wF_body, Nat.reduceAdd, Nat.zero_add, Bool.not_not, true_and, and_true, if_true, if_false, ↓reduceIte, eq_self, Value.int.injEq, Value.long.injEq, exists_eq_left', ik_b1, ik_b0, ik_bz0, ik_bz3, ik_bz3_1, ik_bz3_0, ik_cmp, ik_cmpL, ik_eI, ik_eL, ik_as, ik_i0, ik_i1, decide_eq_true_eq, decide_eq_false_iff_not, decide_true, decide_false, Bool.not_true, Bool.not_false, reduceCtorEq, forall_const, false_implies, true_implies, implies_true, true_and, and_true, and_self, false_and, and_false, Bool.and_true, Bool.true_and, not_true_eq_false, not_false_eq_true, if_true, if_false, ite_true, ite_false, ik_bz3_0, ik_bz3_1, ik_bz0]
  refine wS_wh _ _ (fun m σ => xtM c N g0 σ.2.2 ob bh 1 (max p (N - m)) R0) ?_ ik_fuel (N - p) _ (by unfold ik_fuel; omega) (Or.inr ⟨p, st, cs, h, hF, hl, by omega, hp, ho⟩)
  rintro m ⟨u1, u2, u3⟩ (⟨e, q, a1, a2⟩ | ⟨p', st', cs', a1, a2, a3, a4, a5, a6⟩)
  · simp only at a2
    simp (decide := true) only [wE_lit, wL_lit, wE_loc, wL_loc, wE_add, wE_sub, wE_mul, wE_and, wE_or, wE_xor, wE_shl, wE_shr, wE_ushr, wE_div, wE_rem, wE_neg, wE_i2b, wE_l2i, wL_i2l, wL_add, wL_mul, wE_fld, wL_fld, wE_arr, wL_arr, wC_cmp, wC_cmp0, wC_cmpL, wC_and, wC_or, wC_not, wC_ite, wL_ite, wA_nil, wA_int, wA_long, wE_call, wL_call, wS_skip, wS_seq, wS_set, wS_setL, wS_inc, wS_if, wS_put, wS_putL, wS_putOp, wS_putOpL, wS_ast, wS_astL, wS_aop, wS_aopL, wS_ret, wS_retL, wS_retV, wS_do, wS_pop, wS_dead, wS_sw, wF_body, Nat.reduceAdd, Nat.zero_add, Bool.not_not, true_and, and_true, if_true, if_false, ↓reduceIte, eq_self, Value.int.injEq, Value.long.injEq, exists_eq_left', ik_b1, ik_b0, ik_bz0, ik_bz3, ik_bz3_1, ik_bz3_0, ik_cmp, ik_cmpL, ik_eI, ik_eL, ik_as, ik_i0, ik_i1, decide_eq_true_eq, decide_eq_false_iff_not, decide_true, decide_false, Bool.not_true, Bool.not_false, reduceCtorEq, forall_const, false_implies, true_implies, implies_true, true_and, and_true, and_self, false_and, and_false, Bool.and_true, Bool.true_and, not_true_eq_false, not_false_eq_true, if_true, if_false, ite_true, ite_false, ik_bz3_0, ik_bz3_1, ik_bz0, a2.f0]
    exact Or.inl ⟨e, q, a1, a2⟩
  · simp only at a1
    have hr := fun Q => w_hereM ht a1.1 a1.2.1 (show p' < 2 ^ 31 by omega) Q
    have n91 := nI_is (hc p') (k := 91) (by omega) (a := 91) rfl
    obtain ⟨f1, f2⟩ := a2.next (show (1 : Nat) ≠ 4 by decide)
    have hau : auto c (1, p', st', cs') = if c p' = 91 then (if opn st' = 6 then .inl (5, p') else .inr (1, p' + 1, 91 :: st', cs'))
        else if sg_dig (c p') = true then (match sp_num c 5 p' 0 with
          | .inl e => .inl e
          | .inr (q, ds) => .inr (2, q, st', cs' ++ ds))
        else if sg_fact (c p') = true then .inr (2, p' + 1, st', cs' ++ [(1, c p')]) else .inl (1, p') := rfl
    have hwf : wFa st' := a2.2.2
    by_cases c1 : c p' = 91
    · have hlt : p' < N := sp_end hz (by omega)
      rw [if_pos c1] at hau
      simp (decide := true) only [wE_lit, wL_lit, wE_loc, wL_loc, wE_add, wE_sub, wE_mul, wE_and, wE_or, wE_xor, wE_shl, wE_shr, wE_ushr, wE_div, wE_rem, wE_neg, wE_i2b, wE_l2i, wL_i2l, wL_add, wL_mul, wE_fld, wL_fld, wE_arr, wL_arr, wC_cmp, wC_cmp0, wC_cmpL, wC_and, wC_or, wC_not, wC_ite, wL_ite, wA_nil, wA_int, wA_long, wE_call, wL_call, wS_skip, wS_seq, wS_set, wS_setL, wS_inc, wS_if, wS_put, wS_putL, wS_putOp, wS_putOpL, wS_ast, wS_astL, wS_aop, wS_aopL, wS_ret, wS_retL, wS_retV, wS_do, wS_pop, wS_dead, wS_sw, wF_body, Nat.reduceAdd, Nat.zero_add, Bool.not_not, true_and, and_true, if_true, if_false, ↓reduceIte, eq_self, Value.int.injEq, Value.long.injEq, exists_eq_left', ik_b1, ik_b0, ik_bz0, ik_bz3, ik_bz3_1, ik_bz3_0, ik_cmp, ik_cmpL, ik_eI, ik_eL, ik_as, ik_i0, ik_i1, decide_eq_true_eq, decide_eq_false_iff_not, decide_true, decide_false, Bool.not_true, Bool.not_false, reduceCtorEq, forall_const, false_implies, true_implies, implies_true, true_and, and_true, and_self, false_and, and_false, Bool.and_true, Bool.true_and, not_true_eq_false, not_false_eq_true, if_true, if_false, ite_true, ite_false, ik_bz3_0, ik_bz3_1, ik_bz0, a1.f1, hr, n91, c1]
      refine wF_mono (w_opensM ht a1 a3 hlt (by rw [c1]; decide) a6) ?_
      rintro _ g1 ⟨rfl, k1⟩
      refine ⟨rfl, ?_⟩
      by_cases c6 : opn st' = 6
      · rw [if_pos c6] at k1 hau
        refine ⟨m - 1, by omega, Or.inl ⟨5, p', f1 _ hau, k1⟩⟩
      · rw [if_neg c6] at k1 hau
        rw [c1] at k1
        refine ⟨m - 1, by omega, Or.inr ⟨p' + 1, 91 :: st', cs', k1, f2 _ hau (Or.inr (Or.inr (Or.inl ⟨rfl, hwf⟩))), by simp; omega, by omega, by omega, ?_⟩⟩
        have := opn_yes (v := 91) (r := st') (by decide)
        omega
    · rw [if_neg c1] at hau
      have q1 := nI_dig (hc p')
      by_cases c2 : sg_dig (c p') = true
      · have hlt : p' < N := sp_end hz (sg_num (Or.inl rfl) c2).1
        have c2' := q1.mpr c2
        rw [if_pos c2] at hau
        simp (decide := true) only [wE_lit, wL_lit, wE_loc, wL_loc, wE_add, wE_sub, wE_mul, wE_and, wE_or, wE_xor, wE_shl, wE_shr, wE_ushr, wE_div, wE_rem, wE_neg, wE_i2b, wE_l2i, wL_i2l, wL_add, wL_mul, wE_fld, wL_fld, wE_arr, wL_arr, wC_cmp, wC_cmp0, wC_cmpL, wC_and, wC_or, wC_not, wC_ite, wL_ite, wA_nil, wA_int, wA_long, wE_call, wL_call, wS_skip, wS_seq, wS_set, wS_setL, wS_inc, wS_if, wS_put, wS_putL, wS_putOp, wS_putOpL, wS_ast, wS_astL, wS_aop, wS_aopL, wS_ret, wS_retL, wS_retV, wS_do, wS_pop, wS_dead, wS_sw, wF_body, Nat.reduceAdd, Nat.zero_add, Bool.not_not, true_and, and_true, if_true, if_false, ↓reduceIte, eq_self, Value.int.injEq, Value.long.injEq, exists_eq_left', ik_b1, ik_b0, ik_bz0, ik_bz3, ik_bz3_1, ik_bz3_0, ik_cmp, ik_cmpL, ik_eI, ik_eL, ik_as, ik_i0, ik_i1, decide_eq_true_eq, decide_eq_false_iff_not, decide_true, decide_false, Bool.not_true, Bool.not_false, reduceCtorEq, forall_const, false_implies, true_implies, implies_true, true_and, and_true, and_self, false_and, and_false, Bool.and_true, Bool.true_and, not_true_eq_false, not_false_eq_true, if_true, if_false, ite_true, ite_false, ik_bz3_0, ik_bz3_1, ik_bz0, a1.f1, hr, n91, c1, w_digitM, c2']
        refine wF_mono (w_readsM ht a1 a5) ?_
        rintro _ g1 ⟨k, rfl, k1⟩
        have nok := sp_num_ok hz 5 p' 0 p' (by omega) (by omega) a5 (by simp) (fun r h1 h2 => by omega) (Or.inr c2)
        revert k1 hau nok
        rcases sp_num c 5 p' 0 with ⟨e, q⟩ | ⟨q, ds⟩
        · intro hau k1 _
          simp (decide := true) only [Nat.reduceAdd, Nat.zero_add, Bool.not_not, true_and, and_true, if_true, if_false, ↓reduceIte, eq_self, Value.int.injEq, Value.long.injEq, exists_eq_left', ik_b1, ik_b0, ik_bz0, ik_bz3, ik_bz3_1, ik_bz3_0, ik_cmp, ik_cmpL, ik_eI, ik_eL, ik_as, ik_i0, ik_i1, decide_eq_true_eq, decide_eq_false_iff_not, decide_true, decide_false, Bool.not_true, Bool.not_false, reduceCtorEq, forall_const, false_implies, true_implies, implies_true, true_and, and_true, and_self, false_and, and_false, Bool.and_true, Bool.true_and, not_true_eq_false, not_false_eq_true, if_true, if_false, ite_true, ite_false, ik_bz3_0, ik_bz3_1, ik_bz0, w_emitF k1.n0.1]
          exact Or.inl ⟨e, q, f1 _ hau, k1⟩
        · rintro hau ⟨k1, k2⟩ nok
          subst k2
          have n1 : p' < q ∧ q ≤ N := ⟨nok.1, nok.2.1⟩
          have em := fun Q => w_emit k1 (show cs'.length < 160 by omega) (v := 0) (w := nI k) (a := 0) (b := k) rfl rfl Q
          simp (decide := true) only [Nat.reduceAdd, Nat.zero_add, Bool.not_not, true_and, and_true, if_true, if_false, ↓reduceIte, eq_self, Value.int.injEq, Value.long.injEq, exists_eq_left', ik_b1, ik_b0, ik_bz0, ik_bz3, ik_bz3_1, ik_bz3_0, ik_cmp, ik_cmpL, ik_eI, ik_eL, ik_as, ik_i0, ik_i1, decide_eq_true_eq, decide_eq_false_iff_not, decide_true, decide_false, Bool.not_true, Bool.not_false, reduceCtorEq, forall_const, false_implies, true_implies, implies_true, true_and, and_true, and_self, false_and, and_false, Bool.and_true, Bool.true_and, not_true_eq_false, not_false_eq_true, if_true, if_false, ite_true, ite_false, ik_bz3_0, ik_bz3_1, ik_bz0, em]
          exact Or.inr ⟨q, st', cs' ++ [(0, k)], k1.code 0 k, f2 _ hau hwf, by simp; omega, by omega, by omega, a6⟩
      · have c2' : ¬ (48 ≤ nI (c p') ∧ nI (c p') ≤ 57) := fun h => c2 (q1.mp h)
        rw [if_neg c2] at hau
        by_cases c3 : sg_fact (c p') = true
        · have hlt : p' < N := sp_end hz (sg_num (Or.inr (Or.inl rfl)) c3).1
          rw [if_pos c3] at hau
          have em := fun Q => w_emit a1 (show cs'.length < 160 by omega) (v := 1) (w := nI (c p')) (a := 1) (b := c p') rfl rfl Q
          have s1 := a1.code 1 (c p')
          have s2 := s1.set.2.1 (p' + 1)
          have e30 : (ik_si (ik_si (ik_si u3 30 cs'.length (nI 1)) 31 cs'.length (nI (c p'))) 0 47 (nI (cs'.length + 1))).1 0 30 = nI p' := s1.2.1
          simp (decide := true) only [wE_lit, wL_lit, wE_loc, wL_loc, wE_add, wE_sub, wE_mul, wE_and, wE_or, wE_xor, wE_shl, wE_shr, wE_ushr, wE_div, wE_rem, wE_neg, wE_i2b, wE_l2i, wL_i2l, wL_add, wL_mul, wE_fld, wL_fld, wE_arr, wL_arr, wC_cmp, wC_cmp0, wC_cmpL, wC_and, wC_or, wC_not, wC_ite, wL_ite, wA_nil, wA_int, wA_long, wE_call, wL_call, wS_skip, wS_seq, wS_set, wS_setL, wS_inc, wS_if, wS_put, wS_putL, wS_putOp, wS_putOpL, wS_ast, wS_astL, wS_aop, wS_aopL, wS_ret, wS_retL, wS_retV, wS_do, wS_pop, wS_dead, wS_sw, wF_body, Nat.reduceAdd, Nat.zero_add, Bool.not_not, true_and, and_true, if_true, if_false, ↓reduceIte, eq_self, Value.int.injEq, Value.long.injEq, exists_eq_left', ik_b1, ik_b0, ik_bz0, ik_bz3, ik_bz3_1, ik_bz3_0, ik_cmp, ik_cmpL, ik_eI, ik_eL, ik_as, ik_i0, ik_i1, decide_eq_true_eq, decide_eq_false_iff_not, decide_true, decide_false, Bool.not_true, Bool.not_false, reduceCtorEq, forall_const, false_implies, true_implies, implies_true, true_and, and_true, and_self, false_and, and_false, Bool.and_true, Bool.true_and, not_true_eq_false, not_false_eq_true, if_true, if_false, ite_true, ite_false, ik_bz3_0, ik_bz3_1, ik_bz0, a1.f1, hr, n91, c1, w_digitM, c2', w_isValueM (hc p'), c3, ik_b2, em, e30, ik_bo, Option.some.injEq, nI_1]
          exact Or.inr ⟨p' + 1, st', cs' ++ [(1, c p')], s2, f2 _ hau hwf, by simp; omega, by omega, by omega, a6⟩
        · have c3' : sg_fact (c p') = false := by simpa using c3
          rw [if_neg c3] at hau
          have wr := fun Q => w_wrongs (g := u3) (e := 1) (p := p') a1.2.2.1 Q (v := 1) rfl
          have e30 : u3.1 0 30 = nI p' := a1.2.1
          simp (decide := true) only [wE_lit, wL_lit, wE_loc, wL_loc, wE_add, wE_sub, wE_mul, wE_and, wE_or, wE_xor, wE_shl, wE_shr, wE_ushr, wE_div, wE_rem, wE_neg, wE_i2b, wE_l2i, wL_i2l, wL_add, wL_mul, wE_fld, wL_fld, wE_arr, wL_arr, wC_cmp, wC_cmp0, wC_cmpL, wC_and, wC_or, wC_not, wC_ite, wL_ite, wA_nil, wA_int, wA_long, wE_call, wL_call, wS_skip, wS_seq, wS_set, wS_setL, wS_inc, wS_if, wS_put, wS_putL, wS_putOp, wS_putOpL, wS_ast, wS_astL, wS_aop, wS_aopL, wS_ret, wS_retL, wS_retV, wS_do, wS_pop, wS_dead, wS_sw, wF_body, Nat.reduceAdd, Nat.zero_add, Bool.not_not, true_and, and_true, if_true, if_false, ↓reduceIte, eq_self, Value.int.injEq, Value.long.injEq, exists_eq_left', ik_b1, ik_b0, ik_bz0, ik_bz3, ik_bz3_1, ik_bz3_0, ik_cmp, ik_cmpL, ik_eI, ik_eL, ik_as, ik_i0, ik_i1, decide_eq_true_eq, decide_eq_false_iff_not, decide_true, decide_false, Bool.not_true, Bool.not_false, reduceCtorEq, forall_const, false_implies, true_implies, implies_true, true_and, and_true, and_self, false_and, and_false, Bool.and_true, Bool.true_and, not_true_eq_false, not_false_eq_true, if_true, if_false, ite_true, ite_false, ik_bz3_0, ik_bz3_1, ik_bz0, a1.f1, hr, n91, c1, w_digitM, c2', w_isValueM (hc p'), c3', ik_b2, e30, wr]
          exact Or.inl ⟨1, p', f1 _ hau, a1.bad (by omega) (by omega)⟩
