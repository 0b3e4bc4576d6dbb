theorem popW_tp_wf {st : List Nat} {cs : RC} (h : wFa st) : wFa (popW sg_tp st cs).1 ∧ sg_tp (top1 (popW sg_tp st cs).1) = false := wFa.popW (fun _ h => h) h
/-- behind a factor: on with a factor (or behind a bracket), else where the piece ends -/
theorem w_goesOnM {c : Nat → Nat} {N p : Nat} {g0 g : GG} {st : List Nat} {cs : RC} {ob : Bool} {R0 : (Nat × Nat) ⊕ AS} (ht : txM c N g0) (h : atM g0 g p st cs (opn st) ob 0) (hF : FT c (2, p, st, cs) R0) (hl : st.length + cs.length ≤ p) (hp : p ≤ N) (ho : opn st ≤ 6) :
    wF fX12_goesOn [] g (fun v g' => (v = .int 1 ∧ ((∃ e q, R0 = .inl (e, q) ∧ flM g0 g' e q) ∨ ∃ b, xtM c N g0 g' ob (ik_b2 b) (if b = true then 2 else 1) (p + 1) R0)) ∨
      (v = .int 0 ∧ ((∃ e q, R0 = .inl (e, q) ∧ flM g0 g' e q) ∨ ∃ st' cs', atM g0 g' p st' cs' (opn st') ob 0 ∧ FT c (3, p, (popE st' cs').1, (popE st' cs').2) R0 ∧ st'.length + cs'.length ≤ p ∧ opn st' ≤ 6))) := by
  obtain ⟨t1, t2, hz, t4⟩ := id ht
  have hc : ∀ k, c k < 256 := fun k => by
    by_cases hk : k < N
    · exact (t4 k hk).1
    · rw [hz k (by omega)]; decide
  have hr := fun Q => w_hereM ht h.1 h.2.1 (show p < 2 ^ 31 by omega) Q
  obtain ⟨f1, f2⟩ := hF.next (show (2 : Nat) ≠ 4 by decide)
  have hwf : wFa st := hF.2.2
  have hau : auto c (2, p, st, cs) = if sg_times (c p) = true then .inr (1, p + 1, c p :: (popW sg_times st cs).1, (popW sg_times st cs).2)
    else if sg_plus (c p) = true then .inr (1, p + 1, c p :: (popW sg_tp st cs).1, (popW sg_tp st cs).2)
    else if c p = 93 then (if top1 (popW sg_tp st cs).1 = 91 then .inr (2, p + 1, (popW sg_tp st cs).1.tail, (popW sg_tp st cs).2) else .inl (1, p))
    else if sg_cmp (c p) = true then (if top1 (popW sg_tp st cs).1 = 91 ∨ sg_cmp (top1 (popW sg_tp st cs).1) = true then .inl (1, p) else .inr (1, p + 1, c p :: (popW sg_tp st cs).1, (popW sg_tp st cs).2))
    else if sg_cmp (top1 (popW sg_tp st cs).1) = true then .inr (3, p, popE (popW sg_tp st cs).1.tail ((popW sg_tp st cs).2 ++ [(top1 (popW sg_tp st cs).1, 0)]))
    else .inl (1, p) := rfl
  have n93 := nI_is (hc p) (k := 93) (by omega) (a := 93) rfl
  unfold fX12_goesOn
  by_cases ctp : sg_tp (c p) = true
  · -- an operator
    have hlt : p < N := by
      refine sp_end hz ?_
      intro e
      rw [e] at ctp; exact absurd ctp (by decide)
    have hsel : (if sg_plus (c p) = true then sg_tp else sg_times) = (if sg_times (c p) = true then sg_times else sg_tp) := by
      cases h1 : sg_plus (c p)
      · have h2 : sg_times (c p) = true := by
          unfold sg_tp at ctp
          rw [h1, Bool.or_false] at ctp
          exact ctp
        rw [h2]; rfl
      · have h2 : sg_times (c p) = false := by
          simp only [sg_plus, Bool.or_eq_true, beq_iff_eq] at h1
          rcases h1 with e | e <;> rw [e] <;> decide
        rw [h2]; rfl
    have sm := w_sumsM h (show st.length + cs.length ≤ 160 by omega) (sg_plus (c p))
    rw [hsel] at sm
    obtain ⟨F, hFd⟩ : ∃ F, F = (if sg_times (c p) = true then sg_times else sg_tp) := ⟨_, rfl⟩
    rw [← hFd] at sm
    have hF1 : ∀ v, F v = true → sg_tp v = true := by
      intro v hv
      rw [hFd] at hv
      by_cases q : sg_times (c p) = true
      · rw [if_pos q] at hv; exact times_tp v hv
      · rw [if_neg q] at hv; exact hv
    have hau2 : auto c (2, p, st, cs) = .inr (1, p + 1, c p :: (popW F st cs).1, (popW F st cs).2) := by
      rw [hau, hFd]
      by_cases q : sg_times (c p) = true
      · rw [if_pos q, if_pos q]
      · have q2 : sg_plus (c p) = true := by
          unfold sg_tp at ctp
          rw [Bool.or_eq_true] at ctp
          exact ctp.resolve_left q
        rw [if_neg q, if_pos q2, if_neg q]
    have hwf2 := (wFa.popW hF1 (cs := cs) hwf).1
    have hop := opn_popW (f := F) (fun v hv => tp_open v (hF1 v hv)) st cs
    have hlen := len_popW F st cs
    have main : wF fX12_sums [.int (ik_b2 (sg_plus (c p)))] g (fun v g2 => v = .null ∧ wF fX12_puts [.int (nI (c p))] g2 (fun v g3 => v = .null ∧ xtM c N g0 g3 ob 0 1 (p + 1) R0)) := by
      refine wF_mono sm ?_
      rintro _ g2 ⟨rfl, k1⟩
      refine ⟨rfl, ?_⟩
      rw [w_puts k1 (show (popW F st cs).1.length < 200 by omega)]
      have k2 := k1.push (hc p)
      have o1 := opn_no (v := c p) (r := (popW F st cs).1) (tp_open _ ctp)
      refine ⟨rfl, Or.inr ⟨p + 1, _, _, ?_, f2 _ hau2 (Or.inl ⟨ctp, hwf2⟩), by simp; omega, by omega, by omega, by omega⟩⟩
      rw [o1, hop]
      exact k2
    have disj : ¬ (ik_b2 (sg_times (c p)) = 0 ∧ ik_b2 (sg_plus (c p)) = 0) := by
      unfold sg_tp at ctp
      rw [Bool.or_eq_true] at ctp
      rcases ctp with e | e <;> rw [e] <;> simp [ik_b2]
    simp (decide := true) only [wE_lit, wL_lit, wE_loc, wL_loc, wE_add, wE_sub, wE_mul, wE_and, wE_or, wE_xor, wE_shl, wE_shr, wE_ushr, wE_div, wE_rem, wE_neg, wE_i2b, wE_l2i, wL_i2l, wL_add, wL_mul, wE_fld, wL_fld, wE_arr, wL_arr, wC_cmp, wC_cmp0, wC_cmpL, wC_and, wC_or, wC_not, wC_ite, wL_ite, wA_nil, wA_int, wA_long, wE_call, wL_call, wS_skip, wS_seq, wS_set, wS_setL, wS_inc, wS_if, wS_put, wS_putL, wS_putOp, wS_putOpL, wS_ast, wS_astL, wS_aop, wS_aopL, wS_ret, wS_retL, wS_retV, wS_do, wS_pop, wS_dead, wS_sw, wF_body, Nat.reduceAdd, Nat.zero_add, Bool.not_not, true_and, and_true, if_true, if_false, ↓reduceIte, eq_self, Value.int.injEq, Value.long.injEq, exists_eq_left', ik_b1, ik_b0, ik_bz0, ik_bz3, ik_bz3_1, ik_bz3_0, ik_cmp, ik_cmpL, ik_eI, ik_eL, ik_as, ik_i0, ik_i1, decide_eq_true_eq, decide_eq_false_iff_not, decide_true, decide_false, Bool.not_true, Bool.not_false, reduceCtorEq, forall_const, false_implies, true_implies, implies_true, true_and, and_true, and_self, false_and, and_false, Bool.and_true, Bool.true_and, not_true_eq_false, not_false_eq_true, if_true, if_false, ite_true, ite_false, ik_bz3_0, ik_bz3_1, ik_bz0, hr, upd_at, upd_off, w_isTimesM (hc p), w_isPlusM (hc p)]
    have fin : wF fX12_sums [.int (ik_b2 (sg_plus (c p)))] g (fun v g2 => v = .null ∧ wF fX12_puts [.int (nI (c p))] g2 (fun v g3 => v = .null ∧ ((∃ e q, R0 = .inl (e, q) ∧ flM g0 g3 e q) ∨ ∃ b, xtM c N g0 g3 ob (ik_b2 b) (if b = true then 2 else 1) (p + 1) R0))) := by
      refine wF_mono main ?_
      rintro _ g2 ⟨rfl, k⟩
      refine ⟨rfl, wF_mono k ?_⟩
      rintro _ g3 ⟨rfl, k⟩
      exact ⟨rfl, Or.inr ⟨false, k⟩⟩
    by_cases z1 : ik_b2 (sg_times (c p)) = 0 <;> by_cases z2 : ik_b2 (sg_plus (c p)) = 0
    · exact absurd ⟨z1, z2⟩ disj
    all_goals
      simp (decide := true) only [z1, z2, ik_i0, ik_i1, decide_eq_true_eq, decide_eq_false_iff_not, decide_true, decide_false, Bool.not_true, Bool.not_false, reduceCtorEq, forall_const, false_implies, true_implies, implies_true, true_and, and_true, and_self, false_and, and_false, Bool.and_true, Bool.true_and, not_true_eq_false, not_false_eq_true, if_true, if_false, ite_true, ite_false, ik_bz3_0, ik_bz3_1, ik_bz0, or_false, false_or, and_false, false_and]
      first | exact fin | (rw [z2] at fin; exact fin)
  · have ctp' : sg_tp (c p) = false := by simpa using ctp
    have ct : sg_times (c p) = false ∧ sg_plus (c p) = false := by
      unfold sg_tp at ctp'
      rw [Bool.or_eq_false_iff] at ctp'
      exact ctp'
    rw [ct.1, ct.2] at hau
    simp only [Bool.false_eq_true, if_false] at hau
    have sm := w_sumsM h (show st.length + cs.length ≤ 160 by omega) true
    rw [if_pos rfl] at sm
    have hwf2 := popW_tp_wf (cs := cs) hwf
    have htop := hwf2.1.top hwf2.2
    have hop := opn_popW (f := sg_tp) tp_open st cs
    have hlen := len_popW sg_tp st cs
    generalize popW sg_tp st cs = P at *
    obtain ⟨s', X⟩ := P
    simp only at hau sm hwf2 htop hop hlen
    have sm1 : wF fX12_sums [.int 1] g (fun v g' => v = .null ∧ atM g0 g' p s' X (opn st) ob 0) := sm
    simp (decide := true) only [wE_lit, wL_lit, wE_loc, wL_loc, wE_add, wE_sub, wE_mul, wE_and, wE_or, wE_xor, wE_shl, wE_shr, wE_ushr, wE_div, wE_rem, wE_neg, wE_i2b, wE_l2i, wL_i2l, wL_add, wL_mul, wE_fld, wL_fld, wE_arr, wL_arr, wC_cmp, wC_cmp0, wC_cmpL, wC_and, wC_or, wC_not, wC_ite, wL_ite, wA_nil, wA_int, wA_long, wE_call, wL_call, wS_skip, wS_seq, wS_set, wS_setL, wS_inc, wS_if, wS_put, wS_putL, wS_putOp, wS_putOpL, wS_ast, wS_astL, wS_aop, wS_aopL, wS_ret, wS_retL, wS_retV, wS_do, wS_pop, wS_dead, wS_sw, wF_body, Nat.reduceAdd, Nat.zero_add, Bool.not_not, true_and, and_true, if_true, if_false, ↓reduceIte, eq_self, Value.int.injEq, Value.long.injEq, exists_eq_left', ik_b1, ik_b0, ik_bz0, ik_bz3, ik_bz3_1, ik_bz3_0, ik_cmp, ik_cmpL, ik_eI, ik_eL, ik_as, ik_i0, ik_i1, decide_eq_true_eq, decide_eq_false_iff_not, decide_true, decide_false, Bool.not_true, Bool.not_false, reduceCtorEq, forall_const, false_implies, true_implies, implies_true, true_and, and_true, and_self, false_and, and_false, Bool.and_true, Bool.true_and, not_true_eq_false, not_false_eq_true, if_true, if_false, ite_true, ite_false, ik_bz3_0, ik_bz3_1, ik_bz0, hr, upd_at, upd_off, w_isTimesM (hc p), w_isPlusM (hc p), ct, ik_b2, n93]
    refine wF_mono sm1 ?_
    rintro _ g2 ⟨rfl, k1⟩
    have tp := w_topM k1 (show s'.length ≤ 200 by omega)
    have t256 := k1.top256
    have n91 := nI_is t256 (k := 91) (by omega) (a := 91) rfl
    have e30 : g2.1 0 30 = nI p := k1.2.1
    have wr := fun Q => w_wrongs (g := g2) (e := 1) (p := p) k1.2.2.1 Q (v := 1) rfl
    have hbad := k1.bad (e := 1) (q := p) (by omega) (by omega)
    rw [← hop] at k1
    by_cases c93 : c p = 93
    · have hlt : p < N := sp_end hz (by omega)
      rw [if_pos c93] at hau
      by_cases c91 : top1 s' = 91
      · rw [if_pos c91] at hau
        cases s' with
        | nil => exact absurd c91 (by decide)
        | cons v r =>
          have hv : v = 91 := c91
          subst hv
          have hlen' : r.length + 1 + X.length = st.length + cs.length := hlen
          have o1 := opn_yes (v := 91) (r := r) (by decide)
          have e49 : g2.1 0 49 = nI (r.length + 1) := k1.2.2.2.2.2.1
          have s1 := k1.pop
          have e48 : (ik_si g2 0 49 (nI r.length)).1 0 48 = nI (opn r + 1) := by rw [← o1]; exact s1.2.2.2.2.1
          have s2 := s1.set.1 (opn r)
          have e30' : (ik_si (ik_si g2 0 49 (nI r.length)) 0 48 (nI (opn r))).1 0 30 = nI p := s2.2.1
          have s3 := s2.set.2.1 (p + 1)
          have s4 := s3.set.2.2.2 1
          have wfr : wFa r := by
            rcases htop with ⟨-, q⟩ | ⟨q, -⟩ | q
            · exact q
            · exact absurd (show sg_cmp 91 = true from q) (by decide)
            · exact absurd (sg_pc_of (wP.top q)).2.1 (by simp [top1])
          simp (decide := true) only [wE_lit, wL_lit, wE_loc, wL_loc, wE_add, wE_sub, wE_mul, wE_and, wE_or, wE_xor, wE_shl, wE_shr, wE_ushr, wE_div, wE_rem, wE_neg, wE_i2b, wE_l2i, wL_i2l, wL_add, wL_mul, wE_fld, wL_fld, wE_arr, wL_arr, wC_cmp, wC_cmp0, wC_cmpL, wC_and, wC_or, wC_not, wC_ite, wL_ite, wA_nil, wA_int, wA_long, wE_call, wL_call, wS_skip, wS_seq, wS_set, wS_setL, wS_inc, wS_if, wS_put, wS_putL, wS_putOp, wS_putOpL, wS_ast, wS_astL, wS_aop, wS_aopL, wS_ret, wS_retL, wS_retV, wS_do, wS_pop, wS_dead, wS_sw, wF_body, Nat.reduceAdd, Nat.zero_add, Bool.not_not, true_and, and_true, if_true, if_false, ↓reduceIte, eq_self, Value.int.injEq, Value.long.injEq, exists_eq_left', ik_b1, ik_b0, ik_bz0, ik_bz3, ik_bz3_1, ik_bz3_0, ik_cmp, ik_cmpL, ik_eI, ik_eL, ik_as, ik_i0, ik_i1, decide_eq_true_eq, decide_eq_false_iff_not, decide_true, decide_false, Bool.not_true, Bool.not_false, reduceCtorEq, forall_const, false_implies, true_implies, implies_true, true_and, and_true, and_self, false_and, and_false, Bool.and_true, Bool.true_and, not_true_eq_false, not_false_eq_true, if_true, if_false, ite_true, ite_false, ik_bz3_0, ik_bz3_1, ik_bz0, c93, tp, n91, c91, e49, ik_bo, Option.some.injEq, nI_pred, e48, e30', nI_1]
          exact Or.inl (Or.inr ⟨true, Or.inr ⟨p + 1, r, X, s4, f2 _ hau wfr, by omega, by omega, by omega, by omega⟩⟩)
      · rw [if_neg c91] at hau
        simp (decide := true) only [wE_lit, wL_lit, wE_loc, wL_loc, wE_add, wE_sub, wE_mul, wE_and, wE_or, wE_xor, wE_shl, wE_shr, wE_ushr, wE_div, wE_rem, wE_neg, wE_i2b, wE_l2i, wL_i2l, wL_add, wL_mul, wE_fld, wL_fld, wE_arr, wL_arr, wC_cmp, wC_cmp0, wC_cmpL, wC_and, wC_or, wC_not, wC_ite, wL_ite, wA_nil, wA_int, wA_long, wE_call, wL_call, wS_skip, wS_seq, wS_set, wS_setL, wS_inc, wS_if, wS_put, wS_putL, wS_putOp, wS_putOpL, wS_ast, wS_astL, wS_aop, wS_aopL, wS_ret, wS_retL, wS_retV, wS_do, wS_pop, wS_dead, wS_sw, wF_body, Nat.reduceAdd, Nat.zero_add, Bool.not_not, true_and, and_true, if_true, if_false, ↓reduceIte, eq_self, Value.int.injEq, Value.long.injEq, exists_eq_left', ik_b1, ik_b0, ik_bz0, ik_bz3, ik_bz3_1, ik_bz3_0, ik_cmp, ik_cmpL, ik_eI, ik_eL, ik_as, ik_i0, ik_i1, decide_eq_true_eq, decide_eq_false_iff_not, decide_true, decide_false, Bool.not_true, Bool.not_false, reduceCtorEq, forall_const, false_implies, true_implies, implies_true, true_and, and_true, and_self, false_and, and_false, Bool.and_true, Bool.true_and, not_true_eq_false, not_false_eq_true, if_true, if_false, ite_true, ite_false, ik_bz3_0, ik_bz3_1, ik_bz0, c93, tp, n91, c91, e30, wr]
        exact Or.inr (Or.inl ⟨1, p, f1 _ hau, hbad⟩)
    · rw [if_neg c93] at hau
      by_cases cc : sg_cmp (c p) = true
      · have hlt : p < N := sp_end hz (sg_num (o := sg_cmp) (by simp) cc).1
        rw [if_pos cc] at hau
        by_cases cb : top1 s' = 91 ∨ sg_cmp (top1 s') = true
        · rw [if_pos cb] at hau
          have pf : ∀ Q : Value → GG → Prop, wF fX12_puts [.int (nI (c p))] (ik_si g2 0 32 (-(nI (1000 * 1 + p)))) Q ↔ _ := fun Q => w_putsF (n := s'.length) (p := p) (by rw [ik_si_ne _ _ _ _ _ (by omega)]; exact k1.2.2.2.2.2.1) (by rw [ik_si_ne _ _ _ _ _ (by omega)]; exact e30) (by omega) (nI (c p)) Q
          have fl := hbad.putsF s'.length (nI (c p)) (nI (s'.length + 1)) (nI (p + 1))
          by_cases c91 : top1 s' = 91
          · simp (decide := true) only [wE_lit, wL_lit, wE_loc, wL_loc, wE_add, wE_sub, wE_mul, wE_and, wE_or, wE_xor, wE_shl, wE_shr, wE_ushr, wE_div, wE_rem, wE_neg, wE_i2b, wE_l2i, wL_i2l, wL_add, wL_mul, wE_fld, wL_fld, wE_arr, wL_arr, wC_cmp, wC_cmp0, wC_cmpL, wC_and, wC_or, wC_not, wC_ite, wL_ite, wA_nil, wA_int, wA_long, wE_call, wL_call, wS_skip, wS_seq, wS_set, wS_setL, wS_inc, wS_if, wS_put, wS_putL, wS_putOp, wS_putOpL, wS_ast, wS_astL, wS_aop, wS_aopL, wS_ret, wS_retL, wS_retV, wS_do, wS_pop, wS_dead, wS_sw, wF_body, Nat.reduceAdd, Nat.zero_add, Bool.not_not, true_and, and_true, if_true, if_false, ↓reduceIte, eq_self, Value.int.injEq, Value.long.injEq, exists_eq_left', ik_b1, ik_b0, ik_bz0, ik_bz3, ik_bz3_1, ik_bz3_0, ik_cmp, ik_cmpL, ik_eI, ik_eL, ik_as, ik_i0, ik_i1, decide_eq_true_eq, decide_eq_false_iff_not, decide_true, decide_false, Bool.not_true, Bool.not_false, reduceCtorEq, forall_const, false_implies, true_implies, implies_true, true_and, and_true, and_self, false_and, and_false, Bool.and_true, Bool.true_and, not_true_eq_false, not_false_eq_true, if_true, if_false, ite_true, ite_false, ik_bz3_0, ik_bz3_1, ik_bz0, c93, w_isSignM (hc p), cc, ik_b2, tp, n91, c91, e30, wr, pf]
            exact Or.inl (Or.inl ⟨1, p, f1 _ hau, fl⟩)
          · have c92 := cb.resolve_left c91
            simp (decide := true) only [wE_lit, wL_lit, wE_loc, wL_loc, wE_add, wE_sub, wE_mul, wE_and, wE_or, wE_xor, wE_shl, wE_shr, wE_ushr, wE_div, wE_rem, wE_neg, wE_i2b, wE_l2i, wL_i2l, wL_add, wL_mul, wE_fld, wL_fld, wE_arr, wL_arr, wC_cmp, wC_cmp0, wC_cmpL, wC_and, wC_or, wC_not, wC_ite, wL_ite, wA_nil, wA_int, wA_long, wE_call, wL_call, wS_skip, wS_seq, wS_set, wS_setL, wS_inc, wS_if, wS_put, wS_putL, wS_putOp, wS_putOpL, wS_ast, wS_astL, wS_aop, wS_aopL, wS_ret, wS_retL, wS_retV, wS_do, wS_pop, wS_dead, wS_sw, wF_body, Nat.reduceAdd, Nat.zero_add, Bool.not_not, true_and, and_true, if_true, if_false, ↓reduceIte, eq_self, Value.int.injEq, Value.long.injEq, exists_eq_left', ik_b1, ik_b0, ik_bz0, ik_bz3, ik_bz3_1, ik_bz3_0, ik_cmp, ik_cmpL, ik_eI, ik_eL, ik_as, ik_i0, ik_i1, decide_eq_true_eq, decide_eq_false_iff_not, decide_true, decide_false, Bool.not_true, Bool.not_false, reduceCtorEq, forall_const, false_implies, true_implies, implies_true, true_and, and_true, and_self, false_and, and_false, Bool.and_true, Bool.true_and, not_true_eq_false, not_false_eq_true, if_true, if_false, ite_true, ite_false, ik_bz3_0, ik_bz3_1, ik_bz0, c93, w_isSignM (hc p), w_isSignM t256, cc, ik_b2, tp, n91, c91, c92, e30, wr, pf]
            exact Or.inl (Or.inl ⟨1, p, f1 _ hau, fl⟩)
        · rw [if_neg cb] at hau
          have c91 : ¬ top1 s' = 91 := fun h => cb (Or.inl h)
          have c92 : sg_cmp (top1 s') = false := by
            cases q : sg_cmp (top1 s')
            · rfl
            · exact absurd (Or.inr q) cb
          have wps : wP s' := by
            rcases htop with ⟨q, -⟩ | ⟨q, -⟩ | q
            · exact absurd q c91
            · rw [c92] at q; cases q
            · exact q
          have k2 := k1.push (hc p)
          have o1 : opn (c p :: s') = opn s' := opn_no (by
            simp only [sg_cmp, Bool.or_eq_true, beq_iff_eq, or_assoc] at cc
            rcases cc with e | e | e <;> rw [e] <;> decide)
          rw [← o1] at k2
          simp (decide := true) only [wE_lit, wL_lit, wE_loc, wL_loc, wE_add, wE_sub, wE_mul, wE_and, wE_or, wE_xor, wE_shl, wE_shr, wE_ushr, wE_div, wE_rem, wE_neg, wE_i2b, wE_l2i, wL_i2l, wL_add, wL_mul, wE_fld, wL_fld, wE_arr, wL_arr, wC_cmp, wC_cmp0, wC_cmpL, wC_and, wC_or, wC_not, wC_ite, wL_ite, wA_nil, wA_int, wA_long, wE_call, wL_call, wS_skip, wS_seq, wS_set, wS_setL, wS_inc, wS_if, wS_put, wS_putL, wS_putOp, wS_putOpL, wS_ast, wS_astL, wS_aop, wS_aopL, wS_ret, wS_retL, wS_retV, wS_do, wS_pop, wS_dead, wS_sw, wF_body, Nat.reduceAdd, Nat.zero_add, Bool.not_not, true_and, and_true, if_true, if_false, ↓reduceIte, eq_self, Value.int.injEq, Value.long.injEq, exists_eq_left', ik_b1, ik_b0, ik_bz0, ik_bz3, ik_bz3_1, ik_bz3_0, ik_cmp, ik_cmpL, ik_eI, ik_eL, ik_as, ik_i0, ik_i1, decide_eq_true_eq, decide_eq_false_iff_not, decide_true, decide_false, Bool.not_true, Bool.not_false, reduceCtorEq, forall_const, false_implies, true_implies, implies_true, true_and, and_true, and_self, false_and, and_false, Bool.and_true, Bool.true_and, not_true_eq_false, not_false_eq_true, if_true, if_false, ite_true, ite_false, ik_bz3_0, ik_bz3_1, ik_bz0, c93, w_isSignM (hc p), w_isSignM t256, cc, ik_b2, tp, n91, c91, c92, w_puts k1 (show s'.length < 200 by omega)]
          exact Or.inl (Or.inr ⟨false, Or.inr ⟨p + 1, _, _, k2, f2 _ hau (Or.inr (Or.inl ⟨cc, wps⟩)), by simp; omega, by omega, by omega, by omega⟩⟩)
      · have cc' : sg_cmp (c p) = false := by simpa using cc
        rw [if_neg cc] at hau
        by_cases cs' : sg_cmp (top1 s') = true
        · rw [if_pos cs'] at hau
          cases s' with
          | nil => exact absurd cs' (by decide)
          | cons v r =>
            have hlen' : r.length + 1 + X.length = st.length + cs.length := hlen
            have o1 : opn (v :: r) = opn r := opn_no (by
              have q : sg_cmp v = true := cs'
              simp only [sg_cmp, Bool.or_eq_true, beq_iff_eq, or_assoc] at q
              rcases q with e | e | e <;> rw [e] <;> decide)
            have wr' : wP r := by
              rcases htop with ⟨q, -⟩ | ⟨-, q⟩ | q
              · have : v = 91 := q
                have q2 : sg_cmp v = true := cs'
                rw [this] at q2; exact absurd q2 (by decide)
              · exact q
              · rw [(sg_pc_of (wP.top q)).2.2.1] at cs'; cases cs'
            have em := fun Q => w_emit k1 (show X.length < 160 by omega) (v := nI (top1 (v :: r))) (w := 0) (a := v) (b := 0) rfl rfl Q
            have s1 := k1.code v 0
            have e49 : (ik_si (ik_si (ik_si g2 30 X.length (nI v)) 31 X.length (nI 0)) 0 47 (nI (X.length + 1))).1 0 49 = nI (r.length + 1) := s1.2.2.2.2.2.1
            have s2 := s1.pop
            rw [o1] at s2
            have hpe := wP.popE (cs := X ++ [(v, 0)]) wr'
            simp (decide := true) only [wE_lit, wL_lit, wE_loc, wL_loc, wE_add, wE_sub, wE_mul, wE_and, wE_or, wE_xor, wE_shl, wE_shr, wE_ushr, wE_div, wE_rem, wE_neg, wE_i2b, wE_l2i, wL_i2l, wL_add, wL_mul, wE_fld, wL_fld, wE_arr, wL_arr, wC_cmp, wC_cmp0, wC_cmpL, wC_and, wC_or, wC_not, wC_ite, wL_ite, wA_nil, wA_int, wA_long, wE_call, wL_call, wS_skip, wS_seq, wS_set, wS_setL, wS_inc, wS_if, wS_put, wS_putL, wS_putOp, wS_putOpL, wS_ast, wS_astL, wS_aop, wS_aopL, wS_ret, wS_retL, wS_retV, wS_do, wS_pop, wS_dead, wS_sw, wF_body, Nat.reduceAdd, Nat.zero_add, Bool.not_not, true_and, and_true, if_true, if_false, ↓reduceIte, eq_self, Value.int.injEq, Value.long.injEq, exists_eq_left', ik_b1, ik_b0, ik_bz0, ik_bz3, ik_bz3_1, ik_bz3_0, ik_cmp, ik_cmpL, ik_eI, ik_eL, ik_as, ik_i0, ik_i1, decide_eq_true_eq, decide_eq_false_iff_not, decide_true, decide_false, Bool.not_true, Bool.not_false, reduceCtorEq, forall_const, false_implies, true_implies, implies_true, true_and, and_true, and_self, false_and, and_false, Bool.and_true, Bool.true_and, not_true_eq_false, not_false_eq_true, if_true, if_false, ite_true, ite_false, ik_bz3_0, ik_bz3_1, ik_bz0, c93, w_isSignM (hc p), w_isSignM t256, cc', cs', ik_b2, tp, em, e49, ik_bo, Option.some.injEq, nI_pred]
            refine Or.inr (Or.inr ⟨r, X ++ [(v, 0)], s2, f2 _ hau hpe, by simp; omega, by omega⟩)
        · have cs'' : sg_cmp (top1 s') = false := by simpa using cs'
          rw [if_neg cs'] at hau
          simp (decide := true) only [wE_lit, wL_lit, wE_loc, wL_loc, wE_add, wE_sub, wE_mul, wE_and, wE_or, wE_xor, wE_shl, wE_shr, wE_ushr, wE_div, wE_rem, wE_neg, wE_i2b, wE_l2i, wL_i2l, wL_add, wL_mul, wE_fld, wL_fld, wE_arr, wL_arr, wC_cmp, wC_cmp0, wC_cmpL, wC_and, wC_or, wC_not, wC_ite, wL_ite, wA_nil, wA_int, wA_long, wE_call, wL_call, wS_skip, wS_seq, wS_set, wS_setL, wS_inc, wS_if, wS_put, wS_putL, wS_putOp, wS_putOpL, wS_ast, wS_astL, wS_aop, wS_aopL, wS_ret, wS_retL, wS_retV, wS_do, wS_pop, wS_dead, wS_sw, wF_body, Nat.reduceAdd, Nat.zero_add, Bool.not_not, true_and, and_true, if_true, if_false, ↓reduceIte, eq_self, Value.int.injEq, Value.long.injEq, exists_eq_left', ik_b1, ik_b0, ik_bz0, ik_bz3, ik_bz3_1, ik_bz3_0, ik_cmp, ik_cmpL, ik_eI, ik_eL, ik_as, ik_i0, ik_i1, decide_eq_true_eq, decide_eq_false_iff_not, decide_true, decide_false, Bool.not_true, Bool.not_false, reduceCtorEq, forall_const, false_implies, true_implies, implies_true, true_and, and_true, and_self, false_and, and_false, Bool.and_true, Bool.true_and, not_true_eq_false, not_false_eq_true, if_true, if_false, ite_true, ite_false, ik_bz3_0, ik_bz3_1, ik_bz0, c93, w_isSignM (hc p), w_isSignM t256, cc', cs'', ik_b2, tp, e30, wr]
          exact Or.inr (Or.inl ⟨1, p, f1 _ hau, hbad⟩)
