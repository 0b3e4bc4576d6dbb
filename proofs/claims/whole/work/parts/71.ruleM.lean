theorem opn_popE : ∀ (s : List Nat) (x : RC), opn (popE s x).1 ≤ opn s
  | [], x => Nat.le_refl _
  | v :: r, x => by
    by_cases e : v = 33
    · subst e
      rw [popE_push, opn_yes (v := 33) (by decide)]
      have := opn_popE r (x ++ [(2, 0)])
      omega
    · rw [popE_end (show top1 (v :: r) ≠ 33 from e)]
      exact Nat.le_refl _
/-- behind a piece: on with a piece; behind a closing sign; or over -/
theorem w_behindM {c : Nat → Nat} {N p : Nat} {g0 g : GG} {st : List Nat} {cs : RC} {R0 : (Nat × Nat) ⊕ AS} (ht : txM c N g0) (h : atM g0 g p st cs (opn st) false 0) (hF : FT c (3, p, st, cs) R0) (hl : st.length + cs.length ≤ p) (hp : p ≤ N) (ho : opn st ≤ 6) :
    wF fX12_goesBehind [] g (fun v g' => (v = .int 1 ∧ xtM c N g0 g' false 0 0 (p + 1) R0) ∨ (v = .int 0 ∧ ((∃ e q, R0 = .inl (e, q) ∧ flM g0 g' e q) ∨ xtM c N g0 g' false 0 3 (p + 1) R0 ∨ ∃ cs', R0 = .inr (4, p + 1, [], cs') ∧ atM g0 g' (p + 1) [] cs' 0 true 0 ∧ cs'.length ≤ p + 1 ∧ p + 1 ≤ N))) := by
  obtain ⟨t1, t2, hz, t4⟩ := id ht
  have hc : ∀ k, c k < 256 := fun k => by
    by_cases hk : k < N
    · exact (t4 k hk).1
    · rw [hz k (by omega)]; decide
  have hr := fun Q => w_hereM ht h.1 h.2.1 (show p < 2 ^ 31 by omega) Q
  obtain ⟨f1, f2⟩ := hF.next (show (3 : Nat) ≠ 4 by decide)
  have hwf : wP st ∧ top1 st ≠ 33 := hF.2.2
  have hau : auto c (3, p, st, cs) = if sg_and (c p) = true then .inr (0, p + 1, c p :: (popW sg_and st cs).1, (popW sg_and st cs).2)
    else if sg_or (c p) = true then .inr (0, p + 1, c p :: (popW sg_ao st cs).1, (popW sg_ao st cs).2)
    else if c p ≠ 41 then .inl (1, p)
    else if (popW sg_ao st cs).1.tail = [] then .inr (4, p + 1, [], (popW sg_ao st cs).2)
    else .inr (3, p + 1, popE (popW sg_ao st cs).1.tail (popW sg_ao st cs).2) := rfl
  have n38 := nI_is (hc p) (k := 38) (by omega) (a := 38) rfl
  have n124 := nI_is (hc p) (k := 124) (by omega) (a := 124) rfl
  have n41 := nI_is (hc p) (k := 41) (by omega) (a := 41) rfl
  have push : ∀ (F : Nat → Bool) (g2 : GG), (∀ v, F v = true → sg_ao v = true) → (c p = 38 ∨ c p = 124) → auto c (3, p, st, cs) = .inr (0, p + 1, c p :: (popW F st cs).1, (popW F st cs).2) → atM g0 g2 p (popW F st cs).1 (popW F st cs).2 (opn st) false 0 → p < N →
      wF fX12_puts [.int (nI (c p))] g2 (fun v g3 => v = .null ∧ xtM c N g0 g3 false 0 0 (p + 1) R0) := by
    intro F g2 hF1 hcp hau2 k1 hlt
    have hwf2 := hwf.1.popW (f := F) (fun v hv => ao_of v (hF1 v hv)) (cs := cs) hwf.2
    have hop := opn_popW (f := F) (fun v hv => ao_open v (hF1 v hv)) st cs
    have hlen := len_popW F st cs
    rw [w_puts k1 (show (popW F st cs).1.length < 200 by omega)]
    have k2 := k1.push (hc p)
    have o1 : opn (c p :: (popW F st cs).1) = opn (popW F st cs).1 := opn_no (by rcases hcp with e | e <;> rw [e] <;> decide)
    refine ⟨rfl, Or.inr ⟨p + 1, _, _, ?_, f2 _ hau2 (Or.inr (Or.inr ⟨hcp, hwf2.1, hwf2.2.1⟩)), by simp; omega, by omega, by omega, by omega⟩⟩
    rw [o1, hop]
    exact k2
  unfold fX12_goesBehind
  by_cases c38 : c p = 38
  · have hlt : p < N := sp_end hz (by omega)
    rw [if_pos (by rw [c38]; decide)] at hau
    have sm : wF fX12_joins [.int 0] g _ := w_joinsM h (show st.length + cs.length ≤ 160 by omega) false
    rw [if_neg (by simp)] at sm
    have ps := fun g2 => push sg_and g2 and_ao (Or.inl c38) hau
    rw [c38] at ps
    simp (decide := true) only [wE_lit, wL_lit, wE_loc, wL_loc, wE_add, wE_sub, wE_mul, wE_and, wE_or, wE_xor, wE_shl, wE_shr, wE_ushr, wE_div, wE_rem, wE_neg, wE_i2b, wE_l2i, wL_i2l, wL_add, wL_mul, wE_fld, wL_fld, wE_arr, wL_arr, wC_cmp, wC_cmp0, wC_cmpL, wC_and, wC_or, wC_not, wC_ite, wL_ite, wA_nil, wA_int, wA_long, wE_call, wL_call, wS_skip, wS_seq, wS_set, wS_setL, wS_inc, wS_if, wS_put, wS_putL, wS_putOp, wS_putOpL, wS_ast, wS_astL, wS_aop, wS_aopL, wS_ret, wS_retL, wS_retV, wS_do, wS_pop, wS_dead, wS_sw, wF_body, Nat.reduceAdd, Nat.zero_add, Bool.not_not, true_and, and_true, if_true, if_false, ↓reduceIte, eq_self, Value.int.injEq, Value.long.injEq, exists_eq_left', ik_b1, ik_b0, ik_bz0, ik_bz3, ik_bz3_1, ik_bz3_0, ik_cmp, ik_cmpL, ik_eI, ik_eL, ik_as, ik_i0, ik_i1, decide_eq_true_eq, decide_eq_false_iff_not, decide_true, decide_false, Bool.not_true, Bool.not_false, reduceCtorEq, forall_const, false_implies, true_implies, implies_true, true_and, and_true, and_self, false_and, and_false, Bool.and_true, Bool.true_and, not_true_eq_false, not_false_eq_true, if_true, if_false, ite_true, ite_false, ik_bz3_0, ik_bz3_1, ik_bz0, hr, upd_at, upd_off, wE_ite, n38, n124, c38, or_false, false_or]
    refine wF_mono sm ?_
    rintro _ g2 ⟨rfl, k1⟩
    exact ⟨rfl, ps g2 k1 hlt⟩
  · by_cases c124 : c p = 124
    · have hlt : p < N := sp_end hz (by omega)
      rw [if_neg (by rw [c124]; decide), if_pos (by rw [c124]; decide)] at hau
      have sm : wF fX12_joins [.int 1] g _ := w_joinsM h (show st.length + cs.length ≤ 160 by omega) true
      rw [if_pos rfl] at sm
      have ps := fun g2 => push sg_ao g2 (fun v hv => hv) (Or.inr c124) hau
      rw [c124] at ps
      simp (decide := true) only [wE_lit, wL_lit, wE_loc, wL_loc, wE_add, wE_sub, wE_mul, wE_and, wE_or, wE_xor, wE_shl, wE_shr, wE_ushr, wE_div, wE_rem, wE_neg, wE_i2b, wE_l2i, wL_i2l, wL_add, wL_mul, wE_fld, wL_fld, wE_arr, wL_arr, wC_cmp, wC_cmp0, wC_cmpL, wC_and, wC_or, wC_not, wC_ite, wL_ite, wA_nil, wA_int, wA_long, wE_call, wL_call, wS_skip, wS_seq, wS_set, wS_setL, wS_inc, wS_if, wS_put, wS_putL, wS_putOp, wS_putOpL, wS_ast, wS_astL, wS_aop, wS_aopL, wS_ret, wS_retL, wS_retV, wS_do, wS_pop, wS_dead, wS_sw, wF_body, Nat.reduceAdd, Nat.zero_add, Bool.not_not, true_and, and_true, if_true, if_false, ↓reduceIte, eq_self, Value.int.injEq, Value.long.injEq, exists_eq_left', ik_b1, ik_b0, ik_bz0, ik_bz3, ik_bz3_1, ik_bz3_0, ik_cmp, ik_cmpL, ik_eI, ik_eL, ik_as, ik_i0, ik_i1, decide_eq_true_eq, decide_eq_false_iff_not, decide_true, decide_false, Bool.not_true, Bool.not_false, reduceCtorEq, forall_const, false_implies, true_implies, implies_true, true_and, and_true, and_self, false_and, and_false, Bool.and_true, Bool.true_and, not_true_eq_false, not_false_eq_true, if_true, if_false, ite_true, ite_false, ik_bz3_0, ik_bz3_1, ik_bz0, hr, upd_at, upd_off, wE_ite, n38, n124, c38, c124, or_false, false_or]
      refine wF_mono sm ?_
      rintro _ g2 ⟨rfl, k1⟩
      exact ⟨rfl, ps g2 k1 hlt⟩
    · rw [if_neg (by simpa [sg_and] using c38), if_neg (by simpa [sg_or] using c124)] at hau
      by_cases c41 : c p = 41
      · have hlt : p < N := sp_end hz (by omega)
        rw [if_neg (fun h => h c41)] at hau
        have sm : wF fX12_joins [.int 1] g _ := w_joinsM h (show st.length + cs.length ≤ 160 by omega) true
        rw [if_pos rfl] at sm
        have hwf2 := hwf.1.popW (f := sg_ao) ao_of (cs := cs) hwf.2
        have hop := opn_popW (f := sg_ao) ao_open st cs
        have hlen := len_popW sg_ao st cs
        generalize popW sg_ao st cs = P at *
        obtain ⟨s', X⟩ := P
        simp only at hau sm hwf2 hop hlen
        simp (decide := true) only [wE_lit, wL_lit, wE_loc, wL_loc, wE_add, wE_sub, wE_mul, wE_and, wE_or, wE_xor, wE_shl, wE_shr, wE_ushr, wE_div, wE_rem, wE_neg, wE_i2b, wE_l2i, wL_i2l, wL_add, wL_mul, wE_fld, wL_fld, wE_arr, wL_arr, wC_cmp, wC_cmp0, wC_cmpL, wC_and, wC_or, wC_not, wC_ite, wL_ite, wA_nil, wA_int, wA_long, wE_call, wL_call, wS_skip, wS_seq, wS_set, wS_setL, wS_inc, wS_if, wS_put, wS_putL, wS_putOp, wS_putOpL, wS_ast, wS_astL, wS_aop, wS_aopL, wS_ret, wS_retL, wS_retV, wS_do, wS_pop, wS_dead, wS_sw, wF_body, Nat.reduceAdd, Nat.zero_add, Bool.not_not, true_and, and_true, if_true, if_false, ↓reduceIte, eq_self, Value.int.injEq, Value.long.injEq, exists_eq_left', ik_b1, ik_b0, ik_bz0, ik_bz3, ik_bz3_1, ik_bz3_0, ik_cmp, ik_cmpL, ik_eI, ik_eL, ik_as, ik_i0, ik_i1, decide_eq_true_eq, decide_eq_false_iff_not, decide_true, decide_false, Bool.not_true, Bool.not_false, reduceCtorEq, forall_const, false_implies, true_implies, implies_true, true_and, and_true, and_self, false_and, and_false, Bool.and_true, Bool.true_and, not_true_eq_false, not_false_eq_true, if_true, if_false, ite_true, ite_false, ik_bz3_0, ik_bz3_1, ik_bz0, hr, upd_at, upd_off, wE_ite, n38, n124, n41, c38, c124, c41, or_false, false_or]
        refine wF_mono sm ?_
        rintro _ g2 ⟨rfl, k1⟩
        rw [← hop] at k1
        obtain ⟨w1, w2, w3⟩ := hwf2
        cases s' with
        | nil => exact w1.elim
        | cons v r =>
          have hv : v = 40 ∧ (r = [] ∨ wP r) := by
            rcases w1 with q | ⟨q, -⟩ | ⟨q | q, -⟩
            · exact q
            · exact absurd q w2
            · subst q; exact absurd w3 (by simp [top1, sg_ao, sg_and])
            · subst q; exact absurd w3 (by simp [top1, sg_ao, sg_or])
          obtain ⟨rfl, hr'⟩ := hv
          have hlen' : r.length + 1 + X.length = st.length + cs.length := hlen
          have o1 := opn_yes (v := 40) (r := r) (by decide)
          have e49 : g2.1 0 49 = nI (r.length + 1) := k1.2.2.2.2.2.1
          have s1 := k1.pop
          have e48 : (ik_si g2 0 49 (nI r.length)).1 0 48 = nI (opn r + 1) := by rw [← o1]; exact s1.2.2.2.2.1
          have s2 := s1.set.1 (opn r)
          have e30 : (ik_si (ik_si g2 0 49 (nI r.length)) 0 48 (nI (opn r))).1 0 30 = nI p := s2.2.1
          have s3 := s2.set.2.1 (p + 1)
          have e49' : (ik_si (ik_si (ik_si g2 0 49 (nI r.length)) 0 48 (nI (opn r))) 0 30 (nI (p + 1))).1 0 49 = nI r.length := s3.2.2.2.2.2.1
          have hau' : auto c (3, p, st, cs) = if r = [] then .inr (4, p + 1, [], X) else .inr (3, p + 1, popE r X) := hau
          by_cases er : r = []
          · subst er
            rw [if_pos rfl] at hau'
            have s4 := s3.set.2.2.1 true
            have e49'' : (ik_si (ik_si (ik_si g2 0 49 (nI ([] : List Nat).length)) 0 48 (nI (opn []))) 0 30 (nI (p + 1))).1 0 49 = 0 := e49'
            have e50 : (ik_si (ik_si (ik_si (ik_si g2 0 49 (nI ([] : List Nat).length)) 0 48 (nI (opn []))) 0 30 (nI (p + 1))) 0 50 1).1 0 50 = 1 := ik_si_same _ _ _ _
            simp (decide := true) only [wE_lit, wL_lit, wE_loc, wL_loc, wE_add, wE_sub, wE_mul, wE_and, wE_or, wE_xor, wE_shl, wE_shr, wE_ushr, wE_div, wE_rem, wE_neg, wE_i2b, wE_l2i, wL_i2l, wL_add, wL_mul, wE_fld, wL_fld, wE_arr, wL_arr, wC_cmp, wC_cmp0, wC_cmpL, wC_and, wC_or, wC_not, wC_ite, wL_ite, wA_nil, wA_int, wA_long, wE_call, wL_call, wS_skip, wS_seq, wS_set, wS_setL, wS_inc, wS_if, wS_put, wS_putL, wS_putOp, wS_putOpL, wS_ast, wS_astL, wS_aop, wS_aopL, wS_ret, wS_retL, wS_retV, wS_do, wS_pop, wS_dead, wS_sw, wF_body, Nat.reduceAdd, Nat.zero_add, Bool.not_not, true_and, and_true, if_true, if_false, ↓reduceIte, eq_self, Value.int.injEq, Value.long.injEq, exists_eq_left', ik_b1, ik_b0, ik_bz0, ik_bz3, ik_bz3_1, ik_bz3_0, ik_cmp, ik_cmpL, ik_eI, ik_eL, ik_as, ik_i0, ik_i1, decide_eq_true_eq, decide_eq_false_iff_not, decide_true, decide_false, Bool.not_true, Bool.not_false, reduceCtorEq, forall_const, false_implies, true_implies, implies_true, true_and, and_true, and_self, false_and, and_false, Bool.and_true, Bool.true_and, not_true_eq_false, not_false_eq_true, if_true, if_false, ite_true, ite_false, ik_bz3_0, ik_bz3_1, ik_bz0, wE_ite, e49, e48, e30, e49'', e50, ik_bo, Option.some.injEq, nI_pred, nI_1, or_false, false_or]
            obtain ⟨⟨j, hj⟩, hfin, -⟩ := f2 _ hau' trivial
            have hR : R0 = .inr (4, p + 1, [], X) := by
              rw [← hj]
              have key : ∀ j, aut c j (4, p + 1, [], X) = .inr (4, p + 1, [], X) := by
                intro j
                induction j with
                | zero => rfl
                | succ j ih => exact ih
              exact key j
            refine Or.inr (Or.inr ⟨X, hR, s4, ?_, by omega⟩)
            have : ([] : List Nat).length = 0 := rfl
            omega
          · rw [if_neg er] at hau'
            have hwr := hr'.resolve_left er
            have rl : 0 < r.length := by
              cases r with
              | nil => exact absurd rfl er
              | cons _ _ => simp
            have e49n : ¬ nI r.length = 0 := nI_ne0 rl (by omega)
            have s4 := s3.set.2.2.1 false
            have e50 : (ik_si (ik_si (ik_si (ik_si g2 0 49 (nI r.length)) 0 48 (nI (opn r))) 0 30 (nI (p + 1))) 0 50 0).1 0 50 = 0 := ik_si_same _ _ _ _
            have hpe := wP.popE (cs := X) hwr
            have he := w_endsM s4 (show r.length + X.length ≤ 160 by omega)
            have l1 := len_popE r X
            have l2 := opn_popE r X
            simp (decide := true) only [wE_lit, wL_lit, wE_loc, wL_loc, wE_add, wE_sub, wE_mul, wE_and, wE_or, wE_xor, wE_shl, wE_shr, wE_ushr, wE_div, wE_rem, wE_neg, wE_i2b, wE_l2i, wL_i2l, wL_add, wL_mul, wE_fld, wL_fld, wE_arr, wL_arr, wC_cmp, wC_cmp0, wC_cmpL, wC_and, wC_or, wC_not, wC_ite, wL_ite, wA_nil, wA_int, wA_long, wE_call, wL_call, wS_skip, wS_seq, wS_set, wS_setL, wS_inc, wS_if, wS_put, wS_putL, wS_putOp, wS_putOpL, wS_ast, wS_astL, wS_aop, wS_aopL, wS_ret, wS_retL, wS_retV, wS_do, wS_pop, wS_dead, wS_sw, wF_body, Nat.reduceAdd, Nat.zero_add, Bool.not_not, true_and, and_true, if_true, if_false, ↓reduceIte, eq_self, Value.int.injEq, Value.long.injEq, exists_eq_left', ik_b1, ik_b0, ik_bz0, ik_bz3, ik_bz3_1, ik_bz3_0, ik_cmp, ik_cmpL, ik_eI, ik_eL, ik_as, ik_i0, ik_i1, decide_eq_true_eq, decide_eq_false_iff_not, decide_true, decide_false, Bool.not_true, Bool.not_false, reduceCtorEq, forall_const, false_implies, true_implies, implies_true, true_and, and_true, and_self, false_and, and_false, Bool.and_true, Bool.true_and, not_true_eq_false, not_false_eq_true, if_true, if_false, ite_true, ite_false, ik_bz3_0, ik_bz3_1, ik_bz0, wE_ite, e49, e48, e30, e49', e49n, e50, ik_bo, Option.some.injEq, nI_pred, nI_1, or_false, false_or]
            refine wF_mono he ?_
            rintro _ g3 ⟨rfl, k3⟩
            exact ⟨rfl, Or.inr (Or.inl (Or.inr ⟨p + 1, _, _, k3, f2 _ hau' hpe, by omega, by omega, by omega, by omega⟩))⟩
      · rw [if_pos c41] at hau
        have e30 : g.1 0 30 = nI p := h.2.1
        have wr := fun Q => w_wrongs (g := g) (e := 1) (p := p) h.2.2.1 Q (v := 1) rfl
        simp (decide := true) only [wE_lit, wL_lit, wE_loc, wL_loc, wE_add, wE_sub, wE_mul, wE_and, wE_or, wE_xor, wE_shl, wE_shr, wE_ushr, wE_div, wE_rem, wE_neg, wE_i2b, wE_l2i, wL_i2l, wL_add, wL_mul, wE_fld, wL_fld, wE_arr, wL_arr, wC_cmp, wC_cmp0, wC_cmpL, wC_and, wC_or, wC_not, wC_ite, wL_ite, wA_nil, wA_int, wA_long, wE_call, wL_call, wS_skip, wS_seq, wS_set, wS_setL, wS_inc, wS_if, wS_put, wS_putL, wS_putOp, wS_putOpL, wS_ast, wS_astL, wS_aop, wS_aopL, wS_ret, wS_retL, wS_retV, wS_do, wS_pop, wS_dead, wS_sw, wF_body, Nat.reduceAdd, Nat.zero_add, Bool.not_not, true_and, and_true, if_true, if_false, ↓reduceIte, eq_self, Value.int.injEq, Value.long.injEq, exists_eq_left', ik_b1, ik_b0, ik_bz0, ik_bz3, ik_bz3_1, ik_bz3_0, ik_cmp, ik_cmpL, ik_eI, ik_eL, ik_as, ik_i0, ik_i1, decide_eq_true_eq, decide_eq_false_iff_not, decide_true, decide_false, Bool.not_true, Bool.not_false, reduceCtorEq, forall_const, false_implies, true_implies, implies_true, true_and, and_true, and_self, false_and, and_false, Bool.and_true, Bool.true_and, not_true_eq_false, not_false_eq_true, if_true, if_false, ite_true, ite_false, ik_bz3_0, ik_bz3_1, ik_bz0, hr, upd_at, upd_off, n38, n124, n41, c38, c124, c41, e30, wr, or_false, false_or]
        exact Or.inl ⟨1, p, f1 _ hau, h.bad (by omega) (by omega)⟩
