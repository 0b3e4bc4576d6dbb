/-! all clauses of a bar: both sides -/
theorem rlH_iff {val : Nat → Int32} {k : Nat} {L : List (Nat × RC)} : rlH val k L = true ↔ ∀ (q b : Nat) (cs : RC), L[q]? = some (b, cs) → b = k → Ev val cs = some 1 := by
  unfold rlH
  rw [List.all_eq_true]
  constructor
  · intro h q b cs hq hb
    have := h _ (List.mem_of_getElem? hq)
    simpa [hb] using this
  · intro h w hw
    obtain ⟨q, hq⟩ := List.getElem?_of_mem hw
    have := h q w.1 w.2 hq
    by_cases e : w.1 = k
    · simp [e, this e]
    · simp [e]
theorem stc_len {c : Nat → Nat} {N : Nat} (hz : ∀ k, N ≤ k → c k = 0) : ∀ (L : List (Nat × RC)) (p : Nat), stc c N p L → p ≤ N → (cls L).length + p ≤ N
  | [], p, h, hp => by simpa [cls] using hp
  | (b, ds) :: r, p, h, hp => by
    obtain ⟨q, h1, h2, h3, h4, h5, h6, h7, h8, h9, h10⟩ := h
    have lt2 : p + 1 < N := sp_end hz (by omega)
    have ok := (sp_lvl_ok hz 5).2.2.2.2.2 (p + 2) (by omega)
    rw [h5] at ok
    obtain ⟨k1, k2, k3, -⟩ := ok
    have e : (cls ((b, ds) :: r)).length = ds.length + (cls r).length := by simp [cls]
    rcases h10 with ⟨er, h11⟩ | ⟨-, h11, h12⟩
    · subst er
      have : (cls ([] : List (Nat × RC))).length = 0 := rfl
      omega
    · have lt3 : q + 1 < N := sp_end hz (by omega)
      have := stc_len hz r (q + 2) h12 (by omega)
      omega
/-- what is known of the rules, drawn together -/
def rlD (c : Nat → Nat) (N : Nat) (L : List (Nat × RC)) (x m : GG) : Prop := N ≤ 160 ∧ (∀ k, N ≤ k → c k = 0) ∧ (∀ k, k < N → c k < 256 ∧ x.1 36 k = nI (c k)) ∧ x.1 35 3 = nI N ∧ m.1 0 5 = nI L.length ∧ stc c N 0 L ∧ L.length ≤ 12 ∧ (cls L).length ≤ 160 ∧
  (∀ q b ds, L[q]? = some (b, ds) → m.1 22 q = nI b ∧ m.1 23 q = nI (cls (L.take q)).length ∧ m.1 24 q = nI (cls (L.take (q + 1))).length) ∧ (∀ k o, (cls L)[k]? = some o → m.1 25 k = nI o.1 ∧ m.1 26 k = nI o.2) ∧ ∀ q ∈ L, (∀ o ∈ q.2, sh_ok o) ∧ q.1 < 4 ∧ ∀ val, ∃ E, isE val q.2 E
theorem rR1.d {x m : GG} (h : rR1 x m) : ∃ c N L, rlD c N L x m := by
  obtain ⟨c, N, L, h1, h2, h3, h4, h5, h6, h7, h8, h9, h10⟩ := h
  have st : stc c N 0 L := by
    rcases h7 with ⟨e1, e2⟩ | ⟨e1, e2⟩
    · subst e1 e2; exact Nat.le_refl 0
    · obtain ⟨r, g1, g2, g3⟩ := sp_all_stc h2 13 0 [] L (by omega) e2
      rw [List.nil_append] at g1
      rw [g1]; exact g3
  have sh := stc_sh L 0 st
  have ln := stc_len h2 L 0 st (by omega)
  refine ⟨c, N, L, h1, h2, h3, h4, h6, st, h8, by omega, h9, h10, fun q hq => ⟨(sh q hq).1, (sh q hq).2.1, fun val => ?_⟩⟩
  obtain ⟨p', q', e⟩ := (sh q hq).2.2
  exact (sp_lvl_E val c 5).1 p' q' q.2 e
theorem rR.d {x m : GG} (h : rR x m) : ∃ c N L, rlD c N L x m := by
  obtain ⟨c, N, L, h1, h2, h3, h4, h5, h6, h7, h8, h9, h10, h11⟩ := rR1.d h
  refine ⟨c, N, L, h1, h2, fun k hk => ⟨(h3 k hk).1, ?_⟩, ?_, ?_, h6, h7, h8, fun q b ds hq => ?_, fun k o hk => ?_, h11⟩
  · have := (h3 k hk).2
    rw [cut_get rfl] at this; exact this
  · rw [cut_get rfl] at h4; exact h4
  · rw [cut_get rfl] at h5; exact h5
  · have := h9 q b ds hq
    rw [cut_get rfl, cut_get rfl, cut_get rfl] at this; exact this
  · have := h10 k o hk
    rw [cut_get rfl, cut_get rfl] at this; exact this
theorem w_agRulesM {x m g : GG} {N B k i : Nat} {c : Nat → Nat} {M : Nat} {L : List (Nat × RC)} (hN : rN x m N) (hB : B ≤ 4) (hk : k < B) (hi : i < N) (hm : eqM m g) (hR : rlD c M L x m) :
    wF fX12_isAgainstRules [.int (nI k), .int (nI i)] g (fun v g' => v = .int (ik_b2 (!rlH (valM m k i) k L)) ∧ eqN m g g') := by
  obtain ⟨h1, h2, h3, h4, h5, h6, h7, h8, h9, h10, h11⟩ := hR
  unfold fX12_isAgainstRules
  simp (decide := true) only [wE_lit, wL_lit, wE_loc, wL_loc, wE_add, wE_sub, wE_mul, wE_and, wE_or, wE_xor, wE_shl, wE_shr, wE_ushr, wE_div, wE_rem, wE_neg, wE_i2b, wE_l2i, wL_i2l, wL_add, wL_mul, wE_fld, wL_fld, wE_arr, wL_arr, wC_cmp, wC_cmp0, wC_cmpL, wC_and, wC_or, wC_not, wC_ite, wL_ite, wA_nil, wA_int, wA_long, wE_call, wL_call, wS_skip, wS_seq, wS_set, wS_setL, wS_inc, wS_if, wS_put, wS_putL, wS_putOp, wS_putOpL, wS_ast, wS_astL, wS_aop, wS_aopL, wS_ret, wS_retL, wS_retV, wS_do, wS_pop, wS_dead, wS_sw, wF_body, Nat.reduceAdd, Nat.zero_add, Bool.not_not, true_and, and_true, if_true, if_false, ↓reduceIte, eq_self, Value.int.injEq, Value.long.injEq, exists_eq_left', ik_b1, ik_b0, ik_bz0, ik_bz3, ik_bz3_1, ik_bz3_0, ik_cmp, ik_cmpL, ik_eI, ik_eL, ik_as, ik_i0, ik_i1, decide_eq_true_eq, decide_eq_false_iff_not, decide_true, decide_false, Bool.not_true, Bool.not_false, reduceCtorEq, forall_const, false_implies, true_implies, implies_true, true_and, and_true, and_self, false_and, and_false, Bool.and_true, Bool.true_and, not_true_eq_false, not_false_eq_true, if_true, if_false, ite_true, ite_false, ik_bz3_0, ik_bz3_1, ik_bz0]
  refine wS_for _ _ (fun t σ => σ.1 3 = nI t ∧ σ.1 1 = nI k ∧ eqN m g σ.2.2 ∧ σ.2.2.1 0 53 = nI k ∧ σ.2.2.1 0 54 = nI i ∧ ∀ q b cs, q < t → L[q]? = some (b, cs) → b = k → Ev (valM m k i) cs = some 1) 0 L.length _ ⟨by simp [upd, nI_0], by simp [upd, ik_eI], (hm.n.si _ (by omega)).si _ (by omega), by rw [ik_si_ne _ _ _ _ _ (by decide), ik_si_same], ik_si_same _ _ _ _, fun q b cs hq => by omega⟩ (by omega) (by omega) ?_ ?_ ?_
  · rintro t ⟨u1, u2, u3⟩ ht ⟨b1, b2, b3, b4, b5, b6⟩
    exact wc_1 (by show u3.1 0 5 = _; rw [b3.1.2 5 (by decide)]; exact h5) (by omega) ht b1
  · rintro t ⟨u1, u2, u3⟩ ht ⟨b1, b2, b3, b4, b5, b6⟩
    simp only at b1 b2 b3 b4 b5
    obtain ⟨w, hw⟩ : ∃ w, L[t]? = some w := ⟨L[t], List.getElem?_eq_getElem ht⟩
    obtain ⟨b, cs⟩ := w
    obtain ⟨r22, r23, r24⟩ := h9 t b cs hw
    obtain ⟨s1, s2, s3⟩ := h11 _ (List.mem_of_getElem? hw)
    obtain ⟨E, hE⟩ := s3 (valM m k i)
    have ixt := ik_ix_nI (show t < 12 by omega) (by omega)
    have eb : (nI b = nI k) ↔ b = k := nI_eq (by have : b < 4 := s2; omega) (by omega)
    have hold := w_holdsM hN hB hk hi b3.1 b4 b5 hw (by omega) h8 r23 r24 h10 hE s1
    by_cases e : b = k
    · simp (decide := true) only [wE_lit, wL_lit, wE_loc, wL_loc, wE_add, wE_sub, wE_mul, wE_and, wE_or, wE_xor, wE_shl, wE_shr, wE_ushr, wE_div, wE_rem, wE_neg, wE_i2b, wE_l2i, wL_i2l, wL_add, wL_mul, wE_fld, wL_fld, wE_arr, wL_arr, wC_cmp, wC_cmp0, wC_cmpL, wC_and, wC_or, wC_not, wC_ite, wL_ite, wA_nil, wA_int, wA_long, wE_call, wL_call, wS_skip, wS_seq, wS_set, wS_setL, wS_inc, wS_if, wS_put, wS_putL, wS_putOp, wS_putOpL, wS_ast, wS_astL, wS_aop, wS_aopL, wS_ret, wS_retL, wS_retV, wS_do, wS_pop, wS_dead, wS_sw, wF_body, Nat.reduceAdd, Nat.zero_add, Bool.not_not, true_and, and_true, if_true, if_false, ↓reduceIte, eq_self, Value.int.injEq, Value.long.injEq, exists_eq_left', ik_b1, ik_b0, ik_bz0, ik_bz3, ik_bz3_1, ik_bz3_0, ik_cmp, ik_cmpL, ik_eI, ik_eL, ik_as, ik_i0, ik_i1, decide_eq_true_eq, decide_eq_false_iff_not, decide_true, decide_false, Bool.not_true, Bool.not_false, reduceCtorEq, forall_const, false_implies, true_implies, implies_true, true_and, and_true, and_self, false_and, and_false, Bool.and_true, Bool.true_and, not_true_eq_false, not_false_eq_true, if_true, if_false, ite_true, ite_false, ik_bz3_0, ik_bz3_1, ik_bz0, b1, b2, ixt, Option.some.injEq, b3.1.1 22 (by omega), r22, eb, e]
      refine wF_mono hold ?_
      rintro _ g' ⟨rfl, k1, k2, k3⟩
      by_cases hE1 : E = some 1
      · simp (decide := true) only [Nat.reduceAdd, Nat.zero_add, Bool.not_not, true_and, and_true, if_true, if_false, ↓reduceIte, eq_self, Value.int.injEq, Value.long.injEq, exists_eq_left', ik_b1, ik_b0, ik_bz0, ik_bz3, ik_bz3_1, ik_bz3_0, ik_cmp, ik_cmpL, ik_eI, ik_eL, ik_as, ik_i0, ik_i1, decide_eq_true_eq, decide_eq_false_iff_not, decide_true, decide_false, Bool.not_true, Bool.not_false, reduceCtorEq, forall_const, false_implies, true_implies, implies_true, true_and, and_true, and_self, false_and, and_false, Bool.and_true, Bool.true_and, not_true_eq_false, not_false_eq_true, if_true, if_false, ite_true, ite_false, ik_bz3_0, ik_bz3_1, ik_bz0, hE1, ik_b2, b1, b2, upd_at, upd_off, nI_1]
        refine ⟨b3.tr k1, k2, k3, fun q b' cs' hq hq2 hb => ?_⟩
        by_cases eq : q = t
        · subst eq
          rw [hw] at hq2
          cases hq2
          rw [isE_Ev hE]; exact hE1
        · exact b6 q b' cs' (by omega) hq2 hb
      · have nr : rlH (valM m k i) k L = false := by
          cases hr : rlH (valM m k i) k L with
          | false => rfl
          | true =>
            have := (rlH_iff.mp hr) t b cs hw e
            rw [isE_Ev hE] at this
            exact absurd this hE1
        simp (decide := true) only [Nat.reduceAdd, Nat.zero_add, Bool.not_not, true_and, and_true, if_true, if_false, ↓reduceIte, eq_self, Value.int.injEq, Value.long.injEq, exists_eq_left', ik_b1, ik_b0, ik_bz0, ik_bz3, ik_bz3_1, ik_bz3_0, ik_cmp, ik_cmpL, ik_eI, ik_eL, ik_as, ik_i0, ik_i1, decide_eq_true_eq, decide_eq_false_iff_not, decide_true, decide_false, Bool.not_true, Bool.not_false, reduceCtorEq, forall_const, false_implies, true_implies, implies_true, true_and, and_true, and_self, false_and, and_false, Bool.and_true, Bool.true_and, not_true_eq_false, not_false_eq_true, if_true, if_false, ite_true, ite_false, ik_bz3_0, ik_bz3_1, ik_bz0, hE1, ik_b2, nr]
        exact b3.tr k1
    · simp (decide := true) only [wE_lit, wL_lit, wE_loc, wL_loc, wE_add, wE_sub, wE_mul, wE_and, wE_or, wE_xor, wE_shl, wE_shr, wE_ushr, wE_div, wE_rem, wE_neg, wE_i2b, wE_l2i, wL_i2l, wL_add, wL_mul, wE_fld, wL_fld, wE_arr, wL_arr, wC_cmp, wC_cmp0, wC_cmpL, wC_and, wC_or, wC_not, wC_ite, wL_ite, wA_nil, wA_int, wA_long, wE_call, wL_call, wS_skip, wS_seq, wS_set, wS_setL, wS_inc, wS_if, wS_put, wS_putL, wS_putOp, wS_putOpL, wS_ast, wS_astL, wS_aop, wS_aopL, wS_ret, wS_retL, wS_retV, wS_do, wS_pop, wS_dead, wS_sw, wF_body, Nat.reduceAdd, Nat.zero_add, Bool.not_not, true_and, and_true, if_true, if_false, ↓reduceIte, eq_self, Value.int.injEq, Value.long.injEq, exists_eq_left', ik_b1, ik_b0, ik_bz0, ik_bz3, ik_bz3_1, ik_bz3_0, ik_cmp, ik_cmpL, ik_eI, ik_eL, ik_as, ik_i0, ik_i1, decide_eq_true_eq, decide_eq_false_iff_not, decide_true, decide_false, Bool.not_true, Bool.not_false, reduceCtorEq, forall_const, false_implies, true_implies, implies_true, true_and, and_true, and_self, false_and, and_false, Bool.and_true, Bool.true_and, not_true_eq_false, not_false_eq_true, if_true, if_false, ite_true, ite_false, ik_bz3_0, ik_bz3_1, ik_bz0, b1, b2, ixt, Option.some.injEq, b3.1.1 22 (by omega), r22, eb, e, upd_at, upd_off, nI_1]
      refine ⟨b3, b4, b5, fun q b' cs' hq hq2 hb => ?_⟩
      by_cases eq : q = t
      · subst eq
        rw [hw] at hq2
        cases hq2
        exact absurd hb e
      · exact b6 q b' cs' (by omega) hq2 hb
  · rintro ⟨u1, u2, u3⟩ ⟨b1, b2, b3, b4, b5, b6⟩
    simp only at b3
    have yr : rlH (valM m k i) k L = true := rlH_iff.mpr (fun q b cs hq hb => b6 q b cs (List.getElem?_eq_some_iff.mp hq).1 hq hb)
    simp (decide := true) only [wE_lit, wL_lit, wE_loc, wL_loc, wE_add, wE_sub, wE_mul, wE_and, wE_or, wE_xor, wE_shl, wE_shr, wE_ushr, wE_div, wE_rem, wE_neg, wE_i2b, wE_l2i, wL_i2l, wL_add, wL_mul, wE_fld, wL_fld, wE_arr, wL_arr, wC_cmp, wC_cmp0, wC_cmpL, wC_and, wC_or, wC_not, wC_ite, wL_ite, wA_nil, wA_int, wA_long, wE_call, wL_call, wS_skip, wS_seq, wS_set, wS_setL, wS_inc, wS_if, wS_put, wS_putL, wS_putOp, wS_putOpL, wS_ast, wS_astL, wS_aop, wS_aopL, wS_ret, wS_retL, wS_retV, wS_do, wS_pop, wS_dead, wS_sw, wF_body, Nat.reduceAdd, Nat.zero_add, Bool.not_not, true_and, and_true, if_true, if_false, ↓reduceIte, eq_self, Value.int.injEq, Value.long.injEq, exists_eq_left', ik_b1, ik_b0, ik_bz0, ik_bz3, ik_bz3_1, ik_bz3_0, ik_cmp, ik_cmpL, ik_eI, ik_eL, ik_as, ik_i0, ik_i1, decide_eq_true_eq, decide_eq_false_iff_not, decide_true, decide_false, Bool.not_true, Bool.not_false, reduceCtorEq, forall_const, false_implies, true_implies, implies_true, true_and, and_true, and_self, false_and, and_false, Bool.and_true, Bool.true_and, not_true_eq_false, not_false_eq_true, if_true, if_false, ite_true, ite_false, ik_bz3_0, ik_bz3_1, ik_bz0, yr, ik_b2]
    exact b3
/-- the class: all clauses of a bar -/
theorem w_holdX {x m g : GG} {k : Nat} {c : Nat → Nat} {M : Nat} {L : List (Nat × RC)} (hk : k < 4) (hR : rlD c M L x m) (hx : eqF x g) :
    wF fX7_hold [.int (nI k)] g (fun v g' => v = .int (ik_b2 (rlH (fun l => g.1 38 (l - 97)) k L)) ∧ eqF x g') := by
  obtain ⟨h1, hz, h3, h4, h5, h6, h7, h8, h9, h10, h11⟩ := hR
  obtain ⟨val, hval⟩ : ∃ val : Nat → Int32, val = fun l => g.1 38 (l - 97) := ⟨_, rfl⟩
  rw [← hval]
  have hC := (x_lvl hz 5 1 (by omega)).1
  have hcc : fX7_condition_f5 = (g_rules 6).1 := rfl
  unfold fX7_hold
  simp (decide := true) only [wE_lit, wL_lit, wE_loc, wL_loc, wE_add, wE_sub, wE_mul, wE_and, wE_or, wE_xor, wE_shl, wE_shr, wE_ushr, wE_div, wE_rem, wE_neg, wE_i2b, wE_l2i, wL_i2l, wL_add, wL_mul, wE_fld, wL_fld, wE_arr, wL_arr, wC_cmp, wC_cmp0, wC_cmpL, wC_and, wC_or, wC_not, wC_ite, wL_ite, wA_nil, wA_int, wA_long, wE_call, wL_call, wS_skip, wS_seq, wS_set, wS_setL, wS_inc, wS_if, wS_put, wS_putL, wS_putOp, wS_putOpL, wS_ast, wS_astL, wS_aop, wS_aopL, wS_ret, wS_retL, wS_retV, wS_do, wS_pop, wS_dead, wS_sw, wF_body, Nat.reduceAdd, Nat.zero_add, Bool.not_not, true_and, and_true, if_true, if_false, ↓reduceIte, eq_self, Value.int.injEq, Value.long.injEq, exists_eq_left', ik_b1, ik_b0, ik_bz0, ik_bz3, ik_bz3_1, ik_bz3_0, ik_cmp, ik_cmpL, ik_eI, ik_eL, ik_as, ik_i0, ik_i1, decide_eq_true_eq, decide_eq_false_iff_not, decide_true, decide_false, Bool.not_true, Bool.not_false, reduceCtorEq, forall_const, false_implies, true_implies, implies_true, true_and, and_true, and_self, false_and, and_false, Bool.and_true, Bool.true_and, not_true_eq_false, not_false_eq_true, if_true, if_false, ite_true, ite_false, ik_bz3_0, ik_bz3_1, ik_bz0, hcc]
  refine wS_for _ _ (fun t σ => σ.1 2 = nI t ∧ σ.1 1 = nI k ∧ eqF x σ.2.2 ∧ σ.2.2.1 38 = g.1 38 ∧ ∃ p Lr, t ≤ p ∧ stc c M p Lr ∧ (∀ q, t ≤ q → q < p → 0 < q ∧ (q < M → c (q - 1) ≠ 59)) ∧ (p < M → p = 0 ∨ c (p - 1) = 59) ∧ rlH val k Lr = rlH val k L) 0 M _ ⟨by simp [upd, nI_0], by simp [upd, ik_eI], hx, rfl, 0, L, Nat.le_refl _, h6, fun q h1 h2 => by omega, fun _ => Or.inl rfl, rfl⟩ (by omega) (by omega) ?_ ?_ ?_
  · rintro t ⟨u1, u2, u3⟩ ht ⟨b1, b2, b3, b4, -⟩
    simp only at b1 b3
    exact wc_X (M := 160) (by show u3.1 35 3 = _; rw [b3.2.1 3 (by decide)]; exact h4) h1 (by omega) ht b1
  · rintro t ⟨u1, u2, u3⟩ ht ⟨b1, b2, b3, b4, p, Lr, p1, p2, p3, p4, p5⟩
    simp only at b1 b2 b3 b4
    have r36 : u3.1 36 = x.1 36 := b3.1 36 (by decide) (by decide)
    have r3 : u3.1 35 3 = nI M := by rw [b3.2.1 3 (by decide)]; exact h4
    have ixt := ik_ix_nI (show t < 160 by omega) (by omega)
    obtain ⟨ct, xt⟩ := h3 t ht
    have t0 : (nI t = 0) ↔ t = 0 := by rw [← nI_0, nI_eq (by omega) (by omega)]
    have tp : ∀ h : t ≠ 0, ik_ix (nI t - 1) 160 = some (t - 1) ∧ (u3.1 36 (t - 1) = 59 ↔ c (t - 1) = 59) := by
      intro h
      have e : nI t - 1 = nI (t - 1) := by
        have := nI_pred (t - 1)
        rw [show t - 1 + 1 = t by omega] at this
        exact this
      obtain ⟨cq, xq⟩ := h3 (t - 1) (by omega)
      refine ⟨by rw [e]; exact ik_ix_nI (by omega) (by omega), ?_⟩
      rw [r36, xq]
      exact nI_is cq (by omega) rfl
    -- is a clause's beginning here
    by_cases hs : t = p
    · subst hs
      cases Lr with
      | nil => exact absurd p2 (by show ¬ M ≤ t; omega)
      | cons w r =>
        obtain ⟨b, ds⟩ := w
        obtain ⟨q, s1, s2, s3, s4, s5, s6, s7, s8, s9, s10⟩ := p2
        have hb48 : nI (c t) - 48 = nI b := by rw [show (48 : Int32) = nI 48 from rfl, pk_sub (by omega)]; congr 1; omega
        have eb : (nI b = nI k) ↔ b = k := nI_eq (by omega) (by omega)
        have lt2 : t + 1 < M := sp_end hz (by omega)
        have okq := (sp_lvl_ok hz 5).2.2.2.2.2 (t + 2) (by omega)
        rw [s5] at okq
        have hqt : t + 2 < q := okq.1
        have rl : rlH val k ((b, ds) :: r) = ((!(b == k) || decide (Ev val ds = some 1)) && rlH val k r) := rfl
        -- what stands behind
        have next : ∀ (v : Nat → Int32) (g' : GG), v 2 = nI (t + 1) → v 1 = nI k → eqF x g' → g'.1 38 = g.1 38 → (b = k → Ev val ds = some 1) → v 2 = nI (t + 1) ∧ v 1 = nI k ∧ eqF x g' ∧ g'.1 38 = g.1 38 ∧ ∃ p Lr, t + 1 ≤ p ∧ stc c M p Lr ∧ (∀ q, t + 1 ≤ q → q < p → 0 < q ∧ (q < M → c (q - 1) ≠ 59)) ∧ (p < M → p = 0 ∨ c (p - 1) = 59) ∧ rlH val k Lr = rlH val k L := by
          intro v g' a1 a2 a3 a4 a5
          have e1 : (!(b == k) || decide (Ev val ds = some 1)) = true := by
            by_cases e : b = k
            · simp [a5 e]
            · simp [e]
          rw [e1, Bool.true_and] at rl
          refine ⟨a1, a2, a3, a4, ?_⟩
          rcases s10 with ⟨er, h11⟩ | ⟨-, h11, h12⟩
          · subst er
            refine ⟨M, [], by omega, Nat.le_refl _, fun q' g1 g2 => ⟨by omega, fun _ => s8 _ (by omega) (by omega)⟩, fun h => by omega, by rw [← p5, rl]⟩
          · refine ⟨q + 2, r, by omega, h12, fun q' g1 g2 => ⟨by omega, fun _ => s8 _ (by omega) (by omega)⟩, fun _ => Or.inr (by rw [show q + 2 - 1 = q + 1 by omega]; exact h11), by rw [← p5, rl]⟩
        have start : wC (sOr (sCmp0 0 (sLoc 2)) (sCmp 0 (sArr 36 160 (sBin 1 (sLoc 2) (sLit 1))) (sLit 59))) (u1, u2, u3) (fun t g => t = true ∧ g = u3) := by
          simp (decide := true) only [wE_lit, wL_lit, wE_loc, wL_loc, wE_add, wE_sub, wE_mul, wE_and, wE_or, wE_xor, wE_shl, wE_shr, wE_ushr, wE_div, wE_rem, wE_neg, wE_i2b, wE_l2i, wL_i2l, wL_add, wL_mul, wE_fld, wL_fld, wE_arr, wL_arr, wC_cmp, wC_cmp0, wC_cmpL, wC_and, wC_or, wC_not, wC_ite, wL_ite, wA_nil, wA_int, wA_long, wE_call, wL_call, wS_skip, wS_seq, wS_set, wS_setL, wS_inc, wS_if, wS_put, wS_putL, wS_putOp, wS_putOpL, wS_ast, wS_astL, wS_aop, wS_aopL, wS_ret, wS_retL, wS_retV, wS_do, wS_pop, wS_dead, wS_sw, wF_body, Nat.reduceAdd, Nat.zero_add, Bool.not_not, true_and, and_true, if_true, if_false, ↓reduceIte, eq_self, Value.int.injEq, Value.long.injEq, exists_eq_left', ik_b1, ik_b0, ik_bz0, ik_bz3, ik_bz3_1, ik_bz3_0, ik_cmp, ik_cmpL, ik_eI, ik_eL, ik_as, ik_i0, ik_i1, decide_eq_true_eq, decide_eq_false_iff_not, decide_true, decide_false, Bool.not_true, Bool.not_false, reduceCtorEq, forall_const, false_implies, true_implies, implies_true, true_and, and_true, and_self, false_and, and_false, Bool.and_true, Bool.true_and, not_true_eq_false, not_false_eq_true, if_true, if_false, ite_true, ite_false, ik_bz3_0, ik_bz3_1, ik_bz0, b1, t0]
          by_cases z : t = 0
          · simp [z]
          · obtain ⟨tp1, tp2⟩ := tp z
            have h59 := (p4 ht).resolve_left z
            simp [z, tp1, tp2.mpr h59]
        obtain ⟨st1, st2, st3, st4, st5⟩ := start
        subst st4 st5
        have startE : ∀ (P : Int32 → GG → Prop), wE (sIte (sOr (sCmp0 0 (sLoc 2)) (sCmp 0 (sArr 36 160 (sBin 1 (sLoc 2) (sLit 1))) (sLit 59))) (sLit 1) (sLit 0)) (u1, u2, st2) P ↔ P 1 st2 := by
          intro P
          rw [wE_ite2]
          constructor
          · rintro ⟨a, b', e, h⟩
            rw [st3] at e
            cases e
            simpa using h
          · exact fun h => ⟨true, st2, st3, by simpa using h⟩
        by_cases e : b = k
        · obtain ⟨bg, tx⟩ := w_beginX (c := c) (N := M) (p := t + 2) (g := st2) (ask := true) h1 (by omega) hz (fun k' hk' => ⟨(h3 k' hk').1, by rw [if_pos rfl, r36]; exact (h3 k' hk').2⟩)
          have bg' : wF fX7_begin [.int 1, .int (nI (t + 2)), .int (nI M)] st2 _ := bg
          rw [wS_seq, wS_seq, wS_set, startE]
          simp (decide := true) only [wE_lit, wL_lit, wE_loc, wL_loc, wE_add, wE_sub, wE_mul, wE_and, wE_or, wE_xor, wE_shl, wE_shr, wE_ushr, wE_div, wE_rem, wE_neg, wE_i2b, wE_l2i, wL_i2l, wL_add, wL_mul, wE_fld, wL_fld, wE_arr, wL_arr, wC_cmp, wC_cmp0, wC_cmpL, wC_and, wC_or, wC_not, wC_ite, wL_ite, wA_nil, wA_int, wA_long, wE_call, wL_call, wS_skip, wS_seq, wS_set, wS_setL, wS_inc, wS_if, wS_put, wS_putL, wS_putOp, wS_putOpL, wS_ast, wS_astL, wS_aop, wS_aopL, wS_ret, wS_retL, wS_retV, wS_do, wS_pop, wS_dead, wS_sw, wF_body, Nat.reduceAdd, Nat.zero_add, Bool.not_not, true_and, and_true, if_true, if_false, ↓reduceIte, eq_self, Value.int.injEq, Value.long.injEq, exists_eq_left', ik_b1, ik_b0, ik_bz0, ik_bz3, ik_bz3_1, ik_bz3_0, ik_cmp, ik_cmpL, ik_eI, ik_eL, ik_as, ik_i0, ik_i1, decide_eq_true_eq, decide_eq_false_iff_not, decide_true, decide_false, Bool.not_true, Bool.not_false, reduceCtorEq, forall_const, false_implies, true_implies, implies_true, true_and, and_true, and_self, false_and, and_false, Bool.and_true, Bool.true_and, not_true_eq_false, not_false_eq_true, if_true, if_false, ite_true, ite_false, ik_bz3_0, ik_bz3_1, ik_bz0, b1, b2, ixt, Option.some.injEq, r36, xt, hb48, eb, e, r3, upd_at, upd_off, show nI t + 2 = nI (t + 2) from by rw [show (2 : Int32) = nI 2 from rfl, nI_add]]
          refine wF_mono bg' ?_
          rintro _ g1 ⟨rfl, k1, k10⟩
          refine ⟨rfl, ?_⟩
          have call := hC _ g1 (t + 2) true tx k1 (by omega)
          rw [s5] at call
          refine wF_mono call ?_
          rintro _ g2 ⟨w, rfl, hw, k2, E, k3, k4⟩
          obtain ⟨f1, f2, f3⟩ := k2.1
          have y38 : ∀ l, (ik_si (ik_si st2 35 5 (ik_b2 true)) 35 6 (nI M)).1 38 (l - 97) = val l := fun l => by
            rw [ik_si_row _ _ _ _ _ (by decide), ik_si_row _ _ _ _ _ (by decide), b4, hval]
          have hvE : isE val ds E := by
            have : (fun l => (ik_si (ik_si st2 35 5 (ik_b2 true)) 35 6 (nI M)).1 38 (l - 97)) = val := funext y38
            rw [← this]; exact k3
          have ex : eqF x g2 := by
            refine b3.tr ⟨fun a a1 a2 => ?_, fun j hj => ?_, ?_⟩
            · rw [f1 a a1, ik_si_row _ _ _ _ _ a1, ik_si_row _ _ _ _ _ a1]
            · rw [f2 j (by omega), ik_si_ne _ _ _ _ _ (by omega), ik_si_ne _ _ _ _ _ (by omega)]
            · rw [f3]; rfl
          have e38 : g2.1 38 = g.1 38 := by rw [f1 38 (by decide), ik_si_row _ _ _ _ _ (by decide), ik_si_row _ _ _ _ _ (by decide)]; exact b4
          have k4' := k4.2.1 rfl k10
          refine ⟨w, rfl, ?_⟩
          have hEv := isE_Ev hvE
          have good : (¬ w = 0 ∧ g2.1 35 10 = 0) ↔ E = some 1 := by
            cases E with
            | none =>
              have : g2.1 35 10 = 1 := k4'
              rw [this]
              simp
            | some u =>
              obtain ⟨k5, k6⟩ := k4'
              subst k6
              rw [b01_n (hw rfl), k5]
              simp
          by_cases hE1 : E = some 1
          · obtain ⟨g1', g2'⟩ := good.mpr hE1
            simp (decide := true) only [wE_lit, wL_lit, wE_loc, wL_loc, wE_add, wE_sub, wE_mul, wE_and, wE_or, wE_xor, wE_shl, wE_shr, wE_ushr, wE_div, wE_rem, wE_neg, wE_i2b, wE_l2i, wL_i2l, wL_add, wL_mul, wE_fld, wL_fld, wE_arr, wL_arr, wC_cmp, wC_cmp0, wC_cmpL, wC_and, wC_or, wC_not, wC_ite, wL_ite, wA_nil, wA_int, wA_long, wE_call, wL_call, wS_skip, wS_seq, wS_set, wS_setL, wS_inc, wS_if, wS_put, wS_putL, wS_putOp, wS_putOpL, wS_ast, wS_astL, wS_aop, wS_aopL, wS_ret, wS_retL, wS_retV, wS_do, wS_pop, wS_dead, wS_sw, wF_body, Nat.reduceAdd, Nat.zero_add, Bool.not_not, true_and, and_true, if_true, if_false, ↓reduceIte, eq_self, Value.int.injEq, Value.long.injEq, exists_eq_left', ik_b1, ik_b0, ik_bz0, ik_bz3, ik_bz3_1, ik_bz3_0, ik_cmp, ik_cmpL, ik_eI, ik_eL, ik_as, ik_i0, ik_i1, decide_eq_true_eq, decide_eq_false_iff_not, decide_true, decide_false, Bool.not_true, Bool.not_false, reduceCtorEq, forall_const, false_implies, true_implies, implies_true, true_and, and_true, and_self, false_and, and_false, Bool.and_true, Bool.true_and, not_true_eq_false, not_false_eq_true, if_true, if_false, ite_true, ite_false, ik_bz3_0, ik_bz3_1, ik_bz0, g1', g2', b1, b2, upd_at, upd_off, nI_1]
            have nx := next (fun j => if j = 2 then nI (t + 1) else nI k) g2 rfl rfl ex e38 (fun _ => by rw [hEv]; exact hE1)
            exact ⟨nx.2.2.1, nx.2.2.2.1, nx.2.2.2.2⟩
          · have nr : rlH val k L = false := by
              rw [← p5, rl, hEv]
              simp [e, hE1]
            have ng : ¬ (¬ w = 0 ∧ g2.1 35 10 = 0) := fun h => hE1 (good.mp h)
            by_cases z : w = 0
            · simp (decide := true) only [wE_lit, wL_lit, wE_loc, wL_loc, wE_add, wE_sub, wE_mul, wE_and, wE_or, wE_xor, wE_shl, wE_shr, wE_ushr, wE_div, wE_rem, wE_neg, wE_i2b, wE_l2i, wL_i2l, wL_add, wL_mul, wE_fld, wL_fld, wE_arr, wL_arr, wC_cmp, wC_cmp0, wC_cmpL, wC_and, wC_or, wC_not, wC_ite, wL_ite, wA_nil, wA_int, wA_long, wE_call, wL_call, wS_skip, wS_seq, wS_set, wS_setL, wS_inc, wS_if, wS_put, wS_putL, wS_putOp, wS_putOpL, wS_ast, wS_astL, wS_aop, wS_aopL, wS_ret, wS_retL, wS_retV, wS_do, wS_pop, wS_dead, wS_sw, wF_body, Nat.reduceAdd, Nat.zero_add, Bool.not_not, true_and, and_true, if_true, if_false, ↓reduceIte, eq_self, Value.int.injEq, Value.long.injEq, exists_eq_left', ik_b1, ik_b0, ik_bz0, ik_bz3, ik_bz3_1, ik_bz3_0, ik_cmp, ik_cmpL, ik_eI, ik_eL, ik_as, ik_i0, ik_i1, decide_eq_true_eq, decide_eq_false_iff_not, decide_true, decide_false, Bool.not_true, Bool.not_false, reduceCtorEq, forall_const, false_implies, true_implies, implies_true, true_and, and_true, and_self, false_and, and_false, Bool.and_true, Bool.true_and, not_true_eq_false, not_false_eq_true, if_true, if_false, ite_true, ite_false, ik_bz3_0, ik_bz3_1, ik_bz0, z, nr, ik_b2]
              exact ex
            · have z2 : ¬ g2.1 35 10 = 0 := fun h => ng ⟨z, h⟩
              simp (decide := true) only [wE_lit, wL_lit, wE_loc, wL_loc, wE_add, wE_sub, wE_mul, wE_and, wE_or, wE_xor, wE_shl, wE_shr, wE_ushr, wE_div, wE_rem, wE_neg, wE_i2b, wE_l2i, wL_i2l, wL_add, wL_mul, wE_fld, wL_fld, wE_arr, wL_arr, wC_cmp, wC_cmp0, wC_cmpL, wC_and, wC_or, wC_not, wC_ite, wL_ite, wA_nil, wA_int, wA_long, wE_call, wL_call, wS_skip, wS_seq, wS_set, wS_setL, wS_inc, wS_if, wS_put, wS_putL, wS_putOp, wS_putOpL, wS_ast, wS_astL, wS_aop, wS_aopL, wS_ret, wS_retL, wS_retV, wS_do, wS_pop, wS_dead, wS_sw, wF_body, Nat.reduceAdd, Nat.zero_add, Bool.not_not, true_and, and_true, if_true, if_false, ↓reduceIte, eq_self, Value.int.injEq, Value.long.injEq, exists_eq_left', ik_b1, ik_b0, ik_bz0, ik_bz3, ik_bz3_1, ik_bz3_0, ik_cmp, ik_cmpL, ik_eI, ik_eL, ik_as, ik_i0, ik_i1, decide_eq_true_eq, decide_eq_false_iff_not, decide_true, decide_false, Bool.not_true, Bool.not_false, reduceCtorEq, forall_const, false_implies, true_implies, implies_true, true_and, and_true, and_self, false_and, and_false, Bool.and_true, Bool.true_and, not_true_eq_false, not_false_eq_true, if_true, if_false, ite_true, ite_false, ik_bz3_0, ik_bz3_1, ik_bz0, z, z2, nr, ik_b2]
              exact ex
        · rw [wS_seq, wS_seq, wS_set, startE]
          simp (decide := true) only [wE_lit, wL_lit, wE_loc, wL_loc, wE_add, wE_sub, wE_mul, wE_and, wE_or, wE_xor, wE_shl, wE_shr, wE_ushr, wE_div, wE_rem, wE_neg, wE_i2b, wE_l2i, wL_i2l, wL_add, wL_mul, wE_fld, wL_fld, wE_arr, wL_arr, wC_cmp, wC_cmp0, wC_cmpL, wC_and, wC_or, wC_not, wC_ite, wL_ite, wA_nil, wA_int, wA_long, wE_call, wL_call, wS_skip, wS_seq, wS_set, wS_setL, wS_inc, wS_if, wS_put, wS_putL, wS_putOp, wS_putOpL, wS_ast, wS_astL, wS_aop, wS_aopL, wS_ret, wS_retL, wS_retV, wS_do, wS_pop, wS_dead, wS_sw, wF_body, Nat.reduceAdd, Nat.zero_add, Bool.not_not, true_and, and_true, if_true, if_false, ↓reduceIte, eq_self, Value.int.injEq, Value.long.injEq, exists_eq_left', ik_b1, ik_b0, ik_bz0, ik_bz3, ik_bz3_1, ik_bz3_0, ik_cmp, ik_cmpL, ik_eI, ik_eL, ik_as, ik_i0, ik_i1, decide_eq_true_eq, decide_eq_false_iff_not, decide_true, decide_false, Bool.not_true, Bool.not_false, reduceCtorEq, forall_const, false_implies, true_implies, implies_true, true_and, and_true, and_self, false_and, and_false, Bool.and_true, Bool.true_and, not_true_eq_false, not_false_eq_true, if_true, if_false, ite_true, ite_false, ik_bz3_0, ik_bz3_1, ik_bz0, b1, b2, ixt, Option.some.injEq, r36, xt, hb48, eb, e, r3, upd_at, upd_off, nI_1]
          have nx := next (fun j => if j = 2 then nI (t + 1) else nI k) st2 rfl rfl b3 b4 (fun h => absurd h e)
          exact ⟨nx.2.2.1, nx.2.2.2.1, nx.2.2.2.2⟩
    · -- none
      obtain ⟨q1, q2⟩ := p3 t (Nat.le_refl _) (by omega)
      have z : t ≠ 0 := by omega
      obtain ⟨tp1, tp2⟩ := tp z
      have n59 : ¬ u3.1 36 (t - 1) = 59 := fun h => q2 ht (tp2.mp h)
      simp (decide := true) only [wE_lit, wL_lit, wE_loc, wL_loc, wE_add, wE_sub, wE_mul, wE_and, wE_or, wE_xor, wE_shl, wE_shr, wE_ushr, wE_div, wE_rem, wE_neg, wE_i2b, wE_l2i, wL_i2l, wL_add, wL_mul, wE_fld, wL_fld, wE_arr, wL_arr, wC_cmp, wC_cmp0, wC_cmpL, wC_and, wC_or, wC_not, wC_ite, wL_ite, wA_nil, wA_int, wA_long, wE_call, wL_call, wS_skip, wS_seq, wS_set, wS_setL, wS_inc, wS_if, wS_put, wS_putL, wS_putOp, wS_putOpL, wS_ast, wS_astL, wS_aop, wS_aopL, wS_ret, wS_retL, wS_retV, wS_do, wS_pop, wS_dead, wS_sw, wF_body, Nat.reduceAdd, Nat.zero_add, Bool.not_not, true_and, and_true, if_true, if_false, ↓reduceIte, eq_self, Value.int.injEq, Value.long.injEq, exists_eq_left', ik_b1, ik_b0, ik_bz0, ik_bz3, ik_bz3_1, ik_bz3_0, ik_cmp, ik_cmpL, ik_eI, ik_eL, ik_as, ik_i0, ik_i1, decide_eq_true_eq, decide_eq_false_iff_not, decide_true, decide_false, Bool.not_true, Bool.not_false, reduceCtorEq, forall_const, false_implies, true_implies, implies_true, true_and, and_true, and_self, false_and, and_false, Bool.and_true, Bool.true_and, not_true_eq_false, not_false_eq_true, if_true, if_false, ite_true, ite_false, ik_bz3_0, ik_bz3_1, ik_bz0, wE_ite2, b1, b2, t0, z, tp1, Option.some.injEq, n59, upd_at, upd_off, nI_1]
      exact ⟨b3, b4, p, Lr, by omega, p2, fun q h1 h2 => p3 q (by omega) h2, p4, p5⟩
  · rintro ⟨u1, u2, u3⟩ ⟨b1, b2, b3, b4, p, Lr, p1, p2, p3, p4, p5⟩
    simp only at b3
    have yr : rlH val k L = true := by
      rw [← p5]
      cases Lr with
      | nil => rfl
      | cons w r =>
        obtain ⟨b, ds⟩ := w
        obtain ⟨q, s1, -⟩ := p2
        omega
    simp (decide := true) only [wE_lit, wL_lit, wE_loc, wL_loc, wE_add, wE_sub, wE_mul, wE_and, wE_or, wE_xor, wE_shl, wE_shr, wE_ushr, wE_div, wE_rem, wE_neg, wE_i2b, wE_l2i, wL_i2l, wL_add, wL_mul, wE_fld, wL_fld, wE_arr, wL_arr, wC_cmp, wC_cmp0, wC_cmpL, wC_and, wC_or, wC_not, wC_ite, wL_ite, wA_nil, wA_int, wA_long, wE_call, wL_call, wS_skip, wS_seq, wS_set, wS_setL, wS_inc, wS_if, wS_put, wS_putL, wS_putOp, wS_putOpL, wS_ast, wS_astL, wS_aop, wS_aopL, wS_ret, wS_retL, wS_retV, wS_do, wS_pop, wS_dead, wS_sw, wF_body, Nat.reduceAdd, Nat.zero_add, Bool.not_not, true_and, and_true, if_true, if_false, ↓reduceIte, eq_self, Value.int.injEq, Value.long.injEq, exists_eq_left', ik_b1, ik_b0, ik_bz0, ik_bz3, ik_bz3_1, ik_bz3_0, ik_cmp, ik_cmpL, ik_eI, ik_eL, ik_as, ik_i0, ik_i1, decide_eq_true_eq, decide_eq_false_iff_not, decide_true, decide_false, Bool.not_true, Bool.not_false, reduceCtorEq, forall_const, false_implies, true_implies, implies_true, true_and, and_true, and_self, false_and, and_false, Bool.and_true, Bool.true_and, not_true_eq_false, not_false_eq_true, if_true, if_false, ite_true, ite_false, ik_bz3_0, ik_bz3_1, ik_bz0, yr, ik_b2]
    exact b3
