/-! the class's clauses -/
theorem wS_whB {c : SS → Option (Bool × GG)} {a : ST} {y : SS → Option (Bool × GG)} {b : ST} {Z : SS → Prop} {R : Value → GG → Prop} (I : Nat → SS → Prop)
    (h : ∀ k σ, I k σ → wC c σ (fun t g => (t = true → wS a (σ.1, σ.2.1, g) (fun σ1 => wC y σ1 (fun t2 g2 => (t2 = true → Z (σ1.1, σ1.2.1, g2)) ∧ (t2 = false → wS b (σ1.1, σ1.2.1, g2) (fun σ' => ∃ k', k' < k ∧ I k' σ') R))) R) ∧ (t = false → Z (σ.1, σ.2.1, g)))) :
    ∀ (n k : Nat) (σ : SS), k < n → I k σ → wS (sWhB c a y b n) σ Z R := by
  intro n
  induction n with
  | zero => intro k σ hk; omega
  | succ n ih =>
    intro k σ hk hI
    obtain ⟨t, g, e1, h1, h2⟩ := h k σ hI
    cases t with
    | false => exact ⟨.inl (σ.1, σ.2.1, g), by simp [sWhB, e1], h2 rfl⟩
    | true =>
      obtain ⟨o, e2, p⟩ := h1 rfl
      cases o with
      | inr r => exact ⟨.inr r, by simp [sWhB, e1, e2], p⟩
      | inl σ1 =>
        obtain ⟨t2, g2, e3, p1, p2⟩ := p
        cases t2 with
        | true => exact ⟨.inl (σ1.1, σ1.2.1, g2), by simp [sWhB, e1, e2, e3], p1 rfl⟩
        | false =>
          obtain ⟨o2, e4, p3⟩ := p2 rfl
          cases o2 with
          | inr r => exact ⟨.inr r, by simp [sWhB, e1, e2, e3, e4], p3⟩
          | inl σ2 =>
            obtain ⟨k', hk', hI'⟩ := p3
            obtain ⟨o3, e5, p5⟩ := ih k' σ2 (by omega) hI'
            exact ⟨o3, by simp [sWhB, e1, e2, e3, e4, e5], p5⟩
theorem w_beginX {c : Nat → Nat} {N p : Nat} {g : GG} {ask : Bool} (hN : N ≤ 160) (hp : p ≤ N) (hz : ∀ k, N ≤ k → c k = 0) (hb : ∀ k, k < N → c k < 256 ∧ (if ask = true then g.1 36 k else g.1 37 k) = nI (c k)) :
    wF fX7_begin [.int (ik_b2 ask), .int (nI p), .int (nI N)] g (fun v g' => v = .null ∧ atX c N (ik_si (ik_si g 35 5 (ik_b2 ask)) 35 6 (nI N)) g' p ∧ g'.1 35 10 = 0) ∧ txX c N (ik_si (ik_si g 35 5 (ik_b2 ask)) 35 6 (nI N)) := by
  have bz : ik_bz 3 (ik_b2 ask) = true := by cases ask <;> rfl
  have e1 : nI p - 1 + 1 = nI p := Int32.sub_add_cancel _ _
  have p1 := nI_pos' (n := p) (by omega)
  have c2 : nI p < nI N ↔ p < N := nI_ltI (by omega) (by omega)
  have c3 : nI p < nI 160 ↔ p < 160 := nI_ltI (by omega) (by omega)
  obtain ⟨g0, hg0⟩ : ∃ g0, g0 = ik_si (ik_si g 35 5 (ik_b2 ask)) 35 6 (nI N) := ⟨_, rfl⟩
  have t36 : g0.1 36 = g.1 36 := by rw [hg0]; simp (decide := true) only [ik_si_row]
  have t37 : g0.1 37 = g.1 37 := by rw [hg0]; simp (decide := true) only [ik_si_row]
  have t5 : g0.1 35 5 = ik_b2 ask := by rw [hg0, ik_si_ne _ _ _ _ _ (by decide), ik_si_same]
  have t6 : g0.1 35 6 = nI N := by rw [hg0, ik_si_same]
  have tx : txX c N g0 := by
    refine ⟨t6, hN, hz, fun k hk => ⟨(hb k hk).1, ?_⟩⟩
    rw [t36, t37, t5]
    have := (hb k hk).2
    cases ask
    · simpa [ik_b2] using this
    · simpa [ik_b2] using this
  rw [← hg0]
  refine ⟨?_, tx⟩
  unfold fX7_begin
  simp (decide := true) only [wE_lit, wL_lit, wE_loc, wL_loc, wE_add, wE_sub, wE_mul, wE_and, wE_or, wE_xor, wE_shl, wE_shr, wE_ushr, wE_div, wE_rem, wE_neg, wE_i2b, wE_l2i, wL_i2l, wL_add, wL_mul, wE_fld, wL_fld, wE_arr, wL_arr, wC_cmp, wC_cmp0, wC_cmpL, wC_and, wC_or, wC_not, wC_ite, wL_ite, wA_nil, wA_int, wA_long, wE_call, wL_call, wS_skip, wS_seq, wS_set, wS_setL, wS_inc, wS_if, wS_put, wS_putL, wS_putOp, wS_putOpL, wS_ast, wS_astL, wS_aop, wS_aopL, wS_ret, wS_retL, wS_retV, wS_do, wS_pop, wS_dead, wS_sw, wF_body, Nat.reduceAdd, Nat.zero_add, Bool.not_not, true_and, and_true, if_true, if_false, ↓reduceIte, eq_self, Value.int.injEq, Value.long.injEq, exists_eq_left', ik_b1, ik_b0, ik_bz0, ik_bz3, ik_bz3_1, ik_bz3_0, ik_cmp, ik_cmpL, ik_eI, ik_eL, ik_as, ik_i0, ik_i1, decide_eq_true_eq, decide_eq_false_iff_not, decide_true, decide_false, Bool.not_true, Bool.not_false, reduceCtorEq, forall_const, false_implies, true_implies, implies_true, true_and, and_true, and_self, false_and, and_false, Bool.and_true, Bool.true_and, not_true_eq_false, not_false_eq_true, if_true, if_false, ite_true, ite_false, ik_bz3_0, ik_bz3_1, ik_bz0, bz, ← hg0]
  unfold fX7_go
  simp (decide := true) only [wE_lit, wL_lit, wE_loc, wL_loc, wE_add, wE_sub, wE_mul, wE_and, wE_or, wE_xor, wE_shl, wE_shr, wE_ushr, wE_div, wE_rem, wE_neg, wE_i2b, wE_l2i, wL_i2l, wL_add, wL_mul, wE_fld, wL_fld, wE_arr, wL_arr, wC_cmp, wC_cmp0, wC_cmpL, wC_and, wC_or, wC_not, wC_ite, wL_ite, wA_nil, wA_int, wA_long, wE_call, wL_call, wS_skip, wS_seq, wS_set, wS_setL, wS_inc, wS_if, wS_put, wS_putL, wS_putOp, wS_putOpL, wS_ast, wS_astL, wS_aop, wS_aopL, wS_ret, wS_retL, wS_retV, wS_do, wS_pop, wS_dead, wS_sw, wF_body, Nat.reduceAdd, Nat.zero_add, Bool.not_not, true_and, and_true, if_true, if_false, ↓reduceIte, eq_self, Value.int.injEq, Value.long.injEq, exists_eq_left', ik_b1, ik_b0, ik_bz0, ik_bz3, ik_bz3_1, ik_bz3_0, ik_cmp, ik_cmpL, ik_eI, ik_eL, ik_as, ik_i0, ik_i1, decide_eq_true_eq, decide_eq_false_iff_not, decide_true, decide_false, Bool.not_true, Bool.not_false, reduceCtorEq, forall_const, false_implies, true_implies, implies_true, true_and, and_true, and_self, false_and, and_false, Bool.and_true, Bool.true_and, not_true_eq_false, not_false_eq_true, if_true, if_false, ite_true, ite_false, ik_bz3_0, ik_bz3_1, ik_bz0, wE_ite, ik_si_same, ik_si_ne, ik_bo, Option.some.injEq, e1, t5, t6, p1, show (160 : Int32) = nI 160 from rfl, c2, c3, upd_at, upd_off, ik_si_row, t36, t37]
  have fin : ∀ v, v = sgX c N p → atX c N g0 (ik_si (ik_si (ik_si (ik_si (ik_si g0 35 7 (nI p - 1)) 35 9 0) 35 10 0) 35 7 (nI p)) 35 8 v) p ∧ (ik_si (ik_si (ik_si (ik_si (ik_si g0 35 7 (nI p - 1)) 35 9 0) 35 10 0) 35 7 (nI p)) 35 8 v).1 35 10 = 0 := by
    intro v hv
    refine ⟨⟨(((((frX.rfl' g0).si (by omega) _).si (by omega) _).si (by omega) _).si (by omega) _).si (by omega) _, ?_, ?_, ?_, ?_⟩, ?_⟩
    · simp (decide := true) only [ik_si_ne, ik_si_same]
    · rw [ik_si_same, hv]
    · simp (decide := true) only [ik_si_ne, ik_si_same]
    · left; simp (decide := true) only [ik_si_ne, ik_si_same]
    · simp (decide := true) only [ik_si_ne, ik_si_same]
  by_cases d : p < N
  · have d2 : p < 160 := by omega
    have ix := ik_ix_nI d2 (by omega)
    have t := (hb p d).2
    cases ask with
    | true =>
      simp (decide := true) only [ik_i0, ik_i1, decide_eq_true_eq, decide_eq_false_iff_not, decide_true, decide_false, Bool.not_true, Bool.not_false, reduceCtorEq, forall_const, false_implies, true_implies, implies_true, true_and, and_true, and_self, false_and, and_false, Bool.and_true, Bool.true_and, not_true_eq_false, not_false_eq_true, if_true, if_false, ite_true, ite_false, ik_bz3_0, ik_bz3_1, ik_bz0, Nat.reduceAdd, Nat.zero_add, Bool.not_not, true_and, and_true, if_true, if_false, ↓reduceIte, eq_self, Value.int.injEq, Value.long.injEq, exists_eq_left', ik_b1, ik_b0, ik_bz0, ik_bz3, ik_bz3_1, ik_bz3_0, ik_cmp, ik_cmpL, ik_eI, ik_eL, ik_as, d, d2, ik_b2, ix, Option.some.injEq]
      refine (fin _ ?_).1
      rw [if_pos rfl] at t
      rw [t]; unfold sgX; rw [if_pos d]
    | false =>
      simp (decide := true) only [ik_i0, ik_i1, decide_eq_true_eq, decide_eq_false_iff_not, decide_true, decide_false, Bool.not_true, Bool.not_false, reduceCtorEq, forall_const, false_implies, true_implies, implies_true, true_and, and_true, and_self, false_and, and_false, Bool.and_true, Bool.true_and, not_true_eq_false, not_false_eq_true, if_true, if_false, ite_true, ite_false, ik_bz3_0, ik_bz3_1, ik_bz0, Nat.reduceAdd, Nat.zero_add, Bool.not_not, true_and, and_true, if_true, if_false, ↓reduceIte, eq_self, Value.int.injEq, Value.long.injEq, exists_eq_left', ik_b1, ik_b0, ik_bz0, ik_bz3, ik_bz3_1, ik_bz3_0, ik_cmp, ik_cmpL, ik_eI, ik_eL, ik_as, d, d2, ik_b2, ix, Option.some.injEq]
      refine (fin _ ?_).1
      rw [if_neg (by simp)] at t
      rw [t]; unfold sgX; rw [if_pos d]
  · simp (decide := true) only [ik_i0, ik_i1, decide_eq_true_eq, decide_eq_false_iff_not, decide_true, decide_false, Bool.not_true, Bool.not_false, reduceCtorEq, forall_const, false_implies, true_implies, implies_true, true_and, and_true, and_self, false_and, and_false, Bool.and_true, Bool.true_and, not_true_eq_false, not_false_eq_true, if_true, if_false, ite_true, ite_false, ik_bz3_0, ik_bz3_1, ik_bz0, Nat.reduceAdd, Nat.zero_add, Bool.not_not, true_and, and_true, if_true, if_false, ↓reduceIte, eq_self, Value.int.injEq, Value.long.injEq, exists_eq_left', ik_b1, ik_b0, ik_bz0, ik_bz3, ik_bz3_1, ik_bz3_0, ik_cmp, ik_cmpL, ik_eI, ik_eL, ik_as, d]
    refine (fin _ ?_).1
    unfold sgX; rw [if_neg d]
theorem xs_clause {e nth : Nat} {g0 g : GG} (h : flX g0 g e) : wF fX7_clause [.int (nI nth)] g (fun v g' => v = .null ∧ flX g0 g' e) := by
  have h8 : g.1 35 8 = -1 := h.2.1
  have hs := (x_lvl (c := fun _ => 0) (N := 0) (fun _ _ => rfl) 5 1 (by omega)).2.2.2
  have call := hs g0 g e false h
  unfold fX7_clause
  simp (decide := true) only [wE_lit, wL_lit, wE_loc, wL_loc, wE_add, wE_sub, wE_mul, wE_and, wE_or, wE_xor, wE_shl, wE_shr, wE_ushr, wE_div, wE_rem, wE_neg, wE_i2b, wE_l2i, wL_i2l, wL_add, wL_mul, wE_fld, wL_fld, wE_arr, wL_arr, wC_cmp, wC_cmp0, wC_cmpL, wC_and, wC_or, wC_not, wC_ite, wL_ite, wA_nil, wA_int, wA_long, wE_call, wL_call, wS_skip, wS_seq, wS_set, wS_setL, wS_inc, wS_if, wS_put, wS_putL, wS_putOp, wS_putOpL, wS_ast, wS_astL, wS_aop, wS_aopL, wS_ret, wS_retL, wS_retV, wS_do, wS_pop, wS_dead, wS_sw, wF_body, Nat.reduceAdd, Nat.zero_add, Bool.not_not, true_and, and_true, if_true, if_false, ↓reduceIte, eq_self, Value.int.injEq, Value.long.injEq, exists_eq_left', ik_b1, ik_b0, ik_bz0, ik_bz3, ik_bz3_1, ik_bz3_0, ik_cmp, ik_cmpL, ik_eI, ik_eL, ik_as, ik_i0, ik_i1, decide_eq_true_eq, decide_eq_false_iff_not, decide_true, decide_false, Bool.not_true, Bool.not_false, reduceCtorEq, forall_const, false_implies, true_implies, implies_true, true_and, and_true, and_self, false_and, and_false, Bool.and_true, Bool.true_and, not_true_eq_false, not_false_eq_true, if_true, if_false, ite_true, ite_false, ik_bz3_0, ik_bz3_1, ik_bz0, h8, upd_at, upd_off, w_digitX, wE_ite, wE_ite2, goFX h]
  have hc : fX7_condition_f5 = (g_rules 6).1 := rfl
  rw [hc]
  refine ⟨fun _ => ?_, fun _ => ?_⟩ <;> (refine wF_mono call ?_; rintro _ g1 ⟨w, rfl, -, k1⟩; have h8' : g1.1 35 8 = -1 := k1.2.1; simp (decide := true) only [wE_lit, wL_lit, wE_loc, wL_loc, wE_add, wE_sub, wE_mul, wE_and, wE_or, wE_xor, wE_shl, wE_shr, wE_ushr, wE_div, wE_rem, wE_neg, wE_i2b, wE_l2i, wL_i2l, wL_add, wL_mul, wE_fld, wL_fld, wE_arr, wL_arr, wC_cmp, wC_cmp0, wC_cmpL, wC_and, wC_or, wC_not, wC_ite, wL_ite, wA_nil, wA_int, wA_long, wE_call, wL_call, wS_skip, wS_seq, wS_set, wS_setL, wS_inc, wS_if, wS_put, wS_putL, wS_putOp, wS_putOpL, wS_ast, wS_astL, wS_aop, wS_aopL, wS_ret, wS_retL, wS_retV, wS_do, wS_pop, wS_dead, wS_sw, wF_body, Nat.reduceAdd, Nat.zero_add, Bool.not_not, true_and, and_true, if_true, if_false, ↓reduceIte, eq_self, Value.int.injEq, Value.long.injEq, exists_eq_left', ik_b1, ik_b0, ik_bz0, ik_bz3, ik_bz3_1, ik_bz3_0, ik_cmp, ik_cmpL, ik_eI, ik_eL, ik_as, ik_i0, ik_i1, decide_eq_true_eq, decide_eq_false_iff_not, decide_true, decide_false, Bool.not_true, Bool.not_false, reduceCtorEq, forall_const, false_implies, true_implies, implies_true, true_and, and_true, and_self, false_and, and_false, Bool.and_true, Bool.true_and, not_true_eq_false, not_false_eq_true, if_true, if_false, ite_true, ite_false, ik_bz3_0, ik_bz3_1, ik_bz0, goFX k1]; exact ⟨fun _ => k1, fun _ => k1⟩)
theorem w_clauseX {c : Nat → Nat} {N p nth : Nat} {g0 g : GG} (ht : txX c N g0) (h : atX c N g0 g p) (hp : p ≤ N) (hn : nth ≤ 12) :
    wF fX7_clause [.int (nI nth)] g (fun v g' => v = .null ∧ match sp_cl c nth p with
      | .inl (e, q) => flX g0 g' (1000 * e + q)
      | .inr (q, _) => atX c N g0 g' q ∧ p < q ∧ q ≤ N ∧ nth < 12) := by
  obtain ⟨t1, t2, hz, t4⟩ := id ht
  have hc : ∀ k, k < N → c k < 256 := fun k hk => (t4 k hk).1
  obtain ⟨hC, -, -, hS⟩ := x_lvl hz 5 1 (by omega)
  have kC := (sp_lvl_ok hz 5).2.2.2.2.2
  have hcc : fX7_condition_f5 = (g_rules 6).1 := rfl
  have h8 : g.1 35 8 = sgX c N p := h.2.2.1
  have dg := sgX_dig (p := p) hc hz
  have l12 : (12 ≤ nI nth) ↔ 12 ≤ nth := by rw [show (12 : Int32) = nI 12 from rfl, nI_leI (by omega) (by omega)]
  -- what stops at once goes on stopped
  have stop : ∀ (e q : Nat) (g1 : GG), flX g0 g1 (1000 * e + q) → wF (g_rules 6).1 [.int 1, .int 0] g1 (fun v g2 => ∃ r, v = .int r ∧ wF fX7_go [.int (if g2.1 35 8 = 41 then 0 else 1)] g2 (fun v g' => v = .null ∧ flX g0 g' (1000 * e + q))) := by
    intro e q g1 h1
    refine wF_mono (hS g0 g1 _ false h1) ?_
    rintro _ g2 ⟨w, rfl, -, k1⟩
    exact ⟨w, rfl, (goFX k1 _ _).mpr ⟨rfl, k1⟩⟩
  unfold fX7_clause sp_cl
  simp (decide := true) only [wE_lit, wL_lit, wE_loc, wL_loc, wE_add, wE_sub, wE_mul, wE_and, wE_or, wE_xor, wE_shl, wE_shr, wE_ushr, wE_div, wE_rem, wE_neg, wE_i2b, wE_l2i, wL_i2l, wL_add, wL_mul, wE_fld, wL_fld, wE_arr, wL_arr, wC_cmp, wC_cmp0, wC_cmpL, wC_and, wC_or, wC_not, wC_ite, wL_ite, wA_nil, wA_int, wA_long, wE_call, wL_call, wS_skip, wS_seq, wS_set, wS_setL, wS_inc, wS_if, wS_put, wS_putL, wS_putOp, wS_putOpL, wS_ast, wS_astL, wS_aop, wS_aopL, wS_ret, wS_retL, wS_retV, wS_do, wS_pop, wS_dead, wS_sw, wF_body, Nat.reduceAdd, Nat.zero_add, Bool.not_not, true_and, and_true, if_true, if_false, ↓reduceIte, eq_self, Value.int.injEq, Value.long.injEq, exists_eq_left', ik_b1, ik_b0, ik_bz0, ik_bz3, ik_bz3_1, ik_bz3_0, ik_cmp, ik_cmpL, ik_eI, ik_eL, ik_as, ik_i0, ik_i1, decide_eq_true_eq, decide_eq_false_iff_not, decide_true, decide_false, Bool.not_true, Bool.not_false, reduceCtorEq, forall_const, false_implies, true_implies, implies_true, true_and, and_true, and_self, false_and, and_false, Bool.and_true, Bool.true_and, not_true_eq_false, not_false_eq_true, if_true, if_false, ite_true, ite_false, ik_bz3_0, ik_bz3_1, ik_bz0, h8, upd_at, upd_off, w_digitX, wE_ite2, hcc]
  by_cases c1 : sg_dig (c p) = true
  · have c1' := dg.mpr c1
    have hlt := sp_end hz (sg_num (Or.inl rfl) c1).1
    have hv : sgX c N p = nI (c p) := by unfold sgX; rw [if_pos hlt]
    have l51 : (51 < sgX c N p) ↔ 52 ≤ c p := by
      have := hc p hlt
      rw [hv, show (51 : Int32) = nI 51 from rfl, nI_ltI (by omega) (by omega)]
      omega
    rw [if_neg (fun q => q c1)]
    by_cases c2 : 12 ≤ nth
    · rw [if_pos c2]
      simp (decide := true) only [wE_lit, wL_lit, wE_loc, wL_loc, wE_add, wE_sub, wE_mul, wE_and, wE_or, wE_xor, wE_shl, wE_shr, wE_ushr, wE_div, wE_rem, wE_neg, wE_i2b, wE_l2i, wL_i2l, wL_add, wL_mul, wE_fld, wL_fld, wE_arr, wL_arr, wC_cmp, wC_cmp0, wC_cmpL, wC_and, wC_or, wC_not, wC_ite, wL_ite, wA_nil, wA_int, wA_long, wE_call, wL_call, wS_skip, wS_seq, wS_set, wS_setL, wS_inc, wS_if, wS_put, wS_putL, wS_putOp, wS_putOpL, wS_ast, wS_astL, wS_aop, wS_aopL, wS_ret, wS_retL, wS_retV, wS_do, wS_pop, wS_dead, wS_sw, wF_body, Nat.reduceAdd, Nat.zero_add, Bool.not_not, true_and, and_true, if_true, if_false, ↓reduceIte, eq_self, Value.int.injEq, Value.long.injEq, exists_eq_left', ik_b1, ik_b0, ik_bz0, ik_bz3, ik_bz3_1, ik_bz3_0, ik_cmp, ik_cmpL, ik_eI, ik_eL, ik_as, ik_i0, ik_i1, decide_eq_true_eq, decide_eq_false_iff_not, decide_true, decide_false, Bool.not_true, Bool.not_false, reduceCtorEq, forall_const, false_implies, true_implies, implies_true, true_and, and_true, and_self, false_and, and_false, Bool.and_true, Bool.true_and, not_true_eq_false, not_false_eq_true, if_true, if_false, ite_true, ite_false, ik_bz3_0, ik_bz3_1, ik_bz0, h8, w_digitX, wE_ite, wE_ite2, l12, c2, c1', upd_at, upd_off]
      refine wF_mono (goWX ht h hp (e := 4) (by omega) rfl) ?_
      rintro _ g1 ⟨rfl, k1⟩
      simp (decide := true) only [wE_lit, wL_lit, wE_loc, wL_loc, wE_add, wE_sub, wE_mul, wE_and, wE_or, wE_xor, wE_shl, wE_shr, wE_ushr, wE_div, wE_rem, wE_neg, wE_i2b, wE_l2i, wL_i2l, wL_add, wL_mul, wE_fld, wL_fld, wE_arr, wL_arr, wC_cmp, wC_cmp0, wC_cmpL, wC_and, wC_or, wC_not, wC_ite, wL_ite, wA_nil, wA_int, wA_long, wE_call, wL_call, wS_skip, wS_seq, wS_set, wS_setL, wS_inc, wS_if, wS_put, wS_putL, wS_putOp, wS_putOpL, wS_ast, wS_astL, wS_aop, wS_aopL, wS_ret, wS_retL, wS_retV, wS_do, wS_pop, wS_dead, wS_sw, wF_body, Nat.reduceAdd, Nat.zero_add, Bool.not_not, true_and, and_true, if_true, if_false, ↓reduceIte, eq_self, Value.int.injEq, Value.long.injEq, exists_eq_left', ik_b1, ik_b0, ik_bz0, ik_bz3, ik_bz3_1, ik_bz3_0, ik_cmp, ik_cmpL, ik_eI, ik_eL, ik_as, ik_i0, ik_i1, decide_eq_true_eq, decide_eq_false_iff_not, decide_true, decide_false, Bool.not_true, Bool.not_false, reduceCtorEq, forall_const, false_implies, true_implies, implies_true, true_and, and_true, and_self, false_and, and_false, Bool.and_true, Bool.true_and, not_true_eq_false, not_false_eq_true, if_true, if_false, ite_true, ite_false, ik_bz3_0, ik_bz3_1, ik_bz0, wE_ite2, goFX k1]
      exact stop 4 p g1 k1
    · rw [if_neg c2]
      by_cases c3 : 52 ≤ c p
      · rw [if_pos c3]
        simp (decide := true) only [wE_lit, wL_lit, wE_loc, wL_loc, wE_add, wE_sub, wE_mul, wE_and, wE_or, wE_xor, wE_shl, wE_shr, wE_ushr, wE_div, wE_rem, wE_neg, wE_i2b, wE_l2i, wL_i2l, wL_add, wL_mul, wE_fld, wL_fld, wE_arr, wL_arr, wC_cmp, wC_cmp0, wC_cmpL, wC_and, wC_or, wC_not, wC_ite, wL_ite, wA_nil, wA_int, wA_long, wE_call, wL_call, wS_skip, wS_seq, wS_set, wS_setL, wS_inc, wS_if, wS_put, wS_putL, wS_putOp, wS_putOpL, wS_ast, wS_astL, wS_aop, wS_aopL, wS_ret, wS_retL, wS_retV, wS_do, wS_pop, wS_dead, wS_sw, wF_body, Nat.reduceAdd, Nat.zero_add, Bool.not_not, true_and, and_true, if_true, if_false, ↓reduceIte, eq_self, Value.int.injEq, Value.long.injEq, exists_eq_left', ik_b1, ik_b0, ik_bz0, ik_bz3, ik_bz3_1, ik_bz3_0, ik_cmp, ik_cmpL, ik_eI, ik_eL, ik_as, ik_i0, ik_i1, decide_eq_true_eq, decide_eq_false_iff_not, decide_true, decide_false, Bool.not_true, Bool.not_false, reduceCtorEq, forall_const, false_implies, true_implies, implies_true, true_and, and_true, and_self, false_and, and_false, Bool.and_true, Bool.true_and, not_true_eq_false, not_false_eq_true, if_true, if_false, ite_true, ite_false, ik_bz3_0, ik_bz3_1, ik_bz0, h8, w_digitX, wE_ite, wE_ite2, l12, c2, l51, c3, c1', upd_at, upd_off]
        refine wF_mono (goWX ht h hp (e := 3) (by omega) rfl) ?_
        rintro _ g1 ⟨rfl, k1⟩
        simp (decide := true) only [wE_lit, wL_lit, wE_loc, wL_loc, wE_add, wE_sub, wE_mul, wE_and, wE_or, wE_xor, wE_shl, wE_shr, wE_ushr, wE_div, wE_rem, wE_neg, wE_i2b, wE_l2i, wL_i2l, wL_add, wL_mul, wE_fld, wL_fld, wE_arr, wL_arr, wC_cmp, wC_cmp0, wC_cmpL, wC_and, wC_or, wC_not, wC_ite, wL_ite, wA_nil, wA_int, wA_long, wE_call, wL_call, wS_skip, wS_seq, wS_set, wS_setL, wS_inc, wS_if, wS_put, wS_putL, wS_putOp, wS_putOpL, wS_ast, wS_astL, wS_aop, wS_aopL, wS_ret, wS_retL, wS_retV, wS_do, wS_pop, wS_dead, wS_sw, wF_body, Nat.reduceAdd, Nat.zero_add, Bool.not_not, true_and, and_true, if_true, if_false, ↓reduceIte, eq_self, Value.int.injEq, Value.long.injEq, exists_eq_left', ik_b1, ik_b0, ik_bz0, ik_bz3, ik_bz3_1, ik_bz3_0, ik_cmp, ik_cmpL, ik_eI, ik_eL, ik_as, ik_i0, ik_i1, decide_eq_true_eq, decide_eq_false_iff_not, decide_true, decide_false, Bool.not_true, Bool.not_false, reduceCtorEq, forall_const, false_implies, true_implies, implies_true, true_and, and_true, and_self, false_and, and_false, Bool.and_true, Bool.true_and, not_true_eq_false, not_false_eq_true, if_true, if_false, ite_true, ite_false, ik_bz3_0, ik_bz3_1, ik_bz0, wE_ite2, goFX k1]
        exact stop 3 p g1 k1
      · rw [if_neg c3]
        simp (decide := true) only [wE_lit, wL_lit, wE_loc, wL_loc, wE_add, wE_sub, wE_mul, wE_and, wE_or, wE_xor, wE_shl, wE_shr, wE_ushr, wE_div, wE_rem, wE_neg, wE_i2b, wE_l2i, wL_i2l, wL_add, wL_mul, wE_fld, wL_fld, wE_arr, wL_arr, wC_cmp, wC_cmp0, wC_cmpL, wC_and, wC_or, wC_not, wC_ite, wL_ite, wA_nil, wA_int, wA_long, wE_call, wL_call, wS_skip, wS_seq, wS_set, wS_setL, wS_inc, wS_if, wS_put, wS_putL, wS_putOp, wS_putOpL, wS_ast, wS_astL, wS_aop, wS_aopL, wS_ret, wS_retL, wS_retV, wS_do, wS_pop, wS_dead, wS_sw, wF_body, Nat.reduceAdd, Nat.zero_add, Bool.not_not, true_and, and_true, if_true, if_false, ↓reduceIte, eq_self, Value.int.injEq, Value.long.injEq, exists_eq_left', ik_b1, ik_b0, ik_bz0, ik_bz3, ik_bz3_1, ik_bz3_0, ik_cmp, ik_cmpL, ik_eI, ik_eL, ik_as, ik_i0, ik_i1, decide_eq_true_eq, decide_eq_false_iff_not, decide_true, decide_false, Bool.not_true, Bool.not_false, reduceCtorEq, forall_const, false_implies, true_implies, implies_true, true_and, and_true, and_self, false_and, and_false, Bool.and_true, Bool.true_and, not_true_eq_false, not_false_eq_true, if_true, if_false, ite_true, ite_false, ik_bz3_0, ik_bz3_1, ik_bz0, h8, w_digitX, wE_ite, wE_ite2, l12, c2, l51, c3, c1', upd_at, upd_off]
        refine wF_mono (go0X ht h hlt) ?_
        rintro _ g1 ⟨rfl, k1, -⟩
        have h8' : g1.1 35 8 = sgX c N (p + 1) := k1.2.2.1
        have b40 := sgX_eq (p := p + 1) hc hz (k := 40) (by omega) (by omega) (v := 40) rfl
        unfold sp_cl2
        by_cases c4 : c (p + 1) = 40
        · have hlt2 : p + 1 < N := sp_end hz (by omega)
          rw [if_pos c4]
          simp (decide := true) only [wE_lit, wL_lit, wE_loc, wL_loc, wE_add, wE_sub, wE_mul, wE_and, wE_or, wE_xor, wE_shl, wE_shr, wE_ushr, wE_div, wE_rem, wE_neg, wE_i2b, wE_l2i, wL_i2l, wL_add, wL_mul, wE_fld, wL_fld, wE_arr, wL_arr, wC_cmp, wC_cmp0, wC_cmpL, wC_and, wC_or, wC_not, wC_ite, wL_ite, wA_nil, wA_int, wA_long, wE_call, wL_call, wS_skip, wS_seq, wS_set, wS_setL, wS_inc, wS_if, wS_put, wS_putL, wS_putOp, wS_putOpL, wS_ast, wS_astL, wS_aop, wS_aopL, wS_ret, wS_retL, wS_retV, wS_do, wS_pop, wS_dead, wS_sw, wF_body, Nat.reduceAdd, Nat.zero_add, Bool.not_not, true_and, and_true, if_true, if_false, ↓reduceIte, eq_self, Value.int.injEq, Value.long.injEq, exists_eq_left', ik_b1, ik_b0, ik_bz0, ik_bz3, ik_bz3_1, ik_bz3_0, ik_cmp, ik_cmpL, ik_eI, ik_eL, ik_as, ik_i0, ik_i1, decide_eq_true_eq, decide_eq_false_iff_not, decide_true, decide_false, Bool.not_true, Bool.not_false, reduceCtorEq, forall_const, false_implies, true_implies, implies_true, true_and, and_true, and_self, false_and, and_false, Bool.and_true, Bool.true_and, not_true_eq_false, not_false_eq_true, if_true, if_false, ite_true, ite_false, ik_bz3_0, ik_bz3_1, ik_bz0, wE_ite, wE_ite2, h8', b40, c4]
          refine wF_mono (go0X ht k1 hlt2) ?_
          rintro _ g2 ⟨rfl, k2, -⟩
          refine ⟨rfl, ?_⟩
          refine wF_mono (hC g0 g2 (p + 2) false ht k2 (by omega)) ?_
          rintro _ g3 ⟨w, rfl, -, k3⟩
          refine ⟨w, rfl, ?_⟩
          have k4 := kC (p + 2) (by omega)
          revert k3 k4
          rw [show p + 1 + 1 = p + 2 by omega]
          rcases sp_C 5 (sp_lvl c 5) c (p + 2) with ⟨e, q⟩ | ⟨q, ds⟩
          · intro k3 _
            simp (decide := true) only [Nat.reduceAdd, Nat.zero_add, Bool.not_not, true_and, and_true, if_true, if_false, ↓reduceIte, eq_self, Value.int.injEq, Value.long.injEq, exists_eq_left', ik_b1, ik_b0, ik_bz0, ik_bz3, ik_bz3_1, ik_bz3_0, ik_cmp, ik_cmpL, ik_eI, ik_eL, ik_as, ik_i0, ik_i1, decide_eq_true_eq, decide_eq_false_iff_not, decide_true, decide_false, Bool.not_true, Bool.not_false, reduceCtorEq, forall_const, false_implies, true_implies, implies_true, true_and, and_true, and_self, false_and, and_false, Bool.and_true, Bool.true_and, not_true_eq_false, not_false_eq_true, if_true, if_false, ite_true, ite_false, ik_bz3_0, ik_bz3_1, ik_bz0, goFX k3]
            exact k3
          · rintro ⟨k3, -⟩ k4
            have h8'' : g3.1 35 8 = sgX c N q := k3.2.2.1
            have b41 := sgX_eq (p := q) hc hz (k := 41) (by omega) (by omega) (v := 41) rfl
            have n1 : p + 2 < q ∧ q ≤ N := ⟨k4.1, k4.2.1⟩
            show wF _ _ _ (fun v g' => v = .null ∧ match (if c q = 41 then (.inr (q + 1, ds) : RR) else .inl (1, q)) with
              | .inl (e, q) => flX g0 g' (1000 * e + q)
              | .inr (q, _) => atX c N g0 g' q ∧ p < q ∧ q ≤ N ∧ nth < 12)
            rw [h8'']
            by_cases c5 : c q = 41
            · have hlt3 : q < N := sp_end hz (by omega)
              rw [if_pos c5, if_pos (b41.mpr c5)]
              refine wF_mono (go0X ht k3 hlt3) ?_
              rintro _ g4 ⟨rfl, k5, -⟩
              exact ⟨rfl, k5, by omega, by omega, by omega⟩
            · rw [if_neg c5, if_neg (fun h => c5 (b41.mp h))]
              refine wF_mono (goWX ht k3 n1.2 (e := 1) (by omega) rfl) ?_
              rintro _ g4 ⟨rfl, k5⟩
              exact ⟨rfl, k5⟩
        · rw [if_neg c4]
          simp (decide := true) only [wE_lit, wL_lit, wE_loc, wL_loc, wE_add, wE_sub, wE_mul, wE_and, wE_or, wE_xor, wE_shl, wE_shr, wE_ushr, wE_div, wE_rem, wE_neg, wE_i2b, wE_l2i, wL_i2l, wL_add, wL_mul, wE_fld, wL_fld, wE_arr, wL_arr, wC_cmp, wC_cmp0, wC_cmpL, wC_and, wC_or, wC_not, wC_ite, wL_ite, wA_nil, wA_int, wA_long, wE_call, wL_call, wS_skip, wS_seq, wS_set, wS_setL, wS_inc, wS_if, wS_put, wS_putL, wS_putOp, wS_putOpL, wS_ast, wS_astL, wS_aop, wS_aopL, wS_ret, wS_retL, wS_retV, wS_do, wS_pop, wS_dead, wS_sw, wF_body, Nat.reduceAdd, Nat.zero_add, Bool.not_not, true_and, and_true, if_true, if_false, ↓reduceIte, eq_self, Value.int.injEq, Value.long.injEq, exists_eq_left', ik_b1, ik_b0, ik_bz0, ik_bz3, ik_bz3_1, ik_bz3_0, ik_cmp, ik_cmpL, ik_eI, ik_eL, ik_as, ik_i0, ik_i1, decide_eq_true_eq, decide_eq_false_iff_not, decide_true, decide_false, Bool.not_true, Bool.not_false, reduceCtorEq, forall_const, false_implies, true_implies, implies_true, true_and, and_true, and_self, false_and, and_false, Bool.and_true, Bool.true_and, not_true_eq_false, not_false_eq_true, if_true, if_false, ite_true, ite_false, ik_bz3_0, ik_bz3_1, ik_bz0, wE_ite, wE_ite2, h8', b40, c4]
          refine wF_mono (goWX ht k1 (by omega) (e := 1) (by omega) rfl) ?_
          rintro _ g2 ⟨rfl, k2⟩
          exact ⟨rfl, stop 1 (p + 1) g2 k2⟩
  · have c1' : ¬ (48 ≤ sgX c N p ∧ sgX c N p ≤ 57) := fun h => c1 (dg.mp h)
    rw [if_pos c1]
    have go1 := goWX ht h hp (e := 1) (by omega) (w := 1) rfl
    simp (decide := true) only [wE_lit, wL_lit, wE_loc, wL_loc, wE_add, wE_sub, wE_mul, wE_and, wE_or, wE_xor, wE_shl, wE_shr, wE_ushr, wE_div, wE_rem, wE_neg, wE_i2b, wE_l2i, wL_i2l, wL_add, wL_mul, wE_fld, wL_fld, wE_arr, wL_arr, wC_cmp, wC_cmp0, wC_cmpL, wC_and, wC_or, wC_not, wC_ite, wL_ite, wA_nil, wA_int, wA_long, wE_call, wL_call, wS_skip, wS_seq, wS_set, wS_setL, wS_inc, wS_if, wS_put, wS_putL, wS_putOp, wS_putOpL, wS_ast, wS_astL, wS_aop, wS_aopL, wS_ret, wS_retL, wS_retV, wS_do, wS_pop, wS_dead, wS_sw, wF_body, Nat.reduceAdd, Nat.zero_add, Bool.not_not, true_and, and_true, if_true, if_false, ↓reduceIte, eq_self, Value.int.injEq, Value.long.injEq, exists_eq_left', ik_b1, ik_b0, ik_bz0, ik_bz3, ik_bz3_1, ik_bz3_0, ik_cmp, ik_cmpL, ik_eI, ik_eL, ik_as, ik_i0, ik_i1, decide_eq_true_eq, decide_eq_false_iff_not, decide_true, decide_false, Bool.not_true, Bool.not_false, reduceCtorEq, forall_const, false_implies, true_implies, implies_true, true_and, and_true, and_self, false_and, and_false, Bool.and_true, Bool.true_and, not_true_eq_false, not_false_eq_true, if_true, if_false, ite_true, ite_false, ik_bz3_0, ik_bz3_1, ik_bz0, h8, w_digitX, wE_ite, wE_ite2, c1', upd_at, upd_off]
    have fin : wF fX7_go [.int 1] g (fun v g1 => v = .null ∧ wF fX7_go [.int (if g1.1 35 8 = 40 then 0 else 1)] g1 (fun v g2 => v = .null ∧ wF (g_rules 6).1 [.int 1, .int 0] g2 (fun v g3 => ∃ r, v = .int r ∧ wF fX7_go [.int (if g3.1 35 8 = 41 then 0 else 1)] g3 (fun v g' => v = .null ∧ flX g0 g' (1000 * 1 + p))))) := by
      refine wF_mono go1 ?_
      rintro _ g1 ⟨rfl, k1⟩
      exact ⟨rfl, (goFX k1 _ _).mpr ⟨rfl, stop 1 p g1 k1⟩⟩
    exact ⟨fun _ => fin, fun _ => ⟨fun _ => fin, fun _ => fin⟩⟩
