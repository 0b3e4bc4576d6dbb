theorem cls_seg : ∀ (L : List (Nat × RC)) (q : Nat) (b : Nat) (cs : RC), L[q]? = some (b, cs) → (cls (L.take (q + 1))).length = (cls (L.take q)).length + cs.length ∧ (cls (L.take q)).length + cs.length ≤ (cls L).length ∧ ∀ j, j < cs.length → (cls L)[(cls (L.take q)).length + j]? = cs[j]?
  | [], q, b, cs, h => by cases h
  | (b0, c0) :: r, 0, b, cs, h => by
    have e : (b0, c0) = (b, cs) := by simpa using h
    cases e
    refine ⟨by simp [cls], by simp [cls], fun j hj => ?_⟩
    simp [cls, List.getElem?_append_left hj]
  | (b0, c0) :: r, q + 1, b, cs, h => by
    have h' : r[q]? = some (b, cs) := by simpa using h
    obtain ⟨k1, k2, k3⟩ := cls_seg r q b cs h'
    have e1 : ∀ n, (cls (((b0, c0) :: r).take (n + 1))) = c0 ++ cls (r.take n) := fun n => by simp [cls]
    have e2 : cls ((b0, c0) :: r) = c0 ++ cls r := by simp [cls]
    rw [e1, e1, e2]
    simp only [List.length_append]
    refine ⟨by omega, by omega, fun j hj => ?_⟩
    rw [List.getElem?_append_right (by omega), show c0.length + (cls (r.take q)).length + j - c0.length = (cls (r.take q)).length + j by omega]
    exact k3 j hj
theorem ev_pre {val : Nat → Int32} {cs : RC} {E : Option Int32} (h : isE val cs E) (j : Nat) : ∃ st, ev_r val (cs.take j) [] = some st := by
  have h1 := h []
  rw [← List.take_append_drop j cs, ev_app] at h1
  cases h2 : ev_r val (cs.take j) [] with
  | none => rw [h2] at h1; cases h1
  | some st => exact ⟨st, rfl⟩
theorem ev_next {val : Nat → Int32} {cs : RC} {j : Nat} {o : Nat × Nat} (ho : cs[j]? = some o) : ev_r val (cs.take (j + 1)) [] = (ev_r val (cs.take j) []).bind (ev_1 val o) := by
  have hj := (List.getElem?_eq_some_iff.mp ho)
  obtain ⟨hl, he⟩ := hj
  rw [List.take_succ, ho]
  show ev_r val (cs.take j ++ [o]) [] = _
  rw [ev_app]
  congr 1
  funext st
  show (ev_1 val o st).bind (ev_r val []) = ev_1 val o st
  cases ev_1 val o st <;> rfl
theorem w_holdsM {x m g : GG} {N B k i q b : Nat} {L : List (Nat × RC)} {cs : RC} {E : Option Int32} (hN : rN x m N) (hB : B ≤ 4) (hk : k < B) (hi : i < N) (hm : eqM m g) (e53 : g.1 0 53 = nI k) (e54 : g.1 0 54 = nI i)
    (hq : L[q]? = some (b, cs)) (hq12 : q < 12) (hlen : (cls L).length ≤ 160) (h23 : m.1 23 q = nI (cls (L.take q)).length) (h24 : m.1 24 q = nI (cls (L.take (q + 1))).length) (hcd : ∀ k o, (cls L)[k]? = some o → m.1 25 k = nI o.1 ∧ m.1 26 k = nI o.2) (hE : isE (valM m k i) cs E) (hsh : ∀ o ∈ cs, sh_ok o) :
    wF fX12_holds [.int (nI q)] g (fun v g' => v = .int (ik_b2 (decide (E = some 1))) ∧ eqN m g g' ∧ g'.1 0 53 = nI k ∧ g'.1 0 54 = nI i) := by
  obtain ⟨s1, s2, s3⟩ := cls_seg L q b cs hq
  obtain ⟨fr, hfr⟩ : ∃ fr, fr = (cls (L.take q)).length := ⟨_, rfl⟩
  rw [← hfr] at s1 s2 s3 h23
  rw [s1] at h24
  have ixq := ik_ix_nI hq12 (by omega)
  unfold fX12_holds
  simp (decide := true) only [wE_lit, wL_lit, wE_loc, wL_loc, wE_add, wE_sub, wE_mul, wE_and, wE_or, wE_xor, wE_shl, wE_shr, wE_ushr, wE_div, wE_rem, wE_neg, wE_i2b, wE_l2i, wL_i2l, wL_add, wL_mul, wE_fld, wL_fld, wE_arr, wL_arr, wC_cmp, wC_cmp0, wC_cmpL, wC_and, wC_or, wC_not, wC_ite, wL_ite, wA_nil, wA_int, wA_long, wE_call, wL_call, wS_skip, wS_seq, wS_set, wS_setL, wS_inc, wS_if, wS_put, wS_putL, wS_putOp, wS_putOpL, wS_ast, wS_astL, wS_aop, wS_aopL, wS_ret, wS_retL, wS_retV, wS_do, wS_pop, wS_dead, wS_sw, wF_body, Nat.reduceAdd, Nat.zero_add, Bool.not_not, true_and, and_true, if_true, if_false, ↓reduceIte, eq_self, Value.int.injEq, Value.long.injEq, exists_eq_left', ik_b1, ik_b0, ik_bz0, ik_bz3, ik_bz3_1, ik_bz3_0, ik_cmp, ik_cmpL, ik_eI, ik_eL, ik_as, ik_i0, ik_i1, decide_eq_true_eq, decide_eq_false_iff_not, decide_true, decide_false, Bool.not_true, Bool.not_false, reduceCtorEq, forall_const, false_implies, true_implies, implies_true, true_and, and_true, and_self, false_and, and_false, Bool.and_true, Bool.true_and, not_true_eq_false, not_false_eq_true, if_true, if_false, ite_true, ite_false, ik_bz3_0, ik_bz3_1, ik_bz0, upd_at, upd_off, ixq, Option.some.injEq, hm.1 23 (by omega), h23]
  refine wS_for _ _ (fun t σ => fr ≤ t ∧ σ.1 3 = nI t ∧ σ.1 1 = nI q ∧ eqN m g σ.2.2 ∧ σ.2.2.1 0 53 = nI k ∧ σ.2.2.1 0 54 = nI i ∧ ∃ st, ev_r (valM m k i) (cs.take (t - fr)) [] = some st ∧ evS σ.2.2 st ∧ σ.1 2 = nI st.length ∧ st.length ≤ t - fr) fr (fr + cs.length) _ ⟨Nat.le_refl _, by simp [upd], by simp [upd, ik_eI], hm.n, e53, e54, [], by simp [ev_r], trivial, by simp [upd, nI_0], by simp⟩ (by omega) (by omega) ?_ ?_ ?_
  · rintro t ⟨u1, u2, u3⟩ ht ⟨hge, b1, b2, b3, b4, b5, -⟩
    simp only at b1 b2 b3
    simp (decide := true) only [wE_lit, wL_lit, wE_loc, wL_loc, wE_add, wE_sub, wE_mul, wE_and, wE_or, wE_xor, wE_shl, wE_shr, wE_ushr, wE_div, wE_rem, wE_neg, wE_i2b, wE_l2i, wL_i2l, wL_add, wL_mul, wE_fld, wL_fld, wE_arr, wL_arr, wC_cmp, wC_cmp0, wC_cmpL, wC_and, wC_or, wC_not, wC_ite, wL_ite, wA_nil, wA_int, wA_long, wE_call, wL_call, wS_skip, wS_seq, wS_set, wS_setL, wS_inc, wS_if, wS_put, wS_putL, wS_putOp, wS_putOpL, wS_ast, wS_astL, wS_aop, wS_aopL, wS_ret, wS_retL, wS_retV, wS_do, wS_pop, wS_dead, wS_sw, wF_body, Nat.reduceAdd, Nat.zero_add, Bool.not_not, true_and, and_true, if_true, if_false, ↓reduceIte, eq_self, Value.int.injEq, Value.long.injEq, exists_eq_left', ik_b1, ik_b0, ik_bz0, ik_bz3, ik_bz3_1, ik_bz3_0, ik_cmp, ik_cmpL, ik_eI, ik_eL, ik_as, ik_i0, ik_i1, decide_eq_true_eq, decide_eq_false_iff_not, decide_true, decide_false, Bool.not_true, Bool.not_false, reduceCtorEq, forall_const, false_implies, true_implies, implies_true, true_and, and_true, and_self, false_and, and_false, Bool.and_true, Bool.true_and, not_true_eq_false, not_false_eq_true, if_true, if_false, ite_true, ite_false, ik_bz3_0, ik_bz3_1, ik_bz0, b1, b2, ixq, Option.some.injEq, b3.1.1 24 (by omega), h24, nI_ltI (show t < 2 ^ 31 by omega) (show fr + cs.length < 2 ^ 31 by omega)]
  · rintro t ⟨u1, u2, u3⟩ ht ⟨hge, b1, b2, b3, b4, b5, st, b6, b7, b8, b9⟩
    simp only at b1 b2 b3 b4 b5 b7 b8
    have hj : t - fr < cs.length := by omega
    obtain ⟨o, ho⟩ : ∃ o, cs[t - fr]? = some o := ⟨cs[t - fr], List.getElem?_eq_getElem hj⟩
    have hc1 := s3 (t - fr) hj
    rw [show fr + (t - fr) = t by omega, ho] at hc1
    obtain ⟨c25, c26⟩ := hcd t o hc1
    have hso := hsh o (List.mem_of_getElem? ho)
    have ixt := ik_ix_nI (show t < 160 by omega) (by omega)
    have r25 : u3.1 25 t = nI o.1 := by rw [b3.1.1 25 (by omega)]; exact c25
    have r26 : u3.1 26 t = nI o.2 := by rw [b3.1.1 26 (by omega)]; exact c26
    have nx := ev_next (val := valM m k i) ho
    rw [b6, Option.bind_some] at nx
    obtain ⟨st', hst'⟩ := ev_pre hE (t - fr + 1)
    rw [hst'] at nx
    have hge' : fr ≤ t + 1 := by omega
    have goal : ∀ (w : Int32) (g' : GG), evS g' st' → w = nI st'.length → st'.length ≤ t + 1 - fr → ∃ st, ev_r (valM m k i) (cs.take (t + 1 - fr)) [] = some st ∧ evS g' st ∧ w = nI st.length ∧ st.length ≤ t + 1 - fr := by
      intro w g' a6 a7 a8
      exact ⟨st', by rw [show t + 1 - fr = t - fr + 1 by omega]; exact hst', a6, a7, a8⟩
    have ixn := ik_ix_nI (show st.length < 200 by omega) (by omega)
    have o256 : o.1 < 256 := by
      rcases hso with ⟨h, -⟩ | ⟨h, -⟩ | h | h | h | h | h | h
      · omega
      · omega
      · omega
      · simp only [sg_times, Bool.or_eq_true, beq_iff_eq] at h; omega
      · simp only [sg_plus, Bool.or_eq_true, beq_iff_eq] at h; omega
      · simp only [sg_cmp, Bool.or_eq_true, beq_iff_eq] at h; omega
      · simp only [sg_and, beq_iff_eq] at h; omega
      · simp only [sg_or, beq_iff_eq] at h; omega
    have l2 : (2 < nI o.1) ↔ 2 < o.1 := by rw [show (2 : Int32) = nI 2 from rfl, nI_ltI (by omega) (by omega)]
    have q2 := nI_is o256 (k := 2) (by omega) (a := 2) rfl
    have q0 := nI_is o256 (k := 0) (by omega) (a := 0) rfl
    by_cases c2 : 2 < o.1
    · -- a sign
      have hop : sg_op o.1 ∨ o.1 = 38 ∨ o.1 = 124 := by
        unfold sg_op
        rcases hso with ⟨h, -⟩ | ⟨h, -⟩ | h | h | h | h | h | h
        · omega
        · omega
        · omega
        · simp only [sg_times, Bool.or_eq_true, beq_iff_eq] at h; omega
        · simp only [sg_plus, Bool.or_eq_true, beq_iff_eq] at h; omega
        · simp only [sg_cmp, Bool.or_eq_true, beq_iff_eq] at h; omega
        · simp only [sg_and, beq_iff_eq] at h; omega
        · simp only [sg_or, beq_iff_eq] at h; omega
      unfold ev_1 at nx
      rw [if_neg (by omega), if_neg (by omega), if_neg (by omega)] at nx
      match st, nx, b7, b8, b9 with
      | [], nx, _, _, _ => cases nx
      | [_], nx, _, _, _ => cases nx
      | B0 :: A0 :: r, nx, b7, b8, b9 =>
        cases nx
        have b9' : r.length + 1 + 1 ≤ t - fr := b9
        have b8' : u1 2 = nI (r.length + 1 + 1) := b8
        have e1 : nI (r.length + 1 + 1) + -1 = nI (r.length + 1) := pk_m1 _
        have e2 : nI (r.length + 1) - 1 = nI r.length := nI_pred _
        simp (decide := true) only [wE_lit, wL_lit, wE_loc, wL_loc, wE_add, wE_sub, wE_mul, wE_and, wE_or, wE_xor, wE_shl, wE_shr, wE_ushr, wE_div, wE_rem, wE_neg, wE_i2b, wE_l2i, wL_i2l, wL_add, wL_mul, wE_fld, wL_fld, wE_arr, wL_arr, wC_cmp, wC_cmp0, wC_cmpL, wC_and, wC_or, wC_not, wC_ite, wL_ite, wA_nil, wA_int, wA_long, wE_call, wL_call, wS_skip, wS_seq, wS_set, wS_setL, wS_inc, wS_if, wS_put, wS_putL, wS_putOp, wS_putOpL, wS_ast, wS_astL, wS_aop, wS_aopL, wS_ret, wS_retL, wS_retV, wS_do, wS_pop, wS_dead, wS_sw, wF_body, Nat.reduceAdd, Nat.zero_add, Bool.not_not, true_and, and_true, if_true, if_false, ↓reduceIte, eq_self, Value.int.injEq, Value.long.injEq, exists_eq_left', ik_b1, ik_b0, ik_bz0, ik_bz3, ik_bz3_1, ik_bz3_0, ik_cmp, ik_cmpL, ik_eI, ik_eL, ik_as, ik_i0, ik_i1, decide_eq_true_eq, decide_eq_false_iff_not, decide_true, decide_false, Bool.not_true, Bool.not_false, reduceCtorEq, forall_const, false_implies, true_implies, implies_true, true_and, and_true, and_self, false_and, and_false, Bool.and_true, Bool.true_and, not_true_eq_false, not_false_eq_true, if_true, if_false, ite_true, ite_false, ik_bz3_0, ik_bz3_1, ik_bz0, b1, b8', ixt, Option.some.injEq, r25, l2, c2, e1, e2, upd_at, upd_off]
        refine wF_mono (w_does hop b7 (by omega) b3.1) ?_
        rintro _ g' ⟨rfl, k1, k2, k3⟩
        simp (decide := true) only [Nat.reduceAdd, Nat.zero_add, Bool.not_not, true_and, and_true, if_true, if_false, ↓reduceIte, eq_self, Value.int.injEq, Value.long.injEq, exists_eq_left', ik_b1, ik_b0, ik_bz0, ik_bz3, ik_bz3_1, ik_bz3_0, ik_cmp, ik_cmpL, ik_eI, ik_eL, ik_as, ik_i0, ik_i1, decide_eq_true_eq, decide_eq_false_iff_not, decide_true, decide_false, Bool.not_true, Bool.not_false, reduceCtorEq, forall_const, false_implies, true_implies, implies_true, true_and, and_true, and_self, false_and, and_false, Bool.and_true, Bool.true_and, not_true_eq_false, not_false_eq_true, if_true, if_false, ite_true, ite_false, ik_bz3_0, ik_bz3_1, ik_bz0, b1, upd_at, upd_off, nI_1]
        exact ⟨hge', b2, b3.tr k2, by rw [k3]; exact b4, by rw [k3]; exact b5, goal _ g' k1 rfl (by simp; omega)⟩
    · by_cases d2 : o.1 = 2
      · unfold ev_1 at nx
        rw [if_neg (by omega), if_neg (by omega), if_pos d2] at nx
        match st, nx, b7, b8, b9 with
        | [], nx, _, _, _ => cases nx
        | A0 :: r, nx, b7, b8, b9 =>
          cases nx
          have b9' : r.length + 1 ≤ t - fr := b9
          have b8' : u1 2 = nI (r.length + 1) := b8
          have e2 : nI (r.length + 1) - 1 = nI r.length := nI_pred _
          have ixr := ik_ix_nI (show r.length < 200 by omega) (by omega)
          simp (decide := true) only [wE_lit, wL_lit, wE_loc, wL_loc, wE_add, wE_sub, wE_mul, wE_and, wE_or, wE_xor, wE_shl, wE_shr, wE_ushr, wE_div, wE_rem, wE_neg, wE_i2b, wE_l2i, wL_i2l, wL_add, wL_mul, wE_fld, wL_fld, wE_arr, wL_arr, wC_cmp, wC_cmp0, wC_cmpL, wC_and, wC_or, wC_not, wC_ite, wL_ite, wA_nil, wA_int, wA_long, wE_call, wL_call, wS_skip, wS_seq, wS_set, wS_setL, wS_inc, wS_if, wS_put, wS_putL, wS_putOp, wS_putOpL, wS_ast, wS_astL, wS_aop, wS_aopL, wS_ret, wS_retL, wS_retV, wS_do, wS_pop, wS_dead, wS_sw, wF_body, Nat.reduceAdd, Nat.zero_add, Bool.not_not, true_and, and_true, if_true, if_false, ↓reduceIte, eq_self, Value.int.injEq, Value.long.injEq, exists_eq_left', ik_b1, ik_b0, ik_bz0, ik_bz3, ik_bz3_1, ik_bz3_0, ik_cmp, ik_cmpL, ik_eI, ik_eL, ik_as, ik_i0, ik_i1, decide_eq_true_eq, decide_eq_false_iff_not, decide_true, decide_false, Bool.not_true, Bool.not_false, reduceCtorEq, forall_const, false_implies, true_implies, implies_true, true_and, and_true, and_self, false_and, and_false, Bool.and_true, Bool.true_and, not_true_eq_false, not_false_eq_true, if_true, if_false, ite_true, ite_false, ik_bz3_0, ik_bz3_1, ik_bz0, b1, b8', ixt, Option.some.injEq, r25, l2, c2, q2, d2, e2, upd_at, upd_off, ixr, nI_1]
          refine ⟨hge', b2, b3.si _ (by omega), b4, b5, goal _ _ ⟨?_, evS_up (Or.inl rfl) b7.2 (Nat.le_refl _)⟩ rfl (by simp; omega)⟩
          obtain ⟨hA, -⟩ := b7
          unfold okS
          rw [ik_si_row _ _ _ _ _ (by decide), ik_si_same]
          cases A0 with
          | none => exact hA
          | some u => exact ⟨hA.1, by rw [hA.2]⟩
      · have b7' := evS_up (a := 34) (v := 0) (Or.inr rfl) b7 (Nat.le_refl st.length)
        have fin : ∀ v, ev_1 (valM m k i) o st = some (some v :: st) → (evS (ik_si (ik_si u3 34 st.length 0) 33 st.length v) st' ∧ eqN m g (ik_si (ik_si u3 34 st.length 0) 33 st.length v)) ∧ st'.length = st.length + 1 := by
          intro v hv
          rw [hv] at nx
          cases nx
          refine ⟨⟨⟨⟨?_, ?_⟩, evS_up (Or.inl rfl) b7' (Nat.le_refl _)⟩, (b3.si _ (by omega)).si _ (by omega)⟩, rfl⟩
          · rw [ik_si_row _ _ _ _ _ (by decide), ik_si_same]
          · rw [ik_si_same]
        by_cases d0 : o.1 = 0
        · obtain ⟨⟨k1, k2⟩, k3⟩ := fin (nI o.2) (by unfold ev_1; rw [if_pos d0])
          simp (decide := true) only [wE_lit, wL_lit, wE_loc, wL_loc, wE_add, wE_sub, wE_mul, wE_and, wE_or, wE_xor, wE_shl, wE_shr, wE_ushr, wE_div, wE_rem, wE_neg, wE_i2b, wE_l2i, wL_i2l, wL_add, wL_mul, wE_fld, wL_fld, wE_arr, wL_arr, wC_cmp, wC_cmp0, wC_cmpL, wC_and, wC_or, wC_not, wC_ite, wL_ite, wA_nil, wA_int, wA_long, wE_call, wL_call, wS_skip, wS_seq, wS_set, wS_setL, wS_inc, wS_if, wS_put, wS_putL, wS_putOp, wS_putOpL, wS_ast, wS_astL, wS_aop, wS_aopL, wS_ret, wS_retL, wS_retV, wS_do, wS_pop, wS_dead, wS_sw, wF_body, Nat.reduceAdd, Nat.zero_add, Bool.not_not, true_and, and_true, if_true, if_false, ↓reduceIte, eq_self, Value.int.injEq, Value.long.injEq, exists_eq_left', ik_b1, ik_b0, ik_bz0, ik_bz3, ik_bz3_1, ik_bz3_0, ik_cmp, ik_cmpL, ik_eI, ik_eL, ik_as, ik_i0, ik_i1, decide_eq_true_eq, decide_eq_false_iff_not, decide_true, decide_false, Bool.not_true, Bool.not_false, reduceCtorEq, forall_const, false_implies, true_implies, implies_true, true_and, and_true, and_self, false_and, and_false, Bool.and_true, Bool.true_and, not_true_eq_false, not_false_eq_true, if_true, if_false, ite_true, ite_false, ik_bz3_0, ik_bz3_1, ik_bz0, wE_ite, b1, b8, ixt, Option.some.injEq, r25, r26, l2, c2, q2, d2, q0, d0, upd_at, upd_off, ixn, nI_1, ik_si_row]
          exact ⟨hge', b2, k2, b4, b5, goal _ _ k1 (by rw [k3]) (by omega)⟩
        · have d1 : o.1 = 1 := by omega
          have hfc : sg_fact o.2 = true := by
            rcases hso with ⟨h, -⟩ | ⟨-, h⟩ | h | h
            · omega
            · exact h
            · omega
            · rw [d1] at h; exact absurd h (by decide)
          obtain ⟨⟨k1, k2⟩, k3⟩ := fin (valM m k i o.2) (by unfold ev_1; rw [if_neg d0, if_pos d1])
          have hm1 : eqM m (ik_si u3 34 st.length 0) := b3.1.si _ (by omega)
          have vo := fun Q => w_valueOf (l := o.2) hN hB hk hi hm1 (by rw [ik_si_row _ _ _ _ _ (by decide)]; exact b4) (by rw [ik_si_row _ _ _ _ _ (by decide)]; exact b5) hfc Q
          simp (decide := true) only [wE_lit, wL_lit, wE_loc, wL_loc, wE_add, wE_sub, wE_mul, wE_and, wE_or, wE_xor, wE_shl, wE_shr, wE_ushr, wE_div, wE_rem, wE_neg, wE_i2b, wE_l2i, wL_i2l, wL_add, wL_mul, wE_fld, wL_fld, wE_arr, wL_arr, wC_cmp, wC_cmp0, wC_cmpL, wC_and, wC_or, wC_not, wC_ite, wL_ite, wA_nil, wA_int, wA_long, wE_call, wL_call, wS_skip, wS_seq, wS_set, wS_setL, wS_inc, wS_if, wS_put, wS_putL, wS_putOp, wS_putOpL, wS_ast, wS_astL, wS_aop, wS_aopL, wS_ret, wS_retL, wS_retV, wS_do, wS_pop, wS_dead, wS_sw, wF_body, Nat.reduceAdd, Nat.zero_add, Bool.not_not, true_and, and_true, if_true, if_false, ↓reduceIte, eq_self, Value.int.injEq, Value.long.injEq, exists_eq_left', ik_b1, ik_b0, ik_bz0, ik_bz3, ik_bz3_1, ik_bz3_0, ik_cmp, ik_cmpL, ik_eI, ik_eL, ik_as, ik_i0, ik_i1, decide_eq_true_eq, decide_eq_false_iff_not, decide_true, decide_false, Bool.not_true, Bool.not_false, reduceCtorEq, forall_const, false_implies, true_implies, implies_true, true_and, and_true, and_self, false_and, and_false, Bool.and_true, Bool.true_and, not_true_eq_false, not_false_eq_true, if_true, if_false, ite_true, ite_false, ik_bz3_0, ik_bz3_1, ik_bz0, wE_ite, b1, b8, ixt, Option.some.injEq, r25, r26, l2, c2, q2, d2, q0, d0, upd_at, upd_off, ixn, nI_1, ik_si_row, vo]
          exact ⟨hge', b2, k2, b4, b5, goal _ _ k1 (by rw [k3]) (by omega)⟩
  · rintro ⟨u1, u2, u3⟩ ⟨hge, b1, b2, b3, b4, b5, st, b6, b7, b8, b9⟩
    simp only at b1 b2 b3 b4 b5 b7 b8
    rw [show fr + cs.length - fr = cs.length by omega, List.take_length, hE []] at b6
    cases b6
    obtain ⟨hA, -⟩ := b7
    have ix0 : ik_ix 0 200 = some 0 := rfl
    cases E with
    | none =>
      have hA' : u3.1 34 0 = 1 := hA
      simp (decide := true) only [wE_lit, wL_lit, wE_loc, wL_loc, wE_add, wE_sub, wE_mul, wE_and, wE_or, wE_xor, wE_shl, wE_shr, wE_ushr, wE_div, wE_rem, wE_neg, wE_i2b, wE_l2i, wL_i2l, wL_add, wL_mul, wE_fld, wL_fld, wE_arr, wL_arr, wC_cmp, wC_cmp0, wC_cmpL, wC_and, wC_or, wC_not, wC_ite, wL_ite, wA_nil, wA_int, wA_long, wE_call, wL_call, wS_skip, wS_seq, wS_set, wS_setL, wS_inc, wS_if, wS_put, wS_putL, wS_putOp, wS_putOpL, wS_ast, wS_astL, wS_aop, wS_aopL, wS_ret, wS_retL, wS_retV, wS_do, wS_pop, wS_dead, wS_sw, wF_body, Nat.reduceAdd, Nat.zero_add, Bool.not_not, true_and, and_true, if_true, if_false, ↓reduceIte, eq_self, Value.int.injEq, Value.long.injEq, exists_eq_left', ik_b1, ik_b0, ik_bz0, ik_bz3, ik_bz3_1, ik_bz3_0, ik_cmp, ik_cmpL, ik_eI, ik_eL, ik_as, ik_i0, ik_i1, decide_eq_true_eq, decide_eq_false_iff_not, decide_true, decide_false, Bool.not_true, Bool.not_false, reduceCtorEq, forall_const, false_implies, true_implies, implies_true, true_and, and_true, and_self, false_and, and_false, Bool.and_true, Bool.true_and, not_true_eq_false, not_false_eq_true, if_true, if_false, ite_true, ite_false, ik_bz3_0, ik_bz3_1, ik_bz0, wE_ite2, ix0, Option.some.injEq, hA', ik_b2]
      exact ⟨b3, b4, b5⟩
    | some u =>
      obtain ⟨h1, h2⟩ := hA
      have h1' : u3.1 34 0 = 0 := h1
      have h2' : u3.1 33 0 = u := h2
      by_cases e : u = 1
      · simp (decide := true) only [wE_lit, wL_lit, wE_loc, wL_loc, wE_add, wE_sub, wE_mul, wE_and, wE_or, wE_xor, wE_shl, wE_shr, wE_ushr, wE_div, wE_rem, wE_neg, wE_i2b, wE_l2i, wL_i2l, wL_add, wL_mul, wE_fld, wL_fld, wE_arr, wL_arr, wC_cmp, wC_cmp0, wC_cmpL, wC_and, wC_or, wC_not, wC_ite, wL_ite, wA_nil, wA_int, wA_long, wE_call, wL_call, wS_skip, wS_seq, wS_set, wS_setL, wS_inc, wS_if, wS_put, wS_putL, wS_putOp, wS_putOpL, wS_ast, wS_astL, wS_aop, wS_aopL, wS_ret, wS_retL, wS_retV, wS_do, wS_pop, wS_dead, wS_sw, wF_body, Nat.reduceAdd, Nat.zero_add, Bool.not_not, true_and, and_true, if_true, if_false, ↓reduceIte, eq_self, Value.int.injEq, Value.long.injEq, exists_eq_left', ik_b1, ik_b0, ik_bz0, ik_bz3, ik_bz3_1, ik_bz3_0, ik_cmp, ik_cmpL, ik_eI, ik_eL, ik_as, ik_i0, ik_i1, decide_eq_true_eq, decide_eq_false_iff_not, decide_true, decide_false, Bool.not_true, Bool.not_false, reduceCtorEq, forall_const, false_implies, true_implies, implies_true, true_and, and_true, and_self, false_and, and_false, Bool.and_true, Bool.true_and, not_true_eq_false, not_false_eq_true, if_true, if_false, ite_true, ite_false, ik_bz3_0, ik_bz3_1, ik_bz0, wE_ite2, ix0, Option.some.injEq, h1', h2', e, ik_b2]
        exact ⟨b3, b4, b5⟩
      · simp (decide := true) only [wE_lit, wL_lit, wE_loc, wL_loc, wE_add, wE_sub, wE_mul, wE_and, wE_or, wE_xor, wE_shl, wE_shr, wE_ushr, wE_div, wE_rem, wE_neg, wE_i2b, wE_l2i, wL_i2l, wL_add, wL_mul, wE_fld, wL_fld, wE_arr, wL_arr, wC_cmp, wC_cmp0, wC_cmpL, wC_and, wC_or, wC_not, wC_ite, wL_ite, wA_nil, wA_int, wA_long, wE_call, wL_call, wS_skip, wS_seq, wS_set, wS_setL, wS_inc, wS_if, wS_put, wS_putL, wS_putOp, wS_putOpL, wS_ast, wS_astL, wS_aop, wS_aopL, wS_ret, wS_retL, wS_retV, wS_do, wS_pop, wS_dead, wS_sw, wF_body, Nat.reduceAdd, Nat.zero_add, Bool.not_not, true_and, and_true, if_true, if_false, ↓reduceIte, eq_self, Value.int.injEq, Value.long.injEq, exists_eq_left', ik_b1, ik_b0, ik_bz0, ik_bz3, ik_bz3_1, ik_bz3_0, ik_cmp, ik_cmpL, ik_eI, ik_eL, ik_as, ik_i0, ik_i1, decide_eq_true_eq, decide_eq_false_iff_not, decide_true, decide_false, Bool.not_true, Bool.not_false, reduceCtorEq, forall_const, false_implies, true_implies, implies_true, true_and, and_true, and_self, false_and, and_false, Bool.and_true, Bool.true_and, not_true_eq_false, not_false_eq_true, if_true, if_false, ite_true, ite_false, ik_bz3_0, ik_bz3_1, ik_bz0, wE_ite2, ix0, Option.some.injEq, h1', h2', e, ik_b2]
        exact ⟨b3, b4, b5⟩
