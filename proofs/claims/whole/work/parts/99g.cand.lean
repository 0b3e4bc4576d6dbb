/-! the names that may stand under a bar behind those under the bars before -/
noncomputable def clB (p : Prop) : Bool := @decide p (Classical.propDecidable p)
theorem clB_iff {p : Prop} : clB p = true ↔ p := by unfold clB; exact @decide_eq_true_iff p (Classical.propDecidable p)
theorem clB_congr {p q : Prop} (h : p ↔ q) : clB p = clB q := by
  cases e : clB q with
  | true => exact clB_iff.mpr (h.mpr (clB_iff.mp e))
  | false =>
    cases e2 : clB p with
    | false => rfl
    | true => rw [clB_iff.mpr (h.mp (clB_iff.mp e2))] at e; cases e
theorem clB_eq {p : Prop} {b : Bool} (h : p ↔ b = true) : clB p = b := by
  cases b with
  | true => exact clB_iff.mpr (h.mpr rfl)
  | false =>
    cases e2 : clB p with
    | false => rfl
    | true => exact (h.mp (clB_iff.mp e2)).symm
def updN (u : Nat → Nat) (k i : Nat) : Nat → Nat := fun q => if q = k then i else u q
theorem updN_at (u : Nat → Nat) (k i : Nat) : updN u k i k = i := if_pos rfl
theorem updN_off {u : Nat → Nat} {k i q : Nat} (h : q ≠ k) : updN u k i q = u q := if_neg h
/-- if name i is under bar q, name j may be under bar k, by all ties of the two -/
def prF (m : GG) (q k i j t : Nat) : Bool := (decide (m.1 36 t = nI q ∧ m.1 37 t = nI k) && !mtB m (m.1 35 t) true i j) || (decide (m.1 37 t = nI q ∧ m.1 36 t = nI k) && !mtB m (m.1 35 t) false i j)
def prB (m : GG) (T q k i j : Nat) : Bool := !ik_any (prF m q k i j) T
noncomputable def cdB (M : Nat → Nat) (y m : GG) (T : Nat) (ft : Nat → Nat → Bool) (td ld : Bool) (k : Nat) (u : Nat → Nat) (i : Nat) : Bool := clB (ft k i = true ∧ (td = true → ∀ q, q < k → prB m T q k (u q) i = true) ∧ (ld = true → ∀ j, j < M k → lnC y (wU m (updN u k i)) (144 * k + j)))
/-- what stands ready for a search -/
def SR (B N T : Nat) (M : Nat → Nat) (y m : GG) (A : Nat) (P : (Nat → Int) → Prop) (ft : Nat → Nat → Bool) (td ld : Bool) : Prop := LNM B M y A P ∧ A ≤ 144 ∧ N ≤ 24 ∧ B ≤ 4 ∧ y.1 48 9 = nI B ∧ y.1 48 10 = nI N ∧ y.1 48 11 = ik_b2 td ∧ y.1 48 12 = ik_b2 ld ∧ (∀ i, i < N → y.1 57 i = ik_nw m i ∧ btw (ik_nw m i) 960 ∧ y.1 58 i = m.1 9 i ∧ 1 ≤ m.1 9 i ∧ m.1 9 i ≤ 100) ∧ (∀ q k i j, q < k → k < B → i < N → j < N → ib (y.1 56 ((q * 4 + k) * 24 + i)) j = prB m T q k i j) ∧ ∀ k, k < B → ∀ j, j < 32 → ib (y.1 55 k) j = (decide (j < N) && ft k j)
def eqS (y g : GG) : Prop := (∀ a, a ≠ 49 → a ≠ 59 → a ≠ 60 → a ≠ 61 → g.1 a = y.1 a) ∧ ∀ j, j < 6 → g.1 49 j = y.1 49 j
theorem eqS.rfl' (y : GG) : eqS y y := ⟨fun _ _ _ _ _ => rfl, fun _ _ => rfl⟩
theorem eqS.tr {a b c : GG} (h : eqS a b) (k : eqS b c) : eqS a c := ⟨fun q h1 h2 h3 h4 => (k.1 q h1 h2 h3 h4).trans (h.1 q h1 h2 h3 h4), fun j hj => (k.2 j hj).trans (h.2 j hj)⟩
theorem eqS.si {y g : GG} (h : eqS y g) {a j : Nat} (v : Int32) (ha : a = 59 ∨ a = 60 ∨ a = 61) : eqS y (ik_si g a j v) := ⟨fun q h1 h2 h3 h4 => by rw [ik_si_row _ _ _ _ _ (by omega)]; exact h.1 q h1 h2 h3 h4, fun k hk => by rw [ik_si_row _ _ _ _ _ (by omega)]; exact h.2 k hk⟩
theorem eqS.sl {y g : GG} (h : eqS y g) (a j : Nat) (v : Int64) : eqS y (ik_sl g a j v) := h
theorem eqG.s {y g : GG} (h : eqG y g) : eqS y g := ⟨fun a h1 _ _ _ => h.1 a h1, fun j hj => h.2.1 j (by omega) (by omega)⟩
theorem LNM.eqS {B A : Nat} {M : Nat → Nat} {y g : GG} {P : (Nat → Int) → Prop} (h : LNM B M y A P) (e : eqS y g) : LNM B M g A P := by
  obtain ⟨k1, k2, k3⟩ := h
  have r : ∀ a, 50 ≤ a → a ≤ 53 → g.1 a = y.1 a := fun a h1 h2 => e.1 a (by omega) (by omega) (by omega) (by omega)
  have lc : ∀ w c, lnC g w c ↔ lnC y w c := fun w c => lnC_congr (by rw [r 51 (by decide) (by decide)]) (by rw [r 52 (by decide) (by decide)]) (fun q _ => by rw [r 53 (by decide) (by decide)])
  refine ⟨by rw [e.2 5 (by decide)]; exact k1, fun k hk => ⟨(k2 k hk).1, by rw [r 50 (by decide) (by decide)]; exact (k2 k hk).2.1, fun j hj => lnK_congr (by rw [r 51 (by decide) (by decide)]) (by rw [r 52 (by decide) (by decide)]) (fun q _ => by rw [r 53 (by decide) (by decide)]) ((k2 k hk).2.2 j hj)⟩, fun w => ?_⟩
  rw [e.2 5 (by decide), ← k3 w]
  simp only [lc]
theorem cdB_eqS {M : Nat → Nat} {y g m : GG} {T : Nat} {ft : Nat → Nat → Bool} {td ld : Bool} (e : eqS y g) (k : Nat) (u : Nat → Nat) (i : Nat) : cdB M g m T ft td ld k u i = cdB M y m T ft td ld k u i := by
  have r : ∀ a, 50 ≤ a → a ≤ 53 → g.1 a = y.1 a := fun a h1 h2 => e.1 a (by omega) (by omega) (by omega) (by omega)
  have lc : ∀ w c, lnC g w c ↔ lnC y w c := fun w c => lnC_congr (by rw [r 51 (by decide) (by decide)]) (by rw [r 52 (by decide) (by decide)]) (fun q _ => by rw [r 53 (by decide) (by decide)])
  unfold cdB
  simp only [lc]
theorem SR.eqS {B N T A : Nat} {M : Nat → Nat} {y g m : GG} {P : (Nat → Int) → Prop} {ft : Nat → Nat → Bool} {td ld : Bool} (h : SR B N T M y m A P ft td ld) (e : eqS y g) : SR B N T M g m A P ft td ld := by
  obtain ⟨h1, h2, h3, h4, h5, h6, h7, h8, h9, h10, h11⟩ := h
  have r : ∀ a, a ≠ 49 → a ≠ 59 → a ≠ 60 → a ≠ 61 → g.1 a = y.1 a := e.1
  refine ⟨h1.eqS e, h2, h3, h4, ?_, ?_, ?_, ?_, fun i hi => ?_, fun q k i j a b c d => ?_, fun k hk j hj => ?_⟩
  · rw [r 48 (by decide) (by decide) (by decide) (by decide)]; exact h5
  · rw [r 48 (by decide) (by decide) (by decide) (by decide)]; exact h6
  · rw [r 48 (by decide) (by decide) (by decide) (by decide)]; exact h7
  · rw [r 48 (by decide) (by decide) (by decide) (by decide)]; exact h8
  · rw [r 57 (by decide) (by decide) (by decide) (by decide), r 58 (by decide) (by decide) (by decide) (by decide)]; exact h9 i hi
  · rw [r 56 (by decide) (by decide) (by decide) (by decide)]; exact h10 q k i j a b c d
  · rw [r 55 (by decide) (by decide) (by decide) (by decide)]; exact h11 k hk j hj
theorem w_place (x i z : Nat) (g : GG) (Q : Value → GG → Prop) : wF fX2_pairPlace [.int (nI x), .int (nI i), .int (nI z)] g Q ↔ Q (.int (nI ((x * 4 + z) * 24 + i))) g := by
  refine wF_eq (eq_of_wF ?_) Q
  unfold fX2_pairPlace
  simp (decide := true) only [wE_lit, wL_lit, wE_loc, wL_loc, wE_add, wE_sub, wE_mul, wE_and, wE_or, wE_xor, wE_shl, wE_shr, wE_ushr, wE_div, wE_rem, wE_neg, wE_i2b, wE_l2i, wL_i2l, wL_add, wL_mul, wE_fld, wL_fld, wE_arr, wL_arr, wC_cmp, wC_cmp0, wC_cmpL, wC_and, wC_or, wC_not, wC_ite, wL_ite, wA_nil, wA_int, wA_long, wE_call, wL_call, wS_skip, wS_seq, wS_set, wS_setL, wS_inc, wS_if, wS_put, wS_putL, wS_putOp, wS_putOpL, wS_ast, wS_astL, wS_aop, wS_aopL, wS_ret, wS_retL, wS_retV, wS_do, wS_pop, wS_dead, wS_sw, wF_body, Nat.reduceAdd, Nat.zero_add, Bool.not_not, true_and, and_true, if_true, if_false, ↓reduceIte, eq_self, Value.int.injEq, Value.long.injEq, exists_eq_left', ik_b1, ik_b0, ik_bz0, ik_bz3, ik_bz3_1, ik_bz3_0, ik_cmp, ik_cmpL, ik_eI, ik_eL, ik_as, ik_i0, ik_i1, decide_eq_true_eq, decide_eq_false_iff_not, decide_true, decide_false, Bool.not_true, Bool.not_false, reduceCtorEq, forall_const, false_implies, true_implies, implies_true, true_and, and_true, and_self, false_and, and_false, Bool.and_true, Bool.true_and, not_true_eq_false, not_false_eq_true, if_true, if_false, ite_true, ite_false, ik_bz3_0, ik_bz3_1, ik_bz0, show (4 : Int32) = nI 4 from rfl, show (24 : Int32) = nI 24 from rfl, pk_mul, nI_add]
theorem w_isBar2 {k : Nat} (hk : k < 4) (g : GG) (Q : Value → GG → Prop) : wF fX2_isBar [.int (nI k)] g Q ↔ Q (.int 1) g := by
  refine wF_eq (eq_of_wF ?_) Q
  have p1 := nI_pos' (n := k) (by omega)
  have p2 : nI k < 4 := by rw [show (4 : Int32) = nI 4 from rfl, nI_ltI (by omega) (by omega)]; omega
  unfold fX2_isBar
  simp (decide := true) only [wE_lit, wL_lit, wE_loc, wL_loc, wE_add, wE_sub, wE_mul, wE_and, wE_or, wE_xor, wE_shl, wE_shr, wE_ushr, wE_div, wE_rem, wE_neg, wE_i2b, wE_l2i, wL_i2l, wL_add, wL_mul, wE_fld, wL_fld, wE_arr, wL_arr, wC_cmp, wC_cmp0, wC_cmpL, wC_and, wC_or, wC_not, wC_ite, wL_ite, wA_nil, wA_int, wA_long, wE_call, wL_call, wS_skip, wS_seq, wS_set, wS_setL, wS_inc, wS_if, wS_put, wS_putL, wS_putOp, wS_putOpL, wS_ast, wS_astL, wS_aop, wS_aopL, wS_ret, wS_retL, wS_retV, wS_do, wS_pop, wS_dead, wS_sw, wF_body, Nat.reduceAdd, Nat.zero_add, Bool.not_not, true_and, and_true, if_true, if_false, ↓reduceIte, eq_self, Value.int.injEq, Value.long.injEq, exists_eq_left', ik_b1, ik_b0, ik_bz0, ik_bz3, ik_bz3_1, ik_bz3_0, ik_cmp, ik_cmpL, ik_eI, ik_eL, ik_as, ik_i0, ik_i1, decide_eq_true_eq, decide_eq_false_iff_not, decide_true, decide_false, Bool.not_true, Bool.not_false, reduceCtorEq, forall_const, false_implies, true_implies, implies_true, true_and, and_true, and_self, false_and, and_false, Bool.and_true, Bool.true_and, not_true_eq_false, not_false_eq_true, if_true, if_false, ite_true, ite_false, ik_bz3_0, ik_bz3_1, ik_bz0, wE_ite, p1, p2]
theorem w_isName2 {i : Nat} (hi : i < 24) (g : GG) (Q : Value → GG → Prop) : wF fX2_isName [.int (nI i)] g Q ↔ Q (.int 1) g := by
  refine wF_eq (eq_of_wF ?_) Q
  have p1 := nI_pos' (n := i) (by omega)
  have p2 : nI i < 24 := by rw [show (24 : Int32) = nI 24 from rfl, nI_ltI (by omega) (by omega)]; omega
  unfold fX2_isName
  simp (decide := true) only [wE_lit, wL_lit, wE_loc, wL_loc, wE_add, wE_sub, wE_mul, wE_and, wE_or, wE_xor, wE_shl, wE_shr, wE_ushr, wE_div, wE_rem, wE_neg, wE_i2b, wE_l2i, wL_i2l, wL_add, wL_mul, wE_fld, wL_fld, wE_arr, wL_arr, wC_cmp, wC_cmp0, wC_cmpL, wC_and, wC_or, wC_not, wC_ite, wL_ite, wA_nil, wA_int, wA_long, wE_call, wL_call, wS_skip, wS_seq, wS_set, wS_setL, wS_inc, wS_if, wS_put, wS_putL, wS_putOp, wS_putOpL, wS_ast, wS_astL, wS_aop, wS_aopL, wS_ret, wS_retL, wS_retV, wS_do, wS_pop, wS_dead, wS_sw, wF_body, Nat.reduceAdd, Nat.zero_add, Bool.not_not, true_and, and_true, if_true, if_false, ↓reduceIte, eq_self, Value.int.injEq, Value.long.injEq, exists_eq_left', ik_b1, ik_b0, ik_bz0, ik_bz3, ik_bz3_1, ik_bz3_0, ik_cmp, ik_cmpL, ik_eI, ik_eL, ik_as, ik_i0, ik_i1, decide_eq_true_eq, decide_eq_false_iff_not, decide_true, decide_false, Bool.not_true, Bool.not_false, reduceCtorEq, forall_const, false_implies, true_implies, implies_true, true_and, and_true, and_self, false_and, and_false, Bool.and_true, Bool.true_and, not_true_eq_false, not_false_eq_true, if_true, if_false, ite_true, ite_false, ik_bz3_0, ik_bz3_1, ik_bz0, wE_ite, p1, p2]
theorem w_matesF {x i z : Nat} (hx : x < 4) (hi : i < 24) (hz : z < 4) (g : GG) (Q : Value → GG → Prop) : wF fX2_mates [.int (nI x), .int (nI i), .int (nI z)] g Q ↔ Q (.int (g.1 56 ((x * 4 + z) * 24 + i))) g := by
  refine wF_eq (eq_of_wF ?_) Q
  have ixp := ik_ix_nI (show (x * 4 + z) * 24 + i < 384 by omega) (by omega)
  unfold fX2_mates
  simp (decide := true) only [wE_lit, wL_lit, wE_loc, wL_loc, wE_add, wE_sub, wE_mul, wE_and, wE_or, wE_xor, wE_shl, wE_shr, wE_ushr, wE_div, wE_rem, wE_neg, wE_i2b, wE_l2i, wL_i2l, wL_add, wL_mul, wE_fld, wL_fld, wE_arr, wL_arr, wC_cmp, wC_cmp0, wC_cmpL, wC_and, wC_or, wC_not, wC_ite, wL_ite, wA_nil, wA_int, wA_long, wE_call, wL_call, wS_skip, wS_seq, wS_set, wS_setL, wS_inc, wS_if, wS_put, wS_putL, wS_putOp, wS_putOpL, wS_ast, wS_astL, wS_aop, wS_aopL, wS_ret, wS_retL, wS_retV, wS_do, wS_pop, wS_dead, wS_sw, wF_body, Nat.reduceAdd, Nat.zero_add, Bool.not_not, true_and, and_true, if_true, if_false, ↓reduceIte, eq_self, Value.int.injEq, Value.long.injEq, exists_eq_left', ik_b1, ik_b0, ik_bz0, ik_bz3, ik_bz3_1, ik_bz3_0, ik_cmp, ik_cmpL, ik_eI, ik_eL, ik_as, ik_i0, ik_i1, decide_eq_true_eq, decide_eq_false_iff_not, decide_true, decide_false, Bool.not_true, Bool.not_false, reduceCtorEq, forall_const, false_implies, true_implies, implies_true, true_and, and_true, and_self, false_and, and_false, Bool.and_true, Bool.true_and, not_true_eq_false, not_false_eq_true, if_true, if_false, ite_true, ite_false, ik_bz3_0, ik_bz3_1, ik_bz0, wE_ite, w_isBar2 hx, w_isBar2 hz, w_isName2 hi, w_place, ixp, Option.some.injEq]
/-- the names under the bars before k -/
def uOK (N : Nat) (m : GG) (g : GG) (u : Nat → Nat) (k : Nat) : Prop := ∀ q, q < k → u q < N ∧ g.1 59 q = nI (u q) ∧ g.1 60 q = ik_nw m (u q)
theorem w_cand {B N T A : Nat} {M : Nat → Nat} {y g m : GG} {P : (Nat → Int) → Prop} {ft : Nat → Nat → Bool} {td ld : Bool} {u : Nat → Nat} {k : Nat} (hy : SR B N T M y m A P ft td ld) (hg : eqS y g) (hu : uOK N m g u k) (hk : k < B) :
    wF fX2_candidates [.int (nI k)] g (fun v g' => eqG g g' ∧ v = .int (nI (ik_bs (fun i => decide (i < N) && cdB M y m T ft td ld k u i) 24))) := by
  have hSR := hy.eqS hg
  obtain ⟨h1, h2, h3, h4, h5, h6, h7, h8, h9, h10, h11⟩ := hSR
  have k4 : k < 4 := by omega
  have ixk := ik_ix_nI k4 (by omega)
  have nxt : ∀ q, nI q + (1 : Int32) = nI (q + 1) := fun q => by show nI q + nI 1 = _; rw [nI_add]
  -- behind the ties
  obtain ⟨tp, htp⟩ : ∃ tp : Nat → Bool, tp = fun j => decide (j < N) && ft k j && (!td || !ik_any (fun q => !prB m T q k (u q) j) k) := ⟨_, rfl⟩
  have tpE : ∀ j, tp j = (decide (j < N) && ft k j && (!td || !ik_any (fun q => !prB m T q k (u q) j) k)) := fun j => by rw [htp]
  have fin : ∀ (r : Int32), (∀ j, j < 32 → ib r j = (decide (j < N) && cdB M y m T ft td ld k u j)) → r = nI (ik_bs (fun i => decide (i < N) && cdB M y m T ft td ld k u i) 24) := by
    intro r hr
    refine ib_ext (fun j hj => ?_)
    have l := ik_bs_lt (fun i => decide (i < N) && cdB M y m T ft td ld k u i) 24
    rw [hr j hj, ib_nI (by omega), ik_bs_bit]
    by_cases c : j < N
    · simp [c, show j < 24 by omega]
    · simp [c]
  have tieQ : ∀ j, (td = true → ∀ q, q < k → prB m T q k (u q) j = true) ↔ (!td || !ik_any (fun q => !prB m T q k (u q) j) k) = true := by
    intro j
    cases td with
    | false => simp
    | true =>
      simp only [true_implies, Bool.not_true, Bool.false_or, Bool.not_eq_true']
      constructor
      · intro a
        exact ik_any_no (fun q hq => by rw [a q hq]; rfl)
      · intro a q hq
        cases c : prB m T q k (u q) j with
        | true => rfl
        | false => rw [ik_any_ex.mpr ⟨q, hq, by rw [c]; rfl⟩] at a; cases a
  have rest : ∀ (s1 : Nat → Int32) (s2 : Nat → Int64), s1 1 = nI k → (∀ j, j < 32 → ib (s1 2) j = tp j) →
      wS (sSeq (sIf (sAnd (sCmp0 1 (sFld 48 12)) (sCmp0 1 (sCall fX5_heeds (sArgI (sLoc 1) sNil)))) (sSeq (sDo fX5_narrow (sArgI (sLoc 1) sNil)) (sSeq (sSet 3 (sLit 0)) (sWh (sAnd (sCmp 2 (sLoc 3) (sFld 48 10)) (sCmp 2 (sLoc 3) (sLit 24))) (sSeq (sIf (sOr (sCmp 2 (sArr 57 24 (sLoc 3)) (sCall fX5_least sNil)) (sCmp 4 (sArr 57 24 (sLoc 3)) (sCall fX5_greatest sNil))) (sSet 2 (sBin 3 (sLoc 2) (sBin 5 (sBin 6 (sLit 1) (sLoc 3)) (sLit (-1))))) sSkip) (sInc 3 1)) ik_fuel))) sSkip) (sRet 0 (sLoc 2))) (s1, s2, g) (fun _ => False) (fun v g' => eqG g g' ∧ v = .int (nI (ik_bs (fun i => decide (i < N) && cdB M y m T ft td ld k u i) 24))) := by
    intro s1 s2 e1 e2
    have hd := w_heeds (g := g) h1 h2 rfl k4
    by_cases c : ld = true ∧ 0 < M k
    · obtain ⟨c1, c2⟩ := c
      subst c1
      have h8' : g.1 48 12 = 1 := h8
      simp (decide := true) only [wE_lit, wL_lit, wE_loc, wL_loc, wE_add, wE_sub, wE_mul, wE_and, wE_or, wE_xor, wE_shl, wE_shr, wE_ushr, wE_div, wE_rem, wE_neg, wE_i2b, wE_l2i, wL_i2l, wL_add, wL_mul, wE_fld, wL_fld, wE_arr, wL_arr, wC_cmp, wC_cmp0, wC_cmpL, wC_and, wC_or, wC_not, wC_ite, wL_ite, wA_nil, wA_int, wA_long, wE_call, wL_call, wS_skip, wS_seq, wS_set, wS_setL, wS_inc, wS_if, wS_put, wS_putL, wS_putOp, wS_putOpL, wS_ast, wS_astL, wS_aop, wS_aopL, wS_ret, wS_retL, wS_retV, wS_do, wS_pop, wS_dead, wS_sw, wF_body, Nat.reduceAdd, Nat.zero_add, Bool.not_not, true_and, and_true, if_true, if_false, ↓reduceIte, eq_self, Value.int.injEq, Value.long.injEq, exists_eq_left', ik_b1, ik_b0, ik_bz0, ik_bz3, ik_bz3_1, ik_bz3_0, ik_cmp, ik_cmpL, ik_eI, ik_eL, ik_as, ik_i0, ik_i1, decide_eq_true_eq, decide_eq_false_iff_not, decide_true, decide_false, Bool.not_true, Bool.not_false, reduceCtorEq, forall_const, false_implies, true_implies, implies_true, true_and, and_true, and_self, false_and, and_false, Bool.and_true, Bool.true_and, not_true_eq_false, not_false_eq_true, if_true, if_false, ite_true, ite_false, ik_bz3_0, ik_bz3_1, ik_bz0, e1, h8', hd, c2]
      refine wF_mono (w_narrow h1 h2 k4 (fun q hq => by rw [(hu q hq).2.2]; exact (h9 _ (hu q hq).1).2.1)) ?_
      rintro _ g1 ⟨rfl, p1, p2⟩
      refine ⟨rfl, ?_⟩
      have p57 : g1.1 57 = g.1 57 := p1.1 57 (by decide)
      have p48 : g1.1 48 = g.1 48 := p1.1 48 (by decide)
      -- a name that is neither too narrow nor too wide
      have ask : ∀ i, i < N → ((g1.1 49 6 ≤ ik_nw m i ∧ ik_nw m i ≤ g1.1 49 7) ↔ ∀ j, j < M k → lnC g (wU m (updN u k i)) (144 * k + j)) := fun i hi => p2 (wU m (updN u k i)) (ik_nw m i) (h9 i hi).2.1 (fun q hq => by unfold wU; rw [updN_off (by omega), (hu q hq).2.2]) (by unfold wU; rw [updN_at])
      refine wS_for _ _ (fun i σ => σ.1 3 = nI i ∧ (∀ j, j < 32 → ib (σ.1 2) j = (tp j && (decide (i ≤ j) || clB (∀ q, q < M k → lnC g (wU m (updN u k j)) (144 * k + q))))) ∧ σ.2.2 = g1) 0 N _ ⟨by simp [upd, nI_0], fun j hj => ?_, rfl⟩ (by omega) (by omega) ?_ ?_ ?_
      · show ib (upd s1 3 0 2) j = _
        rw [upd_off _ _ _ _ (by decide), e2 j hj]
        simp
      · rintro i ⟨t1, t2, t3⟩ a1 ⟨a2, a3, a4⟩
        simp only at a2 a4
        subst a4
        exact wc_X (M := 24) (by show t3.1 48 10 = _; rw [p48]; exact h6) h3 (by decide) a1 a2
      · rintro i ⟨t1, t2, t3⟩ a1 ⟨a2, a3, a4⟩
        simp only at a2 a3 a4
        subst a4
        have ixi := ik_ix_nI (show i < 24 by omega) (by omega)
        have w57 : t3.1 57 i = ik_nw m i := by rw [p57]; exact (h9 i a1).1
        have p31 : 2 ^ i < 2 ^ 31 := Nat.pow_lt_pow_right (by decide) (by omega)
        have pw := nI_pow i (by omega)
        have aski := ask i a1
        have lt6 : (ik_nw m i < t3.1 49 6) ↔ ¬ t3.1 49 6 ≤ ik_nw m i := by rw [Int32.not_le]
        have lt7 : (t3.1 49 7 < ik_nw m i) ↔ ¬ ik_nw m i ≤ t3.1 49 7 := by rw [Int32.not_le]
        have keep : (t3.1 49 6 ≤ ik_nw m i ∧ ik_nw m i ≤ t3.1 49 7) → ∀ j, j < 32 → ib (t1 2) j = (tp j && (decide (i + 1 ≤ j) || clB (∀ q, q < M k → lnC g (wU m (updN u k j)) (144 * k + q)))) := by
          intro q j hj
          rw [a3 j hj]
          by_cases e : j = i
          · subst e
            have : clB (∀ q, q < M k → lnC g (wU m (updN u k j)) (144 * k + q)) = true := clB_iff.mpr (aski.mp q)
            rw [this]
            simp
          · rw [show decide (i + 1 ≤ j) = decide (i ≤ j) from decide_eq_decide.mpr (by omega)]
        have drop : ¬ (t3.1 49 6 ≤ ik_nw m i ∧ ik_nw m i ≤ t3.1 49 7) → ∀ j, j < 32 → ib (t1 2 &&& (nI (2 ^ i) ^^^ -1)) j = (tp j && (decide (i + 1 ≤ j) || clB (∀ q, q < M k → lnC g (wU m (updN u k j)) (144 * k + q)))) := by
          intro q j hj
          rw [ib_and, ib_not _ hj, ib_nI p31, Nat.testBit_two_pow, a3 j hj]
          by_cases e : i = j
          · subst e
            have : clB (∀ q, q < M k → lnC g (wU m (updN u k i)) (144 * k + q)) = false := by
              cases c : clB (∀ q, q < M k → lnC g (wU m (updN u k i)) (144 * k + q)) with
              | false => rfl
              | true => exact absurd (aski.mpr (clB_iff.mp c)) q
            rw [this]
            simp
          · rw [show decide (i + 1 ≤ j) = decide (i ≤ j) from decide_eq_decide.mpr (by omega)]
            simp [e]
        by_cases c6 : t3.1 49 6 ≤ ik_nw m i
        · by_cases c7 : ik_nw m i ≤ t3.1 49 7
          · have l6 : (ik_nw m i < t3.1 49 6) = False := eq_false (fun q => (lt6.mp q) c6)
            have l7 : (ik_nw m i > t3.1 49 7) = False := eq_false (fun q => (lt7.mp q) c7)
            simp (decide := true) only [wE_lit, wL_lit, wE_loc, wL_loc, wE_add, wE_sub, wE_mul, wE_and, wE_or, wE_xor, wE_shl, wE_shr, wE_ushr, wE_div, wE_rem, wE_neg, wE_i2b, wE_l2i, wL_i2l, wL_add, wL_mul, wE_fld, wL_fld, wE_arr, wL_arr, wC_cmp, wC_cmp0, wC_cmpL, wC_and, wC_or, wC_not, wC_ite, wL_ite, wA_nil, wA_int, wA_long, wE_call, wL_call, wS_skip, wS_seq, wS_set, wS_setL, wS_inc, wS_if, wS_put, wS_putL, wS_putOp, wS_putOpL, wS_ast, wS_astL, wS_aop, wS_aopL, wS_ret, wS_retL, wS_retV, wS_do, wS_pop, wS_dead, wS_sw, wF_body, Nat.reduceAdd, Nat.zero_add, Bool.not_not, true_and, and_true, if_true, if_false, ↓reduceIte, eq_self, Value.int.injEq, Value.long.injEq, exists_eq_left', ik_b1, ik_b0, ik_bz0, ik_bz3, ik_bz3_1, ik_bz3_0, ik_cmp, ik_cmpL, ik_eI, ik_eL, ik_as, ik_i0, ik_i1, decide_eq_true_eq, decide_eq_false_iff_not, decide_true, decide_false, Bool.not_true, Bool.not_false, reduceCtorEq, forall_const, false_implies, true_implies, implies_true, true_and, and_true, and_self, false_and, and_false, Bool.and_true, Bool.true_and, not_true_eq_false, not_false_eq_true, if_true, if_false, ite_true, ite_false, ik_bz3_0, ik_bz3_1, ik_bz0, fX5_least, fX5_greatest, a2, ixi, Option.some.injEq, w57, l6, l7, upd_at, upd_off, nxt]
            exact keep ⟨c6, c7⟩
          · have l6 : (ik_nw m i < t3.1 49 6) = False := eq_false (fun q => (lt6.mp q) c6)
            have l7 : (ik_nw m i > t3.1 49 7) = True := eq_true (lt7.mpr c7)
            simp (decide := true) only [wE_lit, wL_lit, wE_loc, wL_loc, wE_add, wE_sub, wE_mul, wE_and, wE_or, wE_xor, wE_shl, wE_shr, wE_ushr, wE_div, wE_rem, wE_neg, wE_i2b, wE_l2i, wL_i2l, wL_add, wL_mul, wE_fld, wL_fld, wE_arr, wL_arr, wC_cmp, wC_cmp0, wC_cmpL, wC_and, wC_or, wC_not, wC_ite, wL_ite, wA_nil, wA_int, wA_long, wE_call, wL_call, wS_skip, wS_seq, wS_set, wS_setL, wS_inc, wS_if, wS_put, wS_putL, wS_putOp, wS_putOpL, wS_ast, wS_astL, wS_aop, wS_aopL, wS_ret, wS_retL, wS_retV, wS_do, wS_pop, wS_dead, wS_sw, wF_body, Nat.reduceAdd, Nat.zero_add, Bool.not_not, true_and, and_true, if_true, if_false, ↓reduceIte, eq_self, Value.int.injEq, Value.long.injEq, exists_eq_left', ik_b1, ik_b0, ik_bz0, ik_bz3, ik_bz3_1, ik_bz3_0, ik_cmp, ik_cmpL, ik_eI, ik_eL, ik_as, ik_i0, ik_i1, decide_eq_true_eq, decide_eq_false_iff_not, decide_true, decide_false, Bool.not_true, Bool.not_false, reduceCtorEq, forall_const, false_implies, true_implies, implies_true, true_and, and_true, and_self, false_and, and_false, Bool.and_true, Bool.true_and, not_true_eq_false, not_false_eq_true, if_true, if_false, ite_true, ite_false, ik_bz3_0, ik_bz3_1, ik_bz0, fX5_least, fX5_greatest, a2, ixi, Option.some.injEq, w57, l6, l7, upd_at, upd_off, nxt, pw]
            exact drop (fun q => c7 q.2)
        · have l6 : (ik_nw m i < t3.1 49 6) = True := eq_true (lt6.mpr c6)
          simp (decide := true) only [wE_lit, wL_lit, wE_loc, wL_loc, wE_add, wE_sub, wE_mul, wE_and, wE_or, wE_xor, wE_shl, wE_shr, wE_ushr, wE_div, wE_rem, wE_neg, wE_i2b, wE_l2i, wL_i2l, wL_add, wL_mul, wE_fld, wL_fld, wE_arr, wL_arr, wC_cmp, wC_cmp0, wC_cmpL, wC_and, wC_or, wC_not, wC_ite, wL_ite, wA_nil, wA_int, wA_long, wE_call, wL_call, wS_skip, wS_seq, wS_set, wS_setL, wS_inc, wS_if, wS_put, wS_putL, wS_putOp, wS_putOpL, wS_ast, wS_astL, wS_aop, wS_aopL, wS_ret, wS_retL, wS_retV, wS_do, wS_pop, wS_dead, wS_sw, wF_body, Nat.reduceAdd, Nat.zero_add, Bool.not_not, true_and, and_true, if_true, if_false, ↓reduceIte, eq_self, Value.int.injEq, Value.long.injEq, exists_eq_left', ik_b1, ik_b0, ik_bz0, ik_bz3, ik_bz3_1, ik_bz3_0, ik_cmp, ik_cmpL, ik_eI, ik_eL, ik_as, ik_i0, ik_i1, decide_eq_true_eq, decide_eq_false_iff_not, decide_true, decide_false, Bool.not_true, Bool.not_false, reduceCtorEq, forall_const, false_implies, true_implies, implies_true, true_and, and_true, and_self, false_and, and_false, Bool.and_true, Bool.true_and, not_true_eq_false, not_false_eq_true, if_true, if_false, ite_true, ite_false, ik_bz3_0, ik_bz3_1, ik_bz0, fX5_least, fX5_greatest, a2, ixi, Option.some.injEq, w57, l6, upd_at, upd_off, nxt, pw]
          exact drop (fun q => c6 q.1)
      · rintro ⟨t1, t2, t3⟩ ⟨a2, a3, a4⟩
        simp only at a3 a4
        subst a4
        simp (decide := true) only [wE_lit, wL_lit, wE_loc, wL_loc, wE_add, wE_sub, wE_mul, wE_and, wE_or, wE_xor, wE_shl, wE_shr, wE_ushr, wE_div, wE_rem, wE_neg, wE_i2b, wE_l2i, wL_i2l, wL_add, wL_mul, wE_fld, wL_fld, wE_arr, wL_arr, wC_cmp, wC_cmp0, wC_cmpL, wC_and, wC_or, wC_not, wC_ite, wL_ite, wA_nil, wA_int, wA_long, wE_call, wL_call, wS_skip, wS_seq, wS_set, wS_setL, wS_inc, wS_if, wS_put, wS_putL, wS_putOp, wS_putOpL, wS_ast, wS_astL, wS_aop, wS_aopL, wS_ret, wS_retL, wS_retV, wS_do, wS_pop, wS_dead, wS_sw, wF_body, Nat.reduceAdd, Nat.zero_add, Bool.not_not, true_and, and_true, if_true, if_false, ↓reduceIte, eq_self, Value.int.injEq, Value.long.injEq, exists_eq_left', ik_b1, ik_b0, ik_bz0, ik_bz3, ik_bz3_1, ik_bz3_0, ik_cmp, ik_cmpL, ik_eI, ik_eL, ik_as, ik_i0, ik_i1, decide_eq_true_eq, decide_eq_false_iff_not, decide_true, decide_false, Bool.not_true, Bool.not_false, reduceCtorEq, forall_const, false_implies, true_implies, implies_true, true_and, and_true, and_self, false_and, and_false, Bool.and_true, Bool.true_and, not_true_eq_false, not_false_eq_true, if_true, if_false, ite_true, ite_false, ik_bz3_0, ik_bz3_1, ik_bz0]
        refine ⟨p1, fin _ (fun j hj => ?_)⟩
        rw [a3 j hj, tpE, ← cdB_eqS hg]
        by_cases hN : j < N
        · have e1 : decide (N ≤ j) = false := decide_eq_false (by omega)
          rw [e1, decide_eq_true hN, Bool.false_or, Bool.true_and, Bool.true_and]
          unfold cdB
          symm
          refine clB_eq ?_
          rw [Bool.and_eq_true, Bool.and_eq_true, clB_iff, tieQ j]
          simp only [true_implies]
          constructor
          · exact fun z => ⟨⟨z.1, z.2.1⟩, z.2.2⟩
          · exact fun z => ⟨z.1.1, z.1.2, z.2⟩
        · simp [hN]
    · have goal : ∀ j, j < 32 → ib (s1 2) j = (decide (j < N) && cdB M y m T ft td ld k u j) := by
        intro j hj
        rw [e2 j hj, tpE]
        by_cases hN : j < N
        · rw [decide_eq_true hN, Bool.true_and, Bool.true_and]
          unfold cdB
          symm
          refine clB_eq ?_
          rw [Bool.and_eq_true, tieQ j]
          constructor
          · exact fun z => ⟨z.1, z.2.1⟩
          · exact fun z => ⟨z.1, z.2, fun q1 q hq => absurd (And.intro q1 (show 0 < M k by omega)) c⟩
        · simp [hN]
      have f := fin _ goal
      cases ld with
      | false =>
        have h8' : g.1 48 12 = 0 := h8
        simp (decide := true) only [wE_lit, wL_lit, wE_loc, wL_loc, wE_add, wE_sub, wE_mul, wE_and, wE_or, wE_xor, wE_shl, wE_shr, wE_ushr, wE_div, wE_rem, wE_neg, wE_i2b, wE_l2i, wL_i2l, wL_add, wL_mul, wE_fld, wL_fld, wE_arr, wL_arr, wC_cmp, wC_cmp0, wC_cmpL, wC_and, wC_or, wC_not, wC_ite, wL_ite, wA_nil, wA_int, wA_long, wE_call, wL_call, wS_skip, wS_seq, wS_set, wS_setL, wS_inc, wS_if, wS_put, wS_putL, wS_putOp, wS_putOpL, wS_ast, wS_astL, wS_aop, wS_aopL, wS_ret, wS_retL, wS_retV, wS_do, wS_pop, wS_dead, wS_sw, wF_body, Nat.reduceAdd, Nat.zero_add, Bool.not_not, true_and, and_true, if_true, if_false, ↓reduceIte, eq_self, Value.int.injEq, Value.long.injEq, exists_eq_left', ik_b1, ik_b0, ik_bz0, ik_bz3, ik_bz3_1, ik_bz3_0, ik_cmp, ik_cmpL, ik_eI, ik_eL, ik_as, ik_i0, ik_i1, decide_eq_true_eq, decide_eq_false_iff_not, decide_true, decide_false, Bool.not_true, Bool.not_false, reduceCtorEq, forall_const, false_implies, true_implies, implies_true, true_and, and_true, and_self, false_and, and_false, Bool.and_true, Bool.true_and, not_true_eq_false, not_false_eq_true, if_true, if_false, ite_true, ite_false, ik_bz3_0, ik_bz3_1, ik_bz0, e1, h8', f]
        exact eqG.rfl' g
      | true =>
        have c2 : ¬ 0 < M k := fun z => c ⟨rfl, z⟩
        have h8' : g.1 48 12 = 1 := h8
        simp (decide := true) only [wE_lit, wL_lit, wE_loc, wL_loc, wE_add, wE_sub, wE_mul, wE_and, wE_or, wE_xor, wE_shl, wE_shr, wE_ushr, wE_div, wE_rem, wE_neg, wE_i2b, wE_l2i, wL_i2l, wL_add, wL_mul, wE_fld, wL_fld, wE_arr, wL_arr, wC_cmp, wC_cmp0, wC_cmpL, wC_and, wC_or, wC_not, wC_ite, wL_ite, wA_nil, wA_int, wA_long, wE_call, wL_call, wS_skip, wS_seq, wS_set, wS_setL, wS_inc, wS_if, wS_put, wS_putL, wS_putOp, wS_putOpL, wS_ast, wS_astL, wS_aop, wS_aopL, wS_ret, wS_retL, wS_retV, wS_do, wS_pop, wS_dead, wS_sw, wF_body, Nat.reduceAdd, Nat.zero_add, Bool.not_not, true_and, and_true, if_true, if_false, ↓reduceIte, eq_self, Value.int.injEq, Value.long.injEq, exists_eq_left', ik_b1, ik_b0, ik_bz0, ik_bz3, ik_bz3_1, ik_bz3_0, ik_cmp, ik_cmpL, ik_eI, ik_eL, ik_as, ik_i0, ik_i1, decide_eq_true_eq, decide_eq_false_iff_not, decide_true, decide_false, Bool.not_true, Bool.not_false, reduceCtorEq, forall_const, false_implies, true_implies, implies_true, true_and, and_true, and_self, false_and, and_false, Bool.and_true, Bool.true_and, not_true_eq_false, not_false_eq_true, if_true, if_false, ite_true, ite_false, ik_bz3_0, ik_bz3_1, ik_bz0, e1, h8', hd, c2, f]
        exact eqG.rfl' g
  have fitE : ∀ (s1 : Nat → Int32) (s2 : Nat → Int64) (J : Int32 → GG → Prop), s1 1 = nI k → (wE (sIte (sCmp0 1 (sCall fX2_isBar (sArgI (sLoc 1) sNil))) (sArr 55 4 (sLoc 1)) (sLit 0)) (s1, s2, g) J ↔ J (g.1 55 k) g) := by
    intro s1 s2 J e1
    simp (decide := true) only [wE_lit, wL_lit, wE_loc, wL_loc, wE_add, wE_sub, wE_mul, wE_and, wE_or, wE_xor, wE_shl, wE_shr, wE_ushr, wE_div, wE_rem, wE_neg, wE_i2b, wE_l2i, wL_i2l, wL_add, wL_mul, wE_fld, wL_fld, wE_arr, wL_arr, wC_cmp, wC_cmp0, wC_cmpL, wC_and, wC_or, wC_not, wC_ite, wL_ite, wA_nil, wA_int, wA_long, wE_call, wL_call, wS_skip, wS_seq, wS_set, wS_setL, wS_inc, wS_if, wS_put, wS_putL, wS_putOp, wS_putOpL, wS_ast, wS_astL, wS_aop, wS_aopL, wS_ret, wS_retL, wS_retV, wS_do, wS_pop, wS_dead, wS_sw, wF_body, Nat.reduceAdd, Nat.zero_add, Bool.not_not, true_and, and_true, if_true, if_false, ↓reduceIte, eq_self, Value.int.injEq, Value.long.injEq, exists_eq_left', ik_b1, ik_b0, ik_bz0, ik_bz3, ik_bz3_1, ik_bz3_0, ik_cmp, ik_cmpL, ik_eI, ik_eL, ik_as, ik_i0, ik_i1, decide_eq_true_eq, decide_eq_false_iff_not, decide_true, decide_false, Bool.not_true, Bool.not_false, reduceCtorEq, forall_const, false_implies, true_implies, implies_true, true_and, and_true, and_self, false_and, and_false, Bool.and_true, Bool.true_and, not_true_eq_false, not_false_eq_true, if_true, if_false, ite_true, ite_false, ik_bz3_0, ik_bz3_1, ik_bz0, wE_ite, e1, w_isBar2 k4, ixk, Option.some.injEq]
  unfold fX2_candidates
  cases td with
  | false =>
    have h7' : g.1 48 11 = 0 := h7
    have := rest (upd (ik_eI 0 [.inr 48, .inl 0] [.int (nI k)]) 2 (g.1 55 k)) (ik_eL 0 [.inr 48, .inl 0] [.int (nI k)]) (by simp [upd, ik_eI]) (fun j hj => by rw [upd_at, h11 k hk j hj, tpE]; simp)
    rw [wF_body, wS_seq, wS_set, fitE _ _ _ (by simp [ik_eI])]
    simp (decide := true) only [wE_lit, wL_lit, wE_loc, wL_loc, wE_add, wE_sub, wE_mul, wE_and, wE_or, wE_xor, wE_shl, wE_shr, wE_ushr, wE_div, wE_rem, wE_neg, wE_i2b, wE_l2i, wL_i2l, wL_add, wL_mul, wE_fld, wL_fld, wE_arr, wL_arr, wC_cmp, wC_cmp0, wC_cmpL, wC_and, wC_or, wC_not, wC_ite, wL_ite, wA_nil, wA_int, wA_long, wE_call, wL_call, wS_skip, wS_seq, wS_set, wS_setL, wS_inc, wS_if, wS_put, wS_putL, wS_putOp, wS_putOpL, wS_ast, wS_astL, wS_aop, wS_aopL, wS_ret, wS_retL, wS_retV, wS_do, wS_pop, wS_dead, wS_sw, wF_body, Nat.reduceAdd, Nat.zero_add, Bool.not_not, true_and, and_true, if_true, if_false, ↓reduceIte, eq_self, Value.int.injEq, Value.long.injEq, exists_eq_left', ik_b1, ik_b0, ik_bz0, ik_bz3, ik_bz3_1, ik_bz3_0, ik_cmp, ik_cmpL, ik_eI, ik_eL, ik_as, ik_i0, ik_i1, decide_eq_true_eq, decide_eq_false_iff_not, decide_true, decide_false, Bool.not_true, Bool.not_false, reduceCtorEq, forall_const, false_implies, true_implies, implies_true, true_and, and_true, and_self, false_and, and_false, Bool.and_true, Bool.true_and, not_true_eq_false, not_false_eq_true, if_true, if_false, ite_true, ite_false, ik_bz3_0, ik_bz3_1, ik_bz0, h7'] at this ⊢
    exact this
  | true =>
    have h7' : g.1 48 11 = 1 := h7
    rw [wF_body, wS_seq, wS_set, fitE _ _ _ (by simp [ik_eI])]
    rw [wS_seq, wS_if, wC_cmp0, wE_fld]
    simp only [h7', ik_cmp]
    refine ⟨fun _ => ?_, fun z => absurd z (by decide)⟩
    rw [wS_seq, wS_set, wE_lit]
    refine wS_for _ _ (fun q σ => σ.1 3 = nI q ∧ σ.1 1 = nI k ∧ (∀ j, j < 32 → ib (σ.1 2) j = (decide (j < N) && ft k j && !ik_any (fun q => !prB m T q k (u q) j) q)) ∧ σ.2.2 = g) 0 k _ ⟨by simp [upd, nI_0], by simp [upd, ik_eI], fun j hj => ?_, rfl⟩ (by omega) (by omega) ?_ ?_ ?_
    · simp only [upd_at, upd_off, ne_eq, show ¬ (2 : Nat) = 3 by decide, not_false_eq_true]
      rw [h11 k hk j hj]
      simp [ik_any]
    · rintro q ⟨t1, t2, t3⟩ a1 ⟨a2, a3, a4, a5⟩
      simp only at a2 a3 a5
      simp (decide := true) only [wE_lit, wL_lit, wE_loc, wL_loc, wE_add, wE_sub, wE_mul, wE_and, wE_or, wE_xor, wE_shl, wE_shr, wE_ushr, wE_div, wE_rem, wE_neg, wE_i2b, wE_l2i, wL_i2l, wL_add, wL_mul, wE_fld, wL_fld, wE_arr, wL_arr, wC_cmp, wC_cmp0, wC_cmpL, wC_and, wC_or, wC_not, wC_ite, wL_ite, wA_nil, wA_int, wA_long, wE_call, wL_call, wS_skip, wS_seq, wS_set, wS_setL, wS_inc, wS_if, wS_put, wS_putL, wS_putOp, wS_putOpL, wS_ast, wS_astL, wS_aop, wS_aopL, wS_ret, wS_retL, wS_retV, wS_do, wS_pop, wS_dead, wS_sw, wF_body, Nat.reduceAdd, Nat.zero_add, Bool.not_not, true_and, and_true, if_true, if_false, ↓reduceIte, eq_self, Value.int.injEq, Value.long.injEq, exists_eq_left', ik_b1, ik_b0, ik_bz0, ik_bz3, ik_bz3_1, ik_bz3_0, ik_cmp, ik_cmpL, ik_eI, ik_eL, ik_as, ik_i0, ik_i1, decide_eq_true_eq, decide_eq_false_iff_not, decide_true, decide_false, Bool.not_true, Bool.not_false, reduceCtorEq, forall_const, false_implies, true_implies, implies_true, true_and, and_true, and_self, false_and, and_false, Bool.and_true, Bool.true_and, not_true_eq_false, not_false_eq_true, if_true, if_false, ite_true, ite_false, ik_bz3_0, ik_bz3_1, ik_bz0, a2, a3, a5, nI_ltI (show q < 2 ^ 31 by omega) (show k < 2 ^ 31 by omega), show (4 : Int32) = nI 4 from rfl, nI_ltI (show q < 2 ^ 31 by omega) (show 4 < 2 ^ 31 by omega)]
      by_cases c : q < k
      · simp [c, show q < 4 by omega]
      · simp [c]
    · rintro q ⟨t1, t2, t3⟩ a1 ⟨a2, a3, a4, a5⟩
      simp only at a2 a3 a4 a5
      subst a5
      obtain ⟨u1, u2, u3⟩ := hu q a1
      have ixq := ik_ix_nI (show q < 4 by omega) (by omega)
      simp (decide := true) only [wE_lit, wL_lit, wE_loc, wL_loc, wE_add, wE_sub, wE_mul, wE_and, wE_or, wE_xor, wE_shl, wE_shr, wE_ushr, wE_div, wE_rem, wE_neg, wE_i2b, wE_l2i, wL_i2l, wL_add, wL_mul, wE_fld, wL_fld, wE_arr, wL_arr, wC_cmp, wC_cmp0, wC_cmpL, wC_and, wC_or, wC_not, wC_ite, wL_ite, wA_nil, wA_int, wA_long, wE_call, wL_call, wS_skip, wS_seq, wS_set, wS_setL, wS_inc, wS_if, wS_put, wS_putL, wS_putOp, wS_putOpL, wS_ast, wS_astL, wS_aop, wS_aopL, wS_ret, wS_retL, wS_retV, wS_do, wS_pop, wS_dead, wS_sw, wF_body, Nat.reduceAdd, Nat.zero_add, Bool.not_not, true_and, and_true, if_true, if_false, ↓reduceIte, eq_self, Value.int.injEq, Value.long.injEq, exists_eq_left', ik_b1, ik_b0, ik_bz0, ik_bz3, ik_bz3_1, ik_bz3_0, ik_cmp, ik_cmpL, ik_eI, ik_eL, ik_as, ik_i0, ik_i1, decide_eq_true_eq, decide_eq_false_iff_not, decide_true, decide_false, Bool.not_true, Bool.not_false, reduceCtorEq, forall_const, false_implies, true_implies, implies_true, true_and, and_true, and_self, false_and, and_false, Bool.and_true, Bool.true_and, not_true_eq_false, not_false_eq_true, if_true, if_false, ite_true, ite_false, ik_bz3_0, ik_bz3_1, ik_bz0, a2, a3, ixq, Option.some.injEq, u2, w_matesF (show q < 4 by omega) (show u q < 24 by omega) k4, upd_at, upd_off, nxt]
      intro j hj
      rw [ib_and, a4 j hj]
      show _ = (decide (j < N) && ft k j && !(ik_any (fun q => !prB m T q k (u q) j) q || !prB m T q k (u q) j))
      by_cases hN : j < N
      · rw [h10 q k (u q) j a1 hk u1 hN]
        cases ft k j <;> cases ik_any (fun q => !prB m T q k (u q) j) q <;> cases prB m T q k (u q) j <;> simp
      · simp [hN]
    · rintro ⟨t1, t2, t3⟩ ⟨a2, a3, a4, a5⟩
      simp only at a3 a4 a5
      subst a5
      exact rest t1 t2 a3 (fun j hj => by rw [a4 j hj, tpE]; simp)
