/-! sums over names, bar by bar -/
def sm (f : Nat → Nat) : Nat → Nat
  | 0 => 0
  | n + 1 => sm f n + f n
theorem sm_congr {f g : Nat → Nat} : ∀ {n : Nat}, (∀ i, i < n → f i = g i) → sm f n = sm g n
  | 0, _ => rfl
  | n + 1, h => by
    show sm f n + f n = sm g n + g n
    rw [sm_congr (n := n) (fun i hi => h i (by omega)), h n (by omega)]
theorem sm_add (f g : Nat → Nat) : ∀ n, sm (fun i => f i + g i) n = sm f n + sm g n
  | 0 => rfl
  | n + 1 => by
    show sm (fun i => f i + g i) n + (f n + g n) = (sm f n + f n) + (sm g n + g n)
    rw [sm_add f g n]
    omega
theorem sm_mul (c : Nat) (f : Nat → Nat) : ∀ n, sm (fun i => c * f i) n = c * sm f n
  | 0 => rfl
  | n + 1 => by
    show sm (fun i => c * f i) n + c * f n = c * (sm f n + f n)
    rw [sm_mul c f n, Nat.mul_add]
theorem sm_zero : ∀ n, sm (fun _ => 0) n = 0
  | 0 => rfl
  | n + 1 => by
    show sm (fun _ => 0) n + 0 = 0
    rw [sm_zero n]
theorem sm_pos {f : Nat → Nat} : ∀ {n : Nat}, 0 < sm f n ↔ ∃ i, i < n ∧ 0 < f i
  | 0 => ⟨fun h => absurd h (Nat.lt_irrefl _), fun ⟨i, h, _⟩ => absurd h (Nat.not_lt_zero _)⟩
  | n + 1 => by
    have ih := sm_pos (f := f) (n := n)
    show 0 < sm f n + f n ↔ _
    constructor
    · intro h
      by_cases c : 0 < f n
      · exact ⟨n, by omega, c⟩
      · obtain ⟨i, h1, h2⟩ := ih.mp (by omega)
        exact ⟨i, by omega, h2⟩
    · rintro ⟨i, h1, h2⟩
      by_cases e : i = n
      · subst e; omega
      · have := ih.mpr ⟨i, by omega, h2⟩
        omega
theorem sm_one {f : Nat → Nat} {j : Nat} : ∀ {n : Nat}, (∀ i, i ≠ j → f i = 0) → sm f n = if j < n then f j else 0
  | 0, _ => by simp [sm]
  | n + 1, h => by
    show sm f n + f n = _
    rw [sm_one (n := n) h]
    by_cases e : j = n
    · subst e
      rw [if_neg (Nat.lt_irrefl _), if_pos (Nat.lt_succ_self _), Nat.zero_add]
    · rw [h n (fun q => e q.symm)]
      by_cases c : j < n
      · rw [if_pos c, if_pos (by omega)]; rfl
      · rw [if_neg c, if_neg (by omega)]
theorem sm_bgc (c : Nat → Bool) {N : Nat} : ∀ n, bgc (fun i => decide (i < N) && c i) n = sm (fun i => if c i = true then 1 else 0) (min n N)
  | 0 => by rw [Nat.zero_min]; rfl
  | n + 1 => by
    show bgc (fun i => decide (i < N) && c i) n + (if (decide (n < N) && c n) = true then 1 else 0) = _
    rw [sm_bgc c n]
    by_cases h : n < N
    · rw [Nat.min_eq_left (by omega), Nat.min_eq_left (by omega), decide_eq_true h, Bool.true_and]
      rfl
    · rw [Nat.min_eq_right (by omega), Nat.min_eq_right (by omega), decide_eq_false h]
      simp
theorem bgc_congr {p q : Nat → Bool} : ∀ {n : Nat}, (∀ t, t < n → p t = q t) → bgc p n = bgc q n
  | 0, _ => rfl
  | n + 1, h => by
    show bgc p n + _ = bgc q n + _
    rw [bgc_congr (n := n) (fun t ht => h t (by omega)), h n (by omega)]
/-- what all rows of names from bar k on are worth together that may stand so -/
def nst (cd : Nat → (Nat → Nat) → Nat → Bool) (w : Nat → Nat → Nat) (N : Nat) : Nat → Nat → (Nat → Nat) → Nat
  | 0, _, _ => 1
  | d + 1, k, u => sm (fun i => if cd k u i = true then w k i * nst cd w N d (k + 1) (updN u k i) else 0) N
theorem nst_congr {cd : Nat → (Nat → Nat) → Nat → Bool} {w w' : Nat → Nat → Nat} {N : Nat} : ∀ (d k : Nat) (u : Nat → Nat), (∀ k', k ≤ k' → w k' = w' k') → nst cd w N d k u = nst cd w' N d k u
  | 0, _, _, _ => rfl
  | d + 1, k, u, h => by
    refine sm_congr (fun i _ => ?_)
    rw [h k (Nat.le_refl _), nst_congr d (k + 1) (updN u k i) (fun k' hk => h k' (by omega))]
/-- only those in which bar j has name i -/
def fO (w : Nat → Nat) (j i : Nat) : Nat → Nat → Nat := fun k i' => if k = j ∧ i' ≠ i then 0 else w i'
theorem fO_off {w : Nat → Nat} {j i k : Nat} (h : k ≠ j) : fO w j i k = w := by
  funext i'
  unfold fO
  rw [if_neg (fun q => h q.1)]
theorem fO_nst {cd : Nat → (Nat → Nat) → Nat → Bool} {w : Nat → Nat} {N j i : Nat} (d k : Nat) (u : Nat → Nat) (h : j < k) : nst cd (fO w j i) N d k u = nst cd (fun _ => w) N d k u := nst_congr d k u (fun k' hk => fO_off (by omega))
/-- the rows ahead of k stay -/
def kpU (g g' : GG) (k : Nat) : Prop := ∀ q, q < k → g'.1 59 q = g.1 59 q ∧ g'.1 60 q = g.1 60 q
theorem kpU.rfl' (g : GG) (k : Nat) : kpU g g k := fun _ _ => ⟨rfl, rfl⟩
theorem kpU.tr {a b c : GG} {k : Nat} (h : kpU a b k) (h2 : kpU b c k) : kpU a c k := fun q hq => ⟨(h2 q hq).1.trans (h q hq).1, (h2 q hq).2.trans (h q hq).2⟩
theorem uOK.kp {N k : Nat} {m g g' : GG} {u : Nat → Nat} (h : uOK N m g u k) (hk : kpU g g' k) : uOK N m g' u k := fun q hq => ⟨(h q hq).1, by rw [(hk q hq).1]; exact (h q hq).2.1, by rw [(hk q hq).2]; exact (h q hq).2.2⟩
/-- name i is put under bar k -/
def gUn (g : GG) (k : Nat) (i w : Int32) : GG := ik_si (ik_si g 59 k i) 60 k w
theorem gUn_ok {N k i : Nat} {m g : GG} {u : Nat → Nat} (h : uOK N m g u k) (hi : i < N) : uOK N m (gUn g k (nI i) (ik_nw m i)) (updN u k i) (k + 1) := by
  intro q hq
  unfold gUn
  by_cases e : q = k
  · subst e
    rw [updN_at, ik_si_row _ _ _ _ _ (by decide), ik_si_same, ik_si_same]
    exact ⟨hi, rfl, rfl⟩
  · rw [updN_off e, ik_si_row _ 60 59 _ _ (by decide), ik_si_ne _ _ _ _ _ e, ik_si_ne _ 60 _ _ _ e, ik_si_row _ 59 60 _ _ (by decide)]
    exact h q (by omega)
theorem gUn_kp (g : GG) (k : Nat) (i w : Int32) : kpU g (gUn g k i w) k := by
  intro q hq
  unfold gUn
  rw [ik_si_row _ 60 59 _ _ (by decide), ik_si_ne _ _ _ _ _ (by omega), ik_si_ne _ 60 _ _ _ (by omega), ik_si_row _ 59 60 _ _ (by decide)]
  exact ⟨rfl, rfl⟩
theorem gUn_s {y g : GG} (h : eqS y g) (k : Nat) (i w : Int32) : eqS y (gUn g k i w) := (h.si i (by omega)).si w (by omega)
/-- name i is put under bar k, if both may be -/
theorem w_putF {k i : Nat} (hk : k < 4) (hi : i < 24) (g : GG) {w : Int32} (hw : g.1 57 i = w) (Q : Value → GG → Prop) : wF fX2_put [.int (nI k), .int (nI i)] g Q ↔ Q .null (gUn g k (nI i) w) := by
  refine wF_eq (eq_of_wF ?_) Q
  have w57 : (ik_si g 59 k (nI i)).1 57 i = w := by rw [ik_si_row _ _ _ _ _ (by decide)]; exact hw
  unfold fX2_put gUn
  simp (decide := true) only [wE_lit, wL_lit, wE_loc, wL_loc, wE_add, wE_sub, wE_mul, wE_and, wE_or, wE_xor, wE_shl, wE_shr, wE_ushr, wE_div, wE_rem, wE_neg, wE_i2b, wE_l2i, wL_i2l, wL_add, wL_mul, wE_fld, wL_fld, wE_arr, wL_arr, wC_cmp, wC_cmp0, wC_cmpL, wC_and, wC_or, wC_not, wC_ite, wL_ite, wA_nil, wA_int, wA_long, wE_call, wL_call, wS_skip, wS_seq, wS_set, wS_setL, wS_inc, wS_if, wS_put, wS_putL, wS_putOp, wS_putOpL, wS_ast, wS_astL, wS_aop, wS_aopL, wS_ret, wS_retL, wS_retV, wS_do, wS_pop, wS_dead, wS_sw, wF_body, Nat.reduceAdd, Nat.zero_add, Bool.not_not, true_and, and_true, if_true, if_false, ↓reduceIte, eq_self, Value.int.injEq, Value.long.injEq, exists_eq_left', ik_b1, ik_b0, ik_bz0, ik_bz3, ik_bz3_1, ik_bz3_0, ik_cmp, ik_cmpL, ik_eI, ik_eL, ik_as, ik_i0, ik_i1, decide_eq_true_eq, decide_eq_false_iff_not, decide_true, decide_false, Bool.not_true, Bool.not_false, reduceCtorEq, forall_const, false_implies, true_implies, implies_true, true_and, and_true, and_self, false_and, and_false, Bool.and_true, Bool.true_and, not_true_eq_false, not_false_eq_true, if_true, if_false, ite_true, ite_false, ik_bz3_0, ik_bz3_1, ik_bz0, w_isBar2 hk, w_isName2 hi, ik_ix_nI (show k < 4 by omega) (by omega), ik_ix_nI (show i < 24 by omega) (by omega), Option.some.injEq, w57]
theorem w_count {B N T A : Nat} {M : Nat → Nat} {y m : GG} {P : (Nat → Int) → Prop} {ft : Nat → Nat → Bool} {td ld : Bool} (hy : SR B N T M y m A P ft td ld) :
    ∀ (d n k : Nat) (u : Nat → Nat) (g : GG), k + d = B → 1 ≤ d → d ≤ n → eqS y g → uOK N m g u k → wF (g_countFrom n) [.int (nI k)] g (fun v g' => eqS y g' ∧ kpU g g' k ∧ g'.2 = g.2 ∧ v = .int (nI (nst (cdB M y m T ft td ld) (fun _ _ => 1) N d k u)))
  | 0, _, _, _, _, _, h1, _, _, _ => absurd h1 (by decide)
  | _ + 1, 0, _, _, _, _, _, h2, _, _ => absurd h2 (Nat.not_succ_le_zero _)
  | d + 1, n + 1, k, u, g, hB, h1, h2, hg, hu => by
    have hB4 : B ≤ 4 := hy.2.2.2.1
    have hN24 : N ≤ 24 := hy.2.2.1
    obtain ⟨_, g1, ec, p1, rfl⟩ := w_cand hy hg hu (show k < B by omega)
    have hg1 := hg.tr p1.s
    have k1 : kpU g g1 k := fun q _ => ⟨by rw [p1.1 59 (by decide)], by rw [p1.1 60 (by decide)]⟩
    have hu1 := hu.kp k1
    obtain ⟨b, hb⟩ : ∃ b, b = ik_bs (fun i => decide (i < N) && cdB M y m T ft td ld k u i) 24 := ⟨_, rfl⟩
    have bl : b < 2 ^ 24 := by rw [hb]; exact ik_bs_lt _ _
    have bt : ∀ i, i < N → ib (nI b) i = cdB M y m T ft td ld k u i := by
      intro i hi
      rw [ib_nI (by omega), hb, ik_bs_bit]
      simp [hi, show i < 24 by omega]
    rw [← hb] at ec
    have isb := w_isBar2 (show k < 4 by omega) g
    have e9 : g1.1 48 9 = nI (B - 1 + 1) := by rw [hg1.1 48 (by decide) (by decide) (by decide) (by decide), hy.2.2.2.2.1, show B - 1 + 1 = B by omega]
    have ge : (nI k ≥ nI (B - 1)) ↔ d = 0 := by
      show nI (B - 1) ≤ nI k ↔ _
      rw [nI_leI (by omega) (by omega)]
      omega
    show wF (fX2_countFrom (fX2_countBehind (g_countFrom n))) [.int (nI k)] g _
    unfold fX2_countFrom
    by_cases d0 : d = 0
    · subst d0
      have geT := eq_true (ge.mpr rfl)
      simp (decide := true) only [wE_lit, wL_lit, wE_loc, wL_loc, wE_add, wE_sub, wE_mul, wE_and, wE_or, wE_xor, wE_shl, wE_shr, wE_ushr, wE_div, wE_rem, wE_neg, wE_i2b, wE_l2i, wL_i2l, wL_add, wL_mul, wE_fld, wL_fld, wE_arr, wL_arr, wC_cmp, wC_cmp0, wC_cmpL, wC_and, wC_or, wC_not, wC_ite, wL_ite, wA_nil, wA_int, wA_long, wE_call, wL_call, wS_skip, wS_seq, wS_set, wS_setL, wS_inc, wS_if, wS_put, wS_putL, wS_putOp, wS_putOpL, wS_ast, wS_astL, wS_aop, wS_aopL, wS_ret, wS_retL, wS_retV, wS_do, wS_pop, wS_dead, wS_sw, wF_body, Nat.reduceAdd, Nat.zero_add, Bool.not_not, true_and, and_true, if_true, if_false, ↓reduceIte, eq_self, Value.int.injEq, Value.long.injEq, exists_eq_left', ik_b1, ik_b0, ik_bz0, ik_bz3, ik_bz3_1, ik_bz3_0, ik_cmp, ik_cmpL, ik_eI, ik_eL, ik_as, ik_i0, ik_i1, decide_eq_true_eq, decide_eq_false_iff_not, decide_true, decide_false, Bool.not_true, Bool.not_false, reduceCtorEq, forall_const, false_implies, true_implies, implies_true, true_and, and_true, and_self, false_and, and_false, Bool.and_true, Bool.true_and, not_true_eq_false, not_false_eq_true, if_true, if_false, ite_true, ite_false, ik_bz3_0, ik_bz3_1, ik_bz0, isb, wF_eq ec, e9, nI_pred, geT, w_bitCount bl, upd_at, upd_off]
      refine ⟨hg1, k1, p1.2.2, congrArg nI ?_⟩
      have q1 : bgc b.testBit 24 = bgc (fun i => decide (i < N) && cdB M y m T ft td ld k u i) 24 := bgc_congr (fun t ht => by rw [hb, ik_bs_bit]; simp [ht])
      rw [q1, sm_bgc, Nat.min_eq_right hN24]
      rfl
    · have geF := eq_false (fun q => d0 (ge.mp q))
      simp (decide := true) only [wE_lit, wL_lit, wE_loc, wL_loc, wE_add, wE_sub, wE_mul, wE_and, wE_or, wE_xor, wE_shl, wE_shr, wE_ushr, wE_div, wE_rem, wE_neg, wE_i2b, wE_l2i, wL_i2l, wL_add, wL_mul, wE_fld, wL_fld, wE_arr, wL_arr, wC_cmp, wC_cmp0, wC_cmpL, wC_and, wC_or, wC_not, wC_ite, wL_ite, wA_nil, wA_int, wA_long, wE_call, wL_call, wS_skip, wS_seq, wS_set, wS_setL, wS_inc, wS_if, wS_put, wS_putL, wS_putOp, wS_putOpL, wS_ast, wS_astL, wS_aop, wS_aopL, wS_ret, wS_retL, wS_retV, wS_do, wS_pop, wS_dead, wS_sw, wF_body, Nat.reduceAdd, Nat.zero_add, Bool.not_not, true_and, and_true, if_true, if_false, ↓reduceIte, eq_self, Value.int.injEq, Value.long.injEq, exists_eq_left', ik_b1, ik_b0, ik_bz0, ik_bz3, ik_bz3_1, ik_bz3_0, ik_cmp, ik_cmpL, ik_eI, ik_eL, ik_as, ik_i0, ik_i1, decide_eq_true_eq, decide_eq_false_iff_not, decide_true, decide_false, Bool.not_true, Bool.not_false, reduceCtorEq, forall_const, false_implies, true_implies, implies_true, true_and, and_true, and_self, false_and, and_false, Bool.and_true, Bool.true_and, not_true_eq_false, not_false_eq_true, if_true, if_false, ite_true, ite_false, ik_bz3_0, ik_bz3_1, ik_bz0, isb, wF_eq ec, e9, nI_pred, geF, upd_at, upd_off]
      refine wS_for _ _ (fun i σ => σ.1 4 = nI i ∧ σ.1 1 = nI k ∧ σ.1 2 = nI b ∧ σ.1 3 = nI (sm (fun i => if cdB M y m T ft td ld k u i = true then 1 * nst (cdB M y m T ft td ld) (fun _ _ => 1) N d (k + 1) (updN u k i) else 0) i) ∧ eqS y σ.2.2 ∧ kpU g σ.2.2 k ∧ σ.2.2.2 = g.2) 0 N _ ⟨by simp [upd, nI_0], by simp [upd, ik_eI], by simp [upd], by simp [upd, sm, nI_0], hg1, k1, p1.2.2⟩ (by omega) (by omega) ?_ ?_ ?_
      · rintro i ⟨t1, t2, t3⟩ a1 ⟨a2, a3, a4, a5, a6, a7, a8⟩
        simp only at a2 a6
        exact wc_X (M := 24) (by show t3.1 48 10 = _; rw [a6.1 48 (by decide) (by decide) (by decide) (by decide)]; exact hy.2.2.2.2.2.1) hN24 (by decide) a1 a2
      · rintro i ⟨t1, t2, t3⟩ a1 ⟨a2, a3, a4, a5, a6, a7, a8⟩
        simp only at a2 a3 a4 a5 a6 a7 a8
        have bb := w_bitb (nI b) (show i < 32 by omega) t3
        rw [bt i a1] at bb
        have nx : nI i + (1 : Int32) = nI (i + 1) := by show nI i + nI 1 = _; rw [nI_add]
        cases hc : cdB M y m T ft td ld k u i with
        | false =>
          rw [hc] at bb
          simp (decide := true) only [wE_lit, wL_lit, wE_loc, wL_loc, wE_add, wE_sub, wE_mul, wE_and, wE_or, wE_xor, wE_shl, wE_shr, wE_ushr, wE_div, wE_rem, wE_neg, wE_i2b, wE_l2i, wL_i2l, wL_add, wL_mul, wE_fld, wL_fld, wE_arr, wL_arr, wC_cmp, wC_cmp0, wC_cmpL, wC_and, wC_or, wC_not, wC_ite, wL_ite, wA_nil, wA_int, wA_long, wE_call, wL_call, wS_skip, wS_seq, wS_set, wS_setL, wS_inc, wS_if, wS_put, wS_putL, wS_putOp, wS_putOpL, wS_ast, wS_astL, wS_aop, wS_aopL, wS_ret, wS_retL, wS_retV, wS_do, wS_pop, wS_dead, wS_sw, wF_body, Nat.reduceAdd, Nat.zero_add, Bool.not_not, true_and, and_true, if_true, if_false, ↓reduceIte, eq_self, Value.int.injEq, Value.long.injEq, exists_eq_left', ik_b1, ik_b0, ik_bz0, ik_bz3, ik_bz3_1, ik_bz3_0, ik_cmp, ik_cmpL, ik_eI, ik_eL, ik_as, ik_i0, ik_i1, decide_eq_true_eq, decide_eq_false_iff_not, decide_true, decide_false, Bool.not_true, Bool.not_false, reduceCtorEq, forall_const, false_implies, true_implies, implies_true, true_and, and_true, and_self, false_and, and_false, Bool.and_true, Bool.true_and, not_true_eq_false, not_false_eq_true, if_true, if_false, ite_true, ite_false, ik_bz3_0, ik_bz3_1, ik_bz0, a2, a3, a4, bb, show ik_b2 false = 0 from rfl, upd_at, upd_off, nx]
          refine ⟨?_, a6, a7, a8⟩
          rw [a5]
          show _ = nI (sm _ i + (if cdB M y m T ft td ld k u i = true then _ else 0))
          rw [hc]
          rfl
        | true =>
          rw [hc] at bb
          have w57 : t3.1 57 i = ik_nw m i := by rw [a6.1 57 (by decide) (by decide) (by decide) (by decide)]; exact (hy.2.2.2.2.2.2.2.2.1 i a1).1
          have ih := w_count hy d n (k + 1) (updN u k i) (gUn t3 k (nI i) (ik_nw m i)) (by omega) (by omega) (by omega) (gUn_s a6 _ _ _) (gUn_ok (hu.kp a7) a1)
          obtain ⟨_, g2, e2, p2, p3, p4, rfl⟩ := ih
          have eb : fX2_countBehind (g_countFrom n) [.int (nI k), .int (nI i)] t3 = some (.int (nI (nst (cdB M y m T ft td ld) (fun _ _ => 1) N d (k + 1) (updN u k i))), g2) := by
            apply eq_of_wF
            unfold fX2_countBehind
            simp (decide := true) only [wE_lit, wL_lit, wE_loc, wL_loc, wE_add, wE_sub, wE_mul, wE_and, wE_or, wE_xor, wE_shl, wE_shr, wE_ushr, wE_div, wE_rem, wE_neg, wE_i2b, wE_l2i, wL_i2l, wL_add, wL_mul, wE_fld, wL_fld, wE_arr, wL_arr, wC_cmp, wC_cmp0, wC_cmpL, wC_and, wC_or, wC_not, wC_ite, wL_ite, wA_nil, wA_int, wA_long, wE_call, wL_call, wS_skip, wS_seq, wS_set, wS_setL, wS_inc, wS_if, wS_put, wS_putL, wS_putOp, wS_putOpL, wS_ast, wS_astL, wS_aop, wS_aopL, wS_ret, wS_retL, wS_retV, wS_do, wS_pop, wS_dead, wS_sw, wF_body, Nat.reduceAdd, Nat.zero_add, Bool.not_not, true_and, and_true, if_true, if_false, ↓reduceIte, eq_self, Value.int.injEq, Value.long.injEq, exists_eq_left', ik_b1, ik_b0, ik_bz0, ik_bz3, ik_bz3_1, ik_bz3_0, ik_cmp, ik_cmpL, ik_eI, ik_eL, ik_as, ik_i0, ik_i1, decide_eq_true_eq, decide_eq_false_iff_not, decide_true, decide_false, Bool.not_true, Bool.not_false, reduceCtorEq, forall_const, false_implies, true_implies, implies_true, true_and, and_true, and_self, false_and, and_false, Bool.and_true, Bool.true_and, not_true_eq_false, not_false_eq_true, if_true, if_false, ite_true, ite_false, ik_bz3_0, ik_bz3_1, ik_bz0, w_putF (show k < 4 by omega) (show i < 24 by omega) t3 w57, nI_1, nI_add, wF_eq e2]
          simp (decide := true) only [wE_lit, wL_lit, wE_loc, wL_loc, wE_add, wE_sub, wE_mul, wE_and, wE_or, wE_xor, wE_shl, wE_shr, wE_ushr, wE_div, wE_rem, wE_neg, wE_i2b, wE_l2i, wL_i2l, wL_add, wL_mul, wE_fld, wL_fld, wE_arr, wL_arr, wC_cmp, wC_cmp0, wC_cmpL, wC_and, wC_or, wC_not, wC_ite, wL_ite, wA_nil, wA_int, wA_long, wE_call, wL_call, wS_skip, wS_seq, wS_set, wS_setL, wS_inc, wS_if, wS_put, wS_putL, wS_putOp, wS_putOpL, wS_ast, wS_astL, wS_aop, wS_aopL, wS_ret, wS_retL, wS_retV, wS_do, wS_pop, wS_dead, wS_sw, wF_body, Nat.reduceAdd, Nat.zero_add, Bool.not_not, true_and, and_true, if_true, if_false, ↓reduceIte, eq_self, Value.int.injEq, Value.long.injEq, exists_eq_left', ik_b1, ik_b0, ik_bz0, ik_bz3, ik_bz3_1, ik_bz3_0, ik_cmp, ik_cmpL, ik_eI, ik_eL, ik_as, ik_i0, ik_i1, decide_eq_true_eq, decide_eq_false_iff_not, decide_true, decide_false, Bool.not_true, Bool.not_false, reduceCtorEq, forall_const, false_implies, true_implies, implies_true, true_and, and_true, and_self, false_and, and_false, Bool.and_true, Bool.true_and, not_true_eq_false, not_false_eq_true, if_true, if_false, ite_true, ite_false, ik_bz3_0, ik_bz3_1, ik_bz0, a2, a3, a4, a5, bb, show ik_b2 true = 1 from rfl, wF_eq eb, upd_at, upd_off, nx]
          refine ⟨?_, p2, fun q hq => ?_, ?_⟩
          · rw [nI_add]
            show _ = nI (sm _ i + (if cdB M y m T ft td ld k u i = true then _ else 0))
            rw [hc, if_pos rfl, Nat.one_mul]
          · have q1 := p3 q (by omega)
            have q2 := gUn_kp t3 k (nI i) (ik_nw m i) q hq
            have q3 := a7 q hq
            exact ⟨q1.1.trans (q2.1.trans q3.1), q1.2.trans (q2.2.trans q3.2)⟩
          · rw [p4]; exact a8
      · rintro ⟨t1, t2, t3⟩ ⟨a2, a3, a4, a5, a6, a7, a8⟩
        simp only at a5 a6 a7 a8
        simp (decide := true) only [wE_lit, wL_lit, wE_loc, wL_loc, wE_add, wE_sub, wE_mul, wE_and, wE_or, wE_xor, wE_shl, wE_shr, wE_ushr, wE_div, wE_rem, wE_neg, wE_i2b, wE_l2i, wL_i2l, wL_add, wL_mul, wE_fld, wL_fld, wE_arr, wL_arr, wC_cmp, wC_cmp0, wC_cmpL, wC_and, wC_or, wC_not, wC_ite, wL_ite, wA_nil, wA_int, wA_long, wE_call, wL_call, wS_skip, wS_seq, wS_set, wS_setL, wS_inc, wS_if, wS_put, wS_putL, wS_putOp, wS_putOpL, wS_ast, wS_astL, wS_aop, wS_aopL, wS_ret, wS_retL, wS_retV, wS_do, wS_pop, wS_dead, wS_sw, wF_body, Nat.reduceAdd, Nat.zero_add, Bool.not_not, true_and, and_true, if_true, if_false, ↓reduceIte, eq_self, Value.int.injEq, Value.long.injEq, exists_eq_left', ik_b1, ik_b0, ik_bz0, ik_bz3, ik_bz3_1, ik_bz3_0, ik_cmp, ik_cmpL, ik_eI, ik_eL, ik_as, ik_i0, ik_i1, decide_eq_true_eq, decide_eq_false_iff_not, decide_true, decide_false, Bool.not_true, Bool.not_false, reduceCtorEq, forall_const, false_implies, true_implies, implies_true, true_and, and_true, and_self, false_and, and_false, Bool.and_true, Bool.true_and, not_true_eq_false, not_false_eq_true, if_true, if_false, ite_true, ite_false, ik_bz3_0, ik_bz3_1, ik_bz0, a5]
        exact ⟨a6, a7, a8, rfl⟩
