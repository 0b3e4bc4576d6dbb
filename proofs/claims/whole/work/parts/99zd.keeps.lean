/-! kept: the class -/
/-- which names fit, were the habit from 0 to hi -/
def ftK (m : GG) (S n : Nat) (L : List (Nat × RC)) (hi : Int32) : Nat → Nat → Bool := ftB m S n L 0 0 hi
noncomputable def kpB (N B S T n : Nat) (m : GG) (L : List (Nat × RC)) (q : Nat) (hi : Int32) : Bool := clB (∀ k, k < B → q ≤ ctF N B S T m (ftK m S n L hi) k)
theorem w_keeps {y m : GG} {N B S T n q : Nat} {L : List (Nat × RC)} {hi : Int32} (h : rE y m N B S) (hR : RD B N S T n L y m) (hQ : rQ y m) (hmT : m.1 0 6 = nI T) (hT : T ≤ 20) (hB : 0 < B) (q1 : 1 ≤ q) (q2 : q ≤ 24) :
    ∃ g, fX11_keeps [.int (nI q), .int hi] y = some (.int (ik_b2 (kpB N B S T n m L q hi)), g) ∧ eqW y g ∧ RD B N S T n L g m ∧ rQ g m := by
  obtain ⟨_, g1, e1, rfl, f1, f2, f3, f4⟩ := w_fit h hR 0 0 hi
  obtain ⟨hR1, M, hM⟩ := hR.sr (ft := ftK m S n L hi) (td := true) (ld := true) h f1 f2 f3 f4
  obtain ⟨_, g2, e2, k1, k2, f, k3, rfl, k4⟩ := w_fewest h hM hmT hT hB
  refine ⟨g2, eq_of_wF ?_, f1.w.tr k1.w, hR1.fr (fun a j hk _ => k1.px a j hk), hQ.s (by rw [k1.z0, f1.1 0 (by decide) (by decide)]) (fun a j hk => by rw [k1.px a j hk, fit_px f1 a j hk]) (by rw [k2, f1.2.2])⟩
  have ge : (nI f ≥ nI q) ↔ q ≤ f := by
    show nI q ≤ nI f ↔ _
    exact nI_leI (by omega) (by omega)
  have kq := k4 q q1 q2
  unfold fX11_keeps
  by_cases c : q ≤ f
  · have cT := eq_true (ge.mpr c)
    have kb : kpB N B S T n m L q hi = true := clB_iff.mpr (kq.mp c)
    rw [kb]
    simp (decide := true) only [wE_lit, wL_lit, wE_loc, wL_loc, wE_add, wE_sub, wE_mul, wE_and, wE_or, wE_xor, wE_shl, wE_shr, wE_ushr, wE_div, wE_rem, wE_neg, wE_i2b, wE_l2i, wL_i2l, wL_add, wL_mul, wE_fld, wL_fld, wE_arr, wL_arr, wC_cmp, wC_cmp0, wC_cmpL, wC_and, wC_or, wC_not, wC_ite, wL_ite, wA_nil, wA_int, wA_long, wE_call, wL_call, wS_skip, wS_seq, wS_set, wS_setL, wS_inc, wS_if, wS_put, wS_putL, wS_putOp, wS_putOpL, wS_ast, wS_astL, wS_aop, wS_aopL, wS_ret, wS_retL, wS_retV, wS_do, wS_pop, wS_dead, wS_sw, wF_body, Nat.reduceAdd, Nat.zero_add, Bool.not_not, true_and, and_true, if_true, if_false, ↓reduceIte, eq_self, Value.int.injEq, Value.long.injEq, exists_eq_left', ik_b1, ik_b0, ik_bz0, ik_bz3, ik_bz3_1, ik_bz3_0, ik_cmp, ik_cmpL, ik_eI, ik_eL, ik_as, ik_i0, ik_i1, decide_eq_true_eq, decide_eq_false_iff_not, decide_true, decide_false, Bool.not_true, Bool.not_false, reduceCtorEq, forall_const, false_implies, true_implies, implies_true, true_and, and_true, and_self, false_and, and_false, Bool.and_true, Bool.true_and, not_true_eq_false, not_false_eq_true, if_true, if_false, ite_true, ite_false, ik_bz3_0, ik_bz3_1, ik_bz0, exists_eq', wE_ite2, wF_eq e1, wF_eq e2, cT, show ik_b2 true = 1 from rfl]
  · have cF := eq_false (fun z => c (ge.mp z))
    have kb : kpB N B S T n m L q hi = false := by
      cases d : kpB N B S T n m L q hi with
      | false => rfl
      | true => exact absurd (kq.mpr (clB_iff.mp d)) c
    rw [kb]
    simp (decide := true) only [wE_lit, wL_lit, wE_loc, wL_loc, wE_add, wE_sub, wE_mul, wE_and, wE_or, wE_xor, wE_shl, wE_shr, wE_ushr, wE_div, wE_rem, wE_neg, wE_i2b, wE_l2i, wL_i2l, wL_add, wL_mul, wE_fld, wL_fld, wE_arr, wL_arr, wC_cmp, wC_cmp0, wC_cmpL, wC_and, wC_or, wC_not, wC_ite, wL_ite, wA_nil, wA_int, wA_long, wE_call, wL_call, wS_skip, wS_seq, wS_set, wS_setL, wS_inc, wS_if, wS_put, wS_putL, wS_putOp, wS_putOpL, wS_ast, wS_astL, wS_aop, wS_aopL, wS_ret, wS_retL, wS_retV, wS_do, wS_pop, wS_dead, wS_sw, wF_body, Nat.reduceAdd, Nat.zero_add, Bool.not_not, true_and, and_true, if_true, if_false, ↓reduceIte, eq_self, Value.int.injEq, Value.long.injEq, exists_eq_left', ik_b1, ik_b0, ik_bz0, ik_bz3, ik_bz3_1, ik_bz3_0, ik_cmp, ik_cmpL, ik_eI, ik_eL, ik_as, ik_i0, ik_i1, decide_eq_true_eq, decide_eq_false_iff_not, decide_true, decide_false, Bool.not_true, Bool.not_false, reduceCtorEq, forall_const, false_implies, true_implies, implies_true, true_and, and_true, and_self, false_and, and_false, Bool.and_true, Bool.true_and, not_true_eq_false, not_false_eq_true, if_true, if_false, ite_true, ite_false, ik_bz3_0, ik_bz3_1, ik_bz0, exists_eq', wE_ite2, wF_eq e1, wF_eq e2, cF, show ik_b2 false = 0 from rfl]
theorem m1_and (x : Int32) : x &&& ((0 : Int32) ^^^ -1) = x := by
  refine ib_ext (fun j hj => ?_)
  rw [ib_and, ib_not _ hj, ib_0, Bool.not_false, Bool.and_true]
theorem or_0 {a b : Int32} : a ||| b = 0 ↔ a = 0 ∧ b = 0 := by
  have := or_z (a := a) (b := b) (X := (0 : Int32) ^^^ -1)
  rw [m1_and, m1_and, m1_and] at this
  exact this
theorem ftK_iff {m : GG} {S n : Nat} {L : List (Nat × RC)} {hi : Int32} {k i : Nat} : ftK m S n L hi k i = true ↔ (nI (agB m S n L k i) = 0 ∧ 0 ≤ m.1 10 k - ik_nw m i ∧ m.1 10 k - ik_nw m i ≤ hi) := by
  unfold ftK ftB
  rw [decide_eq_true_iff, m1_and, or_0]
  by_cases c : 0 ≤ m.1 10 k - ik_nw m i ∧ m.1 10 k - ik_nw m i ≤ hi
  · rw [if_pos c]
    exact ⟨fun z => ⟨z.1, c⟩, fun z => ⟨z.1, rfl⟩⟩
  · rw [if_neg c]
    exact ⟨fun z => absurd z.2 (by decide), fun z => absurd z.2 c⟩
theorem SF_w1 {N B S T k i : Nat} {m : GG} {ft : Nat → Nat → Bool} {td ld : Bool} (hk : k < B) : (0 < SF N B S T m ft td ld (fO w1 k i)) ↔ ∃ r, r < N ^ B ∧ FB B S T m ft td ld (row N B r) = true ∧ row N B r k = i := by
  rw [SF_row, sm_pos]
  have p1 : ∀ r, pwN (fun _ => w1) (row N B r) B = 1 := fun r => pwN_1 B
  constructor
  · rintro ⟨r, h1, h2⟩
    by_cases c : FB B S T m ft td ld (row N B r) = true
    · rw [Frow_y c, pwN_fO] at h2
      by_cases d : row N B r k = i
      · exact ⟨r, h1, c, d⟩
      · rw [if_pos ⟨hk, d⟩] at h2
        exact absurd h2 (Nat.lt_irrefl _)
    · rw [Frow_n c] at h2
      exact absurd h2 (Nat.lt_irrefl _)
  · rintro ⟨r, h1, h2, h3⟩
    refine ⟨r, h1, ?_⟩
    rw [Frow_y h2, pwN_fO, if_neg (fun z => z.2 h3), p1]
    exact Nat.one_pos
theorem bgc_imp {p q : Nat → Bool} (h : ∀ i, p i = true → q i = true) : ∀ n, bgc p n ≤ bgc q n
  | 0 => Nat.le_refl _
  | n + 1 => by
    have := bgc_imp h n
    show bgc p n + (if p n = true then 1 else 0) ≤ bgc q n + (if q n = true then 1 else 0)
    by_cases c : p n = true
    · rw [if_pos c, if_pos (h n c)]
      omega
    · rw [if_neg c]
      omega
/-- a wider habit takes no filling away -/
theorem kpB_mono {N B S T n q : Nat} {m : GG} {L : List (Nat × RC)} {a b : Int32} (hab : a ≤ b) (h : kpB N B S T n m L q a = true) : kpB N B S T n m L q b = true := by
  unfold kpB at h ⊢
  rw [clB_iff] at h ⊢
  intro k hk
  refine Nat.le_trans (h k hk) (bgc_imp (fun i hi => ?_) 24)
  simp only [Bool.and_eq_true, decide_eq_true_eq] at hi ⊢
  refine ⟨hi.1, (SF_w1 hk).mpr ?_⟩
  obtain ⟨r, r1, r2, r3⟩ := (SF_w1 hk).mp hi.2
  refine ⟨r, r1, ?_, r3⟩
  unfold FB at r2 ⊢
  rw [clB_iff] at r2 ⊢
  refine ⟨fun k' hk' => ?_, r2.2⟩
  have := ftK_iff.mp (r2.1 k' hk')
  exact ftK_iff.mpr ⟨this.1, this.2.1, Int32.le_trans this.2.2 hab⟩
theorem nI_d2 {q : Nat} (hq : q < 2 ^ 31) : nI q / 2 = nI (q / 2) := by
  apply Int32.toInt_inj.mp
  rw [Int32.toInt_div_of_ne_right _ _ (by decide), nI_toInt hq, nI_toInt (by omega), show (2 : Int32).toInt = 2 from rfl]
  exact (Int.ofNat_tdiv q 2).symm
/-- the class halves -/
theorem w_keptX {x m : GG} {N B S T n q : Nat} {c : Nat → Nat} {M : Nat} {L : List (Nat × RC)} (h : rE x m N B S) (hQ : rQ x m) (hD : rlD c M L x m) (hn : n ≤ 20) (hmn : m.1 0 7 = nI n) (hmT : m.1 0 6 = nI T) (hT : T ≤ 20) (hB : 0 < B) (q1 : 1 ≤ q) (q2 : q ≤ 24) :
    wF fX11_kept [.int (nI q)] x (fun v g => eqW x g ∧ rQ g m ∧ ((kpB N B S T n m L q 200 = false ∧ v = .int (-1)) ∨ ∃ r, r ≤ 200 ∧ v = .int (nI r) ∧ kpB N B S T n m L q (nI r) = true ∧ ∀ r', r' < r → kpB N B S T n m L q (nI r') = false)) := by
  obtain ⟨g1, e1, k1, k2, k3, k4⟩ := w_ready h hQ hD hn hmn hmT hT
  have h1 := h.z k1.z
  have hB4 := h.2.2.2.1.1
  have xB : x.1 15 9 = nI B := h.2.2.2.1.2.1
  have nz : (nI B = 0) = False := eq_false (fun z => by have := (nI_eq (by omega) (by omega)).mp (z.trans nI_0.symm); omega)
  have c1 : 1 ≤ nI q := (nI_leI (a := 1) (by omega) (by omega)).mpr q1
  have c2 : nI q ≤ 24 := (nI_leI (b := 24) (by omega) (by omega)).mpr q2
  obtain ⟨g2, e2, f1, f2, f3⟩ := w_keeps (hi := 200) h1 k2 k4 hmT hT hB q1 q2
  unfold fX11_kept
  cases hk : kpB N B S T n m L q 200 with
  | false =>
    rw [hk] at e2
    have e2' : fX11_keeps [.int (nI q), .int 200] g1 = some (.int 0, g2) := e2
    simp (decide := true) only [wE_lit, wL_lit, wE_loc, wL_loc, wE_add, wE_sub, wE_mul, wE_and, wE_or, wE_xor, wE_shl, wE_shr, wE_ushr, wE_div, wE_rem, wE_neg, wE_i2b, wE_l2i, wL_i2l, wL_add, wL_mul, wE_fld, wL_fld, wE_arr, wL_arr, wC_cmp, wC_cmp0, wC_cmpL, wC_and, wC_or, wC_not, wC_ite, wL_ite, wA_nil, wA_int, wA_long, wE_call, wL_call, wS_skip, wS_seq, wS_set, wS_setL, wS_inc, wS_if, wS_put, wS_putL, wS_putOp, wS_putOpL, wS_ast, wS_astL, wS_aop, wS_aopL, wS_ret, wS_retL, wS_retV, wS_do, wS_pop, wS_dead, wS_sw, wF_body, Nat.reduceAdd, Nat.zero_add, Bool.not_not, true_and, and_true, if_true, if_false, ↓reduceIte, eq_self, Value.int.injEq, Value.long.injEq, exists_eq_left', ik_b1, ik_b0, ik_bz0, ik_bz3, ik_bz3_1, ik_bz3_0, ik_cmp, ik_cmpL, ik_eI, ik_eL, ik_as, ik_i0, ik_i1, decide_eq_true_eq, decide_eq_false_iff_not, decide_true, decide_false, Bool.not_true, Bool.not_false, reduceCtorEq, forall_const, false_implies, true_implies, implies_true, true_and, and_true, and_self, false_and, and_false, Bool.and_true, Bool.true_and, not_true_eq_false, not_false_eq_true, if_true, if_false, ite_true, ite_false, ik_bz3_0, ik_bz3_1, ik_bz0, exists_eq', w_cnt0, xB, nz, w_within, c1, c2, wF_eq e1, wF_eq e2']
    exact ⟨k1.tr f1, f3, Or.inl trivial⟩
  | true =>
    rw [hk] at e2
    have e2' : fX11_keeps [.int (nI q), .int 200] g1 = some (.int 1, g2) := e2
    simp (decide := true) only [wE_lit, wL_lit, wE_loc, wL_loc, wE_add, wE_sub, wE_mul, wE_and, wE_or, wE_xor, wE_shl, wE_shr, wE_ushr, wE_div, wE_rem, wE_neg, wE_i2b, wE_l2i, wL_i2l, wL_add, wL_mul, wE_fld, wL_fld, wE_arr, wL_arr, wC_cmp, wC_cmp0, wC_cmpL, wC_and, wC_or, wC_not, wC_ite, wL_ite, wA_nil, wA_int, wA_long, wE_call, wL_call, wS_skip, wS_seq, wS_set, wS_setL, wS_inc, wS_if, wS_put, wS_putL, wS_putOp, wS_putOpL, wS_ast, wS_astL, wS_aop, wS_aopL, wS_ret, wS_retL, wS_retV, wS_do, wS_pop, wS_dead, wS_sw, wF_body, Nat.reduceAdd, Nat.zero_add, Bool.not_not, true_and, and_true, if_true, if_false, ↓reduceIte, eq_self, Value.int.injEq, Value.long.injEq, exists_eq_left', ik_b1, ik_b0, ik_bz0, ik_bz3, ik_bz3_1, ik_bz3_0, ik_cmp, ik_cmpL, ik_eI, ik_eL, ik_as, ik_i0, ik_i1, decide_eq_true_eq, decide_eq_false_iff_not, decide_true, decide_false, Bool.not_true, Bool.not_false, reduceCtorEq, forall_const, false_implies, true_implies, implies_true, true_and, and_true, and_self, false_and, and_false, Bool.and_true, Bool.true_and, not_true_eq_false, not_false_eq_true, if_true, if_false, ite_true, ite_false, ik_bz3_0, ik_bz3_1, ik_bz0, exists_eq', w_cnt0, xB, nz, w_within, c1, c2, wF_eq e1, wF_eq e2', upd_at, upd_off]
    refine wS_wh _ _ (fun w σ => ∃ st lo hi, w = 10 - st ∧ st ≤ 10 ∧ lo ≤ hi ∧ hi ≤ 200 ∧ hi - lo ≤ 200 / 2 ^ st ∧ σ.1 4 = nI st ∧ σ.1 2 = nI lo ∧ σ.1 3 = nI hi ∧ σ.1 1 = nI q ∧ eqW x σ.2.2 ∧ RD B N S T n L σ.2.2 m ∧ rQ σ.2.2 m ∧ kpB N B S T n m L q (nI hi) = true ∧ ∀ r, r < lo → kpB N B S T n m L q (nI r) = false) ?_ ik_fuel 10 _ (by unfold ik_fuel; omega) ⟨0, 0, 200, by omega, by omega, by omega, by omega, by decide, by simp [upd, nI_0], by simp [upd, nI_0], by simp [upd]; rfl, by simp [upd, ik_eI], k1.tr f1, f2, f3, hk, fun r hr => absurd hr (Nat.not_lt_zero _)⟩
    rintro w ⟨s1, s2, s3⟩ ⟨st, lo, hi, a1, a2, a3, a4, a5, a6, a7, a8, a9, a10, a11, a12, a13, a14⟩
    simp only at a6 a7 a8 a9 a10 a11 a12
    have lt1 : (nI st < 10) ↔ st < 10 := nI_ltI (b := 10) (by omega) (by omega)
    have lt2 : (nI lo < nI hi) ↔ lo < hi := nI_ltI (by omega) (by omega)
    by_cases d : st < 10 ∧ lo < hi
    · have d1 := eq_true (lt1.mpr d.1)
      have d2 := eq_true (lt2.mpr d.2)
      obtain ⟨mi, hmi⟩ : ∃ mi, mi = (lo + hi) / 2 := ⟨_, rfl⟩
      have em : nI lo + nI hi = nI (lo + hi) := nI_add _ _
      have ed : nI (lo + hi) / 2 = nI mi := by rw [nI_d2 (by omega), hmi]
      obtain ⟨g3, e3, p1, p2, p3⟩ := w_keeps (hi := nI mi) (h.z a10.z) a11 a12 hmT hT hB q1 q2
      have half : 200 / 2 ^ (st + 1) = 200 / 2 ^ st / 2 := by rw [Nat.pow_succ, Nat.div_div_eq_div_mul]
      cases hkm : kpB N B S T n m L q (nI mi) with
      | true =>
        rw [hkm] at e3
        have e3' : fX11_keeps [.int (nI q), .int (nI mi)] s3 = some (.int 1, g3) := e3
        simp (decide := true) only [wE_lit, wL_lit, wE_loc, wL_loc, wE_add, wE_sub, wE_mul, wE_and, wE_or, wE_xor, wE_shl, wE_shr, wE_ushr, wE_div, wE_rem, wE_neg, wE_i2b, wE_l2i, wL_i2l, wL_add, wL_mul, wE_fld, wL_fld, wE_arr, wL_arr, wC_cmp, wC_cmp0, wC_cmpL, wC_and, wC_or, wC_not, wC_ite, wL_ite, wA_nil, wA_int, wA_long, wE_call, wL_call, wS_skip, wS_seq, wS_set, wS_setL, wS_inc, wS_if, wS_put, wS_putL, wS_putOp, wS_putOpL, wS_ast, wS_astL, wS_aop, wS_aopL, wS_ret, wS_retL, wS_retV, wS_do, wS_pop, wS_dead, wS_sw, wF_body, Nat.reduceAdd, Nat.zero_add, Bool.not_not, true_and, and_true, if_true, if_false, ↓reduceIte, eq_self, Value.int.injEq, Value.long.injEq, exists_eq_left', ik_b1, ik_b0, ik_bz0, ik_bz3, ik_bz3_1, ik_bz3_0, ik_cmp, ik_cmpL, ik_eI, ik_eL, ik_as, ik_i0, ik_i1, decide_eq_true_eq, decide_eq_false_iff_not, decide_true, decide_false, Bool.not_true, Bool.not_false, reduceCtorEq, forall_const, false_implies, true_implies, implies_true, true_and, and_true, and_self, false_and, and_false, Bool.and_true, Bool.true_and, not_true_eq_false, not_false_eq_true, if_true, if_false, ite_true, ite_false, ik_bz3_0, ik_bz3_1, ik_bz0, exists_eq', a6, a7, a8, a9, d1, d2, em, ed, wF_eq e3', upd_at, upd_off, nI_1, nI_add]
        exact ⟨10 - (st + 1), by omega, st + 1, lo, mi, rfl, by omega, by omega, by omega, by omega, rfl, rfl, rfl, a10.tr p1, p2, p3, hkm, a14⟩
      | false =>
        rw [hkm] at e3
        have e3' : fX11_keeps [.int (nI q), .int (nI mi)] s3 = some (.int 0, g3) := e3
        simp (decide := true) only [wE_lit, wL_lit, wE_loc, wL_loc, wE_add, wE_sub, wE_mul, wE_and, wE_or, wE_xor, wE_shl, wE_shr, wE_ushr, wE_div, wE_rem, wE_neg, wE_i2b, wE_l2i, wL_i2l, wL_add, wL_mul, wE_fld, wL_fld, wE_arr, wL_arr, wC_cmp, wC_cmp0, wC_cmpL, wC_and, wC_or, wC_not, wC_ite, wL_ite, wA_nil, wA_int, wA_long, wE_call, wL_call, wS_skip, wS_seq, wS_set, wS_setL, wS_inc, wS_if, wS_put, wS_putL, wS_putOp, wS_putOpL, wS_ast, wS_astL, wS_aop, wS_aopL, wS_ret, wS_retL, wS_retV, wS_do, wS_pop, wS_dead, wS_sw, wF_body, Nat.reduceAdd, Nat.zero_add, Bool.not_not, true_and, and_true, if_true, if_false, ↓reduceIte, eq_self, Value.int.injEq, Value.long.injEq, exists_eq_left', ik_b1, ik_b0, ik_bz0, ik_bz3, ik_bz3_1, ik_bz3_0, ik_cmp, ik_cmpL, ik_eI, ik_eL, ik_as, ik_i0, ik_i1, decide_eq_true_eq, decide_eq_false_iff_not, decide_true, decide_false, Bool.not_true, Bool.not_false, reduceCtorEq, forall_const, false_implies, true_implies, implies_true, true_and, and_true, and_self, false_and, and_false, Bool.and_true, Bool.true_and, not_true_eq_false, not_false_eq_true, if_true, if_false, ite_true, ite_false, ik_bz3_0, ik_bz3_1, ik_bz0, exists_eq', a6, a7, a8, a9, d1, d2, em, ed, wF_eq e3', upd_at, upd_off, nI_1, nI_add]
        refine ⟨10 - (st + 1), by omega, st + 1, mi + 1, hi, rfl, by omega, by omega, by omega, by omega, rfl, rfl, rfl, a10.tr p1, p2, p3, a13, fun r hr => ?_⟩
        cases z : kpB N B S T n m L q (nI r) with
        | false => rfl
        | true =>
          have := kpB_mono (b := nI mi) ((nI_leI (by omega) (by omega)).mpr (by omega)) z
          rw [hkm] at this
          cases this
    · have eq : lo = hi := by
        apply Classical.byContradiction
        intro z
        have s10 : st = 10 := by omega
        subst s10
        have : 200 / 2 ^ 10 = 0 := by decide
        omega
      subst eq
      have d2 := eq_false (fun z => absurd (lt2.mp z) (Nat.lt_irrefl _))
      have fin : eqW x s3 ∧ rQ s3 m ∧ ((true = false ∧ nI lo = -1) ∨ ∃ r, r ≤ 200 ∧ nI lo = nI r ∧ kpB N B S T n m L q (nI r) = true ∧ ∀ r', r' < r → kpB N B S T n m L q (nI r') = false) := ⟨a10, a12, Or.inr ⟨lo, a4, rfl, a13, a14⟩⟩
      by_cases d1 : st < 10
      · have d1' := eq_true (lt1.mpr d1)
        simp (decide := true) only [wE_lit, wL_lit, wE_loc, wL_loc, wE_add, wE_sub, wE_mul, wE_and, wE_or, wE_xor, wE_shl, wE_shr, wE_ushr, wE_div, wE_rem, wE_neg, wE_i2b, wE_l2i, wL_i2l, wL_add, wL_mul, wE_fld, wL_fld, wE_arr, wL_arr, wC_cmp, wC_cmp0, wC_cmpL, wC_and, wC_or, wC_not, wC_ite, wL_ite, wA_nil, wA_int, wA_long, wE_call, wL_call, wS_skip, wS_seq, wS_set, wS_setL, wS_inc, wS_if, wS_put, wS_putL, wS_putOp, wS_putOpL, wS_ast, wS_astL, wS_aop, wS_aopL, wS_ret, wS_retL, wS_retV, wS_do, wS_pop, wS_dead, wS_sw, wF_body, Nat.reduceAdd, Nat.zero_add, Bool.not_not, true_and, and_true, if_true, if_false, ↓reduceIte, eq_self, Value.int.injEq, Value.long.injEq, exists_eq_left', ik_b1, ik_b0, ik_bz0, ik_bz3, ik_bz3_1, ik_bz3_0, ik_cmp, ik_cmpL, ik_eI, ik_eL, ik_as, ik_i0, ik_i1, decide_eq_true_eq, decide_eq_false_iff_not, decide_true, decide_false, Bool.not_true, Bool.not_false, reduceCtorEq, forall_const, false_implies, true_implies, implies_true, true_and, and_true, and_self, false_and, and_false, Bool.and_true, Bool.true_and, not_true_eq_false, not_false_eq_true, if_true, if_false, ite_true, ite_false, ik_bz3_0, ik_bz3_1, ik_bz0, exists_eq', a6, a7, a8, a9, d1', d2]
        simpa using fin
      · have d1' := eq_false (fun z => d1 (lt1.mp z))
        simp (decide := true) only [wE_lit, wL_lit, wE_loc, wL_loc, wE_add, wE_sub, wE_mul, wE_and, wE_or, wE_xor, wE_shl, wE_shr, wE_ushr, wE_div, wE_rem, wE_neg, wE_i2b, wE_l2i, wL_i2l, wL_add, wL_mul, wE_fld, wL_fld, wE_arr, wL_arr, wC_cmp, wC_cmp0, wC_cmpL, wC_and, wC_or, wC_not, wC_ite, wL_ite, wA_nil, wA_int, wA_long, wE_call, wL_call, wS_skip, wS_seq, wS_set, wS_setL, wS_inc, wS_if, wS_put, wS_putL, wS_putOp, wS_putOpL, wS_ast, wS_astL, wS_aop, wS_aopL, wS_ret, wS_retL, wS_retV, wS_do, wS_pop, wS_dead, wS_sw, wF_body, Nat.reduceAdd, Nat.zero_add, Bool.not_not, true_and, and_true, if_true, if_false, ↓reduceIte, eq_self, Value.int.injEq, Value.long.injEq, exists_eq_left', ik_b1, ik_b0, ik_bz0, ik_bz3, ik_bz3_1, ik_bz3_0, ik_cmp, ik_cmpL, ik_eI, ik_eL, ik_as, ik_i0, ik_i1, decide_eq_true_eq, decide_eq_false_iff_not, decide_true, decide_false, Bool.not_true, Bool.not_false, reduceCtorEq, forall_const, false_implies, true_implies, implies_true, true_and, and_true, and_self, false_and, and_false, Bool.and_true, Bool.true_and, not_true_eq_false, not_false_eq_true, if_true, if_false, ite_true, ite_false, ik_bz3_0, ik_bz3_1, ik_bz0, exists_eq', a6, a7, a8, a9, d1', d2]
        simpa using fin
