theorem wS_unroll {c : SS → Option (Bool × GG)} {b : ST} {σ : SS} {Z : SS → Prop} {R : Value → GG → Prop} (n : Nat) : wS (sWh c b (n + 1)) σ Z R ↔ wC c σ (fun t g => (t = true → wS b (σ.1, σ.2.1, g) (fun σ' => wS (sWh c b n) σ' Z R) R) ∧ (t = false → Z (σ.1, σ.2.1, g))) := by
  constructor
  · rintro ⟨o, e, p⟩
    simp only [sWh, Option.bind_eq_some_iff] at e
    obtain ⟨⟨t, g⟩, e1, e2⟩ := e
    refine ⟨t, g, e1, fun h => ?_, fun h => ?_⟩
    · subst h
      simp only [if_true, Option.bind_eq_some_iff] at e2
      obtain ⟨o1, e3, e4⟩ := e2
      refine ⟨o1, e3, ?_⟩
      cases o1 with
      | inl σ' => exact ⟨o, e4, p⟩
      | inr r => cases e4; exact p
    · subst h
      simp only [Bool.false_eq_true, if_false] at e2
      cases e2
      exact p
  · rintro ⟨t, g, e1, h1, h2⟩
    cases t with
    | true =>
      obtain ⟨o1, e3, p⟩ := h1 rfl
      cases o1 with
      | inl σ' =>
        obtain ⟨o, e4, p⟩ := p
        exact ⟨o, by simp [sWh, e1, e3, e4], p⟩
      | inr r => exact ⟨.inr r, by simp [sWh, e1, e3], p⟩
    | false => exact ⟨.inl (σ.1, σ.2.1, g), by simp [sWh, e1], h2 rfl⟩
/-- what is left of a loop's turns behind k of them -/
def ik_fr (k : Nat) : Nat := 1000000 - k
theorem wS_un0 {c : SS → Option (Bool × GG)} {b : ST} {σ : SS} {Z : SS → Prop} {R : Value → GG → Prop} : wS (sWh c b ik_fuel) σ Z R ↔ wC c σ (fun t g => (t = true → wS b (σ.1, σ.2.1, g) (fun σ' => wS (sWh c b (ik_fr 1)) σ' Z R) R) ∧ (t = false → Z (σ.1, σ.2.1, g))) := wS_unroll 999999
theorem wS_un1 {c : SS → Option (Bool × GG)} {b : ST} {σ : SS} {Z : SS → Prop} {R : Value → GG → Prop} : wS (sWh c b (ik_fr 1)) σ Z R ↔ wC c σ (fun t g => (t = true → wS b (σ.1, σ.2.1, g) (fun σ' => wS (sWh c b (ik_fr 2)) σ' Z R) R) ∧ (t = false → Z (σ.1, σ.2.1, g))) := wS_unroll 999998
theorem wS_un2 {c : SS → Option (Bool × GG)} {b : ST} {σ : SS} {Z : SS → Prop} {R : Value → GG → Prop} : wS (sWh c b (ik_fr 2)) σ Z R ↔ wC c σ (fun t g => (t = true → wS b (σ.1, σ.2.1, g) (fun σ' => wS (sWh c b (ik_fr 3)) σ' Z R) R) ∧ (t = false → Z (σ.1, σ.2.1, g))) := wS_unroll 999997
theorem wS_un3 {c : SS → Option (Bool × GG)} {b : ST} {σ : SS} {Z : SS → Prop} {R : Value → GG → Prop} : wS (sWh c b (ik_fr 3)) σ Z R ↔ wC c σ (fun t g => (t = true → wS b (σ.1, σ.2.1, g) (fun σ' => wS (sWh c b (ik_fr 4)) σ' Z R) R) ∧ (t = false → Z (σ.1, σ.2.1, g))) := wS_unroll 999996
theorem wS_un4 {c : SS → Option (Bool × GG)} {b : ST} {σ : SS} {Z : SS → Prop} {R : Value → GG → Prop} : wS (sWh c b (ik_fr 4)) σ Z R ↔ wC c σ (fun t g => (t = true → wS b (σ.1, σ.2.1, g) (fun σ' => wS (sWh c b (ik_fr 5)) σ' Z R) R) ∧ (t = false → Z (σ.1, σ.2.1, g))) := wS_unroll 999995
theorem wS_un5 {c : SS → Option (Bool × GG)} {b : ST} {σ : SS} {Z : SS → Prop} {R : Value → GG → Prop} : wS (sWh c b (ik_fr 5)) σ Z R ↔ wC c σ (fun t g => (t = true → wS b (σ.1, σ.2.1, g) (fun σ' => wS (sWh c b (ik_fr 6)) σ' Z R) R) ∧ (t = false → Z (σ.1, σ.2.1, g))) := wS_unroll 999994
/-- a number's four bytes put behind n others: the class's, the reference's -/
def ik_byX (v : Int32) (n j : Nat) : Int32 := (v >>> (nI (24 - 8 * (j - n)) &&& 31)) &&& 255
def ik_byM (v : Int32) (n j : Nat) : Int32 := (v >>> (nI (24 - 8 * (j - n)) &&& 31)).toInt8.toInt32
def ik_pu (g : GG) (a ra rj n : Nat) (by4 : Nat → Int32) : GG := (fun b j => if b = ra ∧ j = rj then nI (n + 4) else if b = a ∧ n ≤ j ∧ j < n + 4 then by4 j else g.1 b j, g.2)
theorem x_push (v : Int32) (n : Nat) (hn : n ≤ 396) (g : GG) (hg : g.1 1 1 = nI n) : fX9_push [.int v] g = some (.null, ik_pu g 2 1 1 n (ik_byX v n)) := by
  apply eq_of_wF
  unfold fX9_push
  have h400 : (400 : Int32) = nI 400 := rfl
  have c0 := nI_lt (show n < 400 by omega) (by omega)
  have c1 := nI_lt (show n + 1 < 400 by omega) (by omega)
  have c2 := nI_lt (show n + 1 + 1 < 400 by omega) (by omega)
  have c3 := nI_lt (show n + 1 + 1 + 1 < 400 by omega) (by omega)
  have i0 := ik_ix_nI (show n < 400 by omega) (by omega)
  have i1 := ik_ix_nI (show n + 1 < 400 by omega) (by omega)
  have i2 := ik_ix_nI (show n + 1 + 1 < 400 by omega) (by omega)
  have i3 := ik_ix_nI (show n + 1 + 1 + 1 < 400 by omega) (by omega)
  simp (decide := true) only [wE_lit, wL_lit, wE_loc, wL_loc, wE_add, wE_sub, wE_mul, wE_and, wE_or, wE_xor, wE_shl, wE_shr, wE_ushr, wE_div, wE_rem, wE_neg, wE_i2b, wE_l2i, wL_i2l, wL_add, wL_mul, wE_fld, wL_fld, wE_arr, wL_arr, wC_cmp, wC_cmp0, wC_cmpL, wC_and, wC_or, wC_not, wC_ite, wL_ite, wA_nil, wA_int, wA_long, wE_call, wL_call, wS_skip, wS_seq, wS_set, wS_setL, wS_inc, wS_if, wS_put, wS_putL, wS_putOp, wS_putOpL, wS_ast, wS_astL, wS_aop, wS_aopL, wS_ret, wS_retL, wS_retV, wS_do, wS_pop, wS_dead, wS_sw, wF_body, Nat.reduceAdd, Nat.zero_add, Bool.not_not, true_and, and_true, if_true, if_false, ↓reduceIte, eq_self, Value.int.injEq, Value.long.injEq, exists_eq_left', ik_b1, ik_b0, ik_bz0, ik_bz3, ik_bz3_1, ik_bz3_0, ik_cmp, ik_cmpL, ik_eI, ik_eL, ik_as, ik_i0, ik_i1, decide_eq_true_eq, decide_eq_false_iff_not, decide_true, decide_false, Bool.not_true, Bool.not_false, reduceCtorEq, forall_const, false_implies, true_implies, implies_true, true_and, and_true, and_self, false_and, and_false, Bool.and_true, Bool.true_and, not_true_eq_false, not_false_eq_true, if_true, if_false, ite_true, ite_false, ik_bz3_0, ik_bz3_1, ik_bz0, wS_un0, wS_un1, wS_un2, wS_un3, wS_un4, ik_bo, Option.some.injEq, ik_si_same, ik_si_row, ik_si_ne, ik_si_2, hg, h400, c0, c1, c2, c3, i0, i1, i2, i3, nI_1, upd]
  unfold ik_pu ik_si ik_byX
  refine Prod.ext ?_ rfl
  funext b j
  by_cases e1 : b = 1 ∧ j = 1
  · obtain ⟨rfl, rfl⟩ := e1
    simp
  · by_cases e2 : b = 2
    · subst e2
      by_cases hr : n ≤ j ∧ j < n + 4
      · obtain ⟨d, rfl⟩ := Nat.exists_eq_add_of_le hr.1
        have hd : n + d - n = d := by omega
        have hcase : d = 0 ∨ d = 1 ∨ d = 2 ∨ d = 3 := by omega
        rcases hcase with rfl | rfl | rfl | rfl
        · simp [hd, show ¬ n = n + 1 + 1 + 1 by omega, show ¬ n = n + 1 + 1 by omega]; rfl
        · simp [hd, show ¬ n + 1 = n + 1 + 1 + 1 by omega, show ¬ n + 1 = n + 1 + 1 by omega, show n ≤ n + 1 by omega]; rfl
        · simp [hd, show ¬ n + 2 = n + 1 + 1 + 1 by omega, show n + 2 = n + 1 + 1 by omega, show n + 1 + 1 - n = 2 by omega, show n ≤ n + 1 + 1 by omega]; rfl
        · simp [hd, show n + 3 = n + 1 + 1 + 1 by omega, show n + 1 + 1 + 1 - n = 3 by omega, show n ≤ n + 1 + 1 + 1 by omega, nI_0]
      · have f0 : ¬ j = n := by omega
        have f1 : ¬ j = n + 1 := by omega
        have f2 : ¬ j = n + 1 + 1 := by omega
        have f3 : ¬ j = n + 1 + 1 + 1 := by omega
        simp [f0, f1, f2, f3, hr]
    · simp [e1, e2]
theorem m_push (v : Int32) (n : Nat) (hn : n ≤ 396) (g : GG) (hg : g.1 0 1 = nI n) : fX12_push [.int v] g = some (.null, ik_pu g 1 0 1 n (ik_byM v n)) := by
  apply eq_of_wF
  unfold fX12_push
  have i0 := ik_ix_nI (show n < 400 by omega) (by omega)
  have i1 := ik_ix_nI (show n + 1 < 400 by omega) (by omega)
  have i2 := ik_ix_nI (show n + 1 + 1 < 400 by omega) (by omega)
  have i3 := ik_ix_nI (show n + 1 + 1 + 1 < 400 by omega) (by omega)
  have bb : ∀ w : Int32, w.toInt8.toInt32.toInt8.toInt32 = w.toInt8.toInt32 := fun w => by simp
  simp (decide := true) only [wE_lit, wL_lit, wE_loc, wL_loc, wE_add, wE_sub, wE_mul, wE_and, wE_or, wE_xor, wE_shl, wE_shr, wE_ushr, wE_div, wE_rem, wE_neg, wE_i2b, wE_l2i, wL_i2l, wL_add, wL_mul, wE_fld, wL_fld, wE_arr, wL_arr, wC_cmp, wC_cmp0, wC_cmpL, wC_and, wC_or, wC_not, wC_ite, wL_ite, wA_nil, wA_int, wA_long, wE_call, wL_call, wS_skip, wS_seq, wS_set, wS_setL, wS_inc, wS_if, wS_put, wS_putL, wS_putOp, wS_putOpL, wS_ast, wS_astL, wS_aop, wS_aopL, wS_ret, wS_retL, wS_retV, wS_do, wS_pop, wS_dead, wS_sw, wF_body, Nat.reduceAdd, Nat.zero_add, Bool.not_not, true_and, and_true, if_true, if_false, ↓reduceIte, eq_self, Value.int.injEq, Value.long.injEq, exists_eq_left', ik_b1, ik_b0, ik_bz0, ik_bz3, ik_bz3_1, ik_bz3_0, ik_cmp, ik_cmpL, ik_eI, ik_eL, ik_as, ik_i0, ik_i1, decide_eq_true_eq, decide_eq_false_iff_not, decide_true, decide_false, Bool.not_true, Bool.not_false, reduceCtorEq, forall_const, false_implies, true_implies, implies_true, true_and, and_true, and_self, false_and, and_false, Bool.and_true, Bool.true_and, not_true_eq_false, not_false_eq_true, if_true, if_false, ite_true, ite_false, ik_bz3_0, ik_bz3_1, ik_bz0, wS_un0, wS_un1, wS_un2, wS_un3, wS_un4, ik_bo, Option.some.injEq, ik_si_same, ik_si_row, ik_si_ne, ik_si_2, hg, i0, i1, i2, i3, nI_1, upd, bb]
  unfold ik_pu ik_si ik_byM
  refine Prod.ext ?_ rfl
  funext b j
  by_cases e1 : b = 0 ∧ j = 1
  · obtain ⟨rfl, rfl⟩ := e1
    simp
  · by_cases e2 : b = 1
    · subst e2
      by_cases hr : n ≤ j ∧ j < n + 4
      · obtain ⟨d, rfl⟩ := Nat.exists_eq_add_of_le hr.1
        have hd : n + d - n = d := by omega
        have hcase : d = 0 ∨ d = 1 ∨ d = 2 ∨ d = 3 := by omega
        rcases hcase with rfl | rfl | rfl | rfl
        · simp [hd, show ¬ n = n + 1 + 1 + 1 by omega, show ¬ n = n + 1 + 1 by omega]; rfl
        · simp [hd, show ¬ n + 1 = n + 1 + 1 + 1 by omega, show ¬ n + 1 = n + 1 + 1 by omega, show n ≤ n + 1 by omega]; rfl
        · simp [hd, show ¬ n + 2 = n + 1 + 1 + 1 by omega, show n + 2 = n + 1 + 1 by omega, show n + 1 + 1 - n = 2 by omega, show n ≤ n + 1 + 1 by omega]; rfl
        · simp [hd, show n + 3 = n + 1 + 1 + 1 by omega, show n + 1 + 1 + 1 - n = 3 by omega, show n ≤ n + 1 + 1 + 1 by omega, nI_0]
      · have f0 : ¬ j = n := by omega
        have f1 : ¬ j = n + 1 := by omega
        have f2 : ¬ j = n + 1 + 1 := by omega
        have f3 : ¬ j = n + 1 + 1 + 1 := by omega
        simp [f0, f1, f2, f3, hr]
    · simp [e1, e2]
theorem by_rel (w : Int32) : w &&& 255 = w.toInt8.toInt32 &&& 255 := by
  apply Int32.toBitVec_inj.mp
  ext i hi
  have h255 : (255#32)[i] = decide (i < 8) := by
    rw [BitVec.getElem_eq_testBit_toNat, show (255#32).toNat = 2 ^ 8 - 1 from rfl, Nat.testBit_two_pow_sub_one]
  have e1 : (w &&& 255).toBitVec[i] = (w.toBitVec[i] && (255#32)[i]) := by
    rw [Int32.toBitVec_and, BitVec.getElem_and]
    rfl
  have e2 : (w.toInt8.toInt32 &&& 255).toBitVec[i] = ((w.toInt8.toInt32).toBitVec[i] && (255#32)[i]) := by
    rw [Int32.toBitVec_and, BitVec.getElem_and]
    rfl
  rw [e1, e2, h255]
  by_cases h : i < 8
  · simp only [h, decide_true, Bool.and_true]
    simp [h, hi, BitVec.getElem_signExtend]
  · simp [h]
theorem byM_byte (v : Int32) (n j : Nat) : (ik_byM v n j).toInt8.toInt32 = ik_byM v n j := by
  unfold ik_byM
  simp
theorem by_XM (v : Int32) (n j : Nat) : ik_byX v n j = ik_byM v n j &&& 255 := by
  unfold ik_byX ik_byM
  exact by_rel _
theorem w_push (v : Int32) (n : Nat) (hn : n ≤ 396) (g : GG) (hg : g.1 1 1 = nI n) (Q : Value → GG → Prop) : wF fX9_push [.int v] g Q ↔ Q .null (ik_pu g 2 1 1 n (ik_byX v n)) := wF_eq (x_push v n hn g hg) Q
theorem wm_push (v : Int32) (n : Nat) (hn : n ≤ 396) (g : GG) (hg : g.1 0 1 = nI n) (Q : Value → GG → Prop) : wF fX12_push [.int v] g Q ↔ Q .null (ik_pu g 1 0 1 n (ik_byM v n)) := wF_eq (m_push v n hn g hg) Q
theorem pu_n (g : GG) (a ra rj n : Nat) (f : Nat → Int32) : (ik_pu g a ra rj n f).1 ra rj = nI (n + 4) := by simp [ik_pu]
theorem pu_T {x m : GG} {n : Nat} (v : Int32) (h : ∀ k, k < n → x.1 2 k = m.1 1 k &&& 255 ∧ (m.1 1 k).toInt8.toInt32 = m.1 1 k) : ∀ k, k < n + 4 → (ik_pu x 2 1 1 n (ik_byX v n)).1 2 k = (ik_pu m 1 0 1 n (ik_byM v n)).1 1 k &&& 255 ∧ ((ik_pu m 1 0 1 n (ik_byM v n)).1 1 k).toInt8.toInt32 = (ik_pu m 1 0 1 n (ik_byM v n)).1 1 k := by
  intro k hk
  by_cases hl : k < n
  · have : ¬ (n ≤ k ∧ k < n + 4) := by omega
    simp [ik_pu, this, h k hl]
  · have : n ≤ k ∧ k < n + 4 := by omega
    simp only [ik_pu, this]
    exact ⟨by_XM v n k, byM_byte v n k⟩
theorem ik_cut_pu {k1 k2 : Nat → Nat → Bool} {g : GG} {a ra rj n : Nat} {f : Nat → Int32} (h1 : k1 ra rj = false) (h2 : ∀ j, k1 a j = false) : ik_cut k1 k2 (ik_pu g a ra rj n f) = ik_cut k1 k2 g := by
  unfold ik_cut ik_pu
  refine Prod.ext ?_ rfl
  funext b i
  by_cases e : b = ra ∧ i = rj
  · obtain ⟨rfl, rfl⟩ := e
    simp [h1]
  · by_cases e2 : b = a
    · subst e2
      simp [h2]
    · simp [e, e2]
theorem pu_row {g : GG} {a ra rj n b : Nat} {f : Nat → Int32} (h1 : b ≠ ra) (h2 : b ≠ a) : (ik_pu g a ra rj n f).1 b = g.1 b := by
  funext j
  simp [ik_pu, h1, h2]
theorem pu_0 {g : GG} {a ra rj n j : Nat} {f : Nat → Int32} (h1 : j ≠ rj) (h2 : ra ≠ a) : (ik_pu g a ra rj n f).1 ra j = g.1 ra j := by
  simp [ik_pu, h1, h2]
theorem x_takes (n : Nat) (hn : n ≤ 400) (g : GG) (hg : g.1 1 1 = nI n) : fX9_takes [.int 20] g = some (.int (if n + 20 ≤ 400 then 1 else 0), g) := by
  apply eq_of_wF
  unfold fX9_takes
  simp (decide := true) only [wE_lit, wL_lit, wE_loc, wL_loc, wE_add, wE_sub, wE_mul, wE_and, wE_or, wE_xor, wE_shl, wE_shr, wE_ushr, wE_div, wE_rem, wE_neg, wE_i2b, wE_l2i, wL_i2l, wL_add, wL_mul, wE_fld, wL_fld, wE_arr, wL_arr, wC_cmp, wC_cmp0, wC_cmpL, wC_and, wC_or, wC_not, wC_ite, wL_ite, wA_nil, wA_int, wA_long, wE_call, wL_call, wS_skip, wS_seq, wS_set, wS_setL, wS_inc, wS_if, wS_put, wS_putL, wS_putOp, wS_putOpL, wS_ast, wS_astL, wS_aop, wS_aopL, wS_ret, wS_retL, wS_retV, wS_do, wS_pop, wS_dead, wS_sw, wF_body, Nat.reduceAdd, Nat.zero_add, Bool.not_not, true_and, and_true, if_true, if_false, ↓reduceIte, eq_self, Value.int.injEq, Value.long.injEq, exists_eq_left', ik_b1, ik_b0, ik_bz0, ik_bz3, ik_bz3_1, ik_bz3_0, ik_cmp, ik_cmpL, ik_eI, ik_eL, ik_as, ik_i0, ik_i1, decide_eq_true_eq, decide_eq_false_iff_not, decide_true, decide_false, Bool.not_true, Bool.not_false, reduceCtorEq, forall_const, false_implies, true_implies, implies_true, true_and, and_true, and_self, false_and, and_false, Bool.and_true, Bool.true_and, not_true_eq_false, not_false_eq_true, if_true, if_false, ite_true, ite_false, ik_bz3_0, ik_bz3_1, ik_bz0, wE_ite2, hg, show (20 : Int32) = nI 20 from rfl, show (400 : Int32) = nI 400 from rfl, nI_add, nI_leI (show n + 20 < 2 ^ 31 by omega) (show 400 < 2 ^ 31 by omega)]
theorem x_length (g : GG) : fX9_length [] g = some (.int (g.1 1 1), g) := rfl
theorem w_takes (n : Nat) (hn : n ≤ 400) (g : GG) (hg : g.1 1 1 = nI n) (Q : Value → GG → Prop) : wF fX9_takes [.int 20] g Q ↔ Q (.int (if n + 20 ≤ 400 then 1 else 0)) g := wF_eq (x_takes n hn g hg) Q
theorem w_length (g : GG) (Q : Value → GG → Prop) : wF fX9_length [] g Q ↔ Q (.int (g.1 1 1)) g := wF_eq (x_length g) Q
theorem op_feed (a b c d e : Int32) (x m : GG) (h : Rel x m) : ∃ v x' m', fX11_feed [.int a, .int b, .int c, .int d, .int e] x = some (v, x') ∧ fX12_feed [.int a, .int b, .int c, .int d, .int e] m = some (v, m') ∧ Rel x' m' := by
  obtain ⟨N, B, S, ⟨n, hn, hx, hm, ht⟩, hL, hN, hB, hTi, hLi, hH, hC, hNo, hS, hR, hQ⟩ := h
  have h20 : (20 : Int32) = nI 20 := rfl
  have h400 : (400 : Int32) = nI 400 := rfl
  by_cases hr : n + 20 ≤ 400
  · obtain ⟨x1, hx1⟩ : ∃ y, y = ik_pu x 2 1 1 n (ik_byX a n) := ⟨_, rfl⟩
    obtain ⟨x2, hx2⟩ : ∃ y, y = ik_pu x1 2 1 1 (n + 4) (ik_byX b (n + 4)) := ⟨_, rfl⟩
    obtain ⟨x3, hx3⟩ : ∃ y, y = ik_pu x2 2 1 1 (n + 8) (ik_byX c (n + 8)) := ⟨_, rfl⟩
    obtain ⟨x4, hx4⟩ : ∃ y, y = ik_pu x3 2 1 1 (n + 12) (ik_byX d (n + 12)) := ⟨_, rfl⟩
    obtain ⟨x5, hx5⟩ : ∃ y, y = ik_pu x4 2 1 1 (n + 16) (ik_byX e (n + 16)) := ⟨_, rfl⟩
    obtain ⟨m1, hm1⟩ : ∃ y, y = ik_pu m 1 0 1 n (ik_byM a n) := ⟨_, rfl⟩
    obtain ⟨m2, hm2⟩ : ∃ y, y = ik_pu m1 1 0 1 (n + 4) (ik_byM b (n + 4)) := ⟨_, rfl⟩
    obtain ⟨m3, hm3⟩ : ∃ y, y = ik_pu m2 1 0 1 (n + 8) (ik_byM c (n + 8)) := ⟨_, rfl⟩
    obtain ⟨m4, hm4⟩ : ∃ y, y = ik_pu m3 1 0 1 (n + 12) (ik_byM d (n + 12)) := ⟨_, rfl⟩
    obtain ⟨m5, hm5⟩ : ∃ y, y = ik_pu m4 1 0 1 (n + 16) (ik_byM e (n + 16)) := ⟨_, rfl⟩
    have a1 : x1.1 1 1 = nI (n + 4) := by rw [hx1, pu_n]
    have a2 : x2.1 1 1 = nI (n + 8) := by rw [hx2, pu_n]
    have a3 : x3.1 1 1 = nI (n + 12) := by rw [hx3, pu_n]
    have a4 : x4.1 1 1 = nI (n + 16) := by rw [hx4, pu_n]
    have a5 : x5.1 1 1 = nI (n + 20) := by rw [hx5, pu_n]
    have b1 : m1.1 0 1 = nI (n + 4) := by rw [hm1, pu_n]
    have b2 : m2.1 0 1 = nI (n + 8) := by rw [hm2, pu_n]
    have b3 : m3.1 0 1 = nI (n + 12) := by rw [hm3, pu_n]
    have b4 : m4.1 0 1 = nI (n + 16) := by rw [hm4, pu_n]
    have b5 : m5.1 0 1 = nI (n + 20) := by rw [hm5, pu_n]
    have t1 := pu_T a ht
    rw [← hx1, ← hm1] at t1
    have t2 := pu_T b t1
    rw [← hx2, ← hm2] at t2
    have t3 := pu_T c t2
    rw [show n + 4 + 4 = n + 8 by omega, ← hx3, ← hm3] at t3
    have t4 := pu_T d t3
    rw [show n + 8 + 4 = n + 12 by omega, ← hx4, ← hm4] at t4
    have t5 := pu_T e t4
    rw [show n + 12 + 4 = n + 16 by omega, ← hx5, ← hm5] at t5
    have rx : ∀ q, q ≠ 1 → q ≠ 2 → x5.1 q = x.1 q := fun q h1 h2 => by rw [hx5, hx4, hx3, hx2, hx1, pu_row h1 h2, pu_row h1 h2, pu_row h1 h2, pu_row h1 h2, pu_row h1 h2]
    have rm : ∀ q, q ≠ 0 → q ≠ 1 → m5.1 q = m.1 q := fun q h1 h2 => by rw [hm5, hm4, hm3, hm2, hm1, pu_row h1 h2, pu_row h1 h2, pu_row h1 h2, pu_row h1 h2, pu_row h1 h2]
    have rm0 : ∀ q, q ≠ 1 → m5.1 0 q = m.1 0 q := fun q h1 => by rw [hm5, hm4, hm3, hm2, hm1, pu_0 h1 (by decide), pu_0 h1 (by decide), pu_0 h1 (by decide), pu_0 h1 (by decide), pu_0 h1 (by decide)]
    have kx : ∀ k1 k2, k1 1 1 = false → (∀ j, k1 2 j = false) → ik_cut k1 k2 x5 = ik_cut k1 k2 x := fun k1 k2 h1 h2 => by rw [hx5, hx4, hx3, hx2, hx1, ik_cut_pu h1 h2, ik_cut_pu h1 h2, ik_cut_pu h1 h2, ik_cut_pu h1 h2, ik_cut_pu h1 h2]
    have km : ∀ k1 k2, k1 0 1 = false → (∀ j, k1 1 j = false) → ik_cut k1 k2 m5 = ik_cut k1 k2 m := fun k1 k2 h1 h2 => by rw [hm5, hm4, hm3, hm2, hm1, ik_cut_pu h1 h2, ik_cut_pu h1 h2, ik_cut_pu h1 h2, ik_cut_pu h1 h2, ik_cut_pu h1 h2]
    refine ⟨.int (nI (n + 20)), x5, m5, eq_of_wF ?_, eq_of_wF ?_, N, B, S, ⟨n + 20, hr, a5, b5, fun k hk => t5 k (by omega)⟩, ?_, ?_, ?_, ?_, ?_, ?_, ?_, ?_, ?_, ?_, ?_⟩
    · unfold fX11_feed
      simp (decide := true) only [wE_lit, wL_lit, wE_loc, wL_loc, wE_add, wE_sub, wE_mul, wE_and, wE_or, wE_xor, wE_shl, wE_shr, wE_ushr, wE_div, wE_rem, wE_neg, wE_i2b, wE_l2i, wL_i2l, wL_add, wL_mul, wE_fld, wL_fld, wE_arr, wL_arr, wC_cmp, wC_cmp0, wC_cmpL, wC_and, wC_or, wC_not, wC_ite, wL_ite, wA_nil, wA_int, wA_long, wE_call, wL_call, wS_skip, wS_seq, wS_set, wS_setL, wS_inc, wS_if, wS_put, wS_putL, wS_putOp, wS_putOpL, wS_ast, wS_astL, wS_aop, wS_aopL, wS_ret, wS_retL, wS_retV, wS_do, wS_pop, wS_dead, wS_sw, wF_body, Nat.reduceAdd, Nat.zero_add, Bool.not_not, true_and, and_true, if_true, if_false, ↓reduceIte, eq_self, Value.int.injEq, Value.long.injEq, exists_eq_left', ik_b1, ik_b0, ik_bz0, ik_bz3, ik_bz3_1, ik_bz3_0, ik_cmp, ik_cmpL, ik_eI, ik_eL, ik_as, ik_i0, ik_i1, decide_eq_true_eq, decide_eq_false_iff_not, decide_true, decide_false, Bool.not_true, Bool.not_false, reduceCtorEq, forall_const, false_implies, true_implies, implies_true, true_and, and_true, and_self, false_and, and_false, Bool.and_true, Bool.true_and, not_true_eq_false, not_false_eq_true, if_true, if_false, ite_true, ite_false, ik_bz3_0, ik_bz3_1, ik_bz0, w_takes n hn x hx, hr, w_push a n (by omega) x hx, ← hx1, w_push b (n + 4) (by omega) x1 a1, ← hx2, w_push c (n + 8) (by omega) x2 a2, ← hx3, w_push d (n + 12) (by omega) x3 a3, ← hx4, w_push e (n + 16) (by omega) x4 a4, ← hx5, w_length, a5]
    · unfold fX12_feed
      simp (decide := true) only [wE_lit, wL_lit, wE_loc, wL_loc, wE_add, wE_sub, wE_mul, wE_and, wE_or, wE_xor, wE_shl, wE_shr, wE_ushr, wE_div, wE_rem, wE_neg, wE_i2b, wE_l2i, wL_i2l, wL_add, wL_mul, wE_fld, wL_fld, wE_arr, wL_arr, wC_cmp, wC_cmp0, wC_cmpL, wC_and, wC_or, wC_not, wC_ite, wL_ite, wA_nil, wA_int, wA_long, wE_call, wL_call, wS_skip, wS_seq, wS_set, wS_setL, wS_inc, wS_if, wS_put, wS_putL, wS_putOp, wS_putOpL, wS_ast, wS_astL, wS_aop, wS_aopL, wS_ret, wS_retL, wS_retV, wS_do, wS_pop, wS_dead, wS_sw, wF_body, Nat.reduceAdd, Nat.zero_add, Bool.not_not, true_and, and_true, if_true, if_false, ↓reduceIte, eq_self, Value.int.injEq, Value.long.injEq, exists_eq_left', ik_b1, ik_b0, ik_bz0, ik_bz3, ik_bz3_1, ik_bz3_0, ik_cmp, ik_cmpL, ik_eI, ik_eL, ik_as, ik_i0, ik_i1, decide_eq_true_eq, decide_eq_false_iff_not, decide_true, decide_false, Bool.not_true, Bool.not_false, reduceCtorEq, forall_const, false_implies, true_implies, implies_true, true_and, and_true, and_self, false_and, and_false, Bool.and_true, Bool.true_and, not_true_eq_false, not_false_eq_true, if_true, if_false, ite_true, ite_false, ik_bz3_0, ik_bz3_1, ik_bz0, hm, h20, h400, nI_add, nI_ltI (show 400 < 2 ^ 31 by omega) (show n + 20 < 2 ^ 31 by omega), show ¬ 400 < n + 20 by omega, wm_push a n (by omega) m hm, ← hm1, wm_push b (n + 4) (by omega) m1 b1, ← hm2, wm_push c (n + 8) (by omega) m2 b2, ← hm3, wm_push d (n + 12) (by omega) m3 b3, ← hm4, wm_push e (n + 16) (by omega) m4 b4, ← hm5, b5]
    · rw [rx 4 (by decide) (by decide), rx 5 (by decide) (by decide), rm 2 (by decide) (by decide), rm 3 (by decide) (by decide)]
      exact hL
    · exact hN.fr (by rw [rx 6 (by decide) (by decide)]) (rm0 2 (by decide)) (by rw [rx 7 (by decide) (by decide)]) (rx _ (by decide) (by decide)) (rx _ (by decide) (by decide)) (rm _ (by decide) (by decide)) (rm _ (by decide) (by decide)) (rx _ (by decide) (by decide)) (rx _ (by decide) (by decide)) (rx _ (by decide) (by decide)) (rx _ (by decide) (by decide)) (rm _ (by decide) (by decide)) (rm _ (by decide) (by decide)) (rm _ (by decide) (by decide)) (rm _ (by decide) (by decide)) (rx _ (by decide) (by decide))
    · exact hB.fr (by rw [rx 15 (by decide) (by decide)]) (rm0 3 (by decide)) (rx _ (by decide) (by decide)) (rx _ (by decide) (by decide)) (rx _ (by decide) (by decide)) (rm _ (by decide) (by decide)) (rm _ (by decide) (by decide)) (rm _ (by decide) (by decide))
    · exact hTi.fr (by rw [rx 15 (by decide) (by decide)]) (rm0 6 (by decide)) (rx _ (by decide) (by decide)) (rx _ (by decide) (by decide)) (rx _ (by decide) (by decide)) (rm _ (by decide) (by decide)) (rm _ (by decide) (by decide)) (rm _ (by decide) (by decide))
    · exact hLi.fr (by rw [rx 15 (by decide) (by decide)]) (rm0 7 (by decide)) (rx _ (by decide) (by decide)) (rx _ (by decide) (by decide)) (rx _ (by decide) (by decide)) (rm _ (by decide) (by decide)) (rm _ (by decide) (by decide)) (rm _ (by decide) (by decide))
    · exact hH.fr (by rw [rx 39 (by decide) (by decide)]) (rm0 8 (by decide)) (rx _ (by decide) (by decide)) (rx _ (by decide) (by decide)) (rx _ (by decide) (by decide)) (rm _ (by decide) (by decide)) (rm _ (by decide) (by decide)) (rm _ (by decide) (by decide)) (by rw [rx 0 (by decide) (by decide)]) (rm0 11 (by decide))
    · exact hC.fr (by rw [rx 43 (by decide) (by decide)]) (rm0 9 (by decide)) (rx _ (by decide) (by decide)) (rx _ (by decide) (by decide)) (rx _ (by decide) (by decide)) (rx _ (by decide) (by decide)) (rm _ (by decide) (by decide)) (rm _ (by decide) (by decide)) (rm _ (by decide) (by decide)) (rm _ (by decide) (by decide))
    · exact hNo.fr (rx _ (by decide) (by decide)) (rm _ (by decide) (by decide)) (rm0 10 (by decide))
    · exact hS.fr (by rw [rx 25 (by decide) (by decide)]) (rm0 4 (by decide)) (by rw [rx 26 (by decide) (by decide)]) (rx _ (by decide) (by decide)) (rm _ (by decide) (by decide)) (rx _ (by decide) (by decide)) (rm _ (by decide) (by decide)) (rm _ (by decide) (by decide)) (rx _ (by decide) (by decide)) (rx _ (by decide) (by decide)) (rx _ (by decide) (by decide)) (rm _ (by decide) (by decide)) (rm _ (by decide) (by decide)) (rm _ (by decide) (by decide)) (rm _ (by decide) (by decide)) (rx _ (by decide) (by decide)) (by rw [rx 25 (by decide) (by decide)]) (by rw [rx 25 (by decide) (by decide)])
    · exact hR.fr (kx _ _ rfl (fun _ => rfl)) (km _ _ rfl (fun _ => rfl))
    · exact hQ.fr (by rw [rx 0 (by decide) (by decide)]) (kx _ _ rfl (fun _ => rfl)) (km _ _ rfl (fun _ => rfl))
  · refine ⟨.int (-1), x, m, eq_of_wF ?_, eq_of_wF ?_, N, B, S, ⟨n, hn, hx, hm, ht⟩, hL, hN, hB, hTi, hLi, hH, hC, hNo, hS, hR, hQ⟩
    · unfold fX11_feed
      simp (decide := true) only [wE_lit, wL_lit, wE_loc, wL_loc, wE_add, wE_sub, wE_mul, wE_and, wE_or, wE_xor, wE_shl, wE_shr, wE_ushr, wE_div, wE_rem, wE_neg, wE_i2b, wE_l2i, wL_i2l, wL_add, wL_mul, wE_fld, wL_fld, wE_arr, wL_arr, wC_cmp, wC_cmp0, wC_cmpL, wC_and, wC_or, wC_not, wC_ite, wL_ite, wA_nil, wA_int, wA_long, wE_call, wL_call, wS_skip, wS_seq, wS_set, wS_setL, wS_inc, wS_if, wS_put, wS_putL, wS_putOp, wS_putOpL, wS_ast, wS_astL, wS_aop, wS_aopL, wS_ret, wS_retL, wS_retV, wS_do, wS_pop, wS_dead, wS_sw, wF_body, Nat.reduceAdd, Nat.zero_add, Bool.not_not, true_and, and_true, if_true, if_false, ↓reduceIte, eq_self, Value.int.injEq, Value.long.injEq, exists_eq_left', ik_b1, ik_b0, ik_bz0, ik_bz3, ik_bz3_1, ik_bz3_0, ik_cmp, ik_cmpL, ik_eI, ik_eL, ik_as, ik_i0, ik_i1, decide_eq_true_eq, decide_eq_false_iff_not, decide_true, decide_false, Bool.not_true, Bool.not_false, reduceCtorEq, forall_const, false_implies, true_implies, implies_true, true_and, and_true, and_self, false_and, and_false, Bool.and_true, Bool.true_and, not_true_eq_false, not_false_eq_true, if_true, if_false, ite_true, ite_false, ik_bz3_0, ik_bz3_1, ik_bz0, w_takes n hn x hx, hr]
    · unfold fX12_feed
      simp (decide := true) only [wE_lit, wL_lit, wE_loc, wL_loc, wE_add, wE_sub, wE_mul, wE_and, wE_or, wE_xor, wE_shl, wE_shr, wE_ushr, wE_div, wE_rem, wE_neg, wE_i2b, wE_l2i, wL_i2l, wL_add, wL_mul, wE_fld, wL_fld, wE_arr, wL_arr, wC_cmp, wC_cmp0, wC_cmpL, wC_and, wC_or, wC_not, wC_ite, wL_ite, wA_nil, wA_int, wA_long, wE_call, wL_call, wS_skip, wS_seq, wS_set, wS_setL, wS_inc, wS_if, wS_put, wS_putL, wS_putOp, wS_putOpL, wS_ast, wS_astL, wS_aop, wS_aopL, wS_ret, wS_retL, wS_retV, wS_do, wS_pop, wS_dead, wS_sw, wF_body, Nat.reduceAdd, Nat.zero_add, Bool.not_not, true_and, and_true, if_true, if_false, ↓reduceIte, eq_self, Value.int.injEq, Value.long.injEq, exists_eq_left', ik_b1, ik_b0, ik_bz0, ik_bz3, ik_bz3_1, ik_bz3_0, ik_cmp, ik_cmpL, ik_eI, ik_eL, ik_as, ik_i0, ik_i1, decide_eq_true_eq, decide_eq_false_iff_not, decide_true, decide_false, Bool.not_true, Bool.not_false, reduceCtorEq, forall_const, false_implies, true_implies, implies_true, true_and, and_true, and_self, false_and, and_false, Bool.and_true, Bool.true_and, not_true_eq_false, not_false_eq_true, if_true, if_false, ite_true, ite_false, ik_bz3_0, ik_bz3_1, ik_bz0, hm, h20, h400, nI_add, nI_ltI (show 400 < 2 ^ 31 by omega) (show n + 20 < 2 ^ 31 by omega), show 400 < n + 20 by omega]
