/-! bits of a number; how many there are -/
def ib (r : Int32) (j : Nat) : Bool := r.toBitVec.getLsbD j
theorem ib_1 (x : Int32) : (x &&& 1 = 0) ↔ x.toBitVec.getLsbD 0 = false := by
  have e : (x &&& 1).toBitVec.getLsbD 0 = x.toBitVec.getLsbD 0 := by
    rw [Int32.toBitVec_and, BitVec.getLsbD_and, show (1 : Int32).toBitVec.getLsbD 0 = true from rfl, Bool.and_true]
  rw [← e]
  constructor
  · intro h
    rw [h]
    rfl
  · intro h
    rcases ik_and1 x with q | q
    · exact q
    · rw [q] at h
      exact absurd h (by decide)
theorem ib_sh {r : Int32} {j : Nat} (hj : j < 32) : ((r >>> (nI j &&& 31)) &&& 1 = 0) ↔ ib r j = false := by
  have e : ∀ q : Fin 32, ((nI q.val &&& 31).toBitVec.smod 32).toNat = q.val := by decide +kernel
  rw [ib_1]
  unfold ib
  have e2 : (r >>> (nI j &&& 31)).toBitVec = r.toBitVec.sshiftRight ((nI j &&& 31).toBitVec.smod 32).toNat := rfl
  rw [e2, e ⟨j, hj⟩, BitVec.getLsbD_sshiftRight]
  simp [hj]
theorem ib_or (a b : Int32) (j : Nat) : ib (a ||| b) j = (ib a j || ib b j) := by unfold ib; rw [Int32.toBitVec_or, BitVec.getLsbD_or]
theorem ib_and (a b : Int32) (j : Nat) : ib (a &&& b) j = (ib a j && ib b j) := by unfold ib; rw [Int32.toBitVec_and, BitVec.getLsbD_and]
theorem ib_not (a : Int32) {j : Nat} (hj : j < 32) : ib (a ^^^ -1) j = !ib a j := by
  unfold ib
  rw [Int32.toBitVec_xor, BitVec.getLsbD_xor, show (-1 : Int32).toBitVec = BitVec.allOnes 32 from rfl, BitVec.getLsbD_allOnes]
  simp [hj]
theorem ib_nI {n j : Nat} (hn : n < 2 ^ 31) : ib (nI n) j = n.testBit j := by
  unfold ib
  rw [show (nI n).toBitVec = BitVec.ofNat 32 n from rfl, BitVec.getLsbD_ofNat]
  by_cases h : j < 32
  · simp [h]
  · have : n < 2 ^ j := Nat.lt_of_lt_of_le hn (Nat.pow_le_pow_right (by decide) (by omega))
    simp [h, Nat.testBit_lt_two_pow this]
theorem ib_m1 {j : Nat} (hj : j < 32) : ib (-1) j = true := by
  unfold ib
  rw [show (-1 : Int32).toBitVec = BitVec.allOnes 32 from rfl, BitVec.getLsbD_allOnes]
  simp [hj]
theorem ib_0 (j : Nat) : ib 0 j = false := by
  unfold ib
  rw [show (0 : Int32).toBitVec = 0#32 from rfl, BitVec.getLsbD_zero]
/-- two numbers without a sign are one where their bits are -/
theorem ib_ext {a b : Int32} (h : ∀ j, j < 32 → ib a j = ib b j) : a = b := by
  apply Int32.toBitVec_inj.mp
  exact BitVec.eq_of_getLsbD_eq (fun i hi => h i hi)
theorem ib_z {a : Int32} : a = 0 ↔ ∀ j, j < 32 → ib a j = false := by
  constructor
  · rintro rfl j -
    exact ib_0 j
  · intro h
    exact ib_ext (fun j hj => by rw [h j hj, ib_0])
theorem w_bitb (r : Int32) {j : Nat} (hj : j < 32) (g : GG) (Q : Value → GG → Prop) : wF fX11_bit [.int r, .int (nI j)] g Q ↔ Q (.int (ik_b2 (ib r j))) g := by
  rw [w_bit]
  have e := ib_sh (r := r) hj
  cases h : ib r j
  · rw [if_neg (fun q => q (e.mpr h))]; rfl
  · rw [if_pos (fun q => by rw [e.mp q] at h; cases h)]; rfl
theorem w_hasb (r : Int32) {j : Nat} (hj : j < 32) (g : GG) (Q : Value → GG → Prop) : wF fX12_has [.int r, .int (nI j)] g Q ↔ Q (.int (ik_b2 (ib r j))) g := by
  rw [w_has]
  have e := ib_sh (r := r) hj
  cases h : ib r j
  · rw [if_neg (fun q => q (e.mpr h))]; rfl
  · rw [if_pos (fun q => by rw [e.mp q] at h; cases h)]; rfl
theorem nI_and {a b : Nat} (ha : a < 2 ^ 31) (hb : b < 2 ^ 31) : nI a &&& nI b = nI (a &&& b) := by
  refine ib_ext (fun j _ => ?_)
  rw [ib_and, ib_nI ha, ib_nI hb, ib_nI (Nat.lt_of_le_of_lt Nat.and_le_left ha), Nat.testBit_and]
/-! how many bits -/
def pop : Nat → Nat → Nat
  | 0, _ => 0
  | w + 1, n => n % 2 + pop w (n / 2)
theorem pop_le : ∀ (w n : Nat), pop w n ≤ w
  | 0, _ => Nat.le_refl _
  | w + 1, n => by
    have := pop_le w (n / 2)
    show n % 2 + pop w (n / 2) ≤ w + 1
    omega
theorem pop_add : ∀ (v w n : Nat), pop (v + w) n = pop v (n % 2 ^ v) + pop w (n / 2 ^ v)
  | 0, w, n => by simp [pop]
  | v + 1, w, n => by
    have e1 := pop_add v w (n / 2)
    rw [show v + 1 + w = (v + w) + 1 by omega]
    show n % 2 + pop (v + w) (n / 2) = (n % 2 ^ (v + 1) % 2 + pop v (n % 2 ^ (v + 1) / 2)) + pop w (n / 2 ^ (v + 1))
    have p : 2 ^ (v + 1) = 2 * 2 ^ v := by rw [Nat.pow_succ, Nat.mul_comm]
    rw [e1, p, Nat.div_div_eq_div_mul, Nat.mod_mul_right_mod, Nat.mod_mul_right_div_self]
    omega
theorem pop_bgc (n : Nat) : ∀ w, bgc n.testBit w = pop w n
  | 0 => rfl
  | w + 1 => by
    rw [pop_add w 1 n]
    show bgc n.testBit w + (if n.testBit w = true then 1 else 0) = _
    have e2 : pop w (n % 2 ^ w) = pop w n := by
      have := pop_add w 0 n
      simpa [pop] using this.symm
    rw [pop_bgc n w, e2]
    show _ = pop w n + (n / 2 ^ w % 2 + 0)
    rw [Nat.testBit_eq_decide_div_mod_eq]
    have : n / 2 ^ w % 2 = 0 ∨ n / 2 ^ w % 2 = 1 := Nat.mod_two_eq_zero_or_one _
    rcases this with h | h <;> simp [h]
theorem and_split {k x p y q : Nat} (hx : x < 2 ^ k) (hp : p < 2 ^ k) : (2 ^ k * y + x) &&& (2 ^ k * q + p) = 2 ^ k * (y &&& q) + (x &&& p) := by
  have hxp : x &&& p < 2 ^ k := Nat.lt_of_le_of_lt Nat.and_le_left hx
  apply Nat.eq_of_testBit_eq
  intro j
  rw [Nat.testBit_and, Nat.testBit_two_pow_mul_add _ hx, Nat.testBit_two_pow_mul_add _ hp, Nat.testBit_two_pow_mul_add _ hxp]
  by_cases h : j < k
  · simp [h]
  · simp [h]
theorem and_3 {a b c p : Nat} (ha : a < 256) (hb : b < 256) (hp : p < 256) : (256 * (256 * c + b) + a) &&& (256 * (256 * p + p) + p) = 256 * (256 * (c &&& p) + (b &&& p)) + (a &&& p) := by
  have e1 := and_split (k := 8) (x := a) (p := p) (y := 256 * c + b) (q := 256 * p + p) ha hp
  have e2 := and_split (k := 8) (x := b) (p := p) (y := c) (q := p) hb hp
  rw [show (2 : Nat) ^ 8 = 256 from rfl] at e1 e2
  rw [e1, e2]
def p1 (x : Nat) : Nat := x - (x / 2 &&& 85)
def p2 (x : Nat) : Nat := (p1 x &&& 51) + (p1 x / 4 &&& 51)
theorem p_a1 : ∀ (x : Fin 256) (e : Fin 2), ((x.val / 2 + 128 * e.val) &&& 85) = (x.val / 2 &&& 85) := by decide +kernel
theorem p_a2 : ∀ (x : Fin 256) (e : Fin 4), ((x.val / 4 + 64 * e.val) &&& 51) = (x.val / 4 &&& 51) := by decide +kernel
theorem p_b : ∀ x : Fin 256, (x.val / 2 &&& 85) ≤ x.val ∧ p1 x.val < 256 ∧ p2 x.val < 69 ∧ p2 x.val % 16 < 5 ∧ (p2 x.val + p2 x.val / 16) % 16 = pop 8 x.val := by decide +kernel
theorem p_e : ∀ (s : Fin 80) (e : Fin 5), ((s.val + 16 * e.val) &&& 15) = s.val % 16 := by decide +kernel
theorem nI_sub' {a b c : Nat} (h : a = b + c) : nI a - nI b = nI c := by rw [pk_sub (by omega), show a - b = c by omega]
theorem w_bitCount {n : Nat} (hn : n < 2 ^ 24) (g : GG) (Q : Value → GG → Prop) : wF fJ6_bitCount_0f7a4 [.int (nI n)] g Q ↔ Q (.int (nI (bgc n.testBit 24))) g := by
  refine wF_eq (eq_of_wF ?_) Q
  obtain ⟨a, b, c, ha, hb, hc, rfl⟩ : ∃ a b c, a < 256 ∧ b < 256 ∧ c < 256 ∧ n = 256 * (256 * c + b) + a := ⟨n % 256, n / 256 % 256, n / 65536, by omega, by omega, by omega, by omega⟩
  obtain ⟨a1, a2, a3, a4, a5⟩ := p_b ⟨a, ha⟩
  obtain ⟨b1, b2, b3, b4, b5⟩ := p_b ⟨b, hb⟩
  obtain ⟨c1, c2, c3, c4, c5⟩ := p_b ⟨c, hc⟩
  simp only at a1 a2 a3 a4 a5 b1 b2 b3 b4 b5 c1 c2 c3 c4 c5
  have s1 := fun (n : Nat) (h : n < 2 ^ 32) => pk_ushrN h 1 1 (by decide)
  have s2 := fun (n : Nat) (h : n < 2 ^ 32) => pk_ushrN h 2 2 (by decide)
  have s4 := fun (n : Nat) (h : n < 2 ^ 32) => pk_ushrN h 4 4 (by decide)
  have s8 := fun (n : Nat) (h : n < 2 ^ 32) => pk_ushrN h 8 8 (by decide)
  have s16 := fun (n : Nat) (h : n < 2 ^ 32) => pk_ushrN h 16 16 (by decide)
  -- the masks reach a byte further: nothing stands there
  have mk : ∀ (A B C p : Nat), A < 256 → B < 256 → C < 256 → p < 128 → nI (256 * (256 * C + B) + A) &&& nI (256 * (256 * (256 * p + p) + p) + p) = nI (256 * (256 * (C &&& p) + (B &&& p)) + (A &&& p)) := by
    intro A B C p h1 h2 h3 h4
    have e1 := and_split (k := 8) (x := A) (p := p) (y := 256 * C + B) (q := 256 * (256 * p + p) + p) h1 (by omega)
    have e2 := and_split (k := 8) (x := B) (p := p) (y := C) (q := 256 * p + p) h2 (by omega)
    have e3 := and_split (k := 8) (x := C) (p := p) (y := 0) (q := p) h3 (by omega)
    rw [Nat.mul_zero, Nat.zero_add, Nat.zero_and, Nat.mul_zero, Nat.zero_add] at e3
    rw [show (2 : Nat) ^ 8 = 256 from rfl] at e1 e2 e3
    rw [nI_and (by omega) (by omega), e1, e2, e3]
  have E1 : nI (256 * (256 * c + b) + a) - (nI ((256 * (256 * c + b) + a) / 2 ^ 1) &&& 1431655765) = nI (256 * (256 * p1 c + p1 b) + p1 a) := by
    have q1 : (256 * (256 * c + b) + a) / 2 ^ 1 = 256 * (256 * (c / 2) + (b / 2 + 128 * (c % 2))) + (a / 2 + 128 * (b % 2)) := by omega
    have k1 := p_a1 ⟨a, ha⟩ ⟨b % 2, by omega⟩
    have k2 := p_a1 ⟨b, hb⟩ ⟨c % 2, by omega⟩
    simp only at k1 k2
    rw [q1, show (1431655765 : Int32) = nI (256 * (256 * (256 * 85 + 85) + 85) + 85) from rfl, mk _ _ _ 85 (by omega) (by omega) (by omega) (by omega), k1, k2]
    refine nI_sub' ?_
    unfold p1
    omega
  have E2 : (nI (256 * (256 * p1 c + p1 b) + p1 a) &&& 858993459) + (nI ((256 * (256 * p1 c + p1 b) + p1 a) / 2 ^ 2) &&& 858993459) = nI (256 * (256 * p2 c + p2 b) + p2 a) := by
    have q1 : (256 * (256 * p1 c + p1 b) + p1 a) / 2 ^ 2 = 256 * (256 * (p1 c / 4) + (p1 b / 4 + 64 * (p1 c % 4))) + (p1 a / 4 + 64 * (p1 b % 4)) := by omega
    have k1 := p_a2 ⟨p1 a, a2⟩ ⟨p1 b % 4, by omega⟩
    have k2 := p_a2 ⟨p1 b, b2⟩ ⟨p1 c % 4, by omega⟩
    simp only at k1 k2
    rw [q1, show (858993459 : Int32) = nI (256 * (256 * (256 * 51 + 51) + 51) + 51) from rfl, mk _ _ _ 51 (by omega) (by omega) (by omega) (by omega), mk _ _ _ 51 (by omega) (by omega) (by omega) (by omega), k1, k2, nI_add]
    unfold p2
    congr 1
    omega
  have E3 : (nI (256 * (256 * p2 c + p2 b) + p2 a) + nI ((256 * (256 * p2 c + p2 b) + p2 a) / 2 ^ 4)) &&& 252645135 = nI (256 * (256 * pop 8 c + pop 8 b) + pop 8 a) := by
    have q1 : (256 * (256 * p2 c + p2 b) + p2 a) + (256 * (256 * p2 c + p2 b) + p2 a) / 2 ^ 4 = 256 * (256 * (p2 c + p2 c / 16) + ((p2 b + p2 b / 16) + 16 * (p2 c % 16))) + ((p2 a + p2 a / 16) + 16 * (p2 b % 16)) := by omega
    have k1 := p_e ⟨p2 a + p2 a / 16, by omega⟩ ⟨p2 b % 16, b4⟩
    have k2 := p_e ⟨p2 b + p2 b / 16, by omega⟩ ⟨p2 c % 16, c4⟩
    have k3 := p_e ⟨p2 c + p2 c / 16, by omega⟩ ⟨0, by omega⟩
    simp only [Nat.mul_zero, Nat.add_zero] at k1 k2 k3
    rw [nI_add, q1, show (252645135 : Int32) = nI (256 * (256 * (256 * 15 + 15) + 15) + 15) from rfl, mk _ _ _ 15 (by omega) (by omega) (by omega) (by omega), k1, k2, k3, a5, b5, c5]
  have la := pop_le 8 a
  have lb := pop_le 8 b
  have lc := pop_le 8 c
  have E5 : pop 24 (256 * (256 * c + b) + a) = pop 8 a + (pop 8 b + pop 8 c) := by
    have e1 := pop_add 8 16 (256 * (256 * c + b) + a)
    have e2 := pop_add 8 8 (256 * c + b)
    rw [show (2 : Nat) ^ 8 = 256 from rfl] at e1 e2
    rw [show (256 * (256 * c + b) + a) % 256 = a by omega, show (256 * (256 * c + b) + a) / 256 = 256 * c + b by omega] at e1
    rw [show (256 * c + b) % 256 = b by omega, show (256 * c + b) / 256 = c by omega] at e2
    rw [show 24 = 8 + 16 from rfl, e1, show 16 = 8 + 8 from rfl, e2]
  unfold fJ6_bitCount_0f7a4
  simp (decide := true) only [wE_lit, wL_lit, wE_loc, wL_loc, wE_add, wE_sub, wE_mul, wE_and, wE_or, wE_xor, wE_shl, wE_shr, wE_ushr, wE_div, wE_rem, wE_neg, wE_i2b, wE_l2i, wL_i2l, wL_add, wL_mul, wE_fld, wL_fld, wE_arr, wL_arr, wC_cmp, wC_cmp0, wC_cmpL, wC_and, wC_or, wC_not, wC_ite, wL_ite, wA_nil, wA_int, wA_long, wE_call, wL_call, wS_skip, wS_seq, wS_set, wS_setL, wS_inc, wS_if, wS_put, wS_putL, wS_putOp, wS_putOpL, wS_ast, wS_astL, wS_aop, wS_aopL, wS_ret, wS_retL, wS_retV, wS_do, wS_pop, wS_dead, wS_sw, wF_body, Nat.reduceAdd, Nat.zero_add, Bool.not_not, true_and, and_true, if_true, if_false, ↓reduceIte, eq_self, Value.int.injEq, Value.long.injEq, exists_eq_left', ik_b1, ik_b0, ik_bz0, ik_bz3, ik_bz3_1, ik_bz3_0, ik_cmp, ik_cmpL, ik_eI, ik_eL, ik_as, ik_i0, ik_i1, decide_eq_true_eq, decide_eq_false_iff_not, decide_true, decide_false, Bool.not_true, Bool.not_false, reduceCtorEq, forall_const, false_implies, true_implies, implies_true, true_and, and_true, and_self, false_and, and_false, Bool.and_true, Bool.true_and, not_true_eq_false, not_false_eq_true, if_true, if_false, ite_true, ite_false, ik_bz3_0, ik_bz3_1, ik_bz0, upd_at, upd_off]
  rw [s1 _ (by omega), E1, s2 _ (by omega), E2, s4 _ (by omega), E3, s8 _ (by omega), nI_add, s16 _ (by omega), nI_add, pk_andN (by omega) (m := 63) 6 (by rfl), pop_bgc, E5]
  refine congrArg nI ?_
  generalize pop 8 a = u at *
  generalize pop 8 b = v at *
  generalize pop 8 c = w at *
  have x1 : (256 * (256 * w + v) + u) / 2 ^ 8 = 256 * w + v := by omega
  have x2 : (256 * (256 * w + v) + u + (256 * w + v)) / 2 ^ 16 = w := by omega
  rw [x1, x2]
  omega
