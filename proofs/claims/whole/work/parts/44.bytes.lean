/-! bytes of the tape, as both keep them -/
def ik_by (b : Nat) : Int32 := (Int8.ofNat b).toInt32
theorem ik_by_and : ∀ b : Fin 256, ik_by b.val &&& 255 = nI b.val := by decide +kernel
theorem ik_by_low : ∀ b : Fin 128, ik_by b.val = nI b.val := by decide +kernel
theorem ik_by_neg : ∀ b : Fin 128, ik_by (b.val + 128) < 0 := by decide +kernel
theorem rT.byte {xn mn : Int32} {xb mb : Nat → Int32} (h : rT xn xb mn mb) : ∃ n : Nat, n ≤ 400 ∧ xn = nI n ∧ mn = nI n ∧ ∃ b : Nat → Nat, ∀ k, k < n → b k < 256 ∧ xb k = nI (b k) ∧ mb k = ik_by (b k) := by
  obtain ⟨n, h1, h2, h3, h4⟩ := h
  refine ⟨n, h1, h2, h3, fun k => (mb k).toInt8.toBitVec.toNat, fun k hk => ?_⟩
  obtain ⟨g1, g2⟩ := h4 k hk
  have e : mb k = ik_by (mb k).toInt8.toBitVec.toNat := by
    unfold ik_by
    have : Int8.ofNat (mb k).toInt8.toBitVec.toNat = (mb k).toInt8 := by
      apply Int8.toBitVec_inj.mp
      rw [Int8.toBitVec_ofNat', BitVec.ofNat_toNat, BitVec.setWidth_eq]
    rw [this, g2]
  have hb : (mb k).toInt8.toBitVec.toNat < 256 := (mb k).toInt8.toBitVec.isLt
  refine ⟨hb, ?_, e⟩
  rw [g1]
  have := ik_by_and ⟨_, hb⟩
  rw [← e] at this
  exact this
/-- a letter -/
def ik_lb (b : Nat) : Prop := 97 ≤ b ∧ b ≤ 122
theorem ik_lbX {b : Nat} (hb : b < 256) : (97 ≤ nI b ∧ nI b ≤ 122) ↔ ik_lb b := by
  rw [show (97 : Int32) = nI 97 from rfl, show (122 : Int32) = nI 122 from rfl, nI_leI (by omega) (by omega), nI_leI (by omega) (by omega)]
  rfl
theorem ik_lbM {b : Nat} (hb : b < 256) : (97 ≤ ik_by b ∧ ik_by b ≤ 122) ↔ ik_lb b := by
  by_cases h : b < 128
  · rw [ik_by_low ⟨b, h⟩]
    exact ik_lbX hb
  · have h1 := ik_by_neg ⟨b - 128, by omega⟩
    simp only [show b - 128 + 128 = b by omega] at h1
    constructor
    · rintro ⟨h2, -⟩
      rw [Int32.le_iff_toInt_le] at h2
      rw [Int32.lt_iff_toInt_lt] at h1
      have z : (0 : Int32).toInt = 0 := rfl
      have z2 : (97 : Int32).toInt = 97 := rfl
      omega
    · intro h2
      unfold ik_lb at h2
      omega
