theorem nI_subI {p q : Nat} (hp : p < 2 ^ 30) (hq : q < 2 ^ 30) : (nI p - nI q).toInt = (p : Int) - q := by
  rw [Int32.toInt_sub, nI_toInt (by omega), nI_toInt (by omega)]
  apply Int.bmod_eq_of_le <;> omega
/-- two numbers of one sign -/
def ik_sg2 (a b : Int32) : Prop := (a = 0 ↔ b = 0) ∧ (a < 0 ↔ b < 0)
def ik_up (p : Nat) : Nat := if p = 0 then 0 else p + 96
theorem ik_sg_sub {p q : Nat} (hp : p ≤ 26) (hq : q ≤ 26) : ik_sg2 (nI p - nI q) (nI (ik_up p) - nI (ik_up q)) := by
  have u1 : ik_up p ≤ 122 := by unfold ik_up; split <;> omega
  have u2 : ik_up q ≤ 122 := by unfold ik_up; split <;> omega
  have e1 := nI_subI (p := p) (q := q) (by omega) (by omega)
  have e2 := nI_subI (p := ik_up p) (q := ik_up q) (by omega) (by omega)
  have z : (0 : Int32).toInt = 0 := rfl
  unfold ik_sg2
  rw [← Int32.toInt_inj, ← Int32.toInt_inj, Int32.lt_iff_toInt_lt, Int32.lt_iff_toInt_lt, e1, e2, z]
  unfold ik_up
  split <;> split <;> omega
theorem ik_cw_sg {a b A B : Nat → Int32} {p q : Nat → Nat} : ∀ {n : Nat}, (∀ k, k < n → p k ≤ 26 ∧ q k ≤ 26 ∧ a k = nI (p k) ∧ b k = nI (q k) ∧ A k = nI (ik_up (p k)) ∧ B k = nI (ik_up (q k))) → ik_sg2 (ik_cw a b n) (ik_cw A B n)
  | 0, _ => ⟨Iff.rfl, Iff.rfl⟩
  | n + 1, h => by
    have h1 := ik_cw_sg (n := n) (fun k hk => h k (by omega))
    obtain ⟨h2, h3, h4, h5, h6, h7⟩ := h n (by omega)
    unfold ik_cw
    by_cases c : ik_cw a b n = 0
    · rw [if_neg (by simp [c]), if_neg (by simp [h1.1.mp c]), h4, h5, h6, h7]
      exact ik_sg_sub h2 h3
    · rw [if_pos c, if_pos (fun e => c (h1.1.mpr e))]
      exact h1
