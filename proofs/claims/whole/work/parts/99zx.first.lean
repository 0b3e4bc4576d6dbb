/-! at the start: both are as the constructors leave them, and related -/
theorem g0x_4 (b : Nat) : g0x.1 4 b = if b < 27 then 10 else 0 := rfl
theorem gW_2 (b : Nat) : (gW 2 27).1 2 b = if b < 27 then 10 else 0 := by
  by_cases h : b < 27 <;> simp [gW, h]
theorem gW_o {a : Nat} (h : a ≠ 2) (b : Nat) : (gW 2 27).1 a b = 0 := by simp [gW, h]
theorem ik_none {P : Nat → Prop} : ∀ k : Nat, k < 0 → P k := fun k h => absurd h (Nat.not_lt_zero k)
theorem Rel_0 : Rel g0x (gW 2 27) := by
  refine ⟨0, 0, 0, ⟨0, by decide, rfl, gW_o (by decide) 1, ik_none⟩, ?_, ?_, ?_, ?_, ?_, ?_, ?_, ?_, ?_, ?_, ?_⟩
  · refine ⟨fun k h => ?_, fun k h => ?_, fun k h => gW_o (by decide) k⟩
    · rw [g0x_4, gW_2, if_pos h]
      decide
    · rw [gW_o (by decide)]
      exact ⟨rfl, by decide, by decide⟩
  · exact ⟨by decide, rfl, gW_o (by decide) 2, rfl, ik_none, fun i j h => absurd h (Nat.not_lt_zero i), ik_none⟩
  · exact ⟨by decide, rfl, gW_o (by decide) 3, ik_none⟩
  · exact ⟨0, by decide, rfl, gW_o (by decide) 6, ik_none⟩
  · exact ⟨0, by decide, rfl, gW_o (by decide) 7, ik_none⟩
  · exact ⟨⟨0, by decide, rfl, gW_o (by decide) 8, ik_none⟩, 0, by decide, rfl, gW_o (by decide) 11⟩
  · exact ⟨0, by decide, rfl, gW_o (by decide) 9, ik_none⟩
  · exact ⟨ik_none, fun s _ _ => gW_o (by decide) s, fun s t _ h => absurd h (Nat.not_lt_zero t), gW_o (by decide) 10⟩
  · refine ⟨by decide, rfl, gW_o (by decide) 4, rfl, ik_none, 0, 0, by decide, by decide, rfl, rfl, fun k => ?_, fun k => ?_⟩
    · simp
    · simp
  · refine ⟨fun _ => 0, 0, [], by decide, fun _ _ => rfl, ik_none, rfl, rfl, ?_, Or.inl ⟨rfl, rfl⟩, by decide, fun q b ds h => by simp at h, fun k o h => by simp [cls] at h⟩
    show (ik_cut kRm k0 (gW 2 27)).1 0 5 = 0
    simp [ik_cut, gW]
  · exact ⟨Or.inl rfl, fun h => absurd rfl h⟩
