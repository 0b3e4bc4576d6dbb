/-- every level: what the plain reader answers, the machine comes to -/
theorem a_lvl {c : Nat → Nat} {N : Nat} (hz : ∀ k, N ≤ k → c k = 0) (hN : N ≤ 160) : ∀ (n dep : Nat), dep + n = 6 →
    (aOK c N dep 1 2 sg_tp sg_tp noA (sp_S n (sp_lvl c n) c) ∧ endS c N (sp_S n (sp_lvl c n) c)) ∧ aPI c N dep (sp_I n (sp_lvl c n) c) ∧ (aOK c N dep 0 3 h_cond sg_ao (altc c) (sp_C n (sp_lvl c n) c) ∧ endC c N (sp_C n (sp_lvl c n) c)) := by
  have key : ∀ (n dep : Nat), dep + n = 6 → (n ≠ 0 → (aOK c N (dep + 1) 1 2 sg_tp sg_tp noA (sp_lvl c n).2.2 ∧ endS c N (sp_lvl c n).2.2) ∧ aPI c N (dep + 1) (sp_lvl c n).2.1 ∧ (aOK c N (dep + 1) 0 3 h_cond sg_ao (altc c) (sp_lvl c n).1 ∧ endC c N (sp_lvl c n).1)) →
      (aOK c N dep 1 2 sg_tp sg_tp noA (sp_S n (sp_lvl c n) c) ∧ endS c N (sp_S n (sp_lvl c n) c)) ∧ aPI c N dep (sp_I n (sp_lvl c n) c) ∧ (aOK c N dep 0 3 h_cond sg_ao (altc c) (sp_C n (sp_lvl c n) c) ∧ endC c N (sp_C n (sp_lvl c n) c)) := by
    intro n dep hd ih
    obtain ⟨k1, k2, k3, k4, k5, k6⟩ := sp_lvl_ok hz n
    have hF : aOK c N dep 1 2 noF noF noA (sp_F n (sp_lvl c n) c) := a_fac hz hd (fun h => (ih h).1.1) (fun h => (ih h).1.2)
    have ot : ∀ q, sg_times (c q) = true → q < N := fun q h => sp_end hz (sp_times_o _ h).1
    have op : ∀ q, sg_plus (c q) = true → q < N := fun q h => sp_end hz (sp_plus_o _ h).1
    have oa : ∀ q, sg_and (c q) = true → q < N := fun q h => sp_end hz (sp_and_o _ h).1
    have oo : ∀ q, sg_or (c q) = true → q < N := fun q h => sp_end hz (sp_or_o _ h).1
    have hP : aOK c N dep 1 2 sg_times sg_times noA (sp_P n (sp_lvl c n) c) := by
      refine a_ops hz k1 hF (fun v h => ⟨rfl, h⟩) (fun v h => by cases h) (fun v h => ⟨h, rfl, ?_, (sp_times_o v h).1⟩) (fun q h => h.elim) (fun q st2 cs2 h => ?_)
      · simp only [sg_times, Bool.or_eq_true, beq_iff_eq, or_assoc] at h
        rcases h with e | e | e <;> subst e <;> decide
      · show (if sg_times (c q) = true then _ else _) = _
        rw [if_pos h]
    have hPE : ∀ p q ds, p ≤ N → sp_P n (sp_lvl c n) c p = .inr (q, ds) → sg_times (c q) = false := fun p q ds hp e => sp_ops_end hz hN (by decide) k1 hp e
    have hS : aOK c N dep 1 2 sg_tp sg_tp noA (sp_S n (sp_lvl c n) c) := by
      refine a_ops hz k2 hP (fun v h => ⟨?_, h⟩) (fun v h => ?_) (fun v h => ⟨?_, ?_, ?_, (sp_plus_o v h).1⟩) (fun q h => h.elim) (fun q st2 cs2 h => ?_)
      · unfold sg_tp at h
        simp only [Bool.or_eq_false_iff] at h
        exact h.1
      · unfold sg_tp
        rw [h]; rfl
      · unfold sg_tp
        rw [h, Bool.or_true]
      · simp only [sg_plus, Bool.or_eq_true, beq_iff_eq] at h
        rcases h with e | e <;> subst e <;> decide
      · simp only [sg_plus, Bool.or_eq_true, beq_iff_eq] at h
        rcases h with e | e <;> subst e <;> decide
      · have ht : sg_times (c q) = false := by
          simp only [sg_plus, Bool.or_eq_true, beq_iff_eq] at h
          rcases h with e | e <;> rw [e] <;> decide
        show (if sg_times (c q) = true then _ else _) = _
        rw [if_neg (by rw [ht]; simp), if_pos h]
    have hSE : endS c N (sp_S n (sp_lvl c n) c) := fun p q ds hp e => ⟨sp_ops_inv (fun q => sg_times (c q) = false) op k2 hPE hp e, sp_ops_end hz hN (by decide) k2 hp e⟩
    have hI : aPI c N dep (sp_I n (sp_lvl c n) c) := a_pie hz hd hS hSE k3 (fun h => (ih h).2.2.1) (fun h => (ih h).2.2.2) (fun h => (ih h).2.1)
    have hA : aOK c N dep 0 3 h_part sg_and (altc c) (sp_A n (sp_lvl c n) c) := by
      refine a_ops hz k4 hI.ok (fun v h => ⟨?_, ?_⟩) (fun v h => by cases h) (fun v h => ⟨h, ?_, ?_, (sp_and_o v h).1⟩) (fun q h => ?_) (fun q st2 cs2 h => ?_)
      · simp only [h_part, h_pie, Bool.not_eq_false', Bool.or_eq_true, beq_iff_eq] at h ⊢
        omega
      · simp only [h_part, Bool.not_eq_false', Bool.or_eq_true, beq_iff_eq] at h
        rcases h with e | e <;> subst e <;> decide
      · simp only [sg_and, beq_iff_eq] at h
        subst h; decide
      · simp only [sg_and, beq_iff_eq] at h
        subst h; decide
      · rcases h with e | e
        · rw [e]; decide
        · simp only [sg_cmp, Bool.or_eq_true, beq_iff_eq, or_assoc] at e
          rcases e with e | e | e <;> rw [e] <;> decide
      · show (if sg_and (c q) = true then _ else _) = _
        rw [if_pos h]
    have hC : aOK c N dep 0 3 h_cond sg_ao (altc c) (sp_C n (sp_lvl c n) c) := by
      refine a_ops hz k5 hA (fun v h => ⟨?_, ?_⟩) (fun v h => ?_) (fun v h => ⟨?_, ?_, ?_, (sp_or_o v h).1⟩) (fun q h => ?_) (fun q st2 cs2 h => ?_)
      · simp only [h_part, h_cond, Bool.not_eq_false', Bool.or_eq_true, beq_iff_eq] at h ⊢
        omega
      · simp only [h_cond, Bool.not_eq_false', beq_iff_eq] at h
        subst h; decide
      · unfold sg_ao
        rw [h]; rfl
      · unfold sg_ao
        rw [h, Bool.or_true]
      · simp only [sg_or, beq_iff_eq] at h
        subst h; decide
      · simp only [sg_or, beq_iff_eq] at h
        subst h; decide
      · rcases h with e | e
        · rw [e]; decide
        · simp only [sg_cmp, Bool.or_eq_true, beq_iff_eq, or_assoc] at e
          rcases e with e | e | e <;> rw [e] <;> decide
      · have ht : sg_and (c q) = false := by
          simp only [sg_or, beq_iff_eq] at h
          rw [h]; decide
        show (if sg_and (c q) = true then _ else _) = _
        rw [if_neg (by rw [ht]; simp), if_pos h]
    have hAE : ∀ p q ds, p ≤ N → sp_A n (sp_lvl c n) c p = .inr (q, ds) → sg_and (c q) = false := fun p q ds hp e => sp_ops_end hz hN (by decide) k4 hp e
    exact ⟨⟨hS, hSE⟩, hI, hC, fun p q ds hp e => ⟨sp_ops_inv (fun q => sg_and (c q) = false) oo k5 hAE hp e, sp_ops_end hz hN (by decide) k5 hp e⟩⟩
  intro n
  induction n with
  | zero => exact fun dep hd => key 0 dep hd (fun h => absurd rfl h)
  | succ n ih => exact fun dep hd => key (n + 1) dep hd (fun _ => ih (dep + 1) (by omega))
/-- a condition from its ( on: as the plain reader says -/
theorem a_cond {c : Nat → Nat} {N : Nat} (hz : ∀ k, N ≤ k → c k = 0) (hN : N ≤ 160) {p : Nat} (hp : p ≤ N) (cs : RC) : match sp_C 5 (sp_lvl c 5) c p with
    | .inl e => RT c (0, p, [40], cs) (.inl e)
    | .inr (q, ds) => if c q = 41 then RT c (0, p, [40], cs) (.inr (4, q + 1, [], cs ++ ds)) else RT c (0, p, [40], cs) (.inl (1, q)) := by
  obtain ⟨-, -, hC, hE⟩ := a_lvl hz hN 5 1 (by omega)
  have s2 := hC p [40] cs hp (by decide) (by decide)
  have s3 := hE p
  revert s2 s3
  rcases sp_C 5 (sp_lvl c 5) c p with ⟨e1, p1⟩ | ⟨q1, d1⟩
  · exact fun s2 _ => s2
  · intro s2 s3
    obtain ⟨t1, t2⟩ := s3 q1 d1 hp rfl
    show if c q1 = 41 then _ else _
    rcases s2 with ⟨b1, b2⟩ | ⟨st3, cs3, b1, b2⟩
    · have n41 : ¬ c q1 = 41 := by
        intro h
        rcases b1 with b1 | b1
        · omega
        · rw [h] at b1; exact absurd b1 (by decide)
      rw [if_neg n41]
      exact b2
    · have s4 : auto c (3, q1, st3, cs3) = if c q1 ≠ 41 then .inl (1, q1) else .inr (4, q1 + 1, [], cs ++ d1) := by
        show (if sg_and (c q1) = true then _ else _) = _
        rw [if_neg (by rw [t1]; simp), if_neg (by rw [t2]; simp), b2]
        rfl
      by_cases c3 : c q1 = 41
      · rw [if_pos c3]
        rw [if_neg (show ¬ c q1 ≠ 41 from fun h => h c3)] at s4
        exact b1.trans (RT.step s4 (RT.refl _ _))
      · rw [if_neg c3]
        rw [if_pos c3] at s4
        exact b1.trans (RT.bad s4)
