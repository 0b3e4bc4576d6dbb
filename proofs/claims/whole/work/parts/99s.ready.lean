/-! what stands ready, in the relation -/
theorem rS.fr2 {x m x' m' : GG} {S B : Nat} (h : rS x m S B) (hx : ik_cut kSx k0 x' = ik_cut kSx k0 x) (e04 : m'.1 0 4 = m.1 0 4) (e13 : m'.1 13 = m.1 13) (e14 : m'.1 14 = m.1 14) (e15 : m'.1 15 = m.1 15) (er : ∀ a j, 16 ≤ a → a ≤ 19 → j < 24 * S → m'.1 a j = m.1 a j) : rS x' m' S B := by
  have h' := h.frk (x' := x') (m' := m) hx rfl
  obtain ⟨h1, h2, h3, h4, h5, h6⟩ := h'
  refine ⟨h1, h2, e04.trans h3, h4, fun s hs => ?_, h6⟩
  obtain ⟨q1, q2, n, n1, n2, n3, n4, n5, n6⟩ := h5 s hs
  rw [e13, e14]
  refine ⟨q1, q2, n, n1, n2, n3, n4, by rw [er 19 _ (by decide) (by decide) (by omega)]; exact n5, fun t ht => ?_⟩
  rw [e15, er 16 _ (by decide) (by decide) (by omega), er 17 _ (by decide) (by decide) (by omega), er 18 _ (by decide) (by decide) (by omega), er 19 _ (by decide) (by decide) (by omega)]
  exact n6 t ht
theorem rR1.fr {x m x' m' : GG} (h : rR1 x m) (ex : ∀ a j, kRx a j = true → x'.1 a j = x.1 a j) (em : ∀ a j, kRm a j = true → m'.1 a j = m.1 a j) : rR1 x' m' := by
  obtain ⟨c, N, L, h1, h2, h3, h4, h5, h6, h7, h8, h9, h10⟩ := h
  refine ⟨c, N, L, h1, h2, fun k hk => ⟨(h3 k hk).1, by rw [ex 36 k rfl]; exact (h3 k hk).2⟩, by rw [ex 35 3 rfl]; exact h4, by rw [ex 35 4 rfl]; exact h5, by rw [em 0 5 rfl]; exact h6, h7, h8, fun q b ds hq => ?_, fun k o hk => ?_⟩
  · rw [em 22 q rfl, em 23 q rfl, em 24 q rfl]; exact h9 q b ds hq
  · rw [em 25 k rfl, em 26 k rfl]; exact h10 k o hk
theorem cut_iff {k1 : Nat → Nat → Bool} {g : GG} {a j : Nat} (h : k1 a j = true) : (ik_cut k1 k0 g).1 a j = g.1 a j := by
  unfold ik_cut
  dsimp only
  rw [if_pos h]
theorem rD.cut {x m : GG} {N B S : Nat} (h : rE x m N B S) : rD x (ik_cut (kPd m) k0 m) N B S := by
  obtain ⟨-, hL, hN, hB, hTi, hLi, hH, -, -, hS, hR, -⟩ := h
  have eN : (m.1 0 2).toInt.toNat = N := by rw [hN.2.2.1, nI_nat (by have := hN.1; omega)]
  have eS : (m.1 0 4).toInt.toNat = S := by rw [hS.2.2.1, nI_nat (by have := hS.1; omega)]
  have kp : ∀ a j, kPm a j = true → (a = 4 → j < 12 * N) → (a = 5 → j < N) → (16 ≤ a → a ≤ 19 → j < 24 * S) → (ik_cut (kPd m) k0 m).1 a j = m.1 a j := by
    intro a j h1 h2 h3 h4
    refine cut_iff ?_
    unfold kPd
    rw [eN, eS, h1]
    simp only [Bool.and_eq_true, Bool.or_eq_true, Bool.not_eq_true', bne_iff_ne, ne_eq, decide_eq_true_eq, Bool.and_eq_false_iff, decide_eq_false_iff_not, true_and]
    refine ⟨⟨?_, ?_⟩, ?_⟩
    · by_cases c : a = 4
      · exact Or.inr (h2 c)
      · exact Or.inl c
    · by_cases c : a = 5
      · exact Or.inr (h3 c)
      · exact Or.inl c
    · by_cases c : 16 ≤ a
      · by_cases c2 : a ≤ 19
        · exact Or.inr (h4 c c2)
        · exact Or.inl (Or.inr c2)
      · exact Or.inl (Or.inl c)
  have kr : ∀ a, (∀ j, kPm a j = true) → a ≠ 4 → a ≠ 5 → (a < 16 ∨ 19 < a) → (ik_cut (kPd m) k0 m).1 a = m.1 a := fun a h1 h2 h3 h4 => funext fun j => kp a j (h1 j) (fun z => absurd z h2) (fun z => absurd z h3) (fun z1 z2 => by omega)
  have kc : ∀ j, kPm 0 j = true → (ik_cut (kPd m) k0 m).1 0 j = m.1 0 j := fun j h1 => kp 0 j h1 (fun z => absurd z (by decide)) (fun z => absurd z (by decide)) (fun z => absurd z (by decide))
  refine ⟨?_, hN.fr2 rfl (kc 2 rfl) rfl (fun i hi => ⟨rfl, rfl, rfl, rfl, rfl, rfl⟩) (fun j hj => rfl) (fun i hi => ⟨kp 5 i rfl (fun z => absurd z (by decide)) (fun _ => hi) (fun z => absurd z (by decide)), ?_⟩) (fun j hj => kp 4 j rfl (fun _ => hj) (fun z => absurd z (by decide)) (fun z => absurd z (by decide))), hB.fr rfl (kc 3 rfl) rfl rfl rfl (kr 10 (fun _ => rfl) (by decide) (by decide) (by decide)) (kr 11 (fun _ => rfl) (by decide) (by decide) (by decide)) (kr 12 (fun _ => rfl) (by decide) (by decide) (by decide)), hTi.fr rfl (kc 6 rfl) rfl rfl rfl (kr 35 (fun _ => rfl) (by decide) (by decide) (by decide)) (kr 36 (fun _ => rfl) (by decide) (by decide) (by decide)) (kr 37 (fun _ => rfl) (by decide) (by decide) (by decide)), hLi.fr rfl (kc 7 rfl) rfl rfl rfl (kr 38 (fun _ => rfl) (by decide) (by decide) (by decide)) (kr 39 (fun _ => rfl) (by decide) (by decide) (by decide)) (kr 40 (fun _ => rfl) (by decide) (by decide) (by decide)), hH.fr rfl (kc 8 rfl) rfl rfl rfl (kr 41 (fun _ => rfl) (by decide) (by decide) (by decide)) (kr 42 (fun _ => rfl) (by decide) (by decide) (by decide)) (kr 43 (fun _ => rfl) (by decide) (by decide) (by decide)) rfl (kc 11 rfl), hS.fr2 rfl (kc 4 rfl) (kr 13 (fun _ => rfl) (by decide) (by decide) (by decide)) (kr 14 (fun _ => rfl) (by decide) (by decide) (by decide)) (kr 15 (fun _ => rfl) (by decide) (by decide) (by decide)) (fun a j h1 h2 hj => kp a j ?_ (fun z => by omega) (fun z => by omega) (fun _ _ => hj)), rR1.fr hR (fun a j hk => (cut_iff hk).symm) (fun a j hk => ?_)⟩
  · rw [kr 2 (fun _ => rfl) (by decide) (by decide) (by decide), kr 3 (fun _ => rfl) (by decide) (by decide) (by decide)]
    exact hL
  · rw [kr 6 (fun _ => rfl) (by decide) (by decide) (by decide), kr 7 (fun _ => rfl) (by decide) (by decide) (by decide), kr 8 (fun _ => rfl) (by decide) (by decide) (by decide), kr 9 (fun _ => rfl) (by decide) (by decide) (by decide)]
    exact ⟨rfl, rfl, rfl, rfl⟩
  · unfold kPm
    rw [decide_eq_true (show 2 ≤ a by omega), decide_eq_true h2]
    rfl
  · rw [cut_iff hk]
    unfold kRm at hk
    simp only [Bool.or_eq_true, Bool.and_eq_true, decide_eq_true_eq, beq_iff_eq] at hk
    rcases hk with ⟨h1, h2⟩ | ⟨rfl, rfl⟩
    · refine kp a j ?_ (fun z => by omega) (fun z => by omega) (fun z1 z2 => by omega)
      unfold kPm
      rw [decide_eq_true h1, decide_eq_true h2]
      simp
    · exact kc 5 rfl
