theorem rT.none (xb mb : Nat → Int32) : rT 0 xb 0 mb := ⟨0, by omega, rfl, rfl, fun k hk => by omega⟩
/-- a name that is refused: the tape is empty, and what lies behind the names may be changed -/
theorem name_no {x m : GG} {b : Nat → Nat} {N B S n k k' : Nat} (h : rA x m N B S) : Rel (ik_si (ik_nm x N k b) 1 1 0) (ik_mm (ik_si (ik_si m 0 1 0) 5 N (nI n)) N k' b) := by
  obtain ⟨hT, hL, hN, hB, hTi, hLi, hH, hC, hNo, hS, hR, hQ⟩ := h
  obtain ⟨x', hx⟩ : ∃ y, y = ik_si (ik_nm x N k b) 1 1 0 := ⟨_, rfl⟩
  obtain ⟨m', hm⟩ : ∃ y, y = ik_mm (ik_si (ik_si m 0 1 0) 5 N (nI n)) N k' b := ⟨_, rfl⟩
  rw [← hx, ← hm]
  have rx : ∀ a, a ≠ 1 → a ≠ 8 → a ≠ 9 → x'.1 a = x.1 a := fun a h1 h2 h3 => by rw [hx, ik_si_row _ _ _ _ _ h1, nm_off h2 h3]
  have rm : ∀ a, a ≠ 0 → a ≠ 4 → a ≠ 5 → m'.1 a = m.1 a := fun a h1 h2 h3 => by rw [hm, mm_off h2, ik_si_row _ _ _ _ _ h3, ik_si_row _ _ _ _ _ h1]
  have rm0 : ∀ j, j ≠ 1 → m'.1 0 j = m.1 0 j := fun j h1 => by rw [hm, mm_off (by decide), ik_si_row _ _ _ _ _ (by decide), ik_si_ne _ _ _ _ _ h1]
  have e9 : ∀ i, i < N → x'.1 9 i = x.1 9 i := fun i hi => by rw [hx, ik_si_row _ _ _ _ _ (by decide), nm_9o (by omega)]
  have e8 : ∀ i, i < 12 * N → x'.1 8 i = x.1 8 i := fun i hi => by rw [hx, ik_si_row _ _ _ _ _ (by decide), nm_8o (by omega)]
  have e5 : ∀ i, i < N → m'.1 5 i = m.1 5 i := fun i hi => by rw [hm, mm_off (by decide), ik_si_ne _ _ _ _ _ (by omega), ik_si_row _ _ _ _ _ (by decide)]
  have e4 : ∀ i, i < 12 * N → m'.1 4 i = m.1 4 i := fun i hi => by rw [hm, mm_4o (by omega), ik_si_row _ _ _ _ _ (by decide), ik_si_row _ _ _ _ _ (by decide)]
  have hl : ∀ a j, x'.2 a j = x.2 a j := fun a j => by rw [hx]; rfl
  have kx : ∀ k1 k2 : Nat → Nat → Bool, k1 1 1 = false → (∀ j, k1 8 j = false) → (∀ j, k1 9 j = false) → ik_cut k1 k2 x' = ik_cut k1 k2 x := by
    intro k1 k2 h1 h2 h3
    unfold ik_cut
    refine Prod.ext ?_ (by rw [hx]; rfl)
    funext a j
    dsimp only
    by_cases c : k1 a j = true
    · rw [if_pos c, if_pos c]
      by_cases c8 : a = 8
      · subst c8; rw [h2] at c; cases c
      by_cases c9 : a = 9
      · subst c9; rw [h3] at c; cases c
      by_cases c1 : a = 1
      · subst c1
        have cj : j ≠ 1 := fun e => by subst e; rw [h1] at c; cases c
        rw [hx, ik_si_ne _ _ _ _ _ cj, nm_off c8 c9]
      · rw [rx a c1 c8 c9]
    · rw [if_neg c, if_neg c]
  have km : ∀ k1 k2 : Nat → Nat → Bool, k1 0 1 = false → (∀ j, k1 4 j = false) → (∀ j, k1 5 j = false) → ik_cut k1 k2 m' = ik_cut k1 k2 m := by
    intro k1 k2 h1 h2 h3
    unfold ik_cut
    refine Prod.ext ?_ (by rw [hm]; rfl)
    funext a j
    dsimp only
    by_cases c : k1 a j = true
    · rw [if_pos c, if_pos c]
      by_cases c8 : a = 4
      · subst c8; rw [h2] at c; cases c
      by_cases c9 : a = 5
      · subst c9; rw [h3] at c; cases c
      by_cases c1 : a = 0
      · subst c1
        have cj : j ≠ 1 := fun e => by subst e; rw [h1] at c; cases c
        rw [rm0 j cj]
      · rw [rm a c1 c8 c9]
    · rw [if_neg c, if_neg c]
  refine ⟨N, B, S, ?_, ?_, ?_, hB.frk ?_ ?_, hTi.frk ?_ ?_, hLi.frk ?_ ?_, hH.frk ?_ ?_, hC.frk ?_ ?_, hNo.frk ?_ ?_, hS.frk ?_ ?_, hR.fr ?_ ?_, hQ.fr2 ?_ ?_ ?_⟩
  · have z1 : x'.1 1 1 = 0 := by rw [hx, ik_si_same]
    have z2 : m'.1 0 1 = 0 := by rw [hm, mm_off (by decide), ik_si_row _ _ _ _ _ (by decide), ik_si_same]
    rw [z1, z2]
    exact rT.none _ _
  · rw [rx 4 (by decide) (by decide) (by decide), rx 5 (by decide) (by decide) (by decide), rm 2 (by decide) (by decide) (by decide), rm 3 (by decide) (by decide) (by decide)]
    exact hL
  · refine hN.fr2 (by rw [rx 6 (by decide) (by decide) (by decide)]) (rm0 2 (by decide)) (by rw [rx 7 (by decide) (by decide) (by decide)]) (fun i hi => ⟨e9 i hi, ?_⟩) e8 (fun i hi => ⟨e5 i hi, ?_⟩) e4
    · rw [rx 10 (by decide) (by decide) (by decide), rx 11 (by decide) (by decide) (by decide), rx 12 (by decide) (by decide) (by decide), rx 13 (by decide) (by decide) (by decide), rx 14 (by decide) (by decide) (by decide)]
      exact ⟨rfl, rfl, rfl, rfl, rfl⟩
    · rw [rm 6 (by decide) (by decide) (by decide), rm 7 (by decide) (by decide) (by decide), rm 8 (by decide) (by decide) (by decide), rm 9 (by decide) (by decide) (by decide)]
      exact ⟨rfl, rfl, rfl, rfl⟩
  any_goals first | exact kx _ _ rfl (fun _ => rfl) (fun _ => rfl) | exact km _ _ rfl (fun _ => rfl) (fun _ => rfl)
  · rw [rx 0 (by decide) (by decide) (by decide)]
  · refine kPd_cut (rm0 2 (by decide)) (rm0 4 (by decide)) (fun a j hk => ?_)
    have en : (m.1 0 2).toInt.toNat = N := by rw [hN.2.2.1, nI_toInt (by have := hN.1; omega)]; simp
    unfold kPd at hk
    rw [en] at hk
    simp only [Bool.and_eq_true] at hk
    obtain ⟨⟨⟨k1, k2⟩, k3⟩, -⟩ := hk
    by_cases c8 : a = 4
    · subst c8
      simp at k2
      exact e4 j k2
    by_cases c9 : a = 5
    · subst c9
      simp at k3
      exact e5 j k3
    by_cases c1 : a = 0
    · subst c1
      have cj : j ≠ 1 := fun e => by subst e; exact absurd k1 (by decide)
      exact rm0 j cj
    · rw [rm a c1 c8 c9]
