/-! the frame of the whole relation, but the tape: what it looks at -/
def kEx (a j : Nat) : Bool := a == 4 || a == 5 || (8 ≤ a && a ≤ 14) || (16 ≤ a && a ≤ 24) || (27 ≤ a && a ≤ 30) || a == 32 || a == 33 || a == 34 || a == 36 || (40 ≤ a && a ≤ 42) || (44 ≤ a && a ≤ 47) || (50 ≤ a && a ≤ 53) || a == 56 || a == 57 || a == 58 || a == 63 ||
  (a == 0 && (j == 12 || j == 13 || j == 14)) || (a == 6 && j == 6) || (a == 7 && j == 0) || (a == 15 && (j == 9 || j == 10 || j == 11)) || (a == 25 && (j == 7 || j == 9 || j == 10)) || (a == 26 && j == 0) || (a == 35 && (j == 3 || j == 4)) || (a == 39 && j == 3) || (a == 43 && j == 4) || (a == 48 && (j == 9 || j == 10)) || (a == 49 && j == 5)
def kEm (a j : Nat) : Bool := (2 ≤ a && a ≤ 19) || (22 ≤ a && a ≤ 26) || (35 ≤ a && a ≤ 43) || (47 ≤ a && a ≤ 51) || (a == 0 && (2 ≤ j && j ≤ 11))
theorem cut_of2 {k1 k2 : Nat → Nat → Bool} {g g' : GG} (h : ∀ a j, k1 a j = true → g'.1 a j = g.1 a j) (h2 : ∀ a j, k2 a j = true → g'.2 a j = g.2 a j) : ik_cut k1 k2 g' = ik_cut k1 k2 g := by
  unfold ik_cut
  refine Prod.ext ?_ ?_
  · funext a j
    dsimp only
    by_cases c : k1 a j = true
    · rw [if_pos c, if_pos c, h a j c]
    · rw [if_neg c, if_neg c]
  · funext a j
    dsimp only
    by_cases c : k2 a j = true
    · rw [if_pos c, if_pos c, h2 a j c]
    · rw [if_neg c, if_neg c]
theorem k0_no {g g' : GG} : ∀ a j, k0 a j = true → g'.2 a j = g.2 a j := fun a j h => by cases h
theorem kx_sub {k : Nat → Nat → Bool} {a j : Nat} (h : k a j = true) (hs : k = kNx ∨ k = kBx ∨ k = kTix ∨ k = kLix ∨ k = kHx ∨ k = kCx ∨ k = kNox ∨ k = kSx ∨ k = kRx ∨ k = kPx) : kEx a j = true := by
  rcases hs with rfl | rfl | rfl | rfl | rfl | rfl | rfl | rfl | rfl | rfl
  all_goals
    simp only [kNx, kBx, kTix, kLix, kHx, kCx, kNox, kSx, kRx, kPx, Bool.or_eq_true, Bool.and_eq_true, beq_iff_eq, decide_eq_true_eq] at h
    repeat' (rcases h with h | h)
    all_goals first
      | (subst h; rfl)
      | (obtain ⟨rfl, rfl⟩ := h; rfl)
      | (obtain ⟨rfl, h | h⟩ := h <;> subst h <;> rfl)
      | (have h4 : a = 50 ∨ a = 51 ∨ a = 52 ∨ a = 53 := by omega
         rcases h4 with rfl | rfl | rfl | rfl <;> rfl)
theorem km_sub {k : Nat → Nat → Bool} {a j : Nat} (h : k a j = true) (hs : k = kNm ∨ k = kBm ∨ k = kTim ∨ k = kLim ∨ k = kHm ∨ k = kCm ∨ k = kNom ∨ k = kSm ∨ k = kRm ∨ k = kPm) : kEm a j = true := by
  rcases hs with rfl | rfl | rfl | rfl | rfl | rfl | rfl | rfl | rfl | rfl
  all_goals
    simp only [kNm, kBm, kTim, kLim, kHm, kCm, kNom, kSm, kRm, kPm, kEm, Bool.or_eq_true, Bool.and_eq_true, beq_iff_eq, decide_eq_true_eq] at h ⊢
    omega
theorem rA.frT {x m x' m' : GG} {N B S : Nat} (h : rA x m N B S) (ex : ∀ a j, kEx a j = true → x'.1 a j = x.1 a j) (el : ∀ a j, kPl a j = true → x'.2 a j = x.2 a j) (em : ∀ a j, kEm a j = true → m'.1 a j = m.1 a j) (ht : rT (x'.1 1 1) (x'.1 2) (m'.1 0 1) (m'.1 1)) : rA x' m' N B S := by
  obtain ⟨hT, hL, hN, hB, hTi, hLi, hH, hC, hNo, hS, hR, hQ⟩ := h
  refine ⟨ht, ?_, hN.frk ?_ ?_, hB.frk ?_ ?_, hTi.frk ?_ ?_, hLi.frk ?_ ?_, hH.frk ?_ ?_, hC.frk ?_ ?_, hNo.frk ?_ ?_, hS.frk ?_ ?_, hR.fr ?_ ?_, hQ.fr ?_ ?_ ?_⟩
  · rw [funext fun j => ex 4 j rfl, funext fun j => ex 5 j rfl, funext fun j => em 2 j rfl, funext fun j => em 3 j rfl]
    exact hL
  all_goals first
    | exact cut_of2 (fun a j hk => ex a j (kx_sub hk (by simp))) k0_no
    | exact cut_of2 (fun a j hk => em a j (km_sub hk (by simp))) k0_no
    | exact cut_of2 (fun a j hk => ex a j (kx_sub hk (by simp))) el
    | exact ex 0 13 rfl
/-- the same of the sheets' and names' last rows may be anything -/
theorem Rel.fr {x m x' m' : GG} (h : Rel x m) (ex : ∀ a j, kEx a j = true → x'.1 a j = x.1 a j) (el : ∀ a j, kPl a j = true → x'.2 a j = x.2 a j) (em : ∀ a j, kEm a j = true → m'.1 a j = m.1 a j) (ht : rT (x'.1 1 1) (x'.1 2) (m'.1 0 1) (m'.1 1)) : Rel x' m' := by
  obtain ⟨N, B, S, h⟩ := h
  exact ⟨N, B, S, h.frT ex el em ht⟩
