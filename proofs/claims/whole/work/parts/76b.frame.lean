/-! the frame of the whole relation, but the tape: what it looks at -/
def kEx (a j : Nat) : Bool := a == 4 || a == 5 || (a == 0 && j == 13) || kNx a j || kBx a j || kTix a j || kLix a j || kHx a j || kCx a j || kNox a j || kSx a j || kRx a j || kPx a j
def kEm (a j : Nat) : Bool := a == 2 || a == 3 || kNm a j || kBm a j || kTim a j || kLim a j || kHm a j || kCm a j || kNom a j || kSm a j || kRm a j || kPm a j
theorem cut_of2 {k1 k2 : Nat → Nat → Bool} {g g' : GG} (h : ∀ a j, k1 a j = true → g'.1 a j = g.1 a j) (h2 : ∀ a j, k2 a j = true → g'.2 a j = g.2 a j) : ik_cut k1 k2 g' = ik_cut k1 k2 g := by
  unfold ik_cut
  refine Prod.ext ?_ ?_
  · funext a j
    dsimp only
    by_cases c : k1 a j = true
    · rw [if_pos c, if_pos c, h a j c]
    · rw [if_neg c, if_neg c]
  · funext a j
    dsimp only
    by_cases c : k2 a j = true
    · rw [if_pos c, if_pos c, h2 a j c]
    · rw [if_neg c, if_neg c]
theorem k0_no {g g' : GG} : ∀ a j, k0 a j = true → g'.2 a j = g.2 a j := fun a j h => by cases h
theorem kx_sub {k : Nat → Nat → Bool} {a j : Nat} (h : k a j = true) (hs : k = kNx ∨ k = kBx ∨ k = kTix ∨ k = kLix ∨ k = kHx ∨ k = kCx ∨ k = kNox ∨ k = kSx ∨ k = kRx ∨ k = kPx) : kEx a j = true := by
  unfold kEx
  rcases hs with rfl | rfl | rfl | rfl | rfl | rfl | rfl | rfl | rfl | rfl <;> rw [h] <;> simp only [Bool.or_true, Bool.true_or]
theorem km_sub {k : Nat → Nat → Bool} {a j : Nat} (h : k a j = true) (hs : k = kNm ∨ k = kBm ∨ k = kTim ∨ k = kLim ∨ k = kHm ∨ k = kCm ∨ k = kNom ∨ k = kSm ∨ k = kRm ∨ k = kPm) : kEm a j = true := by
  unfold kEm
  rcases hs with rfl | rfl | rfl | rfl | rfl | rfl | rfl | rfl | rfl | rfl <;> rw [h] <;> simp only [Bool.or_true, Bool.true_or]
theorem rA.frT {x m x' m' : GG} {N B S : Nat} (h : rA x m N B S) (ex : ∀ a j, kEx a j = true → x'.1 a j = x.1 a j) (el : ∀ a j, kPl a j = true → x'.2 a j = x.2 a j) (em : ∀ a j, kEm a j = true → m'.1 a j = m.1 a j) (ht : rT (x'.1 1 1) (x'.1 2) (m'.1 0 1) (m'.1 1)) : rA x' m' N B S := by
  obtain ⟨hT, hL, hN, hB, hTi, hLi, hH, hC, hNo, hS, hR, hQ⟩ := h
  refine ⟨ht, ?_, hN.frk ?_ ?_, hB.frk ?_ ?_, hTi.frk ?_ ?_, hLi.frk ?_ ?_, hH.frk ?_ ?_, hC.frk ?_ ?_, hNo.frk ?_ ?_, hS.frk ?_ ?_, hR.fr ?_ ?_, hQ.fr ?_ ?_ ?_⟩
  · rw [funext fun j => ex 4 j rfl, funext fun j => ex 5 j rfl, funext fun j => em 2 j rfl, funext fun j => em 3 j rfl]
    exact hL
  all_goals first
    | exact cut_of2 (fun a j hk => ex a j (kx_sub hk (by simp))) k0_no
    | exact cut_of2 (fun a j hk => em a j (km_sub hk (by simp))) k0_no
    | exact cut_of2 (fun a j hk => ex a j (kx_sub hk (by simp))) el
    | exact ex 0 13 rfl
/-- the same of the sheets' and names' last rows may be anything -/
theorem Rel.fr {x m x' m' : GG} (h : Rel x m) (ex : ∀ a j, kEx a j = true → x'.1 a j = x.1 a j) (el : ∀ a j, kPl a j = true → x'.2 a j = x.2 a j) (em : ∀ a j, kEm a j = true → m'.1 a j = m.1 a j) (ht : rT (x'.1 1 1) (x'.1 2) (m'.1 0 1) (m'.1 1)) : Rel x' m' := by
  obtain ⟨N, B, S, h⟩ := h
  exact ⟨N, B, S, h.frT ex el em ht⟩
theorem kEx_35 {j : Nat} (h : kEx 35 j = true) : j = 3 ∨ j = 4 := by
  simpa (decide := true) [kEx, kNx, kBx, kTix, kLix, kHx, kCx, kNox, kSx, kRx, kPx] using h
theorem kEm_0 {j : Nat} (h : kEm 0 j = true) : 2 ≤ j ∧ j ≤ 11 := by
  simp (decide := true) [kEm, kNm, kBm, kTim, kLim, kHm, kCm, kNom, kSm, kRm, kPm] at h
  omega
theorem kEm_a {a j : Nat} (h : kEm a j = true) (h0 : a ≠ 0) : (2 ≤ a ∧ a ≤ 19) ∨ (22 ≤ a ∧ a ≤ 26) ∨ (35 ≤ a ∧ a ≤ 43) ∨ (47 ≤ a ∧ a ≤ 51) := by
  simp only [kEm, kNm, kBm, kTim, kLim, kHm, kCm, kNom, kSm, kRm, kPm, Bool.or_eq_true, Bool.and_eq_true, beq_iff_eq, decide_eq_true_eq, h0, false_and, or_false, false_or] at h
  omega
