theorem ik_cut_of {k1 k2 : Nat → Nat → Bool} {g g' : GG} (h : ∀ a j, k1 a j = true → g'.1 a j = g.1 a j) (h2 : g'.2 = g.2) : ik_cut k1 k2 g' = ik_cut k1 k2 g := by
  unfold ik_cut
  refine Prod.ext ?_ (by rw [h2])
  funext a j
  dsimp only
  by_cases c : k1 a j = true
  · rw [if_pos c, if_pos c, h a j c]
  · rw [if_neg c, if_neg c]
theorem ik_cut_nm {k1 k2 : Nat → Nat → Bool} {g : GG} {N k : Nat} {b : Nat → Nat} (h8 : ∀ j, k1 8 j = false) (h9 : ∀ j, k1 9 j = false) : ik_cut k1 k2 (ik_nm g N k b) = ik_cut k1 k2 g :=
  ik_cut_of (fun a j c => by
    by_cases e8 : a = 8
    · subst e8; rw [h8] at c; cases c
    by_cases e9 : a = 9
    · subst e9; rw [h9] at c; cases c
    rw [nm_off e8 e9]) rfl
theorem ik_cut_mm {k1 k2 : Nat → Nat → Bool} {g : GG} {N k : Nat} {b : Nat → Nat} (h4 : ∀ j, k1 4 j = false) : ik_cut k1 k2 (ik_mm g N k b) = ik_cut k1 k2 g :=
  ik_cut_of (fun a j c => by
    by_cases e8 : a = 4
    · subst e8; rw [h4] at c; cases c
    rw [mm_off e8]) rfl
theorem ik_cut_ad {k1 k2 : Nat → Nat → Bool} {g : GG} {c : Nat → Bool} {N i : Nat} (h : ∀ j, k1 14 j = false) : ik_cut k1 k2 (ik_ad g c N i) = ik_cut k1 k2 g :=
  ik_cut_of (fun a j q => by
    by_cases e8 : a = 14
    · subst e8; rw [h] at q; cases q
    rw [ad_off e8]) rfl
def ik_nx (x : GG) (N n : Nat) (b : Nat → Nat) (s f t w : Int32) : GG := ik_si (ik_ad (ik_si (ik_si (ik_si (ik_si (ik_si (ik_si (ik_nm x N n b) 1 1 0) 0 13 0) 10 N s) 11 N f) 12 N t) 13 N w) (fun q => decide (ik_cn ((ik_nm x N n b).1 9) ((ik_nm x N n b).1 8) q N < 0)) N N) 6 6 (nI (N + 1))
def ik_ny (m : GG) (N n : Nat) (b : Nat → Nat) (s f t w : Int32) : GG := ik_si (ik_si (ik_si (ik_si (ik_si (ik_m1 m N n b) 6 N s) 7 N f) 8 N t) 9 N w) 0 2 (nI (N + 1))
theorem name_rows {x m : GG} {b : Nat → Nat} {N n : Nat} {s f t w : Int32} (hN : rN x m N) (hn0 : 1 ≤ n) (hn : n ≤ 12) (hg : ∀ q, q < n → ik_lb (b q)) : ∀ i, i < N + 1 → rW ((ik_nx x N n b s f t w).1 9 i) (fun k => (ik_nx x N n b s f t w).1 8 (12 * i + k)) ((ik_ny m N n b s f t w).1 5 i) (fun k => (ik_ny m N n b s f t w).1 4 (12 * i + k)) := by
  intro i hi
  have x9 : (ik_nx x N n b s f t w).1 9 = (ik_nm x N n b).1 9 := by
    unfold ik_nx
    rw [ik_si_row _ _ _ _ _ (by decide), ad_off (by decide)]
    simp (decide := true) only [ik_si_row]
  have x8 : (ik_nx x N n b s f t w).1 8 = (ik_nm x N n b).1 8 := by
    unfold ik_nx
    rw [ik_si_row _ _ _ _ _ (by decide), ad_off (by decide)]
    simp (decide := true) only [ik_si_row]
  have m5 : (ik_ny m N n b s f t w).1 5 = (ik_si m 5 N (nI n)).1 5 := by
    unfold ik_ny ik_m1
    simp (decide := true) only [ik_si_row, mm_off, ik_si_self]
  have m4 : (ik_ny m N n b s f t w).1 4 = (ik_mm (ik_si (ik_si m 0 1 0) 5 N (nI n)) N n b).1 4 := by
    unfold ik_ny ik_m1
    simp (decide := true) only [ik_si_row]
  rw [x9, x8, m5, m4]
  by_cases e : i = N
  · subst e
    refine ⟨n, hn0, hn, nm_9 x i n b, ik_si_same _ _ _ _, fun k hk => ⟨b k - 96, ?_, ?_, nm_8 hk, ?_⟩⟩
    · have := hg k hk; unfold ik_lb at this; omega
    · have := hg k hk; unfold ik_lb at this; omega
    · have := hg k hk
      unfold ik_lb at this
      rw [show b k - 96 + 96 = b k by omega]
      exact mm_4 hk
  · have h := (hN.2.2.2.2.1 i (by omega)).1
    refine h.congr (nm_9o e) (ik_si_ne _ _ _ _ _ e) (fun k hk => nm_8o (by omega)) (fun k hk => ?_)
    rw [mm_4o (by omega), ik_si_row _ _ _ _ _ (by decide), ik_si_row _ _ _ _ _ (by decide)]
theorem name_yes {x m : GG} {b : Nat → Nat} {N B S n : Nat} {s f t w : Int32} (h : rA x m N B S) (hN24 : N < 24) (hn0 : 1 ≤ n) (hn : n ≤ 12) (c1 : 0 ≤ s ∧ s ≤ 7) (c2 : 0 ≤ f ∧ f ≤ 199) (c3 : f ≤ t ∧ t ≤ 199) (c4 : 1 ≤ w ∧ w ≤ 100)
    (hg : ∀ q, q < n → ik_lb (b q)) (hd : ∀ i, i < N → ik_cn ((ik_nm x N n b).1 9) ((ik_nm x N n b).1 8) i N ≠ 0) : Rel (ik_nx x N n b s f t w) (ik_ny m N n b s f t w) := by
  obtain ⟨hT, hL, hN, hB, hTi, hLi, hH, hC, hNo, hS, hR, hQ⟩ := h
  have hW := name_rows (s := s) (f := f) (t := t) (w := w) (b := b) hN hn0 hn hg
  obtain ⟨x', hx⟩ : ∃ y, y = ik_nx x N n b s f t w := ⟨_, rfl⟩
  obtain ⟨m', hm⟩ : ∃ y, y = ik_ny m N n b s f t w := ⟨_, rfl⟩
  rw [← hx, ← hm] at hW
  rw [← hx, ← hm]
  have x9 : x'.1 9 = (ik_nm x N n b).1 9 := by
    rw [hx]; unfold ik_nx
    rw [ik_si_row _ _ _ _ _ (by decide), ad_off (by decide)]
    simp (decide := true) only [ik_si_row]
  have x8 : x'.1 8 = (ik_nm x N n b).1 8 := by
    rw [hx]; unfold ik_nx
    rw [ik_si_row _ _ _ _ _ (by decide), ad_off (by decide)]
    simp (decide := true) only [ik_si_row]
  have x10 : x'.1 10 = upd (x.1 10) N s := by
    rw [hx]; unfold ik_nx
    rw [ik_si_row _ _ _ _ _ (by decide), ad_off (by decide)]
    simp (decide := true) only [ik_si_row, ik_si_self, nm_off]
  have x11 : x'.1 11 = upd (x.1 11) N f := by
    rw [hx]; unfold ik_nx
    rw [ik_si_row _ _ _ _ _ (by decide), ad_off (by decide)]
    simp (decide := true) only [ik_si_row, ik_si_self, nm_off]
  have x12 : x'.1 12 = upd (x.1 12) N t := by
    rw [hx]; unfold ik_nx
    rw [ik_si_row _ _ _ _ _ (by decide), ad_off (by decide)]
    simp (decide := true) only [ik_si_row, ik_si_self, nm_off]
  have x13 : x'.1 13 = upd (x.1 13) N w := by
    rw [hx]; unfold ik_nx
    rw [ik_si_row _ _ _ _ _ (by decide), ad_off (by decide)]
    simp (decide := true) only [ik_si_row, ik_si_self, nm_off]
  have x14 : ∀ j, x'.1 14 j = if j = N then nI (ik_bs (fun q => decide (ik_cn ((ik_nm x N n b).1 9) ((ik_nm x N n b).1 8) q N < 0)) N) else if j < N ∧ decide (ik_cn ((ik_nm x N n b).1 9) ((ik_nm x N n b).1 8) j N < 0) = false then x.1 14 j ||| nI (2 ^ N) else x.1 14 j := by
    intro j
    rw [hx]; unfold ik_nx
    rw [ik_si_row _ _ _ _ _ (by decide)]
    unfold ik_ad
    simp (decide := true) only [if_true, ik_si_row, nm_off]
  have x6 : x'.1 6 6 = nI (N + 1) := by rw [hx]; unfold ik_nx; rw [ik_si_same]
  have x7 : x'.1 7 = x.1 7 := by
    rw [hx]; unfold ik_nx
    rw [ik_si_row _ _ _ _ _ (by decide), ad_off (by decide)]
    simp (decide := true) only [ik_si_row, nm_off]
  have m5 : m'.1 5 = upd (m.1 5) N (nI n) := by
    rw [hm]; unfold ik_ny ik_m1
    simp (decide := true) only [ik_si_row, mm_off, ik_si_self]
  have m4 : m'.1 4 = (ik_mm (ik_si (ik_si m 0 1 0) 5 N (nI n)) N n b).1 4 := by
    rw [hm]; unfold ik_ny ik_m1
    simp (decide := true) only [ik_si_row]
  have m6 : m'.1 6 = upd (m.1 6) N s := by
    rw [hm]; unfold ik_ny ik_m1
    simp (decide := true) only [ik_si_row, mm_off, ik_si_self]
  have m7 : m'.1 7 = upd (m.1 7) N f := by
    rw [hm]; unfold ik_ny ik_m1
    simp (decide := true) only [ik_si_row, mm_off, ik_si_self]
  have m8 : m'.1 8 = upd (m.1 8) N t := by
    rw [hm]; unfold ik_ny ik_m1
    simp (decide := true) only [ik_si_row, mm_off, ik_si_self]
  have m9 : m'.1 9 = upd (m.1 9) N w := by
    rw [hm]; unfold ik_ny ik_m1
    simp (decide := true) only [ik_si_row, mm_off, ik_si_self]
  have m02 : m'.1 0 2 = nI (N + 1) := by rw [hm]; unfold ik_ny; rw [ik_si_same]
  have u0 : ∀ (g : Nat → Int32) (v : Int32) (i : Nat), i ≠ N → upd g N v i = g i := fun g v i hi => upd_off _ _ _ _ hi
  have cn : ∀ i j, i < N → j < N → ik_cn (m'.1 5) (m'.1 4) i j = ik_cn (m.1 5) (m.1 4) i j := by
    intro i j hi hj
    refine ik_cn_congr ?_ ?_ (fun k hk => ?_) (fun k hk => ?_)
    · rw [m5, u0 _ _ _ (by omega)]
    · rw [m5, u0 _ _ _ (by omega)]
    · rw [m4, mm_4o (by omega), ik_si_row _ _ _ _ _ (by decide), ik_si_row _ _ _ _ _ (by decide)]
    · rw [m4, mm_4o (by omega), ik_si_row _ _ _ _ _ (by decide), ik_si_row _ _ _ _ _ (by decide)]
  have sg : ∀ i, i < N → ik_sg2 (ik_cn ((ik_nm x N n b).1 9) ((ik_nm x N n b).1 8) i N) (ik_cn (m'.1 5) (m'.1 4) i N) := by
    intro i hi
    have := ik_cn_sg (hW i (by omega)) (hW N (by omega))
    rw [x9, x8] at this
    exact this
  have ng : ∀ i, i < N → (ik_cn (m'.1 5) (m'.1 4) N i).toInt = -(ik_cn (m'.1 5) (m'.1 4) i N).toInt := fun i hi => ik_cn_neg (hW i (by omega)) (hW N (by omega))
  have nz : ∀ i, i < N → ik_cn (m'.1 5) (m'.1 4) i N ≠ 0 := fun i hi e => hd i hi ((sg i hi).1.mpr e)
  have z : (0 : Int32).toInt = 0 := rfl
  refine ⟨N + 1, B, S, ?_, ?_, ⟨by omega, x6, m02, by rw [x7]; exact hN.2.2.2.1, fun i hi => ⟨hW i hi, ?_⟩, ?_, ?_⟩, hB.frk ?_ ?_, hTi.frk ?_ ?_, (hLi.mono (by omega : N ≤ N + 1) (Nat.le_refl B)).frk ?_ ?_, (hH.mono (by omega : N ≤ N + 1)).frk ?_ ?_, hC.frk ?_ ?_, hNo.frk ?_ ?_, hS.frk ?_ ?_, hR.fr ?_ ?_, rQ.new ?_⟩
  · have z1 : x'.1 1 1 = 0 := by
      rw [hx]; unfold ik_nx
      rw [ik_si_row _ _ _ _ _ (by decide), ad_off (by decide)]
      simp (decide := true) only [ik_si_row, ik_si_same]
    have z2 : m'.1 0 1 = 0 := by
      rw [hm]; unfold ik_ny ik_m1
      simp (decide := true) only [ik_si_row, ik_si_ne, mm_off, ik_si_same]
    rw [z1, z2]
    exact rT.none _ _
  · have a1 : x'.1 4 = x.1 4 := by
      rw [hx]; unfold ik_nx
      rw [ik_si_row _ _ _ _ _ (by decide), ad_off (by decide)]
      simp (decide := true) only [ik_si_row, nm_off]
    have a2 : x'.1 5 = x.1 5 := by
      rw [hx]; unfold ik_nx
      rw [ik_si_row _ _ _ _ _ (by decide), ad_off (by decide)]
      simp (decide := true) only [ik_si_row, nm_off]
    have a3 : m'.1 2 = m.1 2 := by
      rw [hm]; unfold ik_ny ik_m1
      simp (decide := true) only [ik_si_row, mm_off]
    have a4 : m'.1 3 = m.1 3 := by
      rw [hm]; unfold ik_ny ik_m1
      simp (decide := true) only [ik_si_row, mm_off]
    rw [a1, a2, a3, a4]
    exact hL
  · rw [x10, x11, x12, x13, m6, m7, m8, m9]
    by_cases e : i = N
    · subst e
      simp only [upd_at, true_and]
      exact ⟨c1, ⟨c2.1, c3.1, c3.2⟩, c4⟩
    · simp only [u0 _ _ _ e]
      exact (hN.2.2.2.2.1 i (by omega)).2
  · intro i j hi hj hij
    by_cases e : i = N
    · subst e
      intro h0
      have := ng j (by omega)
      rw [h0, z] at this
      exact nz j (by omega) (Int32.toInt_inj.mp (by rw [z]; omega))
    · by_cases e2 : j = N
      · subst e2
        exact nz i (by omega)
      · rw [cn i j (by omega) (by omega)]
        exact hN.2.2.2.2.2.1 i j (by omega) (by omega) hij
  · intro i hi
    rw [x14 i]
    by_cases e : i = N
    · subst e
      rw [if_pos rfl]
      have l1 := ik_bs_lt (fun q => decide (ik_cn ((ik_nm x i n b).1 9) ((ik_nm x i n b).1 8) q i < 0)) i
      have l2 : 2 ^ i ≤ 2 ^ 24 := Nat.pow_le_pow_right (by omega) (by omega)
      refine ⟨_, by omega, rfl, fun j => ?_⟩
      rw [ik_bs_bit]
      by_cases hj : j < i
      · have := (sg j hj).2
        simp only [hj, show j < i + 1 by omega, this, decide_true, true_and, Bool.true_and]
      · by_cases hj2 : j = i
        · subst hj2
          simp [ik_cn_self]
        · simp [hj, show ¬ j < i + 1 by omega]
    · rw [if_neg e]
      obtain ⟨d, g1, g2, g3⟩ := hN.2.2.2.2.2.2 i (by omega)
      have hi' : i < N := by omega
      have l2 : 2 ^ N < 2 ^ 24 := Nat.pow_lt_pow_right (by omega) (by omega)
      have n1 := ng i hi'
      have n2 := nz i hi'
      have s1 := (sg i hi').2
      by_cases q : ik_cn ((ik_nm x N n b).1 9) ((ik_nm x N n b).1 8) i N < 0
      · rw [if_neg (by simp [q])]
        refine ⟨d, g1, g2, fun j => ?_⟩
        rw [g3 j]
        by_cases hj : j < N
        · simp [hj, show j < N + 1 by omega, cn j i hj hi']
        · by_cases hj2 : j = N
          · subst hj2
            have q2 := s1.mp q
            have : ¬ ik_cn (m'.1 5) (m'.1 4) j i < 0 := by
              rw [Int32.lt_iff_toInt_lt, z] at q2 ⊢
              omega
            simp [this]
          · simp [hj, show ¬ j < N + 1 by omega]
      · rw [if_pos ⟨hi', by simp [q]⟩, g2, nI_or]
        refine ⟨d ||| 2 ^ N, Nat.or_lt_two_pow g1 l2, rfl, fun j => ?_⟩
        rw [Nat.testBit_or, g3 j, Nat.testBit_two_pow]
        by_cases hj : j < N
        · simp [hj, show j < N + 1 by omega, cn j i hj hi', show ¬ N = j by omega]
        · by_cases hj2 : j = N
          · subst hj2
            have q2 : ¬ ik_cn (m'.1 5) (m'.1 4) i j < 0 := fun h => q (s1.mpr h)
            have : ik_cn (m'.1 5) (m'.1 4) j i < 0 := by
              have q3 : ¬ (ik_cn (m'.1 5) (m'.1 4) i j).toInt = 0 := fun e => n2 (Int32.toInt_inj.mp (by rw [z]; exact e))
              rw [Int32.lt_iff_toInt_lt, z] at q2 ⊢
              omega
            simp [this]
          · simp [hj, show ¬ j < N + 1 by omega, show ¬ N = j by omega]
  any_goals first
    | (rw [hx]; unfold ik_nx; rw [ik_cut_si rfl, ik_cut_ad (fun _ => rfl), ik_cut_si rfl, ik_cut_si rfl, ik_cut_si rfl, ik_cut_si rfl, ik_cut_si rfl, ik_cut_si rfl, ik_cut_nm (fun _ => rfl) (fun _ => rfl)]; done)
    | (rw [hm]; unfold ik_ny ik_m1; rw [ik_cut_si rfl, ik_cut_si rfl, ik_cut_si rfl, ik_cut_si rfl, ik_cut_si rfl, ik_cut_mm (fun _ => rfl), ik_cut_si rfl, ik_cut_si rfl]; done)
  · rw [hx]; unfold ik_nx
    rw [ik_si_row _ _ _ _ _ (by decide), ad_off (by decide)]
    simp (decide := true) only [ik_si_row, ik_si_same]
