theorem rW.lt {xl ml : Int32} {xs ms : Nat → Int32} (h : rW xl xs ml ms) : ∃ p : Nat → Nat, ∀ k, k < 12 → p k ≤ 26 ∧ ik_lt xl xs k = nI (p k) ∧ ik_lt ml ms k = nI (ik_up (p k)) := by
  obtain ⟨n, h1, h2, h3, h4, h5⟩ := h
  refine ⟨fun k => if k < n then (xs k).toInt.toNat else 0, fun k hk => ?_⟩
  unfold ik_lt
  rw [h3, h4]
  have e : (nI k < nI n) ↔ k < n := nI_ltI (by omega) (by omega)
  simp only [e]
  by_cases c : k < n
  · obtain ⟨d, g1, g2, g3, g4⟩ := h5 k c
    have g5 : (xs k).toInt.toNat = d := by rw [g3, nI_toInt (by omega)]; simp
    simp only [if_pos c, g5]
    refine ⟨g2, g3, ?_⟩
    unfold ik_up
    rw [g4, if_neg (by omega)]
  · simp only [if_neg c]
    exact ⟨by omega, rfl, rfl⟩
theorem ik_cn_sg {x m : GG} {i j : Nat} (hi : rW (x.1 9 i) (fun k => x.1 8 (12 * i + k)) (m.1 5 i) (fun k => m.1 4 (12 * i + k))) (hj : rW (x.1 9 j) (fun k => x.1 8 (12 * j + k)) (m.1 5 j) (fun k => m.1 4 (12 * j + k))) : ik_sg2 (ik_cn (x.1 9) (x.1 8) i j) (ik_cn (m.1 5) (m.1 4) i j) := by
  obtain ⟨p, hp⟩ := hi.lt
  obtain ⟨q, hq⟩ := hj.lt
  exact ik_cw_sg (p := p) (q := q) (n := 12) (fun k hk => ⟨(hp k hk).1, (hq k hk).1, (hp k hk).2.1, (hq k hk).2.1, (hp k hk).2.2, (hq k hk).2.2⟩)
