/-! names: the alphabet turned round; frames of the names that stand -/
theorem ik_cn_congr {ml ms ml' ms' : Nat → Int32} {i j : Nat} (h1 : ml' i = ml i) (h2 : ml' j = ml j) (h3 : ∀ k, k < 12 → ms' (12 * i + k) = ms (12 * i + k)) (h4 : ∀ k, k < 12 → ms' (12 * j + k) = ms (12 * j + k)) : ik_cn ml' ms' i j = ik_cn ml ms i j := by
  have key : ∀ (a b a' b' : Nat → Int32) (n : Nat), (∀ k, k < n → a' k = a k ∧ b' k = b k) → ik_cw a' b' n = ik_cw a b n := by
    intro a b a' b' n
    induction n with
    | zero => intro _; rfl
    | succ n ih =>
      intro h
      unfold ik_cw
      rw [ih (fun k hk => h k (by omega)), (h n (by omega)).1, (h n (by omega)).2]
  unfold ik_cn
  refine key _ _ _ _ 12 (fun k hk => ?_)
  unfold ik_lt
  dsimp only
  rw [h1, h2, h3 k hk, h4 k hk]
  exact ⟨rfl, rfl⟩
theorem ik_cw_neg {a b : Nat → Int32} {p q : Nat → Nat} : ∀ {n : Nat}, (∀ k, k < n → p k < 1000 ∧ q k < 1000 ∧ a k = nI (p k) ∧ b k = nI (q k)) → (ik_cw b a n).toInt = -(ik_cw a b n).toInt
  | 0, _ => rfl
  | n + 1, h => by
    have h1 := ik_cw_neg (n := n) (fun k hk => h k (by omega))
    obtain ⟨h2, h3, h4, h5⟩ := h n (by omega)
    have z : ∀ v : Int32, v = 0 ↔ v.toInt = 0 := fun v => by rw [← Int32.toInt_inj]; rfl
    unfold ik_cw
    by_cases c : ik_cw a b n = 0
    · have c2 : ik_cw b a n = 0 := by rw [z, h1, (z _).mp c]; rfl
      rw [if_neg (fun w => w c2), if_neg (fun w => w c), h4, h5, nI_subI (by omega) (by omega), nI_subI (by omega) (by omega)]
      omega
    · have c2 : ¬ ik_cw b a n = 0 := by rw [z, h1]; rw [z] at c; omega
      rw [if_pos c, if_pos c2, h1]
theorem rW.ms {xl ml : Int32} {xs ms : Nat → Int32} (h : rW xl xs ml ms) : ∃ p : Nat → Nat, ∀ k, k < 12 → p k < 1000 ∧ ik_lt ml ms k = nI (p k) := by
  obtain ⟨p, hp⟩ := h.lt
  refine ⟨fun k => ik_up (p k), fun k hk => ⟨?_, (hp k hk).2.2⟩⟩
  have := (hp k hk).1
  show ik_up (p k) < 1000
  unfold ik_up
  split <;> omega
theorem ik_cn_neg {x m : GG} {i j : Nat} (hi : rW (x.1 9 i) (fun k => x.1 8 (12 * i + k)) (m.1 5 i) (fun k => m.1 4 (12 * i + k))) (hj : rW (x.1 9 j) (fun k => x.1 8 (12 * j + k)) (m.1 5 j) (fun k => m.1 4 (12 * j + k))) : (ik_cn (m.1 5) (m.1 4) j i).toInt = -(ik_cn (m.1 5) (m.1 4) i j).toInt := by
  obtain ⟨p, hp⟩ := hi.ms
  obtain ⟨q, hq⟩ := hj.ms
  exact ik_cw_neg (p := p) (q := q) (n := 12) (fun k hk => ⟨(hp k hk).1, (hq k hk).1, (hp k hk).2, (hq k hk).2⟩)
theorem ik_cn_self (ml ms : Nat → Int32) (i : Nat) : ik_cn ml ms i i = 0 := by
  unfold ik_cn
  have : ∀ (a : Nat → Int32) (n : Nat), ik_cw a a n = 0 := by
    intro a n
    induction n with
    | zero => rfl
    | succ n ih => unfold ik_cw; rw [ih, if_neg (by simp), Int32.sub_self]
  exact this _ _
theorem rW.congr {xl ml xl' ml' : Int32} {xs ms xs' ms' : Nat → Int32} (h : rW xl xs ml ms) (e1 : xl' = xl) (e2 : ml' = ml) (e3 : ∀ k, k < 12 → xs' k = xs k) (e4 : ∀ k, k < 12 → ms' k = ms k) : rW xl' xs' ml' ms' := by
  obtain ⟨n, h1, h2, h3, h4, h5⟩ := h
  refine ⟨n, h1, h2, e1.trans h3, e2.trans h4, fun k hk => ?_⟩
  rw [e3 k (by omega), e4 k (by omega)]
  exact h5 k hk
/-- the names that stand look only at their own rows -/
theorem rN.fr2 {x m x' m' : GG} {N : Nat} (h : rN x m N) (e1 : x'.1 6 6 = x.1 6 6) (e2 : m'.1 0 2 = m.1 0 2) (e3 : x'.1 7 0 = x.1 7 0)
    (e4 : ∀ i, i < N → x'.1 9 i = x.1 9 i ∧ x'.1 10 i = x.1 10 i ∧ x'.1 11 i = x.1 11 i ∧ x'.1 12 i = x.1 12 i ∧ x'.1 13 i = x.1 13 i ∧ x'.1 14 i = x.1 14 i) (e5 : ∀ j, j < 12 * N → x'.1 8 j = x.1 8 j)
    (e6 : ∀ i, i < N → m'.1 5 i = m.1 5 i ∧ m'.1 6 i = m.1 6 i ∧ m'.1 7 i = m.1 7 i ∧ m'.1 8 i = m.1 8 i ∧ m'.1 9 i = m.1 9 i) (e7 : ∀ j, j < 12 * N → m'.1 4 j = m.1 4 j) : rN x' m' N := by
  obtain ⟨h1, h2, h3, h4, h5, h6, h7⟩ := h
  have cn : ∀ i j, i < N → j < N → ik_cn (m'.1 5) (m'.1 4) i j = ik_cn (m.1 5) (m.1 4) i j := fun i j hi hj => ik_cn_congr (e6 i hi).1 (e6 j hj).1 (fun k hk => e7 _ (by omega)) (fun k hk => e7 _ (by omega))
  refine ⟨h1, e1.trans h2, e2.trans h3, e3.trans h4, fun i hi => ?_, fun i j hi hj => ?_, fun i hi => ?_⟩
  · obtain ⟨a1, a2, a3, a4, a5, a6, a7, a8⟩ := h5 i hi
    obtain ⟨b1, b2, b3, b4, b5, b6⟩ := e4 i hi
    obtain ⟨c1, c2, c3, c4, c5⟩ := e6 i hi
    refine ⟨a1.congr b1 c1 (fun k hk => e5 _ (by omega)) (fun k hk => e7 _ (by omega)), ?_⟩
    rw [b2, b3, b4, b5, c2, c3, c4, c5]
    exact ⟨a2, a3, a4, a5, a6, a7, a8⟩
  · rw [cn i j hi hj]
    exact h6 i j hi hj
  · obtain ⟨b, g1, g2, g3⟩ := h7 i hi
    refine ⟨b, g1, (e4 i hi).2.2.2.2.2.trans g2, fun j => ?_⟩
    rw [g3 j]
    by_cases hj : j < N
    · rw [cn j i hj hi]
    · simp [hj]
