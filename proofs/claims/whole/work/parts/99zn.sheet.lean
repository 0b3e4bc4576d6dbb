/-! sheets: the relation goes on -/
def RSr (x m : GG) (B s : Nat) : Prop := x.1 32 s = m.1 13 s ∧ (50 ≤ m.1 13 s ∧ m.1 13 s ≤ 5000) ∧ ∃ n : Nat, 1 ≤ n ∧ n ≤ 24 ∧ x.1 33 s = nI n ∧ m.1 14 s = nI n ∧ m.1 19 (24 * s) = 0 ∧ ∀ t, t < n → rK (x.1 29 (24 * s + t)) (x.1 28 (24 * s + t)) (fun k => x.1 27 (12 * (24 * s + t) + k)) (m.1 16 (24 * s + t)) (m.1 17 (24 * s + t)) (m.1 18 (24 * s + t)) (fun k => m.1 15 (160 * s + k)) B ∧ (m.1 19 (24 * s + t) = 0 ∨ m.1 19 (24 * s + t) = 1) ∧ x.1 30 (24 * s + t) = if t = 0 then 1 else m.1 19 (24 * s + t)
theorem rK.congr {xb xl : Int32} {xs xs' : Nat → Int32} {mb mf mt : Int32} {mx mx' : Nat → Int32} {B : Nat} (h : rK xb xl xs mb mf mt mx B) (hx : ∀ k, k < 12 → xs' k = xs k) (hm : ∀ k, k < 160 → mx' k = mx k) : rK xb xl xs' mb mf mt mx' B := by
  rcases h with h | ⟨h1, h2, f, n, h3, h4, h5, h6, h7, h8, h9⟩
  · exact Or.inl h
  · refine Or.inr ⟨h1, h2, f, n, h3, h4, h5, h6, h7, h8, fun k hk => ?_⟩
    rw [hx k (by omega), hm (f + k) (by omega)]
    exact h9 k hk
theorem RSr.fr {x m x' m' : GG} {B S s : Nat} (h : RSr x m B s) (hs : s < S) (x32 : x'.1 32 s = x.1 32 s) (x33 : x'.1 33 s = x.1 33 s) (xr : ∀ j, j < 24 * S → x'.1 28 j = x.1 28 j ∧ x'.1 29 j = x.1 29 j ∧ x'.1 30 j = x.1 30 j) (x27 : ∀ j, j < 288 * S → x'.1 27 j = x.1 27 j) (m13 : m'.1 13 s = m.1 13 s) (m14 : m'.1 14 s = m.1 14 s) (m15 : ∀ j, j < 160 * S → m'.1 15 j = m.1 15 j) (mr : ∀ a j, 16 ≤ a → a ≤ 19 → j < 24 * S → m'.1 a j = m.1 a j) : RSr x' m' B s := by
  obtain ⟨h1, h2, n, h3, h4, h5, h6, h7, h8⟩ := h
  refine ⟨by rw [x32, m13]; exact h1, by rw [m13]; exact h2, n, h3, h4, by rw [x33]; exact h5, by rw [m14]; exact h6, by rw [mr 19 _ (by decide) (by decide) (by omega)]; exact h7, fun t ht => ?_⟩
  obtain ⟨k1, k2, k3⟩ := h8 t ht
  obtain ⟨y1, y2, y3⟩ := xr (24 * s + t) (by omega)
  rw [y1, y2, y3, mr 16 _ (by decide) (by decide) (by omega), mr 17 _ (by decide) (by decide) (by omega), mr 18 _ (by decide) (by decide) (by omega), mr 19 _ (by decide) (by decide) (by omega)]
  exact ⟨k1.congr (fun k hk => x27 _ (by omega)) (fun k hk => m15 _ (by omega)), k2, k3⟩
/-- the articles of the sheets that stood -/
theorem art_fr {x x' m : GG} {S B n k : Nat} (h : ∀ s, s < S → RSr x m B s) (x33 : ∀ s, s < S → x'.1 33 s = x.1 33 s) (xr : ∀ j, j < 24 * S → x'.1 28 j = x.1 28 j ∧ x'.1 29 j = x.1 29 j ∧ x'.1 30 j = x.1 30 j) (x27 : ∀ j, j < 288 * S → x'.1 27 j = x.1 27 j) : (∃ s t, s < S ∧ t < 24 ∧ nI (t + 1) < x'.1 33 s ∧ x'.1 29 (24 * s + t + 1) = nI k ∧ k < 4 ∧ ik_art (x'.1 28) (x'.1 27) (24 * s + t) n) ↔ ∃ s t, s < S ∧ t < 24 ∧ nI (t + 1) < x.1 33 s ∧ x.1 29 (24 * s + t + 1) = nI k ∧ k < 4 ∧ ik_art (x.1 28) (x.1 27) (24 * s + t) n := by
  have key : ∀ s t, s < S → t < 24 → ((nI (t + 1) < x'.1 33 s ∧ x'.1 29 (24 * s + t + 1) = nI k ∧ k < 4 ∧ ik_art (x'.1 28) (x'.1 27) (24 * s + t) n) ↔ (nI (t + 1) < x.1 33 s ∧ x.1 29 (24 * s + t + 1) = nI k ∧ k < 4 ∧ ik_art (x.1 28) (x.1 27) (24 * s + t) n)) := by
    intro s t hs ht
    rw [x33 s hs]
    by_cases c : nI (t + 1) < x.1 33 s
    · obtain ⟨-, -, q, q1, q2, q3, -⟩ := h s hs
      rw [q3, nI_ltI (by omega) (by omega)] at c
      unfold ik_art
      rw [(xr (24 * s + t + 1) (by omega)).2.1, (xr (24 * s + t) (by omega)).1, x27 (12 * (24 * s + t)) (by omega), x27 (12 * (24 * s + t) + 1) (by omega)]
    · exact ⟨fun z => absurd z.1 c, fun z => absurd z.1 c⟩
  constructor
  · rintro ⟨s, t, h1, h2, h3⟩
    exact ⟨s, t, h1, h2, (key s t h1 h2).mp h3⟩
  · rintro ⟨s, t, h1, h2, h3⟩
    exact ⟨s, t, h1, h2, (key s t h1 h2).mpr h3⟩
theorem rS.fr3 {x m x' m' : GG} {S B : Nat} (h : rS x m S B) (x25 : ∀ j, j ≠ 8 → x'.1 25 j = x.1 25 j) (x26 : x'.1 26 = x.1 26) (x32 : x'.1 32 = x.1 32) (x33 : x'.1 33 = x.1 33) (xr : ∀ j, j < 24 * S → x'.1 28 j = x.1 28 j ∧ x'.1 29 j = x.1 29 j ∧ x'.1 30 j = x.1 30 j) (x27 : ∀ j, j < 288 * S → x'.1 27 j = x.1 27 j) (m4 : m'.1 0 4 = m.1 0 4) (m13 : m'.1 13 = m.1 13) (m14 : m'.1 14 = m.1 14) (m15 : m'.1 15 = m.1 15) (mr : ∀ a j, 16 ≤ a → a ≤ 19 → j < 24 * S → m'.1 a j = m.1 a j) : rS x' m' S B := by
  obtain ⟨h1, h2, h3, h4, h5, a, b, h6, h7, h8, h9, h10, h11⟩ := h
  have h5' : ∀ s, s < S → RSr x m B s := h5
  refine ⟨h1, (x25 7 (by decide)).trans h2, m4.trans h3, by rw [x26]; exact h4, fun s hs => (h5' s hs).fr hs (by rw [x32]) (by rw [x33]) xr x27 (by rw [m13]) (by rw [m14]) (fun j _ => by rw [m15]) mr, a, b, h6, h7, (x25 9 (by decide)).trans h8, (x25 10 (by decide)).trans h9, fun k => ?_, fun k => ?_⟩
  · rw [h10 k]
    exact (art_fr h5' (fun s _ => by rw [x33]) xr x27).symm
  · rw [h11 k]
    exact (art_fr h5' (fun s _ => by rw [x33]) xr x27).symm
theorem RSr.new {x m : GG} {B S N n st : Nat} {c : Nat → Nat} {w : Int32} {brk : Bool} {fr ln : Nat → Nat} {bg : Nat → Bool} (hw : 50 ≤ w ∧ w ≤ 5000) (hN : N ≤ 160) (ht : TI B c N st brk n fr ln bg) (hst : st ≠ 0) (e32 : x.1 32 S = w) (e33 : x.1 33 S = nI n) (e13 : m.1 13 S = w) (e14 : m.1 14 S = nI n) (e15 : ∀ k, k < N → m.1 15 (160 * S + k) = ik_by (c k)) (hx : CX S c n fr ln bg x) (hm : CM S c n fr ln bg m) : RSr x m B S := by
  obtain ⟨i1, i2, i3, i4, i5, i6, i7, i8⟩ := ht
  have n1 := i3 hst
  refine ⟨by rw [e32, e13], by rw [e13]; exact hw, n, n1, i1, e33, e14, (hm 0 (by omega)).2.2.2, fun t ht => ?_⟩
  obtain ⟨x1, x2, x3, x4⟩ := hx.2 t ht
  obtain ⟨y1, y2, y3, y4⟩ := hm t ht
  refine ⟨?_, ?_, ?_⟩
  · rcases i6 t ht with ⟨k1, k2, k3, k4⟩ | ⟨k1, k2, k3, k4, k5⟩
    · rw [if_pos k1] at x1 y1
      exact Or.inl ⟨c (fr t) - 48, k2, x1, y1, by rw [x2, k3, nI_0]⟩
    · rw [if_neg (by rw [k1]; decide)] at x1 y1
      rw [if_neg (by rw [k1]; decide)] at y3
      refine Or.inr ⟨x1, y1, fr t, ln t, k2, k3, by omega, y2, y3, x2, fun k hk => ⟨c (fr t + k) - 96, ?_, ?_, x3 k hk, ?_⟩⟩
      · have := let_ge (k5 k hk); omega
      · have := let_ge (k5 k hk); omega
      · have lg := let_ge (k5 k hk)
        show m.1 15 (160 * S + (fr t + k)) = _
        rw [e15 (fr t + k) (by omega), show c (fr t + k) - 96 + 96 = c (fr t + k) by omega]
        exact ik_by_low ⟨c (fr t + k), by omega⟩
  · rw [y4]
    by_cases t0 : t = 0
    · rw [if_pos t0]; exact Or.inl rfl
    · rw [if_neg t0]
      cases bg t
      · exact Or.inl rfl
      · exact Or.inr rfl
  · rw [x4, y4]
    by_cases t0 : t = 0
    · subst t0
      rw [if_pos rfl, i5 n1]
      rfl
    · rw [if_neg t0, if_neg t0]
