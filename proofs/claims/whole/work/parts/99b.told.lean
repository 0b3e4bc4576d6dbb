/-! a sheet's lines as they are told: what they ask of the widths under the bars -/
def tB (m : GG) (s t : Nat) : Bool := decide (t = 0 ∨ m.1 19 (24 * s + t) = 1)
def twI (m : GG) (w : Nat → Int) (s t : Nat) : Int := if m.1 16 (24 * s + t) < 4 then w (m.1 16 (24 * s + t)).toInt.toNat else (ik_tw m s t).toInt
def acI (m : GG) (w : Nat → Int) (s : Nat) : Nat → Int
  | 0 => 0
  | t + 1 => if tB m s t = true then twI m w s t else acI m w s t + (m.1 2 0).toInt + twI m w s t
def cI (m : GG) (w : Nat → Int) (s t : Nat) : Prop := tB m s t = true ↔ (m.1 13 s).toInt < acI m w s t + (m.1 2 0).toInt + twI m w s t
def wU (m : GG) (u : Nat → Nat) : Nat → Int := fun k => (ik_nw m (u k)).toInt
theorem tok_int {x m : GG} {N B S s t n : Nat} {u : Nat → Nat} (h : rE x m N B S) (hu : ∀ k, k < B → u k < N) (hs : s < S) (e : m.1 14 s = nI n) (hn : n ≤ 24) (ht : t < n) : (tokw m u s t).toInt = twI m (wU m u) s t ∧ btw (tokw m u s t) 960 := by
  have hB := h.2.2.2.1.1
  obtain ⟨n', n1, n2, n3, n4, n5⟩ := h.2.2.2.2.2.2.2.2.2.1.tok hs
  have en : n = n' := (nI_eq (by omega) (by omega)).mp (e.symm.trans n4)
  subst en
  unfold tokw twI wU
  by_cases c : m.1 16 (24 * s + t) < 4
  · rw [if_pos c, if_pos c]
    refine ⟨rfl, ?_⟩
    rcases n5 t ht with ⟨k, k1, k2, k3, k4⟩ | ⟨k1, k2, -⟩
    · rw [k3, nI_nat (by omega)]
      exact nw_btw h.2.1 h.2.2.1 (hu k k1)
    · rw [k2] at c
      exact absurd c (by decide)
  · rw [if_neg c, if_neg c]
    exact ⟨rfl, tw_btw h hs e hn ht c⟩
theorem bl_int {x m : GG} {N B S : Nat} (h : rE x m N B S) : 1 ≤ (m.1 2 0).toInt ∧ (m.1 2 0).toInt ≤ 60 := by
  obtain ⟨-, h1, h2⟩ := h.2.1.1 0 (by decide)
  rw [tLe] at h1 h2
  exact ⟨h1, h2⟩
theorem wd_int {x m : GG} {N B S s : Nat} (h : rE x m N B S) (hs : s < S) : 50 ≤ (m.1 13 s).toInt ∧ (m.1 13 s).toInt ≤ 5000 := by
  obtain ⟨-, ⟨h1, h2⟩, -⟩ := h.2.2.2.2.2.2.2.2.2.1.2.2.2.2.1 s hs
  rw [tLe] at h1 h2
  exact ⟨h1, h2⟩
theorem told_ac {x m : GG} {N B S s n : Nat} {u : Nat → Nat} (h : rE x m N B S) (hu : ∀ k, k < B → u k < N) (hs : s < S) (e : m.1 14 s = nI n) (hn : n ≤ 24) : ∀ t, t ≤ n → (∀ j, j < t → bgS m u s j = tB m s j) → (acr (tokw m u s) (m.1 2 0) (m.1 13 s) t).toInt = acI m (wU m u) s t ∧ -(1100 * (t : Int)) ≤ acI m (wU m u) s t ∧ acI m (wU m u) s t ≤ 1100 * (t : Int)
  | 0, _, _ => ⟨rfl, by show (-(1100 * (0 : Int))) ≤ 0; decide, by show (0 : Int) ≤ 1100 * (0 : Int); decide⟩
  | t + 1, ht, hj => by
    obtain ⟨i1, i2, i3⟩ := told_ac h hu hs e hn t (by omega) (fun j h => hj j (by omega))
    obtain ⟨k1, k2, k3⟩ := tok_int h hu hs e hn (show t < n by omega)
    obtain ⟨b1, b2⟩ := bl_int h
    rw [k1] at k2 k3
    have et := hj t (by omega)
    rw [acr_s, show bgB (tokw m u s) (m.1 2 0) (m.1 13 s) t = tB m s t from et]
    have eI : acI m (wU m u) s (t + 1) = if tB m s t = true then twI m (wU m u) s t else acI m (wU m u) s t + (m.1 2 0).toInt + twI m (wU m u) s t := rfl
    rw [eI]
    by_cases c : tB m s t = true
    · rw [if_pos c, if_pos c]
      exact ⟨k1, by omega, by omega⟩
    · rw [if_neg c, if_neg c]
      have s1 := tA (a := acr (tokw m u s) (m.1 2 0) (m.1 13 s) t) (b := m.1 2 0) i1 rfl (by omega) (by omega)
      exact ⟨tA s1 k1 (by omega) (by omega), by omega, by omega⟩
theorem told_bg {x m : GG} {N B S s n t : Nat} {u : Nat → Nat} (h : rE x m N B S) (hu : ∀ k, k < B → u k < N) (hs : s < S) (e : m.1 14 s = nI n) (hn : n ≤ 24) (h1 : 1 ≤ t) (ht : t < n) (hj : ∀ j, j < t → bgS m u s j = tB m s j) : bgS m u s t = tB m s t ↔ cI m (wU m u) s t := by
  obtain ⟨i1, i2, i3⟩ := told_ac h hu hs e hn t (by omega) hj
  obtain ⟨k1, k2, k3⟩ := tok_int h hu hs e hn ht
  obtain ⟨b1, b2⟩ := bl_int h
  rw [k1] at k2 k3
  have s1 := tA (a := acr (tokw m u s) (m.1 2 0) (m.1 13 s) t) (b := m.1 2 0) i1 rfl (by omega) (by omega)
  have s2 := tA s1 k1 (by omega) (by omega)
  have eb : bgS m u s t = true ↔ (m.1 13 s).toInt < acI m (wU m u) s t + (m.1 2 0).toInt + twI m (wU m u) s t := by
    unfold bgS bgB
    rw [decide_eq_true_iff, tLt, s2]
    constructor
    · rintro (q | q)
      · omega
      · exact q
    · exact fun q => Or.inr q
  unfold cI
  rw [← eb]
  cases bgS m u s t <;> cases tB m s t <;> simp
theorem told_ot {x m : GG} {N B S s n t : Nat} {u : Nat → Nat} (h : rE x m N B S) (hs : s < S) (e : m.1 14 s = nI n) (hn : n ≤ 24) (ht : t < n) : otB m u s t = false ↔ bgS m u s t = tB m s t := by
  obtain ⟨-, -, n', k1, k2, e1, e2, e3, e4⟩ := h.2.2.2.2.2.2.2.2.2.1.2.2.2.2.1 s hs
  have en : n = n' := (nI_eq (by omega) (by omega)).mp (e.symm.trans e2)
  subst en
  obtain ⟨-, q1, -⟩ := e4 t ht
  unfold otB tB
  by_cases t0 : t = 0
  · subst t0
    have p0 : bgS m u s 0 = true := by unfold bgS bgB; simp
    rw [p0]
    simp [ik_b2]
  · rcases q1 with q | q <;> rw [q] <;> cases bgS m u s t <;> simp [ik_b2, t0]
/-- a sheet breaks so by these names if each told line asks so -/
theorem told_iff {x m : GG} {N B S s n : Nat} {u : Nat → Nat} (h : rE x m N B S) (hu : ∀ k, k < B → u k < N) (hs : s < S) (e : m.1 14 s = nI n) (hn : n ≤ 24) : ik_any (otB m u s) n = false ↔ ∀ t, 1 ≤ t → t < n → cI m (wU m u) s t := by
  have z0 : bgS m u s 0 = tB m s 0 := by unfold bgS bgB tB; simp
  constructor
  · intro a t h1 ht
    have all : ∀ j, j < n → bgS m u s j = tB m s j := fun j hj => by
      refine (told_ot h hs e hn hj).mp ?_
      cases q : otB m u s j with
      | false => rfl
      | true => rw [ik_any_ex.mpr ⟨j, hj, q⟩] at a; cases a
    exact (told_bg h hu hs e hn h1 ht (fun j hj => all j (by omega))).mp (all t ht)
  · intro a
    have all : ∀ t, t ≤ n → ∀ j, j < t → bgS m u s j = tB m s j := by
      intro t
      induction t with
      | zero => intro _ j hj; omega
      | succ t ih =>
        intro ht j hj
        have hp := ih (by omega)
        by_cases ej : j = t
        · subst ej
          by_cases j0 : j = 0
          · subst j0; exact z0
          · exact (told_bg h hu hs e hn (by omega) (by omega) hp).mpr (a j (by omega) (by omega))
        · exact hp j (by omega)
    refine ik_any_no (fun q hq => ?_)
    exact (told_ot h hs e hn hq).mpr (all n (Nat.le_refl _) q hq)
