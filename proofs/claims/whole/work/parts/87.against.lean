/-! the reasons against a name under a bar alone -/
def grG (m : GG) (k i S : Nat) : Bool := ik_any (fun s => ik_any (fun t => decide (t + 1 < (m.1 14 s).toInt.toNat) && grF m k i s (t + 1)) 24) S
def yrB (m : GG) (k i : Nat) : Bool := (!decide (m.1 11 k = -1) && !(decide (m.1 7 i ≤ m.1 11 k) && decide (m.1 11 k ≤ m.1 8 i))) || decide ((m.1 12 k >>> (m.1 6 i &&& 31)) &&& 1 = 0)
def agB (m : GG) (S n : Nat) (L : List (Nat × RC)) (k i : Nat) : Nat := (if grG m k i S = true then 4 else 0) + (if rlH (valM m k i) k L = true then 0 else 8) + (if ik_any (liF m k i) n = true then 16 else 0) + (if yrB m k i = true then 32 else 0)
def inkB (m : GG) (n k i : Nat) : Bool := decide (m.1 10 k - ik_nw m i < ik_hb m (m.1 0 11) false n) || decide (ik_hb m (m.1 0 11) true n < m.1 10 k - ik_nw m i)
theorem ik_any_ex {p : Nat → Bool} {n : Nat} : ik_any p n = true ↔ ∃ t, t < n ∧ p t = true := by
  constructor
  · intro h
    obtain ⟨t, h1, h2, -⟩ := ik_any_first h
    exact ⟨t, h1, h2⟩
  · rintro ⟨t, h1, h2⟩
    exact ik_any_yes h1 h2
theorem grG_iff {x m : GG} {S B k i : Nat} (h : rS x m S B) : grG m k i S = true ↔ ∃ s t n, s < S ∧ m.1 14 s = nI n ∧ n ≤ 24 ∧ 1 ≤ t ∧ t < n ∧ grF m k i s t = true := by
  unfold grG
  rw [ik_any_ex]
  constructor
  · rintro ⟨s, hs, h2⟩
    obtain ⟨t, ht, h3⟩ := ik_any_ex.mp h2
    obtain ⟨n, n1, n2, n3, n4, n5⟩ := h.tok hs
    simp only [Bool.and_eq_true, decide_eq_true_eq] at h3
    rw [n4, nI_nat (by omega)] at h3
    exact ⟨s, t + 1, n, hs, n4, n2, by omega, h3.1, h3.2⟩
  · rintro ⟨s, t, n, a1, a2, a3, a4, a5, a6⟩
    refine ⟨s, a1, ik_any_ex.mpr ⟨t - 1, by omega, ?_⟩⟩
    rw [a2, nI_nat (by omega), show t - 1 + 1 = t by omega, a6]
    simp [a5]
theorem isWd_art {x m : GG} {S B s q n : Nat} (h : rS x m S B) (hB : B ≤ 4) (hs : s < S) (e : m.1 14 s = nI n) (hn : n ≤ 24) (hq : q < n) (an : Bool) : isWd m s q an = true ↔ ik_art (x.1 28) (x.1 27) (24 * s + q) (if an = true then 2 else 1) := by
  have hS := h.1
  obtain ⟨n', n1, n2, n3, n4, n5⟩ := h.tok hs
  have en : n = n' := (nI_eq (by omega) (by omega)).mp (e.symm.trans n4)
  subst en
  unfold isWd ik_art
  rcases n5 q hq with ⟨k, k1, k2, k3, k4⟩ | ⟨k1, k2, f, l, l1, l2, l3, l4, l5, l6, l7⟩
  · have lt : nI k < 4 := by rw [show (4 : Int32) = nI 4 from rfl, nI_ltI (by omega) (by omega)]; omega
    rw [k3, k4]
    constructor
    · simp [lt]
    · rintro ⟨h1, -⟩
      cases an
      · exact absurd h1 (by decide)
      · exact absurd h1 (by decide)
  · have hd : nI (f + l) - nI f = nI l := by rw [pk_sub (by omega)]; congr 1; omega
    have ff := nI_nat (a := f) (by omega)
    rw [k2, l5, l4, hd, ff, l6]
    obtain ⟨c0, g1, g2, g3, g4⟩ := l7 0 (by omega)
    have g3' : x.1 27 (12 * (24 * s + q)) = nI c0 := g3
    have g4' : m.1 15 (160 * s + f) = nI (c0 + 96) := by
      have : m.1 15 (160 * s + (f + 0)) = nI (c0 + 96) := g4
      rw [show 160 * s + f = 160 * s + (f + 0) by omega]; exact this
    have e1 : (m.1 15 (160 * s + f) = 97) ↔ x.1 27 (12 * (24 * s + q)) = 1 := by
      rw [g3', g4', show (97 : Int32) = nI 97 from rfl, show (1 : Int32) = nI 1 from rfl, nI_eq (by omega) (by omega), nI_eq (by omega) (by omega)]
      omega
    have hl : ∀ v : Nat, v < 100 → ((nI l = nI v) ↔ l = v) := fun v hv => nI_eq (by omega) (by omega)
    cases an with
    | false =>
      simp only [show ¬ (4 : Int32) < 4 by decide, decide_false, Bool.not_false, Bool.true_and, Bool.false_eq_true, if_false, Bool.true_or, Bool.and_true, Bool.and_eq_true, decide_eq_true_eq, show (1 : Int32) = nI 1 from rfl, hl 1 (by omega)]
      rw [e1]
      constructor
      · rintro ⟨a, b⟩
        subst a
        exact ⟨rfl, b, fun h => by omega⟩
      · rintro ⟨a, b, -⟩
        exact ⟨a, b⟩
    | true =>
      simp only [show ¬ (4 : Int32) < 4 by decide, decide_false, Bool.not_false, Bool.true_and, if_true, Bool.not_true, Bool.false_or, Bool.and_eq_true, decide_eq_true_eq, show (2 : Int32) = nI 2 from rfl, hl 2 (by omega)]
      rw [e1]
      by_cases c2 : l = 2
      · obtain ⟨c1, r1, r2, r3, r4⟩ := l7 1 (by omega)
        have r3' : x.1 27 (12 * (24 * s + q) + 1) = nI c1 := r3
        have r4' : m.1 15 (160 * s + f + 1) = nI (c1 + 96) := r4
        have e2 : (m.1 15 (160 * s + f + 1) = 110) ↔ x.1 27 (12 * (24 * s + q) + 1) = 14 := by
          rw [r3', r4', show (110 : Int32) = nI 110 from rfl, show (14 : Int32) = nI 14 from rfl, nI_eq (by omega) (by omega), nI_eq (by omega) (by omega)]
          omega
        rw [e2]
        subst c2
        exact ⟨fun ⟨⟨_, b⟩, c⟩ => ⟨rfl, b, fun _ => c⟩, fun ⟨_, b, c⟩ => ⟨⟨rfl, b⟩, c trivial⟩⟩
      · exact ⟨fun h => absurd h.1.1 c2, fun h => absurd h.1 c2⟩
/-- the class's two rows of bits say the same -/
theorem grX {x m : GG} {S B k i a b : Nat} (h : rS x m S B) (hB : B ≤ 4) (hk : k < B)
    (ha : ∀ k, a.testBit k = true ↔ ∃ s t, s < S ∧ t < 24 ∧ nI (t + 1) < x.1 33 s ∧ x.1 29 (24 * s + t + 1) = nI k ∧ k < 4 ∧ ik_art (x.1 28) (x.1 27) (24 * s + t) 1)
    (hb : ∀ k, b.testBit k = true ↔ ∃ s t, s < S ∧ t < 24 ∧ nI (t + 1) < x.1 33 s ∧ x.1 29 (24 * s + t + 1) = nI k ∧ k < 4 ∧ ik_art (x.1 28) (x.1 27) (24 * s + t) 2) : (if ik_vb m i = true then a.testBit k else b.testBit k) = grG m k i S := by
  have tk : ∀ s n t, s < S → m.1 14 s = nI n → n ≤ 24 → t < n → ((m.1 16 (24 * s + t) = nI k) ↔ x.1 29 (24 * s + t) = nI k) := by
    intro s n t hs e hn ht
    obtain ⟨n', n1, n2, n3, n4, n5⟩ := h.tok hs
    have en : n = n' := (nI_eq (by omega) (by omega)).mp (e.symm.trans n4)
    subst en
    rcases n5 t ht with ⟨k', k1, k2, k3, k4⟩ | ⟨k1, k2, -⟩
    · rw [k2, k3]
    · rw [k1, k2]
      constructor
      · intro q
        rw [show (4 : Int32) = nI 4 from rfl, nI_eq (by omega) (by omega)] at q
        omega
      · intro q
        exact absurd q.symm (nI_m1 (by omega))
  have key : ∀ (d : Nat) (an : Bool), (∀ k, d.testBit k = true ↔ ∃ s t, s < S ∧ t < 24 ∧ nI (t + 1) < x.1 33 s ∧ x.1 29 (24 * s + t + 1) = nI k ∧ k < 4 ∧ ik_art (x.1 28) (x.1 27) (24 * s + t) (if an = true then 2 else 1)) → ik_vb m i = !an → (d.testBit k = true ↔ grG m k i S = true) := by
    intro d an hd hv
    rw [hd, grG_iff h]
    constructor
    · rintro ⟨s, t, a1, a1', a2, a3, a4, a5⟩
      obtain ⟨n, n1, n2, n3, n4, n5⟩ := h.tok a1
      have tn : t + 1 < n := by
        rw [n3] at a2
        exact (nI_ltI (by omega) (by omega)).mp a2
      refine ⟨s, t + 1, n, a1, n4, n2, by omega, tn, ?_⟩
      have w := (isWd_art h hB a1 n4 n2 (show t < n by omega) an).mpr a5
      unfold grF
      rw [show t + 1 - 1 = t by omega, hv]
      have e := (tk s n (t + 1) a1 n4 n2 tn).mpr a3
      cases an <;> simp [e, w, show 24 * s + (t + 1) = 24 * s + t + 1 by omega] <;> simpa [show 24 * s + (t + 1) = 24 * s + t + 1 by omega] using e
    · rintro ⟨s, t, n, a1, a2, a3, a4, a5, a6⟩
      obtain ⟨n', n1, n2, n3, n4, n5⟩ := h.tok a1
      have en : n = n' := (nI_eq (by omega) (by omega)).mp (a2.symm.trans n4)
      subst en
      unfold grF at a6
      simp only [Bool.and_eq_true, decide_eq_true_eq, Bool.or_eq_true] at a6
      obtain ⟨b1, b2⟩ := a6
      refine ⟨s, t - 1, a1, by omega, by rw [n3, show t - 1 + 1 = t by omega]; exact nI_lt a5 (by omega), ?_, by omega, ?_⟩
      · have := (tk s n t a1 a2 a3 a5).mp b1
        rw [show 24 * s + (t - 1) + 1 = 24 * s + t by omega]; exact this
      · refine (isWd_art h hB a1 a2 a3 (show t - 1 < n by omega) an).mp ?_
        cases an
        · rcases b2 with b2 | b2
          · exact b2.1
          · rw [hv] at b2; simp at b2
        · rcases b2 with b2 | b2
          · rw [hv] at b2; simp at b2
          · exact b2.1
  cases hv : ik_vb m i with
  | true =>
    rw [if_pos rfl, Bool.eq_iff_iff]
    exact key a false ha (by rw [hv]; rfl)
  | false =>
    rw [if_neg (by simp), Bool.eq_iff_iff]
    exact key b true hb (by rw [hv]; rfl)
