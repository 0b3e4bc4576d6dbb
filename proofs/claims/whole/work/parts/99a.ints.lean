/-! small numbers: what is reckoned with 32 bits is what it says -/
theorem tA {a b : Int32} {p q : Int} (ha : a.toInt = p) (hb : b.toInt = q) (h1 : -2147483648 ≤ p + q) (h2 : p + q < 2147483648) : (a + b).toInt = p + q := by
  rw [Int32.toInt_add, ha, hb]
  apply Int.bmod_eq_of_le <;> omega
theorem tS {a b : Int32} {p q : Int} (ha : a.toInt = p) (hb : b.toInt = q) (h1 : -2147483648 ≤ p - q) (h2 : p - q < 2147483648) : (a - b).toInt = p - q := by
  rw [Int32.toInt_sub, ha, hb]
  apply Int.bmod_eq_of_le <;> omega
theorem tM {a b : Int32} {p q : Int} (ha : a.toInt = p) (hb : b.toInt = q) (h1 : -2147483648 ≤ p * q) (h2 : p * q < 2147483648) : (a * b).toInt = p * q := by
  rw [Int32.toInt_mul, ha, hb]
  apply Int.bmod_eq_of_le <;> omega
theorem tLe {a b : Int32} : a ≤ b ↔ a.toInt ≤ b.toInt := Int32.le_iff_toInt_le
theorem tLt {a b : Int32} : a < b ↔ a.toInt < b.toInt := Int32.lt_iff_toInt_lt
/-- between two numbers of opposite sign -/
def btw (a : Int32) (n : Int) : Prop := -n ≤ a.toInt ∧ a.toInt ≤ n
theorem btw_of {a : Int32} {l h : Int32} {n : Int} (h1 : l ≤ a) (h2 : a ≤ h) (e1 : -n ≤ l.toInt) (e2 : h.toInt ≤ n) : btw a n := by
  rw [tLe] at h1 h2
  exact ⟨by omega, by omega⟩
/-- the width of a word of n letters -/
theorem wd_btw {w j : Nat → Int32} {c : Nat → Nat} (hw : ∀ k, k < 27 → 1 ≤ w k ∧ w k ≤ 60) (hj : ∀ k, k < 729 → -20 ≤ j k ∧ j k ≤ 20) : ∀ {n : Nat}, n ≤ 12 → (∀ k, k < n → c k ≤ 26) → btw (ik_wd w j c n).1 (80 * n)
  | 0, _, _ => by
    show btw 0 _
    exact ⟨by decide, by decide⟩
  | n + 1, hn, hc => by
    obtain ⟨i1, i2⟩ := wd_btw hw hj (n := n) (by omega) (fun k hk => hc k (by omega))
    have q2 := ik_wd_2 (w := w) (j := j) (c := c) (n := n) (fun k hk => hc k (by omega))
    have c2 := hc n (by omega)
    have e : (ik_wd w j c (n + 1)).1 = (ik_wd w j c n).1 + (w (c n) + j (27 * (ik_wd w j c n).2 + c n)) := rfl
    obtain ⟨w1, w2⟩ := hw (c n) (by omega)
    obtain ⟨j1, j2⟩ := hj (27 * (ik_wd w j c n).2 + c n) (by omega)
    rw [tLe] at w1 w2 j1 j2
    rw [show (1 : Int32).toInt = 1 from rfl] at w1
    rw [show (60 : Int32).toInt = 60 from rfl] at w2
    rw [show (-20 : Int32).toInt = -20 from rfl] at j1
    rw [show (20 : Int32).toInt = 20 from rfl] at j2
    have s1 := tA (a := w (c n)) (b := j (27 * (ik_wd w j c n).2 + c n)) rfl rfl (by omega) (by omega)
    have s2 := tA (a := (ik_wd w j c n).1) rfl s1 (by omega) (by omega)
    rw [e]
    unfold btw
    rw [s2]
    exact ⟨by omega, by omega⟩
theorem nw_btw {x m : GG} {N i : Nat} (hL : rL (x.1 4) (x.1 5) (m.1 2) (m.1 3)) (h : rN x m N) (hi : i < N) : btw (ik_nw m i) 960 := by
  obtain ⟨⟨n, k1, k2, e1, e2, e3⟩, -⟩ := h.2.2.2.2.1 i hi
  unfold ik_nw
  rw [e2, nI_nat (by omega)]
  have b := wd_btw (w := m.1 2) (j := m.1 3) (c := ik_ct m i) (fun k hk => (hL.1 k hk).2) (fun k hk => (hL.2.1 k hk).2) (n := n) k2 (fun k hk => by
    obtain ⟨c, g1, g2, g3, g4⟩ := e3 k hk
    have g4' : m.1 4 (12 * i + k) = nI (c + 96) := g4
    unfold ik_ct
    rw [g4', nI_nat (by omega)]
    omega)
  exact ⟨by have := b.1; omega, by have := b.2; omega⟩
/-- a token that is a word -/
theorem tw_btw {x m : GG} {N B S s t n : Nat} (h : rE x m N B S) (hs : s < S) (e : m.1 14 s = nI n) (hn : n ≤ 24) (ht : t < n) (hw : ¬ m.1 16 (24 * s + t) < 4) : btw (ik_tw m s t) 960 := by
  have hS := h.2.2.2.2.2.2.2.2.2.1
  have hL := h.2.1
  have hB := h.2.2.2.1.1
  obtain ⟨n', n1, n2, n3, n4, n5⟩ := hS.tok hs
  have en : n = n' := (nI_eq (by omega) (by omega)).mp (e.symm.trans n4)
  subst en
  rcases n5 t ht with ⟨k, k1, k2, k3, k4⟩ | ⟨k1, k2, f, l, l1, l2, l3, l4, l5, l6, l7⟩
  · exact absurd (by rw [k3, show (4 : Int32) = nI 4 from rfl, nI_ltI (by omega) (by omega)]; omega) hw
  · have ef := nI_nat (a := f) (by omega)
    have el := nI_nat (a := f + l) (by omega)
    unfold ik_tw
    rw [l4, l5, ef, el, show f + l - f = l by omega]
    have b := wd_btw (w := m.1 2) (j := m.1 3) (c := ik_tc m s t) (fun k hk => (hL.1 k hk).2) (fun k hk => (hL.2.1 k hk).2) (n := l) l2 (fun k hk => by
      obtain ⟨c, g1, g2, g3, g4⟩ := l7 k hk
      have g4' : m.1 15 (160 * s + (f + k)) = nI (c + 96) := g4
      unfold ik_tc
      rw [l4, ef, show 160 * s + f + k = 160 * s + (f + k) by omega, g4', nI_nat (by omega)]
      omega)
    exact ⟨by have := b.1; omega, by have := b.2; omega⟩
