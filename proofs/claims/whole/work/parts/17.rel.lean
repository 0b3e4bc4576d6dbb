/-! the relation of the class's state x and the reference's state m, part by part -/
/-- the tape -/
def rT (xn : Int32) (xb : Nat → Int32) (mn : Int32) (mb : Nat → Int32) : Prop := ∃ n : Nat, n ≤ 400 ∧ xn = nI n ∧ mn = nI n ∧ ∀ k, k < n → xb k = mb k &&& 255 ∧ (mb k).toInt8.toInt32 = mb k
/-- a name: its letters 1 to 26 in the class, 97 to 122 in the reference -/
def rW (xl : Int32) (xs : Nat → Int32) (ml : Int32) (ms : Nat → Int32) : Prop := ∃ n : Nat, 1 ≤ n ∧ n ≤ 12 ∧ xl = nI n ∧ ml = nI n ∧ ∀ k, k < n → ∃ c : Nat, 1 ≤ c ∧ c ≤ 26 ∧ xs k = nI c ∧ ms k = nI (c + 96)
/-- by the alphabet: the first place at which they differ, 0 behind the end -/
def ik_lt (l : Int32) (s : Nat → Int32) (k : Nat) : Int32 := if nI k < l then s k else 0
def ik_cw (a b : Nat → Int32) : Nat → Int32
  | 0 => 0
  | k + 1 => if ik_cw a b k ≠ 0 then ik_cw a b k else a k - b k
/-- name i against name j, of the reference: below 0 if i is ahead -/
def ik_cn (ml ms : Nat → Int32) (i j : Nat) : Int32 := ik_cw (ik_lt (ml i) (fun k => ms (12 * i + k))) (ik_lt (ml j) (fun k => ms (12 * j + k))) 12
/-- names -/
def rN (x m : GG) (N : Nat) : Prop := N ≤ 24 ∧ x.1 6 6 = nI N ∧ m.1 0 2 = nI N ∧ x.1 7 0 = 24 ∧
  (∀ i, i < N → rW (x.1 9 i) (fun k => x.1 8 (12 * i + k)) (m.1 5 i) (fun k => m.1 4 (12 * i + k)) ∧ x.1 10 i = m.1 6 i ∧ x.1 11 i = m.1 7 i ∧ x.1 12 i = m.1 8 i ∧ x.1 13 i = m.1 9 i ∧
    (0 ≤ m.1 6 i ∧ m.1 6 i ≤ 7) ∧ (0 ≤ m.1 7 i ∧ m.1 7 i ≤ m.1 8 i ∧ m.1 8 i ≤ 199) ∧ (1 ≤ m.1 9 i ∧ m.1 9 i ≤ 100)) ∧
  (∀ i j, i < N → j < N → i ≠ j → ik_cn (m.1 5) (m.1 4) i j ≠ 0) ∧
  ∀ i, i < N → ∃ b : Nat, b < 2 ^ 24 ∧ x.1 14 i = nI b ∧ ∀ j, b.testBit j = decide (j < N ∧ ik_cn (m.1 5) (m.1 4) j i < 0)
/-- bars -/
def rB (x m : GG) (B : Nat) : Prop := B ≤ 4 ∧ x.1 15 9 = nI B ∧ m.1 0 3 = nI B ∧ ∀ k, k < B → x.1 16 k = m.1 10 k ∧ x.1 17 k = m.1 11 k ∧ x.1 18 k = m.1 12 k ∧ (1 ≤ m.1 10 k ∧ m.1 10 k ≤ 3000) ∧ (-1 ≤ m.1 11 k ∧ m.1 11 k ≤ 199) ∧ (0 ≤ m.1 12 k ∧ m.1 12 k ≤ 255)
/-- ties -/
def rTi (x m : GG) (B : Nat) : Prop := ∃ n : Nat, n ≤ 20 ∧ x.1 15 10 = nI n ∧ m.1 0 6 = nI n ∧ ∀ t, t < n → x.1 19 t = m.1 35 t ∧ x.1 20 t = m.1 36 t ∧ x.1 21 t = m.1 37 t ∧ (0 ≤ m.1 35 t ∧ m.1 35 t ≤ 2) ∧ (∃ a, a < B ∧ m.1 36 t = nI a) ∧ (∃ b, b < B ∧ m.1 37 t = nI b) ∧ m.1 36 t ≠ m.1 37 t
/-- a name or none -/
def rO (v : Int32) (N : Nat) : Prop := v = -1 ∨ ∃ a, a < N ∧ v = nI a
/-- listed ones -/
def rLi (x m : GG) (N B : Nat) : Prop := ∃ n : Nat, n ≤ 20 ∧ x.1 15 11 = nI n ∧ m.1 0 7 = nI n ∧ ∀ t, t < n → x.1 22 t = m.1 38 t ∧ x.1 23 t = m.1 39 t ∧ x.1 24 t = m.1 40 t ∧ (∃ a, a < B ∧ m.1 38 t = nI a) ∧ rO (m.1 39 t) N ∧ rO (m.1 40 t) N
/-- lifted ones, and the house -/
def rH (x m : GG) (N : Nat) : Prop := (∃ n : Nat, n ≤ 60 ∧ x.1 39 3 = nI n ∧ m.1 0 8 = nI n ∧ ∀ t, t < n → x.1 40 t = m.1 41 t ∧ x.1 41 t = m.1 42 t ∧ x.1 42 t = m.1 43 t ∧ (∃ a, a < 4 ∧ m.1 41 t = nI a) ∧ (∃ a, a < N ∧ m.1 42 t = nI a) ∧ (1 ≤ m.1 43 t ∧ m.1 43 t ≤ 3000)) ∧ ∃ h : Nat, h < 4 ∧ x.1 0 12 = nI h ∧ m.1 0 11 = nI h
/-- copies -/
def rC (x m : GG) (S : Nat) : Prop := ∃ n : Nat, n ≤ 8 ∧ x.1 43 4 = nI n ∧ m.1 0 9 = nI n ∧ ∀ t, t < n → x.1 44 t = m.1 47 t ∧ x.1 45 t = m.1 48 t ∧ x.1 46 t = m.1 49 t ∧ x.1 47 t = m.1 50 t ∧ (∃ a, a < S ∧ m.1 47 t = nI a) ∧ (∃ d, d < 10000 ∧ m.1 48 t = nI d) ∧ (∃ h, h < 4 ∧ m.1 49 t = nI h) ∧ ∃ c, c < 2 ^ 24 ∧ m.1 50 t = nI c
/-- how many of the first n are not 0 -/
def ik_nz (f : Nat → Int32) : Nat → Nat
  | 0 => 0
  | n + 1 => ik_nz f n + if f n ≠ 0 then 1 else 0
/-- notes -/
def rNo (x m : GG) (S : Nat) : Prop := (∀ s, s < S → x.1 34 s = m.1 51 s ∧ 0 ≤ m.1 51 s ∧ m.1 51 s ≤ 40) ∧ (∀ s, S ≤ s → s < 6 → m.1 51 s = 0) ∧ (∀ s t, s < t → t < S → m.1 51 s ≠ 0 → m.1 51 t ≠ 0 → m.1 51 s < m.1 51 t) ∧ m.1 0 10 = nI (ik_nz (m.1 51) S)
/-- a token of a sheet: a bar, or a word -/
def rK (xb xl : Int32) (xs : Nat → Int32) (mb mf mt : Int32) (mx : Nat → Int32) (B : Nat) : Prop :=
  (∃ k, k < B ∧ xb = nI k ∧ mb = nI k ∧ xl = 0) ∨ (xb = -1 ∧ mb = 4 ∧ ∃ f n : Nat, 1 ≤ n ∧ n ≤ 12 ∧ f + n ≤ 160 ∧ mf = nI f ∧ mt = nI (f + n) ∧ xl = nI n ∧ ∀ k, k < n → ∃ c : Nat, 1 ≤ c ∧ c ≤ 26 ∧ xs k = nI c ∧ mx (f + k) = nI (c + 96))
/-- token q of the sheets (24 a sheet) is the word a (n = 1), an (n = 2) -/
def ik_art (xl xs : Nat → Int32) (q n : Nat) : Prop := xl q = nI n ∧ xs (12 * q) = 1 ∧ (n = 2 → xs (12 * q + 1) = 14)
/-- sheets -/
def rS (x m : GG) (S B : Nat) : Prop := S ≤ 6 ∧ x.1 25 7 = nI S ∧ m.1 0 4 = nI S ∧ x.1 26 0 = 144 ∧
  (∀ s, s < S → x.1 32 s = m.1 13 s ∧ (50 ≤ m.1 13 s ∧ m.1 13 s ≤ 5000) ∧ ∃ n : Nat, 1 ≤ n ∧ n ≤ 24 ∧ x.1 33 s = nI n ∧ m.1 14 s = nI n ∧ m.1 19 (24 * s) = 0 ∧
    ∀ t, t < n → rK (x.1 29 (24 * s + t)) (x.1 28 (24 * s + t)) (fun k => x.1 27 (12 * (24 * s + t) + k)) (m.1 16 (24 * s + t)) (m.1 17 (24 * s + t)) (m.1 18 (24 * s + t)) (fun k => m.1 15 (160 * s + k)) B ∧
      (m.1 19 (24 * s + t) = 0 ∨ m.1 19 (24 * s + t) = 1) ∧ x.1 30 (24 * s + t) = if t = 0 then 1 else m.1 19 (24 * s + t)) ∧
  ∃ a b : Nat, a < 16 ∧ b < 16 ∧ x.1 25 9 = nI a ∧ x.1 25 10 = nI b ∧
    (∀ k, a.testBit k = true ↔ ∃ s t, s < S ∧ t < 24 ∧ nI (t + 1) < x.1 33 s ∧ x.1 29 (24 * s + t + 1) = nI k ∧ k < 4 ∧ ik_art (x.1 28) (x.1 27) (24 * s + t) 1) ∧
    ∀ k, b.testBit k = true ↔ ∃ s t, s < S ∧ t < 24 ∧ nI (t + 1) < x.1 33 s ∧ x.1 29 (24 * s + t + 1) = nI k ∧ k < 4 ∧ ik_art (x.1 28) (x.1 27) (24 * s + t) 2
/-! what a part of the relation looks at: a state with all else blotted out -/
def ik_cut (k1 k2 : Nat → Nat → Bool) (g : GG) : GG := (fun a j => if k1 a j = true then g.1 a j else 0, fun a j => if k2 a j = true then g.2 a j else 0)
theorem ik_cut_si {k1 k2 : Nat → Nat → Bool} {g : GG} {a j : Nat} {v : Int32} (h : k1 a j = false) : ik_cut k1 k2 (ik_si g a j v) = ik_cut k1 k2 g := by
  unfold ik_cut ik_si
  refine Prod.ext ?_ rfl
  funext b i
  by_cases e : b = a ∧ i = j
  · obtain ⟨rfl, rfl⟩ := e
    simp [h]
  · simp [e]
theorem ik_cut_sl {k1 k2 : Nat → Nat → Bool} {g : GG} {a j : Nat} {v : Int64} (h : k2 a j = false) : ik_cut k1 k2 (ik_sl g a j v) = ik_cut k1 k2 g := by
  unfold ik_cut ik_sl
  refine Prod.ext rfl ?_
  funext b i
  by_cases e : b = a ∧ i = j
  · obtain ⟨rfl, rfl⟩ := e
    simp [h]
  · simp [e]
/-- the rules, as both keep them -/
def kRx (a j : Nat) : Bool := a == 36 || (a == 35 && (j == 3 || j == 4))
def kRm (a j : Nat) : Bool := (22 ≤ a && a ≤ 26) || (a == 0 && j == 5)
def k0 (_ _ : Nat) : Bool := false
/-- what stands ready for the searches in the class; what it was made of, in the reference -/
def kPx (a j : Nat) : Bool := a == 63 || a == 57 || a == 58 || a == 56 || (50 ≤ a && a ≤ 53) || (a == 48 && (j == 9 || j == 10)) || (a == 49 && j == 5) || (a == 0 && j == 14)
def kPl (a j : Nat) : Bool := (a == 62 && decide (j < 96)) || (a == 48 && j == 13)
def kPm (a j : Nat) : Bool := (2 ≤ a && a ≤ 19) || (22 ≤ a && a ≤ 26) || (35 ≤ a && a ≤ 43) || (a == 0 && ((2 ≤ j && j ≤ 8) || j == 11))
/-- of the names and sheets only those that stand: a row behind them may be written by a call that is refused -/
def kPd (m : GG) (a j : Nat) : Bool := kPm a j && (a != 4 || decide (j < 12 * (m.1 0 2).toInt.toNat)) && (a != 5 || decide (j < (m.1 0 2).toInt.toNat)) && (!(decide (16 ≤ a) && decide (a ≤ 19)) || decide (j < 24 * (m.1 0 4).toInt.toNat))
theorem kPd_cut {m m' : GG} (hN : m'.1 0 2 = m.1 0 2) (hS : m'.1 0 4 = m.1 0 4) (h : ∀ a j, kPd m a j = true → m'.1 a j = m.1 a j) : ik_cut (kPd m') k0 m' = ik_cut (kPd m) k0 m := by
  have e : kPd m' = kPd m := by
    funext a j
    unfold kPd
    rw [hN, hS]
  rw [e]
  unfold ik_cut
  refine Prod.ext ?_ ?_
  · funext a j
    show (if kPd m a j = true then m'.1 a j else 0) = if kPd m a j = true then m.1 a j else 0
    by_cases c : kPd m a j = true
    · rw [if_pos c, if_pos c, h a j c]
    · rw [if_neg c, if_neg c]
  · funext a j
    simp [k0]
theorem kPm_of {m : GG} {a j : Nat} (h : kPd m a j = true) : kPm a j = true := by
  unfold kPd at h
  simp only [Bool.and_eq_true] at h
  exact h.1.1.1
theorem kPm_at {m m' : GG} (e : ik_cut kPm k0 m' = ik_cut kPm k0 m) {a j : Nat} (h : kPm a j = true) : m'.1 a j = m.1 a j := by
  have := congrFun (congrFun (congrArg Prod.fst e) a) j
  simpa [ik_cut, h] using this
/-- the rules: the text that the class keeps, and the codes that the reference made of it -/
def rR1 (x m : GG) : Prop := ∃ (c : Nat → Nat) (N : Nat) (L : List (Nat × RC)), N ≤ 160 ∧ (∀ k, N ≤ k → c k = 0) ∧ (∀ k, k < N → c k < 256 ∧ x.1 36 k = nI (c k)) ∧ x.1 35 3 = nI N ∧ x.1 35 4 = nI L.length ∧ m.1 0 5 = nI L.length ∧ ((N = 0 ∧ L = []) ∨ (1 ≤ N ∧ sp_all c N 13 0 [] = .inr L)) ∧ L.length ≤ 12 ∧
  (∀ q b ds, L[q]? = some (b, ds) → m.1 22 q = nI b ∧ m.1 23 q = nI (cls (L.take q)).length ∧ m.1 24 q = nI (cls (L.take (q + 1))).length) ∧ ∀ k o, (cls L)[k]? = some o → m.1 25 k = nI o.1 ∧ m.1 26 k = nI o.2
/-- what the searches go by -/
def rD (x m : GG) (N B S : Nat) : Prop := rL (x.1 4) (x.1 5) (m.1 2) (m.1 3) ∧ rN x m N ∧ rB x m B ∧ rTi x m B ∧ rLi x m N B ∧ rH x m N ∧ rS x m S B ∧ rR1 x m
/-- what stands ready is what would be made of it anew -/
def rP1 (x m : GG) : Prop := ∃ (x0 x1 : GG) (N B S : Nat), rD x0 m N B S ∧ fX11_prepare [] (ik_si x0 0 13 0) = some (.null, x1) ∧ (∀ a j, kPx a j = true → ¬ (a = 0 ∧ j = 14) → x.1 a j = x1.1 a j) ∧ (x.1 0 14 = 0 ∨ (x.1 0 14 = 1 ∧ ∃ x2, fX11_weigh [] x1 = some (.null, x2) ∧ ∀ a j, kPl a j = true → x.2 a j = x2.2 a j))
def rR (x m : GG) : Prop := rR1 (ik_cut kRx k0 x) (ik_cut kRm k0 m)
def rQ (x m : GG) : Prop := (x.1 0 13 = 0 ∨ x.1 0 13 = 1) ∧ (x.1 0 13 ≠ 0 → rP1 (ik_cut kPx kPl x) (ik_cut (kPd m) k0 m))
/-- the relation -/
def rA (x m : GG) (N B S : Nat) : Prop := rT (x.1 1 1) (x.1 2) (m.1 0 1) (m.1 1) ∧ rL (x.1 4) (x.1 5) (m.1 2) (m.1 3) ∧ rN x m N ∧ rB x m B ∧ rTi x m B ∧ rLi x m N B ∧ rH x m N ∧ rC x m S ∧ rNo x m S ∧ rS x m S B ∧ rR x m ∧ rQ x m
def Rel (x m : GG) : Prop := ∃ N B S : Nat, rA x m N B S
/-- the frames: states that agree on what a part looks at -/
theorem rN.fr {x m x' m' : GG} {N : Nat} (h : rN x m N) (e1 : x'.1 6 6 = x.1 6 6) (e2 : m'.1 0 2 = m.1 0 2) (e3 : x'.1 7 0 = x.1 7 0) (e4 : x'.1 9 = x.1 9) (e5 : x'.1 8 = x.1 8) (e6 : m'.1 5 = m.1 5) (e7 : m'.1 4 = m.1 4) (e8 : x'.1 10 = x.1 10) (e9 : x'.1 11 = x.1 11) (e10 : x'.1 12 = x.1 12) (e11 : x'.1 13 = x.1 13) (e12 : m'.1 6 = m.1 6) (e13 : m'.1 7 = m.1 7) (e14 : m'.1 8 = m.1 8) (e15 : m'.1 9 = m.1 9) (e16 : x'.1 14 = x.1 14) : rN x' m' N := by
  unfold rN at h ⊢
  rw [e1, e2, e3, e4, e5, e6, e7, e8, e9, e10, e11, e12, e13, e14, e15, e16]
  exact h
theorem rB.fr {x m x' m' : GG} {B : Nat} (h : rB x m B) (e1 : x'.1 15 9 = x.1 15 9) (e2 : m'.1 0 3 = m.1 0 3) (e3 : x'.1 16 = x.1 16) (e4 : x'.1 17 = x.1 17) (e5 : x'.1 18 = x.1 18) (e6 : m'.1 10 = m.1 10) (e7 : m'.1 11 = m.1 11) (e8 : m'.1 12 = m.1 12) : rB x' m' B := by
  unfold rB at h ⊢
  rw [e1, e2, e3, e4, e5, e6, e7, e8]
  exact h
theorem rTi.fr {x m x' m' : GG} {B : Nat} (h : rTi x m B) (e1 : x'.1 15 10 = x.1 15 10) (e2 : m'.1 0 6 = m.1 0 6) (e3 : x'.1 19 = x.1 19) (e4 : x'.1 20 = x.1 20) (e5 : x'.1 21 = x.1 21) (e6 : m'.1 35 = m.1 35) (e7 : m'.1 36 = m.1 36) (e8 : m'.1 37 = m.1 37) : rTi x' m' B := by
  unfold rTi at h ⊢
  rw [e1, e2, e3, e4, e5, e6, e7, e8]
  exact h
theorem rLi.fr {x m x' m' : GG} {N B : Nat} (h : rLi x m N B) (e1 : x'.1 15 11 = x.1 15 11) (e2 : m'.1 0 7 = m.1 0 7) (e3 : x'.1 22 = x.1 22) (e4 : x'.1 23 = x.1 23) (e5 : x'.1 24 = x.1 24) (e6 : m'.1 38 = m.1 38) (e7 : m'.1 39 = m.1 39) (e8 : m'.1 40 = m.1 40) : rLi x' m' N B := by
  unfold rLi at h ⊢
  rw [e1, e2, e3, e4, e5, e6, e7, e8]
  exact h
theorem rH.fr {x m x' m' : GG} {N : Nat} (h : rH x m N) (e1 : x'.1 39 3 = x.1 39 3) (e2 : m'.1 0 8 = m.1 0 8) (e3 : x'.1 40 = x.1 40) (e4 : x'.1 41 = x.1 41) (e5 : x'.1 42 = x.1 42) (e6 : m'.1 41 = m.1 41) (e7 : m'.1 42 = m.1 42) (e8 : m'.1 43 = m.1 43) (e9 : x'.1 0 12 = x.1 0 12) (e10 : m'.1 0 11 = m.1 0 11) : rH x' m' N := by
  unfold rH at h ⊢
  rw [e1, e2, e3, e4, e5, e6, e7, e8, e9, e10]
  exact h
theorem rC.fr {x m x' m' : GG} {S : Nat} (h : rC x m S) (e1 : x'.1 43 4 = x.1 43 4) (e2 : m'.1 0 9 = m.1 0 9) (e3 : x'.1 44 = x.1 44) (e4 : x'.1 45 = x.1 45) (e5 : x'.1 46 = x.1 46) (e6 : x'.1 47 = x.1 47) (e7 : m'.1 47 = m.1 47) (e8 : m'.1 48 = m.1 48) (e9 : m'.1 49 = m.1 49) (e10 : m'.1 50 = m.1 50) : rC x' m' S := by
  unfold rC at h ⊢
  rw [e1, e2, e3, e4, e5, e6, e7, e8, e9, e10]
  exact h
theorem rNo.fr {x m x' m' : GG} {S : Nat} (h : rNo x m S) (e1 : x'.1 34 = x.1 34) (e2 : m'.1 51 = m.1 51) (e3 : m'.1 0 10 = m.1 0 10) : rNo x' m' S := by
  unfold rNo at h ⊢
  rw [e1, e2, e3]
  exact h
theorem rS.fr {x m x' m' : GG} {S B : Nat} (h : rS x m S B) (e1 : x'.1 25 7 = x.1 25 7) (e2 : m'.1 0 4 = m.1 0 4) (e3 : x'.1 26 0 = x.1 26 0) (e4 : x'.1 32 = x.1 32) (e5 : m'.1 13 = m.1 13) (e6 : x'.1 33 = x.1 33) (e7 : m'.1 14 = m.1 14) (e8 : m'.1 19 = m.1 19) (e9 : x'.1 29 = x.1 29) (e10 : x'.1 28 = x.1 28) (e11 : x'.1 27 = x.1 27) (e12 : m'.1 16 = m.1 16) (e13 : m'.1 17 = m.1 17) (e14 : m'.1 18 = m.1 18) (e15 : m'.1 15 = m.1 15) (e16 : x'.1 30 = x.1 30) (e17 : x'.1 25 9 = x.1 25 9) (e18 : x'.1 25 10 = x.1 25 10) : rS x' m' S B := by
  unfold rS at h ⊢
  rw [e1, e2, e3, e4, e5, e6, e7, e8, e9, e10, e11, e12, e13, e14, e15, e16, e17, e18]
  exact h
theorem rR.fr {x m x' m' : GG} (h : rR x m) (e1 : ik_cut kRx k0 x' = ik_cut kRx k0 x) (e2 : ik_cut kRm k0 m' = ik_cut kRm k0 m) : rR x' m' := by
  unfold rR at h ⊢
  rw [e1, e2]
  exact h
theorem rQ.fr2 {x m x' m' : GG} (h : rQ x m) (e0 : x'.1 0 13 = x.1 0 13) (e1 : ik_cut kPx kPl x' = ik_cut kPx kPl x) (e2 : ik_cut (kPd m') k0 m' = ik_cut (kPd m) k0 m) : rQ x' m' := by
  unfold rQ at h ⊢
  rw [e0, e1, e2]
  exact h
theorem rQ.fr {x m x' m' : GG} (h : rQ x m) (e0 : x'.1 0 13 = x.1 0 13) (e1 : ik_cut kPx kPl x' = ik_cut kPx kPl x) (e2 : ik_cut kPm k0 m' = ik_cut kPm k0 m) : rQ x' m' :=
  h.fr2 e0 e1 (kPd_cut (kPm_at e2 (by decide)) (kPm_at e2 (by decide)) (fun a j hk => kPm_at e2 (kPm_of hk)))
theorem rQ.new {x m : GG} (h : x.1 0 13 = 0) : rQ x m := ⟨Or.inl h, fun q => absurd h q⟩
