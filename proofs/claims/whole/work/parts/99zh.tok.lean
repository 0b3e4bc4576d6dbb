/-! sheets: the plain reader, byte by byte -/
def sg_let (c : Nat) : Bool := decide (97 ≤ c) && decide (c ≤ 122)
/-- 0 ahead of a token, 1 in a word, 2 behind a bar; whether a line begins there; how many tokens; where each begins, how many letters it has, whether a line begins with it -/
abbrev TS : Type := Nat × Bool × Nat × (Nat → Nat) × (Nat → Nat) × (Nat → Bool)
def updB (f : Nat → Bool) (k : Nat) (v : Bool) : Nat → Bool := fun q => if q = k then v else f q
theorem updB_at (f : Nat → Bool) (k : Nat) (v : Bool) : updB f k v k = v := if_pos rfl
theorem updB_off {f : Nat → Bool} {k q : Nat} {v : Bool} (h : q ≠ k) : updB f k v q = f q := if_neg h
def ts (B v p st : Nat) (brk : Bool) (n : Nat) (fr ln : Nat → Nat) (bg : Nat → Bool) : Nat ⊕ TS :=
  if st = 0 then
    if (sg_let v || sg_dig v) = true then
      if 24 ≤ n then .inl 4
      else if (sg_dig v && decide (B ≤ v - 48)) = true then .inl 3
      else .inr (if sg_let v = true then 1 else 2, brk, n + 1, updN fr n p, updN ln n (if sg_let v = true then 1 else 0), updB bg n brk)
    else .inl 1
  else if v = 32 ∨ v = 47 then .inr (0, decide (v = 47), n, fr, ln, bg)
  else if st = 1 ∧ sg_let v = true then
    if 12 ≤ ln (n - 1) then .inl 2 else .inr (1, brk, n, fr, updN ln (n - 1) (ln (n - 1) + 1), bg)
  else .inl 1
def trS (B : Nat) (c : Nat → Nat) (p : Nat) : (Nat × Nat) ⊕ TS → (Nat × Nat) ⊕ TS
  | .inl f => .inl f
  | .inr a => match ts B (c p) p a.1 a.2.1 a.2.2.1 a.2.2.2.1 a.2.2.2.2.1 a.2.2.2.2.2 with
    | .inl f => .inl (f, p)
    | .inr a => .inr a
def tr (B : Nat) (c : Nat → Nat) : Nat → (Nat × Nat) ⊕ TS
  | 0 => .inr (0, true, 0, fun _ => 0, fun _ => 0, fun _ => false)
  | p + 1 => trS B c p (tr B c p)
theorem tr_s (B : Nat) (c : Nat → Nat) (p : Nat) : tr B c (p + 1) = trS B c p (tr B c p) := rfl
theorem tr_n {B p st n : Nat} {c : Nat → Nat} {brk : Bool} {fr ln : Nat → Nat} {bg : Nat → Bool} {a : TS} (h : tr B c p = .inr (st, brk, n, fr, ln, bg)) (e : ts B (c p) p st brk n fr ln bg = .inr a) : tr B c (p + 1) = .inr a := by
  rw [tr_s, h]
  unfold trS
  dsimp only
  rw [e]
theorem tr_f {B p st n f : Nat} {c : Nat → Nat} {brk : Bool} {fr ln : Nat → Nat} {bg : Nat → Bool} (h : tr B c p = .inr (st, brk, n, fr, ln, bg)) (e : ts B (c p) p st brk n fr ln bg = .inl f) : ∀ d, tr B c (p + 1 + d) = .inl (f, p)
  | 0 => by
    show tr B c (p + 1) = _
    rw [tr_s, h]
    unfold trS
    dsimp only
    rw [e]
  | d + 1 => by
    rw [show p + 1 + (d + 1) = p + 1 + d + 1 by omega, tr_s, tr_f h e d]
    rfl
/-- what the whole text gives -/
def tEnd (B : Nat) (c : Nat → Nat) (N : Nat) : Nat ⊕ TS := match tr B c N with
  | .inl (f, p) => .inl (1000 * f + p)
  | .inr a => if a.1 = 0 then .inl (1000 + N) else .inr a
theorem tEnd_f {B N p st n f : Nat} {c : Nat → Nat} {brk : Bool} {fr ln : Nat → Nat} {bg : Nat → Bool} (h : tr B c p = .inr (st, brk, n, fr, ln, bg)) (e : ts B (c p) p st brk n fr ln bg = .inl f) (hp : p < N) : tEnd B c N = .inl (1000 * f + p) := by
  have := tr_f h e (N - (p + 1))
  rw [show p + 1 + (N - (p + 1)) = N by omega] at this
  unfold tEnd
  rw [this]
theorem tEnd_0 {B N n : Nat} {c : Nat → Nat} {brk : Bool} {fr ln : Nat → Nat} {bg : Nat → Bool} (h : tr B c N = .inr (0, brk, n, fr, ln, bg)) : tEnd B c N = .inl (1000 + N) := by
  unfold tEnd
  rw [h]
  rfl
theorem tEnd_y {B N st n : Nat} {c : Nat → Nat} {brk : Bool} {fr ln : Nat → Nat} {bg : Nat → Bool} (h : tr B c N = .inr (st, brk, n, fr, ln, bg)) (hs : st ≠ 0) : tEnd B c N = .inr (st, brk, n, fr, ln, bg) := by
  unfold tEnd
  rw [h]
  exact if_neg hs
/-- a token that was read -/
def tkG (B : Nat) (c : Nat → Nat) (p f l : Nat) : Prop := (sg_dig (c f) = true ∧ c f - 48 < B ∧ l = 0 ∧ f < p) ∨ (sg_dig (c f) = false ∧ 1 ≤ l ∧ l ≤ 12 ∧ f + l ≤ p ∧ ∀ j, j < l → sg_let (c (f + j)) = true)
theorem tkG.mono {B p p' f l : Nat} {c : Nat → Nat} (h : tkG B c p f l) (hp : p ≤ p') : tkG B c p' f l := by
  rcases h with ⟨h1, h2, h3, h4⟩ | ⟨h1, h2, h3, h4, h5⟩
  · exact Or.inl ⟨h1, h2, h3, by omega⟩
  · exact Or.inr ⟨h1, h2, h3, by omega, h5⟩
def TI (B : Nat) (c : Nat → Nat) (p st : Nat) (brk : Bool) (n : Nat) (fr ln : Nat → Nat) (bg : Nat → Bool) : Prop := n ≤ 24 ∧ st ≤ 2 ∧ (st ≠ 0 → 1 ≤ n) ∧ (n = 0 → brk = true) ∧ (1 ≤ n → bg 0 = true) ∧ (∀ t, t < n → tkG B c p (fr t) (ln t)) ∧ (st = 1 → sg_dig (c (fr (n - 1))) = false ∧ fr (n - 1) + ln (n - 1) = p) ∧ (st = 2 → sg_dig (c (fr (n - 1))) = true ∧ fr (n - 1) + 1 = p)
theorem let_dig {v : Nat} (h : sg_let v = true) : sg_dig v = false := by
  unfold sg_let at h
  unfold sg_dig
  simp only [Bool.and_eq_true, decide_eq_true_eq] at h
  rw [decide_eq_false (show ¬ v ≤ 57 by omega), Bool.and_false]
theorem tr_TI {B : Nat} {c : Nat → Nat} : ∀ {p st n : Nat} {brk : Bool} {fr ln : Nat → Nat} {bg : Nat → Bool}, tr B c p = .inr (st, brk, n, fr, ln, bg) → TI B c p st brk n fr ln bg
  | 0, st, n, brk, fr, ln, bg, h => by
    have h' : (Sum.inr (0, true, 0, fun _ => 0, fun _ => 0, fun _ => false) : (Nat × Nat) ⊕ TS) = .inr (st, brk, n, fr, ln, bg) := h
    simp only [Sum.inr.injEq, Prod.mk.injEq] at h'
    obtain ⟨rfl, rfl, rfl, rfl, rfl, rfl⟩ := h'
    exact ⟨by omega, by omega, fun z => absurd rfl z, fun _ => rfl, fun z => by omega, fun t ht => by omega, fun z => by omega, fun z => by omega⟩
  | p + 1, st', n', brk', fr', ln', bg', h => by
    have h' := h
    rw [tr_s] at h'
    unfold trS at h'
    cases e : tr B c p with
    | inl f => rw [e] at h'; cases h'
    | inr a =>
      obtain ⟨st, brk, n, fr, ln, bg⟩ := a
      have ih := tr_TI e
      rw [e] at h'
      dsimp only at h'
      cases e2 : ts B (c p) p st brk n fr ln bg with
      | inl f => rw [e2] at h'; cases h'
      | inr a =>
        rw [e2] at h'
        dsimp only at h'
        simp only [Sum.inr.injEq] at h'
        subst h'
        obtain ⟨i1, i2, i3, i4, i5, i6, i7, i8⟩ := ih
        unfold ts at e2
        by_cases s0 : st = 0
        · rw [if_pos s0] at e2
          by_cases c1 : (sg_let (c p) || sg_dig (c p)) = true
          · rw [if_pos c1] at e2
            by_cases c2 : 24 ≤ n
            · rw [if_pos c2] at e2; cases e2
            · rw [if_neg c2] at e2
              by_cases c3 : (sg_dig (c p) && decide (B ≤ c p - 48)) = true
              · rw [if_pos c3] at e2; cases e2
              · rw [if_neg c3] at e2
                simp only [Sum.inr.injEq, Prod.mk.injEq] at e2
                obtain ⟨rfl, rfl, rfl, rfl, rfl, rfl⟩ := e2
                have new : tkG B c (p + 1) p (if sg_let (c p) = true then 1 else 0) := by
                  by_cases d : sg_let (c p) = true
                  · rw [if_pos d]
                    exact Or.inr ⟨let_dig d, by omega, by omega, by omega, fun j hj => by rw [show p + j = p by omega]; exact d⟩
                  · rw [if_neg d]
                    have dg : sg_dig (c p) = true := by
                      cases q : sg_dig (c p) with
                      | true => rfl
                      | false => rw [q, Bool.or_false] at c1; exact absurd c1 d
                    refine Or.inl ⟨dg, ?_, rfl, by omega⟩
                    rw [dg, Bool.true_and, decide_eq_true_iff] at c3
                    omega
                refine ⟨by omega, by split <;> omega, fun _ => by omega, fun z => by omega, fun _ => ?_, fun t ht => ?_, fun z => ?_, fun z => ?_⟩
                · by_cases n0 : n = 0
                  · subst n0
                    rw [updB_at]; exact i4 rfl
                  · rw [updB_off (fun q => n0 q.symm)]; exact i5 (by omega)
                · by_cases et : t = n
                  · subst et
                    rw [updN_at, updN_at]; exact new
                  · rw [updN_off et, updN_off et]; exact (i6 t (by omega)).mono (by omega)
                · rw [show n + 1 - 1 = n by omega, updN_at, updN_at]
                  by_cases d : sg_let (c p) = true
                  · rw [if_pos d]; exact ⟨let_dig d, rfl⟩
                  · rw [if_neg d] at z; omega
                · rw [show n + 1 - 1 = n by omega, updN_at]
                  by_cases d : sg_let (c p) = true
                  · rw [if_pos d] at z; omega
                  · refine ⟨?_, rfl⟩
                    cases q : sg_dig (c p) with
                    | true => rfl
                    | false => rw [q, Bool.or_false] at c1; exact absurd c1 d
          · rw [if_neg c1] at e2; cases e2
        · rw [if_neg s0] at e2
          have n1 := i3 s0
          by_cases c1 : c p = 32 ∨ c p = 47
          · rw [if_pos c1] at e2
            simp only [Sum.inr.injEq, Prod.mk.injEq] at e2
            obtain ⟨rfl, rfl, rfl, rfl, rfl, rfl⟩ := e2
            exact ⟨i1, by omega, fun z => absurd rfl z, fun z => by omega, i5, fun t ht => (i6 t ht).mono (by omega), fun z => by omega, fun z => by omega⟩
          · rw [if_neg c1] at e2
            by_cases c2 : st = 1 ∧ sg_let (c p) = true
            · rw [if_pos c2] at e2
              by_cases c3 : 12 ≤ ln (n - 1)
              · rw [if_pos c3] at e2; cases e2
              · rw [if_neg c3] at e2
                simp only [Sum.inr.injEq, Prod.mk.injEq] at e2
                obtain ⟨rfl, rfl, rfl, rfl, rfl, rfl⟩ := e2
                obtain ⟨j1, j2⟩ := i7 c2.1
                refine ⟨i1, by omega, fun _ => n1, i4, i5, fun t ht => ?_, fun _ => ⟨j1, by rw [updN_at]; omega⟩, fun z => by omega⟩
                by_cases et : t = n - 1
                · subst et
                  rw [updN_at]
                  rcases i6 (n - 1) (by omega) with ⟨k1, -⟩ | ⟨k1, k2, k3, k4, k5⟩
                  · rw [k1] at j1; cases j1
                  · refine Or.inr ⟨k1, by omega, by omega, by omega, fun j hj => ?_⟩
                    by_cases ej : j = ln (n - 1)
                    · subst ej
                      rw [j2]; exact c2.2
                    · exact k5 j (by omega)
                · rw [updN_off et]; exact (i6 t ht).mono (by omega)
            · rw [if_neg c2] at e2; cases e2
