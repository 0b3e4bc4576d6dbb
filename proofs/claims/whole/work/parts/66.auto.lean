/-! which stacks the machine can have: where a piece is due, where a factor is -/
def wP : List Nat → Prop
  | [] => False
  | v :: r => (v = 40 ∧ (r = [] ∨ wP r)) ∨ (v = 33 ∧ wP r) ∨ ((v = 38 ∨ v = 124) ∧ wP r ∧ top1 r ≠ 33)
def wFa : List Nat → Prop
  | [] => False
  | v :: r => (sg_tp v = true ∧ wFa r) ∨ (sg_cmp v = true ∧ wP r) ∨ (v = 91 ∧ wFa r) ∨ wP (v :: r)
def wfA (S : AS) : Prop := match S with
  | (0, _, st, _) => wP st
  | (1, _, st, _) => wFa st
  | (2, _, st, _) => wFa st
  | (3, _, st, _) => wP st ∧ top1 st ≠ 33
  | _ => True
theorem wP.F {st : List Nat} (h : wP st) : wFa st := by
  cases st with
  | nil => exact h
  | cons v r => exact Or.inr (Or.inr (Or.inr h))
theorem wP.top {st : List Nat} (h : wP st) : sg_pc (top1 st) := by
  cases st with
  | nil => exact h.elim
  | cons v r =>
    rcases h with ⟨e, -⟩ | ⟨e, -⟩ | ⟨e | e, -⟩
    · exact Or.inl e
    · exact Or.inr (Or.inl e)
    · exact Or.inr (Or.inr (Or.inl e))
    · exact Or.inr (Or.inr (Or.inr e))
theorem wP.popE : ∀ {st : List Nat} {cs : RC}, wP st → wP (popE st cs).1 ∧ top1 (popE st cs).1 ≠ 33
  | [], _, h => h.elim
  | v :: r, cs, h => by
    by_cases e : v = 33
    · subst e
      rw [popE_push]
      refine wP.popE ?_
      rcases h with ⟨e, -⟩ | ⟨-, h⟩ | ⟨e | e, -⟩
      · omega
      · exact h
      · omega
      · omega
    · rw [popE_end (show top1 (v :: r) ≠ 33 from e)]
      exact ⟨h, e⟩
theorem wP.popW {f : Nat → Bool} (hf : ∀ v, f v = true → v = 38 ∨ v = 124) : ∀ {st : List Nat} {cs : RC}, wP st → top1 st ≠ 33 → wP (popW f st cs).1 ∧ top1 (popW f st cs).1 ≠ 33 ∧ f (top1 (popW f st cs).1) = false
  | [], _, h, _ => h.elim
  | v :: r, cs, h, ht => by
    by_cases e : f v = true
    · rw [popW_push e]
      have hv := hf v e
      rcases h with ⟨e1, -⟩ | ⟨e1, -⟩ | ⟨-, h1, h2⟩
      · omega
      · omega
      · exact wP.popW hf h1 h2
    · have e' : f (top1 (v :: r)) = false := by simpa [top1] using e
      rw [popW_end e']
      exact ⟨h, ht, e'⟩
theorem wFa.popW {f : Nat → Bool} (hf : ∀ v, f v = true → sg_tp v = true) : ∀ {st : List Nat} {cs : RC}, wFa st → wFa (popW f st cs).1 ∧ f (top1 (popW f st cs).1) = false
  | [], _, h => h.elim
  | v :: r, cs, h => by
    by_cases e : f v = true
    · rw [popW_push e]
      have hv := hf v e
      have : wFa r := by
        rcases h with ⟨-, h⟩ | ⟨h1, -⟩ | ⟨h1, -⟩ | h
        · exact h
        · simp only [sg_cmp, Bool.or_eq_true, beq_iff_eq, or_assoc] at h1
          rcases h1 with q | q | q <;> subst q <;> exact absurd hv (by decide)
        · subst h1; exact absurd hv (by decide)
        · have := (sg_pc_of (wP.top h)).1
          have h2 : sg_tp v = false := this
          rw [h2] at hv; cases hv
      exact wFa.popW hf this
    · have e' : f (top1 (v :: r)) = false := by simpa [top1] using e
      rw [popW_end e']
      exact ⟨h, e'⟩
/-- behind the products and sums: a bracket, a sign, or where a piece is due -/
theorem wFa.top {st : List Nat} (h : wFa st) (ht : sg_tp (top1 st) = false) : (top1 st = 91 ∧ wFa st.tail) ∨ (sg_cmp (top1 st) = true ∧ wP st.tail) ∨ wP st := by
  cases st with
  | nil => exact h.elim
  | cons v r =>
    rcases h with ⟨h1, -⟩ | ⟨h1, h2⟩ | ⟨h1, h2⟩ | h
    · have h3 : sg_tp v = false := ht
      rw [h3] at h1; cases h1
    · exact Or.inr (Or.inl ⟨h1, h2⟩)
    · exact Or.inl ⟨h1, h2⟩
    · exact Or.inr (Or.inr h)
def fin4 (R : (Nat × Nat) ⊕ AS) : Prop := match R with
  | .inl _ => True
  | .inr S => S.1 = 4
/-- it comes to this end, from a stack that can be -/
def FT (c : Nat → Nat) (S : AS) (R : (Nat × Nat) ⊕ AS) : Prop := RT c S R ∧ fin4 R ∧ wfA S
theorem FT.next {c : Nat → Nat} {S : AS} {R : (Nat × Nat) ⊕ AS} (h : FT c S R) (h4 : S.1 ≠ 4) : (∀ e, auto c S = .inl e → R = .inl e) ∧ ∀ S', auto c S = .inr S' → wfA S' → FT c S' R := by
  obtain ⟨⟨k, hk⟩, hf, hw⟩ := h
  cases k with
  | zero =>
    have e : R = .inr S := hk.symm
    rw [e] at hf
    exact absurd hf h4
  | succ k =>
    have hk' : (match auto c S with | .inl e => Sum.inl e | .inr S' => aut c k S') = R := hk
    constructor
    · intro e he
      rw [he] at hk'
      exact hk'.symm
    · intro S' hS' hw'
      rw [hS'] at hk'
      exact ⟨⟨k, hk'⟩, hf, hw'⟩
theorem opn_le : ∀ st : List Nat, opn st ≤ st.length
  | [] => Nat.le_refl 0
  | v :: r => by
    have := opn_le r
    show opn r + _ ≤ r.length + 1
    split <;> omega
theorem opn_no {v : Nat} {r : List Nat} (h : sg_open v = false) : opn (v :: r) = opn r := by
  show opn r + _ = _
  rw [if_neg (by rw [h]; simp)]
  rfl
theorem opn_yes {v : Nat} {r : List Nat} (h : sg_open v = true) : opn (v :: r) = opn r + 1 := by
  show opn r + _ = _
  rw [if_pos h]
theorem opn_popW {f : Nat → Bool} (hf : ∀ v, f v = true → sg_open v = false) : ∀ (st : List Nat) (cs : RC), opn (popW f st cs).1 = opn st
  | [], _ => rfl
  | v :: r, cs => by
    by_cases e : f v = true
    · rw [popW_push e, opn_popW hf r, opn_no (hf v e)]
    · rw [popW_end (show f (top1 (v :: r)) = false by simpa [top1] using e)]
theorem len_popW (f : Nat → Bool) : ∀ (st : List Nat) (cs : RC), (popW f st cs).1.length + (popW f st cs).2.length = st.length + cs.length
  | [], cs => rfl
  | v :: r, cs => by
    by_cases e : f v = true
    · rw [popW_push e, len_popW f r]
      simp; omega
    · rw [popW_end (show f (top1 (v :: r)) = false by simpa [top1] using e)]
theorem len_popE : ∀ (st : List Nat) (cs : RC), (popE st cs).1.length + (popE st cs).2.length = st.length + cs.length
  | [], cs => rfl
  | v :: r, cs => by
    by_cases e : v = 33
    · subst e
      rw [popE_push, len_popE r]
      simp; omega
    · rw [popE_end (show top1 (v :: r) ≠ 33 from e)]
theorem tp_open : ∀ v, sg_tp v = true → sg_open v = false := by
  intro v h
  simp only [sg_tp, sg_times, sg_plus, Bool.or_eq_true, beq_iff_eq] at h
  rcases h with (((e | e) | e) | e | e) <;> subst e <;> decide
theorem ao_open : ∀ v, sg_ao v = true → sg_open v = false := by
  intro v h
  simp only [sg_ao, sg_and, sg_or, Bool.or_eq_true, beq_iff_eq] at h
  rcases h with e | e <;> subst e <;> decide
theorem times_tp : ∀ v, sg_times v = true → sg_tp v = true := fun v h => by unfold sg_tp; rw [h]; rfl
theorem and_ao : ∀ v, sg_and v = true → sg_ao v = true := fun v h => by unfold sg_ao; rw [h]; rfl
theorem ao_of : ∀ v, sg_ao v = true → v = 38 ∨ v = 124 := by
  intro v h
  simpa only [sg_ao, sg_and, sg_or, Bool.or_eq_true, beq_iff_eq] using h
