/-! what is known of the plain reader -/
/-- what is known of each answer: a fault lies behind the place and not behind the end; else some was read, with no ; in it, and no more codes than bytes -/
def sh_ok (o : Nat × Nat) : Prop := (o.1 = 0 ∧ o.2 < 100000) ∨ (o.1 = 1 ∧ sg_fact o.2 = true) ∨ (o.1 = 2) ∨ (sg_times o.1 = true ∨ sg_plus o.1 = true ∨ sg_cmp o.1 = true ∨ sg_and o.1 = true ∨ sg_or o.1 = true)
def sp_ok1 (c : Nat → Nat) (N p : Nat) (R : RR) : Prop := match R with
  | .inl (e, q) => 1 ≤ e ∧ e ≤ 5 ∧ p ≤ q ∧ q ≤ N
  | .inr (q, cs) => p < q ∧ q ≤ N ∧ cs.length ≤ q - p ∧ (∀ r, p ≤ r → r < q → c r ≠ 59) ∧ ∀ o ∈ cs, sh_ok o
def sp_ok (c : Nat → Nat) (N : Nat) (F : Nat → RR) : Prop := ∀ p, p ≤ N → sp_ok1 c N p (F p)
theorem sg_num {o : Nat → Bool} (h : o = sg_dig ∨ o = sg_fact ∨ o = sg_times ∨ o = sg_plus ∨ o = sg_cmp ∨ o = sg_and ∨ o = sg_or) {c : Nat} (hc : o c = true) : c ≠ 0 ∧ c ≠ 59 := by
  rcases h with rfl | rfl | rfl | rfl | rfl | rfl | rfl
  all_goals
    simp only [sg_dig, sg_fact, sg_times, sg_plus, sg_cmp, sg_and, sg_or, Bool.or_eq_true, Bool.and_eq_true, beq_iff_eq, decide_eq_true_eq] at hc
    omega
theorem sp_end {c : Nat → Nat} {N p : Nat} (hz : ∀ k, N ≤ k → c k = 0) (h : c p ≠ 0) : p < N := by
  by_cases e : p < N
  · exact e
  · exact absurd (hz p (by omega)) h
theorem sp_num_ok {c : Nat → Nat} {N : Nat} (hz : ∀ k, N ≤ k → c k = 0) : ∀ (f p v p0 : Nat), p0 ≤ p → p0 + 5 = p + f → p ≤ N → v < 10 ^ (p - p0) → (∀ r, p0 ≤ r → r < p → c r ≠ 59) → (p0 < p ∨ sg_dig (c p) = true) → sp_ok1 c N p0 (sp_num c f p v)
  | 0, p, v, p0, h0, h1, h2, h3, h4, h5 => by
    unfold sp_num
    by_cases d : sg_dig (c p) = true
    · rw [if_pos d]
      exact ⟨by omega, by omega, by omega, h2⟩
    · rw [if_neg d]
      have : p - p0 = 5 := by omega
      rw [this] at h3
      refine ⟨by omega, h2, by simp; omega, h4, fun o ho => ?_⟩
      simp at ho
      subst ho
      exact Or.inl ⟨rfl, h3⟩
  | f + 1, p, v, p0, h0, h1, h2, h3, h4, h5 => by
    unfold sp_num
    by_cases d : sg_dig (c p) = true
    · rw [if_pos d]
      have hp := sp_end hz (sg_num (Or.inl rfl) d).1
      refine sp_num_ok hz f (p + 1) _ p0 (by omega) (by omega) (by omega) ?_ (fun r h6 h7 => ?_) (Or.inl (by omega))
      · have e : p + 1 - p0 = (p - p0) + 1 := by omega
        rw [e, Nat.pow_succ]
        simp only [sg_dig, Bool.and_eq_true, decide_eq_true_eq] at d
        omega
      · by_cases e : r = p
        · rw [e]; exact (sg_num (Or.inl rfl) d).2
        · exact h4 r h6 (by omega)
    · rw [if_neg d]
      have hp : p0 < p := by
        rcases h5 with h5 | h5
        · exact h5
        · exact absurd h5 d
      refine ⟨hp, h2, by simp; omega, h4, fun o ho => ?_⟩
      simp at ho
      subst ho
      refine Or.inl ⟨rfl, ?_⟩
      have : 10 ^ (p - p0) ≤ 10 ^ 5 := Nat.pow_le_pow_right (by omega) (by omega)
      show v < 100000
      omega
theorem sp_fac_ok {c : Nat → Nat} {N : Nat} (hz : ∀ k, N ≤ k → c k = 0) {last : Bool} {sum : Nat → RR} (h : last = true ∨ sp_ok c N sum) : sp_ok c N (sp_fac last sum c) := by
  intro p hp
  unfold sp_fac
  by_cases c1 : c p = 91
  · rw [if_pos c1]
    have hlt := sp_end (p := p) hz (by omega)
    by_cases c2 : last = true
    · rw [if_pos c2]
      exact ⟨by omega, by omega, by omega, hp⟩
    · rw [if_neg c2]
      have h1 := (h.resolve_left c2) (p + 1) (by omega)
      revert h1
      rcases sum (p + 1) with ⟨e, q⟩ | ⟨q, cs⟩
      · rintro ⟨a1, a2, a3, a4⟩
        exact ⟨a1, a2, by omega, a4⟩
      · rintro ⟨a1, a2, a3, a4, a5⟩
        show sp_ok1 c N p (if c q = 93 then .inr (q + 1, cs) else .inl (1, q))
        by_cases c3 : c q = 93
        · rw [if_pos c3]
          have := sp_end (p := q) hz (by omega)
          refine ⟨by omega, by omega, by omega, fun r r1 r2 => ?_, a5⟩
          by_cases e : r = p
          · rw [e, c1]; decide
          · by_cases e2 : r = q
            · rw [e2, c3]; decide
            · exact a4 r (by omega) (by omega)
        · rw [if_neg c3]
          exact ⟨by omega, by omega, by omega, a2⟩
  · rw [if_neg c1]
    by_cases c2 : sg_dig (c p) = true
    · rw [if_pos c2]
      exact sp_num_ok hz 5 p 0 p (by omega) (by omega) hp (by simp) (fun r h1 h2 => by omega) (Or.inr c2)
    · rw [if_neg c2]
      by_cases c3 : sg_fact (c p) = true
      · rw [if_pos c3]
        have h0 := sg_num (Or.inr (Or.inl rfl)) c3
        have hlt := sp_end hz h0.1
        refine ⟨by omega, by omega, by simp, fun r r1 r2 => ?_, fun o ho => ?_⟩
        · rw [show r = p by omega]; exact h0.2
        · simp at ho
          subst ho
          exact Or.inr (Or.inl ⟨rfl, c3⟩)
      · rw [if_neg c3]
        exact ⟨by omega, by omega, by omega, hp⟩
theorem sp_loop_ok {c : Nat → Nat} {N : Nat} (hz : ∀ k, N ≤ k → c k = 0) {isop : Nat → Bool} (ho : ∀ k, isop k = true → k ≠ 0 ∧ k ≠ 59 ∧ sh_ok (k, 0)) {sub : Nat → RR} (h : sp_ok c N sub) (p : Nat) : ∀ (f q : Nat) (cs : RC), sp_ok1 c N p (.inr (q, cs)) → sp_ok1 c N p (sp_loop c isop sub f q cs)
  | 0, q, cs, h1 => h1
  | f + 1, q, cs, h1 => by
    unfold sp_loop
    by_cases c1 : isop (c q) = true
    · rw [if_pos c1]
      have h0 := ho _ c1
      have hlt := sp_end hz h0.1
      have h2 := h (q + 1) (by omega)
      obtain ⟨a1, a2, a3, a4, a5⟩ := h1
      revert h2
      rcases sub (q + 1) with ⟨e, q'⟩ | ⟨q', ds⟩
      · rintro ⟨b1, b2, b3, b4⟩
        exact ⟨b1, b2, by omega, b4⟩
      · rintro ⟨b1, b2, b3, b4, b5⟩
        refine sp_loop_ok hz ho h p f q' _ ⟨by omega, b2, ?_, fun r r1 r2 => ?_, fun o ho' => ?_⟩
        · simp only [List.length_append, List.length_cons, List.length_nil]
          omega
        · by_cases e : r < q
          · exact a4 r r1 e
          · by_cases e2 : r = q
            · rw [e2]; exact h0.2.1
            · exact b4 r (by omega) r2
        · simp only [List.mem_append, List.mem_singleton] at ho'
          rcases ho' with (ho' | ho') | ho'
          · exact a5 o ho'
          · exact b5 o ho'
          · rw [ho']; exact h0.2.2
    · rw [if_neg c1]
      exact h1
theorem sp_ops_ok {c : Nat → Nat} {N : Nat} (hz : ∀ k, N ≤ k → c k = 0) {isop : Nat → Bool} (ho : ∀ k, isop k = true → k ≠ 0 ∧ k ≠ 59 ∧ sh_ok (k, 0)) {sub : Nat → RR} (h : sp_ok c N sub) : sp_ok c N (sp_ops c isop sub) := by
  intro p hp
  unfold sp_ops
  have h1 := h p hp
  revert h1
  rcases sub p with ⟨e, q⟩ | ⟨q, cs⟩
  · exact fun h1 => h1
  · exact fun h1 => sp_loop_ok hz ho h p 160 q cs h1
theorem sp_pie_ok {c : Nat → Nat} {N : Nat} (hz : ∀ k, N ≤ k → c k = 0) {last : Bool} {cond piece sum : Nat → RR} (h1 : last = true ∨ (sp_ok c N cond ∧ sp_ok c N piece)) (h2 : sp_ok c N sum) : sp_ok c N (sp_pie last cond piece sum c) := by
  intro p hp
  unfold sp_pie
  by_cases c0 : c p = 33 ∨ c p = 40
  · rw [if_pos c0]
    have hlt := sp_end (p := p) hz (by omega)
    have h59 : c p ≠ 59 := by omega
    unfold sp_nest
    by_cases cl : last = true
    · rw [if_pos cl]
      exact ⟨by omega, by omega, by omega, hp⟩
    · rw [if_neg cl]
      obtain ⟨hc, hpi⟩ := h1.resolve_left cl
      by_cases c1 : c p = 33
      · rw [if_pos c1]
        have h3 := hpi (p + 1) (by omega)
        revert h3
        rcases piece (p + 1) with ⟨e, q⟩ | ⟨q, cs⟩
        · rintro ⟨a1, a2, a3, a4⟩
          exact ⟨a1, a2, by omega, a4⟩
        · rintro ⟨a1, a2, a3, a4, a5⟩
          refine ⟨by omega, a2, ?_, fun r r1 r2 => ?_, fun o ho => ?_⟩
          · simp only [List.length_append, List.length_cons, List.length_nil]
            omega
          · by_cases e : r = p
            · rw [e]; exact h59
            · exact a4 r (by omega) r2
          · simp only [List.mem_append, List.mem_singleton] at ho
            rcases ho with ho | ho
            · exact a5 o ho
            · rw [ho]; exact Or.inr (Or.inr (Or.inl rfl))
      · rw [if_neg c1]
        have h3 := hc (p + 1) (by omega)
        revert h3
        rcases cond (p + 1) with ⟨e, q⟩ | ⟨q, cs⟩
        · rintro ⟨a1, a2, a3, a4⟩
          exact ⟨a1, a2, by omega, a4⟩
        · rintro ⟨a1, a2, a3, a4, a5⟩
          show sp_ok1 c N p (if c q = 41 then .inr (q + 1, cs) else .inl (1, q))
          by_cases c3 : c q = 41
          · rw [if_pos c3]
            have := sp_end (p := q) hz (by omega)
            refine ⟨by omega, by omega, by omega, fun r r1 r2 => ?_, a5⟩
            by_cases e : r = p
            · rw [e]; exact h59
            · by_cases e2 : r = q
              · rw [e2, c3]; decide
              · exact a4 r (by omega) (by omega)
          · rw [if_neg c3]
            exact ⟨by omega, by omega, by omega, a2⟩
  · rw [if_neg c0]
    have h3 := h2 p hp
    revert h3
    rcases sum p with ⟨e, q⟩ | ⟨q, cs⟩
    · exact fun h => h
    · rintro ⟨a1, a2, a3, a4, a5⟩
      show sp_ok1 c N p (if sg_cmp (c q) = true then _ else _)
      by_cases c1 : sg_cmp (c q) = true
      · rw [if_pos c1]
        have h0 := sg_num (o := sg_cmp) (by simp) c1
        have hlt := sp_end hz h0.1
        have h4 := h2 (q + 1) (by omega)
        revert h4
        rcases sum (q + 1) with ⟨e, q'⟩ | ⟨q', ds⟩
        · rintro ⟨b1, b2, b3, b4⟩
          exact ⟨b1, b2, by omega, b4⟩
        · rintro ⟨b1, b2, b3, b4, b5⟩
          refine ⟨by omega, b2, ?_, fun r r1 r2 => ?_, fun o ho' => ?_⟩
          · simp only [List.length_append, List.length_cons, List.length_nil]
            omega
          · by_cases e : r < q
            · exact a4 r r1 e
            · by_cases e2 : r = q
              · rw [e2]; exact h0.2
              · exact b4 r (by omega) r2
          · simp only [List.mem_append, List.mem_singleton] at ho'
            rcases ho' with (ho' | ho') | ho'
            · exact a5 o ho'
            · exact b5 o ho'
            · rw [ho']; exact Or.inr (Or.inr (Or.inr (Or.inr (Or.inr (Or.inl c1)))))
      · rw [if_neg c1]
        exact ⟨by omega, by omega, by omega, a2⟩
theorem sp_times_o : ∀ k, sg_times k = true → k ≠ 0 ∧ k ≠ 59 ∧ sh_ok (k, 0) := fun k h => ⟨(sg_num (o := sg_times) (by simp) h).1, (sg_num (o := sg_times) (by simp) h).2, Or.inr (Or.inr (Or.inr (Or.inl h)))⟩
theorem sp_plus_o : ∀ k, sg_plus k = true → k ≠ 0 ∧ k ≠ 59 ∧ sh_ok (k, 0) := fun k h => ⟨(sg_num (o := sg_plus) (by simp) h).1, (sg_num (o := sg_plus) (by simp) h).2, Or.inr (Or.inr (Or.inr (Or.inr (Or.inl h))))⟩
theorem sp_and_o : ∀ k, sg_and k = true → k ≠ 0 ∧ k ≠ 59 ∧ sh_ok (k, 0) := fun k h => ⟨(sg_num (o := sg_and) (by simp) h).1, (sg_num (o := sg_and) (by simp) h).2, Or.inr (Or.inr (Or.inr (Or.inr (Or.inr (Or.inr (Or.inl h))))))⟩
theorem sp_or_o : ∀ k, sg_or k = true → k ≠ 0 ∧ k ≠ 59 ∧ sh_ok (k, 0) := fun k h => ⟨(sg_num (o := sg_or) (by simp) h).1, (sg_num (o := sg_or) (by simp) h).2, Or.inr (Or.inr (Or.inr (Or.inr (Or.inr (Or.inr (Or.inr h))))))⟩
/-- every level's readers are so -/
theorem sp_lvl_ok {c : Nat → Nat} {N : Nat} (hz : ∀ k, N ≤ k → c k = 0) : ∀ n, sp_ok c N (sp_F n (sp_lvl c n) c) ∧ sp_ok c N (sp_P n (sp_lvl c n) c) ∧ sp_ok c N (sp_S n (sp_lvl c n) c) ∧ sp_ok c N (sp_I n (sp_lvl c n) c) ∧ sp_ok c N (sp_A n (sp_lvl c n) c) ∧ sp_ok c N (sp_C n (sp_lvl c n) c) := by
  have key : ∀ n, ((n == 0) = true ∨ (sp_ok c N (sp_lvl c n).1 ∧ sp_ok c N (sp_lvl c n).2.1 ∧ sp_ok c N (sp_lvl c n).2.2)) → sp_ok c N (sp_F n (sp_lvl c n) c) ∧ sp_ok c N (sp_P n (sp_lvl c n) c) ∧ sp_ok c N (sp_S n (sp_lvl c n) c) ∧ sp_ok c N (sp_I n (sp_lvl c n) c) ∧ sp_ok c N (sp_A n (sp_lvl c n) c) ∧ sp_ok c N (sp_C n (sp_lvl c n) c) := by
    intro n h
    have hF : sp_ok c N (sp_F n (sp_lvl c n) c) := sp_fac_ok hz (h.imp id (fun q => q.2.2))
    have hP : sp_ok c N (sp_P n (sp_lvl c n) c) := sp_ops_ok hz sp_times_o hF
    have hS : sp_ok c N (sp_S n (sp_lvl c n) c) := sp_ops_ok hz sp_plus_o hP
    have hI : sp_ok c N (sp_I n (sp_lvl c n) c) := sp_pie_ok hz (h.imp id (fun q => ⟨q.1, q.2.1⟩)) hS
    have hA : sp_ok c N (sp_A n (sp_lvl c n) c) := sp_ops_ok hz sp_and_o hI
    exact ⟨hF, hP, hS, hI, hA, sp_ops_ok hz sp_or_o hA⟩
  intro n
  induction n with
  | zero => exact key 0 (Or.inl rfl)
  | succ n ih => exact key (n + 1) (Or.inr ⟨ih.2.2.2.2.2, ih.2.2.2.1, ih.2.2.1⟩)
