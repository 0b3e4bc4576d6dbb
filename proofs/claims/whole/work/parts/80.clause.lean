/-! every condition has an answer; the clauses, one behind the other -/
def isEs (val : Nat → Int32) (F : Nat → RR) : Prop := ∀ p q cs, F p = .inr (q, cs) → ∃ E, isE val cs E
theorem sp_num_E (val : Nat → Int32) (c : Nat → Nat) : ∀ (f p v : Nat) q cs, sp_num c f p v = .inr (q, cs) → ∃ E, isE val cs E
  | 0, p, v, q, cs, h => by
    unfold sp_num at h
    split at h
    · cases h
    · cases h; exact ⟨_, isE_num _ _⟩
  | f + 1, p, v, q, cs, h => by
    unfold sp_num at h
    split at h
    · exact sp_num_E val c f _ _ q cs h
    · cases h; exact ⟨_, isE_num _ _⟩
theorem sp_then_inr {r : RR} {k : Nat → RC → RR} {q : Nat} {cs : RC} (h : sp_then r k = .inr (q, cs)) : ∃ q1 ds, r = .inr (q1, ds) ∧ k q1 ds = .inr (q, cs) := by
  rcases r with e | ⟨q1, ds⟩
  · cases h
  · exact ⟨q1, ds, rfl, h⟩
theorem sp_fac_E {val : Nat → Int32} {c : Nat → Nat} {last : Bool} {sum : Nat → RR} (h : last = true ∨ isEs val sum) : isEs val (sp_fac last sum c) := by
  intro p q cs e
  unfold sp_fac at e
  split at e
  · split at e
    · cases e
    · rename_i hl
      obtain ⟨q1, ds, e1, e2⟩ := sp_then_inr e
      split at e2
      · cases e2
        exact (h.resolve_left hl) _ _ _ e1
      · cases e2
  · split at e
    · exact sp_num_E val c _ _ _ _ _ e
    · split at e
      · cases e; exact ⟨_, isE_let _ _⟩
      · cases e
theorem sp_loop_E {val : Nat → Int32} {c : Nat → Nat} {isop : Nat → Bool} (ho : ∀ k, isop k = true → 2 < k) {sub : Nat → RR} (h : isEs val sub) : ∀ (f q : Nat) (cs : RC), (∃ E, isE val cs E) → ∀ q' ds, sp_loop c isop sub f q cs = .inr (q', ds) → ∃ E, isE val ds E
  | 0, q, cs, h1, q', ds, e => by cases e; exact h1
  | f + 1, q, cs, h1, q', ds, e => by
    rw [sp_loop_s] at e
    split at e
    · rename_i d
      obtain ⟨q1, d1, e1, e2⟩ := sp_then_inr e
      obtain ⟨E, hE⟩ := h1
      obtain ⟨B, hB⟩ := h _ _ _ e1
      exact sp_loop_E ho h f q1 _ ⟨_, isE_bin hE hB (ho _ d)⟩ q' ds e2
    · cases e; exact h1
theorem sp_ops_E {val : Nat → Int32} {c : Nat → Nat} {isop : Nat → Bool} (ho : ∀ k, isop k = true → 2 < k) {sub : Nat → RR} (h : isEs val sub) : isEs val (sp_ops c isop sub) := by
  intro p q cs e
  obtain ⟨q1, d1, e1, e2⟩ := sp_then_inr e
  exact sp_loop_E ho h 160 q1 d1 (h _ _ _ e1) q cs e2
theorem sp_pie_E {val : Nat → Int32} {c : Nat → Nat} {last : Bool} {cond piece sum : Nat → RR} (h1 : last = true ∨ (isEs val cond ∧ isEs val piece)) (h2 : isEs val sum) : isEs val (sp_pie last cond piece sum c) := by
  intro p q cs e
  unfold sp_pie at e
  split at e
  · unfold sp_nest at e
    split at e
    · cases e
    · rename_i hl
      obtain ⟨hc, hp⟩ := h1.resolve_left hl
      split at e
      · obtain ⟨q1, d1, e1, e2⟩ := sp_then_inr e
        cases e2
        obtain ⟨E, hE⟩ := hp _ _ _ e1
        exact ⟨_, isE_not hE⟩
      · obtain ⟨q1, d1, e1, e2⟩ := sp_then_inr e
        split at e2
        · cases e2
          exact hc _ _ _ e1
        · cases e2
  · obtain ⟨q1, d1, e1, e2⟩ := sp_then_inr e
    split at e2
    · rename_i d
      obtain ⟨q2, d2, e3, e4⟩ := sp_then_inr e2
      cases e4
      obtain ⟨E, hE⟩ := h2 _ _ _ e1
      obtain ⟨B, hB⟩ := h2 _ _ _ e3
      refine ⟨_, isE_bin hE hB ?_⟩
      simp only [sg_cmp, Bool.or_eq_true, beq_iff_eq] at d
      omega
    · cases e2
theorem sp_lvl_E (val : Nat → Int32) (c : Nat → Nat) : ∀ n, isEs val (sp_C n (sp_lvl c n) c) ∧ isEs val (sp_I n (sp_lvl c n) c) ∧ isEs val (sp_S n (sp_lvl c n) c) := by
  have o1 : ∀ k, sg_times k = true → 2 < k := fun k h => by simp only [sg_times, Bool.or_eq_true, beq_iff_eq] at h; omega
  have o2 : ∀ k, sg_plus k = true → 2 < k := fun k h => by simp only [sg_plus, Bool.or_eq_true, beq_iff_eq] at h; omega
  have o3 : ∀ k, sg_and k = true → 2 < k := fun k h => by simp only [sg_and, beq_iff_eq] at h; omega
  have o4 : ∀ k, sg_or k = true → 2 < k := fun k h => by simp only [sg_or, beq_iff_eq] at h; omega
  have key : ∀ n, ((n == 0) = true ∨ (isEs val (sp_lvl c n).1 ∧ isEs val (sp_lvl c n).2.1 ∧ isEs val (sp_lvl c n).2.2)) → isEs val (sp_C n (sp_lvl c n) c) ∧ isEs val (sp_I n (sp_lvl c n) c) ∧ isEs val (sp_S n (sp_lvl c n) c) := by
    intro n h
    have hS : isEs val (sp_S n (sp_lvl c n) c) := sp_ops_E o2 (sp_ops_E o1 (sp_fac_E (h.imp id (fun q => q.2.2))))
    have hI : isEs val (sp_I n (sp_lvl c n) c) := sp_pie_E (h.imp id (fun q => ⟨q.1, q.2.1⟩)) hS
    exact ⟨sp_ops_E o4 (sp_ops_E o3 hI), hI, hS⟩
  intro n
  induction n with
  | zero => exact key 0 (Or.inl rfl)
  | succ n ih => exact key (n + 1) (Or.inr ih)
/-- from this place on these clauses stand -/
def stc (c : Nat → Nat) (N : Nat) : Nat → List (Nat × RC) → Prop
  | p, [] => N ≤ p
  | p, (b, ds) :: r => ∃ q, p < N ∧ c p = b + 48 ∧ b < 4 ∧ c (p + 1) = 40 ∧ sp_C 5 (sp_lvl c 5) c (p + 2) = .inr (q, ds) ∧ c q = 41 ∧ q < N ∧ (∀ t, p ≤ t → t ≤ q → c t ≠ 59) ∧ (∀ o ∈ ds, sh_ok o) ∧ ((r = [] ∧ N = q + 1) ∨ (r ≠ [] ∧ c (q + 1) = 59 ∧ stc c N (q + 2) r))
theorem sp_all_stc {c : Nat → Nat} {N : Nat} (hz : ∀ k, N ≤ k → c k = 0) : ∀ (f p : Nat) (L0 L : List (Nat × RC)), p ≤ N → sp_all c N f p L0 = .inr L → ∃ r, L = L0 ++ r ∧ r ≠ [] ∧ stc c N p r
  | 0, p, L0, L, hp, h => by cases h
  | f + 1, p, L0, L, hp, h => by
    have hall : sp_all c N (f + 1) p L0 = match sp_cl c L0.length p with
      | .inl e => .inl e
      | .inr (q, ds) => if N ≤ q then .inr (L0 ++ [(c p - 48, ds)]) else if c q = 59 then sp_all c N f (q + 1) (L0 ++ [(c p - 48, ds)]) else .inl (1, q) := rfl
    rw [hall] at h
    rcases hcl : sp_cl c L0.length p with e | ⟨q, ds⟩
    · rw [hcl] at h; cases h
    · rw [hcl] at h
      have hcl' := hcl
      unfold sp_cl at hcl'
      split at hcl'
      · cases hcl'
      rename_i d1
      split at hcl'
      · cases hcl'
      split at hcl'
      · cases hcl'
      rename_i d2 d3
      have hd : sg_dig (c p) = true := Classical.not_not.mp d1
      have hd' : 48 ≤ c p ∧ c p ≤ 57 := by simpa [sg_dig] using hd
      have hlt := sp_end hz (sg_num (Or.inl rfl) hd).1
      unfold sp_cl2 at hcl'
      split at hcl'
      · rename_i c40
        have hlt2 : p + 1 < N := sp_end hz (by omega)
        obtain ⟨q1, d1', e1, e2⟩ := sp_then_inr hcl'
        split at e2
        · rename_i c41
          cases e2
          have hlt3 : q1 < N := sp_end hz (by omega)
          have ok := (sp_lvl_ok hz 5).2.2.2.2.2 (p + 1 + 1) (by omega)
          rw [e1] at ok
          obtain ⟨k1, k2, k3, k4, k5⟩ := ok
          have no59 : ∀ t, p ≤ t → t ≤ q1 → c t ≠ 59 := by
            intro t t1 t2
            by_cases e3 : t = p
            · subst e3; omega
            · by_cases e4 : t = p + 1
              · subst e4; omega
              · by_cases e5 : t = q1
                · subst e5; omega
                · exact k4 t (by omega) (by omega)
          have h' : (if N ≤ q1 + 1 then (.inr (L0 ++ [(c p - 48, ds)]) : (Nat × Nat) ⊕ List (Nat × RC)) else if c (q1 + 1) = 59 then sp_all c N f (q1 + 1 + 1) (L0 ++ [(c p - 48, ds)]) else .inl (1, q1 + 1)) = .inr L := h
          by_cases hq : N ≤ q1 + 1
          · rw [if_pos hq] at h'
            cases h'
            exact ⟨_, rfl, by simp, q1, hlt, by omega, by omega, c40, e1, c41, hlt3, no59, k5, Or.inl ⟨rfl, by omega⟩⟩
          · rw [if_neg hq] at h'
            by_cases c59 : c (q1 + 1) = 59
            · rw [if_pos c59] at h'
              obtain ⟨r, g1, g2, g3⟩ := sp_all_stc hz f (q1 + 1 + 1) _ L (by omega) h'
              refine ⟨(c p - 48, ds) :: r, by rw [g1]; simp, by simp, q1, hlt, by omega, by omega, c40, e1, c41, hlt3, no59, k5, Or.inr ⟨g2, c59, g3⟩⟩
            · rw [if_neg c59] at h'
              cases h'
        · cases e2
      · cases hcl'
/-- the answer of a condition; of all clauses of a bar -/
def Ev (val : Nat → Int32) (ds : RC) : Option Int32 := match ev_r val ds [] with
  | some [E] => E
  | _ => none
theorem isE_Ev {val : Nat → Int32} {ds : RC} {E : Option Int32} (h : isE val ds E) : Ev val ds = E := by
  unfold Ev
  rw [h []]
def rlH (val : Nat → Int32) (k : Nat) (L : List (Nat × RC)) : Bool := L.all (fun q => !(q.1 == k) || decide (Ev val q.2 = some 1))
theorem ev_1_congr {val val' : Nat → Int32} (h : ∀ l, sg_fact l = true → val l = val' l) {o : Nat × Nat} (ho : sh_ok o) (st : List (Option Int32)) : ev_1 val o st = ev_1 val' o st := by
  unfold ev_1
  by_cases e : o.1 = 1
  · have : sg_fact o.2 = true := by
      rcases ho with ⟨h1, -⟩ | ⟨-, h1⟩ | h1 | h1
      · omega
      · exact h1
      · omega
      · rw [e] at h1; exact absurd h1 (by decide)
    rw [h _ this]
  · simp only [if_neg e]
theorem ev_r_congr {val val' : Nat → Int32} (h : ∀ l, sg_fact l = true → val l = val' l) : ∀ (ds : RC) (st : List (Option Int32)), (∀ o ∈ ds, sh_ok o) → ev_r val ds st = ev_r val' ds st
  | [], st, _ => rfl
  | o :: r, st, ho => by
    show (ev_1 val o st).bind (ev_r val r) = (ev_1 val' o st).bind (ev_r val' r)
    rw [ev_1_congr h (ho o (List.mem_cons_self ..))]
    cases ev_1 val' o st with
    | none => rfl
    | some s => exact ev_r_congr h r s (fun o' ho' => ho o' (List.mem_cons_of_mem _ ho'))
theorem Ev_congr {val val' : Nat → Int32} (h : ∀ l, sg_fact l = true → val l = val' l) {ds : RC} (ho : ∀ o ∈ ds, sh_ok o) : Ev val ds = Ev val' ds := by
  unfold Ev
  rw [ev_r_congr h ds [] ho]
theorem stc_sh {c : Nat → Nat} {N : Nat} : ∀ (L : List (Nat × RC)) (p : Nat), stc c N p L → ∀ q ∈ L, (∀ o ∈ q.2, sh_ok o) ∧ q.1 < 4 ∧ ∃ p' q', sp_C 5 (sp_lvl c 5) c p' = .inr (q', q.2)
  | [], p, _, q, hq => by cases hq
  | (b, ds) :: r, p, h, q, hq => by
    obtain ⟨q1, h1, h2, h3, h4, h5, h6, h7, h8, h9, h10⟩ := h
    rcases List.mem_cons.mp hq with e | hq
    · subst e
      exact ⟨h9, h3, p + 2, q1, h5⟩
    · rcases h10 with ⟨e, -⟩ | ⟨-, -, h11⟩
      · subst e; cases hq
      · exact stc_sh r _ h11 q hq
theorem rlH_congr {val val' : Nat → Int32} (h : ∀ l, sg_fact l = true → val l = val' l) {k : Nat} {L : List (Nat × RC)} (ho : ∀ q ∈ L, ∀ o ∈ q.2, sh_ok o) : rlH val k L = rlH val' k L := by
  unfold rlH
  induction L with
  | nil => rfl
  | cons q r ih =>
    rw [List.all_cons, List.all_cons, ih (fun q' hq' => ho q' (List.mem_cons_of_mem _ hq')), Ev_congr h (ho q (List.mem_cons_self ..))]
