theorem sp_loop_inv {c : Nat → Nat} {N : Nat} (P : Nat → Prop) {isop : Nat → Bool} {sub : Nat → RR} (ho : ∀ q, isop (c q) = true → q < N) (hk : sp_ok c N sub) (h : ∀ p q ds, p ≤ N → sub p = .inr (q, ds) → P q) : ∀ (f q : Nat) (cs : RC), P q → ∀ q' ds, sp_loop c isop sub f q cs = .inr (q', ds) → P q'
  | 0, q, cs, h1, q', ds, e => by cases e; exact h1
  | f + 1, q, cs, h1, q', ds, e => by
    rw [sp_loop_s] at e
    by_cases d : isop (c q) = true
    · rw [if_pos d] at e
      have hlt := ho q d
      have h2 := h (q + 1)
      revert e h2
      rcases sub (q + 1) with ⟨e1, p1⟩ | ⟨q1, d1⟩
      · intro e _; cases e
      · intro e h2
        exact sp_loop_inv P ho hk h f q1 _ (h2 q1 d1 (by omega) rfl) q' ds e
    · rw [if_neg d] at e
      cases e
      exact h1
theorem sp_ops_inv {c : Nat → Nat} {N : Nat} (P : Nat → Prop) {isop : Nat → Bool} {sub : Nat → RR} (ho : ∀ q, isop (c q) = true → q < N) (hk : sp_ok c N sub) (h : ∀ p q ds, p ≤ N → sub p = .inr (q, ds) → P q) {p q : Nat} {ds : RC} (hp : p ≤ N) (e : sp_ops c isop sub p = .inr (q, ds)) : P q := by
  unfold sp_ops at e
  have h2 := h p
  revert e h2
  rcases sub p with ⟨e1, p1⟩ | ⟨q1, d1⟩
  · intro e _; cases e
  · intro e h2
    exact sp_loop_inv P ho hk h 160 q1 d1 (h2 q1 d1 hp rfl) q ds e
/-- which tops a piece may begin on -/
def sg_pc (v : Nat) : Prop := v = 40 ∨ v = 33 ∨ v = 38 ∨ v = 124
theorem sg_pc_of {v : Nat} (h : sg_pc v) : sg_tp v = false ∧ v ≠ 91 ∧ sg_cmp v = false ∧ v ≠ 0 := by
  rcases h with e | e | e | e <;> subst e <;> decide
def altc (c : Nat → Nat) (q : Nat) : Prop := c q = 93 ∨ sg_cmp (c q) = true
def noF (_ : Nat) : Bool := false
def noA (_ : Nat) : Prop := False
theorem popW_no (st : List Nat) (cs : RC) : popW noF st cs = (st, cs) := popW_end rfl
/-- a piece ends behind what the ! ahead of it add -/
def aPI (c : Nat → Nat) (N dep : Nat) (F : Nat → RR) : Prop := ∀ (p : Nat) (st : List Nat) (cs : RC), p ≤ N → opn st = dep → sg_pc (top1 st) → match F p with
  | .inl e => RT c (0, p, st, cs) (.inl e)
  | .inr (q, ds) => (altc c q ∧ RT c (0, p, st, cs) (.inl (1, q))) ∨ RT c (0, p, st, cs) (.inr (3, q, popE st (cs ++ ds)))
def endS (c : Nat → Nat) (N : Nat) (F : Nat → RR) : Prop := ∀ p q ds, p ≤ N → F p = .inr (q, ds) → sg_times (c q) = false ∧ sg_plus (c q) = false
def endC (c : Nat → Nat) (N : Nat) (F : Nat → RR) : Prop := ∀ p q ds, p ≤ N → F p = .inr (q, ds) → sg_and (c q) = false ∧ sg_or (c q) = false
def h_pie (v : Nat) : Bool := !(v == 40 || v == 38 || v == 124)
def h_part (v : Nat) : Bool := !(v == 40 || v == 124)
def h_cond (v : Nat) : Bool := !(v == 40)
theorem auto2 (c : Nat → Nat) {q : Nat} {st2 : List Nat} {cs2 : RC} {st : List Nat} {X : RC} (hp : popW sg_tp st2 cs2 = (st, X)) (h1 : sg_times (c q) = false) (h2 : sg_plus (c q) = false) : auto c (2, q, st2, cs2) = (if c q = 93 then (if top1 st = 91 then .inr (2, q + 1, st.tail, X) else .inl (1, q))
    else if sg_cmp (c q) = true then (if top1 st = 91 ∨ sg_cmp (top1 st) = true then .inl (1, q) else .inr (1, q + 1, c q :: st, X))
    else if sg_cmp (top1 st) = true then .inr (3, q, popE st.tail (X ++ [(top1 st, 0)])) else .inl (1, q)) := by
  show (if sg_times (c q) = true then _ else _) = _
  rw [if_neg (by rw [h1]; simp), if_neg (by rw [h2]; simp), hp]
theorem a_fac {c : Nat → Nat} {N n dep : Nat} (hz : ∀ k, N ≤ k → c k = 0) (hd : dep + n = 6) {sum : Nat → RR} (hS : n ≠ 0 → aOK c N (dep + 1) 1 2 sg_tp sg_tp noA sum) (hE : n ≠ 0 → endS c N sum) : aOK c N dep 1 2 noF noF noA (sp_fac (n == 0) sum c) := by
  intro p st cs hp hdep _
  unfold sp_fac
  by_cases c1 : c p = 91
  · have hlt : p < N := sp_end hz (by omega)
    rw [if_pos c1]
    by_cases n0 : n = 0
    · subst n0
      rw [if_pos (show ((0 : Nat) == 0) = true from rfl)]
      refine RT.bad ?_
      show (if c p = 91 then _ else _) = _
      rw [if_pos c1, if_pos (by omega)]
    · rw [if_neg (show ¬ (n == 0) = true by simpa using n0)]
      have s1 : auto c (1, p, st, cs) = .inr (1, p + 1, 91 :: st, cs) := by
        show (if c p = 91 then _ else _) = _
        rw [if_pos c1, if_neg (by omega)]
      have s2 := hS n0 (p + 1) (91 :: st) cs (by omega) (by show opn st + _ = _; rw [hdep]; rfl) rfl
      have s3 := hE n0 (p + 1)
      revert s2 s3
      rcases sum (p + 1) with ⟨e1, p1⟩ | ⟨q1, d1⟩
      · intro s2 _
        exact RT.step s1 s2
      · intro s2 s3
        obtain ⟨t1, t2⟩ := s3 q1 d1 (by omega) rfl
        rcases s2 with ⟨b1, -⟩ | ⟨st3, cs3, b1, b2⟩
        · exact b1.elim
        · have s4 := auto2 c b2 t1 t2
          show match (if c q1 = 93 then (.inr (q1 + 1, d1) : RR) else .inl (1, q1)) with
            | .inl e => RT c (1, p, st, cs) (.inl e)
            | .inr (q, ds) => _
          by_cases c2 : c q1 = 93
          · rw [if_pos c2]
            rw [if_pos c2, if_pos (show top1 (91 :: st) = 91 from rfl)] at s4
            exact Or.inr ⟨st, cs ++ d1, RT.step s1 (b1.trans (RT.step s4 (RT.refl _ _))), popW_no _ _⟩
          · rw [if_neg c2]
            rw [if_neg c2] at s4
            refine RT.step s1 (b1.trans (RT.bad ?_))
            rw [s4]
            by_cases c3 : sg_cmp (c q1) = true
            · rw [if_pos c3, if_pos (Or.inl (show top1 (91 :: st) = 91 from rfl))]
            · rw [if_neg c3, if_neg (show ¬ sg_cmp (top1 (91 :: st)) = true from (by decide : ¬ sg_cmp 91 = true))]
  · rw [if_neg c1]
    by_cases c2 : sg_dig (c p) = true
    · rw [if_pos c2]
      rcases h : sp_num c 5 p 0 with ⟨e1, p1⟩ | ⟨q1, d1⟩
      · refine RT.bad ?_
        show (if c p = 91 then _ else _) = _
        rw [if_neg c1, if_pos c2, h]
      · have s1 : auto c (1, p, st, cs) = .inr (2, q1, st, cs ++ d1) := by
          show (if c p = 91 then _ else _) = _
          rw [if_neg c1, if_pos c2, h]
        exact Or.inr ⟨_, _, RT.step s1 (RT.refl _ _), popW_no _ _⟩
    · rw [if_neg c2]
      have s1 : auto c (1, p, st, cs) = if sg_fact (c p) = true then .inr (2, p + 1, st, cs ++ [(1, c p)]) else .inl (1, p) := by
        show (if c p = 91 then _ else _) = _
        rw [if_neg c1, if_neg c2]
      by_cases c3 : sg_fact (c p) = true
      · rw [if_pos c3]
        rw [if_pos c3] at s1
        exact Or.inr ⟨_, _, RT.step s1 (RT.refl _ _), popW_no _ _⟩
      · rw [if_neg c3]
        rw [if_neg c3] at s1
        exact RT.bad s1
theorem a_pie {c : Nat → Nat} {N n dep : Nat} (hz : ∀ k, N ≤ k → c k = 0) (hd : dep + n = 6) {cond pie sum : Nat → RR} (hS : aOK c N dep 1 2 sg_tp sg_tp noA sum) (hE : endS c N sum) (kS : sp_ok c N sum)
    (hC : n ≠ 0 → aOK c N (dep + 1) 0 3 h_cond sg_ao (altc c) cond) (hEC : n ≠ 0 → endC c N cond) (hI : n ≠ 0 → aPI c N (dep + 1) pie) : aPI c N dep (sp_pie (n == 0) cond pie sum c) := by
  intro p st cs hp hdep htop
  obtain ⟨p1, p2, p3, p4⟩ := sg_pc_of htop
  unfold sp_pie
  by_cases c0 : c p = 33 ∨ c p = 40
  · have hlt : p < N := sp_end hz (by omega)
    rw [if_pos c0]
    unfold sp_nest
    by_cases n0 : n = 0
    · subst n0
      rw [if_pos (show ((0 : Nat) == 0) = true from rfl)]
      refine RT.bad ?_
      show (if c p = 33 ∨ c p = 40 then _ else _) = _
      rw [if_pos c0, if_pos (by omega)]
    · rw [if_neg (show ¬ (n == 0) = true by simpa using n0)]
      have s1 : auto c (0, p, st, cs) = .inr (0, p + 1, c p :: st, cs) := by
        show (if c p = 33 ∨ c p = 40 then _ else _) = _
        rw [if_pos c0, if_neg (by omega)]
      by_cases c1 : c p = 33
      · rw [if_pos c1]
        rw [c1] at s1
        have s2 := hI n0 (p + 1) (33 :: st) cs (by omega) (by show opn st + _ = _; rw [hdep]; rfl) (Or.inr (Or.inl rfl))
        revert s2
        rcases pie (p + 1) with ⟨e1, p1⟩ | ⟨q1, d1⟩
        · exact fun s2 => RT.step s1 s2
        · intro s2
          rcases s2 with ⟨b1, b2⟩ | b
          · exact Or.inl ⟨b1, RT.step s1 b2⟩
          · refine Or.inr ?_
            rw [popE_push, List.append_assoc] at b
            exact RT.step s1 b
      · rw [if_neg c1]
        have c2 : c p = 40 := c0.resolve_left c1
        rw [c2] at s1
        have s2 := hC n0 (p + 1) (40 :: st) cs (by omega) (by show opn st + _ = _; rw [hdep]; rfl) rfl
        have s3 := hEC n0 (p + 1)
        revert s2 s3
        rcases cond (p + 1) with ⟨e1, p1⟩ | ⟨q1, d1⟩
        · exact fun s2 _ => RT.step s1 s2
        · intro s2 s3
          obtain ⟨t1, t2⟩ := s3 q1 d1 (by omega) rfl
          show match (if c q1 = 41 then (.inr (q1 + 1, d1) : RR) else .inl (1, q1)) with
            | .inl e => RT c (0, p, st, cs) (.inl e)
            | .inr (q, ds) => _
          rcases s2 with ⟨b1, b2⟩ | ⟨st3, cs3, b1, b2⟩
          · have n41 : ¬ c q1 = 41 := by
              intro h
              rcases b1 with b1 | b1
              · omega
              · rw [h] at b1; exact absurd b1 (by decide)
            rw [if_neg n41]
            exact RT.step s1 b2
          · have s4 : auto c (3, q1, st3, cs3) = if c q1 ≠ 41 then .inl (1, q1) else if st = [] then .inr (4, q1 + 1, [], cs ++ d1) else .inr (3, q1 + 1, popE st (cs ++ d1)) := by
              show (if sg_and (c q1) = true then _ else _) = _
              rw [if_neg (by rw [t1]; simp), if_neg (by rw [t2]; simp), b2]
              rfl
            by_cases c3 : c q1 = 41
            · rw [if_pos c3]
              rw [if_neg (show ¬ c q1 ≠ 41 from fun h => h c3), if_neg (fun h => by rw [h] at p4; exact p4 rfl)] at s4
              exact Or.inr (RT.step s1 (b1.trans (RT.step s4 (RT.refl _ _))))
            · rw [if_neg c3]
              rw [if_pos c3] at s4
              exact RT.step s1 (b1.trans (RT.bad s4))
  · rw [if_neg c0]
    have s1 : auto c (0, p, st, cs) = .inr (1, p, st, cs) := by
      show (if c p = 33 ∨ c p = 40 then _ else _) = _
      rw [if_neg c0]
    have s2 := hS p st cs hp hdep p1
    have s3 := hE p
    have s5 := kS p hp
    revert s2 s3 s5
    rcases sum p with ⟨e1, p1⟩ | ⟨q1, d1⟩
    · exact fun s2 _ _ => RT.step s1 s2
    · intro s2 s3 s5
      obtain ⟨t1, t2⟩ := s3 q1 d1 hp rfl
      rcases s2 with ⟨b1, -⟩ | ⟨st3, cs3, b1, b2⟩
      · exact b1.elim
      · have s4 := auto2 c b2 t1 t2
        show match (if sg_cmp (c q1) = true then sp_then (sum (q1 + 1)) (fun q' ds => (.inr (q', d1 ++ ds ++ [(c q1, 0)]) : RR)) else .inl (1, q1)) with
          | .inl e => RT c (0, p, st, cs) (.inl e)
          | .inr (q, ds) => _
        by_cases c1 : sg_cmp (c q1) = true
        · have hlt : q1 < N := sp_end hz (sg_num (o := sg_cmp) (by simp) c1).1
          have n93 : ¬ c q1 = 93 := fun h => by rw [h] at c1; exact absurd c1 (by decide)
          rw [if_pos c1]
          rw [if_neg n93, if_pos c1, if_neg (show ¬ (top1 st = 91 ∨ sg_cmp (top1 st) = true) from fun h => h.elim p2 (fun h => by rw [p3] at h; cases h))] at s4
          have o1 : sg_open (c q1) = false ∧ sg_tp (c q1) = false := by
            simp only [sg_cmp, Bool.or_eq_true, beq_iff_eq, or_assoc] at c1
            rcases c1 with e | e | e <;> rw [e] <;> decide
          have s6 := hS (q1 + 1) (c q1 :: st) (cs ++ d1) (by omega) (by show opn st + _ = _; rw [o1.1]; simpa using hdep) o1.2
          have s7 := hE (q1 + 1)
          revert s6 s7
          rcases sum (q1 + 1) with ⟨e2, p2'⟩ | ⟨q2, d2⟩
          · exact fun s6 _ => RT.step s1 (b1.trans (RT.step s4 s6))
          · intro s6 s7
            obtain ⟨t3, t4⟩ := s7 q2 d2 (by omega) rfl
            rcases s6 with ⟨b3, -⟩ | ⟨st4, cs4, b3, b4⟩
            · exact b3.elim
            · have s8 := auto2 c b4 t3 t4
              have n91 : ¬ top1 (c q1 :: st) = 91 := fun h => by
                have : c q1 = 91 := h
                rw [this] at c1; exact absurd c1 (by decide)
              have cm : sg_cmp (top1 (c q1 :: st)) = true := c1
              by_cases d1' : c q2 = 93
              · rw [if_pos d1', if_neg n91] at s8
                exact Or.inl ⟨Or.inl d1', RT.step s1 (b1.trans (RT.step s4 (b3.trans (RT.bad s8))))⟩
              · rw [if_neg d1'] at s8
                by_cases d2' : sg_cmp (c q2) = true
                · rw [if_pos d2', if_pos (Or.inr cm)] at s8
                  exact Or.inl ⟨Or.inr d2', RT.step s1 (b1.trans (RT.step s4 (b3.trans (RT.bad s8))))⟩
                · rw [if_neg d2', if_pos cm] at s8
                  refine Or.inr (RT.step s1 (b1.trans (RT.step s4 (b3.trans (RT.step s8 ?_)))))
                  have : cs ++ d1 ++ d2 ++ [(c q1, 0)] = cs ++ (d1 ++ d2 ++ [(c q1, 0)]) := by simp
                  show RT c (3, q2, popE st (cs ++ d1 ++ d2 ++ [(c q1, 0)])) _
                  rw [this]
                  exact RT.refl _ _
        · rw [if_neg c1]
          refine RT.step s1 (b1.trans (RT.bad ?_))
          rw [s4]
          by_cases d1' : c q1 = 93
          · rw [if_pos d1', if_neg p2]
          · rw [if_neg d1', if_neg c1, if_neg (by rw [p3]; simp)]
theorem aPI.ok {c : Nat → Nat} {N dep : Nat} {F : Nat → RR} (h : aPI c N dep F) : aOK c N dep 0 3 h_pie noF (altc c) F := by
  intro p st cs hp hd ht
  have hv : top1 st = 40 ∨ top1 st = 38 ∨ top1 st = 124 := by
    simp only [h_pie, Bool.not_eq_false', Bool.or_eq_true, beq_iff_eq, or_assoc] at ht
    exact ht
  have s := h p st cs hp hd (by rcases hv with e | e | e <;> simp [sg_pc, e])
  revert s
  rcases F p with ⟨e1, p1⟩ | ⟨q1, d1⟩
  · exact fun s => s
  · intro s
    rcases s with s | s
    · exact Or.inl s
    · refine Or.inr ⟨st, cs ++ d1, ?_, popW_no _ _⟩
      rw [popE_end (by omega)] at s
      exact s
