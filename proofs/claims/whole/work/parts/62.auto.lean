/-! the reference's reader, as a machine with a stack: (what comes, place, stack, codes). 0: a piece begins, 1: a factor, 2: behind a factor, 3: behind a piece, 4: over -/
abbrev AS : Type := Nat × Nat × List Nat × RC
def sg_open (v : Nat) : Bool := v == 33 || v == 40 || v == 91
def opn : List Nat → Nat
  | [] => 0
  | v :: r => opn r + (if sg_open v = true then 1 else 0)
def top1 : List Nat → Nat
  | [] => 0
  | v :: _ => v
def popW (f : Nat → Bool) : List Nat → RC → List Nat × RC
  | [], cs => ([], cs)
  | v :: r, cs => if f v = true then popW f r (cs ++ [(v, 0)]) else (v :: r, cs)
def popE : List Nat → RC → List Nat × RC
  | [], cs => ([], cs)
  | v :: r, cs => if v = 33 then popE r (cs ++ [(2, 0)]) else (v :: r, cs)
def sg_tp (v : Nat) : Bool := sg_times v || sg_plus v
def sg_ao (v : Nat) : Bool := sg_and v || sg_or v
def auto (c : Nat → Nat) (S : AS) : (Nat × Nat) ⊕ AS := match S with
  | (0, p, st, cs) => if c p = 33 ∨ c p = 40 then (if opn st = 6 then .inl (5, p) else .inr (0, p + 1, c p :: st, cs)) else .inr (1, p, st, cs)
  | (1, p, st, cs) => if c p = 91 then (if opn st = 6 then .inl (5, p) else .inr (1, p + 1, 91 :: st, cs))
    else if sg_dig (c p) = true then (match sp_num c 5 p 0 with
      | .inl e => .inl e
      | .inr (q, ds) => .inr (2, q, st, cs ++ ds))
    else if sg_fact (c p) = true then .inr (2, p + 1, st, cs ++ [(1, c p)]) else .inl (1, p)
  | (2, p, st, cs) => if sg_times (c p) = true then .inr (1, p + 1, c p :: (popW sg_times st cs).1, (popW sg_times st cs).2)
    else if sg_plus (c p) = true then .inr (1, p + 1, c p :: (popW sg_tp st cs).1, (popW sg_tp st cs).2)
    else if c p = 93 then (if top1 (popW sg_tp st cs).1 = 91 then .inr (2, p + 1, (popW sg_tp st cs).1.tail, (popW sg_tp st cs).2) else .inl (1, p))
    else if sg_cmp (c p) = true then (if top1 (popW sg_tp st cs).1 = 91 ∨ sg_cmp (top1 (popW sg_tp st cs).1) = true then .inl (1, p) else .inr (1, p + 1, c p :: (popW sg_tp st cs).1, (popW sg_tp st cs).2))
    else if sg_cmp (top1 (popW sg_tp st cs).1) = true then .inr (3, p, popE (popW sg_tp st cs).1.tail ((popW sg_tp st cs).2 ++ [(top1 (popW sg_tp st cs).1, 0)]))
    else .inl (1, p)
  | (3, p, st, cs) => if sg_and (c p) = true then .inr (0, p + 1, c p :: (popW sg_and st cs).1, (popW sg_and st cs).2)
    else if sg_or (c p) = true then .inr (0, p + 1, c p :: (popW sg_ao st cs).1, (popW sg_ao st cs).2)
    else if c p ≠ 41 then .inl (1, p)
    else if (popW sg_ao st cs).1.tail = [] then .inr (4, p + 1, [], (popW sg_ao st cs).2)
    else .inr (3, p + 1, popE (popW sg_ao st cs).1.tail (popW sg_ao st cs).2)
  | S => .inr S
def aut (c : Nat → Nat) : Nat → AS → (Nat × Nat) ⊕ AS
  | 0, S => .inr S
  | k + 1, S => match auto c S with
    | .inl e => .inl e
    | .inr S' => aut c k S'
/-- it comes to R -/
def RT (c : Nat → Nat) (S : AS) (R : (Nat × Nat) ⊕ AS) : Prop := ∃ k, aut c k S = R
theorem RT.refl (c : Nat → Nat) (S : AS) : RT c S (.inr S) := ⟨0, rfl⟩
theorem RT.step {c : Nat → Nat} {S S' : AS} {R : (Nat × Nat) ⊕ AS} (h : auto c S = .inr S') (hr : RT c S' R) : RT c S R := by
  obtain ⟨k, hk⟩ := hr
  refine ⟨k + 1, ?_⟩
  show (match auto c S with | .inl e => Sum.inl e | .inr S' => aut c k S') = R
  rw [h]
  exact hk
theorem RT.bad {c : Nat → Nat} {S : AS} {e : Nat × Nat} (h : auto c S = .inl e) : RT c S (.inl e) := by
  refine ⟨1, ?_⟩
  show (match auto c S with | .inl e => Sum.inl e | .inr S' => aut c 0 S') = _
  rw [h]
theorem aut_add (c : Nat → Nat) : ∀ (k j : Nat) (S : AS), aut c (k + j) S = match aut c k S with
    | .inl e => .inl e
    | .inr S' => aut c j S'
  | 0, j, S => by rw [Nat.zero_add]; rfl
  | k + 1, j, S => by
    rw [show k + 1 + j = (k + j) + 1 by omega]
    show (match auto c S with | .inl e => Sum.inl e | .inr S' => aut c (k + j) S') = match (match auto c S with | .inl e => Sum.inl e | .inr S' => aut c k S') with
      | .inl e => .inl e
      | .inr S' => aut c j S'
    rcases auto c S with e | S'
    · rfl
    · exact aut_add c k j S'
theorem RT.trans {c : Nat → Nat} {S S' : AS} {R : (Nat × Nat) ⊕ AS} (h : RT c S (.inr S')) (hr : RT c S' R) : RT c S R := by
  obtain ⟨k, hk⟩ := h
  obtain ⟨j, hj⟩ := hr
  refine ⟨k + j, ?_⟩
  rw [aut_add, hk]
  exact hj
theorem popW_end {f : Nat → Bool} {st : List Nat} {cs : RC} (h : f (top1 st) = false) : popW f st cs = (st, cs) := by
  cases st with
  | nil => rfl
  | cons v r =>
    show (if f v = true then _ else _) = _
    have h' : f v = false := h
    rw [if_neg (by rw [h']; simp)]
theorem popW_push {f : Nat → Bool} {v : Nat} {st : List Nat} {cs : RC} (h : f v = true) : popW f (v :: st) cs = popW f st (cs ++ [(v, 0)]) := by
  show (if f v = true then _ else _) = _
  rw [if_pos h]
theorem popW_more {f g : Nat → Bool} (hfg : ∀ v, f v = true → g v = true) : ∀ (st : List Nat) (cs : RC), popW g st cs = popW g (popW f st cs).1 (popW f st cs).2
  | [], cs => rfl
  | v :: r, cs => by
    by_cases h : f v = true
    · rw [popW_push h, popW_push (hfg v h)]
      exact popW_more hfg r _
    · have e : popW f (v :: r) cs = (v :: r, cs) := by
        show (if f v = true then _ else _) = _
        rw [if_neg h]
      rw [e]
theorem popE_end {st : List Nat} {cs : RC} (h : top1 st ≠ 33) : popE st cs = (st, cs) := by
  cases st with
  | nil => rfl
  | cons v r =>
    have h' : ¬ v = 33 := h
    show (if v = 33 then _ else _) = _
    rw [if_neg h']
theorem popE_push {st : List Nat} {cs : RC} : popE (33 :: st) cs = popE st (cs ++ [(2, 0)]) := by
  show (if (33 : Nat) = 33 then _ else _) = _
  rw [if_pos rfl]
/-- the loops of the plain reader end where no sign of theirs comes -/
theorem sp_loop_end {c : Nat → Nat} {N : Nat} (hz : ∀ k, N ≤ k → c k = 0) (hN : N ≤ 160) {isop : Nat → Bool} (h0 : isop 0 = false) {sub : Nat → RR} (h : sp_ok c N sub) : ∀ (f q : Nat) (cs : RC), 160 ≤ q + f → q ≤ N → ∀ q' ds, sp_loop c isop sub f q cs = .inr (q', ds) → isop (c q') = false
  | 0, q, cs, h1, h2, q', ds, e => by
    cases e
    rw [hz q (by omega)]
    exact h0
  | f + 1, q, cs, h1, h2, q', ds, e => by
    rw [sp_loop_s] at e
    by_cases d : isop (c q) = true
    · rw [if_pos d] at e
      have hlt : q < N := sp_end hz (fun w => by rw [w, h0] at d; cases d)
      have h3 := h (q + 1) (by omega)
      revert e h3
      rcases sub (q + 1) with ⟨e1, p1⟩ | ⟨q1, d1⟩
      · intro e _; cases e
      · intro e h3
        exact sp_loop_end hz hN h0 h f q1 _ (by have := h3.1; omega) h3.2.1 q' ds e
    · rw [if_neg d] at e
      cases e
      simpa using d
theorem sp_ops_end {c : Nat → Nat} {N : Nat} (hz : ∀ k, N ≤ k → c k = 0) (hN : N ≤ 160) {isop : Nat → Bool} (h0 : isop 0 = false) {sub : Nat → RR} (h : sp_ok c N sub) {p q : Nat} {ds : RC} (hp : p ≤ N) (e : sp_ops c isop sub p = .inr (q, ds)) : isop (c q) = false := by
  unfold sp_ops at e
  have h3 := h p hp
  revert e h3
  rcases sub p with ⟨e1, p1⟩ | ⟨q1, d1⟩
  · intro e _; cases e
  · intro e h3
    exact sp_loop_end hz hN h0 h 160 q1 d1 (by omega) h3.2.1 q ds e
/-- what a reader's answer means for the machine: where it begins, with which stack below; it stops with the fault; or comes behind, what is pending on the stack yields the codes; or stops at once behind -/
def aOK (c : Nat → Nat) (N dep ctl1 ctl2 : Nat) (h g : Nat → Bool) (alt : Nat → Prop) (F : Nat → RR) : Prop := ∀ (p : Nat) (st : List Nat) (cs : RC), p ≤ N → opn st = dep → h (top1 st) = false → match F p with
  | .inl e => RT c (ctl1, p, st, cs) (.inl e)
  | .inr (q, ds) => (alt q ∧ RT c (ctl1, p, st, cs) (.inl (1, q))) ∨ ∃ st2 cs2, RT c (ctl1, p, st, cs) (.inr (ctl2, q, st2, cs2)) ∧ popW g st2 cs2 = (st, cs ++ ds)
theorem a_ops {c : Nat → Nat} {N dep ctl1 ctl2 : Nat} (hz : ∀ k, N ≤ k → c k = 0) {h h' g g' isop : Nat → Bool} {alt : Nat → Prop} {sub : Nat → RR} (hk : sp_ok c N sub) (hs : aOK c N dep ctl1 ctl2 h g alt sub)
    (hh : ∀ v, h' v = false → h v = false ∧ g' v = false) (hg : ∀ v, g v = true → g' v = true) (ho : ∀ v, isop v = true → g' v = true ∧ h v = false ∧ sg_open v = false ∧ v ≠ 0) (ha : ∀ q, alt q → isop (c q) = false)
    (hstep : ∀ q st2 cs2, isop (c q) = true → auto c (ctl2, q, st2, cs2) = .inr (ctl1, q + 1, c q :: (popW g' st2 cs2).1, (popW g' st2 cs2).2)) : aOK c N dep ctl1 ctl2 h' g' alt (sp_ops c isop sub) := by
  intro p st cs hp hd ht
  obtain ⟨ht1, ht2⟩ := hh _ ht
  have loop : ∀ (f q : Nat) (ds : RC), q ≤ N → ((alt q ∧ RT c (ctl1, p, st, cs) (.inl (1, q))) ∨ ∃ st2 cs2, RT c (ctl1, p, st, cs) (.inr (ctl2, q, st2, cs2)) ∧ popW g' st2 cs2 = (st, cs ++ ds)) → match sp_loop c isop sub f q ds with
      | .inl e => RT c (ctl1, p, st, cs) (.inl e)
      | .inr (q, ds) => (alt q ∧ RT c (ctl1, p, st, cs) (.inl (1, q))) ∨ ∃ st2 cs2, RT c (ctl1, p, st, cs) (.inr (ctl2, q, st2, cs2)) ∧ popW g' st2 cs2 = (st, cs ++ ds) := by
    intro f
    induction f with
    | zero => exact fun q ds _ hyp => hyp
    | succ f ih =>
      intro q ds hq hyp
      rw [sp_loop_s]
      by_cases d : isop (c q) = true
      · rw [if_pos d]
        obtain ⟨o1, o2, o3, o4⟩ := ho _ d
        have hlt : q < N := sp_end hz o4
        rcases hyp with ⟨a1, a2⟩ | ⟨st2, cs2, a1, a2⟩
        · rw [ha q a1] at d; cases d
        · have s1 := hstep q st2 cs2 d
          rw [a2] at s1
          have s2 := hs (q + 1) (c q :: st) (cs ++ ds) (by omega) (by show opn st + _ = dep; rw [o3]; simpa using hd) o2
          have s3 := hk (q + 1) (by omega)
          revert s2 s3
          rcases sub (q + 1) with ⟨e1, p1⟩ | ⟨q1, d1⟩
          · intro s2 _
            exact a1.trans (RT.step s1 s2)
          · intro s2 s3
            refine ih q1 _ s3.2.1 ?_
            rcases s2 with ⟨b1, b2⟩ | ⟨st3, cs3, b1, b2⟩
            · exact Or.inl ⟨b1, a1.trans (RT.step s1 b2)⟩
            · refine Or.inr ⟨st3, cs3, a1.trans (RT.step s1 b1), ?_⟩
              rw [popW_more hg, b2, popW_push o1, popW_end ht2]
              simp
      · rw [if_neg d]
        exact hyp
  unfold sp_ops
  have s2 := hs p st cs hp hd ht1
  have s3 := hk p hp
  revert s2 s3
  rcases sub p with ⟨e1, p1⟩ | ⟨q1, d1⟩
  · exact fun s2 _ => s2
  · intro s2 s3
    refine loop 160 q1 d1 s3.2.1 ?_
    rcases s2 with b | ⟨st3, cs3, b1, b2⟩
    · exact Or.inl b
    · refine Or.inr ⟨st3, cs3, b1, ?_⟩
      rw [popW_more hg, b2, popW_end ht2]
