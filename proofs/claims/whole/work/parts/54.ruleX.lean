/-! what the class's reader answers: its number, and whether it was refused, against the codes -/
def rfd (ask : Bool) (r r' : Int32) (E : Option Int32) (w : Int32) : Prop := (ask = false → r' = r) ∧ (ask = true → r = 0 → match E with
  | none => r' = 1
  | some u => r' = 0 ∧ w = u) ∧ (ask = true → r = 1 → r' = 1)
theorem ev_b_n {op : Nat} (h1 : op ≠ 38) (h2 : op ≠ 124) {v : Int32} : ev_b op (some v) none = none := by simp [ev_b, h1, h2]
theorem ev_b_s {op : Nat} (h1 : op ≠ 38) (h2 : op ≠ 124) {v u : Int32} : ev_b op (some v) (some u) = if (op = 47 ∨ op = 37) ∧ u = 0 then none else some (ev_w op v u) := by simp [ev_b, h1, h2]
theorem ev_b_and {v : Int32} {B : Option Int32} : ev_b 38 (some v) B = if v = 1 then B else some v := rfl
theorem ev_b_or {v : Int32} {B : Option Int32} : ev_b 124 (some v) B = if v = 0 then B else some v := rfl
theorem rfd_bin {ask : Bool} {r0 r r1 r' w w2 w3 : Int32} {E B : Option Int32} {op : Nat} (hr : b01 r1) (h38 : op ≠ 38) (h124 : op ≠ 124) (hE : rfd ask r0 r E w) (hB : rfd ask r r1 B w2)
    (h1 : ¬ ((op = 47 ∨ op = 37) ∧ w2 = 0) → r' = r1 ∧ w3 = ev_w op w w2) (h2 : ((op = 47 ∨ op = 37) ∧ w2 = 0) → r' = if r1 = 1 ∨ ask = true then 1 else 0) : rfd ask r0 r' (ev_b op E B) w3 := by
  obtain ⟨a1, a2, a3⟩ := hE
  obtain ⟨b1, b2, b3⟩ := hB
  have z10 : ¬ (1 : Int32) = 0 := by decide
  by_cases bad : (op = 47 ∨ op = 37) ∧ w2 = 0
  · have h2 := h2 bad
    refine ⟨fun q => ?_, fun q q0 => ?_, fun q q1 => ?_⟩
    · rw [h2, ← a1 q, ← b1 q]
      rcases hr with e | e
      · simp [e, q]
      · simp [e]
    · rw [h2, if_pos (Or.inr q)]
      have a2 := a2 q q0
      cases E with
      | none => rfl
      | some u =>
        have b2 := b2 q a2.1
        cases B with
        | none =>
          rw [ev_b_n h38 h124]
        | some v =>
          rw [ev_b_s h38 h124, if_pos ⟨bad.1, by rw [← b2.2]; exact bad.2⟩]
    · rw [h2, if_pos (Or.inr q)]
  · obtain ⟨h1, h1'⟩ := h1 bad
    refine ⟨fun q => ?_, fun q q0 => ?_, fun q q1 => ?_⟩
    · rw [h1, b1 q, a1 q]
    · have a2 := a2 q q0
      cases E with
      | none => rw [h1]; exact b3 q a2
      | some u =>
        have b2 := b2 q a2.1
        cases B with
        | none =>
          rw [ev_b_n h38 h124, h1]
          exact b2
        | some v =>
          rw [ev_b_s h38 h124, if_neg (by rw [← b2.2]; exact bad)]
          refine ⟨by rw [h1]; exact b2.1, ?_⟩
          rw [h1', a2.2, b2.2]
    · rw [h1]; exact b3 q (a3 q q1)
theorem rfd_and {ask a2 : Bool} {r0 r r1 w w2 w3 : Int32} {E B : Option Int32} (hw : b01 w) (hw2 : b01 w2) (hE : rfd ask r0 r E w) (ha : a2 = (ask && decide (¬ w = 0))) (hB : rfd a2 r r1 B w2) (h3 : w3 = if ¬ w = 0 ∧ ¬ w2 = 0 then 1 else 0) : rfd ask r0 r1 (ev_b 38 E B) w3 := by
  obtain ⟨p1, p2, p3⟩ := hE
  obtain ⟨b1, b2, b3⟩ := hB
  have z10 : ¬ (1 : Int32) = 0 := by decide
  cases ask with
  | false =>
    have : a2 = false := by rw [ha]; rfl
    exact ⟨fun _ => by rw [b1 this, p1 rfl], fun q => absurd q (by simp), fun q => absurd q (by simp)⟩
  | true =>
    refine ⟨fun q => absurd q (by simp), fun _ q0 => ?_, fun _ q1 => ?_⟩
    · have p2 := p2 rfl q0
      cases E with
      | none =>
        cases a2 with
        | false => exact (b1 rfl).trans p2
        | true => exact b3 rfl p2
      | some u =>
        obtain ⟨p4, p5⟩ := p2
        subst p5
        rcases hw with e | e
        · subst e
          have : a2 = false := by rw [ha]; rfl
          rw [ev_b_and, if_neg (by decide)]
          exact ⟨(b1 this).trans p4, by rw [h3]; simp⟩
        · subst e
          have : a2 = true := by rw [ha]; rfl
          have b2 := b2 this p4
          rw [ev_b_and, if_pos rfl]
          cases B with
          | none => exact b2
          | some v =>
            refine ⟨b2.1, ?_⟩
            rw [h3, ← b2.2]
            rcases hw2 with e2 | e2 <;> simp [e2]
    · cases a2 with
      | false => exact (b1 rfl).trans (p3 rfl q1)
      | true => exact b3 rfl (p3 rfl q1)
theorem rfd_or {ask a2 : Bool} {r0 r r1 w w2 w3 : Int32} {E B : Option Int32} (hw : b01 w) (hw2 : b01 w2) (hE : rfd ask r0 r E w) (ha : a2 = (ask && decide (w = 0))) (hB : rfd a2 r r1 B w2) (h3 : w3 = if ¬ w = 0 ∨ ¬ w2 = 0 then 1 else 0) : rfd ask r0 r1 (ev_b 124 E B) w3 := by
  obtain ⟨p1, p2, p3⟩ := hE
  obtain ⟨b1, b2, b3⟩ := hB
  have z10 : ¬ (1 : Int32) = 0 := by decide
  cases ask with
  | false =>
    have : a2 = false := by rw [ha]; rfl
    exact ⟨fun _ => by rw [b1 this, p1 rfl], fun q => absurd q (by simp), fun q => absurd q (by simp)⟩
  | true =>
    refine ⟨fun q => absurd q (by simp), fun _ q0 => ?_, fun _ q1 => ?_⟩
    · have p2 := p2 rfl q0
      cases E with
      | none =>
        cases a2 with
        | false => exact (b1 rfl).trans p2
        | true => exact b3 rfl p2
      | some u =>
        obtain ⟨p4, p5⟩ := p2
        subst p5
        rcases hw with e | e
        · subst e
          have : a2 = true := by rw [ha]; rfl
          have b2 := b2 this p4
          rw [ev_b_or, if_pos rfl]
          cases B with
          | none => exact b2
          | some v =>
            refine ⟨b2.1, ?_⟩
            rw [h3, ← b2.2]
            rcases hw2 with e2 | e2 <;> simp [e2]
        · subst e
          have : a2 = false := by rw [ha]; rfl
          rw [ev_b_or, if_neg (by decide)]
          exact ⟨(b1 this).trans p4, by rw [h3]; simp⟩
    · cases a2 with
      | false => exact (b1 rfl).trans (p3 rfl q1)
      | true => exact b3 rfl (p3 rfl q1)
/-- what holds behind a reader that answers w -/
def xm (c : Nat → Nat) (N : Nat) (g0 : GG) (bl ask : Bool) (r : Int32) (R : RR) (w : Int32) (g : GG) : Prop := (bl = true → b01 w) ∧ match R with
  | .inl (e, q) => flX g0 g (1000 * e + q)
  | .inr (q, cs) => atX c N g0 g q ∧ ∃ E, isE (fun l => g0.1 38 (l - 97)) cs E ∧ rfd ask r (g.1 35 10) E w
/-- a reader of the class reads as the plain one does -/
def xOK (bl : Bool) (c : Nat → Nat) (N : Nat) (F : Nat → RR) (f : FF) (dep : Nat) : Prop := ∀ (g0 g : GG) (p : Nat) (ask : Bool), txX c N g0 → atX c N g0 g p → p ≤ N → wF f [.int (nI dep), .int (ik_b2 ask)] g (fun v g' => ∃ w, v = .int w ∧ xm c N g0 bl ask (g.1 35 10) (F p) w g')
/-- and stays stopped where it is stopped -/
def xST (bl : Bool) (f : FF) (dep : Nat) : Prop := ∀ (g0 g : GG) (e : Nat) (ask : Bool), flX g0 g e → wF f [.int (nI dep), .int (ik_b2 ask)] g (fun v g' => ∃ w, v = .int w ∧ (bl = true → b01 w) ∧ flX g0 g' e)
theorem sp_loop_s (c : Nat → Nat) (isop : Nat → Bool) (sub : Nat → RR) (f q : Nat) (cs : RC) : sp_loop c isop sub (f + 1) q cs = if isop (c q) = true then sp_then (sub (q + 1)) (fun q' ds => sp_loop c isop sub f q' (cs ++ ds ++ [(c q, 0)])) else .inr (q, cs) := rfl
theorem x_loop {c : Nat → Nat} {N dep : Nat} {g0 : GG} {bl ask : Bool} {r : Int32} (isop : Nat → Bool) (sub : Nat → RR) (hsub : sp_ok c N sub) (isI : Int32 → Bool) (hi : ∀ q, isI (sgX c N q) = isop (c q)) (hm1 : isI (-1) = false)
    (hN : ∀ q, isop (c q) = true → q < N) (cnd : SS → Option (Bool × GG)) (body : ST)
    (hc : ∀ (s1 : Nat → Int32) (s2 : Nat → Int64) (g : GG) (k : Nat), k ≤ 160 → s1 4 = nI k → wC cnd (s1, s2, g) (fun t g' => t = (decide (k < 160) && isI (g.1 35 8)) ∧ g' = g))
    (hb : ∀ (s1 : Nat → Int32) (s2 : Nat → Int64) (g : GG) (k q : Nat) (cs : RC), s1 4 = nI k → s1 1 = nI dep → s1 2 = ik_b2 ask → xm c N g0 bl ask r (.inr (q, cs)) (s1 3) g → q < N → isop (c q) = true →
      wS body (s1, s2, g) (fun σ => σ.1 4 = nI (k + 1) ∧ σ.1 1 = nI dep ∧ σ.1 2 = ik_b2 ask ∧ xm c N g0 bl ask r (sp_then (sub (q + 1)) (fun q' ds => .inr (q', cs ++ ds ++ [(c q, 0)]))) (σ.1 3) σ.2.2) (fun _ _ => False))
    {Z : SS → Prop} {R : Value → GG → Prop} (s1 : Nat → Int32) (s2 : Nat → Int64) (g : GG) (R0 : RR) (h4 : s1 4 = 0) (h1 : s1 1 = nI dep) (h2 : s1 2 = ik_b2 ask) (h0 : xm c N g0 bl ask r R0 (s1 3) g) (hq : ∀ q cs, R0 = .inr (q, cs) → q ≤ N)
    (hx : ∀ σ : SS, xm c N g0 bl ask r (sp_then R0 (fun q cs => sp_loop c isop sub 160 q cs)) (σ.1 3) σ.2.2 → Z σ) : wS (sWh cnd body ik_fuel) (s1, s2, g) Z R := by
  obtain ⟨T, hT⟩ : ∃ T, T = sp_then R0 (fun q cs => sp_loop c isop sub 160 q cs) := ⟨_, rfl⟩
  rw [← hT] at hx
  refine wS_wh cnd body (fun m σ => m ≤ 160 ∧ σ.1 4 = nI (160 - m) ∧ σ.1 1 = nI dep ∧ σ.1 2 = ik_b2 ask ∧ ∃ R1, xm c N g0 bl ask r R1 (σ.1 3) σ.2.2 ∧ (∀ q cs, R1 = .inr (q, cs) → q ≤ N) ∧ sp_then R1 (fun q cs => sp_loop c isop sub m q cs) = T) ?_ ik_fuel 160 _ (by unfold ik_fuel; omega) ⟨by omega, h4.trans rfl, h1, h2, R0, h0, hq, hT.symm⟩
  rintro m ⟨s1, s2, g⟩ ⟨e0, e1, e2, e3, R1, e4, e5, e6⟩
  simp only at e1 e2 e3 e4
  obtain ⟨t, g', q1, q2, q3⟩ := hc s1 s2 g (160 - m) (by omega) e1
  rw [q2, q3] at q1
  refine ⟨_, _, q1, fun h => ?_, fun h => ?_⟩
  · simp only [Bool.and_eq_true, decide_eq_true_eq] at h
    obtain ⟨f1, f2⟩ := h
    rcases R1 with ⟨e, p⟩ | ⟨q, cs⟩
    · have f3 : g.1 35 8 = -1 := e4.2.2.1
      rw [f3, hm1] at f2
      cases f2
    · have f3 : g.1 35 8 = sgX c N q := e4.2.1.2.2.1
      rw [f3, hi] at f2
      have f4 := hN q f2
      refine wS_mono (hb s1 s2 g (160 - m) q cs e1 e2 e3 e4 f4 f2) ?_ (fun _ _ h => h.elim)
      rintro ⟨u1, u2, u3⟩ ⟨k1, k2, k3, k4⟩
      simp only at k1 k2 k3 k4
      refine ⟨m - 1, by omega, by omega, k1.trans (by congr 1; omega), k2, k3, _, k4, fun q' cs' h => ?_, ?_⟩
      · have f5 := hsub (q + 1) (by omega)
        revert h f5
        rcases sub (q + 1) with ⟨e, p⟩ | ⟨q2, ds⟩
        · intro h _; cases h
        · intro h f5; cases h; exact f5.2.1
      · rw [← e6]
        obtain ⟨j, hj⟩ : ∃ j, m = j + 1 := ⟨m - 1, by omega⟩
        subst hj
        show _ = sp_loop c isop sub (j + 1) q cs
        rw [sp_loop_s, if_pos f2, show j + 1 - 1 = j by omega]
        rcases sub (q + 1) with ⟨e, p⟩ | ⟨q2, ds⟩ <;> rfl
  · refine hx _ ?_
    rw [← e6]
    rcases R1 with ⟨e, p⟩ | ⟨q, cs⟩
    · exact e4
    · have f3 : g.1 35 8 = sgX c N q := e4.2.1.2.2.1
      rw [f3, hi] at h
      show xm c N g0 bl ask r (sp_loop c isop sub m q cs) _ _
      cases m with
      | zero => exact e4
      | succ j =>
        simp only [Bool.and_eq_false_iff, decide_eq_false_iff_not] at h
        have : ¬ isop (c q) = true := by
          rcases h with h | h
          · omega
          · simp [h]
        rw [sp_loop_s, if_neg this]
        exact e4
