abbrev ST : Type := SS → Option (SS ⊕ (Value × GG))
def ik_res (x : ik_DX) : Value × GG := x.2.2.2.2.2.2.2.2.2.2.2.2.2
def ik_okS (sc : ik_SC) (chk : ik_LV → Nat → Option (ik_LV × Nat)) (sem : ST) : Prop :=
  ∀ (x : ik_DX), ik_Cx sc x → ∀ (lv : ik_LV) (pc : Nat) (lv' : ik_LV) (pc' : Nat) (σ : SS) (o : SS ⊕ (Value × GG)), chk lv pc = some (lv', pc') → sem σ = some o → (∀ σ', o = .inl σ' → ik_Go sc x lv' pc' [] σ') → (∀ r, o = .inr r → ik_res x = r) → ik_Go sc x lv pc [] σ
abbrev SP (sc : ik_SC) : Type := { q : (ik_LV → Nat → Option (ik_LV × Nat)) × ST // ik_okS sc q.1 q.2 }
theorem ik_cat_0 : ik_cat [] ≤ 0 := Nat.le_refl 0
-- locals that a store leaves
def ik_set1 (k : Nat) (lv : ik_LV) : ik_LV := (k, 0) :: lv.filter (fun q => !(q.1 == k) && !(q.1 + 1 == k && q.2 == 1))
def ik_set2 (k : Nat) (lv : ik_LV) : ik_LV := (k, 1) :: lv.filter (fun q => !(q.1 == k) && (!(q.1 == k + 1) && !(q.1 + 1 == k && q.2 == 1)))
theorem ik_lv_set1 {ad : Nat → Nat} {rl lv : ik_LV} {σ : SS} {ls : Array Slot} {n k : Nat} {x : Int32} {g : GG} (hr : rl.all (fun q => !(q.1 == k)) = true) (hl : lv_has ls n ((k, Value.int x) :: (ik_lv ad rl lv σ).filter (fun q => !(q.1 == k) && !(q.1 + 1 == k && q.2.category == 2)))) : lv_has ls n (ik_lv ad rl (ik_set1 k lv) (upd σ.1 k x, σ.2.1, g)) := by
  refine ⟨hl.1, hl.2.1, fun q hq => hl.2.2 q ?_⟩
  simp only [ik_lv, List.mem_append, List.mem_map] at hq
  rcases hq with ⟨a, ha, rfl⟩ | ⟨a, ha, rfl⟩
  · have h1 := List.all_eq_true.mp hr a ha
    refine List.mem_cons_of_mem _ (List.mem_filter.mpr ⟨List.mem_append_left _ (List.mem_map.mpr ⟨a, ha, rfl⟩), ?_⟩)
    simp only [Bool.not_eq_true', beq_eq_false_iff_ne, ne_eq] at h1
    simp [h1, Value.category]
  · rcases List.mem_cons.mp ha with rfl | ha
    · simp [upd]
    · obtain ⟨h1, h2⟩ := List.mem_filter.mp ha
      simp only [Bool.and_eq_true, Bool.not_eq_true', beq_eq_false_iff_ne, ne_eq, Bool.and_eq_false_iff] at h2
      refine List.mem_cons_of_mem _ (List.mem_filter.mpr ⟨List.mem_append_right _ (List.mem_map.mpr ⟨a, h1, ?_⟩), ?_⟩)
      · simp [upd, h2.1]
      · rcases h2.2 with h3 | h3
        · simp [h2.1, h3]
        · simp [h2.1, h3, Value.category]
theorem ik_lv_set2 {ad : Nat → Nat} {rl lv : ik_LV} {σ : SS} {ls : Array Slot} {n k : Nat} {x : Int64} {g : GG} (hr : rl.all (fun q => !(q.1 == k) && !(q.1 == k + 1)) = true) (hl : lv_has ls n ((k, Value.long x) :: (ik_lv ad rl lv σ).filter (fun q => !(q.1 == k) && (!(q.1 == k + 1) && !(q.1 + 1 == k && q.2.category == 2))))) : lv_has ls n (ik_lv ad rl (ik_set2 k lv) (σ.1, vp_updL σ.2.1 k x, g)) := by
  refine ⟨hl.1, hl.2.1, fun q hq => hl.2.2 q ?_⟩
  simp only [ik_lv, List.mem_append, List.mem_map] at hq
  rcases hq with ⟨a, ha, rfl⟩ | ⟨a, ha, rfl⟩
  · have h1 := List.all_eq_true.mp hr a ha
    refine List.mem_cons_of_mem _ (List.mem_filter.mpr ⟨List.mem_append_left _ (List.mem_map.mpr ⟨a, ha, rfl⟩), ?_⟩)
    simp only [Bool.and_eq_true, Bool.not_eq_true', beq_eq_false_iff_ne, ne_eq] at h1
    simp [h1.1, h1.2, Value.category]
  · rcases List.mem_cons.mp ha with rfl | ha
    · simp [vp_updL]
    · obtain ⟨h1, h2⟩ := List.mem_filter.mp ha
      simp only [Bool.and_eq_true, Bool.not_eq_true', beq_eq_false_iff_ne, ne_eq, Bool.and_eq_false_iff] at h2
      refine List.mem_cons_of_mem _ (List.mem_filter.mpr ⟨List.mem_append_right _ (List.mem_map.mpr ⟨a, h1, ?_⟩), ?_⟩)
      · simp [vp_updL, h2.1]
      · rcases h2.2.2 with h3 | h3
        · simp [h2.1, h2.2.1, h3]
        · simp [h2.1, h2.2.1, h3, Value.category]
section SX
variable {sc : ik_SC}
def sSkip : ST := fun σ => some (.inl σ)
theorem okSkip : ik_okS sc (fun lv pc => some (lv, pc)) sSkip := by
  intro x hC lv pc lv' pc' σ o hc hs hk hr
  cases hc
  cases hs
  exact hk _ rfl
def pSkip : SP sc := ⟨(fun lv pc => some (lv, pc), sSkip), okSkip⟩
def sSeq (a b : ST) : ST := fun σ => (a σ).bind fun o => match o with
  | .inl σ' => b σ'
  | .inr r => some (.inr r)
theorem okSeq (a b : SP sc) : ik_okS sc (fun lv pc => (a.1.1 lv pc).bind fun q => b.1.1 q.1 q.2) (sSeq a.1.2 b.1.2) := by
  intro x hC lv pc lv' pc' σ o hc hs hk hr
  simp only [Option.bind_eq_some_iff] at hc
  obtain ⟨⟨lv1, p1⟩, h1, h2⟩ := hc
  simp only [sSeq, Option.bind_eq_some_iff] at hs
  obtain ⟨o1, e1, e2⟩ := hs
  refine a.2 x hC lv pc lv1 p1 σ o1 h1 e1 (fun σ' he => ?_) (fun r he => ?_)
  · subst he
    exact b.2 x hC lv1 p1 lv' pc' σ' o h2 e2 hk hr
  · subst he
    cases e2
    exact hr r rfl
def pSeq (a b : SP sc) : SP sc := ⟨(fun lv pc => (a.1.1 lv pc).bind fun q => b.1.1 q.1 q.2, sSeq a.1.2 b.1.2), okSeq a b⟩
-- a local set
def cIst (cc : ByteArray) (k pc : Nat) : Option Nat := match decode cc pc with
  | .ok (.istore_n n, 1) => if (n : Nat) = k then some (pc + 1) else none
  | .ok (.istore n, 2) => if n = k then some (pc + 2) else none
  | _ => none
def sSet (k : Nat) (e : SS → Option (Int32 × GG)) : ST := fun σ => (e σ).map fun q => .inl (upd σ.1 k q.1, σ.2.1, q.2)
theorem okSet (k : Nat) (e : EP sc) : ik_okS sc (fun lv pc => (e.1.1 lv 0 pc).bind fun p1 => if sc.2.2.2.2.1.all (fun q => !(q.1 == k)) = true ∧ k < sc.2.2.1 then (cIst sc.2.1 k p1).map fun p2 => (ik_set1 k lv, p2) else none) (sSet k e.1.2) := by
  intro x hC lv pc lv' pc' σ o hc hs hk hr
  simp only [Option.bind_eq_some_iff] at hc
  obtain ⟨p1, h1, h2⟩ := hc
  split at h2
  · rename_i hcond
    simp only [Option.map_eq_some_iff] at h2
    obtain ⟨p2, h3, h4⟩ := h2
    cases h4
    simp only [sSet, Option.map_eq_some_iff] at hs
    obtain ⟨⟨v1, g1⟩, e1, e4⟩ := hs
    have hk := hk _ e4.symm
    refine e.2 x hC lv 0 pc p1 [] σ v1 g1 h1 ik_cat_0 e1 ?_
    obtain ⟨p, l, e, s, m, args, below, meth, c, ad, D, cA, A, v0, g0⟩ := x
    obtain ⟨hx, hb, hml, hown, hts, hns, hK, hD, hr, hlk⟩ := hC
    intro H locs ls hP hS hl
    unfold cIst at h3
    split at h3
    · rename_i n hdg
      split at h3
      · rename_i he
        cases h3
        exact lv_istore_n hx hb hdg he hl hcond.2 rfl (fun ls' hl' => hk H locs ls' hP hS (ik_lv_set1 hcond.1 hl'))
      · cases h3
    · rename_i n hdg
      split at h3
      · rename_i he
        subst he
        cases h3
        exact lv_istore hx hb hdg hl hcond.2 rfl (fun ls' hl' => hk H locs ls' hP hS (ik_lv_set1 hcond.1 hl'))
      · cases h3
    · cases h3
  · cases h2
def pSet (k : Nat) (e : EP sc) : SP sc := ⟨(fun lv pc => (e.1.1 lv 0 pc).bind fun p1 => if sc.2.2.2.2.1.all (fun q => !(q.1 == k)) = true ∧ k < sc.2.2.1 then (cIst sc.2.1 k p1).map fun p2 => (ik_set1 k lv, p2) else none, sSet k e.1.2), okSet k e⟩
def cLst (cc : ByteArray) (k pc : Nat) : Option Nat := match decode cc pc with
  | .ok (.lstore_n n, 1) => if (n : Nat) = k then some (pc + 1) else none
  | .ok (.lstore n, 2) => if n = k then some (pc + 2) else none
  | _ => none
def sSetL (k : Nat) (e : SS → Option (Int64 × GG)) : ST := fun σ => (e σ).map fun q => .inl (σ.1, vp_updL σ.2.1 k q.1, q.2)
theorem okSetL (k : Nat) (e : JP sc) : ik_okS sc (fun lv pc => (e.1.1 lv 0 pc).bind fun p1 => if sc.2.2.2.2.1.all (fun q => !(q.1 == k) && !(q.1 == k + 1)) = true ∧ k + 1 < sc.2.2.1 then (cLst sc.2.1 k p1).map fun p2 => (ik_set2 k lv, p2) else none) (sSetL k e.1.2) := by
  intro x hC lv pc lv' pc' σ o hc hs hk hr
  simp only [Option.bind_eq_some_iff] at hc
  obtain ⟨p1, h1, h2⟩ := hc
  split at h2
  · rename_i hcond
    simp only [Option.map_eq_some_iff] at h2
    obtain ⟨p2, h3, h4⟩ := h2
    cases h4
    simp only [sSetL, Option.map_eq_some_iff] at hs
    obtain ⟨⟨v1, g1⟩, e1, e4⟩ := hs
    have hk := hk _ e4.symm
    refine e.2 x hC lv 0 pc p1 [] σ v1 g1 h1 ik_cat_0 e1 ?_
    obtain ⟨p, l, e, s, m, args, below, meth, c, ad, D, cA, A, v0, g0⟩ := x
    obtain ⟨hx, hb, hml, hown, hts, hns, hK, hD, hr, hlk⟩ := hC
    intro H locs ls hP hS hl
    unfold cLst at h3
    split at h3
    · rename_i n hdg
      split at h3
      · rename_i he
        cases h3
        exact lv_lstore_n hx hb hdg he hl hcond.2 rfl (fun ls' hl' => hk H locs ls' hP hS (ik_lv_set2 hcond.1 hl'))
      · cases h3
    · rename_i n hdg
      split at h3
      · rename_i he
        subst he
        cases h3
        exact lv_lstore hx hb hdg hl hcond.2 rfl (fun ls' hl' => hk H locs ls' hP hS (ik_lv_set2 hcond.1 hl'))
      · cases h3
    · cases h3
  · cases h2
def pSetL (k : Nat) (e : JP sc) : SP sc := ⟨(fun lv pc => (e.1.1 lv 0 pc).bind fun p1 => if sc.2.2.2.2.1.all (fun q => !(q.1 == k) && !(q.1 == k + 1)) = true ∧ k + 1 < sc.2.2.1 then (cLst sc.2.1 k p1).map fun p2 => (ik_set2 k lv, p2) else none, sSetL k e.1.2), okSetL k e⟩
def sInc (k : Nat) (v : Int32) : ST := fun σ => some (.inl (upd σ.1 k (σ.1 k + v), σ.2.1, σ.2.2))
def cInc (cc : ByteArray) (k : Nat) (v : Int32) (pc : Nat) : Option Nat := match decode cc pc with
  | .ok (.iinc i n, 3) => if i = k ∧ Int32.ofInt n = v then some (pc + 3) else none
  | _ => none
theorem okInc (k : Nat) (v : Int32) : ik_okS sc (fun lv pc => if sc.2.2.2.2.1.all (fun q => !(q.1 == k)) = true ∧ k < sc.2.2.1 ∧ (k, 0) ∈ lv then (cInc sc.2.1 k v pc).map fun p2 => (ik_set1 k lv, p2) else none) (sInc k v) := by
  intro x hC lv pc lv' pc' σ o hc hs hk hr
  dsimp only at hc
  split at hc
  · rename_i hcond
    simp only [Option.map_eq_some_iff] at hc
    obtain ⟨p2, h3, h4⟩ := hc
    cases h4
    cases hs
    have hk := hk _ rfl
    obtain ⟨p, l, e, s, m, args, below, meth, c, ad, D, cA, A, v0, g0⟩ := x
    obtain ⟨hx, hb, hml, hown, hts, hns, hK, hD, hr, hlk⟩ := hC
    intro H locs ls hP hS hl
    unfold cInc at h3
    split at h3
    · rename_i i n hdg
      split at h3
      · rename_i he
        obtain ⟨rfl, rfl⟩ := he
        cases h3
        have hm : (i, Value.int (σ.1 i)) ∈ ik_lv ad sc.2.2.2.2.1 lv σ := List.mem_append_right _ (List.mem_map.mpr ⟨(i, 0), hcond.2.2, rfl⟩)
        obtain ⟨kk, hkk⟩ := List.getElem?_of_mem hm
        exact lv_iinc hx hb hdg hl hkk rfl hcond.2.1 rfl (fun ls' hl' => hk H locs ls' hP hS (ik_lv_set1 hcond.1 hl'))
      · cases h3
    · cases h3
  · cases hc
def pInc (k : Nat) (v : Int32) : SP sc := ⟨(fun lv pc => if sc.2.2.2.2.1.all (fun q => !(q.1 == k)) = true ∧ k < sc.2.2.1 ∧ (k, 0) ∈ lv then (cInc sc.2.1 k v pc).map fun p2 => (ik_set1 k lv, p2) else none, sInc k v), okInc k v⟩
-- one of two, by a condition
def ik_meet (lv lv1 lv2 : ik_LV) : ik_LV := lv1.filter (fun q => decide (q ∈ lv2))
def ik_cif (cc : ByteArray) (c : Bool) (a b : Option (ik_LV × Nat)) (E : Nat) : Option (ik_LV × Nat) := match c, a, b with
  | true, some q1, some q2 => if ik_reach cc 3 q1.2 E = true ∧ ik_reach cc 3 q2.2 E = true then some (q1.1.filter (fun q => decide (q ∈ q2.1)), E) else none
  | _, _, _ => none
theorem ik_cif_ok {cc : ByteArray} {c : Bool} {a b : Option (ik_LV × Nat)} {E : Nat} {r : ik_LV × Nat} (h : ik_cif cc c a b E = some r) : ∃ q1 q2, c = true ∧ a = some q1 ∧ b = some q2 ∧ ik_reach cc 3 q1.2 E = true ∧ ik_reach cc 3 q2.2 E = true ∧ r = (q1.1.filter (fun q => decide (q ∈ q2.1)), E) := by
  unfold ik_cif at h
  split at h
  · split at h
    · rename_i q1 q2 h2
      cases h
      exact ⟨q1, q2, rfl, rfl, rfl, h2.1, h2.2, rfl⟩
    · cases h
  · cases h
def sIf (c : SS → Option (Bool × GG)) (a b : ST) : ST := fun σ => (c σ).bind fun q => if q.1 = true then a (σ.1, σ.2.1, q.2) else b (σ.1, σ.2.1, q.2)
theorem okIf (T F E : Nat) (c : CP sc T F) (a b : SP sc) : ik_okS sc (fun lv pc => ik_cif sc.2.1 (c.1.1 lv 0 pc) (a.1.1 lv T) (b.1.1 lv F) E) (sIf c.1.2 a.1.2 b.1.2) := by
  intro x hC lv pc lv' pc' σ o hc hs hk hr
  obtain ⟨q1, q2, h1, h2, h3, h4, h5, h6⟩ := ik_cif_ok hc
  cases h6
  simp only [sIf, Option.bind_eq_some_iff] at hs
  obtain ⟨⟨v1, g1⟩, e1, e2⟩ := hs
  refine c.2 x hC lv 0 pc [] σ v1 g1 h1 ik_cat_0 e1 ?_
  cases v1 with
  | true => exact a.2 x hC lv T q1.1 q1.2 (σ.1, σ.2.1, g1) o h2 e2 (fun σ' he => ik_reach_ok hC (ik_Go_sub (fun q hq => (List.mem_filter.mp hq).1) (hk σ' he)) 3 q1.2 h4) hr
  | false => exact b.2 x hC lv F q2.1 q2.2 (σ.1, σ.2.1, g1) o h3 e2 (fun σ' he => ik_reach_ok hC (ik_Go_sub (fun q hq => of_decide_eq_true (List.mem_filter.mp hq).2) (hk σ' he)) 3 q2.2 h5) hr
def pIf (T F E : Nat) (c : CP sc T F) (a b : SP sc) : SP sc := ⟨(fun lv pc => ik_cif sc.2.1 (c.1.1 lv 0 pc) (a.1.1 lv T) (b.1.1 lv F) E, sIf c.1.2 a.1.2 b.1.2), okIf T F E c a b⟩
-- while: at most n times
def sWh (c : SS → Option (Bool × GG)) (b : ST) : Nat → ST
  | 0, _ => none
  | n + 1, σ => (c σ).bind fun q => if q.1 = true then (b (σ.1, σ.2.1, q.2)).bind (fun o => match o with
      | .inl σ' => sWh c b n σ'
      | .inr r => some (.inr r)) else some (.inl (σ.1, σ.2.1, q.2))
def ik_fuel : Nat := 1000000
def ik_cwh (cc : ByteArray) (c : Bool) (lv : ik_LV) (b : Option (ik_LV × Nat)) (pc F E : Nat) : Option (ik_LV × Nat) := match c, b with
  | true, some q1 => if ik_reach cc 3 q1.2 pc = true ∧ ik_reach cc 3 F E = true ∧ lv.all (fun q => decide (q ∈ q1.1)) = true then some (lv, E) else none
  | _, _ => none
theorem ik_cwh_ok {cc : ByteArray} {c : Bool} {lv : ik_LV} {b : Option (ik_LV × Nat)} {pc F E : Nat} {r : ik_LV × Nat} (h : ik_cwh cc c lv b pc F E = some r) : ∃ q1, c = true ∧ b = some q1 ∧ ik_reach cc 3 q1.2 pc = true ∧ ik_reach cc 3 F E = true ∧ (∀ q ∈ lv, q ∈ q1.1) ∧ r = (lv, E) := by
  unfold ik_cwh at h
  split at h
  · split at h
    · rename_i q1 h2
      cases h
      exact ⟨q1, rfl, rfl, h2.1, h2.2.1, fun q hq => of_decide_eq_true (List.all_eq_true.mp h2.2.2 q hq), rfl⟩
    · cases h
  · cases h
theorem okWh (T F E : Nat) (c : CP sc T F) (b : SP sc) (n : Nat) : ik_okS sc (fun lv pc => ik_cwh sc.2.1 (c.1.1 lv 0 pc) lv (b.1.1 lv T) pc F E) (sWh c.1.2 b.1.2 n) := by
  intro x hC lv pc lv' pc' σ o hc
  obtain ⟨q1, h1, h2, h3, h4, h5, h6⟩ := ik_cwh_ok hc
  cases h6
  induction n generalizing σ with
  | zero => intro hs; cases hs
  | succ n ih =>
    intro hs hk hr
    simp only [sWh, Option.bind_eq_some_iff] at hs
    obtain ⟨⟨v1, g1⟩, e1, e2⟩ := hs
    refine c.2 x hC lv 0 pc [] σ v1 g1 h1 ik_cat_0 e1 ?_
    cases v1 with
    | true =>
      simp only [if_true, Option.bind_eq_some_iff] at e2
      obtain ⟨o1, e3, e4⟩ := e2
      refine b.2 x hC lv T q1.1 q1.2 (σ.1, σ.2.1, g1) o1 h2 e3 (fun σ' he => ?_) (fun r he => ?_)
      · subst he
        exact ik_reach_ok hC (ik_Go_sub h5 (ih σ' e4 hk hr)) 3 q1.2 h3
      · subst he
        cases e4
        exact hr r rfl
    | false =>
      simp only [Bool.false_eq_true, if_false] at e2
      cases e2
      exact ik_reach_ok hC (hk _ rfl) 3 F h4
def pWh (T F E : Nat) (c : CP sc T F) (b : SP sc) : SP sc := ⟨(fun lv pc => ik_cwh sc.2.1 (c.1.1 lv 0 pc) lv (b.1.1 lv T) pc F E, sWh c.1.2 b.1.2 ik_fuel), okWh T F E c b ik_fuel⟩
end SX
