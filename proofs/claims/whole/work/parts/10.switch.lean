-- a switch: the pairs (value, jump) of either kind
def ik_pairs (lo : Int) (offs : Array Int) : List (Int × Int) := (List.range offs.size).map (fun (i : Nat) => (lo + (i : Int), (offs[i]?).getD 0))
def ik_swt (cs : List (Int32 × Nat)) (dp : Nat) (x : Int32) : Nat := match cs.find? (fun c => decide (c.1 = x)) with
  | some c => c.2
  | none => dp
def ik_swok (pc : Nat) (d : Int) (ps : List (Int × Int)) (cs : List (Int32 × Nat)) (dp : Nat) : Bool := decide ((pc : Int) + d = (dp : Int)) && (ps.all (fun q => decide ((Int32.ofInt q.1).toInt = q.1) && decide ((pc : Int) + q.2 = (ik_swt cs dp (Int32.ofInt q.1) : Int))) && cs.all (fun c => (ps.find? (fun q => q.1 == c.1.toInt)).isSome))
theorem ik_swok_in {pc : Nat} {d : Int} {ps : List (Int × Int)} {cs : List (Int32 × Nat)} {dp : Nat} (h : ik_swok pc d ps cs dp = true) {x : Int32} {q : Int × Int} (hq : ps.find? (fun q => q.1 == x.toInt) = some q) : (pc : Int) + q.2 = (ik_swt cs dp x : Int) := by
  simp only [ik_swok, Bool.and_eq_true, decide_eq_true_eq] at h
  have h1 := List.all_eq_true.mp h.2.1 q (List.mem_of_find?_eq_some hq)
  have h2 := List.find?_some hq
  simp only [Bool.and_eq_true, decide_eq_true_eq, beq_iff_eq] at h1 h2
  rw [h1.2, h2, Int32.ofInt_toInt]
theorem ik_swok_out {pc : Nat} {d : Int} {ps : List (Int × Int)} {cs : List (Int32 × Nat)} {dp : Nat} (h : ik_swok pc d ps cs dp = true) {x : Int32} (hq : ps.find? (fun q => q.1 == x.toInt) = none) : (pc : Int) + d = (ik_swt cs dp x : Int) := by
  simp only [ik_swok, Bool.and_eq_true, decide_eq_true_eq] at h
  rw [h.1]
  unfold ik_swt
  split
  · rename_i c hc
    have h1 := List.all_eq_true.mp h.2.2 c (List.mem_of_find?_eq_some hc)
    have h2 := List.find?_some hc
    simp only [decide_eq_true_eq] at h2
    rw [h2, hq] at h1
    cases h1
  · rfl
section SWR
variable {p : Program} {l : Launch} {e : Env} {R : Room} {s : State} {m : MethodId} {args : Array Value} {below : List Frame} {meth : Method} {c : Code} {H : Heap} {locs : List Loc} {cells slots : Nat} {Q : State → Prop}
theorem ik_table_row {cc : ByteArray} {pc len dp : Nat} {ls : Array Slot} {rest : List Value} (hx : p.tables.exec = Jvm.exec) (hb : c.code = cc) {d lo hi : Int} {offs : Array Int} {x : Int32} {cs : List (Int32 × Nat)} (hdg : decode cc pc = .ok (.tableswitch d lo hi offs, len)) (hsz : hi + 1 = lo + (offs.size : Int)) (h : ik_swok pc d (ik_pairs lo offs) cs dp = true) (k : W p l e R s m args below meth c H locs cells slots Q (F0 m (ik_swt cs dp x) ls rest)) : W p l e R s m args below meth c H locs cells slots Q (F0 m pc ls (.int x :: rest)) := by
  cases hq : (ik_pairs lo offs).find? (fun q => q.1 == x.toInt) with
  | some q =>
    have h1 := List.mem_of_find?_eq_some hq
    have h2 := List.find?_some hq
    simp only [beq_iff_eq] at h2
    obtain ⟨i, hi1, rfl⟩ := List.mem_map.mp h1
    have hi2 := List.mem_range.mp hi1
    dsimp only at h2
    refine lv_tableIn (off := (offs[i]?).getD 0) hx hb hdg (by omega) (by omega) ?_ (ik_swok_in h hq) k
    have e : (x.toInt - lo).toNat = i := by omega
    rw [e, Array.getElem?_eq_getElem hi2]
    rfl
  | none =>
    refine lv_tableOut hx hb hdg ?_ (ik_swok_out h hq) k
    rcases Int.lt_or_le x.toInt lo with h1 | h1
    · exact Or.inl h1
    · rcases Int.lt_or_le hi x.toInt with h2 | h2
      · exact Or.inr h2
      · have h3 := List.find?_eq_none.mp hq (lo + ((x.toInt - lo).toNat : Int), (offs[(x.toInt - lo).toNat]?).getD 0) (List.mem_map.mpr ⟨(x.toInt - lo).toNat, List.mem_range.mpr (by omega), rfl⟩)
        exfalso
        apply h3
        simp only [beq_iff_eq]
        omega
theorem ik_lookup_row {cc : ByteArray} {pc len dp : Nat} {ls : Array Slot} {rest : List Value} (hx : p.tables.exec = Jvm.exec) (hb : c.code = cc) {d : Int} {ps : Array (Int × Int)} {x : Int32} {cs : List (Int32 × Nat)} (hdg : decode cc pc = .ok (.lookupswitch d ps, len)) (hp : (ps.toList.zip (ps.toList.drop 1)).all (fun (a, next) => a.1 < next.1) = true) (h : ik_swok pc d ps.toList cs dp = true) (k : W p l e R s m args below meth c H locs cells slots Q (F0 m (ik_swt cs dp x) ls rest)) : W p l e R s m args below meth c H locs cells slots Q (F0 m pc ls (.int x :: rest)) := by
  cases hq : ps.toList.find? (fun q => q.1 == x.toInt) with
  | some q =>
    obtain ⟨a, o⟩ := q
    exact lv_lookup hx hb hdg hp (Op.lookupswitch.offset_some hq) (ik_swok_in h hq) k
  | none => exact lv_lookup hx hb hdg hp (Op.lookupswitch.offset_none hq) (ik_swok_out h hq) k
end SWR
section SW
variable {sc : ik_SC}
def cSw (cc : ByteArray) (cs : List (Int32 × Nat)) (dp pc : Nat) : Bool := match decode cc pc with
  | .ok (.tableswitch d lo hi offs, _) => decide (hi + 1 = lo + (offs.size : Int)) && ik_swok pc d (ik_pairs lo offs) cs dp
  | .ok (.lookupswitch d ps, _) => (ps.toList.zip (ps.toList.drop 1)).all (fun (a, next) => a.1 < next.1) && ik_swok pc d ps.toList cs dp
  | _ => false
theorem cSw_ok {cs : List (Int32 × Nat)} {dp pc : Nat} {x : ik_DX} (hC : ik_Cx sc x) {lv : ik_LV} {st : List Value} {σ : SS} {v : Int32} (h : cSw sc.2.1 cs dp pc = true) (hk : ik_Go sc x lv (ik_swt cs dp v) st σ) : ik_Go sc x lv pc (.int v :: st) σ := by
  obtain ⟨p, l, e, s, m, args, below, meth, c, ad, D, cA, A, v0, g0⟩ := x
  obtain ⟨hx, hb, hml, hown, hts, hns, hK, hD, hr, hlk⟩ := hC
  intro H locs ls hP hS hl
  unfold cSw at h
  split at h
  · rename_i d lo hi offs len hdg
    simp only [Bool.and_eq_true, decide_eq_true_eq] at h
    exact ik_table_row hx hb hdg h.1 h.2 (hk H locs ls hP hS hl)
  · rename_i d ps len hdg
    rw [Bool.and_eq_true] at h
    exact ik_lookup_row hx hb hdg h.1 h.2 (hk H locs ls hP hS hl)
  · cases h
def ik_pick (cs : List (Int32 × Nat × SP sc)) (D : SP sc) (x : Int32) : SP sc := match cs.find? (fun c => decide (c.1 = x)) with
  | some c => c.2.2
  | none => D
def sSw (e : SS → Option (Int32 × GG)) (f : Int32 → ST) : ST := fun σ => (e σ).bind fun q => f q.1 (σ.1, σ.2.1, q.2)
def ik_arm (cc : ByteArray) (lv : ik_LV) (E : Nat) (q : Option (ik_LV × Nat)) : Bool := match q with
  | some r => ik_reach cc 3 r.2 E && lv.all (fun a => decide (a ∈ r.1))
  | none => false
theorem ik_swt_map (cs : List (Int32 × Nat × SP sc)) (dp : Nat) (x : Int32) : ik_swt (cs.map (fun c => (c.1, c.2.1))) dp x = match cs.find? (fun c => decide (c.1 = x)) with
    | some c => c.2.1
    | none => dp := by
  unfold ik_swt
  rw [List.find?_map]
  cases h : cs.find? ((fun c => decide (c.1 = x)) ∘ fun c => (c.1, c.2.1)) with
  | none =>
    have h2 : cs.find? (fun c => decide (c.1 = x)) = none := h
    simp [h2]
  | some c =>
    have h2 : cs.find? (fun c => decide (c.1 = x)) = some c := h
    simp [h2]
def ik_pickS (cs : List (Int32 × ST)) (d : ST) (x : Int32) : ST := match cs.find? (fun c => decide (c.1 = x)) with
  | some c => c.2
  | none => d
theorem ik_pickS_map (cs : List (Int32 × Nat × SP sc)) (D : SP sc) (x : Int32) : ik_pickS (cs.map (fun c => (c.1, c.2.2.1.2))) D.1.2 x = (ik_pick cs D x).1.2 := by
  unfold ik_pickS ik_pick
  rw [List.find?_map]
  cases h : cs.find? ((fun c => decide (c.1 = x)) ∘ fun c => (c.1, c.2.2.1.2)) with
  | none =>
    have h2 : cs.find? (fun c => decide (c.1 = x)) = none := h
    simp [h2]
  | some c =>
    have h2 : cs.find? (fun c => decide (c.1 = x)) = some c := h
    simp [h2]
theorem okSw (e : EP sc) (cs : List (Int32 × Nat × SP sc)) (dp : Nat) (D : SP sc) (E : Nat) : ik_okS sc (fun lv pc => (e.1.1 lv 0 pc).bind fun p1 => if cSw sc.2.1 (cs.map (fun c => (c.1, c.2.1))) dp p1 = true ∧ cs.all (fun c => ik_arm sc.2.1 lv E (c.2.2.1.1 lv c.2.1)) = true ∧ ik_arm sc.2.1 lv E (D.1.1 lv dp) = true then some (lv, E) else none) (sSw e.1.2 (ik_pickS (cs.map (fun c => (c.1, c.2.2.1.2))) D.1.2)) := by
  intro x hC lv pc lv' pc' σ o hc hs hk hr
  simp only [Option.bind_eq_some_iff] at hc
  obtain ⟨p1, h1, h2⟩ := hc
  split at h2
  · rename_i hcond
    cases h2
    simp only [sSw, Option.bind_eq_some_iff] at hs
    obtain ⟨⟨v1, g1⟩, e1, e2⟩ := hs
    refine e.2 x hC lv 0 pc p1 [] σ v1 g1 h1 ik_cat_0 e1 (cSw_ok hC hcond.1 ?_)
    have fin : ∀ (P : SP sc) (q : Nat), ik_arm sc.2.1 lv E (P.1.1 lv q) = true → P.1.2 (σ.1, σ.2.1, g1) = some o → ik_Go sc x lv q [] (σ.1, σ.2.1, g1) := by
      intro P q ha he
      unfold ik_arm at ha
      split at ha
      · rename_i r hP
        simp only [Bool.and_eq_true] at ha
        exact P.2 x hC lv q r.1 r.2 _ o hP he (fun σ' hσ => ik_reach_ok hC (ik_Go_sub (fun a hx => of_decide_eq_true (List.all_eq_true.mp ha.2 a hx)) (hk σ' hσ)) 3 r.2 ha.1) hr
      · cases ha
    rw [ik_swt_map]
    rw [ik_pickS_map] at e2
    unfold ik_pick at e2
    cases hf : cs.find? (fun c => decide (c.1 = v1)) with
    | none =>
      rw [hf] at e2
      exact fin D dp hcond.2.2 e2
    | some c =>
      rw [hf] at e2
      exact fin c.2.2 c.2.1 (List.all_eq_true.mp hcond.2.1 c (List.mem_of_find?_eq_some hf)) e2
  · cases h2
def pSw (e : EP sc) (cs : List (Int32 × Nat × SP sc)) (dp : Nat) (D : SP sc) (E : Nat) : SP sc := ⟨(fun lv pc => (e.1.1 lv 0 pc).bind fun p1 => if cSw sc.2.1 (cs.map (fun c => (c.1, c.2.1))) dp p1 = true ∧ cs.all (fun c => ik_arm sc.2.1 lv E (c.2.2.1.1 lv c.2.1)) = true ∧ ik_arm sc.2.1 lv E (D.1.1 lv dp) = true then some (lv, E) else none, sSw e.1.2 (ik_pickS (cs.map (fun c => (c.1, c.2.2.1.2))) D.1.2)), okSw e cs dp D E⟩
-- a loop that is left in its midst: while (c) { a; if (x) break; b }
def sWhB (c : SS → Option (Bool × GG)) (a : ST) (x : SS → Option (Bool × GG)) (b : ST) : Nat → ST
  | 0, _ => none
  | n + 1, σ => (c σ).bind fun q => if q.1 = true then (a (σ.1, σ.2.1, q.2)).bind (fun o => match o with
      | .inl σ1 => (x σ1).bind fun q2 => if q2.1 = true then some (.inl (σ1.1, σ1.2.1, q2.2)) else (b (σ1.1, σ1.2.1, q2.2)).bind (fun o2 => match o2 with
        | .inl σ2 => sWhB c a x b n σ2
        | .inr r => some (.inr r))
      | .inr r => some (.inr r)) else some (.inl (σ.1, σ.2.1, q.2))
def ik_cwb (cc : ByteArray) (c : Bool) (lv : ik_LV) (a : Option (ik_LV × Nat)) (x : ik_LV → Nat → Bool) (b : ik_LV → Option (ik_LV × Nat)) (pc F TB E : Nat) : Option (ik_LV × Nat) := match c, a with
  | true, some q1 => match x q1.1 q1.2, b q1.1 with
    | true, some q2 => if ik_reach cc 3 q2.2 pc = true ∧ ik_reach cc 3 F E = true ∧ ik_reach cc 3 TB E = true ∧ lv.all (fun q => decide (q ∈ q1.1)) = true ∧ lv.all (fun q => decide (q ∈ q2.1)) = true then some (lv, E) else none
    | _, _ => none
  | _, _ => none
theorem ik_cwb_ok {cc : ByteArray} {c : Bool} {lv : ik_LV} {a : Option (ik_LV × Nat)} {x : ik_LV → Nat → Bool} {b : ik_LV → Option (ik_LV × Nat)} {pc F TB E : Nat} {r : ik_LV × Nat} (h : ik_cwb cc c lv a x b pc F TB E = some r) : ∃ q1 q2, c = true ∧ a = some q1 ∧ x q1.1 q1.2 = true ∧ b q1.1 = some q2 ∧ ik_reach cc 3 q2.2 pc = true ∧ ik_reach cc 3 F E = true ∧ ik_reach cc 3 TB E = true ∧ (∀ q ∈ lv, q ∈ q1.1) ∧ (∀ q ∈ lv, q ∈ q2.1) ∧ r = (lv, E) := by
  unfold ik_cwb at h
  split at h
  · rename_i q1
    split at h
    · rename_i q2 h3 h4
      split at h
      · rename_i h5
        cases h
        exact ⟨q1, q2, rfl, rfl, h3, h4, h5.1, h5.2.1, h5.2.2.1, fun q hq => of_decide_eq_true (List.all_eq_true.mp h5.2.2.2.1 q hq), fun q hq => of_decide_eq_true (List.all_eq_true.mp h5.2.2.2.2 q hq), rfl⟩
      · cases h
    · cases h
  · cases h
theorem okWhB (T F TB FB E : Nat) (c : CP sc T F) (a : SP sc) (y : CP sc TB FB) (b : SP sc) (n : Nat) : ik_okS sc (fun lv pc => ik_cwb sc.2.1 (c.1.1 lv 0 pc) lv (a.1.1 lv T) (fun lv1 p1 => y.1.1 lv1 0 p1) (fun lv1 => b.1.1 lv1 FB) pc F TB E) (sWhB c.1.2 a.1.2 y.1.2 b.1.2 n) := by
  intro x hC lv pc lv' pc' σ o hc
  obtain ⟨q1, q2, h1, h2, h3, h4, h5, h6, h7, h8, h9, h10⟩ := ik_cwb_ok hc
  cases h10
  induction n generalizing σ with
  | zero => intro hs; cases hs
  | succ n ih =>
    intro hs hk hr
    simp only [sWhB, Option.bind_eq_some_iff] at hs
    obtain ⟨⟨v1, g1⟩, e1, e2⟩ := hs
    refine c.2 x hC lv 0 pc [] σ v1 g1 h1 ik_cat_0 e1 ?_
    cases v1 with
    | true =>
      simp only [if_true, Option.bind_eq_some_iff] at e2
      obtain ⟨o1, e3, e4⟩ := e2
      refine a.2 x hC lv T q1.1 q1.2 (σ.1, σ.2.1, g1) o1 h2 e3 (fun σ' he => ?_) (fun r he => ?_)
      · subst he
        simp only [Option.bind_eq_some_iff] at e4
        obtain ⟨⟨v2, g2⟩, e5, e6⟩ := e4
        refine y.2 x hC q1.1 0 q1.2 [] σ' v2 g2 h3 ik_cat_0 e5 ?_
        cases v2 with
        | true =>
          simp only [if_true] at e6
          cases e6
          exact ik_reach_ok hC (ik_Go_sub h8 (hk _ rfl)) 3 TB h7
        | false =>
          simp only [Bool.false_eq_true, if_false, Option.bind_eq_some_iff] at e6
          obtain ⟨o2, e7, e8⟩ := e6
          refine b.2 x hC q1.1 FB q2.1 q2.2 _ o2 h4 e7 (fun σ2 he => ?_) (fun r he => ?_)
          · subst he
            exact ik_reach_ok hC (ik_Go_sub h9 (ih σ2 e8 hk hr)) 3 q2.2 h5
          · subst he
            cases e8
            exact hr r rfl
      · subst he
        cases e4
        exact hr r rfl
    | false =>
      simp only [Bool.false_eq_true, if_false] at e2
      cases e2
      exact ik_reach_ok hC (hk _ rfl) 3 F h6
def pWhB (T F TB FB E : Nat) (c : CP sc T F) (a : SP sc) (y : CP sc TB FB) (b : SP sc) : SP sc := ⟨(fun lv pc => ik_cwb sc.2.1 (c.1.1 lv 0 pc) lv (a.1.1 lv T) (fun lv1 p1 => y.1.1 lv1 0 p1) (fun lv1 => b.1.1 lv1 FB) pc F TB E, sWhB c.1.2 a.1.2 y.1.2 b.1.2 ik_fuel), okWhB T F TB FB E c a y b ik_fuel⟩
-- a stretch that never comes to its end but by a return
def sDead (b : ST) : ST := fun σ => (b σ).bind fun o => match o with
  | .inl _ => none
  | .inr r => some (.inr r)
theorem okDead (E : Nat) (b : SP sc) : ik_okS sc (fun lv pc => (b.1.1 lv pc).map fun _ => (lv, E)) (sDead b.1.2) := by
  intro x hC lv pc lv' pc' σ o hc hs hk hr
  simp only [Option.map_eq_some_iff] at hc
  obtain ⟨⟨l1, p1⟩, h1, h2⟩ := hc
  simp only [sDead, Option.bind_eq_some_iff] at hs
  obtain ⟨o1, e1, e2⟩ := hs
  refine b.2 x hC lv pc l1 p1 σ o1 h1 e1 (fun σ' he => ?_) (fun r he => ?_)
  · subst he; cases e2
  · subst he; cases e2; exact hr r rfl
def pDead (E : Nat) (b : SP sc) : SP sc := ⟨(fun lv pc => (b.1.1 lv pc).map fun _ => (lv, E), sDead b.1.2), okDead E b⟩
-- System.arraycopy of one int array to another, from 0, n of them
def sCopy (a b n0 n1 : Nat) (n : Int32) : ST := fun σ => if n < 0 ∨ n0 < n.toNatClampNeg ∨ n1 < n.toNatClampNeg then none else some (.inl (σ.1, σ.2.1, (fun i j => if i = b ∧ j < n.toNatClampNeg then σ.2.2.1 a j else σ.2.2.1 i j, σ.2.2.2)))
def ik_ACP (own : String) (idx : Nat) : Prop := Cond.methodLink own idx arraycopyName ∈ lw_tbl ∧ Cond.native arraycopyName ∈ lw_tbl ∧ Cond.static arraycopyName ∈ lw_tbl ∧ Cond.initialized "java/lang/System" ∈ lw_tbl
theorem okCopy {a b : Nat} (idx n0 n1 : Nat) (n : Int32) (h : ik_ACP sc.2.2.2.1 idx) (hlv : 1 ≤ sc.2.2.2.2.2.1) (r1 : RP sc a) (r2 : RP sc b) (z1 z2 e : EP sc) (hz1 : z1.1.2 = sLit 0) (hz2 : z2.1.2 = sLit 0) (he : e.1.2 = sLit n) (hr : nativeFrameWords "java/lang/System" "arraycopy" 5 + 11 ≤ 200) : ik_okS sc (fun lv pc => (r1.1 lv 0 pc).bind fun p1 => (z1.1.1 lv 1 p1).bind fun p2 => (r2.1 lv 2 p2).bind fun p3 => (z2.1.1 lv 3 p3).bind fun p4 => (e.1.1 lv 4 p4).bind fun p5 => if ik_isA sc.1 a 0 n0 = true ∧ ik_isA sc.1 b 0 n1 = true then (cCall sc.2.1 (.invokestatic idx) 0 p5).map fun p6 => (lv, p6) else none) (sCopy a b n0 n1 n) := by
  intro x hC lv pc lv' pc' σ o hc hs hk hrr
  simp only [Option.bind_eq_some_iff] at hc
  obtain ⟨p1, h1, p2, h2, p3, h3, p4, h4, p5, h5, h6⟩ := hc
  split at h6
  · rename_i hi
    simp only [Option.map_eq_some_iff] at h6
    obtain ⟨p6, h7, h8⟩ := h6
    cases h8
    obtain ⟨-, hdg, rfl⟩ := cCall_ok h7
    unfold sCopy at hs
    split at hs
    · cases hs
    · rename_i hn
      cases hs
      have hk := hk _ rfl
      refine r1.2 x hC lv 0 pc p1 [] σ h1 ?_
      refine z1.2 x hC lv 1 p1 p2 _ σ 0 σ.2.2 h2 (ik_cat_r ik_cat_0) (by rw [hz1]; rfl) ?_
      refine r2.2 x hC lv 2 p2 p3 _ σ h3 ?_
      refine z2.2 x hC lv 3 p3 p4 _ σ 0 σ.2.2 h4 (ik_cat_r (ik_cat_i (ik_cat_r ik_cat_0))) (by rw [hz2]; rfl) ?_
      refine e.2 x hC lv 4 p4 p5 _ σ n σ.2.2 h5 (ik_cat_i (ik_cat_r (ik_cat_i (ik_cat_r ik_cat_0)))) (by rw [he]; rfl) ?_
      obtain ⟨p, l, ee, s, m, args, below, meth, c, ad, D, cA, A, v0, g0⟩ := x
      obtain ⟨hx, hb, hml, hown, hts, hns, hK, hD, hrt, hlk⟩ := hC
      intro H locs ls hP hS hl
      have ha := ik_isA_ok (ad := ad) (cA := cA) (g := σ.2.2) hi.1
      have hb2 := ik_isA_ok (ad := ad) (cA := cA) (g := σ.2.2) hi.2
      refine va_copyi hx hb (by rw [hml]; exact hl.1.symm) hown (hts _ (ik_gd h.1 rfl)) (hts _ (ik_gd h.2.1 rfl)) (hts _ (ik_gd h.2.2.1 rfl)) (hts _ (ik_gd h.2.2.2 rfl)) hK hP (hD _) hS a b 0 0 ha.2 hb2.2 rfl rfl rfl (by decide) (by decide) (fun z => hn (Or.inl z)) ?_ ?_ (fun _ _ => rfl) hlv ?_ hdg (fun H1 locs1 hP1 _ hS1 => ?_)
      · show 0 + _ ≤ _
        have := fun z => hn (Or.inr (Or.inl z))
        omega
      · show 0 + _ ≤ _
        have := fun z => hn (Or.inr (Or.inr z))
        omega
      · show 0 + _ ≤ 200 * _
        omega
      · have e1 := ik_w_set (wd := sc.1) (ad := ad) (cA := cA) (g := σ.2.2) (g' := (fun i j => if i = b ∧ j < n.toNatClampNeg then σ.2.2.1 a j else σ.2.2.1 i j, σ.2.2.2)) (e := .inl (cA 0, n1, .inl (va_cpy (σ.2.2.1 a) (σ.2.2.1 b) (Int32.toNatClampNeg 0) (Int32.toNatClampNeg 0) n.toNatClampNeg))) hb2.1 ?_ (fun q hq => ⟨?_, rfl⟩)
        · exact hk H1 locs1 ls (e1 ▸ hP1) hS1 hl
        · have z : Int32.toNatClampNeg 0 = 0 := rfl
          have e2 : (fun j => if b = b ∧ j < n.toNatClampNeg then σ.2.2.1 a j else σ.2.2.1 b j) = va_cpy (σ.2.2.1 a) (σ.2.2.1 b) (Int32.toNatClampNeg 0) (Int32.toNatClampNeg 0) n.toNatClampNeg := by
            funext j
            simp [va_cpy, z]
          show Sum.inl (cA 0, n1, Sum.inl (fun j => if b = b ∧ j < n.toNatClampNeg then σ.2.2.1 a j else σ.2.2.1 b j)) = _
          rw [e2]
        · funext j
          simp [hq]
  · cases h6
def pCopy {a b : Nat} (idx n0 n1 : Nat) (n : Int32) (h : ik_ACP sc.2.2.2.1 idx) (hlv : 1 ≤ sc.2.2.2.2.2.1) (r1 : RP sc a) (r2 : RP sc b) (z1 z2 e : EP sc) (hz1 : z1.1.2 = sLit 0) (hz2 : z2.1.2 = sLit 0) (he : e.1.2 = sLit n) (hr : nativeFrameWords "java/lang/System" "arraycopy" 5 + 11 ≤ 200) : SP sc := ⟨(fun lv pc => (r1.1 lv 0 pc).bind fun p1 => (z1.1.1 lv 1 p1).bind fun p2 => (r2.1 lv 2 p2).bind fun p3 => (z2.1.1 lv 3 p3).bind fun p4 => (e.1.1 lv 4 p4).bind fun p5 => if ik_isA sc.1 a 0 n0 = true ∧ ik_isA sc.1 b 0 n1 = true then (cCall sc.2.1 (.invokestatic idx) 0 p5).map fun p6 => (lv, p6) else none, sCopy a b n0 n1 n), okCopy idx n0 n1 n h hlv r1 r2 z1 z2 e hz1 hz2 he hr⟩
end SW
