-- comparisons: 0 = 1 ≠ 2 < 3 ≥ 4 > 5 ≤
def ik_cc : Nat → ClassFile.Cond
  | 0 => .eq | 1 => .ne | 2 => .lt | 3 => .ge | 4 => .gt | _ => .le
def ik_cmp : Nat → Int32 → Int32 → Bool
  | 0, x, y => decide (x = y)
  | 1, x, y => !decide (x = y)
  | 2, x, y => decide (x < y)
  | 3, x, y => decide (y ≤ x)
  | 4, x, y => decide (y < x)
  | _, x, y => decide (x ≤ y)
def ik_cmpL : Nat → Int64 → Int64 → Bool
  | 0, x, y => decide (x = y)
  | 1, x, y => !decide (x = y)
  | 2, x, y => decide (x < y)
  | 3, x, y => decide (y ≤ x)
  | 4, x, y => decide (y < x)
  | _, x, y => decide (x ≤ y)
def ik_neg : Nat → Nat
  | 0 => 1 | 1 => 0 | 2 => 3 | 3 => 2 | 4 => 5 | _ => 4
theorem ik_cmp_neg (o : Nat) (x y : Int32) : ik_cmp (ik_neg o) x y = !ik_cmp o x y := by
  match o with
  | 0 => rfl
  | 1 => simp [ik_neg, ik_cmp]
  | 2 => simp [ik_neg, ik_cmp, ← Int32.not_lt]
  | 3 => simp [ik_neg, ik_cmp, ← Int32.not_lt]
  | 4 => simp [ik_neg, ik_cmp, ← Int32.not_lt]
  | n + 5 => simp [ik_neg, ik_cmp, ← Int32.not_lt]
theorem ik_lcmp (o : Nat) (x y : Int64) : ik_cmp o (lg_cmp x y) 0 = ik_cmpL o x y := by
  have h1 : (lg_cmp x y = 0) ↔ x = y := by
    unfold lg_cmp
    simp only [gt_iff_lt, Int64.lt_iff_toInt_lt, ← Int64.toInt_inj]
    repeat' split
    · constructor
      · intro h; cases h
      · intro h; omega
    · constructor
      · intro h; assumption
      · intro h; rfl
    · constructor
      · intro h; cases h
      · intro h; omega
  have h2 : (lg_cmp x y < 0) ↔ x < y := by
    unfold lg_cmp
    simp only [gt_iff_lt, Int64.lt_iff_toInt_lt, ← Int64.toInt_inj]
    repeat' split
    · constructor
      · intro h; exact absurd h (by decide)
      · intro h; omega
    · constructor
      · intro h; exact absurd h (by decide)
      · intro h; omega
    · constructor
      · intro h; omega
      · intro h; decide
  have h3 : (0 < lg_cmp x y) ↔ y < x := by
    unfold lg_cmp
    simp only [gt_iff_lt, Int64.lt_iff_toInt_lt, ← Int64.toInt_inj]
    repeat' split
    · constructor
      · intro h; omega
      · intro h; decide
    · constructor
      · intro h; exact absurd h (by decide)
      · intro h; omega
    · constructor
      · intro h; exact absurd h (by decide)
      · intro h; omega
  match o with
  | 0 => simp [ik_cmp, ik_cmpL, h1]
  | 1 => simp [ik_cmp, ik_cmpL, h1]
  | 2 => simp [ik_cmp, ik_cmpL, h2]
  | 3 => simp [ik_cmp, ik_cmpL, ← Int32.not_lt, ← Int64.not_lt, h2]
  | 4 => simp [ik_cmp, ik_cmpL, h3]
  | n + 5 => simp [ik_cmp, ik_cmpL, ← Int32.not_lt, ← Int64.not_lt, h3]
section CR
variable {p : Program} {l : Launch} {e : Env} {R : Room} {s : State} {m : MethodId} {args : Array Value} {below : List Frame} {meth : Method} {c : Code} {H : Heap} {locs : List Loc} {cells slots : Nat} {Q : State → Prop}
theorem ik_icmp_row {cc : ByteArray} {pc : Nat} {ls : Array Slot} {rest : List Value} (hx : p.tables.exec = Jvm.exec) (hb : c.code = cc) {o : Nat} {x y : Int32} {off : Int} {tgt : Nat} (hdg : decode cc pc = .ok (.if_icmp (ik_cc o) off, 3)) (ht : (pc : Int) + off = (tgt : Int)) (k : W p l e R s m args below meth c H locs cells slots Q (F0 m (if ik_cmp o x y = true then tgt else pc + 3) ls rest)) : W p l e R s m args below meth c H locs cells slots Q (F0 m pc ls (.int y :: .int x :: rest)) := by
  match o, k, hdg with
  | 0, k, hdg => exact lv_icmp_eq hx hb hdg ht (fun h => by rwa [if_pos (by simpa [ik_cmp] using h)] at k) (fun h => by rwa [if_neg (by simpa [ik_cmp] using h)] at k)
  | 1, k, hdg => exact lv_icmp_ne hx hb hdg ht (fun h => by rwa [if_pos (by simpa [ik_cmp] using h)] at k) (fun h => by rwa [if_neg (by simpa [ik_cmp] using h)] at k)
  | 2, k, hdg => exact lv_icmp_lt hx hb hdg ht (fun h => by rwa [if_pos (by simpa only [ik_cmp, decide_eq_true_eq] using h)] at k) (fun h => by rwa [if_neg (by simpa only [ik_cmp, decide_eq_true_eq] using h)] at k)
  | 3, k, hdg => exact lv_icmp_ge hx hb hdg ht (fun h => by rwa [if_pos (by simpa only [ik_cmp, decide_eq_true_eq] using h)] at k) (fun h => by rwa [if_neg (by simpa only [ik_cmp, decide_eq_true_eq] using h)] at k)
  | 4, k, hdg => exact lv_icmp_gt hx hb hdg ht (fun h => by rwa [if_pos (by simpa only [ik_cmp, decide_eq_true_eq] using h)] at k) (fun h => by rwa [if_neg (by simpa only [ik_cmp, decide_eq_true_eq] using h)] at k)
  | n + 5, k, hdg => exact lv_icmp_le hx hb hdg ht (fun h => by rwa [if_pos (by simpa only [ik_cmp, decide_eq_true_eq] using h)] at k) (fun h => by rwa [if_neg (by simpa only [ik_cmp, decide_eq_true_eq] using h)] at k)
theorem ik_if_row {cc : ByteArray} {pc : Nat} {ls : Array Slot} {rest : List Value} (hx : p.tables.exec = Jvm.exec) (hb : c.code = cc) {o : Nat} {x : Int32} {off : Int} {tgt : Nat} (hdg : decode cc pc = .ok (.ifCond (ik_cc o) off, 3)) (ht : (pc : Int) + off = (tgt : Int)) (k : W p l e R s m args below meth c H locs cells slots Q (F0 m (if ik_cmp o x 0 = true then tgt else pc + 3) ls rest)) : W p l e R s m args below meth c H locs cells slots Q (F0 m pc ls (.int x :: rest)) := by
  match o, k, hdg with
  | 0, k, hdg => exact lv_if_eq hx hb hdg ht (fun h => by rwa [if_pos (by simpa [ik_cmp] using h)] at k) (fun h => by rwa [if_neg (by simpa [ik_cmp] using h)] at k)
  | 1, k, hdg => exact lv_if_ne hx hb hdg ht (fun h => by rwa [if_pos (by simpa [ik_cmp] using h)] at k) (fun h => by rwa [if_neg (by simpa [ik_cmp] using h)] at k)
  | 2, k, hdg => exact lv_if_lt hx hb hdg ht (fun h => by rwa [if_pos (by simpa only [ik_cmp, decide_eq_true_eq] using h)] at k) (fun h => by rwa [if_neg (by simpa only [ik_cmp, decide_eq_true_eq] using h)] at k)
  | 3, k, hdg => exact lv_if_ge hx hb hdg ht (fun h => by rwa [if_pos (by simpa only [ik_cmp, decide_eq_true_eq] using h)] at k) (fun h => by rwa [if_neg (by simpa only [ik_cmp, decide_eq_true_eq] using h)] at k)
  | 4, k, hdg => exact lv_if_gt hx hb hdg ht (fun h => by rwa [if_pos (by simpa only [ik_cmp, decide_eq_true_eq] using h)] at k) (fun h => by rwa [if_neg (by simpa only [ik_cmp, decide_eq_true_eq] using h)] at k)
  | n + 5, k, hdg => exact lv_if_le hx hb hdg ht (fun h => by rwa [if_pos (by simpa only [ik_cmp, decide_eq_true_eq] using h)] at k) (fun h => by rwa [if_neg (by simpa only [ik_cmp, decide_eq_true_eq] using h)] at k)
end CR
-- the jump at a comparison's end: on true to T, on false to F; behind the jump it may go on by jumps
def ik_jmp (cc : ByteArray) (pc : Nat) (off : Int) (c : ClassFile.Cond) (o T F : Nat) : Bool := (decide (c = ik_cc o) && (decide ((pc : Int) + off = (T : Int)) && ik_reach cc 3 (pc + 3) F)) || (decide (c = ik_cc (ik_neg o)) && (decide ((pc : Int) + off = (F : Int)) && ik_reach cc 3 (pc + 3) T))
def cIcmp (cc : ByteArray) (o T F pc : Nat) : Bool := match decode cc pc with
  | .ok (.if_icmp c off, 3) => ik_jmp cc pc off c o T F
  | _ => false
def cIf (cc : ByteArray) (o T F pc : Nat) : Bool := match decode cc pc with
  | .ok (.ifCond c off, 3) => ik_jmp cc pc off c o T F
  | _ => false
theorem ik_jmp_ok {sc : ik_SC} {x : ik_DX} (hC : ik_Cx sc x) {lv : ik_LV} {st : List Value} {σ : SS} {pc : Nat} {off : Int} {c : ClassFile.Cond} {o T F : Nat} {a b : Int32} (h : ik_jmp sc.2.1 pc off c o T F = true) (hk : ik_Go sc x lv (if ik_cmp o a b = true then T else F) st σ) : ∃ (o' tgt : Nat), c = ik_cc o' ∧ (pc : Int) + off = (tgt : Int) ∧ ik_Go sc x lv (if ik_cmp o' a b = true then tgt else pc + 3) st σ := by
  simp only [ik_jmp, Bool.or_eq_true, Bool.and_eq_true, decide_eq_true_eq] at h
  rcases h with ⟨h1, h2, h3⟩ | ⟨h1, h2, h3⟩
  · refine ⟨o, T, h1, h2, ?_⟩
    cases hb : ik_cmp o a b with
    | true => rw [hb] at hk; exact hk
    | false => rw [hb] at hk; exact ik_reach_ok hC hk 3 _ h3
  · refine ⟨ik_neg o, F, h1, h2, ?_⟩
    rw [ik_cmp_neg]
    cases hb : ik_cmp o a b with
    | true => rw [hb] at hk; exact ik_reach_ok hC hk 3 _ h3
    | false => rw [hb] at hk; exact hk
section CX
variable {sc : ik_SC} {T F : Nat}
def sCmp (o : Nat) (a b : SS → Option (Int32 × GG)) : SS → Option (Bool × GG) := fun σ => (a σ).bind fun q => (b (σ.1, σ.2.1, q.2)).map fun r => (ik_cmp o q.1 r.1, r.2)
theorem okCmp (o : Nat) (a b : EP sc) : ik_okC sc T F (fun lv d pc => match a.1.1 lv d pc with
    | none => false
    | some p1 => match b.1.1 lv (d + 1) p1 with
      | none => false
      | some p2 => cIcmp sc.2.1 o T F p2) (sCmp o a.1.2 b.1.2) := by
  intro x hC lv d pc st σ v g' hc hd hs hk
  dsimp only at hc
  split at hc
  · cases hc
  · rename_i p1 h1
    split at hc
    · cases hc
    · rename_i p2 h2
      unfold cIcmp at hc
      split at hc
      · rename_i c' off hdg
        simp only [sCmp, Option.bind_eq_some_iff, Option.map_eq_some_iff] at hs
        obtain ⟨⟨v1, g1⟩, e1, ⟨v2, g2⟩, e2, e4⟩ := hs
        cases e4
        refine a.2 x hC lv d pc p1 st σ v1 g1 h1 hd e1 ?_
        refine b.2 x hC lv (d + 1) p1 p2 (.int v1 :: st) (σ.1, σ.2.1, g1) v2 g2 h2 (ik_cat_i hd) e2 ?_
        obtain ⟨o', tgt, rfl, ht, hj⟩ := ik_jmp_ok hC hc hk
        obtain ⟨p, l, e, s, m, args, below, meth, c, ad, D, cA, A, v0, g0⟩ := x
        obtain ⟨hx, hb, hml, hown, hts, hns, hK, hD, hr, hlk⟩ := hC
        intro H locs ls hP hS hl
        exact ik_icmp_row hx hb hdg ht (hj H locs ls hP hS hl)
      · cases hc
def cCmp (o : Nat) (a b : EP sc) : CP sc T F := ⟨(fun lv d pc => match a.1.1 lv d pc with
    | none => false
    | some p1 => match b.1.1 lv (d + 1) p1 with
      | none => false
      | some p2 => cIcmp sc.2.1 o T F p2, sCmp o a.1.2 b.1.2), okCmp o a b⟩
def sCmp0 (o : Nat) (a : SS → Option (Int32 × GG)) : SS → Option (Bool × GG) := fun σ => (a σ).map fun q => (ik_cmp o q.1 0, q.2)
theorem okCmp0 (o : Nat) (a : EP sc) : ik_okC sc T F (fun lv d pc => match a.1.1 lv d pc with
    | none => false
    | some p1 => cIf sc.2.1 o T F p1) (sCmp0 o a.1.2) := by
  intro x hC lv d pc st σ v g' hc hd hs hk
  dsimp only at hc
  split at hc
  · cases hc
  · rename_i p1 h1
    unfold cIf at hc
    split at hc
    · rename_i c' off hdg
      simp only [sCmp0, Option.map_eq_some_iff] at hs
      obtain ⟨⟨v1, g1⟩, e1, e4⟩ := hs
      cases e4
      refine a.2 x hC lv d pc p1 st σ v1 g1 h1 hd e1 ?_
      obtain ⟨o', tgt, rfl, ht, hj⟩ := ik_jmp_ok hC hc hk
      obtain ⟨p, l, e, s, m, args, below, meth, c, ad, D, cA, A, v0, g0⟩ := x
      obtain ⟨hx, hb, hml, hown, hts, hns, hK, hD, hr, hlk⟩ := hC
      intro H locs ls hP hS hl
      exact ik_if_row hx hb hdg ht (hj H locs ls hP hS hl)
    · cases hc
def cCmp0 (o : Nat) (a : EP sc) : CP sc T F := ⟨(fun lv d pc => match a.1.1 lv d pc with
    | none => false
    | some p1 => cIf sc.2.1 o T F p1, sCmp0 o a.1.2), okCmp0 o a⟩
def sCmpL (o : Nat) (a b : SS → Option (Int64 × GG)) : SS → Option (Bool × GG) := fun σ => (a σ).bind fun q => (b (σ.1, σ.2.1, q.2)).map fun r => (ik_cmpL o q.1 r.1, r.2)
theorem okCmpL (o : Nat) (a b : JP sc) : ik_okC sc T F (fun lv d pc => match a.1.1 lv d pc with
    | none => false
    | some p1 => match b.1.1 lv (d + 2) p1 with
      | none => false
      | some p2 => match cOp sc.2.1 .lcmp p2 with
        | none => false
        | some p3 => cIf sc.2.1 o T F p3) (sCmpL o a.1.2 b.1.2) := by
  intro x hC lv d pc st σ v g' hc hd hs hk
  dsimp only at hc
  split at hc
  · cases hc
  · rename_i p1 h1
    split at hc
    · cases hc
    · rename_i p2 h2
      split at hc
      · cases hc
      · rename_i p3 h3
        obtain ⟨hdg3, rfl⟩ := cOp_ok h3
        unfold cIf at hc
        split at hc
        · rename_i c' off hdg
          simp only [sCmpL, Option.bind_eq_some_iff, Option.map_eq_some_iff] at hs
          obtain ⟨⟨v1, g1⟩, e1, ⟨v2, g2⟩, e2, e4⟩ := hs
          cases e4
          refine a.2 x hC lv d pc p1 st σ v1 g1 h1 hd e1 ?_
          refine b.2 x hC lv (d + 2) p1 p2 (.long v1 :: st) (σ.1, σ.2.1, g1) v2 g2 h2 (ik_cat_l hd) e2 ?_
          rw [← ik_lcmp] at hk
          obtain ⟨o', tgt, rfl, ht, hj⟩ := ik_jmp_ok hC hc hk
          obtain ⟨p, l, e, s, m, args, below, meth, c, ad, D, cA, A, v0, g0⟩ := x
          obtain ⟨hx, hb, hml, hown, hts, hns, hK, hD, hr, hlk⟩ := hC
          intro H locs ls hP hS hl
          exact W.lcmp hx hb hdg3 (ik_if_row hx hb hdg ht (hj H locs ls hP hS hl))
        · cases hc
def cCmpL (o : Nat) (a b : JP sc) : CP sc T F := ⟨(fun lv d pc => match a.1.1 lv d pc with
    | none => false
    | some p1 => match b.1.1 lv (d + 2) p1 with
      | none => false
      | some p2 => match cOp sc.2.1 .lcmp p2 with
        | none => false
        | some p3 => cIf sc.2.1 o T F p3, sCmpL o a.1.2 b.1.2), okCmpL o a b⟩
-- one and the other; one or the other; not so; of one of two
def sAnd (a b : SS → Option (Bool × GG)) : SS → Option (Bool × GG) := fun σ => (a σ).bind fun q => if q.1 = true then b (σ.1, σ.2.1, q.2) else some (false, q.2)
theorem okAnd (M : Nat) (a : CP sc M F) (b : CP sc T F) : ik_okC sc T F (fun lv d pc => a.1.1 lv d pc && b.1.1 lv d M) (sAnd a.1.2 b.1.2) := by
  intro x hC lv d pc st σ v g' hc hd hs hk
  simp only [Bool.and_eq_true] at hc
  simp only [sAnd, Option.bind_eq_some_iff] at hs
  obtain ⟨⟨v1, g1⟩, e1, e2⟩ := hs
  refine a.2 x hC lv d pc st σ v1 g1 hc.1 hd e1 ?_
  cases v1 with
  | true => exact b.2 x hC lv d M st (σ.1, σ.2.1, g1) v g' hc.2 hd e2 hk
  | false => cases e2; exact hk
def cAnd (M : Nat) (a : CP sc M F) (b : CP sc T F) : CP sc T F := ⟨(fun lv d pc => a.1.1 lv d pc && b.1.1 lv d M, sAnd a.1.2 b.1.2), okAnd M a b⟩
def sOr (a b : SS → Option (Bool × GG)) : SS → Option (Bool × GG) := fun σ => (a σ).bind fun q => if q.1 = true then some (true, q.2) else b (σ.1, σ.2.1, q.2)
theorem okOr (M : Nat) (a : CP sc T M) (b : CP sc T F) : ik_okC sc T F (fun lv d pc => a.1.1 lv d pc && b.1.1 lv d M) (sOr a.1.2 b.1.2) := by
  intro x hC lv d pc st σ v g' hc hd hs hk
  simp only [Bool.and_eq_true] at hc
  simp only [sOr, Option.bind_eq_some_iff] at hs
  obtain ⟨⟨v1, g1⟩, e1, e2⟩ := hs
  refine a.2 x hC lv d pc st σ v1 g1 hc.1 hd e1 ?_
  cases v1 with
  | false => exact b.2 x hC lv d M st (σ.1, σ.2.1, g1) v g' hc.2 hd e2 hk
  | true => cases e2; exact hk
def cOr (M : Nat) (a : CP sc T M) (b : CP sc T F) : CP sc T F := ⟨(fun lv d pc => a.1.1 lv d pc && b.1.1 lv d M, sOr a.1.2 b.1.2), okOr M a b⟩
def sNot (a : SS → Option (Bool × GG)) : SS → Option (Bool × GG) := fun σ => (a σ).map fun q => (!q.1, q.2)
theorem okNot (a : CP sc F T) : ik_okC sc T F (fun lv d pc => a.1.1 lv d pc) (sNot a.1.2) := by
  intro x hC lv d pc st σ v g' hc hd hs hk
  simp only [sNot, Option.map_eq_some_iff] at hs
  obtain ⟨⟨v1, g1⟩, e1, e2⟩ := hs
  cases e2
  refine a.2 x hC lv d pc st σ v1 g1 hc hd e1 ?_
  cases v1 <;> exact hk
def cNot (a : CP sc F T) : CP sc T F := ⟨(fun lv d pc => a.1.1 lv d pc, sNot a.1.2), okNot a⟩
def sIteC (c a b : SS → Option (Bool × GG)) : SS → Option (Bool × GG) := fun σ => (c σ).bind fun q => if q.1 = true then a (σ.1, σ.2.1, q.2) else b (σ.1, σ.2.1, q.2)
theorem okIteC (M1 M2 T1 : Nat) (c : CP sc M1 M2) (a : CP sc T1 F) (b : CP sc T F) : ik_okC sc T F (fun lv d pc => c.1.1 lv d pc && (a.1.1 lv d M1 && (b.1.1 lv d M2 && ik_reach sc.2.1 3 T1 T))) (sIteC c.1.2 a.1.2 b.1.2) := by
  intro x hC lv d pc st σ v g' hc hd hs hk
  simp only [Bool.and_eq_true] at hc
  simp only [sIteC, Option.bind_eq_some_iff] at hs
  obtain ⟨⟨v1, g1⟩, e1, e2⟩ := hs
  refine c.2 x hC lv d pc st σ v1 g1 hc.1 hd e1 ?_
  cases v1 with
  | true =>
    refine a.2 x hC lv d M1 st (σ.1, σ.2.1, g1) v g' hc.2.1 hd e2 ?_
    cases v with
    | true => exact ik_reach_ok hC hk 3 T1 hc.2.2.2
    | false => exact hk
  | false => exact b.2 x hC lv d M2 st (σ.1, σ.2.1, g1) v g' hc.2.2.1 hd e2 hk
def cIteC (M1 M2 T1 : Nat) (c : CP sc M1 M2) (a : CP sc T1 F) (b : CP sc T F) : CP sc T F := ⟨(fun lv d pc => c.1.1 lv d pc && (a.1.1 lv d M1 && (b.1.1 lv d M2 && ik_reach sc.2.1 3 T1 T)), sIteC c.1.2 a.1.2 b.1.2), okIteC M1 M2 T1 c a b⟩
-- of two ints one, by a condition; of two longs
def ik_cnd (cc : ByteArray) (c : Bool) (a b : Option Nat) (E : Nat) : Option Nat := match c, a, b with
  | true, some e1, some e2 => if ik_reach cc 3 e1 E = true ∧ ik_reach cc 3 e2 E = true then some E else none
  | _, _, _ => none
theorem ik_cnd_ok {cc : ByteArray} {c : Bool} {a b : Option Nat} {E p : Nat} (h : ik_cnd cc c a b E = some p) : ∃ e1 e2, c = true ∧ a = some e1 ∧ b = some e2 ∧ ik_reach cc 3 e1 E = true ∧ ik_reach cc 3 e2 E = true ∧ p = E := by
  unfold ik_cnd at h
  split at h
  · split at h
    · rename_i e1 e2 h2
      cases h
      exact ⟨e1, e2, rfl, rfl, rfl, h2.1, h2.2, rfl⟩
    · cases h
  · cases h
def sIte (c : SS → Option (Bool × GG)) (a b : SS → Option (Int32 × GG)) : SS → Option (Int32 × GG) := fun σ => (c σ).bind fun q => if q.1 = true then a (σ.1, σ.2.1, q.2) else b (σ.1, σ.2.1, q.2)
theorem okIte (M1 M2 E : Nat) (c : CP sc M1 M2) (a b : EP sc) : ik_okE sc (fun lv d pc => ik_cnd sc.2.1 (c.1.1 lv d pc) (a.1.1 lv d M1) (b.1.1 lv d M2) E) (sIte c.1.2 a.1.2 b.1.2) := by
  intro x hC lv d pc pc' st σ v g' hc hd hs hk
  obtain ⟨p1, p2, h1, h2, h3, h4, h5, rfl⟩ := ik_cnd_ok hc
  simp only [sIte, Option.bind_eq_some_iff] at hs
  obtain ⟨⟨v1, g1⟩, e1, e2⟩ := hs
  refine c.2 x hC lv d pc st σ v1 g1 h1 hd e1 ?_
  cases v1 with
  | true => exact a.2 x hC lv d M1 p1 st (σ.1, σ.2.1, g1) v g' h2 hd e2 (ik_reach_ok hC hk 3 p1 h4)
  | false => exact b.2 x hC lv d M2 p2 st (σ.1, σ.2.1, g1) v g' h3 hd e2 (ik_reach_ok hC hk 3 p2 h5)
def eIte (M1 M2 E : Nat) (c : CP sc M1 M2) (a b : EP sc) : EP sc := ⟨(fun lv d pc => ik_cnd sc.2.1 (c.1.1 lv d pc) (a.1.1 lv d M1) (b.1.1 lv d M2) E, sIte c.1.2 a.1.2 b.1.2), okIte M1 M2 E c a b⟩
def sIteL (c : SS → Option (Bool × GG)) (a b : SS → Option (Int64 × GG)) : SS → Option (Int64 × GG) := fun σ => (c σ).bind fun q => if q.1 = true then a (σ.1, σ.2.1, q.2) else b (σ.1, σ.2.1, q.2)
theorem okIteL (M1 M2 E : Nat) (c : CP sc M1 M2) (a b : JP sc) : ik_okL sc (fun lv d pc => ik_cnd sc.2.1 (c.1.1 lv d pc) (a.1.1 lv d M1) (b.1.1 lv d M2) E) (sIteL c.1.2 a.1.2 b.1.2) := by
  intro x hC lv d pc pc' st σ v g' hc hd hs hk
  obtain ⟨p1, p2, h1, h2, h3, h4, h5, rfl⟩ := ik_cnd_ok hc
  simp only [sIteL, Option.bind_eq_some_iff] at hs
  obtain ⟨⟨v1, g1⟩, e1, e2⟩ := hs
  refine c.2 x hC lv d pc st σ v1 g1 h1 hd e1 ?_
  cases v1 with
  | true => exact a.2 x hC lv d M1 p1 st (σ.1, σ.2.1, g1) v g' h2 hd e2 (ik_reach_ok hC hk 3 p1 h4)
  | false => exact b.2 x hC lv d M2 p2 st (σ.1, σ.2.1, g1) v g' h3 hd e2 (ik_reach_ok hC hk 3 p2 h5)
def lIte (M1 M2 E : Nat) (c : CP sc M1 M2) (a b : JP sc) : JP sc := ⟨(fun lv d pc => ik_cnd sc.2.1 (c.1.1 lv d pc) (a.1.1 lv d M1) (b.1.1 lv d M2) E, sIteL c.1.2 a.1.2 b.1.2), okIteL M1 M2 E c a b⟩
end CX
