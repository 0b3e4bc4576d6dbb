/-! pieces: what a stretch of bytes does, as a function of the method's state; each carries the check of its bytes and the proof that the machine does so -/
def ik_okE (sc : ik_SC) (chk : ik_LV → Nat → Nat → Option Nat) (sem : SS → Option (Int32 × GG)) : Prop :=
  ∀ (x : ik_DX), ik_Cx sc x → ∀ (lv : ik_LV) (d pc pc' : Nat) (st : List Value) (σ : SS) (v : Int32) (g' : GG), chk lv d pc = some pc' → ik_cat st ≤ d → sem σ = some (v, g') → ik_Go sc x lv pc' (.int v :: st) (σ.1, σ.2.1, g') → ik_Go sc x lv pc st σ
def ik_okL (sc : ik_SC) (chk : ik_LV → Nat → Nat → Option Nat) (sem : SS → Option (Int64 × GG)) : Prop :=
  ∀ (x : ik_DX), ik_Cx sc x → ∀ (lv : ik_LV) (d pc pc' : Nat) (st : List Value) (σ : SS) (v : Int64) (g' : GG), chk lv d pc = some pc' → ik_cat st ≤ d → sem σ = some (v, g') → ik_Go sc x lv pc' (.long v :: st) (σ.1, σ.2.1, g') → ik_Go sc x lv pc st σ
def ik_xad (x : ik_DX) : Nat → Nat := x.2.2.2.2.2.2.2.2.2.1
def ik_okR (sc : ik_SC) (id : Nat) (chk : ik_LV → Nat → Nat → Option Nat) : Prop :=
  ∀ (x : ik_DX), ik_Cx sc x → ∀ (lv : ik_LV) (d pc pc' : Nat) (st : List Value) (σ : SS), chk lv d pc = some pc' → ik_Go sc x lv pc' (.ref (ik_xad x id) :: st) σ → ik_Go sc x lv pc st σ
def ik_okC (sc : ik_SC) (T F : Nat) (chk : ik_LV → Nat → Nat → Bool) (sem : SS → Option (Bool × GG)) : Prop :=
  ∀ (x : ik_DX), ik_Cx sc x → ∀ (lv : ik_LV) (d pc : Nat) (st : List Value) (σ : SS) (b : Bool) (g' : GG), chk lv d pc = true → ik_cat st ≤ d → sem σ = some (b, g') → ik_Go sc x lv (if b then T else F) st (σ.1, σ.2.1, g') → ik_Go sc x lv pc st σ
abbrev EP (sc : ik_SC) : Type := { q : (ik_LV → Nat → Nat → Option Nat) × (SS → Option (Int32 × GG)) // ik_okE sc q.1 q.2 }
abbrev JP (sc : ik_SC) : Type := { q : (ik_LV → Nat → Nat → Option Nat) × (SS → Option (Int64 × GG)) // ik_okL sc q.1 q.2 }
abbrev RP (sc : ik_SC) (id : Nat) : Type := { q : ik_LV → Nat → Nat → Option Nat // ik_okR sc id q }
abbrev CP (sc : ik_SC) (T F : Nat) : Type := { q : (ik_LV → Nat → Nat → Bool) × (SS → Option (Bool × GG)) // ik_okC sc T F q.1 q.2 }
theorem ik_cat_i {v : Int32} {st : List Value} {d : Nat} (h : ik_cat st ≤ d) : ik_cat (.int v :: st) ≤ d + 1 := by
  have e : ik_cat (.int v :: st) = 1 + ik_cat st := by simp [ik_cat, Value.category]
  omega
theorem ik_cat_l {v : Int64} {st : List Value} {d : Nat} (h : ik_cat st ≤ d) : ik_cat (.long v :: st) ≤ d + 2 := by
  have e : ik_cat (.long v :: st) = 2 + ik_cat st := by simp [ik_cat, Value.category]
  omega
theorem ik_cat_r {v : Nat} {st : List Value} {d : Nat} (h : ik_cat st ≤ d) : ik_cat (.ref v :: st) ≤ d + 1 := by
  have e : ik_cat (.ref v :: st) = 1 + ik_cat st := by simp [ik_cat, Value.category]
  omega
-- jumps that lead on to a place
def ik_reach (cc : ByteArray) : Nat → Nat → Nat → Bool
  | 0, pc, t => pc == t
  | n + 1, pc, t => pc == t || (match decode cc pc with
    | .ok (.goto off, 3) => decide (0 ≤ (pc : Int) + off) && ik_reach cc n ((pc : Int) + off).toNat t
    | _ => false)
theorem ik_reach_ok {sc : ik_SC} {x : ik_DX} (hC : ik_Cx sc x) {lv : ik_LV} {st : List Value} {σ : SS} {t : Nat} (hk : ik_Go sc x lv t st σ) : ∀ (n pc : Nat), ik_reach sc.2.1 n pc t = true → ik_Go sc x lv pc st σ := by
  intro n
  induction n with
  | zero =>
    intro pc h
    simp only [ik_reach, beq_iff_eq] at h
    rw [h]; exact hk
  | succ n ih =>
    intro pc h
    simp only [ik_reach, Bool.or_eq_true, beq_iff_eq] at h
    rcases h with h | h
    · rw [h]; exact hk
    · split at h
      · rename_i off hdg
        simp only [Bool.and_eq_true, decide_eq_true_eq] at h
        have h2 := ih _ h.2
        obtain ⟨p, l, e, s, m, args, below, meth, c, ad, D, cA, A, v0, g0⟩ := x
        obtain ⟨hx, hb, hml, hown, hts, hns, hK, hD, hr, hlk⟩ := hC
        intro H locs ls hP hS hl
        exact lv_goto (tgt := ((pc : Int) + off).toNat) hx hb hdg (by omega) (h2 H locs ls hP hS hl)
      · cases h
-- a state seen with fewer locals
theorem ik_Go_sub {sc : ik_SC} {x : ik_DX} {lv lv' : ik_LV} {pc : Nat} {st : List Value} {σ : SS} (h : ∀ q ∈ lv', q ∈ lv) (hk : ik_Go sc x lv' pc st σ) : ik_Go sc x lv pc st σ := by
  obtain ⟨p, l, e, s, m, args, below, meth, c, ad, D, cA, A, v0, g0⟩ := x
  intro H locs ls hP hS hl
  refine hk H locs ls hP hS ⟨hl.1, hl.2.1, fun q hq => hl.2.2 q ?_⟩
  simp only [ik_lv, List.mem_append, List.mem_map] at hq ⊢
  rcases hq with hq | ⟨a, ha, rfl⟩
  · exact Or.inl hq
  · exact Or.inr ⟨a, h a ha, rfl⟩
theorem ik_lv_int {ad : Nat → Nat} {rl lv : ik_LV} {σ : SS} {ls : Array Slot} {n k : Nat} (hl : lv_has ls n (ik_lv ad rl lv σ)) (h : (k, 0) ∈ lv) : ls[k]? = some (.val (.int (σ.1 k))) :=
  hl.2.2 (k, .int (σ.1 k)) (List.mem_append_right _ (List.mem_map.mpr ⟨(k, 0), h, rfl⟩))
theorem ik_lv_long {ad : Nat → Nat} {rl lv : ik_LV} {σ : SS} {ls : Array Slot} {n k : Nat} (hl : lv_has ls n (ik_lv ad rl lv σ)) (h : (k, 1) ∈ lv) : ls[k]? = some (.val (.long (σ.2.1 k))) :=
  hl.2.2 (k, .long (σ.2.1 k)) (List.mem_append_right _ (List.mem_map.mpr ⟨(k, 1), h, rfl⟩))
theorem ik_lv_ref {ad : Nat → Nat} {rl lv : ik_LV} {σ : SS} {ls : Array Slot} {n k id : Nat} (hl : lv_has ls n (ik_lv ad rl lv σ)) (h : (k, id) ∈ rl) : ls[k]? = some (.val (.ref (ad id))) :=
  hl.2.2 (k, .ref (ad id)) (List.mem_append_left _ (List.mem_map.mpr ⟨(k, id), h, rfl⟩))
section EX
variable {sc : ik_SC}
-- a number
def cLit (cc : ByteArray) (v : Int32) (pc : Nat) : Option Nat := match decode cc pc with
  | .ok (.iconst n, 1) => if Int32.ofInt n = v then some (pc + 1) else none
  | .ok (.bipush n, 2) => if (Int8.ofInt n).toInt32 = v then some (pc + 2) else none
  | .ok (.sipush n, 3) => if (Int16.ofInt n).toInt32 = v then some (pc + 3) else none
  | _ => none
def sLit (v : Int32) : SS → Option (Int32 × GG) := fun σ => some (v, σ.2.2)
theorem okLit (v : Int32) : ik_okE sc (fun _ _ pc => cLit sc.2.1 v pc) (sLit v) := by
  rintro ⟨p, l, e, s, m, args, below, meth, c, ad, D, cA, A, v0, g0⟩ ⟨hx, hb, hml, hown, hts, hns, hK, hD, hr, hlk⟩ lv d pc pc' st ⟨I, L, g⟩ v g' hc hd hs hk
  cases hs
  intro H locs ls hP hS hl
  have hk := hk H locs ls hP hS hl
  dsimp only [cLit] at hc
  split at hc
  · rename_i n hdg
    split at hc
    · rename_i he
      cases hc
      exact lv_iconst hx hb hdg he hk
    · cases hc
  · rename_i n hdg
    split at hc
    · rename_i he
      cases hc
      exact lv_bipush hx hb hdg he hk
    · cases hc
  · rename_i n hdg
    split at hc
    · rename_i he
      cases hc
      exact lv_sipush hx hb hdg he hk
    · cases hc
  · cases hc
def eLit (v : Int32) : EP sc := ⟨(fun _ _ pc => cLit sc.2.1 v pc, sLit v), okLit v⟩
def cLdc (cc : ByteArray) (idx pc : Nat) : Option Nat := match decode cc pc with
  | .ok (.ldc i, 2) => if i = idx then some (pc + 2) else none
  | .ok (.ldc_w i, 3) => if i = idx then some (pc + 3) else none
  | _ => none
theorem okLdc (idx : Nat) (v : Int32) (hw : Cond.constant sc.2.2.2.1 idx v ∈ lw_tbl) : ik_okE sc (fun _ _ pc => cLdc sc.2.1 idx pc) (sLit v) := by
  rintro ⟨p, l, e, s, m, args, below, meth, c, ad, D, cA, A, v0, g0⟩ ⟨hx, hb, hml, hown, hts, hns, hK, hD, hr, hlk⟩ lv d pc pc' st ⟨I, L, g⟩ v g' hc hd hs hk
  cases hs
  intro H locs ls hP hS hl
  have hk := hk H locs ls hP hS hl
  have hc2 := hts _ (ik_gd hw rfl)
  dsimp only [cLdc] at hc
  split at hc
  · rename_i n hdg
    split at hc
    · rename_i he
      subst he
      cases hc
      exact lv_ldc hx hb hown hc2 hdg hk
    · cases hc
  · rename_i n hdg
    split at hc
    · rename_i he
      subst he
      cases hc
      exact lv_ldcw hx hb hown hc2 hdg hk
    · cases hc
  · cases hc
def eLdc (idx : Nat) (v : Int32) (hw : Cond.constant sc.2.2.2.1 idx v ∈ lw_tbl) : EP sc := ⟨(fun _ _ pc => cLdc sc.2.1 idx pc, sLit v), okLdc idx v hw⟩
def cLdcL (cc : ByteArray) (idx pc : Nat) : Option Nat := match decode cc pc with
  | .ok (.ldc2_w i, 3) => if i = idx then some (pc + 3) else none
  | _ => none
def sLitL (v : Int64) : SS → Option (Int64 × GG) := fun σ => some (v, σ.2.2)
theorem okLdcL (idx : Nat) (v : Int64) (hw : Cond.constantLong sc.2.2.2.1 idx v ∈ lw_tbl) : ik_okL sc (fun _ _ pc => cLdcL sc.2.1 idx pc) (sLitL v) := by
  rintro ⟨p, l, e, s, m, args, below, meth, c, ad, D, cA, A, v0, g0⟩ ⟨hx, hb, hml, hown, hts, hns, hK, hD, hr, hlk⟩ lv d pc pc' st ⟨I, L, g⟩ v g' hc hd hs hk
  cases hs
  intro H locs ls hP hS hl
  have hk := hk H locs ls hP hS hl
  have hc2 := hts _ (ik_gd hw rfl)
  dsimp only [cLdcL] at hc
  split at hc
  · rename_i n hdg
    split at hc
    · rename_i he
      subst he
      cases hc
      exact lv_ldc2 hx hb hown hc2 hdg hk
    · cases hc
  · cases hc
def lLdc (idx : Nat) (v : Int64) (hw : Cond.constantLong sc.2.2.2.1 idx v ∈ lw_tbl) : JP sc := ⟨(fun _ _ pc => cLdcL sc.2.1 idx pc, sLitL v), okLdcL idx v hw⟩
def cLitL (cc : ByteArray) (v : Int64) (pc : Nat) : Option Nat := match decode cc pc with
  | .ok (.lconst n, 1) => if Int64.ofNat (n : Nat) = v then some (pc + 1) else none
  | _ => none
theorem okLitL (v : Int64) : ik_okL sc (fun _ _ pc => cLitL sc.2.1 v pc) (sLitL v) := by
  rintro ⟨p, l, e, s, m, args, below, meth, c, ad, D, cA, A, v0, g0⟩ ⟨hx, hb, hml, hown, hts, hns, hK, hD, hr, hlk⟩ lv d pc pc' st ⟨I, L, g⟩ v g' hc hd hs hk
  cases hs
  intro H locs ls hP hS hl
  have hk := hk H locs ls hP hS hl
  dsimp only [cLitL] at hc
  split at hc
  · rename_i n hdg
    split at hc
    · rename_i he
      cases hc
      exact lv_lconst hx hb hdg he hk
    · cases hc
  · cases hc
def lLit (v : Int64) : JP sc := ⟨(fun _ _ pc => cLitL sc.2.1 v pc, sLitL v), okLitL v⟩
-- a local
def cLoc (cc : ByteArray) (k : Nat) (lv : ik_LV) (pc : Nat) : Option Nat := if (k, 0) ∈ lv then (match decode cc pc with
  | .ok (.iload_n n, 1) => if (n : Nat) = k then some (pc + 1) else none
  | .ok (.iload n, 2) => if n = k then some (pc + 2) else none
  | _ => none) else none
def sLoc (k : Nat) : SS → Option (Int32 × GG) := fun σ => some (σ.1 k, σ.2.2)
theorem okLoc (k : Nat) : ik_okE sc (fun lv _ pc => cLoc sc.2.1 k lv pc) (sLoc k) := by
  rintro ⟨p, l, e, s, m, args, below, meth, c, ad, D, cA, A, v0, g0⟩ ⟨hx, hb, hml, hown, hts, hns, hK, hD, hr, hlk⟩ lv d pc pc' st ⟨I, L, g⟩ v g' hc hd hs hk
  cases hs
  intro H locs ls hP hS hl
  have hk := hk H locs ls hP hS hl
  dsimp only [cLoc] at hc
  split at hc
  · rename_i hin
    have h1 := ik_lv_int hl hin
    split at hc
    · rename_i n hdg
      split at hc
      · rename_i he
        cases hc
        exact lv_iload_n hx hb hdg he h1 hk
      · cases hc
    · rename_i n hdg
      split at hc
      · rename_i he
        subst he
        cases hc
        exact lv_iload hx hb hdg h1 hk
      · cases hc
    · cases hc
  · cases hc
def eLoc (k : Nat) : EP sc := ⟨(fun lv _ pc => cLoc sc.2.1 k lv pc, sLoc k), okLoc k⟩
def cLocL (cc : ByteArray) (k : Nat) (lv : ik_LV) (pc : Nat) : Option Nat := if (k, 1) ∈ lv then (match decode cc pc with
  | .ok (.lload_n n, 1) => if (n : Nat) = k then some (pc + 1) else none
  | .ok (.lload n, 2) => if n = k then some (pc + 2) else none
  | _ => none) else none
def sLocL (k : Nat) : SS → Option (Int64 × GG) := fun σ => some (σ.2.1 k, σ.2.2)
theorem okLocL (k : Nat) : ik_okL sc (fun lv _ pc => cLocL sc.2.1 k lv pc) (sLocL k) := by
  rintro ⟨p, l, e, s, m, args, below, meth, c, ad, D, cA, A, v0, g0⟩ ⟨hx, hb, hml, hown, hts, hns, hK, hD, hr, hlk⟩ lv d pc pc' st ⟨I, L, g⟩ v g' hc hd hs hk
  cases hs
  intro H locs ls hP hS hl
  have hk := hk H locs ls hP hS hl
  dsimp only [cLocL] at hc
  split at hc
  · rename_i hin
    have h1 := ik_lv_long hl hin
    split at hc
    · rename_i n hdg
      split at hc
      · rename_i he
        cases hc
        exact lv_lload_n hx hb hdg he h1 hk
      · cases hc
    · rename_i n hdg
      split at hc
      · rename_i he
        subst he
        cases hc
        exact lv_lload hx hb hdg h1 hk
      · cases hc
    · cases hc
  · cases hc
def lLoc (k : Nat) : JP sc := ⟨(fun lv _ pc => cLocL sc.2.1 k lv pc, sLocL k), okLocL k⟩
-- two ints made one: 0 + 1 - 2 * 3 and 4 or 5 xor 6 << 7 >> 8 >>> 9 / 10 %
def ik_bi : Nat → Instr
  | 0 => .iadd | 1 => .isub | 2 => .imul | 3 => .iand | 4 => .ior | 5 => .ixor | 6 => .ishl | 7 => .ishr | 8 => .iushr | 9 => .idiv | _ => .irem
def ik_bo : Nat → Int32 → Int32 → Option Int32
  | 0, x, y => some (x + y)
  | 1, x, y => some (x - y)
  | 2, x, y => some (x * y)
  | 3, x, y => some (x &&& y)
  | 4, x, y => some (x ||| y)
  | 5, x, y => some (x ^^^ y)
  | 6, x, y => some (x <<< (y &&& 31))
  | 7, x, y => some (x >>> (y &&& 31))
  | 8, x, y => some (x.toUInt32 >>> (y.toUInt32 &&& Int32.toUInt32 31)).toInt32
  | 9, x, y => if y = 0 then none else some (x / y)
  | _, x, y => if y = 0 then none else some (x - x / y * y)
section BO
variable {p : Program} {l : Launch} {e : Env} {R : Room} {s : State} {m : MethodId} {args : Array Value} {below : List Frame} {meth : Method} {c : Code} {H : Heap} {locs : List Loc} {cells slots : Nat} {Q : State → Prop}
theorem ik_bin_row {cc : ByteArray} {pc : Nat} {ls : Array Slot} {rest : List Value} (hx : p.tables.exec = Jvm.exec) (hb : c.code = cc) {o : Nat} {x y z : Int32} (hz : ik_bo o x y = some z) (hdg : decode cc pc = .ok (ik_bi o, 1)) (k : W p l e R s m args below meth c H locs cells slots Q (F0 m (pc + 1) ls (.int z :: rest))) : W p l e R s m args below meth c H locs cells slots Q (F0 m pc ls (.int y :: .int x :: rest)) := by
  match o, hz, hdg with
  | 0, hz, hdg => cases hz; exact lv_iadd hx hb hdg k
  | 1, hz, hdg => cases hz; exact lv_isub hx hb hdg k
  | 2, hz, hdg => cases hz; exact lv_imul hx hb hdg k
  | 3, hz, hdg => cases hz; exact lv_iand hx hb hdg k
  | 4, hz, hdg => cases hz; exact lv_ior hx hb hdg k
  | 5, hz, hdg => cases hz; exact lv_ixor hx hb hdg k
  | 6, hz, hdg => cases hz; exact lv_ishl hx hb hdg k
  | 7, hz, hdg => cases hz; exact lv_ishr hx hb hdg k
  | 8, hz, hdg => cases hz; exact lv_iushr hx hb hdg rfl k
  | 9, hz, hdg =>
    simp only [ik_bo] at hz
    split at hz
    · cases hz
    · rename_i h; cases hz; exact lv_idiv hx hb hdg h k
  | n + 10, hz, hdg =>
    simp only [ik_bo] at hz
    split at hz
    · cases hz
    · rename_i h; cases hz; exact lv_irem hx hb hdg h k
end BO
def cOp (cc : ByteArray) (i : Instr) (pc : Nat) : Option Nat := match decode cc pc with
  | .ok (j, 1) => if j = i then some (pc + 1) else none
  | _ => none
theorem cOp_ok {cc : ByteArray} {i : Instr} {pc pc' : Nat} (h : cOp cc i pc = some pc') : decode cc pc = .ok (i, 1) ∧ pc' = pc + 1 := by
  unfold cOp at h
  split at h
  · rename_i j hdg
    split at h
    · rename_i he
      subst he
      cases h
      exact ⟨hdg, rfl⟩
    · cases h
  · cases h
def sBin (o : Nat) (a b : SS → Option (Int32 × GG)) : SS → Option (Int32 × GG) := fun σ => (a σ).bind fun q => (b (σ.1, σ.2.1, q.2)).bind fun r => (ik_bo o q.1 r.1).map fun z => (z, r.2)
theorem okBin (o : Nat) (a b : EP sc) : ik_okE sc (fun lv d pc => (a.1.1 lv d pc).bind fun p1 => (b.1.1 lv (d + 1) p1).bind fun p2 => cOp sc.2.1 (ik_bi o) p2) (sBin o a.1.2 b.1.2) := by
  intro x hC lv d pc pc' st σ v g' hc hd hs hk
  simp only [Option.bind_eq_some_iff] at hc
  obtain ⟨p1, h1, p2, h2, h3⟩ := hc
  obtain ⟨hdg, rfl⟩ := cOp_ok h3
  simp only [sBin, Option.bind_eq_some_iff, Option.map_eq_some_iff] at hs
  obtain ⟨⟨v1, g1⟩, e1, ⟨v2, g2⟩, e2, z, e3, e4⟩ := hs
  cases e4
  refine a.2 x hC lv d pc p1 st σ v1 g1 h1 hd e1 ?_
  refine b.2 x hC lv (d + 1) p1 p2 (.int v1 :: st) (σ.1, σ.2.1, g1) v2 g2 h2 (ik_cat_i hd) e2 ?_
  obtain ⟨p, l, e, s, m, args, below, meth, c, ad, D, cA, A, v0, g0⟩ := x
  obtain ⟨hx, hb, hml, hown, hts, hns, hK, hD, hr, hlk⟩ := hC
  intro H locs ls hP hS hl
  exact ik_bin_row hx hb e3 hdg (hk H locs ls hP hS hl)
def eBin (o : Nat) (a b : EP sc) : EP sc := ⟨(fun lv d pc => (a.1.1 lv d pc).bind fun p1 => (b.1.1 lv (d + 1) p1).bind fun p2 => cOp sc.2.1 (ik_bi o) p2, sBin o a.1.2 b.1.2), okBin o a b⟩
end EX
