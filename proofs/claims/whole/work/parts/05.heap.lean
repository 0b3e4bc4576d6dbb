section EH
variable {sc : ik_SC}
-- one int made another: 0 neg, 1 i2b
def ik_ui : Nat → Instr
  | 0 => .ineg | _ => .i2b
def ik_uo : Nat → Int32 → Int32
  | 0, x => -x
  | _, x => x.toInt8.toInt32
def sUn (o : Nat) (a : SS → Option (Int32 × GG)) : SS → Option (Int32 × GG) := fun σ => (a σ).map fun q => (ik_uo o q.1, q.2)
theorem okUn (o : Nat) (a : EP sc) : ik_okE sc (fun lv d pc => (a.1.1 lv d pc).bind fun p1 => cOp sc.2.1 (ik_ui o) p1) (sUn o a.1.2) := by
  intro x hC lv d pc pc' st σ v g' hc hd hs hk
  simp only [Option.bind_eq_some_iff] at hc
  obtain ⟨p1, h1, h3⟩ := hc
  obtain ⟨hdg, rfl⟩ := cOp_ok h3
  simp only [sUn, Option.map_eq_some_iff] at hs
  obtain ⟨⟨v1, g1⟩, e1, e4⟩ := hs
  cases e4
  refine a.2 x hC lv d pc p1 st σ v1 g1 h1 hd e1 ?_
  obtain ⟨p, l, e, s, m, args, below, meth, c, ad, D, cA, A, v0, g0⟩ := x
  obtain ⟨hx, hb, hml, hown, hts, hns, hK, hD, hr, hlk⟩ := hC
  intro H locs ls hP hS hl
  have hk := hk H locs ls hP hS hl
  match o, hk, hdg with
  | 0, hk, hdg => exact lv_ineg hx hb hdg hk
  | n + 1, hk, hdg => exact lv_i2b hx hb hdg rfl hk
def eUn (o : Nat) (a : EP sc) : EP sc := ⟨(fun lv d pc => (a.1.1 lv d pc).bind fun p1 => cOp sc.2.1 (ik_ui o) p1, sUn o a.1.2), okUn o a⟩
def sL2i (a : SS → Option (Int64 × GG)) : SS → Option (Int32 × GG) := fun σ => (a σ).map fun q => (q.1.toInt32, q.2)
theorem okL2i (a : JP sc) : ik_okE sc (fun lv d pc => (a.1.1 lv d pc).bind fun p1 => cOp sc.2.1 .l2i p1) (sL2i a.1.2) := by
  intro x hC lv d pc pc' st σ v g' hc hd hs hk
  simp only [Option.bind_eq_some_iff] at hc
  obtain ⟨p1, h1, h3⟩ := hc
  obtain ⟨hdg, rfl⟩ := cOp_ok h3
  simp only [sL2i, Option.map_eq_some_iff] at hs
  obtain ⟨⟨v1, g1⟩, e1, e4⟩ := hs
  cases e4
  refine a.2 x hC lv d pc p1 st σ v1 g1 h1 hd e1 ?_
  obtain ⟨p, l, e, s, m, args, below, meth, c, ad, D, cA, A, v0, g0⟩ := x
  obtain ⟨hx, hb, hml, hown, hts, hns, hK, hD, hr, hlk⟩ := hC
  intro H locs ls hP hS hl
  exact lv_l2i hx hb hdg rfl (hk H locs ls hP hS hl)
def eL2i (a : JP sc) : EP sc := ⟨(fun lv d pc => (a.1.1 lv d pc).bind fun p1 => cOp sc.2.1 .l2i p1, sL2i a.1.2), okL2i a⟩
def sI2l (a : SS → Option (Int32 × GG)) : SS → Option (Int64 × GG) := fun σ => (a σ).map fun q => (q.1.toInt64, q.2)
theorem okI2l (a : EP sc) : ik_okL sc (fun lv d pc => (a.1.1 lv d pc).bind fun p1 => cOp sc.2.1 .i2l p1) (sI2l a.1.2) := by
  intro x hC lv d pc pc' st σ v g' hc hd hs hk
  simp only [Option.bind_eq_some_iff] at hc
  obtain ⟨p1, h1, h3⟩ := hc
  obtain ⟨hdg, rfl⟩ := cOp_ok h3
  simp only [sI2l, Option.map_eq_some_iff] at hs
  obtain ⟨⟨v1, g1⟩, e1, e4⟩ := hs
  cases e4
  refine a.2 x hC lv d pc p1 st σ v1 g1 h1 hd e1 ?_
  obtain ⟨p, l, e, s, m, args, below, meth, c, ad, D, cA, A, v0, g0⟩ := x
  obtain ⟨hx, hb, hml, hown, hts, hns, hK, hD, hr, hlk⟩ := hC
  intro H locs ls hP hS hl
  exact lv_i2l hx hb hdg rfl (hk H locs ls hP hS hl)
def lI2l (a : EP sc) : JP sc := ⟨(fun lv d pc => (a.1.1 lv d pc).bind fun p1 => cOp sc.2.1 .i2l p1, sI2l a.1.2), okI2l a⟩
-- two longs made one: 0 + 1 *
def ik_ji : Nat → Instr
  | 0 => .ladd | _ => .lmul
def ik_jo : Nat → Int64 → Int64 → Int64
  | 0, x, y => x + y
  | _, x, y => x * y
def sBinL (o : Nat) (a b : SS → Option (Int64 × GG)) : SS → Option (Int64 × GG) := fun σ => (a σ).bind fun q => (b (σ.1, σ.2.1, q.2)).map fun r => (ik_jo o q.1 r.1, r.2)
theorem okBinL (o : Nat) (a b : JP sc) : ik_okL sc (fun lv d pc => (a.1.1 lv d pc).bind fun p1 => (b.1.1 lv (d + 2) p1).bind fun p2 => cOp sc.2.1 (ik_ji o) p2) (sBinL o a.1.2 b.1.2) := by
  intro x hC lv d pc pc' st σ v g' hc hd hs hk
  simp only [Option.bind_eq_some_iff] at hc
  obtain ⟨p1, h1, p2, h2, h3⟩ := hc
  obtain ⟨hdg, rfl⟩ := cOp_ok h3
  simp only [sBinL, Option.bind_eq_some_iff, Option.map_eq_some_iff] at hs
  obtain ⟨⟨v1, g1⟩, e1, ⟨v2, g2⟩, e2, e4⟩ := hs
  cases e4
  refine a.2 x hC lv d pc p1 st σ v1 g1 h1 hd e1 ?_
  refine b.2 x hC lv (d + 2) p1 p2 (.long v1 :: st) (σ.1, σ.2.1, g1) v2 g2 h2 (ik_cat_l hd) e2 ?_
  obtain ⟨p, l, e, s, m, args, below, meth, c, ad, D, cA, A, v0, g0⟩ := x
  obtain ⟨hx, hb, hml, hown, hts, hns, hK, hD, hr, hlk⟩ := hC
  intro H locs ls hP hS hl
  have hk := hk H locs ls hP hS hl
  match o, hk, hdg with
  | 0, hk, hdg => exact lv_ladd hx hb hdg hk
  | n + 1, hk, hdg => exact lv_lmul hx hb hdg hk
def lBin (o : Nat) (a b : JP sc) : JP sc := ⟨(fun lv d pc => (a.1.1 lv d pc).bind fun p1 => (b.1.1 lv (d + 2) p1).bind fun p2 => cOp sc.2.1 (ik_ji o) p2, sBinL o a.1.2 b.1.2), okBinL o a b⟩
-- a reference in a local
def cRloc (cc : ByteArray) (k pc : Nat) : Option Nat := match decode cc pc with
  | .ok (.aload_n n, 1) => if (n : Nat) = k then some (pc + 1) else none
  | .ok (.aload n, 2) => if n = k then some (pc + 2) else none
  | _ => none
theorem okRloc (k id : Nat) : ik_okR sc id (fun _ _ pc => if (k, id) ∈ sc.2.2.2.2.1 then cRloc sc.2.1 k pc else none) := by
  rintro ⟨p, l, e, s, m, args, below, meth, c, ad, D, cA, A, v0, g0⟩ ⟨hx, hb, hml, hown, hts, hns, hK, hD, hr, hlk⟩ lv d pc pc' st σ hc hk
  intro H locs ls hP hS hl
  have hk := hk H locs ls hP hS hl
  dsimp only [cRloc] at hc
  split at hc
  · rename_i hin
    have h1 := ik_lv_ref hl hin
    split at hc
    · rename_i n hdg
      split at hc
      · rename_i he
        cases hc
        exact lv_aload_n hx hb hdg he h1 hk
      · cases hc
    · rename_i n hdg
      split at hc
      · rename_i he
        subst he
        cases hc
        exact lv_aload hx hb hdg h1 hk
      · cases hc
    · cases hc
  · cases hc
def rLoc (k id : Nat) : RP sc id := ⟨fun _ _ pc => if (k, id) ∈ sc.2.2.2.2.1 then cRloc sc.2.1 k pc else none, okRloc k id⟩
-- what the tables say of a field: the number idx in the pool of class own is field k of class ci; and (FW) that it is of kind t, and not final
def ik_FL (own : String) (idx ci k : Nat) : Prop := ∃ (C : String) (T : u_T) (N : Nat) (ty : Nat → FieldType), vwCl[ci]? = some (C, T, N) ∧ k < N ∧ (∀ w ∈ u_ws C T N, w ∈ lw_tbl) ∧ (∀ j, j < N → parseFieldDescriptor (T j).2.2.1 = some (ty j)) ∧ (∀ a, a < N → ∀ b, b < N → a ≠ b → (T a).2.1 ≠ (T b).2.1) ∧ (T k).1 = C ∧ Cond.fieldLink own idx C (T k).2.1 (T k).2.2.1 ∈ lw_tbl
def ik_FW (own : String) (idx ci k t : Nat) : Prop := ∃ (C : String) (T : u_T) (N : Nat) (ty : Nat → FieldType), vwCl[ci]? = some (C, T, N) ∧ k < N ∧ (∀ w ∈ u_ws C T N, w ∈ lw_tbl) ∧ (∀ j, j < N → parseFieldDescriptor (T j).2.2.1 = some (ty j)) ∧ (∀ a, a < N → ∀ b, b < N → a ≠ b → (T a).2.1 ≠ (T b).2.1) ∧ (T k).1 = C ∧ Cond.fieldLink own idx C (T k).2.1 (T k).2.2.1 ∈ lw_tbl ∧ (T k).2.2.2 = false ∧ ty k = ik_ty t
theorem ik_FW.fl {own : String} {idx ci k t : Nat} (h : ik_FW own idx ci k t) : ik_FL own idx ci k := by
  obtain ⟨C, T, N, ty, h1, h2, h3, h4, h5, h6, h7, -⟩ := h
  exact ⟨C, T, N, ty, h1, h2, h3, h4, h5, h6, h7⟩
-- the cell o is an object of class ci, its field k is fd
def ik_isF (wd : List ik_CD) (o ci k : Nat) (fd : Nat ⊕ Nat) : Bool := match wd[o]? with
  | some (.inr (c, fds)) => c == ci && decide (fds[k]? = some fd)
  | _ => false
theorem ik_isF_ok {wd : List ik_CD} {o ci k : Nat} {fd : Nat ⊕ Nat} (h : ik_isF wd o ci k fd = true) : ∃ fds, wd[o]? = some (.inr (ci, fds)) ∧ fds[k]? = some fd := by
  unfold ik_isF at h
  split at h
  · rename_i c fds hw
    simp only [Bool.and_eq_true, beq_iff_eq, decide_eq_true_eq] at h
    exact ⟨fds, by rw [hw, h.1], h.2⟩
  · cases h
def ik_isA (wd : List ik_CD) (a k n : Nat) : Bool := decide (wd[a]? = some (.inl (k, n)))
def cGet (cc : ByteArray) (idx pc : Nat) : Option Nat := match decode cc pc with
  | .ok (.getfield i, 3) => if i = idx then some (pc + 3) else none
  | _ => none
theorem cGet_ok {cc : ByteArray} {idx pc pc' : Nat} (h : cGet cc idx pc = some pc') : decode cc pc = .ok (.getfield idx, 3) ∧ pc' = pc + 3 := by
  unfold cGet at h
  split at h
  · rename_i j hdg
    split at h
    · rename_i he
      subst he
      cases h
      exact ⟨hdg, rfl⟩
    · cases h
  · cases h
-- the row of a getfield in our words
theorem ik_get_row {x : ik_DX} (hC : ik_Cx sc x) {lv : ik_LV} {pc o ci k idx : Nat} {st : List Value} {σ : SS} {fd : Nat ⊕ Nat} {v : Value} (hF : ik_FL sc.2.2.2.1 idx ci k) (hi : ik_isF sc.1 o ci k fd = true) (hv : v = (match fd with
    | .inl t => if t = 1 then Value.long (σ.2.2.2 o k) else Value.int (σ.2.2.1 o k)
    | .inr q => Value.ref (ik_xad x q))) (hdg : decode sc.2.1 pc = .ok (.getfield idx, 3)) (hk : ik_Go sc x lv (pc + 3) (v :: st) σ) : ik_Go sc x lv pc (.ref (ik_xad x o) :: st) σ := by
  obtain ⟨p, l, e, s, m, args, below, meth, c, ad, D, cA, A, v0, g0⟩ := x
  obtain ⟨hx, hb, hml, hown, hts, hns, hK, hD, hr, hlk⟩ := hC
  obtain ⟨C, T, N, ty, h1, h2, h3, h4, h5, h6, h7⟩ := hF
  obtain ⟨fds, hw, hf⟩ := ik_isF_ok hi
  intro H locs ls hP hS hl
  refine va_get (D := D) (ci := ci) (C := C) (T := T) (N := N) (ref := C) (fs := ik_fv ad σ.2.2 o 0 fds) hx hb hts (ik_gd_lays h3) hown hK hP o (by rw [ik_w_at, hw]; rfl) h1 k h2 (hts _ (ik_gd h7 rfl)) (fun y hy => by rw [h6] at hy; exact hy) (v := v) ?_ hdg (hk H locs ls hP hS hl)
  rw [ik_fv_at, hf, hv]
  cases fd with
  | inl t => simp
  | inr q => rfl
-- a reference in a field
theorem okRfld {o : Nat} (r : RP sc o) (idx ci k q : Nat) (hF : ik_FL sc.2.2.2.1 idx ci k) : ik_okR sc q (fun lv d pc => (r.1 lv d pc).bind fun p1 => if ik_isF sc.1 o ci k (.inr q) = true then cGet sc.2.1 idx p1 else none) := by
  intro x hC lv d pc pc' st σ hc hk
  simp only [Option.bind_eq_some_iff] at hc
  obtain ⟨p1, h1, h3⟩ := hc
  split at h3
  · rename_i hi
    obtain ⟨hdg, rfl⟩ := cGet_ok h3
    exact r.2 x hC lv d pc p1 st σ h1 (ik_get_row hC hF hi rfl hdg hk)
  · cases h3
def rFld {o : Nat} (r : RP sc o) (idx ci k q : Nat) (hF : ik_FL sc.2.2.2.1 idx ci k) : RP sc q := ⟨fun lv d pc => (r.1 lv d pc).bind fun p1 => if ik_isF sc.1 o ci k (.inr q) = true then cGet sc.2.1 idx p1 else none, okRfld r idx ci k q hF⟩
-- an int, a long in a field
def sFld (o k : Nat) : SS → Option (Int32 × GG) := fun σ => some (σ.2.2.1 o k, σ.2.2)
def sFldL (o k : Nat) : SS → Option (Int64 × GG) := fun σ => some (σ.2.2.2 o k, σ.2.2)
theorem okFld {o : Nat} (r : RP sc o) (idx ci k t : Nat) (hF : ik_FL sc.2.2.2.1 idx ci k) : ik_okE sc (fun lv d pc => (r.1 lv d pc).bind fun p1 => if ik_isF sc.1 o ci k (.inl t) = true ∧ t ≠ 1 then cGet sc.2.1 idx p1 else none) (sFld o k) := by
  intro x hC lv d pc pc' st σ v g' hc hd hs hk
  simp only [Option.bind_eq_some_iff] at hc
  obtain ⟨p1, h1, h3⟩ := hc
  cases hs
  split at h3
  · rename_i hi
    obtain ⟨hdg, rfl⟩ := cGet_ok h3
    exact r.2 x hC lv d pc p1 st σ h1 (ik_get_row hC hF hi.1 (by simp [hi.2]) hdg hk)
  · cases h3
def eFld {o : Nat} (r : RP sc o) (idx ci k t : Nat) (hF : ik_FL sc.2.2.2.1 idx ci k) : EP sc := ⟨(fun lv d pc => (r.1 lv d pc).bind fun p1 => if ik_isF sc.1 o ci k (.inl t) = true ∧ t ≠ 1 then cGet sc.2.1 idx p1 else none, sFld o k), okFld r idx ci k t hF⟩
theorem okFldL {o : Nat} (r : RP sc o) (idx ci k : Nat) (hF : ik_FL sc.2.2.2.1 idx ci k) : ik_okL sc (fun lv d pc => (r.1 lv d pc).bind fun p1 => if ik_isF sc.1 o ci k (.inl 1) = true then cGet sc.2.1 idx p1 else none) (sFldL o k) := by
  intro x hC lv d pc pc' st σ v g' hc hd hs hk
  simp only [Option.bind_eq_some_iff] at hc
  obtain ⟨p1, h1, h3⟩ := hc
  cases hs
  split at h3
  · rename_i hi
    obtain ⟨hdg, rfl⟩ := cGet_ok h3
    exact r.2 x hC lv d pc p1 st σ h1 (ik_get_row hC hF hi (by simp) hdg hk)
  · cases h3
def lFld {o : Nat} (r : RP sc o) (idx ci k : Nat) (hF : ik_FL sc.2.2.2.1 idx ci k) : JP sc := ⟨(fun lv d pc => (r.1 lv d pc).bind fun p1 => if ik_isF sc.1 o ci k (.inl 1) = true then cGet sc.2.1 idx p1 else none, sFldL o k), okFldL r idx ci k hF⟩
-- an element of an array of n
def ik_ix (i : Int32) (n : Nat) : Option Nat := if i < 0 ∨ n ≤ i.toNatClampNeg then none else some i.toNatClampNeg
theorem ik_ix_ok {i : Int32} {n j : Nat} (h : ik_ix i n = some j) : vp_in i n ∧ j = i.toNatClampNeg := by
  unfold ik_ix at h
  split at h
  · cases h
  · rename_i hn
    cases h
    exact ⟨hn, rfl⟩
theorem ik_isA_ok {wd : List ik_CD} {ad : Nat → Nat} {cA : Nat → ClassId} {g : GG} {a k n : Nat} (h : ik_isA wd a k n = true) : wd[a]? = some (.inl (k, n)) ∧ (ik_w wd ad cA g)[a]? = some (ad a, .inl (cA k, n, if k = 1 then .inr (.inl (g.2 a)) else .inl (g.1 a))) := by
  simp only [ik_isA, decide_eq_true_eq] at h
  exact ⟨h, by rw [ik_w_at, h]; rfl⟩
-- iaload for an int array, baload for the others
def ik_ai : Nat → Instr
  | 0 => .iaload | _ => .baload
def sArr (a n : Nat) (i : SS → Option (Int32 × GG)) : SS → Option (Int32 × GG) := fun σ => (i σ).bind fun q => (ik_ix q.1 n).map fun j => (q.2.1 a j, q.2)
theorem okArr (k n : Nat) {a : Nat} (r : RP sc a) (i : EP sc) : ik_okE sc (fun lv d pc => (r.1 lv d pc).bind fun p1 => (i.1.1 lv (d + 1) p1).bind fun p2 => if ik_isA sc.1 a k n = true ∧ (k = 0 ∨ k = 2 ∨ k = 3) then cOp sc.2.1 (ik_ai k) p2 else none) (sArr a n i.1.2) := by
  intro x hC lv d pc pc' st σ v g' hc hd hs hk
  simp only [Option.bind_eq_some_iff] at hc
  obtain ⟨p1, h1, p2, h2, h3⟩ := hc
  split at h3
  · rename_i hi
    obtain ⟨hdg, rfl⟩ := cOp_ok h3
    simp only [sArr, Option.bind_eq_some_iff, Option.map_eq_some_iff] at hs
    obtain ⟨⟨v1, g1⟩, e1, j, e2, e4⟩ := hs
    cases e4
    obtain ⟨hin, rfl⟩ := ik_ix_ok e2
    refine r.2 x hC lv d pc p1 st σ h1 ?_
    refine i.2 x hC lv (d + 1) p1 p2 _ σ v1 g1 h2 (ik_cat_r hd) e1 ?_
    obtain ⟨p, l, e, s, m, args, below, meth, c, ad, D, cA, A, v0, g0⟩ := x
    obtain ⟨hx, hb, hml, hown, hts, hns, hK, hD, hr, hlk⟩ := hC
    intro H locs ls hP hS hl
    have hk := hk H locs ls hP hS hl
    have ha := (ik_isA_ok (ad := ad) (cA := cA) (g := g1) hi.1).2
    rcases hi.2 with rfl | rfl | rfl
    · exact va_iald hx hb hK hP a 0 ha rfl hin hdg hk
    · exact va_bald hx hb hK hP a 2 ha rfl hin hdg hk
    · exact va_zald hx hb hK hP a 3 ha rfl hin hdg hk
  · cases h3
def eArr (k n : Nat) {a : Nat} (r : RP sc a) (i : EP sc) : EP sc := ⟨(fun lv d pc => (r.1 lv d pc).bind fun p1 => (i.1.1 lv (d + 1) p1).bind fun p2 => if ik_isA sc.1 a k n = true ∧ (k = 0 ∨ k = 2 ∨ k = 3) then cOp sc.2.1 (ik_ai k) p2 else none, sArr a n i.1.2), okArr k n r i⟩
def sArrL (a n : Nat) (i : SS → Option (Int32 × GG)) : SS → Option (Int64 × GG) := fun σ => (i σ).bind fun q => (ik_ix q.1 n).map fun j => (q.2.2 a j, q.2)
theorem okArrL (n : Nat) {a : Nat} (r : RP sc a) (i : EP sc) : ik_okL sc (fun lv d pc => (r.1 lv d pc).bind fun p1 => (i.1.1 lv (d + 1) p1).bind fun p2 => if ik_isA sc.1 a 1 n = true then cOp sc.2.1 .laload p2 else none) (sArrL a n i.1.2) := by
  intro x hC lv d pc pc' st σ v g' hc hd hs hk
  simp only [Option.bind_eq_some_iff] at hc
  obtain ⟨p1, h1, p2, h2, h3⟩ := hc
  split at h3
  · rename_i hi
    obtain ⟨hdg, rfl⟩ := cOp_ok h3
    simp only [sArrL, Option.bind_eq_some_iff, Option.map_eq_some_iff] at hs
    obtain ⟨⟨v1, g1⟩, e1, j, e2, e4⟩ := hs
    cases e4
    obtain ⟨hin, rfl⟩ := ik_ix_ok e2
    refine r.2 x hC lv d pc p1 st σ h1 ?_
    refine i.2 x hC lv (d + 1) p1 p2 _ σ v1 g1 h2 (ik_cat_r hd) e1 ?_
    obtain ⟨p, l, e, s, m, args, below, meth, c, ad, D, cA, A, v0, g0⟩ := x
    obtain ⟨hx, hb, hml, hown, hts, hns, hK, hD, hr, hlk⟩ := hC
    intro H locs ls hP hS hl
    have ha := (ik_isA_ok (ad := ad) (cA := cA) (g := g1) hi).2
    exact va_lald hx hb hK hP a 1 ha rfl hin hdg (hk H locs ls hP hS hl)
  · cases h3
def lArr (n : Nat) {a : Nat} (r : RP sc a) (i : EP sc) : JP sc := ⟨(fun lv d pc => (r.1 lv d pc).bind fun p1 => (i.1.1 lv (d + 1) p1).bind fun p2 => if ik_isA sc.1 a 1 n = true then cOp sc.2.1 .laload p2 else none, sArrL a n i.1.2), okArrL n r i⟩
-- an array's length
theorem okLen (k n : Nat) {a : Nat} (r : RP sc a) : ik_okE sc (fun lv d pc => (r.1 lv d pc).bind fun p1 => if ik_isA sc.1 a k n = true ∧ k ≤ 3 then cOp sc.2.1 .arraylength p1 else none) (sLit (Int32.ofNat n)) := by
  intro x hC lv d pc pc' st σ v g' hc hd hs hk
  simp only [Option.bind_eq_some_iff] at hc
  obtain ⟨p1, h1, h3⟩ := hc
  cases hs
  split at h3
  · rename_i hi
    obtain ⟨hdg, rfl⟩ := cOp_ok h3
    refine r.2 x hC lv d pc p1 st σ h1 ?_
    obtain ⟨p, l, e, s, m, args, below, meth, c, ad, D, cA, A, v0, g0⟩ := x
    obtain ⟨hx, hb, hml, hown, hts, hns, hK, hD, hr, hlk⟩ := hC
    intro H locs ls hP hS hl
    have ha := (ik_isA_ok (ad := ad) (cA := cA) (g := σ.2.2) hi.1).2
    have hk3 : k = 0 ∨ k = 1 ∨ k = 2 ∨ k = 3 := by omega
    rcases hk3 with rfl | rfl | rfl | rfl
    · exact va_alen hx hb hK hP a 0 ha (ty := .int) rfl rfl hdg (hk H locs ls hP hS hl)
    · exact va_alen hx hb hK hP a 1 ha (ty := .long) rfl rfl hdg (hk H locs ls hP hS hl)
    · exact va_alen hx hb hK hP a 2 ha (ty := .byte) rfl rfl hdg (hk H locs ls hP hS hl)
    · exact va_alen hx hb hK hP a 3 ha (ty := .boolean) rfl rfl hdg (hk H locs ls hP hS hl)
  · cases h3
def eLen (k n : Nat) {a : Nat} (r : RP sc a) : EP sc := ⟨(fun lv d pc => (r.1 lv d pc).bind fun p1 => if ik_isA sc.1 a k n = true ∧ k ≤ 3 then cOp sc.2.1 .arraylength p1 else none, sLit (Int32.ofNat n)), okLen k n r⟩
end EH
