section SY
variable {sc : ik_SC}
-- a field written
def ik_bz (t : Nat) (x : Int32) : Bool := !(t == 3) || (decide (x = 0) || decide (x = 1))
theorem ik_bz_ok {t : Nat} {x : Int32} (h : ik_bz t x = true) (ht : t = 0 ∨ t = 3) : narrow (ik_ty t) (.int x) = .int x ∧ fits (ik_ty t) (.int x) = true := by
  rcases ht with rfl | rfl
  · exact ⟨rfl, rfl⟩
  · simp only [ik_bz, Bool.or_eq_true, decide_eq_true_eq] at h
    rcases h with h | h | h
    · exact absurd h (by decide)
    · subst h; exact ⟨rfl, rfl⟩
    · subst h; exact ⟨rfl, rfl⟩
def cPut (cc : ByteArray) (idx pc : Nat) : Option Nat := match decode cc pc with
  | .ok (.putfield i, 3) => if i = idx then some (pc + 3) else none
  | _ => none
theorem cPut_ok {cc : ByteArray} {idx pc pc' : Nat} (h : cPut cc idx pc = some pc') : decode cc pc = .ok (.putfield idx, 3) ∧ pc' = pc + 3 := by
  unfold cPut at h
  split at h
  · rename_i j hdg
    split at h
    · rename_i he
      subst he
      cases h
      exact ⟨hdg, rfl⟩
    · cases h
  · cases h
theorem ik_put_row {x : ik_DX} (hC : ik_Cx sc x) {lv : ik_LV} {pc o ci k t idx : Nat} {st : List Value} {σ : SS} {v : Int32} (hF : ik_FW sc.2.2.2.1 idx ci k t) (hi : ik_isF sc.1 o ci k (.inl t) = true) (ht : t = 0 ∨ t = 3) (hv : ik_bz t v = true) (hdg : decode sc.2.1 pc = .ok (.putfield idx, 3)) (hk : ik_Go sc x lv (pc + 3) st (σ.1, σ.2.1, ik_si σ.2.2 o k v)) : ik_Go sc x lv pc (.int v :: .ref (ik_xad x o) :: st) σ := by
  obtain ⟨p, l, e, s, m, args, below, meth, c, ad, D, cA, A, v0, g0⟩ := x
  obtain ⟨hx, hb, hml, hown, hts, hns, hK, hD, hr, hlk⟩ := hC
  obtain ⟨C, T, N, ty, h1, h2, h3, h4, h5, h6, h7, h8, h9⟩ := hF
  obtain ⟨fds, hw, hf⟩ := ik_isF_ok hi
  obtain ⟨n1, n2⟩ := ik_bz_ok hv ht
  intro H locs ls hP hS hl
  refine va_put (D := D) (ci := ci) (C := C) (T := T) (N := N) (ref := C) (fs := ik_fv ad σ.2.2 o 0 fds) hx hb hts (ik_gd_lays h3) ty h4 h5 hown hK hP (hD σ.2.2) hS o (by rw [ik_w_at, hw]; rfl) h1 k h2 (hts _ (ik_gd h7 rfl)) (fun y hy => by rw [h6] at hy; exact hy) h8 (ty := ik_ty t) (by rw [h4 k h2, h9]) n1 n2 (by rw [ik_fv_len]; exact (List.getElem?_eq_some_iff.mp hf).1) hdg (fun H1 locs1 hP1 hD1 hS1 => ?_)
  have e := ik_w_si_obj (ad := ad) (cA := cA) (g := σ.2.2) (x := v) hw hf (by omega)
  exact hk H1 locs1 ls (by rw [← e]; exact hP1) hS1 hl
theorem ik_putL_row {x : ik_DX} (hC : ik_Cx sc x) {lv : ik_LV} {pc o ci k idx : Nat} {st : List Value} {σ : SS} {v : Int64} (hF : ik_FW sc.2.2.2.1 idx ci k 1) (hi : ik_isF sc.1 o ci k (.inl 1) = true) (hdg : decode sc.2.1 pc = .ok (.putfield idx, 3)) (hk : ik_Go sc x lv (pc + 3) st (σ.1, σ.2.1, ik_sl σ.2.2 o k v)) : ik_Go sc x lv pc (.long v :: .ref (ik_xad x o) :: st) σ := by
  obtain ⟨p, l, e, s, m, args, below, meth, c, ad, D, cA, A, v0, g0⟩ := x
  obtain ⟨hx, hb, hml, hown, hts, hns, hK, hD, hr, hlk⟩ := hC
  obtain ⟨C, T, N, ty, h1, h2, h3, h4, h5, h6, h7, h8, h9⟩ := hF
  obtain ⟨fds, hw, hf⟩ := ik_isF_ok hi
  intro H locs ls hP hS hl
  refine va_put (D := D) (ci := ci) (C := C) (T := T) (N := N) (ref := C) (fs := ik_fv ad σ.2.2 o 0 fds) hx hb hts (ik_gd_lays h3) ty h4 h5 hown hK hP (hD σ.2.2) hS o (by rw [ik_w_at, hw]; rfl) h1 k h2 (hts _ (ik_gd h7 rfl)) (fun y hy => by rw [h6] at hy; exact hy) h8 (ty := ik_ty 1) (by rw [h4 k h2, h9]) rfl rfl (by rw [ik_fv_len]; exact (List.getElem?_eq_some_iff.mp hf).1) hdg (fun H1 locs1 hP1 hD1 hS1 => ?_)
  have e := ik_w_sl_obj (ad := ad) (cA := cA) (g := σ.2.2) (x := v) hw hf
  exact hk H1 locs1 ls (by rw [← e]; exact hP1) hS1 hl
def sPut (o k t : Nat) (e : SS → Option (Int32 × GG)) : ST := fun σ => (e σ).bind fun q => if ik_bz t q.1 = true then some (.inl (σ.1, σ.2.1, ik_si q.2 o k q.1)) else none
theorem okPut {o : Nat} (r : RP sc o) (idx ci k t : Nat) (hF : ik_FW sc.2.2.2.1 idx ci k t) (e : EP sc) : ik_okS sc (fun lv pc => (r.1 lv 0 pc).bind fun p1 => (e.1.1 lv 1 p1).bind fun p2 => if ik_isF sc.1 o ci k (.inl t) = true ∧ (t = 0 ∨ t = 3) then (cPut sc.2.1 idx p2).map fun p3 => (lv, p3) else none) (sPut o k t e.1.2) := by
  intro x hC lv pc lv' pc' σ o1 hc hs hk hr
  simp only [Option.bind_eq_some_iff] at hc
  obtain ⟨p1, h1, p2, h2, h3⟩ := hc
  split at h3
  · rename_i hi
    simp only [Option.map_eq_some_iff] at h3
    obtain ⟨p3, h4, h5⟩ := h3
    cases h5
    obtain ⟨hdg, rfl⟩ := cPut_ok h4
    simp only [sPut, Option.bind_eq_some_iff] at hs
    obtain ⟨⟨v1, g1⟩, e1, e2⟩ := hs
    split at e2
    · rename_i hb
      cases e2
      refine r.2 x hC lv 0 pc p1 [] σ h1 ?_
      refine e.2 x hC lv 1 p1 p2 _ σ v1 g1 h2 (ik_cat_r ik_cat_0) e1 ?_
      exact ik_put_row hC hF hi.1 hi.2 hb hdg (hk _ rfl)
    · cases e2
  · cases h3
def pPut {o : Nat} (r : RP sc o) (idx ci k t : Nat) (hF : ik_FW sc.2.2.2.1 idx ci k t) (e : EP sc) : SP sc := ⟨(fun lv pc => (r.1 lv 0 pc).bind fun p1 => (e.1.1 lv 1 p1).bind fun p2 => if ik_isF sc.1 o ci k (.inl t) = true ∧ (t = 0 ∨ t = 3) then (cPut sc.2.1 idx p2).map fun p3 => (lv, p3) else none, sPut o k t e.1.2), okPut r idx ci k t hF e⟩
def sPutL (o k : Nat) (e : SS → Option (Int64 × GG)) : ST := fun σ => (e σ).map fun q => .inl (σ.1, σ.2.1, ik_sl q.2 o k q.1)
theorem okPutL {o : Nat} (r : RP sc o) (idx ci k : Nat) (hF : ik_FW sc.2.2.2.1 idx ci k 1) (e : JP sc) : ik_okS sc (fun lv pc => (r.1 lv 0 pc).bind fun p1 => (e.1.1 lv 1 p1).bind fun p2 => if ik_isF sc.1 o ci k (.inl 1) = true then (cPut sc.2.1 idx p2).map fun p3 => (lv, p3) else none) (sPutL o k e.1.2) := by
  intro x hC lv pc lv' pc' σ o1 hc hs hk hr
  simp only [Option.bind_eq_some_iff] at hc
  obtain ⟨p1, h1, p2, h2, h3⟩ := hc
  split at h3
  · rename_i hi
    simp only [Option.map_eq_some_iff] at h3
    obtain ⟨p3, h4, h5⟩ := h3
    cases h5
    obtain ⟨hdg, rfl⟩ := cPut_ok h4
    simp only [sPutL, Option.map_eq_some_iff] at hs
    obtain ⟨⟨v1, g1⟩, e1, e2⟩ := hs
    cases e2
    refine r.2 x hC lv 0 pc p1 [] σ h1 ?_
    refine e.2 x hC lv 1 p1 p2 _ σ v1 g1 h2 (ik_cat_r ik_cat_0) e1 ?_
    exact ik_putL_row hC hF hi hdg (hk _ rfl)
  · cases h3
def pPutL {o : Nat} (r : RP sc o) (idx ci k : Nat) (hF : ik_FW sc.2.2.2.1 idx ci k 1) (e : JP sc) : SP sc := ⟨(fun lv pc => (r.1 lv 0 pc).bind fun p1 => (e.1.1 lv 1 p1).bind fun p2 => if ik_isF sc.1 o ci k (.inl 1) = true then (cPut sc.2.1 idx p2).map fun p3 => (lv, p3) else none, sPutL o k e.1.2), okPutL r idx ci k hF e⟩
-- a field changed in place: r; dup; getfield; e; op; putfield
theorem ik_dup_row {x : ik_DX} (hC : ik_Cx sc x) {lv : ik_LV} {pc : Nat} {v : Value} {st : List Value} {σ : SS} (hv : v.category = 1) (hdg : decode sc.2.1 pc = .ok (.dup, 1)) (hk : ik_Go sc x lv (pc + 1) (v :: v :: st) σ) : ik_Go sc x lv pc (v :: st) σ := by
  obtain ⟨p, l, e, s, m, args, below, meth, c, ad, D, cA, A, v0, g0⟩ := x
  obtain ⟨hx, hb, hml, hown, hts, hns, hK, hD, hr, hlk⟩ := hC
  intro H locs ls hP hS hl
  exact lv_dup hx hb hdg hv (hk H locs ls hP hS hl)
theorem ik_dup2_row {x : ik_DX} (hC : ik_Cx sc x) {lv : ik_LV} {pc : Nat} {v w : Value} {st : List Value} {σ : SS} (hv : v.category = 1) (hw : w.category = 1) (hdg : decode sc.2.1 pc = .ok (.dup2, 1)) (hk : ik_Go sc x lv (pc + 1) (v :: w :: v :: w :: st) σ) : ik_Go sc x lv pc (v :: w :: st) σ := by
  obtain ⟨p, l, e, s, m, args, below, meth, c, ad, D, cA, A, v0, g0⟩ := x
  obtain ⟨hx, hb, hml, hown, hts, hns, hK, hD, hr, hlk⟩ := hC
  intro H locs ls hP hS hl
  exact lv_dup2_11 hx hb hdg hv hw (hk H locs ls hP hS hl)
theorem ik_op_row {x : ik_DX} (hC : ik_Cx sc x) {lv : ik_LV} {pc o : Nat} {a b z : Int32} {st : List Value} {σ : SS} (hz : ik_bo o a b = some z) (hdg : decode sc.2.1 pc = .ok (ik_bi o, 1)) (hk : ik_Go sc x lv (pc + 1) (.int z :: st) σ) : ik_Go sc x lv pc (.int b :: .int a :: st) σ := by
  obtain ⟨p, l, e, s, m, args, below, meth, c, ad, D, cA, A, v0, g0⟩ := x
  obtain ⟨hx, hb, hml, hown, hts, hns, hK, hD, hr, hlk⟩ := hC
  intro H locs ls hP hS hl
  exact ik_bin_row hx hb hz hdg (hk H locs ls hP hS hl)
theorem ik_ladd_row {x : ik_DX} (hC : ik_Cx sc x) {lv : ik_LV} {pc : Nat} {a b : Int64} {st : List Value} {σ : SS} (hdg : decode sc.2.1 pc = .ok (.ladd, 1)) (hk : ik_Go sc x lv (pc + 1) (.long (a + b) :: st) σ) : ik_Go sc x lv pc (.long b :: .long a :: st) σ := by
  obtain ⟨p, l, e, s, m, args, below, meth, c, ad, D, cA, A, v0, g0⟩ := x
  obtain ⟨hx, hb, hml, hown, hts, hns, hK, hD, hr, hlk⟩ := hC
  intro H locs ls hP hS hl
  exact lv_ladd hx hb hdg (hk H locs ls hP hS hl)
def sPutOp (o k w : Nat) (e : SS → Option (Int32 × GG)) : ST := fun σ => (e σ).bind fun q => (ik_bo w (σ.2.2.1 o k) q.1).map fun z => .inl (σ.1, σ.2.1, ik_si q.2 o k z)
theorem okPutOp {o : Nat} (r : RP sc o) (idx ci k w : Nat) (hF : ik_FW sc.2.2.2.1 idx ci k 0) (e : EP sc) : ik_okS sc (fun lv pc => (r.1 lv 0 pc).bind fun p1 => (cOp sc.2.1 .dup p1).bind fun p2 => if ik_isF sc.1 o ci k (.inl 0) = true then (cGet sc.2.1 idx p2).bind fun p3 => (e.1.1 lv 2 p3).bind fun p4 => (cOp sc.2.1 (ik_bi w) p4).bind fun p5 => (cPut sc.2.1 idx p5).map fun p6 => (lv, p6) else none) (sPutOp o k w e.1.2) := by
  intro x hC lv pc lv' pc' σ o1 hc hs hk hr
  simp only [Option.bind_eq_some_iff] at hc
  obtain ⟨p1, h1, p2, h2, h3⟩ := hc
  split at h3
  · rename_i hi
    simp only [Option.bind_eq_some_iff, Option.map_eq_some_iff] at h3
    obtain ⟨p3, h4, p4, h5, p5, h6, p6, h7, h8⟩ := h3
    cases h8
    obtain ⟨d2, rfl⟩ := cOp_ok h2
    obtain ⟨d3, rfl⟩ := cGet_ok h4
    obtain ⟨d5, rfl⟩ := cOp_ok h6
    obtain ⟨d6, rfl⟩ := cPut_ok h7
    simp only [sPutOp, Option.bind_eq_some_iff, Option.map_eq_some_iff] at hs
    obtain ⟨⟨v1, g1⟩, e1, z, e2, e3⟩ := hs
    cases e3
    refine r.2 x hC lv 0 pc p1 [] σ h1 ?_
    refine ik_dup_row hC rfl d2 ?_
    refine ik_get_row hC hF.fl hi (by simp; rfl) d3 ?_
    refine e.2 x hC lv 2 _ p4 _ σ v1 g1 h5 (ik_cat_i (ik_cat_r ik_cat_0)) e1 ?_
    refine ik_op_row hC e2 d5 ?_
    exact ik_put_row hC hF hi (Or.inl rfl) rfl d6 (hk _ rfl)
  · cases h3
def pPutOp {o : Nat} (r : RP sc o) (idx ci k w : Nat) (hF : ik_FW sc.2.2.2.1 idx ci k 0) (e : EP sc) : SP sc := ⟨(fun lv pc => (r.1 lv 0 pc).bind fun p1 => (cOp sc.2.1 .dup p1).bind fun p2 => if ik_isF sc.1 o ci k (.inl 0) = true then (cGet sc.2.1 idx p2).bind fun p3 => (e.1.1 lv 2 p3).bind fun p4 => (cOp sc.2.1 (ik_bi w) p4).bind fun p5 => (cPut sc.2.1 idx p5).map fun p6 => (lv, p6) else none, sPutOp o k w e.1.2), okPutOp r idx ci k w hF e⟩
def sPutOpL (o k : Nat) (e : SS → Option (Int64 × GG)) : ST := fun σ => (e σ).map fun q => .inl (σ.1, σ.2.1, ik_sl q.2 o k (σ.2.2.2 o k + q.1))
theorem okPutOpL {o : Nat} (r : RP sc o) (idx ci k : Nat) (hF : ik_FW sc.2.2.2.1 idx ci k 1) (e : JP sc) : ik_okS sc (fun lv pc => (r.1 lv 0 pc).bind fun p1 => (cOp sc.2.1 .dup p1).bind fun p2 => if ik_isF sc.1 o ci k (.inl 1) = true then (cGet sc.2.1 idx p2).bind fun p3 => (e.1.1 lv 3 p3).bind fun p4 => (cOp sc.2.1 .ladd p4).bind fun p5 => (cPut sc.2.1 idx p5).map fun p6 => (lv, p6) else none) (sPutOpL o k e.1.2) := by
  intro x hC lv pc lv' pc' σ o1 hc hs hk hr
  simp only [Option.bind_eq_some_iff] at hc
  obtain ⟨p1, h1, p2, h2, h3⟩ := hc
  split at h3
  · rename_i hi
    simp only [Option.bind_eq_some_iff, Option.map_eq_some_iff] at h3
    obtain ⟨p3, h4, p4, h5, p5, h6, p6, h7, h8⟩ := h3
    cases h8
    obtain ⟨d2, rfl⟩ := cOp_ok h2
    obtain ⟨d3, rfl⟩ := cGet_ok h4
    obtain ⟨d5, rfl⟩ := cOp_ok h6
    obtain ⟨d6, rfl⟩ := cPut_ok h7
    simp only [sPutOpL, Option.map_eq_some_iff] at hs
    obtain ⟨⟨v1, g1⟩, e1, e3⟩ := hs
    cases e3
    refine r.2 x hC lv 0 pc p1 [] σ h1 ?_
    refine ik_dup_row hC rfl d2 ?_
    refine ik_get_row hC hF.fl hi (by simp; rfl) d3 ?_
    refine e.2 x hC lv 3 _ p4 _ σ v1 g1 h5 (ik_cat_l (ik_cat_r ik_cat_0)) e1 ?_
    refine ik_ladd_row hC d5 ?_
    exact ik_putL_row hC hF hi d6 (hk _ rfl)
  · cases h3
def pPutOpL {o : Nat} (r : RP sc o) (idx ci k : Nat) (hF : ik_FW sc.2.2.2.1 idx ci k 1) (e : JP sc) : SP sc := ⟨(fun lv pc => (r.1 lv 0 pc).bind fun p1 => (cOp sc.2.1 .dup p1).bind fun p2 => if ik_isF sc.1 o ci k (.inl 1) = true then (cGet sc.2.1 idx p2).bind fun p3 => (e.1.1 lv 3 p3).bind fun p4 => (cOp sc.2.1 .ladd p4).bind fun p5 => (cPut sc.2.1 idx p5).map fun p6 => (lv, p6) else none, sPutOpL o k e.1.2), okPutOpL r idx ci k hF e⟩
-- an element written: what is kept of x in an array of kind k
def ik_as (k : Nat) (x : Int32) : Option Int32 := match k with
  | 0 => some x
  | 2 => some x.toInt8.toInt32
  | 3 => if x = 0 ∨ x = 1 then some x else none
  | _ => none
def ik_asi : Nat → Instr
  | 0 => .iastore | _ => .bastore
theorem ik_ast_row {x : ik_DX} (hC : ik_Cx sc x) {lv : ik_LV} {pc a k n : Nat} {st : List Value} {σ : SS} {i v z : Int32} {j : Nat} (hi : ik_isA sc.1 a k n = true) (hv : ik_as k v = some z) (hj : ik_ix i n = some j) (hdg : decode sc.2.1 pc = .ok (ik_asi k, 1)) (hk : ik_Go sc x lv (pc + 1) st (σ.1, σ.2.1, ik_si σ.2.2 a j z)) : ik_Go sc x lv pc (.int v :: .int i :: .ref (ik_xad x a) :: st) σ := by
  obtain ⟨p, l, e, s, m, args, below, meth, c, ad, D, cA, A, v0, g0⟩ := x
  obtain ⟨hx, hb, hml, hown, hts, hns, hK, hD, hr, hlk⟩ := hC
  obtain ⟨hin, rfl⟩ := ik_ix_ok hj
  obtain ⟨hw, ha⟩ := ik_isA_ok (ad := ad) (cA := cA) (g := σ.2.2) hi
  intro H locs ls hP hS hl
  have fin : ∀ (H1 : Heap) (locs1 : List Loc), k ≠ 1 → va_P D vwCl ((ik_w sc.1 ad cA σ.2.2).set a (ad a, .inl (cA k, n, .inl (upd (σ.2.2.1 a) i.toNatClampNeg z)))) H1 → va_S A s.heap H1 locs1 → W p l e (ik_rm sc.2.2.2.2.2.1) s m args below meth c H1 locs1 0 0 (MQ below (ik_Q sc.1 ad D cA A v0 g0) args s 0 0 A) (F0 m (pc + 1) ls st) := by
    intro H1 locs1 hk1 hP1 hS1
    rw [ik_w_si_arr hw hk1] at hP1
    exact hk H1 locs1 ls hP1 hS1 hl
  unfold ik_as at hv
  split at hv
  · cases hv
    exact va_iast hx hb hK hP (hD _) hS a 0 ha rfl hin hdg (fun H1 locs1 hP1 _ hS1 => fin H1 locs1 (by decide) hP1 hS1)
  · cases hv
    exact va_bast hx hb hK hP (hD _) hS a 2 ha rfl hin hdg (fun H1 locs1 hP1 _ hS1 => fin H1 locs1 (by decide) hP1 hS1)
  · split at hv
    · rename_i hb1
      cases hv
      have e : vp_nar .boolean v = v := by rcases hb1 with rfl | rfl <;> rfl
      exact va_zast hx hb hK hP (hD _) hS a 3 ha rfl hin hdg (fun H1 locs1 hP1 _ hS1 => fin H1 locs1 (by decide) (by rw [e] at hP1; exact hP1) hS1)
    · cases hv
  · cases hv
theorem ik_lst_row {x : ik_DX} (hC : ik_Cx sc x) {lv : ik_LV} {pc a n : Nat} {st : List Value} {σ : SS} {i : Int32} {v : Int64} {j : Nat} (hi : ik_isA sc.1 a 1 n = true) (hj : ik_ix i n = some j) (hdg : decode sc.2.1 pc = .ok (.lastore, 1)) (hk : ik_Go sc x lv (pc + 1) st (σ.1, σ.2.1, ik_sl σ.2.2 a j v)) : ik_Go sc x lv pc (.long v :: .int i :: .ref (ik_xad x a) :: st) σ := by
  obtain ⟨p, l, e, s, m, args, below, meth, c, ad, D, cA, A, v0, g0⟩ := x
  obtain ⟨hx, hb, hml, hown, hts, hns, hK, hD, hr, hlk⟩ := hC
  obtain ⟨hin, rfl⟩ := ik_ix_ok hj
  obtain ⟨hw, ha⟩ := ik_isA_ok (ad := ad) (cA := cA) (g := σ.2.2) hi
  intro H locs ls hP hS hl
  refine va_last hx hb hK hP (hD _) hS a 1 ha rfl hin hdg (fun H1 locs1 hP1 _ hS1 => ?_)
  rw [ik_w_sl_arr hw] at hP1
  exact hk H1 locs1 ls hP1 hS1 hl
theorem ik_ald_row {x : ik_DX} (hC : ik_Cx sc x) {lv : ik_LV} {pc a n : Nat} {st : List Value} {σ : SS} {i : Int32} {j : Nat} (hi : ik_isA sc.1 a 0 n = true) (hj : ik_ix i n = some j) (hdg : decode sc.2.1 pc = .ok (.iaload, 1)) (hk : ik_Go sc x lv (pc + 1) (.int (σ.2.2.1 a j) :: st) σ) : ik_Go sc x lv pc (.int i :: .ref (ik_xad x a) :: st) σ := by
  obtain ⟨p, l, e, s, m, args, below, meth, c, ad, D, cA, A, v0, g0⟩ := x
  obtain ⟨hx, hb, hml, hown, hts, hns, hK, hD, hr, hlk⟩ := hC
  obtain ⟨hin, rfl⟩ := ik_ix_ok hj
  obtain ⟨hw, ha⟩ := ik_isA_ok (ad := ad) (cA := cA) (g := σ.2.2) hi
  intro H locs ls hP hS hl
  exact va_iald hx hb hK hP a 0 ha rfl hin hdg (hk H locs ls hP hS hl)
theorem ik_lld_row {x : ik_DX} (hC : ik_Cx sc x) {lv : ik_LV} {pc a n : Nat} {st : List Value} {σ : SS} {i : Int32} {j : Nat} (hi : ik_isA sc.1 a 1 n = true) (hj : ik_ix i n = some j) (hdg : decode sc.2.1 pc = .ok (.laload, 1)) (hk : ik_Go sc x lv (pc + 1) (.long (σ.2.2.2 a j) :: st) σ) : ik_Go sc x lv pc (.int i :: .ref (ik_xad x a) :: st) σ := by
  obtain ⟨p, l, e, s, m, args, below, meth, c, ad, D, cA, A, v0, g0⟩ := x
  obtain ⟨hx, hb, hml, hown, hts, hns, hK, hD, hr, hlk⟩ := hC
  obtain ⟨hin, rfl⟩ := ik_ix_ok hj
  obtain ⟨hw, ha⟩ := ik_isA_ok (ad := ad) (cA := cA) (g := σ.2.2) hi
  intro H locs ls hP hS hl
  exact va_lald hx hb hK hP a 1 ha rfl hin hdg (hk H locs ls hP hS hl)
def sAst (a k n : Nat) (i e : SS → Option (Int32 × GG)) : ST := fun σ => (i σ).bind fun q => (e (σ.1, σ.2.1, q.2)).bind fun w => (ik_ix q.1 n).bind fun j => (ik_as k w.1).map fun z => .inl (σ.1, σ.2.1, ik_si w.2 a j z)
theorem okAst (k n : Nat) {a : Nat} (r : RP sc a) (i e : EP sc) : ik_okS sc (fun lv pc => (r.1 lv 0 pc).bind fun p1 => (i.1.1 lv 1 p1).bind fun p2 => (e.1.1 lv 2 p2).bind fun p3 => if ik_isA sc.1 a k n = true then (cOp sc.2.1 (ik_asi k) p3).map fun p4 => (lv, p4) else none) (sAst a k n i.1.2 e.1.2) := by
  intro x hC lv pc lv' pc' σ o1 hc hs hk hr
  simp only [Option.bind_eq_some_iff] at hc
  obtain ⟨p1, h1, p2, h2, p3, h3, h4⟩ := hc
  split at h4
  · rename_i hi
    simp only [Option.map_eq_some_iff] at h4
    obtain ⟨p4, h5, h6⟩ := h4
    cases h6
    obtain ⟨hdg, rfl⟩ := cOp_ok h5
    simp only [sAst, Option.bind_eq_some_iff, Option.map_eq_some_iff] at hs
    obtain ⟨⟨v1, g1⟩, e1, ⟨v2, g2⟩, e2, j, e3, z, e4, e5⟩ := hs
    cases e5
    refine r.2 x hC lv 0 pc p1 [] σ h1 ?_
    refine i.2 x hC lv 1 p1 p2 _ σ v1 g1 h2 (ik_cat_r ik_cat_0) e1 ?_
    refine e.2 x hC lv 2 p2 p3 _ (σ.1, σ.2.1, g1) v2 g2 h3 (ik_cat_i (ik_cat_r ik_cat_0)) e2 ?_
    exact ik_ast_row hC hi e4 e3 hdg (hk _ rfl)
  · cases h4
def pAst (k n : Nat) {a : Nat} (r : RP sc a) (i e : EP sc) : SP sc := ⟨(fun lv pc => (r.1 lv 0 pc).bind fun p1 => (i.1.1 lv 1 p1).bind fun p2 => (e.1.1 lv 2 p2).bind fun p3 => if ik_isA sc.1 a k n = true then (cOp sc.2.1 (ik_asi k) p3).map fun p4 => (lv, p4) else none, sAst a k n i.1.2 e.1.2), okAst k n r i e⟩
def sAstL (a n : Nat) (i : SS → Option (Int32 × GG)) (e : SS → Option (Int64 × GG)) : ST := fun σ => (i σ).bind fun q => (e (σ.1, σ.2.1, q.2)).bind fun w => (ik_ix q.1 n).map fun j => .inl (σ.1, σ.2.1, ik_sl w.2 a j w.1)
theorem okAstL (n : Nat) {a : Nat} (r : RP sc a) (i : EP sc) (e : JP sc) : ik_okS sc (fun lv pc => (r.1 lv 0 pc).bind fun p1 => (i.1.1 lv 1 p1).bind fun p2 => (e.1.1 lv 2 p2).bind fun p3 => if ik_isA sc.1 a 1 n = true then (cOp sc.2.1 .lastore p3).map fun p4 => (lv, p4) else none) (sAstL a n i.1.2 e.1.2) := by
  intro x hC lv pc lv' pc' σ o1 hc hs hk hr
  simp only [Option.bind_eq_some_iff] at hc
  obtain ⟨p1, h1, p2, h2, p3, h3, h4⟩ := hc
  split at h4
  · rename_i hi
    simp only [Option.map_eq_some_iff] at h4
    obtain ⟨p4, h5, h6⟩ := h4
    cases h6
    obtain ⟨hdg, rfl⟩ := cOp_ok h5
    simp only [sAstL, Option.bind_eq_some_iff, Option.map_eq_some_iff] at hs
    obtain ⟨⟨v1, g1⟩, e1, ⟨v2, g2⟩, e2, j, e3, e5⟩ := hs
    cases e5
    refine r.2 x hC lv 0 pc p1 [] σ h1 ?_
    refine i.2 x hC lv 1 p1 p2 _ σ v1 g1 h2 (ik_cat_r ik_cat_0) e1 ?_
    refine e.2 x hC lv 2 p2 p3 _ (σ.1, σ.2.1, g1) v2 g2 h3 (ik_cat_i (ik_cat_r ik_cat_0)) e2 ?_
    exact ik_lst_row hC hi e3 hdg (hk _ rfl)
  · cases h4
def pAstL (n : Nat) {a : Nat} (r : RP sc a) (i : EP sc) (e : JP sc) : SP sc := ⟨(fun lv pc => (r.1 lv 0 pc).bind fun p1 => (i.1.1 lv 1 p1).bind fun p2 => (e.1.1 lv 2 p2).bind fun p3 => if ik_isA sc.1 a 1 n = true then (cOp sc.2.1 .lastore p3).map fun p4 => (lv, p4) else none, sAstL a n i.1.2 e.1.2), okAstL n r i e⟩
-- an element changed in place: r; i; dup2; iaload; e; op; iastore
def sAop (a n w : Nat) (i e : SS → Option (Int32 × GG)) : ST := fun σ => (i σ).bind fun q => (ik_ix q.1 n).bind fun j => (e (σ.1, σ.2.1, q.2)).bind fun y => (ik_bo w (q.2.1 a j) y.1).map fun z => .inl (σ.1, σ.2.1, ik_si y.2 a j z)
theorem okAop (n w : Nat) {a : Nat} (r : RP sc a) (i e : EP sc) : ik_okS sc (fun lv pc => (r.1 lv 0 pc).bind fun p1 => (i.1.1 lv 1 p1).bind fun p2 => (cOp sc.2.1 .dup2 p2).bind fun p3 => if ik_isA sc.1 a 0 n = true then (cOp sc.2.1 .iaload p3).bind fun p4 => (e.1.1 lv 3 p4).bind fun p5 => (cOp sc.2.1 (ik_bi w) p5).bind fun p6 => (cOp sc.2.1 .iastore p6).map fun p7 => (lv, p7) else none) (sAop a n w i.1.2 e.1.2) := by
  intro x hC lv pc lv' pc' σ o1 hc hs hk hr
  simp only [Option.bind_eq_some_iff] at hc
  obtain ⟨p1, h1, p2, h2, p3, h3, h4⟩ := hc
  split at h4
  · rename_i hi
    simp only [Option.bind_eq_some_iff, Option.map_eq_some_iff] at h4
    obtain ⟨p4, h5, p5, h6, p6, h7, p7, h8, h9⟩ := h4
    cases h9
    obtain ⟨d3, rfl⟩ := cOp_ok h3
    obtain ⟨d4, rfl⟩ := cOp_ok h5
    obtain ⟨d6, rfl⟩ := cOp_ok h7
    obtain ⟨d7, rfl⟩ := cOp_ok h8
    simp only [sAop, Option.bind_eq_some_iff, Option.map_eq_some_iff] at hs
    obtain ⟨⟨v1, g1⟩, e1, j, e3, ⟨v2, g2⟩, e2, z, e4, e5⟩ := hs
    cases e5
    refine r.2 x hC lv 0 pc p1 [] σ h1 ?_
    refine i.2 x hC lv 1 p1 p2 _ σ v1 g1 h2 (ik_cat_r ik_cat_0) e1 ?_
    refine ik_dup2_row hC rfl rfl d3 ?_
    refine ik_ald_row hC hi e3 d4 ?_
    refine e.2 x hC lv 3 _ p5 _ (σ.1, σ.2.1, g1) v2 g2 h6 (ik_cat_i (ik_cat_i (ik_cat_r ik_cat_0))) e2 ?_
    refine ik_op_row hC e4 d6 ?_
    exact ik_ast_row hC hi rfl e3 d7 (hk _ rfl)
  · cases h4
def pAop (n w : Nat) {a : Nat} (r : RP sc a) (i e : EP sc) : SP sc := ⟨(fun lv pc => (r.1 lv 0 pc).bind fun p1 => (i.1.1 lv 1 p1).bind fun p2 => (cOp sc.2.1 .dup2 p2).bind fun p3 => if ik_isA sc.1 a 0 n = true then (cOp sc.2.1 .iaload p3).bind fun p4 => (e.1.1 lv 3 p4).bind fun p5 => (cOp sc.2.1 (ik_bi w) p5).bind fun p6 => (cOp sc.2.1 .iastore p6).map fun p7 => (lv, p7) else none, sAop a n w i.1.2 e.1.2), okAop n w r i e⟩
def sAopL (a n : Nat) (i : SS → Option (Int32 × GG)) (e : SS → Option (Int64 × GG)) : ST := fun σ => (i σ).bind fun q => (ik_ix q.1 n).bind fun j => (e (σ.1, σ.2.1, q.2)).map fun y => .inl (σ.1, σ.2.1, ik_sl y.2 a j (q.2.2 a j + y.1))
theorem okAopL (n : Nat) {a : Nat} (r : RP sc a) (i : EP sc) (e : JP sc) : ik_okS sc (fun lv pc => (r.1 lv 0 pc).bind fun p1 => (i.1.1 lv 1 p1).bind fun p2 => (cOp sc.2.1 .dup2 p2).bind fun p3 => if ik_isA sc.1 a 1 n = true then (cOp sc.2.1 .laload p3).bind fun p4 => (e.1.1 lv 4 p4).bind fun p5 => (cOp sc.2.1 .ladd p5).bind fun p6 => (cOp sc.2.1 .lastore p6).map fun p7 => (lv, p7) else none) (sAopL a n i.1.2 e.1.2) := by
  intro x hC lv pc lv' pc' σ o1 hc hs hk hr
  simp only [Option.bind_eq_some_iff] at hc
  obtain ⟨p1, h1, p2, h2, p3, h3, h4⟩ := hc
  split at h4
  · rename_i hi
    simp only [Option.bind_eq_some_iff, Option.map_eq_some_iff] at h4
    obtain ⟨p4, h5, p5, h6, p6, h7, p7, h8, h9⟩ := h4
    cases h9
    obtain ⟨d3, rfl⟩ := cOp_ok h3
    obtain ⟨d4, rfl⟩ := cOp_ok h5
    obtain ⟨d6, rfl⟩ := cOp_ok h7
    obtain ⟨d7, rfl⟩ := cOp_ok h8
    simp only [sAopL, Option.bind_eq_some_iff, Option.map_eq_some_iff] at hs
    obtain ⟨⟨v1, g1⟩, e1, j, e3, ⟨v2, g2⟩, e2, e5⟩ := hs
    cases e5
    refine r.2 x hC lv 0 pc p1 [] σ h1 ?_
    refine i.2 x hC lv 1 p1 p2 _ σ v1 g1 h2 (ik_cat_r ik_cat_0) e1 ?_
    refine ik_dup2_row hC rfl rfl d3 ?_
    refine ik_lld_row hC hi e3 d4 ?_
    refine e.2 x hC lv 4 _ p5 _ (σ.1, σ.2.1, g1) v2 g2 h6 (ik_cat_l (ik_cat_i (ik_cat_r ik_cat_0))) e2 ?_
    refine ik_ladd_row hC d6 ?_
    exact ik_lst_row hC hi e3 d7 (hk _ rfl)
  · cases h4
def pAopL (n : Nat) {a : Nat} (r : RP sc a) (i : EP sc) (e : JP sc) : SP sc := ⟨(fun lv pc => (r.1 lv 0 pc).bind fun p1 => (i.1.1 lv 1 p1).bind fun p2 => (cOp sc.2.1 .dup2 p2).bind fun p3 => if ik_isA sc.1 a 1 n = true then (cOp sc.2.1 .laload p3).bind fun p4 => (e.1.1 lv 4 p4).bind fun p5 => (cOp sc.2.1 .ladd p5).bind fun p6 => (cOp sc.2.1 .lastore p6).map fun p7 => (lv, p7) else none, sAopL a n i.1.2 e.1.2), okAopL n r i e⟩
-- the method's end
theorem ik_ret_S {A : Nat → Prop} {s t : State} {H : Heap} {locs : List Loc} (h : va_S A s.heap H locs) (ht : t.heap = H) : va_F A s t := h.F ht
def sRet (t : Nat) (e : SS → Option (Int32 × GG)) : ST := fun σ => (e σ).bind fun q => if ik_bz t q.1 = true then some (.inr (.int q.1, q.2)) else none
theorem okRet (t nx : Nat) (e : EP sc) : ik_okS sc (fun lv pc => (e.1.1 lv 0 pc).bind fun p1 => if sc.2.2.2.2.2.2 = some (ik_ty t) ∧ (t = 0 ∨ t = 3) then (cOp sc.2.1 .ireturn p1).map fun _ => (lv, nx) else none) (sRet t e.1.2) := by
  intro x hC lv pc lv' pc' σ o1 hc hs hk hr
  simp only [Option.bind_eq_some_iff] at hc
  obtain ⟨p1, h1, h2⟩ := hc
  split at h2
  · rename_i hi
    simp only [Option.map_eq_some_iff] at h2
    obtain ⟨p2, h3, h4⟩ := h2
    obtain ⟨hdg, -⟩ := cOp_ok h3
    simp only [sRet, Option.bind_eq_some_iff] at hs
    obtain ⟨⟨v1, g1⟩, e1, e2⟩ := hs
    split at e2
    · rename_i hb
      cases e2
      have hres := hr _ rfl
      refine e.2 x hC lv 0 pc p1 [] σ v1 g1 h1 ik_cat_0 e1 ?_
      obtain ⟨p, l, e, s, m, args, below, meth, c, ad, D, cA, A, v0, g0⟩ := x
      obtain ⟨hx, hbc, hml, hown, hts, hns, hK, hD, hrt, hlk⟩ := hC
      cases hres
      intro H locs ls hP hS hl
      exact W.zret hx hbc (hrt.trans hi.1) (ik_bz_ok hb hi.2).1 (fun t ht hW => ⟨⟨v1, (), rfl, rfl, by show va_P _ _ _ _; rw [ht]; exact hP⟩, hS.F ht⟩) hS.2.2 hdg
    · cases e2
  · cases h2
def pRet (t nx : Nat) (e : EP sc) : SP sc := ⟨(fun lv pc => (e.1.1 lv 0 pc).bind fun p1 => if sc.2.2.2.2.2.2 = some (ik_ty t) ∧ (t = 0 ∨ t = 3) then (cOp sc.2.1 .ireturn p1).map fun _ => (lv, nx) else none, sRet t e.1.2), okRet t nx e⟩
def sRetL (e : SS → Option (Int64 × GG)) : ST := fun σ => (e σ).map fun q => .inr (.long q.1, q.2)
theorem okRetL (nx : Nat) (e : JP sc) : ik_okS sc (fun lv pc => (e.1.1 lv 0 pc).bind fun p1 => if sc.2.2.2.2.2.2 = some .long then (cOp sc.2.1 .lreturn p1).map fun _ => (lv, nx) else none) (sRetL e.1.2) := by
  intro x hC lv pc lv' pc' σ o1 hc hs hk hr
  simp only [Option.bind_eq_some_iff] at hc
  obtain ⟨p1, h1, h2⟩ := hc
  split at h2
  · rename_i hi
    simp only [Option.map_eq_some_iff] at h2
    obtain ⟨p2, h3, h4⟩ := h2
    obtain ⟨hdg, -⟩ := cOp_ok h3
    simp only [sRetL, Option.map_eq_some_iff] at hs
    obtain ⟨⟨v1, g1⟩, e1, e2⟩ := hs
    cases e2
    have hres := hr _ rfl
    refine e.2 x hC lv 0 pc p1 [] σ v1 g1 h1 ik_cat_0 e1 ?_
    obtain ⟨p, l, e, s, m, args, below, meth, c, ad, D, cA, A, v0, g0⟩ := x
    obtain ⟨hx, hbc, hml, hown, hts, hns, hK, hD, hrt, hlk⟩ := hC
    cases hres
    intro H locs ls hP hS hl
    exact W.lret hx hbc (hrt.trans hi) (fun t ht hW => ⟨⟨v1, (), rfl, rfl, by show va_P _ _ _ _; rw [ht]; exact hP⟩, hS.F ht⟩) hS.2.2 hdg
  · cases h2
def pRetL (nx : Nat) (e : JP sc) : SP sc := ⟨(fun lv pc => (e.1.1 lv 0 pc).bind fun p1 => if sc.2.2.2.2.2.2 = some .long then (cOp sc.2.1 .lreturn p1).map fun _ => (lv, nx) else none, sRetL e.1.2), okRetL nx e⟩
def sRetV : ST := fun σ => some (.inr (.null, σ.2.2))
theorem okRetV (nx : Nat) : ik_okS sc (fun lv pc => if sc.2.2.2.2.2.2 = none then (cOp sc.2.1 .return_ pc).map fun _ => (lv, nx) else none) sRetV := by
  intro x hC lv pc lv' pc' σ o1 hc hs hk hr
  dsimp only at hc
  split at hc
  · rename_i hi
    simp only [Option.map_eq_some_iff] at hc
    obtain ⟨p2, h3, h4⟩ := hc
    obtain ⟨hdg, -⟩ := cOp_ok h3
    cases hs
    have hres := hr _ rfl
    obtain ⟨p, l, e, s, m, args, below, meth, c, ad, D, cA, A, v0, g0⟩ := x
    obtain ⟨hx, hbc, hml, hown, hts, hns, hK, hD, hrt, hlk⟩ := hC
    cases hres
    intro H locs ls hP hS hl
    exact W.vret hx hbc (hrt.trans hi) (fun t ht hW => ⟨⟨(), rfl, trivial, by show va_P _ _ _ _; rw [ht]; exact hP⟩, hS.F ht⟩) hS.2.2 hdg
  · cases hc
def pRetV (nx : Nat) : SP sc := ⟨(fun lv pc => if sc.2.2.2.2.2.2 = none then (cOp sc.2.1 .return_ pc).map fun _ => (lv, nx) else none, sRetV), okRetV nx⟩
end SY
