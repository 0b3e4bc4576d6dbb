/-! how the objects are made: the new arrays of a constructor, one by one -/
def ik_aty : Nat → ArrayType
  | 0 => .int
  | 1 => .long
  | 2 => .byte
  | _ => .boolean
def ik_zero (kd n : Nat) : vp_A := (n, if kd = 1 then .inr (.inl (fun _ => 0)) else .inl (fun _ => 0))
theorem ik_aw0 : Cond.arrayClass .int ∈ lw_gd := ik_gd (by decide +kernel) rfl
theorem ik_aw1 : Cond.arrayClass .long ∈ lw_gd := ik_gd (by decide +kernel) rfl
theorem ik_aw2 : Cond.arrayClass .byte ∈ lw_gd := ik_gd (by decide +kernel) rfl
theorem ik_aw3 : Cond.arrayClass .boolean ∈ lw_gd := ik_gd (by decide +kernel) rfl
/-- what a field must be that a constructor fills with a new cell -/
def ik_fin (ci j : Nat) : Bool := match vwCl[ci]? with
  | some (_, T, _) => (T j).2.2.2 && (match parseFieldDescriptor (T j).2.2.1 with
    | some (.array _) => true
    | some (.object _) => true
    | _ => false)
  | none => false
section MK
variable {p : Program} {l : Launch} {e : Env} {R : Room} {s : State} {m : MethodId} {args : Array Value} {below : List Frame} {meth : Method} {c : Code} {H : Heap} {locs : List Loc} {cells slots : Nat} {Q : State → Prop}
variable {cc : ByteArray} {own : String} {pc : Nat} {ls : Array Slot} {rest : List Value} {D : va_G} {cA : Nat → ClassId} {A : Nat → Prop} {ws : va_W}
/-- what holds all through a constructor -/
def ik_Cc (p : Program) (s : State) (m : MethodId) (args : Array Value) (meth : Method) (c : Code) (cc : ByteArray) (nL : Nat) (own : String) (D : va_G) (cA : Nat → ClassId) (A : Nat → Prop) : Prop :=
  p.tables.exec = Jvm.exec ∧ c.code = cc ∧ c.maxLocals = nL ∧ s.vm.findClass own = some m.cls ∧ (∀ w ∈ lw_gd, w.before args s = true) ∧ ik_nest s ∧ va_K D vwCl (ik_tys cA) s ∧ (∀ q : Nat, s.heap.size ≤ q → A q)
theorem ik_sameA {U : State} {c1 c2 : ClassId} {ty : FieldType} (h1 : va_RA U c1 ty) (h2 : va_RA U c2 ty) : c1 = c2 := by
  cases ty with
  | object C =>
    obtain ⟨_, _, _, _, _, a⟩ := h1
    obtain ⟨_, _, _, _, _, b⟩ := h2
    exact Option.some.inj (a.symm.trans b)
  | _ => exact Option.some.inj ((show U.vm.findClass _ = some c1 from h1).symm.trans h2)
theorem ik_newa {nL kd n : Nat} (hC : ik_Cc p s m args meth c cc nL own D cA A) (hkd : kd < 4) (hn : n < 100000) (hP : va_P D vwCl ws H) (hD : va_D A ws) (hS : va_S A s.heap H locs)
    (hcells : cells + 1 ≤ R.cells) (hslots : slots + n ≤ R.slots) (hdg : decode cc pc = .ok (.newarray (ik_aty kd), 2))
    (kk : ∀ (q : Nat) (H1 : Heap), va_P D vwCl (ws ++ [(q, .inl (cA kd, ik_zero kd n))]) H1 → va_D A (ws ++ [(q, .inl (cA kd, ik_zero kd n))]) → va_S A s.heap H1 locs →
      W p l e R s m args below meth c H1 locs (cells + 1) (slots + n) Q (F0 m (pc + 2) ls (.ref q :: rest))) : W p l e R s m args below meth c H locs cells slots Q (F0 m pc ls (.int (Int32.ofNat n) :: rest)) := by
  obtain ⟨hx, hb, hml, hown, hts, hns, hK, hA⟩ := hC
  have hneg : ¬ (Int32.ofNat n < 0) := fun h => nI_in (c := n) (N := n + 1) (Nat.lt_succ_self n) (by omega) (Or.inl h)
  have hN : (Int32.ofNat n).toNatClampNeg = n := nI_clamp (by omega)
  rcases (show kd = 0 ∨ kd = 1 ∨ kd = 2 ∨ kd = 3 by omega) with rfl | rfl | rfl | rfl
  · refine va_newa (atype := .int) (ty := .int) (N' := n) (a0 := ik_zero 0 n) hx hb (hts _ ik_aw0) rfl hK hP hD hS hA (fun cA => rfl) hneg hN (by simp [componentBytes]; omega) hcells hslots hdg (fun q cB H1 hK1 hP1 hD1 hS1 => ?_)
    obtain rfl : cB = cA 0 := ik_sameA (hK1.2 4 _ rfl).2 (hK.2 0 _ rfl).2
    exact kk q H1 hP1 hD1 hS1
  · refine va_newa (atype := .long) (ty := .long) (N' := n) (a0 := ik_zero 1 n) hx hb (hts _ ik_aw1) rfl hK hP hD hS hA (fun cA => rfl) hneg hN (by simp [componentBytes]; omega) hcells hslots hdg (fun q cB H1 hK1 hP1 hD1 hS1 => ?_)
    obtain rfl : cB = cA 1 := ik_sameA (hK1.2 4 _ rfl).2 (hK.2 1 _ rfl).2
    exact kk q H1 hP1 hD1 hS1
  · refine va_newa (atype := .byte) (ty := .byte) (N' := n) (a0 := ik_zero 2 n) hx hb (hts _ ik_aw2) rfl hK hP hD hS hA (fun cA => rfl) hneg hN (by simp [componentBytes]; omega) hcells hslots hdg (fun q cB H1 hK1 hP1 hD1 hS1 => ?_)
    obtain rfl : cB = cA 2 := ik_sameA (hK1.2 4 _ rfl).2 (hK.2 2 _ rfl).2
    exact kk q H1 hP1 hD1 hS1
  · refine va_newa (atype := .boolean) (ty := .boolean) (N' := n) (a0 := ik_zero 3 n) hx hb (hts _ ik_aw3) rfl hK hP hD hS hA (fun cA => rfl) hneg hN (by simp [componentBytes]; omega) hcells hslots hdg (fun q cB H1 hK1 hP1 hD1 hS1 => ?_)
    obtain rfl : cB = cA 3 := ik_sameA (hK1.2 4 _ rfl).2 (hK.2 3 _ rfl).2
    exact kk q H1 hP1 hD1 hS1
theorem ik_putR {nL idx ci j h0 q : Nat} {fs : List Value} {done : va_W} (hC : ik_Cc p s m args meth c cc nL own D cA A) (hin : meth.name = "<init>") (hF : ik_FL own idx ci j) (hfin : ik_fin ci j = true) (hci : (vwCl[ci]?).map (fun r => r.1) = some own) (hl : j < fs.length)
    (hdg : decode cc pc = .ok (.putfield idx, 3)) (hP : va_P D vwCl ((h0, .inr (ci, fs)) :: done) H) (hD : va_D A ((h0, .inr (ci, fs)) :: done)) (hS : va_S A s.heap H locs)
    (kk : ∀ (H1 : Heap) (locs1 : List Loc), va_P D vwCl ((h0, .inr (ci, fs.set j (.ref q))) :: done) H1 → va_D A ((h0, .inr (ci, fs.set j (.ref q))) :: done) → va_S A s.heap H1 locs1 → W p l e R s m args below meth c H1 locs1 cells slots Q (F0 m (pc + 3) ls rest)) : W p l e R s m args below meth c H locs cells slots Q (F0 m pc ls (.ref q :: .ref h0 :: rest)) := by
  obtain ⟨hx, hb, hml, hown, hts, hns, hK, hA⟩ := hC
  obtain ⟨C, T, N, ty, g1, g2, g3, g4, g5, g6, g7⟩ := hF
  rw [g1] at hci
  obtain rfl : C = own := Option.some.inj hci
  unfold ik_fin at hfin
  rw [g1] at hfin
  simp only [Bool.and_eq_true] at hfin
  obtain ⟨f1, f2⟩ := hfin
  have hpd := g4 j g2
  rw [hpd] at f2
  have hty : narrow (ty j) (.ref q) = .ref q ∧ fits (ty j) (.ref q) = true := by
    revert f2
    cases ty j <;> first | (intro _; exact ⟨rfl, rfl⟩) | (intro h; cases h)
  refine va_putF (D := D) (ci := ci) (v := .ref q) (C := C) (T := T) (N := N) hx hb hts (ik_gd_lays g3) ty g4 g5 hown hK hP hD hS 0 rfl g1 j g2 (hts _ (ik_gd g7 rfl)) (fun _ h => by rw [g6] at h; exact h) f1 hin g6 hpd hty.1 hty.2 hl hdg (fun H1 locs1 hP1 hD1 hS1 => ?_)
  exact kk H1 locs1 hP1 hD1 hS1
/-- a small number put on the stack -/
def ik_pn (cc : ByteArray) (pc n : Nat) : Option Nat := match decode cc pc with
  | .ok (.iconst i, 1) => if Int32.ofInt i = Int32.ofNat n then some (pc + 1) else none
  | .ok (.bipush i, 2) => if (Int8.ofInt i).toInt32 = Int32.ofNat n then some (pc + 2) else none
  | .ok (.sipush i, 3) => if (Int16.ofInt i).toInt32 = Int32.ofNat n then some (pc + 3) else none
  | _ => none
theorem ik_pn_ok {n pc' : Nat} (hx : p.tables.exec = Jvm.exec) (hb : c.code = cc) (h : ik_pn cc pc n = some pc') (kk : W p l e R s m args below meth c H locs cells slots Q (F0 m pc' ls (.int (Int32.ofNat n) :: rest))) : W p l e R s m args below meth c H locs cells slots Q (F0 m pc ls rest) := by
  unfold ik_pn at h
  split at h
  · rename_i i hdg
    split at h
    · rename_i hv
      cases h
      exact lv_iconst hx hb hdg hv kk
    · cases h
  · rename_i i hdg
    split at h
    · rename_i hv
      cases h
      exact lv_bipush hx hb hdg hv kk
    · cases h
  · rename_i i hdg
    split at h
    · rename_i hv
      cases h
      exact lv_sipush hx hb hdg hv kk
    · cases h
  · cases h
/-- rows: kind, length, the field's link, the field -/
abbrev ik_Rw : Type := Nat × Nat × Nat × Nat
def ik_rA (cc : ByteArray) (pc : Nat) (r : ik_Rw) : Option Nat := if decode cc pc = .ok (.aload_n 0, 1) then (ik_pn cc (pc + 1) r.2.1).bind fun p1 => if decode cc p1 = .ok (.newarray (ik_aty r.1), 2) ∧ decode cc (p1 + 2) = .ok (.putfield r.2.2.1, 3) then some (p1 + 5) else none else none
def ik_rAs (cc : ByteArray) : Nat → List ik_Rw → Option Nat
  | pc, [] => some pc
  | pc, r :: rs => (ik_rA cc pc r).bind fun p => ik_rAs cc p rs
def ik_sets (fs : List Value) : List ik_Rw → List Nat → List Value
  | r :: rs, q :: qs => ik_sets (fs.set r.2.2.2 (.ref q)) rs qs
  | _, _ => fs
def ik_news (cA : Nat → ClassId) : List ik_Rw → List Nat → va_W
  | r :: rs, q :: qs => (q, .inl (cA r.1, ik_zero r.1 r.2.1)) :: ik_news cA rs qs
  | _, _ => []
def ik_sum (L : List ik_Rw) : Nat := (L.map fun r => r.2.1).sum
theorem ik_run {nL ci h0 : Nat} (hC : ik_Cc p s m args meth c cc nL own D cA A) (hin : meth.name = "<init>") (hci : (vwCl[ci]?).map (fun r => r.1) = some own) (h0l : ls[0]? = some (.val (.ref h0))) : ∀ (L : List ik_Rw) (fs : List Value) (done : va_W) (pc pc' : Nat) (H : Heap) (locs : List Loc) (cells slots : Nat),
    ik_rAs cc pc L = some pc' → (∀ r ∈ L, ik_FL own r.2.2.1 ci r.2.2.2) → (∀ r ∈ L, r.1 < 4 ∧ r.2.1 < 100000 ∧ ik_fin ci r.2.2.2 = true ∧ r.2.2.2 < fs.length) → cells + L.length ≤ R.cells → slots + ik_sum L ≤ R.slots →
    va_P D vwCl ((h0, .inr (ci, fs)) :: done) H → va_D A ((h0, .inr (ci, fs)) :: done) → va_S A s.heap H locs →
    (∀ (qs : List Nat) (H1 : Heap) (locs1 : List Loc), qs.length = L.length → va_P D vwCl ((h0, .inr (ci, ik_sets fs L qs)) :: (done ++ ik_news cA L qs)) H1 → va_D A ((h0, .inr (ci, ik_sets fs L qs)) :: (done ++ ik_news cA L qs)) → va_S A s.heap H1 locs1 →
      W p l e R s m args below meth c H1 locs1 (cells + L.length) (slots + ik_sum L) Q (F0 m pc' ls rest)) →
    W p l e R s m args below meth c H locs cells slots Q (F0 m pc ls rest) := by
  intro L
  induction L with
  | nil =>
    intro fs done pc pc' H locs cells slots hck hF hr hc hs hP hD hS kk
    cases hck
    have := kk [] H locs rfl (by simpa [ik_sets, ik_news] using hP) (by simpa [ik_sets, ik_news] using hD) hS
    simpa [ik_sum] using this
  | cons r rs ih =>
    intro fs done pc pc' H locs cells slots hck hF hr hc hs hP hD hS kk
    obtain ⟨kd, n, idx, j⟩ := r
    have hx := hC.1
    have hb := hC.2.1
    simp only [ik_rAs, Option.bind_eq_some_iff] at hck
    obtain ⟨p5, h1, h2⟩ := hck
    unfold ik_rA at h1
    split at h1
    · rename_i d0
      simp only [Option.bind_eq_some_iff] at h1
      obtain ⟨p1, hpu, h1⟩ := h1
      split at h1
      · rename_i d1
        cases h1
        obtain ⟨r1, r2, r3, r4⟩ := hr _ List.mem_cons_self
        simp only [List.length_cons] at hc
        simp only [ik_sum, List.map_cons, List.sum_cons] at hs
        refine lv_aload_n hx hb d0 rfl h0l ?_
        refine ik_pn_ok hx hb hpu ?_
        refine ik_newa hC r1 r2 hP hD hS (by omega) (by omega) d1.1 (fun q H1 hP1 hD1 hS1 => ?_)
        refine ik_putR hC hin (hF _ List.mem_cons_self) r3 hci r4 d1.2 hP1 hD1 hS1 (fun H2 locs2 hP2 hD2 hS2 => ?_)
        refine ih (fs.set j (.ref q)) (done ++ [(q, .inl (cA kd, ik_zero kd n))]) (p1 + 2 + 3) pc' H2 locs2 (cells + 1) (slots + n) h2 (fun r hm => hF r (List.mem_cons_of_mem _ hm)) (fun r hm => by
          have := hr r (List.mem_cons_of_mem _ hm)
          rw [List.length_set]
          exact this) (by omega) (by show slots + n + (rs.map fun r => r.2.1).sum ≤ _; omega) hP2 hD2 hS2 (fun qs H3 locs3 hl hP3 hD3 hS3 => ?_)
        have := kk (q :: qs) H3 locs3 (by simp [hl]) (by simpa [ik_sets, ik_news] using hP3) (by simpa [ik_sets, ik_news] using hD3) hS3
        simpa [ik_sum, Nat.add_assoc, Nat.add_comm 1] using this
      · cases h1
    · cases h1
end MK
