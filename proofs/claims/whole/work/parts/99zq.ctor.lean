/-! the constructors that make arrays alone -/
theorem ik_oiw1 : Cond.instanceMethod Lib.objectInit ∈ lw_gd := ik_gd (by decide +kernel) rfl
theorem ik_oiw2 : Cond.code Lib.objectInit ⟨#[0xb1]⟩ 1 none ∈ lw_gd := ik_gd (by decide +kernel) rfl
abbrev ik_rmC (k nc ns : Nat) : Room := { frames := k, cells := nc, slots := ns, locals := 200 * k }
/-- a constructor: of an object at its blank it makes these cells, in this order -/
def ik_okN (y : MethodName) (cc : ByteArray) (mL ci : Nat) (fs0 As : List Value) (k nc ns : Nat) (wdC : List ik_CD) (g1 : GG) : Prop :=
  ∀ (l : Launch) (D : va_G) (cA : Nat → ClassId) (h0 sz : Nat), Met l y (Cond.code y cc mL none :: lw_gd) (ik_rmC k nc ns) (va_Pc (.ref h0 :: As) (fun U => U.heap.size = sz ∧ va_P D vwCl [(h0, .inr (ci, fs0))] U.heap ∧ va_K D vwCl (ik_tys cA) U ∧ ik_nest U))
    (va_Qv (fun _ => True) (fun (ad : Nat → Nat) t => ad 0 = h0 ∧ va_P D vwCl (ik_w wdC ad cA g1) t.heap ∧ va_D (va_A [(h0, .inr (ci, fs0))] sz) (ik_w wdC ad cA g1)) (va_A [(h0, .inr (ci, fs0))] sz)) nc ns (va_A [(h0, .inr (ci, fs0))] sz)
/-- the rest of a constructor behind its arrays -/
def ik_Fin (cc : ByteArray) (mL : Nat) (own : String) (pc pc' : Nat) (wdC : List ik_CD) (g g' : GG) : Prop :=
  ∀ (p : Program) (l : Launch) (e : Env) (R : Room) (s : State) (m : MethodId) (args : Array Value) (below : List Frame) (meth : Method) (c : Code) (H : Heap) (locs : List Loc) (cells slots : Nat) (Q : State → Prop) (ls : Array Slot) (D : va_G) (cA : Nat → ClassId) (A : Nat → Prop) (ad : Nat → Nat),
    ik_Cc p s m args meth c cc mL own D cA A → lv_has ls mL [(0, .ref (ad 0))] → va_P D vwCl (ik_w wdC ad cA g) H → va_D A (ik_w wdC ad cA g) → va_S A s.heap H locs →
    (∀ (H1 : Heap) (locs1 : List Loc) (ls1 : Array Slot), va_P D vwCl (ik_w wdC ad cA g') H1 → va_D A (ik_w wdC ad cA g') → va_S A s.heap H1 locs1 → W p l e R s m args below meth c H1 locs1 cells slots Q (F0 m pc' ls1 [])) →
    W p l e R s m args below meth c H locs cells slots Q (F0 m pc ls [])
theorem ik_fin0 {cc : ByteArray} {mL : Nat} {own : String} {pc : Nat} {wdC : List ik_CD} {g : GG} : ik_Fin cc mL own pc pc wdC g g := fun _ _ _ _ _ _ _ _ _ _ _ _ _ _ _ _ _ _ _ _ _ _ hP hD hS kk => kk _ _ _ hP hD hS
theorem ik_ads (qs : List Nat) (h0 n : Nat) (h : qs.length = n) : ∃ ad : Nat → Nat, ad 0 = h0 ∧ qs = (List.range n).map (fun i => ad (i + 1)) := by
  refine ⟨fun k => (h0 :: qs).getD k 0, rfl, ?_⟩
  refine List.ext_getElem? fun k => ?_
  by_cases hk : k < n
  · rw [List.getElem?_map, List.getElem?_range hk]
    simp [List.getElem?_eq_getElem (show k < qs.length by omega)]
  · rw [List.getElem?_eq_none (by omega), List.getElem?_eq_none (by simp; omega)]
theorem ik_D1 {h0 sz : Nat} {e : va_E} : va_D (va_A [(h0, e)] sz) [(h0, e)] := by
  refine ⟨fun i j x y hi hj _ => ?_, fun k q hk => va_A.in hk⟩
  have h1 := (List.getElem?_eq_some_iff.mp hi).1
  have h2 := (List.getElem?_eq_some_iff.mp hj).1
  simp at h1 h2
  omega
theorem ik_okArr {y : MethodName} {cc : ByteArray} {mL ci nc ns pcE pcR oi : Nat} {fs0 : List Value} (L : List ik_Rw) {wdC : List ik_CD} {g0 g1 : GG}
    (hy : plainFor y = true) (hci : (vwCl[ci]?).map (fun r => r.1) = some y.cls) (hname : y.name = "<init>") (hoi : Cond.methodLink y.cls oi Lib.objectInit ∈ lw_tbl)
    (d0 : decode cc 0 = .ok (.aload_n 0, 1)) (d1 : decode cc 1 = .ok (.invokespecial oi, 3)) (hmL : 1 ≤ mL) (hrow : ik_rAs cc 4 L = some pcE) (hFL : ∀ r ∈ L, ik_FL y.cls r.2.2.1 ci r.2.2.2) (hok : ∀ r ∈ L, r.1 < 4 ∧ r.2.1 < 100000 ∧ ik_fin ci r.2.2.2 = true ∧ r.2.2.2 < fs0.length)
    (hnc : L.length ≤ nc) (hns : ik_sum L ≤ ns)
    (hW : ∀ (ad : Nat → Nat) (cA : Nat → ClassId), ((ad 0, .inr (ci, ik_sets fs0 L ((List.range L.length).map (fun i => ad (i + 1))))) :: ([] ++ ik_news cA L ((List.range L.length).map (fun i => ad (i + 1)))) : va_W) = ik_w wdC ad cA g0)
    (hend : ik_Fin cc mL y.cls pcE pcR wdC g0 g1) (dR : decode cc pcR = .ok (.return_, 1)) : ik_okN y cc mL ci fs0 [] 1 nc ns wdC g1 := by
  intro l D cA h0 sz
  refine ik_ofW (cc := cc) (maxL := mL) (ret := none) hy rfl ?_
  intro p e s m args below meth c s₁ B hml hv
  obtain ⟨rfl, rfl, hP, hK, hN⟩ := hv
  have hts := atoms_spec (ws := Cond.code y cc mL none :: lw_gd) B.pre
  have hcls : s.vm.findClass y.cls = some m.cls := findClass_of_methodNamed B.named
  have hlocks := B.notSynchronized
  have hin : meth.name = "<init>" := by
    have := (name_of_methodNamed B.named B.method).1
    rw [this, hname]
  have hl := lv_entry ([.ref h0]) (n := mL) hmL
  rw [lg_entry_eq]
  generalize (lg_sl ([.ref h0]) ++ List.replicate (mL - (lg_sl ([.ref h0])).length) Slot.unset).toArray = ls at hl ⊢
  have hl : lv_has ls mL [(0, .ref h0)] := hl
  have hC : ik_Cc p s m ([.ref h0] : List Value).toArray meth c cc mL y.cls D cA (va_A [(h0, .inr (ci, fs0))] s.heap.size) := ⟨B.exec, B.bytes, hml, hcls, fun w hw => hts w (List.mem_cons_of_mem _ hw), hN, hK, fun q hq => Or.inr hq⟩
  refine lv_aload_n B.exec B.bytes d0 rfl (lv_at hl 0 rfl) ?_
  refine W.objInit B.exec B.bytes hcls (hC.2.2.2.2.1 _ (ik_gd hoi rfl)) (hC.2.2.2.2.1 _ ik_oiw1) (hC.2.2.2.2.1 _ ik_oiw2) rfl (by rw [hml]; exact hl.1) rfl d1 (Nat.le_of_ble_eq_true rfl) (Nat.le_of_ble_eq_true rfl) ?_
  refine W.eq (g2 := F0 m 4 ls []) rfl ?_
  refine ik_run hC hin hci (lv_at hl 0 rfl) L fs0 [] 4 pcE s.heap [] 0 0 hrow hFL hok (by show 0 + L.length ≤ nc; omega) (by show 0 + ik_sum L ≤ ns; omega) hP ik_D1 va_S.rf (fun qs H1 locs1 hq hP1 hD1 hS1 => ?_)
  obtain ⟨ad, rfl, rfl⟩ := ik_ads qs h0 L.length hq
  rw [hW] at hP1 hD1
  refine W.widen (k := nc) (n := ns) (by omega) (by omega) ?_
  refine hend p l e _ s m _ below meth c H1 locs1 nc ns _ ls D cA _ ad hC hl hP1 hD1 hS1 (fun H2 locs2 ls2 hP2 hD2 hS2 => ?_)
  exact W.vret B.exec B.bytes B.returns (fun t ht hWm => ⟨⟨ad, rfl, trivial, rfl, by rw [ht]; exact hP2, hD2⟩, hS2.F ht⟩) hS2.2.2 dR
/-- the widths of the letters, all ten -/
def gW (id i : Nat) : GG := (fun a b => if a = id ∧ b < i then 10 else 0, fun _ _ => 0)
theorem gW_si (id i : Nat) : ik_si (gW id i) id i 10 = gW id (i + 1) := by
  refine Prod.ext ?_ rfl
  funext a b
  simp only [ik_si, gW]
  by_cases ha : a = id
  · subst ha
    by_cases hb : b = i
    · subst hb
      simp
    · by_cases hlt : b < i
      · simp [hb, hlt, show b < i + 1 by omega]
      · simp [hb, hlt, show ¬ b < i + 1 by omega]
  · simp [ha]
theorem ik_fin10 {cc : ByteArray} {own : String} {b0 idx ci j id : Nat} {fds : List (Nat ⊕ Nat)} {wdC : List ik_CD} (hF : ik_FL own idx ci j) (hw0 : wdC[0]? = some (.inr (ci, fds))) (hfd : fds[j]? = some (.inr id)) (hw1 : wdC[id]? = some (.inl (0, 27)))
    (d0 : decode cc b0 = .ok (.iconst 0, 1)) (d1 : decode cc (b0 + 1) = .ok (.istore_n 1, 1)) (d2 : decode cc (b0 + 2) = .ok (.iload_n 1, 1)) (d3 : decode cc (b0 + 3) = .ok (.bipush 27, 2)) (d4 : decode cc (b0 + 5) = .ok (.if_icmp .ge 17, 3)) (d5 : decode cc (b0 + 8) = .ok (.aload_n 0, 1)) (d6 : decode cc (b0 + 9) = .ok (.getfield idx, 3)) (d7 : decode cc (b0 + 12) = .ok (.iload_n 1, 1)) (d8 : decode cc (b0 + 13) = .ok (.bipush 10, 2)) (d9 : decode cc (b0 + 15) = .ok (.iastore, 1)) (d10 : decode cc (b0 + 16) = .ok (.iinc 1 1, 3)) (d11 : decode cc (b0 + 19) = .ok (.goto (-17), 3)) : ik_Fin cc 2 own b0 (b0 + 22) wdC (gW id 0) (gW id 27) := by
  intro p l e R s m args below meth c H locs cells slots Q ls D cA A ad hC hl hP hD hS kk
  obtain ⟨hx, hb, hml, hown, hts, hns, hK, hA⟩ := hC
  obtain ⟨C, T, N, ty, g1, g2, g3, g4, g5, g6, g7⟩ := hF
  have key : ∀ (n i : Nat), i ≤ 27 → 28 ≤ i + n → ∀ (H : Heap) (locs : List Loc) (ls : Array Slot), va_P D vwCl (ik_w wdC ad cA (gW id i)) H → va_D A (ik_w wdC ad cA (gW id i)) → va_S A s.heap H locs → lv_has ls 2 [(1, .int (nI i)), (0, .ref (ad 0))] → W p l e R s m args below meth c H locs cells slots Q (F0 m (b0 + 2) ls []) := by
    intro n
    induction n with
    | zero => intro i h1 h2; omega
    | succ n ih =>
      intro i h1 h2 H locs ls hP hD hS hl
      refine lv_iload_n hx hb d2 rfl (lv_at hl 0 rfl) ?_
      refine lv_bipush (v := nI 27) hx hb d3 (by decide) ?_
      refine lv_icmp_ge (tgt := b0 + 22) hx hb d4 (by omega) (fun c1 => ?_) (fun c1 => ?_)
      · have : i = 27 := by
          rcases Nat.lt_or_ge i 27 with q | q
          · have := nI_lt q (by omega)
            exact absurd c1 (Int32.not_le.mpr this)
          · omega
        subst this
        exact kk H locs ls hP hD hS
      · have hlt : i < 27 := by
          rcases Nat.lt_or_ge i 27 with q | q
          · exact q
          · exact absurd (nI_le q (by omega)) c1
        refine lv_aload_n hx hb d5 rfl (lv_at hl 1 rfl) ?_
        refine va_get (D := D) (ci := ci) (C := C) (T := T) (N := N) (ref := C) (fs := ik_fv ad (gW id i) 0 0 fds) hx hb hts (ik_gd_lays g3) hown hK hP 0 (by rw [ik_w_at, hw0]; rfl) g1 j g2 (hts _ (ik_gd g7 rfl)) (fun y hy => by rw [g6] at hy; exact hy) (v := .ref (ad id)) (by rw [ik_fv_at, hfd]; rfl) d6 ?_
        refine lv_iload_n hx hb d7 rfl (lv_at hl 0 rfl) ?_
        refine lv_bipush (v := 10) hx hb d8 (by decide) ?_
        refine va_iast (f := (gW id i).1 id) hx hb hK hP hD hS id 0 (a := ad id) (cA := cA 0) (n := 27) (by rw [ik_w_at, hw1]; rfl) rfl (vp_in_nI hlt (by omega)) d9 (fun H1 locs1 hP1 hD1 hS1 => ?_)
        rw [nI_clamp (by omega), ik_w_si_arr hw1 (by decide), gW_si] at hP1 hD1
        refine lv_iinc (v := nI (i + 1)) (lv' := [(1, .int (nI (i + 1))), (0, .ref (ad 0))]) hx hb d10 hl (k := 0) rfl (nI_1 i).symm.symm (by decide) rfl (fun ls1 hl1 => ?_)
        refine lv_goto (tgt := b0 + 2) hx hb d11 (by omega) ?_
        exact ih (i + 1) hlt (by omega) H1 locs1 ls1 hP1 hD1 hS1 hl1
  refine lv_iconst (v := nI 0) hx hb d0 (by decide) ?_
  refine lv_istore_n (lv' := [(1, .int (nI 0)), (0, .ref (ad 0))]) hx hb d1 rfl hl (by decide) rfl (fun ls1 hl1 => ?_)
  exact key 28 0 (by omega) (by omega) H locs ls1 hP hD hS hl1
