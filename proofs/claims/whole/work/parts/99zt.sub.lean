/-! an object that a constructor makes by another constructor -/
theorem ik_last (X : va_W) (x : Nat × va_E) : (X ++ [x])[X.length]? = some x := by simp
theorem ik_rangeR (X : va_W) (x : Nat × va_E) : (List.range X.length).map (fun i => (X ++ [x])[i]?) = X.map some := by
  refine List.ext_getElem? fun k => ?_
  by_cases hk : k < X.length
  · rw [List.getElem?_map, List.getElem?_range hk, List.getElem?_map]
    simp [List.getElem?_append_left hk, List.getElem?_eq_getElem hk]
  · rw [List.getElem?_eq_none (by simp; omega), List.getElem?_eq_none (by simp; omega)]
theorem ik_nd_of : ∀ (l : List Nat), l.Nodup → va_nd l = true
  | [], _ => rfl
  | a :: r, h => by
    have h2 := List.nodup_cons.mp h
    simp [va_nd, ik_nd_of r h2.2, h2.1]
section MS
variable {p : Program} {l : Launch} {e : Env} {R : Room} {s : State} {m : MethodId} {args : Array Value} {below : List Frame} {meth : Method} {c : Code} {H : Heap} {locs : List Loc} {cells slots : Nat} {Q : State → Prop}
variable {cc : ByteArray} {own : String} {pc : Nat} {ls : Array Slot} {D : va_G} {cA : Nat → ClassId} {A : Nat → Prop}
/-- what the tables say of a class whose object is made here -/
def ik_mkd (own : String) (y : MethodName) (cc : ByteArray) (mL ci NS idxN idxM : Nat) (fs0 As : List Value) : Prop :=
  ∃ (T : u_T) (ty : Nat → FieldType), ik_MF y cc mL none As.length ∧ y.name = "<init>" ∧ Cond.instanceMethod y ∈ lw_tbl ∧ (Cond.methodLink own idxM y ∈ lw_tbl ∨ Cond.methodLinkNest own idxM y "InkBars" ∈ lw_tbl) ∧ Cond.classLink own idxN y.cls ∈ lw_tbl ∧ Cond.instantiable y.cls NS ∈ lw_tbl ∧
    vwCl[ci]? = some (y.cls, T, NS) ∧ (∀ w ∈ u_ws y.cls T NS, w ∈ lw_tbl) ∧ (∀ k, k < NS → parseFieldDescriptor (T k).2.2.1 = some (ty k)) ∧ ∀ j, j < NS → defaultValue (ty j) = vp_V fs0 j
/-- the object new, its constructor run: what stands then (the stack as it was) -/
theorem ik_subN {nL ciS mS kS ncS nsS NS idxN idxM p1 : Nat} {yS : MethodName} {ccS : ByteArray} {fsS As : List Value} {X : va_W} {wdS : List ik_CD} {gS : GG} {st : List Value}
    (hC : ik_Cc p s m args meth c cc nL own D cA A) (hls : ls.size = nL) (hM : ik_okN yS ccS mS ciS fsS As kS ncS nsS wdS gS) (hk : ik_mkd own yS ccS mS ciS NS idxN idxM fsS As)
    (d1 : decode cc pc = .ok (.new idxN, 3)) (d2 : decode cc (pc + 3) = .ok (.dup, 1)) (hpu : As = [] ∧ p1 = pc + 4 ∨ ∃ a, As = [.int (Int32.ofNat a)] ∧ ik_pn cc (pc + 4) a = some p1) (d3 : decode cc p1 = .ok (.invokespecial idxM, 3))
    (hst : (st.map fun v => v.category).sum ≤ 7) (hR1 : kS + 1 ≤ R.frames) (hR2 : 8 + (mS + 11) + 200 * kS ≤ R.locals) (hc : cells + (1 + ncS) ≤ R.cells) (hs : slots + (NS + nsS) ≤ R.slots)
    (hP : va_P D vwCl X H) (hD : va_D A X) (hS : va_S A s.heap H locs)
    (kk : ∀ (adS : Nat → Nat) (H1 : Heap) (locs1 : List Loc), va_P D vwCl (X ++ ik_w wdS adS cA gS) H1 → va_D A (X ++ ik_w wdS adS cA gS) → va_S A s.heap H1 locs1 → W p l e R s m args below meth c H1 locs1 (cells + (1 + ncS)) (slots + (NS + nsS)) Q (F0 m (p1 + 3) ls (.ref (adS 0) :: st))) : W p l e R s m args below meth c H locs cells slots Q (F0 m pc ls st) := by
  obtain ⟨hx, hb, hml, hown, hts, hns, hK, hA⟩ := id hC
  obtain ⟨T, ty, hf, hname, hinst, hlk, hcl, hin2, hcS, hTw, hty, hfs⟩ := hk
  refine va_new (ci := ciS) (fs := fsS) (C := yS.cls) (T := T) (N := NS) hx hb hts (ik_gd_lays hTw) ty hty hown (hts _ (ik_gd hcl rfl)) (hts _ (ik_gd hin2 rfl)) (hts _ (ik_gd hf.2.1 rfl)) hK hP hD hS hA hcS hfs (by omega) (by omega) d1 (fun q H1 hP1 hD1 hS1 => ?_)
  refine lv_dup hx hb d2 rfl ?_
  have hcall : W p l e R s m args below meth c H1 locs (cells + 1) (slots + NS) Q (F0 m p1 ls (As.reverse ++ .ref q :: (.ref q :: st))) := by
    have hPc : va_P D vwCl [(q, .inr (ciS, fsS))] H1 := by
      intro k x hk
      have h1 := (List.getElem?_eq_some_iff.mp hk).1
      simp at h1
      subst h1
      cases hk
      exact hP1 X.length _ (ik_last X _)
    have hpre : PreS s H1 (va_Pc (.ref q :: As) (fun U => U.heap.size = H1.size ∧ va_P D vwCl [(q, .inr (ciS, fsS))] U.heap ∧ va_K D vwCl (ik_tys cA) U ∧ ik_nest U)) (.ref q :: As) := by
      refine ⟨fun a U g mk h => ?_, fun U hU hW => ⟨rfl, by rw [hU], by rw [hU]; exact hPc, va_K.moved hW.alike hK, hns.warm hW⟩⟩
      obtain ⟨q0, q1, qP, qK, qN⟩ := h
      exact ⟨q0, q1, qP, va_K.moved (u := U) (U := U.calling g mk a) (Vm.Alike.refl U.vm) qK, qN.same rfl⟩
    have hFc := va_free (wc := [(q, .inr (ciS, fsS))]) hD1 hS1 hA [X.length] (by rw [List.map_cons, ik_last]; rfl)
    have hwide : ((Value.ref q :: st).map fun v => v.category).sum ≤ 8 := by
      rw [List.map_cons, List.sum_cons]
      show 1 + _ ≤ 8
      omega
    have hrun : ∃ a, va_Run p l e R s m args below meth c H1 locs (cells + 1) (slots + NS) ncS nsS (F0 m p1 ls (As.reverse ++ .ref q :: (.ref q :: st))) (.ref q :: st) (va_Qv (fun _ => True) (fun (ad : Nat → Nat) t => ad 0 = q ∧ va_P D vwCl (ik_w wdS ad cA gS) t.heap ∧ va_D (va_A [(q, .inr (ciS, fsS))] H1.size) (ik_w wdS ad cA gS)) (va_A [(q, .inr (ciS, fsS))] H1.size) a) (va_A [(q, .inr (ciS, fsS))] H1.size) := by
      rcases hlk with hlk | hlk
      · exact ⟨_, va_runI (As := As) (rest := .ref q :: st) ⟨hx, hb, hml, hown, hts⟩ (hM l D cA q H1.size) (cwI As.length hts (ik_goodM hf) rfl rfl rfl (hts _ (ik_gd hf.2.1 rfl)) (hts _ (ik_gd hlk rfl)) (hts _ (ik_gd hinst rfl)) hname hf.2.2 ⟨hR1, hR2⟩) hpre rfl rfl hls rfl (lv_room hwide) d3 ⟨by omega, by omega⟩⟩
      · exact ⟨_, va_runIN (As := As) (rest := .ref q :: st) ⟨hx, hb, hml, hown, hts⟩ (hM l D cA q H1.size) ⟨va_cnB As.length hts (ik_goodM hf) rfl rfl rfl (hns _ _ _ _ hlk) (hts _ (ik_gd hf.2.1 rfl)) hf.2.2 ⟨hR1, hR2⟩, hname, hts _ (ik_gd hinst rfl)⟩ hpre rfl rfl hls rfl (lv_room hwide) d3 ⟨by omega, by omega⟩⟩
    obtain ⟨a, hrun⟩ := hrun
    refine va_callv hrun hS1 (fun q' _ h => hFc q' h) hFc (fun u t H2 locs2 ht hvm hw hB hz hk1 hS2 => ?_)
    obtain ⟨hB0, hPB, hDB⟩ := hB
    rw [ht] at hPB
    obtain ⟨hP2, hD2⟩ := va_join (wr := X) (w1 := ik_w wdS u cA gS) hP1 hD1 [X.length] (List.range X.length) (by rw [List.map_cons, ik_last]; rfl) (ik_rangeR X _) (ik_nd_of _ List.nodup_range) (fun i hi h => by
      have h1 := List.mem_range.mp hi
      have h2 := List.mem_singleton.mp h
      omega) hk1 hFc hPB hDB
    subst hB0
    have := kk u H2 locs2 hP2 hD2 hS2
    rw [← Nat.add_assoc, ← Nat.add_assoc] at this
    exact this
  rcases hpu with ⟨rfl, rfl⟩ | ⟨a, rfl, hp⟩
  · exact hcall
  · exact ik_pn_ok hx hb hp hcall
theorem ik_subO {nL ci h0 ciS mS kS ncS nsS NS idxN idxM idxF j p1 : Nat} {yS : MethodName} {ccS : ByteArray} {fs fsS As : List Value} {done : va_W} {wdS : List ik_CD} {gS : GG}
    (hC : ik_Cc p s m args meth c cc nL own D cA A) (hin : meth.name = "<init>") (hci : (vwCl[ci]?).map (fun r => r.1) = some own) (hls : ls.size = nL) (h0l : ls[0]? = some (.val (.ref h0)))
    (hM : ik_okN yS ccS mS ciS fsS As kS ncS nsS wdS gS) (hk : ik_mkd own yS ccS mS ciS NS idxN idxM fsS As)
    (d0 : decode cc pc = .ok (.aload_n 0, 1)) (d1 : decode cc (pc + 1) = .ok (.new idxN, 3)) (d2 : decode cc (pc + 1 + 3) = .ok (.dup, 1)) (hpu : As = [] ∧ p1 = pc + 1 + 4 ∨ ∃ a, As = [.int (Int32.ofNat a)] ∧ ik_pn cc (pc + 1 + 4) a = some p1) (d3 : decode cc p1 = .ok (.invokespecial idxM, 3)) (d4 : decode cc (p1 + 3) = .ok (.putfield idxF, 3))
    (hF : ik_FL own idxF ci j) (hfin : ik_fin ci j = true) (hl : j < fs.length) (hR1 : kS + 1 ≤ R.frames) (hR2 : 8 + (mS + 11) + 200 * kS ≤ R.locals) (hc : cells + (1 + ncS) ≤ R.cells) (hs : slots + (NS + nsS) ≤ R.slots)
    (hP : va_P D vwCl ((h0, .inr (ci, fs)) :: done) H) (hD : va_D A ((h0, .inr (ci, fs)) :: done)) (hS : va_S A s.heap H locs)
    (kk : ∀ (adS : Nat → Nat) (H1 : Heap) (locs1 : List Loc), va_P D vwCl ((h0, .inr (ci, fs.set j (.ref (adS 0)))) :: (done ++ ik_w wdS adS cA gS)) H1 → va_D A ((h0, .inr (ci, fs.set j (.ref (adS 0)))) :: (done ++ ik_w wdS adS cA gS)) → va_S A s.heap H1 locs1 → W p l e R s m args below meth c H1 locs1 (cells + (1 + ncS)) (slots + (NS + nsS)) Q (F0 m (p1 + 6) ls [])) : W p l e R s m args below meth c H locs cells slots Q (F0 m pc ls []) := by
  refine lv_aload_n hC.1 hC.2.1 d0 rfl h0l ?_
  refine ik_subN hC hls hM hk d1 d2 hpu d3 (by simp [Value.category]) hR1 hR2 hc hs hP hD hS (fun adS H1 locs1 hP1 hD1 hS1 => ?_)
  exact ik_putR hC hin hF hfin hci hl d4 hP1 hD1 hS1 (fun H2 locs2 hP2 hD2 hS2 => kk adS H2 locs2 hP2 hD2 hS2)
end MS
