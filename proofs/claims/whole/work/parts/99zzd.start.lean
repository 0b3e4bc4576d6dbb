/-! the law from its entry: both objects made, then its loop -/
theorem ik_D_addr {A : Nat → Prop} {ws ws' : va_W} (h : ws.map Prod.fst = ws'.map Prod.fst) (hD : va_D A ws) : va_D A ws' := by
  have key : ∀ (k : Nat) (q : Nat × va_E), ws'[k]? = some q → ∃ q0, ws[k]? = some q0 ∧ q0.1 = q.1 := by
    intro k q hq
    have h1 : (ws.map Prod.fst)[k]? = some q.1 := by
      rw [h, List.getElem?_map, hq]
      rfl
    rw [List.getElem?_map] at h1
    cases hw : ws[k]? with
    | none =>
      rw [hw] at h1
      cases h1
    | some q0 =>
      rw [hw] at h1
      exact ⟨q0, rfl, Option.some.inj h1⟩
  refine ⟨fun i j x y hi hj hxy => ?_, fun k q hk => ?_⟩
  · obtain ⟨x0, h1, h2⟩ := key i x hi
    obtain ⟨y0, h3, h4⟩ := key j y hj
    exact hD.1 i j x0 y0 h1 h3 (h2.trans (hxy.trans h4.symm))
  · obtain ⟨q0, h1, h2⟩ := key k q hk
    rw [← h2]
    exact hD.2 k q0 h1
theorem ik_w_addr (wd : List ik_CD) (ad : Nat → Nat) (cA : Nat → ClassId) (g g' : GG) : (ik_w wd ad cA g).map Prod.fst = (ik_w wd ad cA g').map Prod.fst := by
  refine List.ext_getElem? fun k => ?_
  rw [List.getElem?_map, List.getElem?_map, ik_w_at, ik_w_at]
  cases wd[k]? <;> rfl
theorem mk_law_11 : ik_mkd R_law yX11_init cX11_init 1 11 15 7 9 fsC11 [] := ⟨TX11, tyX11, ⟨by decide +kernel, by decide +kernel, by decide +kernel, by decide +kernel, by decide +kernel⟩, rfl, by decide +kernel, Or.inl (by decide +kernel), by decide +kernel, by decide +kernel, rfl, inX11, tyX11_ok, by decide +kernel⟩
theorem mk_law_12 : ik_mkd R_law yX12_init cX12_init 2 12 77 10 12 fsC12 [] := ⟨TX12, tyX12, ⟨by decide +kernel, by decide +kernel, by decide +kernel, by decide +kernel, by decide +kernel⟩, rfl, by decide +kernel, Or.inl (by decide +kernel), by decide +kernel, by decide +kernel, rfl, inX12, tyX12_ok, by decide +kernel⟩
theorem okX11 : ik_okN yX11_init cX11_init 1 11 fsC11 [] 3 65 8674 wdX g0x := okC11
def lw_kn : List (vw_C × Nat) := vwCl.map fun q => (q, q.2.2)
theorem lw_known {s : State} {b : Nat} (hts : ∀ w ∈ lw_tbl, w.before #[Value.ref b] s = true) : ∀ q ∈ vwCl, ∃ (cC : ClassId) (iS : Nat → Nat), u_Kn s q.1 q.2.1 q.2.2 cC iS := by
  refine List.forall_mem_cons.mpr ⟨u_known (C := RX0) (T := TX0) (N := 12) (n := 12) hts inX0 (hts _ (by decide +kernel)), ?_⟩
  refine List.forall_mem_cons.mpr ⟨u_known (C := RX1) (T := TX1) (N := 5) (n := 5) hts inX1 (hts _ (by decide +kernel)), ?_⟩
  refine List.forall_mem_cons.mpr ⟨u_known (C := RX2) (T := TX2) (N := 14) (n := 14) hts inX2 (hts _ (by decide +kernel)), ?_⟩
  refine List.forall_mem_cons.mpr ⟨u_known (C := RX3) (T := TX3) (N := 4) (n := 4) hts inX3 (hts _ (by decide +kernel)), ?_⟩
  refine List.forall_mem_cons.mpr ⟨u_known (C := RX4) (T := TX4) (N := 2) (n := 2) hts inX4 (hts _ (by decide +kernel)), ?_⟩
  refine List.forall_mem_cons.mpr ⟨u_known (C := RX5) (T := TX5) (N := 8) (n := 8) hts inX5 (hts _ (by decide +kernel)), ?_⟩
  refine List.forall_mem_cons.mpr ⟨u_known (C := RX6) (T := TX6) (N := 7) (n := 7) hts inX6 (hts _ (by decide +kernel)), ?_⟩
  refine List.forall_mem_cons.mpr ⟨u_known (C := RX7) (T := TX7) (N := 11) (n := 11) hts inX7 (hts _ (by decide +kernel)), ?_⟩
  refine List.forall_mem_cons.mpr ⟨u_known (C := RX8) (T := TX8) (N := 11) (n := 11) hts inX8 (hts _ (by decide +kernel)), ?_⟩
  refine List.forall_mem_cons.mpr ⟨u_known (C := RX9) (T := TX9) (N := 2) (n := 2) hts inX9 (hts _ (by decide +kernel)), ?_⟩
  refine List.forall_mem_cons.mpr ⟨u_known (C := RX10) (T := TX10) (N := 3) (n := 3) hts inX10 (hts _ (by decide +kernel)), ?_⟩
  refine List.forall_mem_cons.mpr ⟨u_known (C := RX11) (T := TX11) (N := 15) (n := 15) hts inX11 (hts _ (by decide +kernel)), ?_⟩
  refine List.forall_mem_cons.mpr ⟨u_known (C := RX12) (T := TX12) (N := 77) (n := 77) hts inX12 (hts _ (by decide +kernel)), ?_⟩
  exact fun _ h => absurd h List.not_mem_nil
theorem lw_arr {s : State} {b : Nat} {ty : FieldType} (h : (Cond.arrayClass ty).before #[Value.ref b] s = true) : ∃ cA : ClassId, ArrOfT s cA ty ∧ s.vm.findClass ("[" ++ ty.toString) = some cA := by
  obtain ⟨cA, kA, comp, h1, h2, h3⟩ := Cond.arrayClass_spec h
  exact ⟨cA, fun n z => ⟨fun k h => (by cases h), kA, h2, comp, h3⟩, h1⟩
theorem lw_K {s : State} {b : Nat} (hts : ∀ w ∈ lw_tbl, w.before #[Value.ref b] s = true) : ∃ (D : va_G) (cA : Nat → ClassId), va_K D vwCl (ik_tys cA) s := by
  have H : ∀ k : Nat, ∃ (cC : ClassId) (iS : Nat → Nat), ∀ q, vwCl[k]? = some q → u_Kn s q.1 q.2.1 q.2.2 cC iS := by
    intro k
    cases hk : vwCl[k]? with
    | none => exact ⟨0, fun _ => 0, fun q h => by cases h⟩
    | some q =>
      obtain ⟨cC, iS, h⟩ := lw_known hts q (List.mem_of_getElem? hk)
      exact ⟨cC, iS, fun q' h' => by cases h'; exact h⟩
  obtain ⟨a0, p0, q0⟩ := lw_arr (hts _ (List.mem_filter.mp ik_aw0).1)
  obtain ⟨a1, p1, q1⟩ := lw_arr (hts _ (List.mem_filter.mp ik_aw1).1)
  obtain ⟨a2, p2, q2⟩ := lw_arr (hts _ (List.mem_filter.mp ik_aw2).1)
  obtain ⟨a3, p3, q3⟩ := lw_arr (hts _ (List.mem_filter.mp ik_aw3).1)
  refine ⟨(fun k => Classical.choose (H k), fun k => Classical.choose (Classical.choose_spec (H k))), fun k => if k = 0 then a0 else if k = 1 then a1 else if k = 2 then a2 else a3, fun k q hk => Classical.choose_spec (Classical.choose_spec (H k)) q hk, fun k q hk => ?_⟩
  match k, hk with
  | 0, hk => cases hk; exact ⟨p0, q0⟩
  | 1, hk => cases hk; exact ⟨p1, q1⟩
  | 2, hk => cases hk; exact ⟨p2, q2⟩
  | 3, hk => cases hk; exact ⟨p3, q3⟩
  | k + 4, hk => simp at hk
set_option maxHeartbeats 4000000 in
set_option maxRecDepth 100000 in
theorem whole_start {p : Program} {e : Env} {s : State} {m : MethodId} {below : List Frame} {meth : Method} {c : Code} (l : Launch) (hflags : l.flags = flags0) {b L : Nat} {xs : Nat → Int32} (hL : L ≤ 3072) (C0 : lw_At p s m meth c b L xs) : W p l e room_1 s m #[Value.ref b] below meth c s.heap [] 0 0 (lw_Z below #[Value.ref b] s) (entryFrame m ([Value.ref b] : List Value).toArray 4) := by
  obtain ⟨hx, hb, hr, hml, hown, hts, hX, hbl, hlocks, hgv⟩ := id C0
  have htg : ∀ w ∈ lw_gd, w.before #[Value.ref b] s = true := fun w hw => hts w (List.mem_filter.mp hw).1
  have hns : ik_nest s := fun own i y host hm => va_Nw.of rfl (hts _ hm)
  obtain ⟨D, cA, hK⟩ := lw_K hts
  have hC : ik_Cc p s m #[Value.ref b] meth c code 4 R_law D cA (fun q : Nat => s.heap.size ≤ q) := ⟨hx, hb, hml, hown, htg, hns, hK, fun _ h => h⟩
  have hS : va_S (fun q : Nat => s.heap.size ≤ q) s.heap s.heap [] := va_S.rf
  have hP : va_P D vwCl [] s.heap := fun k q h => by simp at h
  have hD : va_D (fun q : Nat => s.heap.size ≤ q) [] := ⟨fun i j p q h => by simp at h, fun k q h => by simp at h⟩
  have hl := lv_entry ([.ref b]) (n := 4) (Nat.le_of_ble_eq_true rfl)
  rw [lg_entry_eq]
  generalize (lg_sl ([.ref b]) ++ List.replicate (4 - (lg_sl ([.ref b])).length) Slot.unset).toArray = ls at hl ⊢
  have hl : lv_has ls 4 [(0, .ref b)] := hl
  refine ik_subN (pc := 0) (p1 := 4) hC hl.1 okX11 mk_law_11 (by decide +kernel) (by decide +kernel) (Or.inl ⟨rfl, rfl⟩) (by decide +kernel) (Nat.le_of_ble_eq_true rfl) (Nat.le_of_ble_eq_true rfl) (Nat.le_of_ble_eq_true rfl) (Nat.le_of_ble_eq_true rfl) (Nat.le_of_ble_eq_true rfl) hP hD hS (fun adX H locs hP hD hS => ?_)
  refine lv_astore_n (k := 1) (lv' := [(1, .ref (adX 0)), (0, .ref b)]) hx hb (by decide +kernel) rfl hl (by decide) rfl (fun ls hl => ?_)
  refine ik_subN (pc := 8) (p1 := 12) hC hl.1 okC12 mk_law_12 (by decide +kernel) (by decide +kernel) (Or.inl ⟨rfl, rfl⟩) (by decide +kernel) (Nat.le_of_ble_eq_true rfl) (Nat.le_of_ble_eq_true rfl) (Nat.le_of_ble_eq_true rfl) (Nat.le_of_ble_eq_true rfl) (Nat.le_of_ble_eq_true rfl) hP hD hS (fun adM H locs hP hD hS => ?_)
  refine lv_astore_n (k := 2) (lv' := [(2, .ref (adM 0)), (1, .ref (adX 0)), (0, .ref b)]) hx hb (by decide +kernel) rfl hl (by decide) rfl (fun ls hl => ?_)
  refine lv_iconst (n := 0) (v := nI 0) hx hb (by decide +kernel) (by decide) ?_
  refine lv_istore_n (k := 3) (lv' := [(3, .int (nI 0)), (2, .ref (adM 0)), (1, .ref (adX 0)), (0, .ref b)]) hx hb (by decide +kernel) rfl hl (by decide) rfl (fun ls hl => ?_)
  rw [List.nil_append, ← List.append_nil (ik_w wdM adM cA (gW 2 27))] at hP hD
  refine W.widen (k := 600000) (n := 7302250) (Nat.le_of_ble_eq_true rfl) (Nat.le_of_ble_eq_true rfl) ?_
  have hDall : ∀ gx gm, va_D (fun q : Nat => s.heap.size ≤ q) (ik_w wdX adX cA gx ++ (ik_w wdM adM cA gm ++ [])) := by
    intro gx gm
    refine ik_D_addr ?_ hD
    rw [List.map_append, List.map_append, List.map_append, List.map_append, ik_w_addr wdX adX cA g0x gx, ik_w_addr wdM adM cA (gW 2 27) gm]
  have hCx : lw_Cx (p, l, e, s, m, below, meth, c, D, cA, b, L, xs, adX, adM) := ⟨hx, hb, hml, hown, htg, hns, hK, hX, hbl, hlocks, hr, hDall, hL⟩
  exact law_loop hCx hL L 0 (Nat.le_of_eq (Nat.zero_add L).symm) (Nat.zero_le _) g0x (gW 2 27) Rel_0 H locs ls hP hS (lv_sub hl [0, 3, 2, 1] rfl)
