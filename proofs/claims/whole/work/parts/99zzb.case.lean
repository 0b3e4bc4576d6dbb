/-! the calls of the law, and one case of its switch -/
theorem ik_mid0 {V : va_W} {wd : List ik_CD} {ad : Nat → Nat} {D : va_G} {cA : Nat → ClassId} {g g' : GG} {A : Nat → Prop} {H H1 : Heap} (hP : va_P D vwCl (ik_w wd ad cA g ++ V) H) (hD : va_D A (ik_w wd ad cA g ++ V))
    (hk : ∀ q : Nat, q < H.size → ¬ va_A (ik_w wd ad cA g) H.size q → H1[q]? = H[q]?) (hP1 : va_P D vwCl (ik_w wd ad cA g') H1) : va_P D vwCl (ik_w wd ad cA g' ++ V) H1 := by
  rw [← List.nil_append (ik_w wd ad cA g ++ V)] at hP hD
  rw [← List.nil_append (ik_w wd ad cA g' ++ V)]
  exact ik_mid hP hD hk hP1
theorem ik_midP0 {V : va_W} {wd : List ik_CD} {ad : Nat → Nat} {D : va_G} {cA : Nat → ClassId} {g : GG} {H : Heap} (hP : va_P D vwCl (ik_w wd ad cA g ++ V) H) : va_P D vwCl (ik_w wd ad cA g) H := by
  rw [← List.nil_append (ik_w wd ad cA g ++ V)] at hP
  exact ik_midP hP
theorem ik_midD0 {V : va_W} {wd : List ik_CD} {ad : Nat → Nat} {cA : Nat → ClassId} {g : GG} {A : Nat → Prop} (hD : va_D A (ik_w wd ad cA g ++ V)) : va_D A (ik_w wd ad cA g) := by
  rw [← List.nil_append (ik_w wd ad cA g ++ V)] at hD
  exact ik_midD hD
theorem lw_wv (ad : Nat → Nat) (xs : Nat → Int32) (i : Nat) : ∀ (n k : Nat), ik_wv ad (List.replicate n (.inl 0)) (lw_vs xs i k n) = lw_vs xs i k n
  | 0, k => rfl
  | n + 1, k => by
    have h := lw_wv ad xs i n (k + 1)
    simp only [lw_vs, List.range'_succ, List.map_cons, List.replicate_succ, ik_wv] at h ⊢
    rw [h]
theorem lw_kd (xs : Nat → Int32) (i : Nat) : ∀ (n k : Nat), ik_kind (List.replicate n (.inl 0)) (lw_vs xs i k n)
  | 0, k => trivial
  | n + 1, k => by
    have h := lw_kd xs i n (k + 1)
    simpa only [lw_vs, List.range'_succ, List.map_cons, List.replicate_succ, ik_kind] using h
/-- what the tables say of an operation -/
def lw_TB (y : MethodName) (cc : ByteArray) (mL : Nat) (rt : Option FieldType) (n idx k ci : Nat) : Prop := ik_MF y cc mL rt n ∧ ik_MV y ∧ Cond.methodLink R_law idx y ∈ lw_tbl ∧ (∃ T N, vwCl[ci]? = some (y.cls, T, N)) ∧ mL ≤ 181 ∧ k ≤ 100

theorem lw_cX_i {x : lw_DX} (hC : lw_Cx x) {i pc n idx : Nat} {y : MethodName} {cc : ByteArray} {mL : Nat} {rt : Option FieldType} {k : Nat} (M : MP wdX y cc mL rt k (.inr 0 :: List.replicate n (.inl 0))) (hT : lw_TB y cc mL rt n idx k 11) {st : List Value} {gx gm g' : GG} {r : Int32} (hM : M.1 (lw_vs (lw_xs x) i 1 n) gx = some (.int r, g')) (hst : (st.map fun v => v.category).sum ≤ 8) (hdg : decode code pc = .ok (.invokevirtual idx, 3))
    (kk : lw_Go x i (pc + 3) (.int r :: st) g' gm) : lw_Go x i pc ((lw_vs (lw_xs x) i 1 n).reverse ++ .ref (lw_adX x 0) :: st) gx gm := by
  obtain ⟨p, l, e, s, m, below, meth, c, D, cA, b, L, xs, adX, adM⟩ := x
  obtain ⟨hx, hb, hml, hown, hts, hns, hK, hX, hbl, hlk, hr, hD, hL⟩ := hC
  obtain ⟨t1, t2, t3, ⟨T, N, t4⟩, t5, t6⟩ := hT
  intro H locs ls hP hS hl
  have hDx : va_D (fun q : Nat => s.heap.size ≤ q) (ik_w wdX adX cA gx) := ik_midD0 (V := (ik_w wdM adM cA gm ++ [])) (hD gx gm)
  have sub : ∀ q : Nat, va_A (ik_w wdX adX cA gx) H.size q → s.heap.size ≤ q := by
    intro q h
    rcases h with ⟨j, ee, hj⟩ | h
    · exact hDx.2 j _ hj
    · exact Nat.le_trans hS.1 h
  obtain ⟨a, hrun⟩ := lw_run (locs := locs) (ls := ls) (pc := pc) (st := st) hx hb hml hown hts hns hK M t1 t2 t3 rfl t4 (by simp) t6 t5 hM (lw_kd xs i n 1) hDx (ik_midP0 (V := (ik_w wdM adM cA gm ++ [])) hP) hl.1 hst hdg
  rw [lw_wv] at hrun
  refine va_calli (a := a) (S := Unit) (post := fun r' _ => r' = r) (B := ik_B wdX adX D cA g') hrun hS (fun q _ h => sub q h) sub (fun r' u t H1 locs1 ht hvm hw hB hz hk1 hS1 => ?_)
  subst hw
  have hB : va_P D vwCl (ik_w wdX adX cA g') t.heap := hB
  rw [ht] at hB
  exact kk H1 locs1 ls (ik_mid0 (V := (ik_w wdM adM cA gm ++ [])) hP (hD gx gm) hk1 hB) hS1 hl
theorem lw_cX_l {x : lw_DX} (hC : lw_Cx x) {i pc n idx : Nat} {y : MethodName} {cc : ByteArray} {mL : Nat} {rt : Option FieldType} {k : Nat} (M : MP wdX y cc mL rt k (.inr 0 :: List.replicate n (.inl 0))) (hT : lw_TB y cc mL rt n idx k 11) {st : List Value} {gx gm g' : GG} {r : Int64} (hM : M.1 (lw_vs (lw_xs x) i 1 n) gx = some (.long r, g')) (hst : (st.map fun v => v.category).sum ≤ 8) (hdg : decode code pc = .ok (.invokevirtual idx, 3))
    (kk : lw_Go x i (pc + 3) (.long r :: st) g' gm) : lw_Go x i pc ((lw_vs (lw_xs x) i 1 n).reverse ++ .ref (lw_adX x 0) :: st) gx gm := by
  obtain ⟨p, l, e, s, m, below, meth, c, D, cA, b, L, xs, adX, adM⟩ := x
  obtain ⟨hx, hb, hml, hown, hts, hns, hK, hX, hbl, hlk, hr, hD, hL⟩ := hC
  obtain ⟨t1, t2, t3, ⟨T, N, t4⟩, t5, t6⟩ := hT
  intro H locs ls hP hS hl
  have hDx : va_D (fun q : Nat => s.heap.size ≤ q) (ik_w wdX adX cA gx) := ik_midD0 (V := (ik_w wdM adM cA gm ++ [])) (hD gx gm)
  have sub : ∀ q : Nat, va_A (ik_w wdX adX cA gx) H.size q → s.heap.size ≤ q := by
    intro q h
    rcases h with ⟨j, ee, hj⟩ | h
    · exact hDx.2 j _ hj
    · exact Nat.le_trans hS.1 h
  obtain ⟨a, hrun⟩ := lw_run (locs := locs) (ls := ls) (pc := pc) (st := st) hx hb hml hown hts hns hK M t1 t2 t3 rfl t4 (by simp) t6 t5 hM (lw_kd xs i n 1) hDx (ik_midP0 (V := (ik_w wdM adM cA gm ++ [])) hP) hl.1 hst hdg
  rw [lw_wv] at hrun
  refine va_calll (a := a) (S := Unit) (post := fun r' _ => r' = r) (B := ik_B wdX adX D cA g') hrun hS (fun q _ h => sub q h) sub (fun r' u t H1 locs1 ht hvm hw hB hz hk1 hS1 => ?_)
  subst hw
  have hB : va_P D vwCl (ik_w wdX adX cA g') t.heap := hB
  rw [ht] at hB
  exact kk H1 locs1 ls (ik_mid0 (V := (ik_w wdM adM cA gm ++ [])) hP (hD gx gm) hk1 hB) hS1 hl
theorem lw_cM_i {x : lw_DX} (hC : lw_Cx x) {i pc n idx : Nat} {y : MethodName} {cc : ByteArray} {mL : Nat} {rt : Option FieldType} {k : Nat} (M : MP wdM y cc mL rt k (.inr 0 :: List.replicate n (.inl 0))) (hT : lw_TB y cc mL rt n idx k 12) {st : List Value} {gx gm g' : GG} {r : Int32} (hM : M.1 (lw_vs (lw_xs x) i 1 n) gm = some (.int r, g')) (hst : (st.map fun v => v.category).sum ≤ 8) (hdg : decode code pc = .ok (.invokevirtual idx, 3))
    (kk : lw_Go x i (pc + 3) (.int r :: st) gx g') : lw_Go x i pc ((lw_vs (lw_xs x) i 1 n).reverse ++ .ref (lw_adM x 0) :: st) gx gm := by
  obtain ⟨p, l, e, s, m, below, meth, c, D, cA, b, L, xs, adX, adM⟩ := x
  obtain ⟨hx, hb, hml, hown, hts, hns, hK, hX, hbl, hlk, hr, hD, hL⟩ := hC
  obtain ⟨t1, t2, t3, ⟨T, N, t4⟩, t5, t6⟩ := hT
  intro H locs ls hP hS hl
  have hDx : va_D (fun q : Nat => s.heap.size ≤ q) (ik_w wdM adM cA gm) := ik_midD (U := (ik_w wdX adX cA gx)) (V := []) (hD gx gm)
  have sub : ∀ q : Nat, va_A (ik_w wdM adM cA gm) H.size q → s.heap.size ≤ q := by
    intro q h
    rcases h with ⟨j, ee, hj⟩ | h
    · exact hDx.2 j _ hj
    · exact Nat.le_trans hS.1 h
  obtain ⟨a, hrun⟩ := lw_run (locs := locs) (ls := ls) (pc := pc) (st := st) hx hb hml hown hts hns hK M t1 t2 t3 rfl t4 (by simp) t6 t5 hM (lw_kd xs i n 1) hDx (ik_midP (U := (ik_w wdX adX cA gx)) (V := []) hP) hl.1 hst hdg
  rw [lw_wv] at hrun
  refine va_calli (a := a) (S := Unit) (post := fun r' _ => r' = r) (B := ik_B wdM adM D cA g') hrun hS (fun q _ h => sub q h) sub (fun r' u t H1 locs1 ht hvm hw hB hz hk1 hS1 => ?_)
  subst hw
  have hB : va_P D vwCl (ik_w wdM adM cA g') t.heap := hB
  rw [ht] at hB
  exact kk H1 locs1 ls (ik_mid (U := (ik_w wdX adX cA gx)) (V := []) hP (hD gx gm) hk1 hB) hS1 hl
theorem lw_cM_l {x : lw_DX} (hC : lw_Cx x) {i pc n idx : Nat} {y : MethodName} {cc : ByteArray} {mL : Nat} {rt : Option FieldType} {k : Nat} (M : MP wdM y cc mL rt k (.inr 0 :: List.replicate n (.inl 0))) (hT : lw_TB y cc mL rt n idx k 12) {st : List Value} {gx gm g' : GG} {r : Int64} (hM : M.1 (lw_vs (lw_xs x) i 1 n) gm = some (.long r, g')) (hst : (st.map fun v => v.category).sum ≤ 8) (hdg : decode code pc = .ok (.invokevirtual idx, 3))
    (kk : lw_Go x i (pc + 3) (.long r :: st) gx g') : lw_Go x i pc ((lw_vs (lw_xs x) i 1 n).reverse ++ .ref (lw_adM x 0) :: st) gx gm := by
  obtain ⟨p, l, e, s, m, below, meth, c, D, cA, b, L, xs, adX, adM⟩ := x
  obtain ⟨hx, hb, hml, hown, hts, hns, hK, hX, hbl, hlk, hr, hD, hL⟩ := hC
  obtain ⟨t1, t2, t3, ⟨T, N, t4⟩, t5, t6⟩ := hT
  intro H locs ls hP hS hl
  have hDx : va_D (fun q : Nat => s.heap.size ≤ q) (ik_w wdM adM cA gm) := ik_midD (U := (ik_w wdX adX cA gx)) (V := []) (hD gx gm)
  have sub : ∀ q : Nat, va_A (ik_w wdM adM cA gm) H.size q → s.heap.size ≤ q := by
    intro q h
    rcases h with ⟨j, ee, hj⟩ | h
    · exact hDx.2 j _ hj
    · exact Nat.le_trans hS.1 h
  obtain ⟨a, hrun⟩ := lw_run (locs := locs) (ls := ls) (pc := pc) (st := st) hx hb hml hown hts hns hK M t1 t2 t3 rfl t4 (by simp) t6 t5 hM (lw_kd xs i n 1) hDx (ik_midP (U := (ik_w wdX adX cA gx)) (V := []) hP) hl.1 hst hdg
  rw [lw_wv] at hrun
  refine va_calll (a := a) (S := Unit) (post := fun r' _ => r' = r) (B := ik_B wdM adM D cA g') hrun hS (fun q _ h => sub q h) sub (fun r' u t H1 locs1 ht hvm hw hB hz hk1 hS1 => ?_)
  subst hw
  have hB : va_P D vwCl (ik_w wdM adM cA g') t.heap := hB
  rw [ht] at hB
  exact kk H1 locs1 ls (ik_mid (U := (ik_w wdX adX cA gx)) (V := []) hP (hD gx gm) hk1 hB) hS1 hl
theorem lw_al1 {x : lw_DX} (hC : lw_Cx x) {i pc : Nat} {st : List Value} {gx gm : GG} (d : decode code pc = .ok (.aload_n 1, 1)) (kk : lw_Go x i (pc + 1) (.ref (lw_adX x 0) :: st) gx gm) : lw_Go x i pc st gx gm := by
  obtain ⟨p, l, e, s, m, below, meth, c, D, cA, b, L, xs, adX, adM⟩ := x
  obtain ⟨hx, hb, -⟩ := hC
  exact fun H locs ls hP hS hl => lv_aload_n hx hb d rfl (lv_at hl 2 rfl) (kk H locs ls hP hS hl)
theorem lw_al2 {x : lw_DX} (hC : lw_Cx x) {i pc : Nat} {st : List Value} {gx gm : GG} (d : decode code pc = .ok (.aload_n 2, 1)) (kk : lw_Go x i (pc + 1) (.ref (lw_adM x 0) :: st) gx gm) : lw_Go x i pc st gx gm := by
  obtain ⟨p, l, e, s, m, below, meth, c, D, cA, b, L, xs, adX, adM⟩ := x
  obtain ⟨hx, hb, -⟩ := hC
  exact fun H locs ls hP hS hl => lv_aload_n hx hb d rfl (lv_at hl 3 rfl) (kk H locs ls hP hS hl)
theorem lw_same {x : lw_DX} (hC : lw_Cx x) {i pc : Nat} {r : Int32} {off : Int} {gx gm : GG} (d : decode code pc = .ok (.if_icmp .eq off, 3)) (ht : (pc : Int) + off = ((1273 : Nat) : Int)) (kk : lw_Go x i 1273 [] gx gm) : lw_Go x i pc [.int r, .int r] gx gm := by
  obtain ⟨p, l, e, s, m, below, meth, c, D, cA, b, L, xs, adX, adM⟩ := x
  obtain ⟨hx, hb, -⟩ := hC
  exact fun H locs ls hP hS hl => lv_icmp_eq hx hb d ht (fun _ => kk H locs ls hP hS hl) (fun h => absurd rfl h)
theorem lw_sameL {x : lw_DX} (hC : lw_Cx x) {i pc : Nat} {r : Int64} {off : Int} {gx gm : GG} (d0 : decode code pc = .ok (.lcmp, 1)) (d : decode code (pc + 1) = .ok (.ifCond .eq off, 3)) (ht : ((pc + 1 : Nat) : Int) + off = ((1273 : Nat) : Int)) (kk : lw_Go x i 1273 [] gx gm) : lw_Go x i pc [.long r, .long r] gx gm := by
  obtain ⟨p, l, e, s, m, below, meth, c, D, cA, b, L, xs, adX, adM⟩ := x
  obtain ⟨hx, hb, -⟩ := hC
  intro H locs ls hP hS hl
  refine W.lcmp hx hb d0 ?_
  refine lv_if_eq hx hb d ht (fun _ => kk H locs ls hP hS hl) (fun h => ?_)
  exfalso
  apply h
  simp [lg_cmp]
theorem lw_case_i {x : lw_DX} (hC : lw_Cx x) {i : Nat} (hi : i + 6 ≤ lw_L x) {n pc p1 p2 idxX idxM : Nat} {off : Int} {yX yM : MethodName} {ccX ccM : ByteArray} {mLX mLM : Nat} {rtX rtM : Option FieldType} {kX kM : Nat} (MX : MP wdX yX ccX mLX rtX kX (.inr 0 :: List.replicate n (.inl 0))) (MM : MP wdM yM ccM mLM rtM kM (.inr 0 :: List.replicate n (.inl 0))) (tX : lw_TB yX ccX mLX rtX n idxX kX 11) (tM : lw_TB yM ccM mLM rtM n idxM kM 12)
    (d0 : decode code pc = .ok (.aload_n 1, 1)) (h1 : lw_lds (pc + 1) n 1 = some p1) (d1 : decode code p1 = .ok (.invokevirtual idxX, 3)) (d2 : decode code (p1 + 3) = .ok (.aload_n 2, 1)) (h2 : lw_lds (p1 + 3 + 1) n 1 = some p2) (d3 : decode code p2 = .ok (.invokevirtual idxM, 3)) (d4 : decode code (p2 + 3) = .ok (.if_icmp .eq off, 3)) (ht : ((p2 + 3 : Nat) : Int) + off = ((1273 : Nat) : Int)) (hn : n ≤ 5) {gx gm : GG}
    (hop : ∃ v x' m', MX.1 (lw_vs (lw_xs x) i 1 n) gx = some (v, x') ∧ MM.1 (lw_vs (lw_xs x) i 1 n) gm = some (v, m') ∧ Rel x' m') (hsh : ∀ v x', MX.1 (lw_vs (lw_xs x) i 1 n) gx = some (v, x') → ∃ r : Int32, v = .int r)
    (kk : ∀ x' m', Rel x' m' → lw_Go x i 1273 [] x' m') : lw_Go x i pc [] gx gm := by
  obtain ⟨v, x', m', e1, e2, hR⟩ := hop
  obtain ⟨r, rfl⟩ := hsh v x' e1
  refine lw_al1 hC d0 (lw_ld hC hi n 1 (pc + 1) p1 _ h1 (by omega) ?_)
  refine lw_cX_i hC MX tX e1 (by simp) d1 ?_
  refine lw_al2 hC d2 (lw_ld hC hi n 1 (p1 + 3 + 1) p2 _ h2 (by omega) ?_)
  refine lw_cM_i hC MM tM e2 (by simp [Value.category]) d3 ?_
  exact lw_same hC d4 ht (kk x' m' hR)
theorem lw_case_l {x : lw_DX} (hC : lw_Cx x) {i : Nat} (hi : i + 6 ≤ lw_L x) {n pc p1 p2 idxX idxM : Nat} {off : Int} {yX yM : MethodName} {ccX ccM : ByteArray} {mLX mLM : Nat} {rtX rtM : Option FieldType} {kX kM : Nat} (MX : MP wdX yX ccX mLX rtX kX (.inr 0 :: List.replicate n (.inl 0))) (MM : MP wdM yM ccM mLM rtM kM (.inr 0 :: List.replicate n (.inl 0))) (tX : lw_TB yX ccX mLX rtX n idxX kX 11) (tM : lw_TB yM ccM mLM rtM n idxM kM 12)
    (d0 : decode code pc = .ok (.aload_n 1, 1)) (h1 : lw_lds (pc + 1) n 1 = some p1) (d1 : decode code p1 = .ok (.invokevirtual idxX, 3)) (d2 : decode code (p1 + 3) = .ok (.aload_n 2, 1)) (h2 : lw_lds (p1 + 3 + 1) n 1 = some p2) (d3 : decode code p2 = .ok (.invokevirtual idxM, 3)) (d4 : decode code (p2 + 3) = .ok (.lcmp, 1)) (d5 : decode code (p2 + 3 + 1) = .ok (.ifCond .eq off, 3)) (ht : ((p2 + 3 + 1 : Nat) : Int) + off = ((1273 : Nat) : Int)) (hn : n ≤ 5) {gx gm : GG}
    (hop : ∃ v x' m', MX.1 (lw_vs (lw_xs x) i 1 n) gx = some (v, x') ∧ MM.1 (lw_vs (lw_xs x) i 1 n) gm = some (v, m') ∧ Rel x' m') (hsh : ∀ v x', MX.1 (lw_vs (lw_xs x) i 1 n) gx = some (v, x') → ∃ r : Int64, v = .long r)
    (kk : ∀ x' m', Rel x' m' → lw_Go x i 1273 [] x' m') : lw_Go x i pc [] gx gm := by
  obtain ⟨v, x', m', e1, e2, hR⟩ := hop
  obtain ⟨r, rfl⟩ := hsh v x' e1
  refine lw_al1 hC d0 (lw_ld hC hi n 1 (pc + 1) p1 _ h1 (by omega) ?_)
  refine lw_cX_l hC MX tX e1 (by simp) d1 ?_
  refine lw_al2 hC d2 (lw_ld hC hi n 1 (p1 + 3 + 1) p2 _ h2 (by omega) ?_)
  refine lw_cM_l hC MM tM e2 (by simp [Value.category]) d3 ?_
  exact lw_sameL hC d4 d5 ht (kk x' m' hR)
theorem ik_swt_all {P : Nat → Prop} {cs : List (Int32 × Nat)} {dp : Nat} (h : ∀ c ∈ cs, P c.2) (hd : P dp) (x : Int32) : P (ik_swt cs dp x) := by
  unfold ik_swt
  split
  · rename_i c hc
    exact h c (List.mem_of_find?_eq_some hc)
  · exact hd
def lw_cs : List (Int32 × Nat) := [(0, 176), (1, 209), (2, 252), (3, 315), (4, 378), (5, 401), (6, 444), (7, 477), (8, 500), (9, 543), (10, 586), (11, 629), (12, 662), (13, 685), (14, 718), (15, 741), (16, 784), (17, 807), (18, 830), (19, 864), (20, 877), (21, 900), (22, 943), (23, 996), (24, 1029), (25, 1052), (26, 1085), (27, 1118), (28, 1151), (29, 1184), (30, 1217), (31, 1250)]
theorem lw_sw {x : lw_DX} (hC : lw_Cx x) {i : Nat} {v : Int32} {gx gm : GG} (h : ∀ c ∈ lw_cs, lw_Go x i c.2 [] gx gm) (hd : lw_Go x i 1273 [] gx gm) : lw_Go x i 33 [.int v] gx gm := by
  have hck : cSw code lw_cs 1273 33 = true := by decide +kernel
  have hk : lw_Go x i (ik_swt lw_cs 1273 v) [] gx gm := ik_swt_all (P := fun q => lw_Go x i q [] gx gm) h hd v
  obtain ⟨p, l, e, s, m, below, meth, c, D, cA, b, L, xs, adX, adM⟩ := x
  obtain ⟨hx, hb, -⟩ := hC
  intro H locs ls hP hS hl
  unfold cSw at hck
  split at hck
  · rename_i d lo hi offs len hdg
    simp only [Bool.and_eq_true, decide_eq_true_eq] at hck
    exact ik_table_row hx hb hdg hck.1 hck.2 (hk H locs ls hP hS hl)
  · rename_i d ps len hdg
    rw [Bool.and_eq_true] at hck
    exact ik_lookup_row hx hb hdg hck.1 hck.2 (hk H locs ls hP hS hl)
  · cases hck
/-- one round of the law's loop -/
theorem lw_round {x : lw_DX} (hC : lw_Cx x) {i : Nat} (hi : i ≤ 4000) {gx gm : GG} (hcases : i + 6 ≤ lw_L x → (∀ x' m', Rel x' m' → lw_Go x i 1273 [] x' m') → ∀ c ∈ lw_cs, lw_Go x i c.2 [] gx gm) (hR : Rel gx gm) (hnext : i + 6 ≤ lw_L x → ∀ x' m', Rel x' m' → lw_Go x (i + 6) 18 [] x' m') : lw_Go x i 18 [] gx gm := by
  have step : i + 6 ≤ lw_L x → ∀ x' m', Rel x' m' → lw_Go x i 1273 [] x' m' := by
    intro h6 x' m' hr
    have hn := hnext h6 x' m' hr
    obtain ⟨p, l, e, s, m, below, meth, c, D, cA, b, L, xs, adX, adM⟩ := x
    obtain ⟨hx, hb, -⟩ := hC
    intro H locs ls hP hS hl
    refine lv_iinc (i := 3) (n := 6) (v := nI (i + 6)) (lv' := [(3, .int (nI (i + 6))), (0, .ref b), (1, .ref (adX 0)), (2, .ref (adM 0))]) hx hb (by decide +kernel) hl (k := 0) rfl (nI_add i 6) (by decide) rfl (fun ls1 hl1 => ?_)
    refine lv_goto (off := -1258) (tgt := 18) hx hb (by decide +kernel) (by decide) ?_
    exact hn H locs ls1 hP hS hl1
  have body : i + 6 ≤ lw_L x → lw_Go x i 33 [.int (lw_xs x i &&& 31)] gx gm := fun h6 => lw_sw hC (hcases h6 (step h6)) (step h6 gx gm hR)
  obtain ⟨p, l, e, s, m, below, meth, c, D, cA, b, L, xs, adX, adM⟩ := x
  obtain ⟨hx, hb, hml, hown, hts, hns, hK, hX, hbl, hlk, hr, hD, hL⟩ := hC
  intro H locs ls hP hS hl
  have hsub : (nI L - nI 6).toInt = (L : Int) - 6 := nI_subI (by omega) (by omega)
  refine lv_iload_n hx hb (k := 3) (by decide +kernel) rfl (lv_at hl 0 rfl) ?_
  refine lv_aload_n hx hb (k := 0) (by decide +kernel) rfl (lv_at hl 1 rfl) ?_
  refine va_slen hx hb hX hbl (Nat.not_le.mpr hbl) hS (by decide +kernel) ?_
  refine lv_bipush (n := 6) (v := nI 6) hx hb (by decide +kernel) (by decide) ?_
  refine lv_isub hx hb (by decide +kernel) ?_
  refine lv_icmp_gt (off := 1255) (tgt := 1279) hx hb (by decide +kernel) (by decide) (fun _ => ?_) (fun c1 => ?_)
  · refine lv_iconst (n := 1) (v := 1) hx hb (by decide +kernel) (by decide) ?_
    refine va_forget (fun q hq => hS.2.2 q hq) ?_
    exact lw_ret hx hb hr hlk (by decide +kernel)
  · have h6 : i + 6 ≤ L := by
      rcases Nat.lt_or_ge L (i + 6) with q | q
      · exfalso
        apply c1
        have e2 : (nI i).toInt = (i : Int) := nI_toInt (by omega)
        rw [Int32.lt_iff_toInt_lt]
        show (nI L - nI 6).toInt < (nI i).toInt
        rw [hsub, e2]
        omega
      · exact q
    refine lv_aload_n hx hb (k := 0) (by decide +kernel) rfl (lv_at hl 1 rfl) ?_
    refine lv_iload_n hx hb (k := 3) (by decide +kernel) rfl (lv_at hl 0 rfl) ?_
    refine va_sld hx hb hX hbl (Nat.not_le.mpr hbl) hS (vp_in_nI (show i < L by omega) (by omega)) (by decide +kernel) ?_
    rw [nI_clamp (show i < 2 ^ 31 by omega)]
    refine lv_bipush (n := 31) (v := 31) hx hb (by decide +kernel) (by decide) ?_
    refine lv_iand hx hb (by decide +kernel) ?_
    exact body h6 H locs ls hP hS hl
