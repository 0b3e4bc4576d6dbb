/-! printed by program: the constructors that make objects by other constructors -/
def gL1 : GG := (fun a b => if a = 1 then (if b < 27 then 10 else 0) else 0, fun _ _ => 0)
theorem gL1_eq : gW 1 27 = gL1 := by
  refine Prod.ext ?_ rfl
  funext a b
  by_cases ha : a = 1 <;> by_cases hb : b < 27 <;> simp [gW, gL1, ha, hb]
theorem okC4b : ik_okN yX4_init cX4_init 2 4 fsC4 [] 1 2 756 wdC4 gL1 := gL1_eq ▸ okC4
def fsC6 : List Value := [.null, .null, .null, .null, .null, .null, .int 0]
def fsC8 : List Value := [.null, .null, .null, .null, .null, .null, .null, .int 0, .int 0, .int 0, .int 0]
def fsC2 : List Value := [.null, .null, .null, .null, .null, .null, .null, .null, .null, .int 0, .int 0, .int 0, .int 0, .long 0]
def fsC11 : List Value := [.null, .null, .null, .null, .null, .null, .null, .null, .null, .null, .null, .null, .int 0, .int 0, .int 0]
def gC6 : GG := (fun a b => if a = 1 then (if b = 0 then Int32.ofNat 24 else 0) else 0, fun _ _ => 0)
def gC8 : GG := (fun a b => if a = 1 then (if b = 0 then Int32.ofNat 144 else 0) else 0, fun _ _ => 0)
def g0x : GG := (fun a b => if a = 4 then (if b < 27 then 10 else 0) else if a = 7 then (if b = 0 then Int32.ofNat 24 else 0) else if a = 26 then (if b = 0 then Int32.ofNat 144 else 0) else 0, fun _ _ => 0)
def wdC6 : List ik_CD := [.inr (6, [.inr 1, .inr 4, .inr 5, .inr 6, .inr 7, .inr 8, .inl 0]), .inr (10, [.inl 0, .inr 2, .inr 3]), .inl (0, 288), .inl (0, 24), .inl (0, 24), .inl (0, 24), .inl (0, 24), .inl (0, 24), .inl (0, 24)]
def LC6 : List ik_Rw := [(0, 24, 20, 1), (0, 24, 24, 2), (0, 24, 27, 3), (0, 24, 30, 4), (0, 24, 33, 5)]
theorem LC6_fl : ∀ r ∈ LC6, ik_FL RX6 r.2.2.1 6 r.2.2.2 := List.forall_mem_cons.mpr ⟨fl_X6_20, List.forall_mem_cons.mpr ⟨fl_X6_24, List.forall_mem_cons.mpr ⟨fl_X6_27, List.forall_mem_cons.mpr ⟨fl_X6_30, List.forall_mem_cons.mpr ⟨fl_X6_33, fun _ h => absurd h List.not_mem_nil⟩⟩⟩⟩⟩
theorem LC6_ok : ∀ r ∈ LC6, r.1 < 4 ∧ r.2.1 < 100000 ∧ ik_fin 6 r.2.2.2 = true ∧ r.2.2.2 < fsC6.length := by decide +kernel
theorem mk_6_10 : ik_mkd RX6 yX10_init cX10_init 2 10 3 9 11 fsC10 [.int (Int32.ofNat 24)] := ⟨TX10, tyX10, ⟨by decide +kernel, by decide +kernel, by decide +kernel, by decide +kernel, by decide +kernel⟩, rfl, by decide +kernel, (by first | exact Or.inl (by decide +kernel) | exact Or.inr (by decide +kernel)), by decide +kernel, by decide +kernel, rfl, inX10, tyX10_ok, by decide +kernel⟩
set_option maxRecDepth 100000 in
set_option maxHeartbeats 4000000 in
theorem okC6 : ik_okN yX6_init cX6_init 1 6 fsC6 [] 2 8 435 wdC6 gC6 := by
  intro l D cA h0 sz
  refine ik_ofW (cc := cX6_init) (maxL := 1) (ret := none) (by decide +kernel) rfl ?_
  intro p e s m args below meth c s₁ B hml hv
  obtain ⟨rfl, rfl, hP, hK, hN⟩ := hv
  have hx := B.exec
  have hb := B.bytes
  have hts0 := atoms_spec (ws := Cond.code yX6_init cX6_init 1 none :: lw_gd) B.pre
  have hts : ∀ w ∈ lw_gd, w.before _ s = true := fun w hw => hts0 w (List.mem_cons_of_mem _ hw)
  have hown : s.vm.findClass RX6 = some m.cls := findClass_of_methodNamed B.named
  have hlocks := B.notSynchronized
  have hin : meth.name = "<init>" := (name_of_methodNamed B.named B.method).1
  have hl := lv_entry ([.ref h0]) (n := 1) (Nat.le_refl 1)
  rw [lg_entry_eq]
  generalize (lg_sl ([.ref h0]) ++ List.replicate (1 - (lg_sl ([.ref h0])).length) Slot.unset).toArray = ls at hl ⊢
  have hl : lv_has ls 1 [(0, .ref h0)] := hl
  have hC : ik_Cc p s m ([.ref h0] : List Value).toArray meth c cX6_init 1 RX6 D cA (va_A [(h0, .inr (6, fsC6))] s.heap.size) := ⟨hx, hb, hml, hown, hts, hN, hK, fun q hq => Or.inr hq⟩
  have hD : va_D (va_A [(h0, .inr (6, fsC6))] s.heap.size) [(h0, .inr (6, fsC6))] := ik_D1
  have hS : va_S (va_A [(h0, .inr (6, fsC6))] s.heap.size) s.heap s.heap [] := va_S.rf
  refine lv_aload_n hx hb (k := 0) (by decide +kernel) rfl (lv_at hl 0 rfl) ?_
  refine W.objInit (idx := 3) hx hb hown (hts _ (ik_gd (by decide +kernel) rfl)) (hts _ ik_oiw1) (hts _ ik_oiw2) rfl (by rw [hml]; exact hl.1) rfl (show decode cX6_init 1 = .ok (.invokespecial 3, 3) by decide +kernel) (Nat.le_of_ble_eq_true rfl) (Nat.le_of_ble_eq_true rfl) ?_
  refine W.eq (g2 := F0 m 4 ls []) rfl ?_
  refine ik_subO (pc := 4) (j := 0) (p1 := 11) (idxF := 14) hC hin rfl hl.1 (lv_at hl 0 rfl) okC10_24 mk_6_10 (by decide +kernel) (by decide +kernel) (by decide +kernel) (Or.inr ⟨24, rfl, by decide +kernel⟩) (by decide +kernel) (by decide +kernel) fl_X6_14 (by decide +kernel) (Nat.le_of_ble_eq_true rfl) (Nat.le_of_ble_eq_true rfl) (Nat.le_of_ble_eq_true rfl) (Nat.le_of_ble_eq_true rfl) (Nat.le_of_ble_eq_true rfl) hP hD hS (fun a0 H locs hP hD hS => ?_)
  refine ik_run hC hin rfl (lv_at hl 0 rfl) LC6 _ _ 17 57 _ _ _ _ (by decide +kernel) LC6_fl (fun r hr => by simp only [List.length_set]; exact LC6_ok r hr) (Nat.le_of_ble_eq_true rfl) (Nat.le_of_ble_eq_true rfl) hP hD hS (fun qs H1 locs1 hq hP hD hS => ?_)
  obtain ⟨z, -, rfl⟩ := ik_ads qs h0 LC6.length hq
  have hw : ((h0, .inr (6, ik_sets (fsC6.set 0 (.ref (a0 0))) LC6 ((List.range LC6.length).map (fun i => z (i + 1))))) :: (([] ++ ik_w (wdWo 24) a0 cA (gWo (Int32.ofNat 24))) ++ ik_news cA LC6 ((List.range LC6.length).map (fun i => z (i + 1)))) : va_W) = ik_w wdC6 (fun k => if k = 0 then h0 else if k < 4 then a0 (k - 1) else z (k - 3)) cA gC6 := by
    simp only [ik_w_eq]
    rfl
  rw [hw] at hP hD
  refine W.widen (k := 8) (n := 435) (Nat.le_of_ble_eq_true rfl) (Nat.le_of_ble_eq_true rfl) ?_
  exact W.vret hx hb B.returns (fun t ht hWm => ⟨⟨_, rfl, trivial, rfl, by rw [ht]; exact hP, hD⟩, hS.F ht⟩) hS.2.2 (show decode cX6_init 57 = .ok (.return_, 1) by decide +kernel)
def wdC8 : List ik_CD := [.inr (8, [.inr 1, .inr 4, .inr 5, .inr 6, .inr 7, .inr 8, .inr 9, .inl 0, .inl 0, .inl 0, .inl 0]), .inr (10, [.inl 0, .inr 2, .inr 3]), .inl (0, 1728), .inl (0, 144), .inl (0, 144), .inl (3, 144), .inl (3, 24), .inl (0, 6), .inl (0, 6), .inl (0, 6)]
def LC8 : List ik_Rw := [(0, 144, 20, 1), (3, 144, 24, 2), (3, 24, 28, 3), (0, 6, 31, 4), (0, 6, 34, 5), (0, 6, 37, 6)]
theorem LC8_fl : ∀ r ∈ LC8, ik_FL RX8 r.2.2.1 8 r.2.2.2 := List.forall_mem_cons.mpr ⟨fl_X8_20, List.forall_mem_cons.mpr ⟨fl_X8_24, List.forall_mem_cons.mpr ⟨fl_X8_28, List.forall_mem_cons.mpr ⟨fl_X8_31, List.forall_mem_cons.mpr ⟨fl_X8_34, List.forall_mem_cons.mpr ⟨fl_X8_37, fun _ h => absurd h List.not_mem_nil⟩⟩⟩⟩⟩⟩
theorem LC8_ok : ∀ r ∈ LC8, r.1 < 4 ∧ r.2.1 < 100000 ∧ ik_fin 8 r.2.2.2 = true ∧ r.2.2.2 < fsC8.length := by decide +kernel
theorem mk_8_10 : ik_mkd RX8 yX10_init cX10_init 2 10 3 9 13 fsC10 [.int (Int32.ofNat 144)] := ⟨TX10, tyX10, ⟨by decide +kernel, by decide +kernel, by decide +kernel, by decide +kernel, by decide +kernel⟩, rfl, by decide +kernel, (by first | exact Or.inl (by decide +kernel) | exact Or.inr (by decide +kernel)), by decide +kernel, by decide +kernel, rfl, inX10, tyX10_ok, by decide +kernel⟩
set_option maxRecDepth 100000 in
set_option maxHeartbeats 4000000 in
theorem okC8 : ik_okN yX8_init cX8_init 1 8 fsC8 [] 2 9 2205 wdC8 gC8 := by
  intro l D cA h0 sz
  refine ik_ofW (cc := cX8_init) (maxL := 1) (ret := none) (by decide +kernel) rfl ?_
  intro p e s m args below meth c s₁ B hml hv
  obtain ⟨rfl, rfl, hP, hK, hN⟩ := hv
  have hx := B.exec
  have hb := B.bytes
  have hts0 := atoms_spec (ws := Cond.code yX8_init cX8_init 1 none :: lw_gd) B.pre
  have hts : ∀ w ∈ lw_gd, w.before _ s = true := fun w hw => hts0 w (List.mem_cons_of_mem _ hw)
  have hown : s.vm.findClass RX8 = some m.cls := findClass_of_methodNamed B.named
  have hlocks := B.notSynchronized
  have hin : meth.name = "<init>" := (name_of_methodNamed B.named B.method).1
  have hl := lv_entry ([.ref h0]) (n := 1) (Nat.le_refl 1)
  rw [lg_entry_eq]
  generalize (lg_sl ([.ref h0]) ++ List.replicate (1 - (lg_sl ([.ref h0])).length) Slot.unset).toArray = ls at hl ⊢
  have hl : lv_has ls 1 [(0, .ref h0)] := hl
  have hC : ik_Cc p s m ([.ref h0] : List Value).toArray meth c cX8_init 1 RX8 D cA (va_A [(h0, .inr (8, fsC8))] s.heap.size) := ⟨hx, hb, hml, hown, hts, hN, hK, fun q hq => Or.inr hq⟩
  have hD : va_D (va_A [(h0, .inr (8, fsC8))] s.heap.size) [(h0, .inr (8, fsC8))] := ik_D1
  have hS : va_S (va_A [(h0, .inr (8, fsC8))] s.heap.size) s.heap s.heap [] := va_S.rf
  refine lv_aload_n hx hb (k := 0) (by decide +kernel) rfl (lv_at hl 0 rfl) ?_
  refine W.objInit (idx := 3) hx hb hown (hts _ (ik_gd (by decide +kernel) rfl)) (hts _ ik_oiw1) (hts _ ik_oiw2) rfl (by rw [hml]; exact hl.1) rfl (show decode cX8_init 1 = .ok (.invokespecial 3, 3) by decide +kernel) (Nat.le_of_ble_eq_true rfl) (Nat.le_of_ble_eq_true rfl) ?_
  refine W.eq (g2 := F0 m 4 ls []) rfl ?_
  refine ik_subO (pc := 4) (j := 0) (p1 := 12) (idxF := 16) hC hin rfl hl.1 (lv_at hl 0 rfl) okC10_144 mk_8_10 (by decide +kernel) (by decide +kernel) (by decide +kernel) (Or.inr ⟨144, rfl, by decide +kernel⟩) (by decide +kernel) (by decide +kernel) fl_X8_16 (by decide +kernel) (Nat.le_of_ble_eq_true rfl) (Nat.le_of_ble_eq_true rfl) (Nat.le_of_ble_eq_true rfl) (Nat.le_of_ble_eq_true rfl) (Nat.le_of_ble_eq_true rfl) hP hD hS (fun a0 H locs hP hD hS => ?_)
  refine ik_run hC hin rfl (lv_at hl 0 rfl) LC8 _ _ 18 68 _ _ _ _ (by decide +kernel) LC8_fl (fun r hr => by simp only [List.length_set]; exact LC8_ok r hr) (Nat.le_of_ble_eq_true rfl) (Nat.le_of_ble_eq_true rfl) hP hD hS (fun qs H1 locs1 hq hP hD hS => ?_)
  obtain ⟨z, -, rfl⟩ := ik_ads qs h0 LC8.length hq
  have hw : ((h0, .inr (8, ik_sets (fsC8.set 0 (.ref (a0 0))) LC8 ((List.range LC8.length).map (fun i => z (i + 1))))) :: (([] ++ ik_w (wdWo 144) a0 cA (gWo (Int32.ofNat 144))) ++ ik_news cA LC8 ((List.range LC8.length).map (fun i => z (i + 1)))) : va_W) = ik_w wdC8 (fun k => if k = 0 then h0 else if k < 4 then a0 (k - 1) else z (k - 3)) cA gC8 := by
    simp only [ik_w_eq]
    rfl
  rw [hw] at hP hD
  refine W.widen (k := 9) (n := 2205) (Nat.le_of_ble_eq_true rfl) (Nat.le_of_ble_eq_true rfl) ?_
  exact W.vret hx hb B.returns (fun t ht hWm => ⟨⟨_, rfl, trivial, rfl, by rw [ht]; exact hP, hD⟩, hS.F ht⟩) hS.2.2 (show decode cX8_init 68 = .ok (.return_, 1) by decide +kernel)
def wdC2 : List ik_CD := [.inr (2, [.inr 1, .inr 7, .inr 8, .inr 9, .inr 10, .inr 11, .inr 12, .inr 13, .inr 14, .inl 0, .inl 0, .inl 3, .inl 3, .inl 1]), .inr (5, [.inr 2, .inr 3, .inr 4, .inr 5, .inr 6, .inl 3, .inl 0, .inl 0]), .inl (0, 4), .inl (0, 576), .inl (3, 576), .inl (0, 2304), .inl (0, 4), .inl (0, 4), .inl (0, 384), .inl (0, 24), .inl (0, 24), .inl (0, 4), .inl (0, 4), .inl (0, 4), .inl (1, 96)]
def LC2 : List ik_Rw := [(0, 4, 18, 1), (0, 384, 22, 2), (0, 24, 25, 3), (0, 24, 28, 4), (0, 4, 31, 5), (0, 4, 34, 6), (0, 4, 37, 7), (1, 96, 40, 8)]
theorem LC2_fl : ∀ r ∈ LC2, ik_FL RX2 r.2.2.1 2 r.2.2.2 := List.forall_mem_cons.mpr ⟨fl_X2_18, List.forall_mem_cons.mpr ⟨fl_X2_22, List.forall_mem_cons.mpr ⟨fl_X2_25, List.forall_mem_cons.mpr ⟨fl_X2_28, List.forall_mem_cons.mpr ⟨fl_X2_31, List.forall_mem_cons.mpr ⟨fl_X2_34, List.forall_mem_cons.mpr ⟨fl_X2_37, List.forall_mem_cons.mpr ⟨fl_X2_40, fun _ h => absurd h List.not_mem_nil⟩⟩⟩⟩⟩⟩⟩⟩
theorem LC2_ok : ∀ r ∈ LC2, r.1 < 4 ∧ r.2.1 < 100000 ∧ ik_fin 2 r.2.2.2 = true ∧ r.2.2.2 < fsC2.length := by decide +kernel
theorem mk_2_5 : ik_mkd RX2 yX5_init cX5_init 1 5 8 9 11 fsC5 [] := ⟨TX5, tyX5, ⟨by decide +kernel, by decide +kernel, by decide +kernel, by decide +kernel, by decide +kernel⟩, rfl, by decide +kernel, (by first | exact Or.inl (by decide +kernel) | exact Or.inr (by decide +kernel)), by decide +kernel, by decide +kernel, rfl, inX5, tyX5_ok, by decide +kernel⟩
set_option maxRecDepth 100000 in
set_option maxHeartbeats 4000000 in
theorem okC2 : ik_okN yX2_init cX2_init 1 2 fsC2 [] 2 14 4016 wdC2 gZ := by
  intro l D cA h0 sz
  refine ik_ofW (cc := cX2_init) (maxL := 1) (ret := none) (by decide +kernel) rfl ?_
  intro p e s m args below meth c s₁ B hml hv
  obtain ⟨rfl, rfl, hP, hK, hN⟩ := hv
  have hx := B.exec
  have hb := B.bytes
  have hts0 := atoms_spec (ws := Cond.code yX2_init cX2_init 1 none :: lw_gd) B.pre
  have hts : ∀ w ∈ lw_gd, w.before _ s = true := fun w hw => hts0 w (List.mem_cons_of_mem _ hw)
  have hown : s.vm.findClass RX2 = some m.cls := findClass_of_methodNamed B.named
  have hlocks := B.notSynchronized
  have hin : meth.name = "<init>" := (name_of_methodNamed B.named B.method).1
  have hl := lv_entry ([.ref h0]) (n := 1) (Nat.le_refl 1)
  rw [lg_entry_eq]
  generalize (lg_sl ([.ref h0]) ++ List.replicate (1 - (lg_sl ([.ref h0])).length) Slot.unset).toArray = ls at hl ⊢
  have hl : lv_has ls 1 [(0, .ref h0)] := hl
  have hC : ik_Cc p s m ([.ref h0] : List Value).toArray meth c cX2_init 1 RX2 D cA (va_A [(h0, .inr (2, fsC2))] s.heap.size) := ⟨hx, hb, hml, hown, hts, hN, hK, fun q hq => Or.inr hq⟩
  have hD : va_D (va_A [(h0, .inr (2, fsC2))] s.heap.size) [(h0, .inr (2, fsC2))] := ik_D1
  have hS : va_S (va_A [(h0, .inr (2, fsC2))] s.heap.size) s.heap s.heap [] := va_S.rf
  refine lv_aload_n hx hb (k := 0) (by decide +kernel) rfl (lv_at hl 0 rfl) ?_
  refine W.objInit (idx := 3) hx hb hown (hts _ (ik_gd (by decide +kernel) rfl)) (hts _ ik_oiw1) (hts _ ik_oiw2) rfl (by rw [hml]; exact hl.1) rfl (show decode cX2_init 1 = .ok (.invokespecial 3, 3) by decide +kernel) (Nat.le_of_ble_eq_true rfl) (Nat.le_of_ble_eq_true rfl) ?_
  refine W.eq (g2 := F0 m 4 ls []) rfl ?_
  refine ik_subO (pc := 4) (j := 0) (p1 := 9) (idxF := 12) hC hin rfl hl.1 (lv_at hl 0 rfl) okC5 mk_2_5 (by decide +kernel) (by decide +kernel) (by decide +kernel) (Or.inl ⟨rfl, rfl⟩) (by decide +kernel) (by decide +kernel) fl_X2_12 (by decide +kernel) (Nat.le_of_ble_eq_true rfl) (Nat.le_of_ble_eq_true rfl) (Nat.le_of_ble_eq_true rfl) (Nat.le_of_ble_eq_true rfl) (Nat.le_of_ble_eq_true rfl) hP hD hS (fun a0 H locs hP hD hS => ?_)
  refine ik_run hC hin rfl (lv_at hl 0 rfl) LC2 _ _ 15 76 _ _ _ _ (by decide +kernel) LC2_fl (fun r hr => by simp only [List.length_set]; exact LC2_ok r hr) (Nat.le_of_ble_eq_true rfl) (Nat.le_of_ble_eq_true rfl) hP hD hS (fun qs H1 locs1 hq hP hD hS => ?_)
  obtain ⟨z, -, rfl⟩ := ik_ads qs h0 LC2.length hq
  have hw : ((h0, .inr (2, ik_sets (fsC2.set 0 (.ref (a0 0))) LC2 ((List.range LC2.length).map (fun i => z (i + 1))))) :: (([] ++ ik_w wdC5 a0 cA gZ) ++ ik_news cA LC2 ((List.range LC2.length).map (fun i => z (i + 1)))) : va_W) = ik_w wdC2 (fun k => if k = 0 then h0 else if k < 7 then a0 (k - 1) else z (k - 6)) cA gZ := by
    simp only [ik_w_eq]
    rfl
  rw [hw] at hP hD
  refine W.widen (k := 14) (n := 4016) (Nat.le_of_ble_eq_true rfl) (Nat.le_of_ble_eq_true rfl) ?_
  exact W.vret hx hb B.returns (fun t ht hWm => ⟨⟨_, rfl, trivial, rfl, by rw [ht]; exact hP, hD⟩, hS.F ht⟩) hS.2.2 (show decode cX2_init 76 = .ok (.return_, 1) by decide +kernel)
