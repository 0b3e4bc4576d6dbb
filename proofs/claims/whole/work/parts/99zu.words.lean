/-! the constructor of a word list: its room, its signs, its lengths -/
def gWo (r : Int32) : GG := (fun a b => if a = 0 then (if b = 0 then r else 0) else 0, fun _ _ => 0)
def wdWo (r : Nat) : List ik_CD := [.inr (10, [.inl 0, .inr 1, .inr 2]), .inl (0, r * 12), .inl (0, r)]
def fsC10 : List Value := [.int 0, .null, .null]
set_option maxRecDepth 100000 in
set_option maxHeartbeats 4000000 in
theorem okC10 (r : Nat) (hr : r < 1000) (e1 : Int32.ofNat r * 12 = Int32.ofNat (r * 12)) (e2 : ¬ Int32.ofNat r < 0) : ik_okN yX10_init cX10_init 2 10 fsC10 [.int (Int32.ofNat r)] 1 2 (r * 12 + r) (wdWo r) (gWo (Int32.ofNat r)) := by
  intro l D cA h0 sz
  refine ik_ofW (cc := cX10_init) (maxL := 2) (ret := none) (by decide +kernel) rfl ?_
  intro p e s m args below meth c s₁ B hml hv
  obtain ⟨rfl, rfl, hP, hK, hN⟩ := hv
  have hx := B.exec
  have hb := B.bytes
  have hts0 := atoms_spec (ws := Cond.code yX10_init cX10_init 2 none :: lw_gd) B.pre
  have hts : ∀ w ∈ lw_gd, w.before _ s = true := fun w hw => hts0 w (List.mem_cons_of_mem _ hw)
  have hown : s.vm.findClass RX10 = some m.cls := findClass_of_methodNamed B.named
  have hlocks := B.notSynchronized
  have hin : meth.name = "<init>" := (name_of_methodNamed B.named B.method).1
  have hl := lv_entry ([.ref h0, .int (Int32.ofNat r)]) (n := 2) (Nat.le_refl 2)
  rw [lg_entry_eq]
  generalize (lg_sl ([.ref h0, .int (Int32.ofNat r)]) ++ List.replicate (2 - (lg_sl ([.ref h0, .int (Int32.ofNat r)])).length) Slot.unset).toArray = ls at hl ⊢
  have hl : lv_has ls 2 [(0, .ref h0), (1, .int (Int32.ofNat r))] := hl
  have hC : ik_Cc p s m ([.ref h0, .int (Int32.ofNat r)] : List Value).toArray meth c cX10_init 2 RX10 D cA (va_A [(h0, .inr (10, fsC10))] s.heap.size) := ⟨hx, hb, hml, hown, hts, hN, hK, fun q hq => Or.inr hq⟩
  refine lv_aload_n hx hb (k := 0) (by decide +kernel) rfl (lv_at hl 0 rfl) ?_
  refine W.objInit (idx := 3) hx hb hown (hts _ (ik_gd (by decide +kernel) rfl)) (hts _ ik_oiw1) (hts _ ik_oiw2) rfl (by rw [hml]; exact hl.1) rfl (show decode cX10_init 1 = .ok (.invokespecial 3, 3) by decide +kernel) (Nat.le_of_ble_eq_true rfl) (Nat.le_of_ble_eq_true rfl) ?_
  refine W.eq (g2 := F0 m 4 ls []) rfl ?_
  refine lv_aload_n hx hb (k := 0) (by decide +kernel) rfl (lv_at hl 0 rfl) ?_
  refine lv_iload_n hx hb (k := 1) (by decide +kernel) rfl (lv_at hl 1 rfl) ?_
  refine lv_iconst (n := 0) (v := 0) hx hb (by decide +kernel) (by decide) ?_
  refine va_mmax (own := RX10) (index := 9) hx hb (by rw [hml]; exact hl.1.symm) hown (hts _ (ik_gd (by decide +kernel) rfl)) (hts _ (ik_gd (by decide +kernel) rfl)) (hts _ (ik_gd (by decide +kernel) rfl)) (hts _ (ik_gd (by decide +kernel) rfl)) (Nat.le_of_ble_eq_true rfl) (Nat.le_of_ble_eq_true rfl) (Nat.zero_le _) (Nat.zero_le _) (by decide +kernel) ?_
  rw [if_neg e2]
  have hD0 : va_D (va_A [(h0, .inr (10, fsC10))] s.heap.size) [(h0, .inr (10, fsC10))] := ik_D1
  have hS0 : va_S (va_A [(h0, .inr (10, fsC10))] s.heap.size) s.heap s.heap [] := va_S.rf
  refine va_putF (D := D) (ci := 10) (v := .int (Int32.ofNat r)) (ty := .int) (C := RX10) (T := TX10) (N := 3) (index := 15) hx hb hts (ik_gd_lays inX10) tyX10 tyX10_ok nmX10 hown hK hP hD0 hS0 0 rfl rfl 0 (by decide) (hts (.fieldLink RX10 15 RX10 "room" "I") (ik_gd (by decide +kernel) rfl)) (fun _ h9 => h9) rfl hin rfl (by decide +kernel) rfl rfl (Nat.le_of_ble_eq_true rfl) (by decide +kernel) (fun H1 locs1 hP hD hS => ?_)
  have hP : va_P D vwCl [(h0, .inr (10, [.int (Int32.ofNat r), .null, .null]))] H1 := hP
  have hD : va_D (va_A [(h0, .inr (10, fsC10))] s.heap.size) [(h0, .inr (10, [.int (Int32.ofNat r), .null, .null]))] := hD
  refine lv_aload_n hx hb (k := 0) (by decide +kernel) rfl (lv_at hl 0 rfl) ?_
  refine lv_aload_n hx hb (k := 0) (by decide +kernel) rfl (lv_at hl 0 rfl) ?_
  refine va_get (D := D) (ci := 10) (C := RX10) (T := TX10) (N := 3) (v := .int (Int32.ofNat r)) (index := 15) hx hb hts (ik_gd_lays inX10) hown hK hP 0 rfl rfl 0 (by decide) (hts (.fieldLink RX10 15 RX10 "room" "I") (ik_gd (by decide +kernel) rfl)) (fun _ h9 => h9) rfl (by decide +kernel) ?_
  refine lv_bipush (n := 12) (v := 12) hx hb (by decide +kernel) (by decide) ?_
  refine lv_imul hx hb (by decide +kernel) ?_
  rw [e1]
  refine ik_newa (kd := 0) hC (by omega) (by omega) hP hD hS (by show 0 + 1 ≤ 2; omega) (by show 0 + r * 12 ≤ r * 12 + r; omega) (by decide +kernel) (fun q1 H2 hP hD hS => ?_)
  refine ik_putR (idx := 21) (j := 1) hC hin fl_X10_21 (by decide +kernel) rfl (Nat.le_of_ble_eq_true rfl) (by decide +kernel) hP hD hS (fun H3 locs3 hP hD hS => ?_)
  have hP : va_P D vwCl [(h0, .inr (10, [.int (Int32.ofNat r), .ref q1, .null])), (q1, .inl (cA 0, ik_zero 0 (r * 12)))] H3 := hP
  have hD : va_D (va_A [(h0, .inr (10, fsC10))] s.heap.size) [(h0, .inr (10, [.int (Int32.ofNat r), .ref q1, .null])), (q1, .inl (cA 0, ik_zero 0 (r * 12)))] := hD
  refine lv_aload_n hx hb (k := 0) (by decide +kernel) rfl (lv_at hl 0 rfl) ?_
  refine lv_aload_n hx hb (k := 0) (by decide +kernel) rfl (lv_at hl 0 rfl) ?_
  refine va_get (D := D) (ci := 10) (C := RX10) (T := TX10) (N := 3) (v := .int (Int32.ofNat r)) (index := 15) hx hb hts (ik_gd_lays inX10) hown hK hP 0 rfl rfl 0 (by decide) (hts (.fieldLink RX10 15 RX10 "room" "I") (ik_gd (by decide +kernel) rfl)) (fun _ h9 => h9) rfl (by decide +kernel) ?_
  refine ik_newa (kd := 0) hC (by omega) (by omega) hP hD hS (by show 0 + 1 + 1 ≤ 2; omega) (by show 0 + r * 12 + r ≤ r * 12 + r; omega) (by decide +kernel) (fun q2 H4 hP hD hS => ?_)
  refine ik_putR (idx := 25) (j := 2) hC hin fl_X10_25 (by decide +kernel) rfl (Nat.le_of_ble_eq_true rfl) (by decide +kernel) hP hD hS (fun H5 locs5 hP hD hS => ?_)
  obtain ⟨ad, had⟩ : ∃ ad : Nat → Nat, ad = fun k => if k = 0 then h0 else if k = 1 then q1 else q2 := ⟨_, rfl⟩
  have hw : ([(h0, .inr (10, [.int (Int32.ofNat r), .ref q1, .ref q2])), (q1, .inl (cA 0, ik_zero 0 (r * 12))), (q2, .inl (cA 0, ik_zero 0 r))] : va_W) = ik_w (wdWo r) ad cA (gWo (Int32.ofNat r)) := by
    rw [ik_w_eq, had]
    rfl
  have hP : va_P D vwCl ([(h0, .inr (10, [.int (Int32.ofNat r), .ref q1, .ref q2])), (q1, .inl (cA 0, ik_zero 0 (r * 12))), (q2, .inl (cA 0, ik_zero 0 r))] : va_W) H5 := hP
  have hD : va_D (va_A [(h0, .inr (10, fsC10))] s.heap.size) ([(h0, .inr (10, [.int (Int32.ofNat r), .ref q1, .ref q2])), (q1, .inl (cA 0, ik_zero 0 (r * 12))), (q2, .inl (cA 0, ik_zero 0 r))] : va_W) := hD
  rw [hw] at hP hD
  refine W.widen (k := 2) (n := r * 12 + r) (by omega) (by omega) ?_
  exact W.vret hx hb B.returns (fun t ht hWm => ⟨⟨ad, rfl, trivial, by rw [had]; rfl, by rw [ht]; exact hP, hD⟩, hS.F ht⟩) hS.2.2 (by decide +kernel)
theorem okC10_24 : ik_okN yX10_init cX10_init 2 10 fsC10 [.int (Int32.ofNat 24)] 1 2 312 (wdWo 24) (gWo (Int32.ofNat 24)) := okC10 24 (by decide) (by decide) (by decide)
theorem okC10_144 : ik_okN yX10_init cX10_init 2 10 fsC10 [.int (Int32.ofNat 144)] 1 2 1872 (wdWo 144) (gWo (Int32.ofNat 144)) := okC10 144 (by decide) (by decide) (by decide)
