/-! printed by program: the constructors that make arrays alone -/
def ik_wr (ad : Nat → Nat) (cA : Nat → ClassId) (g : GG) : Nat → List ik_CD → va_W
  | _, [] => []
  | k, c :: r => (ad k, ik_ce ad cA g k c) :: ik_wr ad cA g (k + 1) r
theorem ik_wr_at (ad : Nat → Nat) (cA : Nat → ClassId) (g : GG) : ∀ (wd : List ik_CD) (k i : Nat), (ik_wr ad cA g k wd)[i]? = (wd[i]?).map (fun cd => (ad (k + i), ik_ce ad cA g (k + i) cd))
  | [], k, i => by simp [ik_wr]
  | c :: r, k, 0 => by simp [ik_wr]
  | c :: r, k, i + 1 => by
    simp only [ik_wr, List.getElem?_cons_succ, ik_wr_at ad cA g r (k + 1) i, show k + 1 + i = k + (i + 1) by omega]
theorem ik_w_eq (wd : List ik_CD) (ad : Nat → Nat) (cA : Nat → ClassId) (g : GG) : ik_w wd ad cA g = ik_wr ad cA g 0 wd := by
  refine List.ext_getElem? fun k => ?_
  rw [ik_w_at, ik_wr_at, Nat.zero_add]
def gZ : GG := (fun _ _ => 0, fun _ _ => 0)
theorem gW_0 (id : Nat) : gZ = gW id 0 := by
  refine Prod.ext ?_ rfl
  funext a b
  simp [gZ, gW]
def wdC9 : List ik_CD := [.inr (9, [.inr 1, .inl 0]), .inl (0, 400)]
def fsC9 : List Value := [.null, .int 0]
def LC9 : List ik_Rw := [(0, 400, 9, 0)]
theorem LC9_fl : ∀ r ∈ LC9, ik_FL RX9 r.2.2.1 9 r.2.2.2 := List.forall_mem_cons.mpr ⟨fl_X9_9, fun _ h => absurd h List.not_mem_nil⟩
set_option maxRecDepth 100000 in
set_option maxHeartbeats 4000000 in
theorem okC9 : ik_okN yX9_init cX9_init 1 9 fsC9 [] 1 1 400 wdC9 gZ :=
  ik_okArr (pcE := 13) (pcR := 13) (oi := 1) (g0 := gZ) LC9 (by decide +kernel) rfl rfl (by decide +kernel) (by decide +kernel) (by decide +kernel) (by decide) (by decide +kernel) LC9_fl (by decide +kernel) (by decide +kernel) (by decide +kernel) (fun ad cA => by rw [ik_w_eq]; rfl) ik_fin0 (by decide +kernel)
def wdC3 : List ik_CD := [.inr (3, [.inr 1, .inr 2, .inr 3, .inl 0]), .inl (0, 60), .inl (0, 60), .inl (0, 60)]
def fsC3 : List Value := [.null, .null, .null, .int 0]
def LC3 : List ik_Rw := [(0, 60, 9, 0), (0, 60, 13, 1), (0, 60, 16, 2)]
theorem LC3_fl : ∀ r ∈ LC3, ik_FL RX3 r.2.2.1 3 r.2.2.2 := List.forall_mem_cons.mpr ⟨fl_X3_9, List.forall_mem_cons.mpr ⟨fl_X3_13, List.forall_mem_cons.mpr ⟨fl_X3_16, fun _ h => absurd h List.not_mem_nil⟩⟩⟩
set_option maxRecDepth 100000 in
set_option maxHeartbeats 4000000 in
theorem okC3 : ik_okN yX3_init cX3_init 1 3 fsC3 [] 1 3 180 wdC3 gZ :=
  ik_okArr (pcE := 28) (pcR := 28) (oi := 1) (g0 := gZ) LC3 (by decide +kernel) rfl rfl (by decide +kernel) (by decide +kernel) (by decide +kernel) (by decide) (by decide +kernel) LC3_fl (by decide +kernel) (by decide +kernel) (by decide +kernel) (fun ad cA => by rw [ik_w_eq]; rfl) ik_fin0 (by decide +kernel)
def wdC7 : List ik_CD := [.inr (7, [.inr 1, .inr 2, .inr 3, .inl 0, .inl 0, .inl 3, .inl 0, .inl 0, .inl 0, .inl 0, .inl 3]), .inl (0, 160), .inl (0, 160), .inl (0, 26)]
def fsC7 : List Value := [.null, .null, .null, .int 0, .int 0, .int 0, .int 0, .int 0, .int 0, .int 0, .int 0]
def LC7 : List ik_Rw := [(0, 160, 9, 0), (0, 160, 15, 1), (0, 26, 18, 2)]
theorem LC7_fl : ∀ r ∈ LC7, ik_FL RX7 r.2.2.1 7 r.2.2.2 := List.forall_mem_cons.mpr ⟨fl_X7_9, List.forall_mem_cons.mpr ⟨fl_X7_15, List.forall_mem_cons.mpr ⟨fl_X7_18, fun _ h => absurd h List.not_mem_nil⟩⟩⟩
set_option maxRecDepth 100000 in
set_option maxHeartbeats 4000000 in
theorem okC7 : ik_okN yX7_init cX7_init 1 7 fsC7 [] 1 3 346 wdC7 gZ :=
  ik_okArr (pcE := 30) (pcR := 30) (oi := 3) (g0 := gZ) LC7 (by decide +kernel) rfl rfl (by decide +kernel) (by decide +kernel) (by decide +kernel) (by decide) (by decide +kernel) LC7_fl (by decide +kernel) (by decide +kernel) (by decide +kernel) (fun ad cA => by rw [ik_w_eq]; rfl) ik_fin0 (by decide +kernel)
def wdC1 : List ik_CD := [.inr (1, [.inr 1, .inr 2, .inr 3, .inr 4, .inl 0]), .inl (0, 8), .inl (0, 8), .inl (0, 8), .inl (0, 8)]
def fsC1 : List Value := [.null, .null, .null, .null, .int 0]
def LC1 : List ik_Rw := [(0, 8, 11, 0), (0, 8, 15, 1), (0, 8, 18, 2), (0, 8, 21, 3)]
theorem LC1_fl : ∀ r ∈ LC1, ik_FL RX1 r.2.2.1 1 r.2.2.2 := List.forall_mem_cons.mpr ⟨fl_X1_11, List.forall_mem_cons.mpr ⟨fl_X1_15, List.forall_mem_cons.mpr ⟨fl_X1_18, List.forall_mem_cons.mpr ⟨fl_X1_21, fun _ h => absurd h List.not_mem_nil⟩⟩⟩⟩
set_option maxRecDepth 100000 in
set_option maxHeartbeats 4000000 in
theorem okC1 : ik_okN yX1_init cX1_init 1 1 fsC1 [] 1 4 32 wdC1 gZ :=
  ik_okArr (pcE := 36) (pcR := 36) (oi := 3) (g0 := gZ) LC1 (by decide +kernel) rfl rfl (by decide +kernel) (by decide +kernel) (by decide +kernel) (by decide) (by decide +kernel) LC1_fl (by decide +kernel) (by decide +kernel) (by decide +kernel) (fun ad cA => by rw [ik_w_eq]; rfl) ik_fin0 (by decide +kernel)
def wdC5 : List ik_CD := [.inr (5, [.inr 1, .inr 2, .inr 3, .inr 4, .inr 5, .inl 3, .inl 0, .inl 0]), .inl (0, 4), .inl (0, 576), .inl (3, 576), .inl (0, 2304), .inl (0, 4)]
def fsC5 : List Value := [.null, .null, .null, .null, .null, .int 0, .int 0, .int 0]
def LC5 : List ik_Rw := [(0, 4, 9, 0), (0, 576, 15, 1), (3, 576, 18, 2), (0, 2304, 22, 3), (0, 4, 25, 4)]
theorem LC5_fl : ∀ r ∈ LC5, ik_FL RX5 r.2.2.1 5 r.2.2.2 := List.forall_mem_cons.mpr ⟨fl_X5_9, List.forall_mem_cons.mpr ⟨fl_X5_15, List.forall_mem_cons.mpr ⟨fl_X5_18, List.forall_mem_cons.mpr ⟨fl_X5_22, List.forall_mem_cons.mpr ⟨fl_X5_25, fun _ h => absurd h List.not_mem_nil⟩⟩⟩⟩⟩
set_option maxRecDepth 100000 in
set_option maxHeartbeats 4000000 in
theorem okC5 : ik_okN yX5_init cX5_init 1 5 fsC5 [] 1 5 3464 wdC5 gZ :=
  ik_okArr (pcE := 45) (pcR := 45) (oi := 3) (g0 := gZ) LC5 (by decide +kernel) rfl rfl (by decide +kernel) (by decide +kernel) (by decide +kernel) (by decide) (by decide +kernel) LC5_fl (by decide +kernel) (by decide +kernel) (by decide +kernel) (fun ad cA => by rw [ik_w_eq]; rfl) ik_fin0 (by decide +kernel)
def wdC0 : List ik_CD := [.inr (0, [.inr 1, .inr 2, .inr 3, .inr 4, .inr 5, .inr 6, .inr 7, .inr 8, .inr 9, .inl 0, .inl 0, .inl 0]), .inl (0, 4), .inl (0, 4), .inl (0, 4), .inl (0, 20), .inl (0, 20), .inl (0, 20), .inl (0, 20), .inl (0, 20), .inl (0, 20)]
def fsC0 : List Value := [.null, .null, .null, .null, .null, .null, .null, .null, .null, .int 0, .int 0, .int 0]
def LC0 : List ik_Rw := [(0, 4, 9, 0), (0, 4, 15, 1), (0, 4, 18, 2), (0, 20, 21, 3), (0, 20, 24, 4), (0, 20, 27, 5), (0, 20, 30, 6), (0, 20, 33, 7), (0, 20, 36, 8)]
theorem LC0_fl : ∀ r ∈ LC0, ik_FL RX0 r.2.2.1 0 r.2.2.2 := List.forall_mem_cons.mpr ⟨fl_X0_9, List.forall_mem_cons.mpr ⟨fl_X0_15, List.forall_mem_cons.mpr ⟨fl_X0_18, List.forall_mem_cons.mpr ⟨fl_X0_21, List.forall_mem_cons.mpr ⟨fl_X0_24, List.forall_mem_cons.mpr ⟨fl_X0_27, List.forall_mem_cons.mpr ⟨fl_X0_30, List.forall_mem_cons.mpr ⟨fl_X0_33, List.forall_mem_cons.mpr ⟨fl_X0_36, fun _ h => absurd h List.not_mem_nil⟩⟩⟩⟩⟩⟩⟩⟩⟩
set_option maxRecDepth 100000 in
set_option maxHeartbeats 4000000 in
theorem okC0 : ik_okN yX0_init cX0_init 1 0 fsC0 [] 1 9 132 wdC0 gZ :=
  ik_okArr (pcE := 73) (pcR := 73) (oi := 3) (g0 := gZ) LC0 (by decide +kernel) rfl rfl (by decide +kernel) (by decide +kernel) (by decide +kernel) (by decide) (by decide +kernel) LC0_fl (by decide +kernel) (by decide +kernel) (by decide +kernel) (fun ad cA => by rw [ik_w_eq]; rfl) ik_fin0 (by decide +kernel)
def wdC4 : List ik_CD := [.inr (4, [.inr 1, .inr 2]), .inl (0, 27), .inl (0, 729)]
def fsC4 : List Value := [.null, .null]
def LC4 : List ik_Rw := [(0, 27, 11, 0), (0, 729, 15, 1)]
theorem LC4_fl : ∀ r ∈ LC4, ik_FL RX4 r.2.2.1 4 r.2.2.2 := List.forall_mem_cons.mpr ⟨fl_X4_11, List.forall_mem_cons.mpr ⟨fl_X4_15, fun _ h => absurd h List.not_mem_nil⟩⟩
set_option maxRecDepth 100000 in
set_option maxHeartbeats 4000000 in
theorem okC4 : ik_okN yX4_init cX4_init 2 4 fsC4 [] 1 2 756 wdC4 (gW 1 27) :=
  ik_okArr (pcE := 21) (pcR := 43) (oi := 3) (g0 := gZ) LC4 (by decide +kernel) rfl rfl (by decide +kernel) (by decide +kernel) (by decide +kernel) (by decide) (by decide +kernel) LC4_fl (by decide +kernel) (by decide +kernel) (by decide +kernel) (fun ad cA => by rw [ik_w_eq]; rfl) (by rw [gW_0 1]; exact ik_fin10 (b0 := 21) (idx := 11) (j := 0) fl_X4_11 rfl rfl rfl (by decide +kernel) (by decide +kernel) (by decide +kernel) (by decide +kernel) (by decide +kernel) (by decide +kernel) (by decide +kernel) (by decide +kernel) (by decide +kernel) (by decide +kernel) (by decide +kernel) (by decide +kernel)) (by decide +kernel)
