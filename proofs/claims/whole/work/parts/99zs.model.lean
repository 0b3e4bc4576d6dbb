def fsC12 : List Value := [.null, .int 0, .int 0, .int 0, .int 0, .int 0, .int 0, .int 0, .int 0, .int 0, .int 0, .int 0, .null, .null, .null, .null, .null, .null, .null, .null, .null, .null, .null, .null, .null, .null, .null, .null, .null, .null, .int 0, .int 0, .int 0, .null, .int 0, .null, .null, .null, .null, .null, .null, .null, .null, .null, .null, .null, .int 0, .int 0, .int 0, .int 0, .int 0, .int 0, .null, .int 0, .int 0, .null, .null, .null, .null, .null, .null, .null, .null, .null, .null, .null, .null, .int 0, .int 0, .long 0, .null, .null, .null, .null, .null, .null, .null]
def LC12 : List ik_Rw := [(2, 400, 7, 0), (0, 27, 13, 12), (0, 729, 17, 13), (2, 288, 20, 14), (0, 24, 23, 15), (0, 24, 26, 16), (0, 24, 29, 17), (0, 24, 32, 18), (0, 24, 35, 19), (0, 4, 38, 20), (0, 4, 41, 21), (0, 4, 44, 22), (0, 6, 47, 23), (0, 6, 50, 24), (2, 960, 53, 25), (0, 144, 56, 26), (0, 144, 59, 27), (0, 144, 62, 28), (3, 144, 65, 29), (0, 4, 69, 33), (0, 24, 72, 35), (0, 12, 75, 36), (0, 12, 78, 37), (0, 12, 81, 38), (0, 160, 84, 39), (0, 160, 87, 40), (0, 12, 90, 41), (0, 12, 93, 42), (0, 12, 96, 43), (0, 160, 99, 44), (0, 160, 102, 45), (0, 200, 105, 52), (0, 200, 108, 55), (3, 200, 111, 56), (0, 20, 114, 57), (0, 20, 117, 58), (0, 20, 120, 59), (0, 20, 123, 60), (0, 20, 126, 61), (0, 20, 129, 62), (0, 60, 132, 63), (0, 60, 135, 64), (0, 60, 138, 65), (0, 96, 141, 66), (1, 96, 144, 70), (0, 96, 148, 71), (0, 8, 151, 72), (0, 8, 154, 73), (0, 8, 157, 74), (0, 8, 160, 75), (0, 6, 163, 76)]
theorem LC12_fl : ∀ r ∈ LC12, ik_FL RX12 r.2.2.1 12 r.2.2.2 := List.forall_mem_cons.mpr ⟨fl_X12_7, List.forall_mem_cons.mpr ⟨fl_X12_13, List.forall_mem_cons.mpr ⟨fl_X12_17, List.forall_mem_cons.mpr ⟨fl_X12_20, List.forall_mem_cons.mpr ⟨fl_X12_23, List.forall_mem_cons.mpr ⟨fl_X12_26, List.forall_mem_cons.mpr ⟨fl_X12_29, List.forall_mem_cons.mpr ⟨fl_X12_32, List.forall_mem_cons.mpr ⟨fl_X12_35, List.forall_mem_cons.mpr ⟨fl_X12_38, List.forall_mem_cons.mpr ⟨fl_X12_41, List.forall_mem_cons.mpr ⟨fl_X12_44, List.forall_mem_cons.mpr ⟨fl_X12_47, List.forall_mem_cons.mpr ⟨fl_X12_50, List.forall_mem_cons.mpr ⟨fl_X12_53, List.forall_mem_cons.mpr ⟨fl_X12_56, List.forall_mem_cons.mpr ⟨fl_X12_59, List.forall_mem_cons.mpr ⟨fl_X12_62, List.forall_mem_cons.mpr ⟨fl_X12_65, List.forall_mem_cons.mpr ⟨fl_X12_69, List.forall_mem_cons.mpr ⟨fl_X12_72, List.forall_mem_cons.mpr ⟨fl_X12_75, List.forall_mem_cons.mpr ⟨fl_X12_78, List.forall_mem_cons.mpr ⟨fl_X12_81, List.forall_mem_cons.mpr ⟨fl_X12_84, List.forall_mem_cons.mpr ⟨fl_X12_87, List.forall_mem_cons.mpr ⟨fl_X12_90, List.forall_mem_cons.mpr ⟨fl_X12_93, List.forall_mem_cons.mpr ⟨fl_X12_96, List.forall_mem_cons.mpr ⟨fl_X12_99, List.forall_mem_cons.mpr ⟨fl_X12_102, List.forall_mem_cons.mpr ⟨fl_X12_105, List.forall_mem_cons.mpr ⟨fl_X12_108, List.forall_mem_cons.mpr ⟨fl_X12_111, List.forall_mem_cons.mpr ⟨fl_X12_114, List.forall_mem_cons.mpr ⟨fl_X12_117, List.forall_mem_cons.mpr ⟨fl_X12_120, List.forall_mem_cons.mpr ⟨fl_X12_123, List.forall_mem_cons.mpr ⟨fl_X12_126, List.forall_mem_cons.mpr ⟨fl_X12_129, List.forall_mem_cons.mpr ⟨fl_X12_132, List.forall_mem_cons.mpr ⟨fl_X12_135, List.forall_mem_cons.mpr ⟨fl_X12_138, List.forall_mem_cons.mpr ⟨fl_X12_141, List.forall_mem_cons.mpr ⟨fl_X12_144, List.forall_mem_cons.mpr ⟨fl_X12_148, List.forall_mem_cons.mpr ⟨fl_X12_151, List.forall_mem_cons.mpr ⟨fl_X12_154, List.forall_mem_cons.mpr ⟨fl_X12_157, List.forall_mem_cons.mpr ⟨fl_X12_160, List.forall_mem_cons.mpr ⟨fl_X12_163, fun _ h => absurd h List.not_mem_nil⟩⟩⟩⟩⟩⟩⟩⟩⟩⟩⟩⟩⟩⟩⟩⟩⟩⟩⟩⟩⟩⟩⟩⟩⟩⟩⟩⟩⟩⟩⟩⟩⟩⟩⟩⟩⟩⟩⟩⟩⟩⟩⟩⟩⟩⟩⟩⟩⟩⟩⟩
/-- a field while the object is made: of a kind, or naught yet, or the cell -/
def ik_sv (ad : Nat → Nat) : Nat ⊕ Option Nat → Value
  | .inl t => if t = 1 then .long 0 else .int 0
  | .inr none => .null
  | .inr (some q) => .ref (ad q)
def ik_setsS (S : List (Nat ⊕ Option Nat)) : List ik_Rw → Nat → List (Nat ⊕ Option Nat)
  | [], _ => S
  | r :: rs, k => ik_setsS (S.set r.2.2.2 (.inr (some k))) rs (k + 1)
theorem ik_sets_S (ad : Nat → Nat) : ∀ (L : List ik_Rw) (S : List (Nat ⊕ Option Nat)) (k : Nat), ik_sets (S.map (ik_sv ad)) L ((List.range' k L.length).map ad) = (ik_setsS S L k).map (ik_sv ad)
  | [], S, k => by simp [ik_sets, ik_setsS]
  | r :: rs, S, k => by
    have h := ik_sets_S ad rs (S.set r.2.2.2 (.inr (some k))) (k + 1)
    rw [List.map_set] at h
    simpa [ik_sets, ik_setsS, List.range'_succ, ik_sv] using h
theorem ik_fv_S (ad : Nat → Nat) (id : Nat) : ∀ (fds : List (Nat ⊕ Nat)) (j : Nat), ik_fv ad gZ id j fds = (fds.map (Sum.map (fun t => t) some)).map (ik_sv ad)
  | [], j => rfl
  | .inl t :: r, j => by
    have h := ik_fv_S ad id r (j + 1)
    simpa [ik_fv, ik_sv, gZ] using h
  | .inr q :: r, j => by
    have h := ik_fv_S ad id r (j + 1)
    simpa [ik_fv, ik_sv, gZ] using h
theorem ik_news_w (ad : Nat → Nat) (cA : Nat → ClassId) : ∀ (L : List ik_Rw) (k : Nat), ik_news cA L ((List.range' k L.length).map ad) = ik_wr ad cA gZ k (L.map fun r => .inl (r.1, r.2.1))
  | [], k => by simp [ik_news, ik_wr]
  | r :: rs, k => by
    have h := ik_news_w ad cA rs (k + 1)
    simp only [List.length_cons, List.range'_succ, List.map_cons, ik_news, ik_wr, h]
    rfl
theorem ik_hW {ci : Nat} {L : List ik_Rw} {fds : List (Nat ⊕ Nat)} {wdC : List ik_CD} {S0 : List (Nat ⊕ Option Nat)} {fs0 : List Value} (h1 : wdC = .inr (ci, fds) :: L.map (fun r => .inl (r.1, r.2.1))) (h2 : ∀ ad, fs0 = S0.map (ik_sv ad)) (h3 : ik_setsS S0 L 1 = fds.map (Sum.map (fun t => t) some)) (ad : Nat → Nat) (cA : Nat → ClassId) :
    ((ad 0, .inr (ci, ik_sets fs0 L ((List.range L.length).map (fun i => ad (i + 1))))) :: ([] ++ ik_news cA L ((List.range L.length).map (fun i => ad (i + 1)))) : va_W) = ik_w wdC ad cA gZ := by
  have e : (List.range L.length).map (fun i => ad (i + 1)) = (List.range' 1 L.length).map ad := by
    rw [List.range'_eq_map_range, List.map_map]
    refine List.map_congr_left fun i _ => ?_
    simp [Nat.add_comm]
  rw [e, h2 ad, ik_sets_S, h3, ik_news_w, ik_w_eq, h1, List.nil_append]
  show _ = (ad 0, ik_ce ad cA gZ 0 (.inr (ci, fds))) :: ik_wr ad cA gZ 1 _
  simp only [ik_ce, ik_fv_S]
def fdM : List (Nat ⊕ Nat) := match wdM with
  | .inr (_, f) :: _ => f
  | _ => []
def svM : List (Nat ⊕ Option Nat) := fdM.map fun q => match q with
  | .inl t => .inl t
  | .inr _ => .inr none
set_option maxRecDepth 100000 in
theorem hW12 (ad : Nat → Nat) (cA : Nat → ClassId) : ((ad 0, .inr (12, ik_sets fsC12 LC12 ((List.range LC12.length).map (fun i => ad (i + 1))))) :: ([] ++ ik_news cA LC12 ((List.range LC12.length).map (fun i => ad (i + 1)))) : va_W) = ik_w wdM ad cA gZ := ik_hW (fds := fdM) (S0 := svM) (by decide +kernel) (fun ad => rfl) (by decide +kernel) ad cA

set_option maxRecDepth 100000 in
set_option maxHeartbeats 4000000 in
theorem okC12 : ik_okN yX12_init cX12_init 2 12 fsC12 [] 1 51 5090 wdM (gW 2 27) :=
  ik_okArr (pcE := 423) (pcR := 445) (oi := 1) (g0 := gZ) LC12 (by decide +kernel) rfl rfl (by decide +kernel) (by decide +kernel) (by decide +kernel) (by decide) (by decide +kernel) LC12_fl (by decide +kernel) (by decide +kernel) (by decide +kernel) hW12 (by rw [gW_0 2]; exact ik_fin10 (b0 := 423) (idx := 13) (j := 12) fl_X12_13 rfl rfl rfl (by decide +kernel) (by decide +kernel) (by decide +kernel) (by decide +kernel) (by decide +kernel) (by decide +kernel) (by decide +kernel) (by decide +kernel) (by decide +kernel) (by decide +kernel) (by decide +kernel) (by decide +kernel)) (by decide +kernel)
