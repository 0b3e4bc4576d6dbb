/-! what an operation answers is an int (a long, for odds) -/
def rI (b : ST) : Prop := ∀ σ v g, b σ = some (.inr (v, g)) → ∃ r : Int32, v = .int r
def rJ (b : ST) : Prop := ∀ σ v g, b σ = some (.inr (v, g)) → ∃ r : Int64, v = .long r
theorem rI_ret (t : Nat) (e) : rI (sRet t e) := by
  intro σ v g h
  simp only [sRet, Option.bind_eq_some_iff] at h
  obtain ⟨q, h1, h2⟩ := h
  split at h2
  · cases h2
    exact ⟨_, rfl⟩
  · cases h2
theorem rJ_ret (e) : rJ (sRetL e) := by
  intro σ v g h
  simp only [sRetL, Option.map_eq_some_iff] at h
  obtain ⟨q, h1, h2⟩ := h
  cases h2
  exact ⟨_, rfl⟩
/-- a step that never comes to the method's end -/
def rN0 (b : ST) : Prop := ∀ σ v g, b σ ≠ some (.inr (v, g))
theorem rN0_skip : rN0 sSkip := by intro σ v g h; simp [sSkip] at h
theorem rN0_set (k e) : rN0 (sSet k e) := by intro σ v g h; simp [sSet] at h
theorem rN0_inc (k v0) : rN0 (sInc k v0) := by intro σ v g h; simp [sInc] at h
theorem rN0_put (o k t e) : rN0 (sPut o k t e) := by
  intro σ v g h
  simp only [sPut, Option.bind_eq_some_iff] at h
  obtain ⟨q, h1, h2⟩ := h
  split at h2 <;> cases h2
theorem rN0_do (f a) : rN0 (sDo f a) := by
  intro σ v g h
  simp only [sDo, Option.bind_eq_some_iff] at h
  obtain ⟨q, h1, r, h2, h3⟩ := h
  split at h3 <;> cases h3
theorem rN0.i {b : ST} (h : rN0 b) : rI b := fun σ v g e => absurd e (h σ v g)
theorem rN0.j {b : ST} (h : rN0 b) : rJ b := fun σ v g e => absurd e (h σ v g)
theorem rI_seq {a b : ST} (ha : rI a) (hb : rI b) : rI (sSeq a b) := by
  intro σ v g h
  simp only [sSeq, Option.bind_eq_some_iff] at h
  obtain ⟨o, h1, h2⟩ := h
  cases o with
  | inl σ' => exact hb _ _ _ h2
  | inr r =>
    cases h2
    exact ha _ _ _ h1
theorem rJ_seq {a b : ST} (ha : rJ a) (hb : rJ b) : rJ (sSeq a b) := by
  intro σ v g h
  simp only [sSeq, Option.bind_eq_some_iff] at h
  obtain ⟨o, h1, h2⟩ := h
  cases o with
  | inl σ' => exact hb _ _ _ h2
  | inr r =>
    cases h2
    exact ha _ _ _ h1
theorem rI_if {c} {a b : ST} (ha : rI a) (hb : rI b) : rI (sIf c a b) := by
  intro σ v g h
  simp only [sIf, Option.bind_eq_some_iff] at h
  obtain ⟨q, h1, h2⟩ := h
  split at h2
  · exact ha _ _ _ h2
  · exact hb _ _ _ h2
theorem rJ_if {c} {a b : ST} (ha : rJ a) (hb : rJ b) : rJ (sIf c a b) := by
  intro σ v g h
  simp only [sIf, Option.bind_eq_some_iff] at h
  obtain ⟨q, h1, h2⟩ := h
  split at h2
  · exact ha _ _ _ h2
  · exact hb _ _ _ h2
theorem rI_wh {c} {b : ST} (hb : rI b) : ∀ n, rI (sWh c b n)
  | 0, σ, v, g, h => by simp [sWh] at h
  | n + 1, σ, v, g, h => by
    simp only [sWh, Option.bind_eq_some_iff] at h
    obtain ⟨q, h1, h2⟩ := h
    split at h2
    · simp only [Option.bind_eq_some_iff] at h2
      obtain ⟨o, h3, h4⟩ := h2
      cases o with
      | inl σ' => exact rI_wh hb n _ _ _ h4
      | inr r =>
        cases h4
        exact hb _ _ _ h3
    · cases h2
theorem rI_dead {b : ST} (hb : rI b) : rI (sDead b) := by
  intro σ v g h
  simp only [sDead, Option.bind_eq_some_iff] at h
  obtain ⟨o, h1, h2⟩ := h
  cases o with
  | inl σ' => cases h2
  | inr r =>
    cases h2
    exact hb _ _ _ h1
theorem rI_sw {e} {f : Int32 → ST} (h : ∀ x, rI (f x)) : rI (sSw e f) := by
  intro σ v g h1
  simp only [sSw, Option.bind_eq_some_iff] at h1
  obtain ⟨q, h2, h3⟩ := h1
  exact h _ _ _ _ h3
theorem rI_pick {cs : List (Int32 × ST)} {d : ST} (h : ∀ c ∈ cs, rI c.2) (hd : rI d) (x : Int32) : rI (ik_pickS cs d x) := by
  unfold ik_pickS
  split
  · rename_i c hc
    exact h c (List.mem_of_find?_eq_some hc)
  · exact hd
theorem rI_body {sig : ik_sg} {b : ST} (h : rI b) (vs : List Value) (g : GG) (v : Value) (g' : GG) (e : sBody sig b vs g = some (v, g')) : ∃ r : Int32, v = .int r := by
  simp only [sBody, Option.bind_eq_some_iff] at e
  obtain ⟨o, h1, h2⟩ := e
  cases o with
  | inl σ' => cases h2
  | inr r =>
    cases h2
    exact h _ _ _ h1
theorem rJ_body {sig : ik_sg} {b : ST} (h : rJ b) (vs : List Value) (g : GG) (v : Value) (g' : GG) (e : sBody sig b vs g = some (v, g')) : ∃ r : Int64, v = .long r := by
  simp only [sBody, Option.bind_eq_some_iff] at e
  obtain ⟨o, h1, h2⟩ := e
  cases o with
  | inl σ' => cases h2
  | inr r =>
    cases h2
    exact h _ _ _ h1
theorem shX_width (vs : List Value) (g : GG) (v : Value) (g' : GG) (e : fX11_width vs g = some (v, g')) : ∃ r : Int32, v = .int r := by
  unfold fX11_width at e
  refine rI_body ?_ vs g v g' e
  repeat' first | with_reducible exact rI_ret _ _ | with_reducible exact rN0_skip.i | with_reducible exact (rN0_set _ _).i | with_reducible exact (rN0_inc _ _).i | with_reducible exact (rN0_put _ _ _ _).i | with_reducible exact (rN0_do _ _).i | with_reducible refine rI_seq ?_ ?_ | with_reducible refine rI_if ?_ ?_ | with_reducible refine rI_wh ?_ _ | with_reducible refine rI_dead ?_ | with_reducible refine rI_sw (rI_pick ?_ ?_) | exact fun _ h => absurd h List.not_mem_nil | refine List.forall_mem_cons.mpr ⟨?_, ?_⟩
theorem shX_joined (vs : List Value) (g : GG) (v : Value) (g' : GG) (e : fX11_joined vs g = some (v, g')) : ∃ r : Int32, v = .int r := by
  unfold fX11_joined at e
  refine rI_body ?_ vs g v g' e
  repeat' first | with_reducible exact rI_ret _ _ | with_reducible exact rN0_skip.i | with_reducible exact (rN0_set _ _).i | with_reducible exact (rN0_inc _ _).i | with_reducible exact (rN0_put _ _ _ _).i | with_reducible exact (rN0_do _ _).i | with_reducible refine rI_seq ?_ ?_ | with_reducible refine rI_if ?_ ?_ | with_reducible refine rI_wh ?_ _ | with_reducible refine rI_dead ?_ | with_reducible refine rI_sw (rI_pick ?_ ?_) | exact fun _ h => absurd h List.not_mem_nil | refine List.forall_mem_cons.mpr ⟨?_, ?_⟩
theorem shX_feed (vs : List Value) (g : GG) (v : Value) (g' : GG) (e : fX11_feed vs g = some (v, g')) : ∃ r : Int32, v = .int r := by
  unfold fX11_feed at e
  refine rI_body ?_ vs g v g' e
  repeat' first | with_reducible exact rI_ret _ _ | with_reducible exact rN0_skip.i | with_reducible exact (rN0_set _ _).i | with_reducible exact (rN0_inc _ _).i | with_reducible exact (rN0_put _ _ _ _).i | with_reducible exact (rN0_do _ _).i | with_reducible refine rI_seq ?_ ?_ | with_reducible refine rI_if ?_ ?_ | with_reducible refine rI_wh ?_ _ | with_reducible refine rI_dead ?_ | with_reducible refine rI_sw (rI_pick ?_ ?_) | exact fun _ h => absurd h List.not_mem_nil | refine List.forall_mem_cons.mpr ⟨?_, ?_⟩
theorem shX_name (vs : List Value) (g : GG) (v : Value) (g' : GG) (e : fX11_name vs g = some (v, g')) : ∃ r : Int32, v = .int r := by
  unfold fX11_name at e
  refine rI_body ?_ vs g v g' e
  repeat' first | with_reducible exact rI_ret _ _ | with_reducible exact rN0_skip.i | with_reducible exact (rN0_set _ _).i | with_reducible exact (rN0_inc _ _).i | with_reducible exact (rN0_put _ _ _ _).i | with_reducible exact (rN0_do _ _).i | with_reducible refine rI_seq ?_ ?_ | with_reducible refine rI_if ?_ ?_ | with_reducible refine rI_wh ?_ _ | with_reducible refine rI_dead ?_ | with_reducible refine rI_sw (rI_pick ?_ ?_) | exact fun _ h => absurd h List.not_mem_nil | refine List.forall_mem_cons.mpr ⟨?_, ?_⟩
theorem shX_wide (vs : List Value) (g : GG) (v : Value) (g' : GG) (e : fX11_wide vs g = some (v, g')) : ∃ r : Int32, v = .int r := by
  unfold fX11_wide at e
  refine rI_body ?_ vs g v g' e
  repeat' first | with_reducible exact rI_ret _ _ | with_reducible exact rN0_skip.i | with_reducible exact (rN0_set _ _).i | with_reducible exact (rN0_inc _ _).i | with_reducible exact (rN0_put _ _ _ _).i | with_reducible exact (rN0_do _ _).i | with_reducible refine rI_seq ?_ ?_ | with_reducible refine rI_if ?_ ?_ | with_reducible refine rI_wh ?_ _ | with_reducible refine rI_dead ?_ | with_reducible refine rI_sw (rI_pick ?_ ?_) | exact fun _ h => absurd h List.not_mem_nil | refine List.forall_mem_cons.mpr ⟨?_, ?_⟩
theorem shX_bar (vs : List Value) (g : GG) (v : Value) (g' : GG) (e : fX11_bar vs g = some (v, g')) : ∃ r : Int32, v = .int r := by
  unfold fX11_bar at e
  refine rI_body ?_ vs g v g' e
  repeat' first | with_reducible exact rI_ret _ _ | with_reducible exact rN0_skip.i | with_reducible exact (rN0_set _ _).i | with_reducible exact (rN0_inc _ _).i | with_reducible exact (rN0_put _ _ _ _).i | with_reducible exact (rN0_do _ _).i | with_reducible refine rI_seq ?_ ?_ | with_reducible refine rI_if ?_ ?_ | with_reducible refine rI_wh ?_ _ | with_reducible refine rI_dead ?_ | with_reducible refine rI_sw (rI_pick ?_ ?_) | exact fun _ h => absurd h List.not_mem_nil | refine List.forall_mem_cons.mpr ⟨?_, ?_⟩
theorem shX_sheet (vs : List Value) (g : GG) (v : Value) (g' : GG) (e : fX11_sheet vs g = some (v, g')) : ∃ r : Int32, v = .int r := by
  unfold fX11_sheet at e
  refine rI_body ?_ vs g v g' e
  repeat' first | with_reducible exact rI_ret _ _ | with_reducible exact rN0_skip.i | with_reducible exact (rN0_set _ _).i | with_reducible exact (rN0_inc _ _).i | with_reducible exact (rN0_put _ _ _ _).i | with_reducible exact (rN0_do _ _).i | with_reducible refine rI_seq ?_ ?_ | with_reducible refine rI_if ?_ ?_ | with_reducible refine rI_wh ?_ _ | with_reducible refine rI_dead ?_ | with_reducible refine rI_sw (rI_pick ?_ ?_) | exact fun _ h => absurd h List.not_mem_nil | refine List.forall_mem_cons.mpr ⟨?_, ?_⟩
theorem shX_rules (vs : List Value) (g : GG) (v : Value) (g' : GG) (e : fX11_rules vs g = some (v, g')) : ∃ r : Int32, v = .int r := by
  unfold fX11_rules at e
  refine rI_body ?_ vs g v g' e
  repeat' first | with_reducible exact rI_ret _ _ | with_reducible exact rN0_skip.i | with_reducible exact (rN0_set _ _).i | with_reducible exact (rN0_inc _ _).i | with_reducible exact (rN0_put _ _ _ _).i | with_reducible exact (rN0_do _ _).i | with_reducible refine rI_seq ?_ ?_ | with_reducible refine rI_if ?_ ?_ | with_reducible refine rI_wh ?_ _ | with_reducible refine rI_dead ?_ | with_reducible refine rI_sw (rI_pick ?_ ?_) | exact fun _ h => absurd h List.not_mem_nil | refine List.forall_mem_cons.mpr ⟨?_, ?_⟩
theorem shX_tie (vs : List Value) (g : GG) (v : Value) (g' : GG) (e : fX11_tie vs g = some (v, g')) : ∃ r : Int32, v = .int r := by
  unfold fX11_tie at e
  refine rI_body ?_ vs g v g' e
  repeat' first | with_reducible exact rI_ret _ _ | with_reducible exact rN0_skip.i | with_reducible exact (rN0_set _ _).i | with_reducible exact (rN0_inc _ _).i | with_reducible exact (rN0_put _ _ _ _).i | with_reducible exact (rN0_do _ _).i | with_reducible refine rI_seq ?_ ?_ | with_reducible refine rI_if ?_ ?_ | with_reducible refine rI_wh ?_ _ | with_reducible refine rI_dead ?_ | with_reducible refine rI_sw (rI_pick ?_ ?_) | exact fun _ h => absurd h List.not_mem_nil | refine List.forall_mem_cons.mpr ⟨?_, ?_⟩
theorem shX_listed (vs : List Value) (g : GG) (v : Value) (g' : GG) (e : fX11_listed vs g = some (v, g')) : ∃ r : Int32, v = .int r := by
  unfold fX11_listed at e
  refine rI_body ?_ vs g v g' e
  repeat' first | with_reducible exact rI_ret _ _ | with_reducible exact rN0_skip.i | with_reducible exact (rN0_set _ _).i | with_reducible exact (rN0_inc _ _).i | with_reducible exact (rN0_put _ _ _ _).i | with_reducible exact (rN0_do _ _).i | with_reducible refine rI_seq ?_ ?_ | with_reducible refine rI_if ?_ ?_ | with_reducible refine rI_wh ?_ _ | with_reducible refine rI_dead ?_ | with_reducible refine rI_sw (rI_pick ?_ ?_) | exact fun _ h => absurd h List.not_mem_nil | refine List.forall_mem_cons.mpr ⟨?_, ?_⟩
theorem shX_lifted (vs : List Value) (g : GG) (v : Value) (g' : GG) (e : fX11_lifted vs g = some (v, g')) : ∃ r : Int32, v = .int r := by
  unfold fX11_lifted at e
  refine rI_body ?_ vs g v g' e
  repeat' first | with_reducible exact rI_ret _ _ | with_reducible exact rN0_skip.i | with_reducible exact (rN0_set _ _).i | with_reducible exact (rN0_inc _ _).i | with_reducible exact (rN0_put _ _ _ _).i | with_reducible exact (rN0_do _ _).i | with_reducible refine rI_seq ?_ ?_ | with_reducible refine rI_if ?_ ?_ | with_reducible refine rI_wh ?_ _ | with_reducible refine rI_dead ?_ | with_reducible refine rI_sw (rI_pick ?_ ?_) | exact fun _ h => absurd h List.not_mem_nil | refine List.forall_mem_cons.mpr ⟨?_, ?_⟩
theorem shX_habit (vs : List Value) (g : GG) (v : Value) (g' : GG) (e : fX11_habit vs g = some (v, g')) : ∃ r : Int32, v = .int r := by
  unfold fX11_habit at e
  refine rI_body ?_ vs g v g' e
  repeat' first | with_reducible exact rI_ret _ _ | with_reducible exact rN0_skip.i | with_reducible exact (rN0_set _ _).i | with_reducible exact (rN0_inc _ _).i | with_reducible exact (rN0_put _ _ _ _).i | with_reducible exact (rN0_do _ _).i | with_reducible refine rI_seq ?_ ?_ | with_reducible refine rI_if ?_ ?_ | with_reducible refine rI_wh ?_ _ | with_reducible refine rI_dead ?_ | with_reducible refine rI_sw (rI_pick ?_ ?_) | exact fun _ h => absurd h List.not_mem_nil | refine List.forall_mem_cons.mpr ⟨?_, ?_⟩
theorem shX_house (vs : List Value) (g : GG) (v : Value) (g' : GG) (e : fX11_house vs g = some (v, g')) : ∃ r : Int32, v = .int r := by
  unfold fX11_house at e
  refine rI_body ?_ vs g v g' e
  repeat' first | with_reducible exact rI_ret _ _ | with_reducible exact rN0_skip.i | with_reducible exact (rN0_set _ _).i | with_reducible exact (rN0_inc _ _).i | with_reducible exact (rN0_put _ _ _ _).i | with_reducible exact (rN0_do _ _).i | with_reducible refine rI_seq ?_ ?_ | with_reducible refine rI_if ?_ ?_ | with_reducible refine rI_wh ?_ _ | with_reducible refine rI_dead ?_ | with_reducible refine rI_sw (rI_pick ?_ ?_) | exact fun _ h => absurd h List.not_mem_nil | refine List.forall_mem_cons.mpr ⟨?_, ?_⟩
theorem shX_against (vs : List Value) (g : GG) (v : Value) (g' : GG) (e : fX11_against vs g = some (v, g')) : ∃ r : Int32, v = .int r := by
  unfold fX11_against at e
  refine rI_body ?_ vs g v g' e
  repeat' first | with_reducible exact rI_ret _ _ | with_reducible exact rN0_skip.i | with_reducible exact (rN0_set _ _).i | with_reducible exact (rN0_inc _ _).i | with_reducible exact (rN0_put _ _ _ _).i | with_reducible exact (rN0_do _ _).i | with_reducible refine rI_seq ?_ ?_ | with_reducible refine rI_if ?_ ?_ | with_reducible refine rI_wh ?_ _ | with_reducible refine rI_dead ?_ | with_reducible refine rI_sw (rI_pick ?_ ?_) | exact fun _ h => absurd h List.not_mem_nil | refine List.forall_mem_cons.mpr ⟨?_, ?_⟩
theorem shX_judge (vs : List Value) (g : GG) (v : Value) (g' : GG) (e : fX11_judge vs g = some (v, g')) : ∃ r : Int32, v = .int r := by
  unfold fX11_judge at e
  refine rI_body ?_ vs g v g' e
  repeat' first | with_reducible exact rI_ret _ _ | with_reducible exact rN0_skip.i | with_reducible exact (rN0_set _ _).i | with_reducible exact (rN0_inc _ _).i | with_reducible exact (rN0_put _ _ _ _).i | with_reducible exact (rN0_do _ _).i | with_reducible refine rI_seq ?_ ?_ | with_reducible refine rI_if ?_ ?_ | with_reducible refine rI_wh ?_ _ | with_reducible refine rI_dead ?_ | with_reducible refine rI_sw (rI_pick ?_ ?_) | exact fun _ h => absurd h List.not_mem_nil | refine List.forall_mem_cons.mpr ⟨?_, ?_⟩
theorem shX_line (vs : List Value) (g : GG) (v : Value) (g' : GG) (e : fX11_line vs g = some (v, g')) : ∃ r : Int32, v = .int r := by
  unfold fX11_line at e
  refine rI_body ?_ vs g v g' e
  repeat' first | with_reducible exact rI_ret _ _ | with_reducible exact rN0_skip.i | with_reducible exact (rN0_set _ _).i | with_reducible exact (rN0_inc _ _).i | with_reducible exact (rN0_put _ _ _ _).i | with_reducible exact (rN0_do _ _).i | with_reducible refine rI_seq ?_ ?_ | with_reducible refine rI_if ?_ ?_ | with_reducible refine rI_wh ?_ _ | with_reducible refine rI_dead ?_ | with_reducible refine rI_sw (rI_pick ?_ ?_) | exact fun _ h => absurd h List.not_mem_nil | refine List.forall_mem_cons.mpr ⟨?_, ?_⟩
theorem shX_fillings (vs : List Value) (g : GG) (v : Value) (g' : GG) (e : fX11_fillings vs g = some (v, g')) : ∃ r : Int32, v = .int r := by
  unfold fX11_fillings at e
  refine rI_body ?_ vs g v g' e
  repeat' first | with_reducible exact rI_ret _ _ | with_reducible exact rN0_skip.i | with_reducible exact (rN0_set _ _).i | with_reducible exact (rN0_inc _ _).i | with_reducible exact (rN0_put _ _ _ _).i | with_reducible exact (rN0_do _ _).i | with_reducible refine rI_seq ?_ ?_ | with_reducible refine rI_if ?_ ?_ | with_reducible refine rI_wh ?_ _ | with_reducible refine rI_dead ?_ | with_reducible refine rI_sw (rI_pick ?_ ?_) | exact fun _ h => absurd h List.not_mem_nil | refine List.forall_mem_cons.mpr ⟨?_, ?_⟩
theorem shX_may (vs : List Value) (g : GG) (v : Value) (g' : GG) (e : fX11_may vs g = some (v, g')) : ∃ r : Int32, v = .int r := by
  unfold fX11_may at e
  refine rI_body ?_ vs g v g' e
  repeat' first | with_reducible exact rI_ret _ _ | with_reducible exact rN0_skip.i | with_reducible exact (rN0_set _ _).i | with_reducible exact (rN0_inc _ _).i | with_reducible exact (rN0_put _ _ _ _).i | with_reducible exact (rN0_do _ _).i | with_reducible refine rI_seq ?_ ?_ | with_reducible refine rI_if ?_ ?_ | with_reducible refine rI_wh ?_ _ | with_reducible refine rI_dead ?_ | with_reducible refine rI_sw (rI_pick ?_ ?_) | exact fun _ h => absurd h List.not_mem_nil | refine List.forall_mem_cons.mpr ⟨?_, ?_⟩
theorem shX_odds (vs : List Value) (g : GG) (v : Value) (g' : GG) (e : fX11_odds vs g = some (v, g')) : ∃ r : Int64, v = .long r := by
  unfold fX11_odds at e
  refine rJ_body ?_ vs g v g' e
  repeat' first | with_reducible exact rJ_ret _ | with_reducible exact rN0_skip.j | with_reducible exact (rN0_set _ _).j | with_reducible exact (rN0_do _ _).j | with_reducible refine rJ_seq ?_ ?_ | with_reducible refine rJ_if ?_ ?_
theorem shX_given (vs : List Value) (g : GG) (v : Value) (g' : GG) (e : fX11_given vs g = some (v, g')) : ∃ r : Int32, v = .int r := by
  unfold fX11_given at e
  refine rI_body ?_ vs g v g' e
  repeat' first | with_reducible exact rI_ret _ _ | with_reducible exact rN0_skip.i | with_reducible exact (rN0_set _ _).i | with_reducible exact (rN0_inc _ _).i | with_reducible exact (rN0_put _ _ _ _).i | with_reducible exact (rN0_do _ _).i | with_reducible refine rI_seq ?_ ?_ | with_reducible refine rI_if ?_ ?_ | with_reducible refine rI_wh ?_ _ | with_reducible refine rI_dead ?_ | with_reducible refine rI_sw (rI_pick ?_ ?_) | exact fun _ h => absurd h List.not_mem_nil | refine List.forall_mem_cons.mpr ⟨?_, ?_⟩
theorem shX_kept (vs : List Value) (g : GG) (v : Value) (g' : GG) (e : fX11_kept vs g = some (v, g')) : ∃ r : Int32, v = .int r := by
  unfold fX11_kept at e
  refine rI_body ?_ vs g v g' e
  repeat' first | with_reducible exact rI_ret _ _ | with_reducible exact rN0_skip.i | with_reducible exact (rN0_set _ _).i | with_reducible exact (rN0_inc _ _).i | with_reducible exact (rN0_put _ _ _ _).i | with_reducible exact (rN0_do _ _).i | with_reducible refine rI_seq ?_ ?_ | with_reducible refine rI_if ?_ ?_ | with_reducible refine rI_wh ?_ _ | with_reducible refine rI_dead ?_ | with_reducible refine rI_sw (rI_pick ?_ ?_) | exact fun _ h => absurd h List.not_mem_nil | refine List.forall_mem_cons.mpr ⟨?_, ?_⟩
theorem shX_said (vs : List Value) (g : GG) (v : Value) (g' : GG) (e : fX11_said vs g = some (v, g')) : ∃ r : Int32, v = .int r := by
  unfold fX11_said at e
  refine rI_body ?_ vs g v g' e
  repeat' first | with_reducible exact rI_ret _ _ | with_reducible exact rN0_skip.i | with_reducible exact (rN0_set _ _).i | with_reducible exact (rN0_inc _ _).i | with_reducible exact (rN0_put _ _ _ _).i | with_reducible exact (rN0_do _ _).i | with_reducible refine rI_seq ?_ ?_ | with_reducible refine rI_if ?_ ?_ | with_reducible refine rI_wh ?_ _ | with_reducible refine rI_dead ?_ | with_reducible refine rI_sw (rI_pick ?_ ?_) | exact fun _ h => absurd h List.not_mem_nil | refine List.forall_mem_cons.mpr ⟨?_, ?_⟩
theorem shX_copy (vs : List Value) (g : GG) (v : Value) (g' : GG) (e : fX11_copy vs g = some (v, g')) : ∃ r : Int32, v = .int r := by
  unfold fX11_copy at e
  refine rI_body ?_ vs g v g' e
  repeat' first | with_reducible exact rI_ret _ _ | with_reducible exact rN0_skip.i | with_reducible exact (rN0_set _ _).i | with_reducible exact (rN0_inc _ _).i | with_reducible exact (rN0_put _ _ _ _).i | with_reducible exact (rN0_do _ _).i | with_reducible refine rI_seq ?_ ?_ | with_reducible refine rI_if ?_ ?_ | with_reducible refine rI_wh ?_ _ | with_reducible refine rI_dead ?_ | with_reducible refine rI_sw (rI_pick ?_ ?_) | exact fun _ h => absurd h List.not_mem_nil | refine List.forall_mem_cons.mpr ⟨?_, ?_⟩
theorem shX_open (vs : List Value) (g : GG) (v : Value) (g' : GG) (e : fX11_open vs g = some (v, g')) : ∃ r : Int32, v = .int r := by
  unfold fX11_open at e
  refine rI_body ?_ vs g v g' e
  repeat' first | with_reducible exact rI_ret _ _ | with_reducible exact rN0_skip.i | with_reducible exact (rN0_set _ _).i | with_reducible exact (rN0_inc _ _).i | with_reducible exact (rN0_put _ _ _ _).i | with_reducible exact (rN0_do _ _).i | with_reducible refine rI_seq ?_ ?_ | with_reducible refine rI_if ?_ ?_ | with_reducible refine rI_wh ?_ _ | with_reducible refine rI_dead ?_ | with_reducible refine rI_sw (rI_pick ?_ ?_) | exact fun _ h => absurd h List.not_mem_nil | refine List.forall_mem_cons.mpr ⟨?_, ?_⟩
theorem shX_needless (vs : List Value) (g : GG) (v : Value) (g' : GG) (e : fX11_needless vs g = some (v, g')) : ∃ r : Int32, v = .int r := by
  unfold fX11_needless at e
  refine rI_body ?_ vs g v g' e
  repeat' first | with_reducible exact rI_ret _ _ | with_reducible exact rN0_skip.i | with_reducible exact (rN0_set _ _).i | with_reducible exact (rN0_inc _ _).i | with_reducible exact (rN0_put _ _ _ _).i | with_reducible exact (rN0_do _ _).i | with_reducible refine rI_seq ?_ ?_ | with_reducible refine rI_if ?_ ?_ | with_reducible refine rI_wh ?_ _ | with_reducible refine rI_dead ?_ | with_reducible refine rI_sw (rI_pick ?_ ?_) | exact fun _ h => absurd h List.not_mem_nil | refine List.forall_mem_cons.mpr ⟨?_, ?_⟩
theorem shX_since (vs : List Value) (g : GG) (v : Value) (g' : GG) (e : fX11_since vs g = some (v, g')) : ∃ r : Int32, v = .int r := by
  unfold fX11_since at e
  refine rI_body ?_ vs g v g' e
  repeat' first | with_reducible exact rI_ret _ _ | with_reducible exact rN0_skip.i | with_reducible exact (rN0_set _ _).i | with_reducible exact (rN0_inc _ _).i | with_reducible exact (rN0_put _ _ _ _).i | with_reducible exact (rN0_do _ _).i | with_reducible refine rI_seq ?_ ?_ | with_reducible refine rI_if ?_ ?_ | with_reducible refine rI_wh ?_ _ | with_reducible refine rI_dead ?_ | with_reducible refine rI_sw (rI_pick ?_ ?_) | exact fun _ h => absurd h List.not_mem_nil | refine List.forall_mem_cons.mpr ⟨?_, ?_⟩
theorem shX_twice (vs : List Value) (g : GG) (v : Value) (g' : GG) (e : fX11_twice vs g = some (v, g')) : ∃ r : Int32, v = .int r := by
  unfold fX11_twice at e
  refine rI_body ?_ vs g v g' e
  repeat' first | with_reducible exact rI_ret _ _ | with_reducible exact rN0_skip.i | with_reducible exact (rN0_set _ _).i | with_reducible exact (rN0_inc _ _).i | with_reducible exact (rN0_put _ _ _ _).i | with_reducible exact (rN0_do _ _).i | with_reducible refine rI_seq ?_ ?_ | with_reducible refine rI_if ?_ ?_ | with_reducible refine rI_wh ?_ _ | with_reducible refine rI_dead ?_ | with_reducible refine rI_sw (rI_pick ?_ ?_) | exact fun _ h => absurd h List.not_mem_nil | refine List.forall_mem_cons.mpr ⟨?_, ?_⟩
theorem shX_stricter (vs : List Value) (g : GG) (v : Value) (g' : GG) (e : fX11_stricter vs g = some (v, g')) : ∃ r : Int32, v = .int r := by
  unfold fX11_stricter at e
  refine rI_body ?_ vs g v g' e
  repeat' first | with_reducible exact rI_ret _ _ | with_reducible exact rN0_skip.i | with_reducible exact (rN0_set _ _).i | with_reducible exact (rN0_inc _ _).i | with_reducible exact (rN0_put _ _ _ _).i | with_reducible exact (rN0_do _ _).i | with_reducible refine rI_seq ?_ ?_ | with_reducible refine rI_if ?_ ?_ | with_reducible refine rI_wh ?_ _ | with_reducible refine rI_dead ?_ | with_reducible refine rI_sw (rI_pick ?_ ?_) | exact fun _ h => absurd h List.not_mem_nil | refine List.forall_mem_cons.mpr ⟨?_, ?_⟩
theorem shX_note (vs : List Value) (g : GG) (v : Value) (g' : GG) (e : fX11_note vs g = some (v, g')) : ∃ r : Int32, v = .int r := by
  unfold fX11_note at e
  refine rI_body ?_ vs g v g' e
  repeat' first | with_reducible exact rI_ret _ _ | with_reducible exact rN0_skip.i | with_reducible exact (rN0_set _ _).i | with_reducible exact (rN0_inc _ _).i | with_reducible exact (rN0_put _ _ _ _).i | with_reducible exact (rN0_do _ _).i | with_reducible refine rI_seq ?_ ?_ | with_reducible refine rI_if ?_ ?_ | with_reducible refine rI_wh ?_ _ | with_reducible refine rI_dead ?_ | with_reducible refine rI_sw (rI_pick ?_ ?_) | exact fun _ h => absurd h List.not_mem_nil | refine List.forall_mem_cons.mpr ⟨?_, ?_⟩
theorem shX_missing (vs : List Value) (g : GG) (v : Value) (g' : GG) (e : fX11_missing vs g = some (v, g')) : ∃ r : Int32, v = .int r := by
  unfold fX11_missing at e
  refine rI_body ?_ vs g v g' e
  repeat' first | with_reducible exact rI_ret _ _ | with_reducible exact rN0_skip.i | with_reducible exact (rN0_set _ _).i | with_reducible exact (rN0_inc _ _).i | with_reducible exact (rN0_put _ _ _ _).i | with_reducible exact (rN0_do _ _).i | with_reducible refine rI_seq ?_ ?_ | with_reducible refine rI_if ?_ ?_ | with_reducible refine rI_wh ?_ _ | with_reducible refine rI_dead ?_ | with_reducible refine rI_sw (rI_pick ?_ ?_) | exact fun _ h => absurd h List.not_mem_nil | refine List.forall_mem_cons.mpr ⟨?_, ?_⟩
theorem shX_check (vs : List Value) (g : GG) (v : Value) (g' : GG) (e : fX11_check vs g = some (v, g')) : ∃ r : Int32, v = .int r := by
  unfold fX11_check at e
  refine rI_body ?_ vs g v g' e
  repeat' first | with_reducible exact rI_ret _ _ | with_reducible exact rN0_skip.i | with_reducible exact (rN0_set _ _).i | with_reducible exact (rN0_inc _ _).i | with_reducible exact (rN0_put _ _ _ _).i | with_reducible exact (rN0_do _ _).i | with_reducible refine rI_seq ?_ ?_ | with_reducible refine rI_if ?_ ?_ | with_reducible refine rI_wh ?_ _ | with_reducible refine rI_dead ?_ | with_reducible refine rI_sw (rI_pick ?_ ?_) | exact fun _ h => absurd h List.not_mem_nil | refine List.forall_mem_cons.mpr ⟨?_, ?_⟩
theorem shX_count (vs : List Value) (g : GG) (v : Value) (g' : GG) (e : fX11_count vs g = some (v, g')) : ∃ r : Int32, v = .int r := by
  unfold fX11_count at e
  refine rI_body ?_ vs g v g' e
  repeat' first | with_reducible exact rI_ret _ _ | with_reducible exact rN0_skip.i | with_reducible exact (rN0_set _ _).i | with_reducible exact (rN0_inc _ _).i | with_reducible exact (rN0_put _ _ _ _).i | with_reducible exact (rN0_do _ _).i | with_reducible refine rI_seq ?_ ?_ | with_reducible refine rI_if ?_ ?_ | with_reducible refine rI_wh ?_ _ | with_reducible refine rI_dead ?_ | with_reducible refine rI_sw (rI_pick ?_ ?_) | exact fun _ h => absurd h List.not_mem_nil | refine List.forall_mem_cons.mpr ⟨?_, ?_⟩
