/-! kept: the reference -/
def slk (m : GG) (u : Nat → Nat) (k : Nat) : Int32 := m.1 10 k - ik_nw m (u k)
/-- the widest slack, 0 at least -/
def ndI (s : Nat → Int32) : Nat → Int32
  | 0 => 0
  | k + 1 => if ndI s k < s k then s k else ndI s k
theorem ndI_le {s : Nat → Int32} {x : Int32} : ∀ {k : Nat}, ndI s k ≤ x ↔ (0 ≤ x ∧ ∀ j, j < k → s j ≤ x)
  | 0 => ⟨fun h => ⟨h, fun j hj => absurd hj (Nat.not_lt_zero _)⟩, fun h => h.1⟩
  | k + 1 => by
    have ih := ndI_le (s := s) (x := x) (k := k)
    show (if ndI s k < s k then s k else ndI s k) ≤ x ↔ _
    constructor
    · intro h
      have h1 : ndI s k ≤ x ∧ s k ≤ x := by
        by_cases c : ndI s k < s k
        · rw [if_pos c] at h
          exact ⟨Int32.le_trans (Int32.le_of_lt c) h, h⟩
        · rw [if_neg c] at h
          exact ⟨h, Int32.le_trans (Int32.not_lt.mp c) h⟩
      obtain ⟨a, b⟩ := ih.mp h1.1
      refine ⟨a, fun j hj => ?_⟩
      by_cases e : j = k
      · subst e; exact h1.2
      · exact b j (by omega)
    · rintro ⟨a, b⟩
      have h1 := ih.mpr ⟨a, fun j hj => b j (by omega)⟩
      split
      · exact b k (Nat.lt_succ_self _)
      · exact h1
/-- whether a row counts, whatever the habit up to 200 -/
def okK (m : GG) (B S T n : Nat) (L : List (Nat × RC)) (u : Nat → Nat) : Prop := (∀ k, k < B → nI (agB m S n L k (u k)) = 0) ∧ (∀ k, k < B → 0 ≤ slk m u k) ∧ ndI (slk m u) B ≤ 200 ∧ tiA m u T = false ∧ otA m u S = false
theorem FB_K {m : GG} {B S T n : Nat} {L : List (Nat × RC)} {u : Nat → Nat} {hi : Int32} (h0 : 0 ≤ hi) (h2 : hi ≤ 200) : FB B S T m (ftK m S n L hi) true true u = true ↔ (okK m B S T n L u ∧ ndI (slk m u) B ≤ hi) := by
  unfold FB
  rw [clB_iff]
  constructor
  · rintro ⟨a, b, c⟩
    have a' := fun k hk => ftK_iff.mp (a k hk)
    have le : ndI (slk m u) B ≤ hi := ndI_le.mpr ⟨h0, fun j hj => (a' j hj).2.2⟩
    exact ⟨⟨fun k hk => (a' k hk).1, fun k hk => (a' k hk).2.1, Int32.le_trans le h2, b rfl, c rfl⟩, le⟩
  · rintro ⟨⟨a, b, -, c, d⟩, e⟩
    refine ⟨fun k hk => ftK_iff.mpr ⟨a k hk, b k hk, (ndI_le.mp e).2 k hk⟩, fun _ => c, fun _ => d⟩
/-- the least habit by the first r rows that lets name i stand under bar k -/
noncomputable def LH (N B S T n : Nat) (m : GG) (L : List (Nat × RC)) (k i : Nat) : Nat → Int32
  | 0 => 201
  | r + 1 => if clB (okK m B S T n L (row N B r) ∧ row N B r k = i ∧ ndI (slk m (row N B r)) B < LH N B S T n m L k i r) = true then ndI (slk m (row N B r)) B else LH N B S T n m L k i r
theorem LH_le {N B S T n k i : Nat} {m : GG} {L : List (Nat × RC)} {x : Int32} (hx : x ≤ 200) : ∀ {r : Nat}, LH N B S T n m L k i r ≤ x ↔ ∃ r', r' < r ∧ okK m B S T n L (row N B r') ∧ row N B r' k = i ∧ ndI (slk m (row N B r')) B ≤ x
  | 0 => by
    constructor
    · intro h
      have : (201 : Int32) ≤ 200 := Int32.le_trans h hx
      exact absurd this (by decide)
    · rintro ⟨r', h, -⟩
      exact absurd h (Nat.not_lt_zero _)
  | r + 1 => by
    have ih := LH_le (N := N) (B := B) (S := S) (T := T) (n := n) (k := k) (i := i) (m := m) (L := L) hx (r := r)
    have e : LH N B S T n m L k i (r + 1) = if clB (okK m B S T n L (row N B r) ∧ row N B r k = i ∧ ndI (slk m (row N B r)) B < LH N B S T n m L k i r) = true then ndI (slk m (row N B r)) B else LH N B S T n m L k i r := rfl
    rw [e]
    constructor
    · intro h
      by_cases c : okK m B S T n L (row N B r) ∧ row N B r k = i ∧ ndI (slk m (row N B r)) B < LH N B S T n m L k i r
      · rw [if_pos (clB_iff.mpr c)] at h
        exact ⟨r, Nat.lt_succ_self _, c.1, c.2.1, h⟩
      · rw [if_neg (fun z => c (clB_iff.mp z))] at h
        obtain ⟨r', h1, h2⟩ := ih.mp h
        exact ⟨r', by omega, h2⟩
    · rintro ⟨r', h1, h2, h3, h4⟩
      by_cases er : r' = r
      · subst er
        by_cases c : ndI (slk m (row N B r')) B < LH N B S T n m L k i r'
        · rw [if_pos (clB_iff.mpr ⟨h2, h3, c⟩)]
          exact h4
        · rw [if_neg (fun z => c (clB_iff.mp z).2.2)]
          exact Int32.le_trans (Int32.not_lt.mp c) h4
      · have l := ih.mpr ⟨r', by omega, h2, h3, h4⟩
        by_cases c : okK m B S T n L (row N B r) ∧ row N B r k = i ∧ ndI (slk m (row N B r)) B < LH N B S T n m L k i r
        · rw [if_pos (clB_iff.mpr c)]
          exact Int32.le_trans (Int32.le_of_lt c.2.2) l
        · rw [if_neg (fun z => c (clB_iff.mp z))]
          exact l
theorem agB_4 (m : GG) (S n : Nat) (L : List (Nat × RC)) (k i : Nat) : ∃ a, a < 16 ∧ agB m S n L k i = 4 * a := by
  refine ⟨agB m S n L k i / 4, ?_, ?_⟩ <;> unfold agB <;> split <;> split <;> split <;> split <;> decide
theorem m2_and : ∀ a : Fin 16, (nI (4 * a.val) &&& (-2) = 0) ↔ nI (4 * a.val) = 0 := by decide +kernel
theorem tab_K (m : GG) (B S n H : Nat) (L : List (Nat × RC)) (u : Nat → Nat) : (nI (rsA (fun k => rsN m S n H L k (u k)) B) &&& (-2) = 0) ↔ ∀ k, k < B → nI (agB m S n L k (u k)) = 0 := by
  rw [rsA_z]
  have key : ∀ k, (nI (rsN m S n H L k (u k)) &&& (-2) = 0) ↔ nI (agB m S n L k (u k)) = 0 := by
    intro k
    obtain ⟨a, a1, a2⟩ := agB_4 m S n L k (u k)
    unfold rsN
    rw [← agB_or2, or_z, a2]
    have z : (if inkB m H k (u k) = true then (1 : Int32) else 0) &&& (-2) = 0 := by split <;> decide
    rw [m2_and ⟨a, a1⟩]
    exact ⟨fun h => h.1, fun h => ⟨h, z⟩⟩
  exact ⟨fun h k hk => (key k).mp (h k hk), fun h k hk => (key k).mpr (h k hk)⟩
theorem spk_0 {t o : Bool} : (spk 0 0 t o = 0) ↔ (t = false ∧ o = false) := by
  have := spk_z (wo := 0) (st := 0) (t := t) (o := o) (by decide)
  rw [m1_and] at this
  rw [this]
  constructor
  · rintro ⟨a, b⟩
    exact ⟨a (by decide), b (by decide)⟩
  · rintro ⟨a, b⟩
    exact ⟨fun _ => a, fun _ => b⟩
