/-! what must hold before, for something to hold behind: piece by piece -/
def wE (e : SS → Option (Int32 × GG)) (σ : SS) (P : Int32 → GG → Prop) : Prop := ∃ v g, e σ = some (v, g) ∧ P v g
def wL (e : SS → Option (Int64 × GG)) (σ : SS) (P : Int64 → GG → Prop) : Prop := ∃ v g, e σ = some (v, g) ∧ P v g
def wC (e : SS → Option (Bool × GG)) (σ : SS) (P : Bool → GG → Prop) : Prop := ∃ v g, e σ = some (v, g) ∧ P v g
def wA (e : SS → Option (List Value × GG)) (σ : SS) (P : List Value → GG → Prop) : Prop := ∃ v g, e σ = some (v, g) ∧ P v g
def wS (s : ST) (σ : SS) (P : SS → Prop) (R : Value → GG → Prop) : Prop := ∃ o, s σ = some o ∧ match o with
  | .inl σ' => P σ'
  | .inr r => R r.1 r.2
def wF (f : FF) (vs : List Value) (g : GG) (Q : Value → GG → Prop) : Prop := ∃ v g', f vs g = some (v, g') ∧ Q v g'
theorem wF_eq {f : FF} {vs : List Value} {g : GG} {v : Value} {g' : GG} (h : f vs g = some (v, g')) (Q : Value → GG → Prop) : wF f vs g Q ↔ Q v g' := by
  unfold wF
  rw [h]
  constructor
  · rintro ⟨v1, g1, e, q⟩
    cases e
    exact q
  · exact fun q => ⟨v, g', rfl, q⟩
theorem wF_mono {f : FF} {vs : List Value} {g : GG} {Q Q' : Value → GG → Prop} (h : wF f vs g Q) (hq : ∀ v g', Q v g' → Q' v g') : wF f vs g Q' := by
  obtain ⟨v, g', e, q⟩ := h
  exact ⟨v, g', e, hq v g' q⟩
theorem wS_mono {s : ST} {σ : SS} {P P' : SS → Prop} {R R' : Value → GG → Prop} (h : wS s σ P R) (hp : ∀ σ', P σ' → P' σ') (hr : ∀ v g, R v g → R' v g) : wS s σ P' R' := by
  obtain ⟨o, e, q⟩ := h
  refine ⟨o, e, ?_⟩
  cases o with
  | inl σ' => exact hp σ' q
  | inr r => exact hr r.1 r.2 q
section WP
variable {σ : SS} {P : Int32 → GG → Prop} {J : Int64 → GG → Prop} {B : Bool → GG → Prop} {V : List Value → GG → Prop} {Z : SS → Prop} {R : Value → GG → Prop}
theorem wE_lit (v : Int32) : wE (sLit v) σ P ↔ P v σ.2.2 := ⟨fun ⟨_, _, e, p⟩ => by cases e; exact p, fun p => ⟨_, _, rfl, p⟩⟩
theorem wL_lit (v : Int64) : wL (sLitL v) σ J ↔ J v σ.2.2 := ⟨fun ⟨_, _, e, p⟩ => by cases e; exact p, fun p => ⟨_, _, rfl, p⟩⟩
theorem wE_loc (k : Nat) : wE (sLoc k) σ P ↔ P (σ.1 k) σ.2.2 := ⟨fun ⟨_, _, e, p⟩ => by cases e; exact p, fun p => ⟨_, _, rfl, p⟩⟩
theorem wL_loc (k : Nat) : wL (sLocL k) σ J ↔ J (σ.2.1 k) σ.2.2 := ⟨fun ⟨_, _, e, p⟩ => by cases e; exact p, fun p => ⟨_, _, rfl, p⟩⟩
theorem ik_divo (x y : Int32) (Q : Int32 → Prop) : (∃ z, ik_bo 9 x y = some z ∧ Q z) ↔ ¬ y = 0 ∧ Q (x / y) := by
  simp only [ik_bo]
  by_cases h : y = 0
  · simp [h]
  · simp only [if_neg h]
    exact ⟨fun ⟨_, e, q⟩ => by cases e; exact ⟨h, q⟩, fun q => ⟨_, rfl, q.2⟩⟩
theorem ik_remo (x y : Int32) (Q : Int32 → Prop) : (∃ z, ik_bo 10 x y = some z ∧ Q z) ↔ ¬ y = 0 ∧ Q (x - x / y * y) := by
  simp only [ik_bo]
  by_cases h : y = 0
  · simp [h]
  · simp only [if_neg h]
    exact ⟨fun ⟨_, e, q⟩ => by cases e; exact ⟨h, q⟩, fun q => ⟨_, rfl, q.2⟩⟩
theorem wE_bin (o : Nat) (a b : SS → Option (Int32 × GG)) : wE (sBin o a b) σ P ↔ wE a σ (fun x g1 => wE b (σ.1, σ.2.1, g1) (fun y g2 => ∃ z, ik_bo o x y = some z ∧ P z g2)) := by
  constructor
  · rintro ⟨v, g, e, p⟩
    simp only [sBin, Option.bind_eq_some_iff, Option.map_eq_some_iff] at e
    obtain ⟨⟨x, g1⟩, e1, ⟨y, g2⟩, e2, z, e3, e4⟩ := e
    cases e4
    exact ⟨x, g1, e1, y, _, e2, v, e3, p⟩
  · rintro ⟨x, g1, e1, y, g2, e2, z, e3, p⟩
    exact ⟨z, g2, by simp [sBin, e1, e2, e3], p⟩
theorem wE_add (a b : SS → Option (Int32 × GG)) : wE (sBin 0 a b) σ P ↔ wE a σ (fun x g1 => wE b (σ.1, σ.2.1, g1) (fun y g2 => P (x + y) g2)) := by rw [wE_bin]; simp [ik_bo]
theorem wE_sub (a b : SS → Option (Int32 × GG)) : wE (sBin 1 a b) σ P ↔ wE a σ (fun x g1 => wE b (σ.1, σ.2.1, g1) (fun y g2 => P (x - y) g2)) := by rw [wE_bin]; simp [ik_bo]
theorem wE_mul (a b : SS → Option (Int32 × GG)) : wE (sBin 2 a b) σ P ↔ wE a σ (fun x g1 => wE b (σ.1, σ.2.1, g1) (fun y g2 => P (x * y) g2)) := by rw [wE_bin]; simp [ik_bo]
theorem wE_and (a b : SS → Option (Int32 × GG)) : wE (sBin 3 a b) σ P ↔ wE a σ (fun x g1 => wE b (σ.1, σ.2.1, g1) (fun y g2 => P (x &&& y) g2)) := by rw [wE_bin]; simp [ik_bo]
theorem wE_or (a b : SS → Option (Int32 × GG)) : wE (sBin 4 a b) σ P ↔ wE a σ (fun x g1 => wE b (σ.1, σ.2.1, g1) (fun y g2 => P (x ||| y) g2)) := by rw [wE_bin]; simp [ik_bo]
theorem wE_xor (a b : SS → Option (Int32 × GG)) : wE (sBin 5 a b) σ P ↔ wE a σ (fun x g1 => wE b (σ.1, σ.2.1, g1) (fun y g2 => P (x ^^^ y) g2)) := by rw [wE_bin]; simp [ik_bo]
theorem wE_shl (a b : SS → Option (Int32 × GG)) : wE (sBin 6 a b) σ P ↔ wE a σ (fun x g1 => wE b (σ.1, σ.2.1, g1) (fun y g2 => P (x <<< (y &&& 31)) g2)) := by rw [wE_bin]; simp [ik_bo]
theorem wE_shr (a b : SS → Option (Int32 × GG)) : wE (sBin 7 a b) σ P ↔ wE a σ (fun x g1 => wE b (σ.1, σ.2.1, g1) (fun y g2 => P (x >>> (y &&& 31)) g2)) := by rw [wE_bin]; simp [ik_bo]
theorem wE_ushr (a b : SS → Option (Int32 × GG)) : wE (sBin 8 a b) σ P ↔ wE a σ (fun x g1 => wE b (σ.1, σ.2.1, g1) (fun y g2 => P (x.toUInt32 >>> (y.toUInt32 &&& Int32.toUInt32 31)).toInt32 g2)) := by rw [wE_bin]; simp [ik_bo]
theorem wE_div (a b : SS → Option (Int32 × GG)) : wE (sBin 9 a b) σ P ↔ wE a σ (fun x g1 => wE b (σ.1, σ.2.1, g1) (fun y g2 => ¬ y = 0 ∧ P (x / y) g2)) := by rw [wE_bin]; simp only [ik_divo]
theorem wE_rem (a b : SS → Option (Int32 × GG)) : wE (sBin 10 a b) σ P ↔ wE a σ (fun x g1 => wE b (σ.1, σ.2.1, g1) (fun y g2 => ¬ y = 0 ∧ P (x - x / y * y) g2)) := by rw [wE_bin]; simp only [ik_remo]
theorem wE_neg (a : SS → Option (Int32 × GG)) : wE (sUn 0 a) σ P ↔ wE a σ (fun x g1 => P (-x) g1) := by
  constructor
  · rintro ⟨v, g, e, p⟩
    simp only [sUn, Option.map_eq_some_iff] at e
    obtain ⟨⟨x, g1⟩, e1, e4⟩ := e
    cases e4
    exact ⟨x, g1, e1, p⟩
  · rintro ⟨x, g1, e1, p⟩
    exact ⟨-x, g1, by simp [sUn, e1, ik_uo], p⟩
theorem wE_i2b (a : SS → Option (Int32 × GG)) : wE (sUn 1 a) σ P ↔ wE a σ (fun x g1 => P x.toInt8.toInt32 g1) := by
  constructor
  · rintro ⟨v, g, e, p⟩
    simp only [sUn, Option.map_eq_some_iff] at e
    obtain ⟨⟨x, g1⟩, e1, e4⟩ := e
    cases e4
    exact ⟨x, g1, e1, p⟩
  · rintro ⟨x, g1, e1, p⟩
    exact ⟨_, g1, by simp [sUn, e1, ik_uo], p⟩
theorem wE_l2i (a : SS → Option (Int64 × GG)) : wE (sL2i a) σ P ↔ wL a σ (fun x g1 => P x.toInt32 g1) := by
  constructor
  · rintro ⟨v, g, e, p⟩
    simp only [sL2i, Option.map_eq_some_iff] at e
    obtain ⟨⟨x, g1⟩, e1, e4⟩ := e
    cases e4
    exact ⟨x, g1, e1, p⟩
  · rintro ⟨x, g1, e1, p⟩
    exact ⟨_, g1, by simp [sL2i, e1], p⟩
theorem wL_i2l (a : SS → Option (Int32 × GG)) : wL (sI2l a) σ J ↔ wE a σ (fun x g1 => J x.toInt64 g1) := by
  constructor
  · rintro ⟨v, g, e, p⟩
    simp only [sI2l, Option.map_eq_some_iff] at e
    obtain ⟨⟨x, g1⟩, e1, e4⟩ := e
    cases e4
    exact ⟨x, g1, e1, p⟩
  · rintro ⟨x, g1, e1, p⟩
    exact ⟨_, g1, by simp [sI2l, e1], p⟩
theorem wL_bin (o : Nat) (a b : SS → Option (Int64 × GG)) : wL (sBinL o a b) σ J ↔ wL a σ (fun x g1 => wL b (σ.1, σ.2.1, g1) (fun y g2 => J (ik_jo o x y) g2)) := by
  constructor
  · rintro ⟨v, g, e, p⟩
    simp only [sBinL, Option.bind_eq_some_iff, Option.map_eq_some_iff] at e
    obtain ⟨⟨x, g1⟩, e1, ⟨y, g2⟩, e2, e4⟩ := e
    cases e4
    exact ⟨x, g1, e1, y, g2, e2, p⟩
  · rintro ⟨x, g1, e1, y, g2, e2, p⟩
    exact ⟨_, g2, by simp [sBinL, e1, e2], p⟩
theorem wL_add (a b : SS → Option (Int64 × GG)) : wL (sBinL 0 a b) σ J ↔ wL a σ (fun x g1 => wL b (σ.1, σ.2.1, g1) (fun y g2 => J (x + y) g2)) := wL_bin 0 a b
theorem wL_mul (a b : SS → Option (Int64 × GG)) : wL (sBinL 1 a b) σ J ↔ wL a σ (fun x g1 => wL b (σ.1, σ.2.1, g1) (fun y g2 => J (x * y) g2)) := wL_bin 1 a b
theorem wE_fld (o k : Nat) : wE (sFld o k) σ P ↔ P (σ.2.2.1 o k) σ.2.2 := ⟨fun ⟨_, _, e, p⟩ => by cases e; exact p, fun p => ⟨_, _, rfl, p⟩⟩
theorem wL_fld (o k : Nat) : wL (sFldL o k) σ J ↔ J (σ.2.2.2 o k) σ.2.2 := ⟨fun ⟨_, _, e, p⟩ => by cases e; exact p, fun p => ⟨_, _, rfl, p⟩⟩
theorem wE_arr (a n : Nat) (i : SS → Option (Int32 × GG)) : wE (sArr a n i) σ P ↔ wE i σ (fun x g1 => ∃ j, ik_ix x n = some j ∧ P (g1.1 a j) g1) := by
  constructor
  · rintro ⟨v, g, e, p⟩
    simp only [sArr, Option.bind_eq_some_iff, Option.map_eq_some_iff] at e
    obtain ⟨⟨x, g1⟩, e1, j, e2, e4⟩ := e
    cases e4
    exact ⟨x, g1, e1, j, e2, p⟩
  · rintro ⟨x, g1, e1, j, e2, p⟩
    exact ⟨_, g1, by simp [sArr, e1, e2], p⟩
theorem wL_arr (a n : Nat) (i : SS → Option (Int32 × GG)) : wL (sArrL a n i) σ J ↔ wE i σ (fun x g1 => ∃ j, ik_ix x n = some j ∧ J (g1.2 a j) g1) := by
  constructor
  · rintro ⟨v, g, e, p⟩
    simp only [sArrL, Option.bind_eq_some_iff, Option.map_eq_some_iff] at e
    obtain ⟨⟨x, g1⟩, e1, j, e2, e4⟩ := e
    cases e4
    exact ⟨x, g1, e1, j, e2, p⟩
  · rintro ⟨x, g1, e1, j, e2, p⟩
    exact ⟨_, g1, by simp [sArrL, e1, e2], p⟩
theorem wC_cmp (o : Nat) (a b : SS → Option (Int32 × GG)) : wC (sCmp o a b) σ B ↔ wE a σ (fun x g1 => wE b (σ.1, σ.2.1, g1) (fun y g2 => B (ik_cmp o x y) g2)) := by
  constructor
  · rintro ⟨v, g, e, p⟩
    simp only [sCmp, Option.bind_eq_some_iff, Option.map_eq_some_iff] at e
    obtain ⟨⟨x, g1⟩, e1, ⟨y, g2⟩, e2, e4⟩ := e
    cases e4
    exact ⟨x, g1, e1, y, g2, e2, p⟩
  · rintro ⟨x, g1, e1, y, g2, e2, p⟩
    exact ⟨_, g2, by simp [sCmp, e1, e2], p⟩
theorem wC_cmp0 (o : Nat) (a : SS → Option (Int32 × GG)) : wC (sCmp0 o a) σ B ↔ wE a σ (fun x g1 => B (ik_cmp o x 0) g1) := by
  constructor
  · rintro ⟨v, g, e, p⟩
    simp only [sCmp0, Option.map_eq_some_iff] at e
    obtain ⟨⟨x, g1⟩, e1, e4⟩ := e
    cases e4
    exact ⟨x, g1, e1, p⟩
  · rintro ⟨x, g1, e1, p⟩
    exact ⟨_, g1, by simp [sCmp0, e1], p⟩
theorem wC_cmpL (o : Nat) (a b : SS → Option (Int64 × GG)) : wC (sCmpL o a b) σ B ↔ wL a σ (fun x g1 => wL b (σ.1, σ.2.1, g1) (fun y g2 => B (ik_cmpL o x y) g2)) := by
  constructor
  · rintro ⟨v, g, e, p⟩
    simp only [sCmpL, Option.bind_eq_some_iff, Option.map_eq_some_iff] at e
    obtain ⟨⟨x, g1⟩, e1, ⟨y, g2⟩, e2, e4⟩ := e
    cases e4
    exact ⟨x, g1, e1, y, g2, e2, p⟩
  · rintro ⟨x, g1, e1, y, g2, e2, p⟩
    exact ⟨_, g2, by simp [sCmpL, e1, e2], p⟩
theorem wC_and (a b : SS → Option (Bool × GG)) : wC (sAnd a b) σ B ↔ wC a σ (fun t g1 => (t = true → wC b (σ.1, σ.2.1, g1) B) ∧ (t = false → B false g1)) := by
  constructor
  · rintro ⟨v, g, e, p⟩
    simp only [sAnd, Option.bind_eq_some_iff] at e
    obtain ⟨⟨t, g1⟩, e1, e2⟩ := e
    refine ⟨t, g1, e1, fun h => ?_, fun h => ?_⟩
    · subst h
      exact ⟨v, g, e2, p⟩
    · subst h
      cases e2
      exact p
  · rintro ⟨t, g1, e1, h1, h2⟩
    cases t with
    | true =>
      obtain ⟨v, g, e2, p⟩ := h1 rfl
      exact ⟨v, g, by simp [sAnd, e1, e2], p⟩
    | false => exact ⟨false, g1, by simp [sAnd, e1], h2 rfl⟩
theorem wC_or (a b : SS → Option (Bool × GG)) : wC (sOr a b) σ B ↔ wC a σ (fun t g1 => (t = true → B true g1) ∧ (t = false → wC b (σ.1, σ.2.1, g1) B)) := by
  constructor
  · rintro ⟨v, g, e, p⟩
    simp only [sOr, Option.bind_eq_some_iff] at e
    obtain ⟨⟨t, g1⟩, e1, e2⟩ := e
    refine ⟨t, g1, e1, fun h => ?_, fun h => ?_⟩
    · subst h
      cases e2
      exact p
    · subst h
      exact ⟨v, g, e2, p⟩
  · rintro ⟨t, g1, e1, h1, h2⟩
    cases t with
    | false =>
      obtain ⟨v, g, e2, p⟩ := h2 rfl
      exact ⟨v, g, by simp [sOr, e1, e2], p⟩
    | true => exact ⟨true, g1, by simp [sOr, e1], h1 rfl⟩
theorem wC_not (a : SS → Option (Bool × GG)) : wC (sNot a) σ B ↔ wC a σ (fun t g1 => B (!t) g1) := by
  constructor
  · rintro ⟨v, g, e, p⟩
    simp only [sNot, Option.map_eq_some_iff] at e
    obtain ⟨⟨x, g1⟩, e1, e4⟩ := e
    cases e4
    exact ⟨x, g1, e1, p⟩
  · rintro ⟨x, g1, e1, p⟩
    exact ⟨_, g1, by simp [sNot, e1], p⟩
theorem wC_ite (c a b : SS → Option (Bool × GG)) : wC (sIteC c a b) σ B ↔ wC c σ (fun t g1 => (t = true → wC a (σ.1, σ.2.1, g1) B) ∧ (t = false → wC b (σ.1, σ.2.1, g1) B)) := by
  constructor
  · rintro ⟨v, g, e, p⟩
    simp only [sIteC, Option.bind_eq_some_iff] at e
    obtain ⟨⟨t, g1⟩, e1, e2⟩ := e
    refine ⟨t, g1, e1, fun h => ?_, fun h => ?_⟩
    · subst h; exact ⟨v, g, e2, p⟩
    · subst h; exact ⟨v, g, e2, p⟩
  · rintro ⟨t, g1, e1, h1, h2⟩
    cases t with
    | false =>
      obtain ⟨v, g, e2, p⟩ := h2 rfl
      exact ⟨v, g, by simp [sIteC, e1, e2], p⟩
    | true =>
      obtain ⟨v, g, e2, p⟩ := h1 rfl
      exact ⟨v, g, by simp [sIteC, e1, e2], p⟩
theorem wE_ite (c : SS → Option (Bool × GG)) (a b : SS → Option (Int32 × GG)) : wE (sIte c a b) σ P ↔ wC c σ (fun t g1 => (t = true → wE a (σ.1, σ.2.1, g1) P) ∧ (t = false → wE b (σ.1, σ.2.1, g1) P)) := by
  constructor
  · rintro ⟨v, g, e, p⟩
    simp only [sIte, Option.bind_eq_some_iff] at e
    obtain ⟨⟨t, g1⟩, e1, e2⟩ := e
    refine ⟨t, g1, e1, fun h => ?_, fun h => ?_⟩
    · subst h; exact ⟨v, g, e2, p⟩
    · subst h; exact ⟨v, g, e2, p⟩
  · rintro ⟨t, g1, e1, h1, h2⟩
    cases t with
    | false =>
      obtain ⟨v, g, e2, p⟩ := h2 rfl
      exact ⟨v, g, by simp [sIte, e1, e2], p⟩
    | true =>
      obtain ⟨v, g, e2, p⟩ := h1 rfl
      exact ⟨v, g, by simp [sIte, e1, e2], p⟩
/-- two numbers: one answer, without a branch -/
theorem wE_ite2 (c : SS → Option (Bool × GG)) (a b : Int32) : wE (sIte c (sLit a) (sLit b)) σ P ↔ wC c σ (fun t g1 => P (if t = true then a else b) g1) := by
  rw [wE_ite]
  simp only [wE_lit]
  constructor
  · rintro ⟨t, g, e, h⟩
    exact ⟨t, g, e, by cases t <;> simp_all⟩
  · rintro ⟨t, g, e, h⟩
    exact ⟨t, g, e, by cases t <;> simp_all⟩
theorem wL_ite (c : SS → Option (Bool × GG)) (a b : SS → Option (Int64 × GG)) : wL (sIteL c a b) σ J ↔ wC c σ (fun t g1 => (t = true → wL a (σ.1, σ.2.1, g1) J) ∧ (t = false → wL b (σ.1, σ.2.1, g1) J)) := by
  constructor
  · rintro ⟨v, g, e, p⟩
    simp only [sIteL, Option.bind_eq_some_iff] at e
    obtain ⟨⟨t, g1⟩, e1, e2⟩ := e
    refine ⟨t, g1, e1, fun h => ?_, fun h => ?_⟩
    · subst h; exact ⟨v, g, e2, p⟩
    · subst h; exact ⟨v, g, e2, p⟩
  · rintro ⟨t, g1, e1, h1, h2⟩
    cases t with
    | false =>
      obtain ⟨v, g, e2, p⟩ := h2 rfl
      exact ⟨v, g, by simp [sIteL, e1, e2], p⟩
    | true =>
      obtain ⟨v, g, e2, p⟩ := h1 rfl
      exact ⟨v, g, by simp [sIteL, e1, e2], p⟩
theorem wA_nil : wA sNil σ V ↔ V [] σ.2.2 := ⟨fun ⟨_, _, e, p⟩ => by cases e; exact p, fun p => ⟨_, _, rfl, p⟩⟩
theorem wA_int (e : SS → Option (Int32 × GG)) (r : SS → Option (List Value × GG)) : wA (sArgI e r) σ V ↔ wE e σ (fun v g1 => wA r (σ.1, σ.2.1, g1) (fun vs g2 => V (.int v :: vs) g2)) := by
  constructor
  · rintro ⟨v, g, h, p⟩
    simp only [sArgI, Option.bind_eq_some_iff, Option.map_eq_some_iff] at h
    obtain ⟨⟨x, g1⟩, e1, ⟨ws, g2⟩, e2, e3⟩ := h
    cases e3
    exact ⟨x, g1, e1, ws, g2, e2, p⟩
  · rintro ⟨x, g1, e1, ws, g2, e2, p⟩
    exact ⟨_, g2, by simp [sArgI, e1, e2], p⟩
theorem wA_long (e : SS → Option (Int64 × GG)) (r : SS → Option (List Value × GG)) : wA (sArgL e r) σ V ↔ wL e σ (fun v g1 => wA r (σ.1, σ.2.1, g1) (fun vs g2 => V (.long v :: vs) g2)) := by
  constructor
  · rintro ⟨v, g, h, p⟩
    simp only [sArgL, Option.bind_eq_some_iff, Option.map_eq_some_iff] at h
    obtain ⟨⟨x, g1⟩, e1, ⟨ws, g2⟩, e2, e3⟩ := h
    cases e3
    exact ⟨x, g1, e1, ws, g2, e2, p⟩
  · rintro ⟨x, g1, e1, ws, g2, e2, p⟩
    exact ⟨_, g2, by simp [sArgL, e1, e2], p⟩
theorem wE_call (f : FF) (a : SS → Option (List Value × GG)) : wE (sCall f a) σ P ↔ wA a σ (fun vs g1 => wF f vs g1 (fun v g2 => ∃ r, v = .int r ∧ P r g2)) := by
  constructor
  · rintro ⟨v, g, h, p⟩
    simp only [sCall, Option.bind_eq_some_iff] at h
    obtain ⟨⟨vs, g1⟩, e1, ⟨w, g2⟩, e2, e3⟩ := h
    cases w with
    | int r => cases e3; exact ⟨vs, g1, e1, .int v, g, e2, v, rfl, p⟩
    | _ => cases e3
  · rintro ⟨vs, g1, e1, w, g2, e2, r, rfl, p⟩
    exact ⟨r, g2, by simp [sCall, e1, e2], p⟩
theorem wL_call (f : FF) (a : SS → Option (List Value × GG)) : wL (sCallL f a) σ J ↔ wA a σ (fun vs g1 => wF f vs g1 (fun v g2 => ∃ r, v = .long r ∧ J r g2)) := by
  constructor
  · rintro ⟨v, g, h, p⟩
    simp only [sCallL, Option.bind_eq_some_iff] at h
    obtain ⟨⟨vs, g1⟩, e1, ⟨w, g2⟩, e2, e3⟩ := h
    cases w with
    | long r => cases e3; exact ⟨vs, g1, e1, .long v, g, e2, v, rfl, p⟩
    | _ => cases e3
  · rintro ⟨vs, g1, e1, w, g2, e2, r, rfl, p⟩
    exact ⟨r, g2, by simp [sCallL, e1, e2], p⟩
theorem wS_skip : wS sSkip σ Z R ↔ Z σ := by simp [wS, sSkip]
theorem wS_seq (a b : ST) : wS (sSeq a b) σ Z R ↔ wS a σ (fun σ' => wS b σ' Z R) R := by
  constructor
  · rintro ⟨o, e, p⟩
    simp only [sSeq, Option.bind_eq_some_iff] at e
    obtain ⟨o1, e1, e2⟩ := e
    refine ⟨o1, e1, ?_⟩
    cases o1 with
    | inl σ' => exact ⟨o, e2, p⟩
    | inr r => cases e2; exact p
  · rintro ⟨o1, e1, p⟩
    cases o1 with
    | inl σ' =>
      obtain ⟨o, e2, p⟩ := p
      exact ⟨o, by simp [sSeq, e1, e2], p⟩
    | inr r => exact ⟨.inr r, by simp [sSeq, e1], p⟩
theorem wS_set (k : Nat) (e : SS → Option (Int32 × GG)) : wS (sSet k e) σ Z R ↔ wE e σ (fun v g => Z (upd σ.1 k v, σ.2.1, g)) := by
  constructor
  · rintro ⟨o, h, p⟩
    simp only [sSet, Option.map_eq_some_iff] at h
    obtain ⟨⟨v, g⟩, e1, e2⟩ := h
    cases e2
    exact ⟨v, g, e1, p⟩
  · rintro ⟨v, g, e1, p⟩
    exact ⟨_, by simp only [sSet, e1]; rfl, p⟩
theorem wS_setL (k : Nat) (e : SS → Option (Int64 × GG)) : wS (sSetL k e) σ Z R ↔ wL e σ (fun v g => Z (σ.1, vp_updL σ.2.1 k v, g)) := by
  constructor
  · rintro ⟨o, h, p⟩
    simp only [sSetL, Option.map_eq_some_iff] at h
    obtain ⟨⟨v, g⟩, e1, e2⟩ := h
    cases e2
    exact ⟨v, g, e1, p⟩
  · rintro ⟨v, g, e1, p⟩
    exact ⟨_, by simp only [sSetL, e1]; rfl, p⟩
theorem wS_inc (k : Nat) (v : Int32) : wS (sInc k v) σ Z R ↔ Z (upd σ.1 k (σ.1 k + v), σ.2.1, σ.2.2) := by simp [wS, sInc]
theorem wS_if (c : SS → Option (Bool × GG)) (a b : ST) : wS (sIf c a b) σ Z R ↔ wC c σ (fun t g => (t = true → wS a (σ.1, σ.2.1, g) Z R) ∧ (t = false → wS b (σ.1, σ.2.1, g) Z R)) := by
  constructor
  · rintro ⟨v, e, p⟩
    simp only [sIf, Option.bind_eq_some_iff] at e
    obtain ⟨⟨t, g1⟩, e1, e2⟩ := e
    refine ⟨t, g1, e1, fun h => ?_, fun h => ?_⟩
    · subst h; exact ⟨v, e2, p⟩
    · subst h; exact ⟨v, e2, p⟩
  · rintro ⟨t, g1, e1, h1, h2⟩
    cases t with
    | false =>
      obtain ⟨v, e2, p⟩ := h2 rfl
      exact ⟨v, by simp [sIf, e1, e2], p⟩
    | true =>
      obtain ⟨v, e2, p⟩ := h1 rfl
      exact ⟨v, by simp [sIf, e1, e2], p⟩
theorem wS_put (o k t : Nat) (e : SS → Option (Int32 × GG)) : wS (sPut o k t e) σ Z R ↔ wE e σ (fun v g => ik_bz t v = true ∧ Z (σ.1, σ.2.1, ik_si g o k v)) := by
  constructor
  · rintro ⟨r, h, p⟩
    simp only [sPut, Option.bind_eq_some_iff] at h
    obtain ⟨⟨v, g⟩, e1, e2⟩ := h
    split at e2
    · rename_i hb
      cases e2
      exact ⟨v, g, e1, hb, p⟩
    · cases e2
  · rintro ⟨v, g, e1, hb, p⟩
    exact ⟨_, by simp only [sPut, e1, Option.bind_some, hb, if_true]; rfl, p⟩
theorem wS_putL (o k : Nat) (e : SS → Option (Int64 × GG)) : wS (sPutL o k e) σ Z R ↔ wL e σ (fun v g => Z (σ.1, σ.2.1, ik_sl g o k v)) := by
  constructor
  · rintro ⟨r, h, p⟩
    simp only [sPutL, Option.map_eq_some_iff] at h
    obtain ⟨⟨v, g⟩, e1, e2⟩ := h
    cases e2
    exact ⟨v, g, e1, p⟩
  · rintro ⟨v, g, e1, p⟩
    exact ⟨_, by simp only [sPutL, e1]; rfl, p⟩
theorem wS_putOp (o k w : Nat) (e : SS → Option (Int32 × GG)) : wS (sPutOp o k w e) σ Z R ↔ wE e σ (fun v g => ∃ z, ik_bo w (σ.2.2.1 o k) v = some z ∧ Z (σ.1, σ.2.1, ik_si g o k z)) := by
  constructor
  · rintro ⟨r, h, p⟩
    simp only [sPutOp, Option.bind_eq_some_iff, Option.map_eq_some_iff] at h
    obtain ⟨⟨v, g⟩, e1, z, e2, e3⟩ := h
    cases e3
    exact ⟨v, g, e1, z, e2, p⟩
  · rintro ⟨v, g, e1, z, e2, p⟩
    exact ⟨_, by simp only [sPutOp, e1, Option.bind_some, e2]; rfl, p⟩
theorem wS_putOpL (o k : Nat) (e : SS → Option (Int64 × GG)) : wS (sPutOpL o k e) σ Z R ↔ wL e σ (fun v g => Z (σ.1, σ.2.1, ik_sl g o k (σ.2.2.2 o k + v))) := by
  constructor
  · rintro ⟨r, h, p⟩
    simp only [sPutOpL, Option.map_eq_some_iff] at h
    obtain ⟨⟨v, g⟩, e1, e2⟩ := h
    cases e2
    exact ⟨v, g, e1, p⟩
  · rintro ⟨v, g, e1, p⟩
    exact ⟨_, by simp only [sPutOpL, e1]; rfl, p⟩
theorem wS_ast (a k n : Nat) (i e : SS → Option (Int32 × GG)) : wS (sAst a k n i e) σ Z R ↔ wE i σ (fun x g1 => wE e (σ.1, σ.2.1, g1) (fun y g2 => ∃ j, ik_ix x n = some j ∧ ∃ z, ik_as k y = some z ∧ Z (σ.1, σ.2.1, ik_si g2 a j z))) := by
  constructor
  · rintro ⟨r, h, p⟩
    simp only [sAst, Option.bind_eq_some_iff, Option.map_eq_some_iff] at h
    obtain ⟨⟨x, g1⟩, e1, ⟨y, g2⟩, e2, j, e3, z, e4, e5⟩ := h
    cases e5
    exact ⟨x, g1, e1, y, g2, e2, j, e3, z, e4, p⟩
  · rintro ⟨x, g1, e1, y, g2, e2, j, e3, z, e4, p⟩
    exact ⟨_, by simp only [sAst, e1, Option.bind_some, e2, e3, e4]; rfl, p⟩
theorem wS_astL (a n : Nat) (i : SS → Option (Int32 × GG)) (e : SS → Option (Int64 × GG)) : wS (sAstL a n i e) σ Z R ↔ wE i σ (fun x g1 => wL e (σ.1, σ.2.1, g1) (fun y g2 => ∃ j, ik_ix x n = some j ∧ Z (σ.1, σ.2.1, ik_sl g2 a j y))) := by
  constructor
  · rintro ⟨r, h, p⟩
    simp only [sAstL, Option.bind_eq_some_iff, Option.map_eq_some_iff] at h
    obtain ⟨⟨x, g1⟩, e1, ⟨y, g2⟩, e2, j, e3, e5⟩ := h
    cases e5
    exact ⟨x, g1, e1, y, g2, e2, j, e3, p⟩
  · rintro ⟨x, g1, e1, y, g2, e2, j, e3, p⟩
    exact ⟨_, by simp only [sAstL, e1, Option.bind_some, e2, e3]; rfl, p⟩
theorem wS_aop (a n w : Nat) (i e : SS → Option (Int32 × GG)) : wS (sAop a n w i e) σ Z R ↔ wE i σ (fun x g1 => ∃ j, ik_ix x n = some j ∧ wE e (σ.1, σ.2.1, g1) (fun y g2 => ∃ z, ik_bo w (g1.1 a j) y = some z ∧ Z (σ.1, σ.2.1, ik_si g2 a j z))) := by
  constructor
  · rintro ⟨r, h, p⟩
    simp only [sAop, Option.bind_eq_some_iff, Option.map_eq_some_iff] at h
    obtain ⟨⟨x, g1⟩, e1, j, e3, ⟨y, g2⟩, e2, z, e4, e5⟩ := h
    cases e5
    exact ⟨x, g1, e1, j, e3, y, g2, e2, z, e4, p⟩
  · rintro ⟨x, g1, e1, j, e3, y, g2, e2, z, e4, p⟩
    exact ⟨_, by simp only [sAop, e1, Option.bind_some, e2, e3, e4]; rfl, p⟩
theorem wS_aopL (a n : Nat) (i : SS → Option (Int32 × GG)) (e : SS → Option (Int64 × GG)) : wS (sAopL a n i e) σ Z R ↔ wE i σ (fun x g1 => ∃ j, ik_ix x n = some j ∧ wL e (σ.1, σ.2.1, g1) (fun y g2 => Z (σ.1, σ.2.1, ik_sl g2 a j (g1.2 a j + y)))) := by
  constructor
  · rintro ⟨r, h, p⟩
    simp only [sAopL, Option.bind_eq_some_iff, Option.map_eq_some_iff] at h
    obtain ⟨⟨x, g1⟩, e1, j, e3, ⟨y, g2⟩, e2, e5⟩ := h
    cases e5
    exact ⟨x, g1, e1, j, e3, y, g2, e2, p⟩
  · rintro ⟨x, g1, e1, j, e3, y, g2, e2, p⟩
    exact ⟨_, by simp only [sAopL, e1, Option.bind_some, e2, e3]; rfl, p⟩
theorem wS_ret (t : Nat) (e : SS → Option (Int32 × GG)) : wS (sRet t e) σ Z R ↔ wE e σ (fun v g => ik_bz t v = true ∧ R (.int v) g) := by
  constructor
  · rintro ⟨r, h, p⟩
    simp only [sRet, Option.bind_eq_some_iff] at h
    obtain ⟨⟨v, g⟩, e1, e2⟩ := h
    split at e2
    · rename_i hb
      cases e2
      exact ⟨v, g, e1, hb, p⟩
    · cases e2
  · rintro ⟨v, g, e1, hb, p⟩
    exact ⟨_, by simp only [sRet, e1, Option.bind_some, hb, if_true]; rfl, p⟩
theorem wS_retL (e : SS → Option (Int64 × GG)) : wS (sRetL e) σ Z R ↔ wL e σ (fun v g => R (.long v) g) := by
  constructor
  · rintro ⟨r, h, p⟩
    simp only [sRetL, Option.map_eq_some_iff] at h
    obtain ⟨⟨v, g⟩, e1, e2⟩ := h
    cases e2
    exact ⟨v, g, e1, p⟩
  · rintro ⟨v, g, e1, p⟩
    exact ⟨_, by simp only [sRetL, e1]; rfl, p⟩
theorem wS_retV : wS sRetV σ Z R ↔ R .null σ.2.2 := by simp [wS, sRetV]
theorem wS_do (f : FF) (a : SS → Option (List Value × GG)) : wS (sDo f a) σ Z R ↔ wA a σ (fun vs g1 => wF f vs g1 (fun v g2 => v = .null ∧ Z (σ.1, σ.2.1, g2))) := by
  constructor
  · rintro ⟨v, h, p⟩
    simp only [sDo, Option.bind_eq_some_iff] at h
    obtain ⟨⟨vs, g1⟩, e1, ⟨w, g2⟩, e2, e3⟩ := h
    cases w with
    | null => cases e3; exact ⟨vs, g1, e1, .null, g2, e2, rfl, p⟩
    | _ => cases e3
  · rintro ⟨vs, g1, e1, w, g2, e2, rfl, p⟩
    exact ⟨_, by simp only [sDo, e1, Option.bind_some, e2]; rfl, p⟩
theorem wS_pop (e : SS → Option (Int32 × GG)) : wS (sPop e) σ Z R ↔ wE e σ (fun _ g => Z (σ.1, σ.2.1, g)) := by
  constructor
  · rintro ⟨r, h, p⟩
    simp only [sPop, Option.map_eq_some_iff] at h
    obtain ⟨⟨v, g⟩, e1, e2⟩ := h
    cases e2
    exact ⟨v, g, e1, p⟩
  · rintro ⟨v, g, e1, p⟩
    exact ⟨_, by simp only [sPop, e1]; rfl, p⟩
theorem wS_dead (b : ST) : wS (sDead b) σ Z R ↔ wS b σ (fun _ => False) R := by
  constructor
  · rintro ⟨r, h, p⟩
    simp only [sDead, Option.bind_eq_some_iff] at h
    obtain ⟨o, e1, e2⟩ := h
    refine ⟨o, e1, ?_⟩
    cases o with
    | inl _ => cases e2
    | inr q => cases e2; exact p
  · rintro ⟨o, e1, p⟩
    cases o with
    | inl _ => exact p.elim
    | inr q => exact ⟨.inr q, by simp [sDead, e1], p⟩
theorem wS_sw (e : SS → Option (Int32 × GG)) (f : Int32 → ST) : wS (sSw e f) σ Z R ↔ wE e σ (fun v g => wS (f v) (σ.1, σ.2.1, g) Z R) := by
  constructor
  · rintro ⟨r, h, p⟩
    simp only [sSw, Option.bind_eq_some_iff] at h
    obtain ⟨⟨v, g⟩, e1, e2⟩ := h
    exact ⟨v, g, e1, r, e2, p⟩
  · rintro ⟨v, g, e1, r, e2, p⟩
    exact ⟨r, by simp [sSw, e1, e2], p⟩
theorem wF_body (sig : ik_sg) (b : ST) (vs : List Value) (g : GG) (Q : Value → GG → Prop) : wF (sBody sig b) vs g Q ↔ wS b (ik_eI 0 sig vs, ik_eL 0 sig vs, g) (fun _ => False) Q := by
  constructor
  · rintro ⟨v, g', h, p⟩
    simp only [sBody, Option.bind_eq_some_iff] at h
    obtain ⟨o, e1, e2⟩ := h
    refine ⟨o, e1, ?_⟩
    cases o with
    | inl _ => cases e2
    | inr q => cases e2; exact p
  · rintro ⟨o, e1, p⟩
    cases o with
    | inl _ => exact p.elim
    | inr q => exact ⟨q.1, q.2, by simp [sBody, e1], p⟩
/-- a loop with a measure: what holds at its head, each time -/
theorem wS_wh (c : SS → Option (Bool × GG)) (b : ST) (I : Nat → SS → Prop)
    (h : ∀ k σ, I k σ → wC c σ (fun t g => (t = true → wS b (σ.1, σ.2.1, g) (fun σ' => ∃ k', k' < k ∧ I k' σ') R) ∧ (t = false → Z (σ.1, σ.2.1, g)))) :
    ∀ (n k : Nat) (σ : SS), k < n → I k σ → wS (sWh c b n) σ Z R := by
  intro n
  induction n with
  | zero => intro k σ hk; omega
  | succ n ih =>
    intro k σ hk hI
    obtain ⟨t, g, e1, h1, h2⟩ := h k σ hI
    cases t with
    | true =>
      obtain ⟨o, e2, p⟩ := h1 rfl
      cases o with
      | inl σ' =>
        obtain ⟨k', hk', hI'⟩ := p
        obtain ⟨o2, e3, p3⟩ := ih k' σ' (by omega) hI'
        exact ⟨o2, by simp [sWh, e1, e2, e3], p3⟩
      | inr r => exact ⟨.inr r, by simp [sWh, e1, e2], p⟩
    | false => exact ⟨.inl (σ.1, σ.2.1, g), by simp [sWh, e1], h2 rfl⟩
end WP
/-- a row of steps from i0 up to e: what holds at each -/
theorem wS_for {Z : SS → Prop} {R : Value → GG → Prop} (c : SS → Option (Bool × GG)) (b : ST) (I : Nat → SS → Prop) (i0 e : Nat) (σ : SS) (h0 : I i0 σ) (he : i0 ≤ e) (hf : e < 1000000)
    (hc : ∀ i σ, i ≤ e → I i σ → wC c σ (fun t g => t = decide (i < e) ∧ g = σ.2.2))
    (hb : ∀ i σ, i < e → I i σ → wS b σ (fun σ' => I (i + 1) σ') R) (hx : ∀ σ, I e σ → Z σ) : wS (sWh c b ik_fuel) σ Z R := by
  refine wS_wh c b (fun k σ => k ≤ e - i0 ∧ I (e - k) σ) (fun k σ hk => ?_) ik_fuel (e - i0) σ (by unfold ik_fuel; omega) ⟨Nat.le_refl _, by rw [show e - (e - i0) = i0 by omega]; exact h0⟩
  obtain ⟨hk1, hI⟩ := hk
  obtain ⟨t, g, e1, ht, hg⟩ := hc (e - k) σ (by omega) hI
  subst hg
  refine ⟨t, σ.2.2, e1, fun h => ?_, fun h => ?_⟩
  · have hlt : e - k < e := by rw [h] at ht; simpa using ht.symm
    refine wS_mono (hb (e - k) σ hlt hI) (fun σ' hσ => ⟨k - 1, by omega, by omega, ?_⟩) (fun _ _ h => h)
    rw [show e - (k - 1) = e - k + 1 by omega]
    exact hσ
  · have hge : ¬ e - k < e := by rw [h] at ht; simpa using ht.symm
    have hk0 : e - k = e := by omega
    rw [hk0] at hI
    exact hx σ hI
