/-! all rows of names, one behind the other; and bar by bar -/
theorem sm_app (f : Nat → Nat) (p : Nat) : ∀ q, sm f (p + q) = sm f p + sm (fun j => f (p + j)) q
  | 0 => rfl
  | q + 1 => by
    show sm f (p + q) + f (p + q) = sm f p + (sm (fun j => f (p + j)) q + f (p + q))
    rw [sm_app f p q]
    omega
theorem sm_prod (f : Nat → Nat) (b : Nat) : ∀ a, sm f (a * b) = sm (fun i => sm (fun j => f (i * b + j)) b) a
  | 0 => by rw [Nat.zero_mul]; rfl
  | a + 1 => by
    rw [Nat.succ_mul, sm_app, sm_prod f b a]
    rfl
def SM (G : (Nat → Nat) → Nat) (N : Nat) : Nat → Nat → (Nat → Nat) → Nat
  | 0, _, u => G u
  | d + 1, k, u => sm (fun i => SM G N d (k + 1) (updN u k i)) N
theorem SM_congr {G G' : (Nat → Nat) → Nat} {N : Nat} : ∀ (d k : Nat) (u : Nat → Nat), (∀ u', (∀ q, q < k → u' q = u q) → G u' = G' u') → SM G N d k u = SM G' N d k u
  | 0, _, u, h => h u (fun _ _ => rfl)
  | d + 1, k, u, h => sm_congr (fun i _ => SM_congr d (k + 1) (updN u k i) (fun u' hu => h u' (fun q hq => by rw [hu q (by omega), updN_off (by omega)])))
theorem SM_mul (c : Nat) (G : (Nat → Nat) → Nat) (N : Nat) : ∀ (d k : Nat) (u : Nat → Nat), SM (fun u => c * G u) N d k u = c * SM G N d k u
  | 0, _, _ => rfl
  | d + 1, k, u => by
    show sm (fun i => SM (fun u => c * G u) N d (k + 1) (updN u k i)) N = c * sm (fun i => SM G N d (k + 1) (updN u k i)) N
    rw [← sm_mul]
    exact sm_congr (fun i _ => SM_mul c G N d (k + 1) (updN u k i))
def mix (N : Nat) (u : Nat → Nat) (k d r : Nat) : Nat → Nat := fun q => if q < k then u q else r / N ^ (d - 1 - (q - k)) % N
theorem SM_rows {G : (Nat → Nat) → Nat} {N B : Nat} (hG : ∀ u u', (∀ q, q < B → u' q = u q) → G u' = G u) : ∀ (d k : Nat) (u : Nat → Nat), k + d = B → SM G N d k u = sm (fun r => G (mix N u k d r)) (N ^ d)
  | 0, k, u, h => by
    show G u = 0 + G (mix N u k 0 0)
    rw [Nat.zero_add]
    refine (hG _ _ (fun q hq => ?_)).symm
    unfold mix
    rw [if_pos (by omega)]
  | d + 1, k, u, h => by
    show sm (fun i => SM G N d (k + 1) (updN u k i)) N = _
    rw [Nat.pow_succ, Nat.mul_comm, sm_prod]
    refine sm_congr (fun i hi => ?_)
    rw [SM_rows hG d (k + 1) (updN u k i) (by omega)]
    refine sm_congr (fun r hr => hG _ _ (fun q hq => ?_))
    have pN : 0 < N ^ d := by omega
    unfold mix
    by_cases c1 : q < k
    · rw [if_pos (by omega), if_pos c1, updN_off (by omega)]
    · by_cases c2 : q = k
      · subst c2
        rw [if_pos (by omega), if_neg (by omega), updN_at, show d + 1 - 1 - (q - q) = d by omega, Nat.mul_comm, Nat.mul_add_div pN, Nat.div_eq_of_lt hr, Nat.add_zero, Nat.mod_eq_of_lt hi]
      · rw [if_neg (by omega), if_neg (by omega), show d + 1 - 1 - (q - k) = d - 1 - (q - (k + 1)) by omega]
        obtain ⟨e, he⟩ : ∃ e, e = d - 1 - (q - (k + 1)) := ⟨_, rfl⟩
        rw [← he]
        obtain ⟨f, hf⟩ : ∃ f, d = e + (f + 1) := ⟨d - e - 1, by omega⟩
        have pe : 0 < N ^ e := by
          have h0 : 0 < N := by omega
          exact Nat.pow_pos h0
        have : i * N ^ d + r = N ^ e * (N * (i * N ^ f)) + r := by
          rw [hf, Nat.pow_add, Nat.pow_succ]
          congr 1
          rw [← Nat.mul_assoc, Nat.mul_comm i (N ^ e), Nat.mul_assoc]
          congr 1
          rw [← Nat.mul_assoc, Nat.mul_comm (i * N ^ f) N]
        rw [this, Nat.mul_add_div pe, Nat.mul_add_mod]
/-- what a row is worth -/
def pwN (w : Nat → Nat → Nat) (u : Nat → Nat) : Nat → Nat
  | 0 => 1
  | k + 1 => pwN w u k * w k (u k)
def prN (cd : Nat → (Nat → Nat) → Nat → Bool) (w : Nat → Nat → Nat) : Nat → Nat → (Nat → Nat) → Nat
  | 0, _, _ => 1
  | d + 1, k, u => if cd k u (u k) = true then w k (u k) * prN cd w d (k + 1) u else 0
/-- what may stand under a bar goes by the bars before it alone -/
def causal (cd : Nat → (Nat → Nat) → Nat → Bool) (B : Nat) : Prop := ∀ k u u' i, k < B → (∀ q, q < k → u' q = u q) → cd k u' i = cd k u i
theorem nst_SM {cd : Nat → (Nat → Nat) → Nat → Bool} {w : Nat → Nat → Nat} {N B : Nat} (hc : causal cd B) : ∀ (d k : Nat) (u : Nat → Nat), k + d = B → nst cd w N d k u = SM (prN cd w d k) N d k u
  | 0, _, _, _ => rfl
  | d + 1, k, u, h => by
    show sm (fun i => if cd k u i = true then w k i * nst cd w N d (k + 1) (updN u k i) else 0) N = sm (fun i => SM (prN cd w (d + 1) k) N d (k + 1) (updN u k i)) N
    refine sm_congr (fun i _ => ?_)
    have e : SM (prN cd w (d + 1) k) N d (k + 1) (updN u k i) = SM (fun u' => (if cd k u i = true then w k i else 0) * prN cd w d (k + 1) u') N d (k + 1) (updN u k i) := by
      refine SM_congr d (k + 1) _ (fun u' hu => ?_)
      have e1 : u' k = i := by rw [hu k (by omega), updN_at]
      have e2 : cd k u' i = cd k u i := hc k u u' i (by omega) (fun q hq => by rw [hu q (by omega), updN_off (by omega)])
      show (if cd k u' (u' k) = true then w k (u' k) * prN cd w d (k + 1) u' else 0) = _
      rw [e1, e2]
      by_cases c : cd k u i = true
      · rw [if_pos c, if_pos c]
      · rw [if_neg c, if_neg c, Nat.zero_mul]
    rw [e, SM_mul, nst_SM hc d (k + 1) (updN u k i) (by omega)]
    by_cases c : cd k u i = true
    · rw [if_pos c, if_pos c]
    · rw [if_neg c, if_neg c, Nat.zero_mul]
noncomputable def okN (cd : Nat → (Nat → Nat) → Nat → Bool) (k n : Nat) (u : Nat → Nat) : Bool := clB (∀ j, k ≤ j → j < n → cd j u (u j) = true)
theorem prN_all (cd : Nat → (Nat → Nat) → Nat → Bool) (w : Nat → Nat → Nat) (u : Nat → Nat) : ∀ (d k : Nat), pwN w u k * prN cd w d k u = if okN cd k (k + d) u = true then pwN w u (k + d) else 0
  | 0, k => by
    have : okN cd k (k + 0) u = true := clB_iff.mpr (fun j h1 h2 => by omega)
    rw [if_pos this]
    exact Nat.mul_one _
  | d + 1, k => by
    have ih := prN_all cd w u d (k + 1)
    rw [show k + 1 + d = k + (d + 1) by omega] at ih
    show pwN w u k * (if cd k u (u k) = true then w k (u k) * prN cd w d (k + 1) u else 0) = _
    by_cases c : cd k u (u k) = true
    · have e : okN cd k (k + (d + 1)) u = okN cd (k + 1) (k + (d + 1)) u := by
        unfold okN
        refine clB_congr ⟨fun a j h1 h2 => a j (by omega) h2, fun a j h1 h2 => ?_⟩
        by_cases ej : j = k
        · subst ej; exact c
        · exact a j (by omega) h2
      rw [if_pos c, e, ← ih, ← Nat.mul_assoc]
      rfl
    · have e : ¬ okN cd k (k + (d + 1)) u = true := fun z => c (clB_iff.mp z k (Nat.le_refl _) (by omega))
      rw [if_neg c, if_neg e, Nat.mul_zero]
theorem pwN_congr {w : Nat → Nat → Nat} {u u' : Nat → Nat} : ∀ {B : Nat}, (∀ q, q < B → u' q = u q) → pwN w u' B = pwN w u B
  | 0, _ => rfl
  | B + 1, h => by
    show pwN w u' B * w B (u' B) = pwN w u B * w B (u B)
    rw [pwN_congr (B := B) (fun q hq => h q (by omega)), h B (by omega)]
/-- row r -/
def row (N B r : Nat) : Nat → Nat := fun k => r / N ^ (B - 1 - k) % N
theorem row_lt {N B r : Nat} (k : Nat) (h : 0 < N) : row N B r k < N := Nat.mod_lt _ h
theorem nst_rows {cd : Nat → (Nat → Nat) → Nat → Bool} {w : Nat → Nat → Nat} {N B : Nat} (hc : causal cd B) (u : Nat → Nat) : nst cd w N B 0 u = sm (fun r => if okN cd 0 B (row N B r) = true then pwN w (row N B r) B else 0) (N ^ B) := by
  rw [nst_SM hc B 0 u (by omega)]
  have e : ∀ v, prN cd w B 0 v = if okN cd 0 B v = true then pwN w v B else 0 := fun v => by
    have := prN_all cd w v B 0
    rw [Nat.zero_add] at this
    rw [← this]
    exact (Nat.one_mul _).symm
  rw [SM_rows (G := prN cd w B 0) (B := B) (fun v v' hv => ?_) B 0 u (by omega)]
  · refine sm_congr (fun r _ => ?_)
    rw [e]
    have : mix N u 0 B r = row N B r := by
      funext q
      unfold mix row
      rw [if_neg (by omega), Nat.sub_zero]
    rw [this]
  · rw [e, e, pwN_congr hv]
    have : okN cd 0 B v' = okN cd 0 B v := by
      unfold okN
      refine clB_congr ⟨fun a j h1 h2 => ?_, fun a j h1 h2 => ?_⟩
      · rw [← hc j v v' (v j) h2 (fun q hq => hv q (by omega)), ← hv j h2]
        exact a j h1 h2
      · rw [hc j v v' (v' j) h2 (fun q hq => hv q (by omega)), hv j h2]
        exact a j h1 h2
    rw [this]
theorem lnC_causal {B A : Nat} {M : Nat → Nat} {y : GG} {P : (Nat → Int) → Prop} (h : LNM B M y A P) {k j : Nat} (hk : k < 4) (hj : j < M k) {w w' : Nat → Int} (hw : ∀ q, q ≤ k → w' q = w q) : lnC y w' (144 * k + j) ↔ lnC y w (144 * k + j) := by
  obtain ⟨k1, k2, k3⟩ := (h.2.1 k hk).2.2 j hj
  have e : lnS (fun q => y.1 53 (4 * (144 * k + j) + q)) w' = lnS (fun q => y.1 53 (4 * (144 * k + j) + q)) w := by
    have t : ∀ q, q < 4 → (y.1 53 (4 * (144 * k + j) + q)).toInt * w' q = (y.1 53 (4 * (144 * k + j) + q)).toInt * w q := by
      intro q hq
      by_cases c : q ≤ k
      · rw [hw q c]
      · obtain ⟨z, z1, z2, z3, z4⟩ := k3 q hq
        rw [z2, z3 (by omega), show (nI 0).toInt = 0 from rfl, Int.zero_mul, Int.zero_mul]
    unfold lnS
    rw [t 0 (by decide), t 1 (by decide), t 2 (by decide), t 3 (by decide)]
  unfold lnC
  rw [e]
theorem cdB_causal {B N T A : Nat} {M : Nat → Nat} {y m : GG} {P : (Nat → Int) → Prop} {ft : Nat → Nat → Bool} {td ld : Bool} (h : LNM B M y A P) (hB : B ≤ 4) : causal (cdB M y m T ft td ld) B := by
  intro k u u' i hk hu
  unfold cdB
  refine clB_congr ?_
  have e1 : ∀ q, q < k → u' q = u q := hu
  have e2 : ∀ j, j < M k → (lnC y (wU m (updN u' k i)) (144 * k + j) ↔ lnC y (wU m (updN u k i)) (144 * k + j)) := fun j hj => lnC_causal h (by omega) hj (fun q hq => by
    unfold wU
    by_cases c : q = k
    · subst c; rw [updN_at, updN_at]
    · rw [updN_off c, updN_off c, hu q (by omega)])
  constructor
  · rintro ⟨a, b, c⟩
    exact ⟨a, fun t q hq => by rw [← e1 q hq]; exact b t q hq, fun l j hj => (e2 j hj).mp (c l j hj)⟩
  · rintro ⟨a, b, c⟩
    exact ⟨a, fun t q hq => by rw [e1 q hq]; exact b t q hq, fun l j hj => (e2 j hj).mpr (c l j hj)⟩
/-- a filling: each name by itself, all ties, all lines -/
noncomputable def FB (B S T : Nat) (m : GG) (ft : Nat → Nat → Bool) (td ld : Bool) (u : Nat → Nat) : Bool := clB ((∀ k, k < B → ft k (u k) = true) ∧ (td = true → tiA m u T = false) ∧ (ld = true → otA m u S = false))
theorem mt_swap (m : GG) (sv : Int32) (i j : Nat) : mtB m sv false i j = mtB m sv true j i := by
  unfold mtB
  by_cases c0 : sv = 0
  · rw [if_pos c0, if_pos c0]
    exact decide_eq_decide.mpr ⟨Eq.symm, Eq.symm⟩
  · rw [if_neg c0, if_neg c0]
    by_cases c1 : sv = 1
    · rw [if_pos c1, if_pos c1]
      congr 1
      exact decide_eq_decide.mpr ⟨Eq.symm, Eq.symm⟩
    · rw [if_neg c1, if_neg c1, if_neg (by decide), if_pos rfl]
theorem ties_iff {x m : GG} {B T : Nat} (hT : rTi x m B) (hB : B ≤ 4) (hm : m.1 0 6 = nI T) (hT20 : T ≤ 20) (u : Nat → Nat) : (∀ k, k < B → ∀ q, q < k → prB m T q k (u q) (u k) = true) ↔ tiA m u T = false := by
  obtain ⟨n', n1, n2, n3, n4⟩ := hT
  have en : n' = T := (nI_eq (by omega) (by omega)).mp (n3.symm.trans hm)
  subst en
  constructor
  · intro a
    refine ik_any_no (fun t ht => ?_)
    obtain ⟨-, -, -, -, ⟨x1, hx1, ex⟩, ⟨y1, hy1, ey⟩, hne⟩ := n4 t ht
    have xy : x1 ≠ y1 := fun q => hne (by rw [ex, ey, q])
    have tb : tieB m u t = mtB m (m.1 35 t) true (u x1) (u y1) := by
      unfold tieB
      rw [ex, ey, nI_nat (by omega), nI_nat (by omega)]
    rw [tb]
    have no : ∀ q k, q < k → k < B → prF m q k (u q) (u k) t = false := fun q k hq hk => by
      have := a k hk q hq
      unfold prB at this
      cases c : prF m q k (u q) (u k) t with
      | false => rfl
      | true => rw [ik_any_ex.mpr ⟨t, ht, c⟩] at this; cases this
    rcases Nat.lt_or_ge x1 y1 with l | l
    · have f := no x1 y1 l hy1
      unfold prF at f
      rw [decide_eq_true (show m.1 36 t = nI x1 ∧ m.1 37 t = nI y1 from ⟨ex, ey⟩), Bool.true_and, Bool.or_eq_false_iff] at f
      exact f.1
    · have f := no y1 x1 (by omega) hx1
      unfold prF at f
      rw [decide_eq_true (show m.1 37 t = nI y1 ∧ m.1 36 t = nI x1 from ⟨ey, ex⟩), Bool.true_and, Bool.or_eq_false_iff, mt_swap] at f
      exact f.2
  · intro a k hk q hq
    unfold prB
    rw [ik_any_no, Bool.not_false]
    intro t ht
    obtain ⟨-, -, -, -, ⟨x1, hx1, ex⟩, ⟨y1, hy1, ey⟩, hne⟩ := n4 t ht
    have tb : tieB m u t = mtB m (m.1 35 t) true (u x1) (u y1) := by
      unfold tieB
      rw [ex, ey, nI_nat (by omega), nI_nat (by omega)]
    have tt : tieB m u t = true := by
      cases c : tieB m u t with
      | true => rfl
      | false =>
        have : tiA m u n' = true := ik_any_ex.mpr ⟨t, ht, by rw [c]; rfl⟩
        rw [this] at a
        cases a
    rw [tb] at tt
    unfold prF
    rw [ex, ey, Bool.or_eq_false_iff]
    constructor
    · by_cases c : nI x1 = nI q ∧ nI y1 = nI k
      · have e1 := (nI_eq (by omega) (by omega)).mp c.1
        have e2 := (nI_eq (by omega) (by omega)).mp c.2
        subst e1 e2
        rw [tt]
        simp
      · rw [decide_eq_false c, Bool.false_and]
    · by_cases c : nI y1 = nI q ∧ nI x1 = nI k
      · have e1 := (nI_eq (by omega) (by omega)).mp c.1
        have e2 := (nI_eq (by omega) (by omega)).mp c.2
        subst e1 e2
        rw [mt_swap, tt]
        simp
      · rw [decide_eq_false c, Bool.false_and]
theorem fill_iff {x m y : GG} {N B S T A : Nat} {M : Nat → Nat} {ft : Nat → Nat → Bool} {td ld : Bool} {u : Nat → Nat} (h : rE x m N B S) (hm : m.1 0 6 = nI T) (hT20 : T ≤ 20) (hL : LNM B M y A (toldP m S)) (hu : ∀ k, k < B → u k < N) :
    (okN (cdB M y m T ft td ld) 0 B u = true ∧ (ld = true → y.1 49 5 = 0)) ↔ FB B S T m ft td ld u = true := by
  have hB4 := h.2.2.2.1.1
  have ti := ties_iff h.2.2.2.2.1 hB4 hm hT20 u
  have ot := otA_iff h hu
  have lw := hL.2.2 (wU m u)
  have same : ∀ k, updN u k (u k) = u := fun k => by
    funext q
    by_cases c : q = k
    · subst c; exact updN_at _ _ _
    · exact updN_off c
  unfold okN FB
  rw [clB_iff, clB_iff]
  have cdI : ∀ k, cdB M y m T ft td ld k u (u k) = true ↔ (ft k (u k) = true ∧ (td = true → ∀ q, q < k → prB m T q k (u q) (u k) = true) ∧ (ld = true → ∀ j, j < M k → lnC y (wU m u) (144 * k + j))) := fun k => by
    unfold cdB
    rw [clB_iff, same]
  constructor
  · rintro ⟨a, b⟩
    refine ⟨fun k hk => ((cdI k).mp (a k (Nat.zero_le _) hk)).1, fun t => ti.mp (fun k hk => ((cdI k).mp (a k (Nat.zero_le _) hk)).2.1 t), fun l => ot.mpr (lw.mp ⟨b l, fun k j hk hj => ?_⟩)⟩
    have kB : k < B := by
      obtain ⟨-, -, q⟩ := (hL.2.1 k hk).2.2 0 (by omega)
      obtain ⟨z, -, -, -, z4⟩ := q k hk
      exact (z4 rfl).2
    exact ((cdI k).mp (a k (Nat.zero_le _) kB)).2.2 l j hj
  · rintro ⟨a, b, c⟩
    refine ⟨fun k _ hk => (cdI k).mpr ⟨a k hk, fun t => (ti.mpr (b t)) k hk, fun l j hj => ?_⟩, fun l => (lw.mpr (ot.mp (c l))).1⟩
    exact (lw.mpr (ot.mp (c l))).2 k j (by omega) hj
/-- what all fillings are worth together -/
noncomputable def SF (N B S T : Nat) (m : GG) (ft : Nat → Nat → Bool) (td ld : Bool) (w : Nat → Nat → Nat) : Nat := sm (fun r => if FB B S T m ft td ld (row N B r) = true then pwN w (row N B r) B else 0) (N ^ B)
theorem nst_SF {x m y : GG} {N B S T A : Nat} {M : Nat → Nat} {ft : Nat → Nat → Bool} {td ld : Bool} {w : Nat → Nat → Nat} (h : rE x m N B S) (hm : m.1 0 6 = nI T) (hT20 : T ≤ 20) (hL : LNM B M y A (toldP m S)) (hb : 0 < B) (u : Nat → Nat) : (if ld = true ∧ ¬ y.1 49 5 = 0 then 0 else nst (cdB M y m T ft td ld) w N B 0 u) = SF N B S T m ft td ld w := by
  have hB4 := h.2.2.2.1.1
  unfold SF
  by_cases n0 : N = 0
  · subst n0
    have e : (0 : Nat) ^ B = 0 := Nat.zero_pow hb
    rw [nst_rows (cdB_causal (T := T) (N := 0) hL hB4), e]
    split <;> rfl
  · have fi : ∀ r, (okN (cdB M y m T ft td ld) 0 B (row N B r) = true ∧ (ld = true → y.1 49 5 = 0)) ↔ FB B S T m ft td ld (row N B r) = true := fun r => fill_iff h hm hT20 hL (fun k _ => row_lt k (by omega))
    by_cases c : ld = true ∧ ¬ y.1 49 5 = 0
    · rw [if_pos c]
      symm
      have : ∀ r, ¬ FB B S T m ft td ld (row N B r) = true := fun r q => c.2 (((fi r).mpr q).2 c.1)
      rw [sm_congr (g := fun _ => 0) (fun r _ => if_neg (this r)), sm_zero]
    · rw [if_neg c, nst_rows (cdB_causal (T := T) (N := N) hL hB4)]
      refine sm_congr (fun r _ => ?_)
      have c' : ld = true → y.1 49 5 = 0 := fun l => Classical.byContradiction (fun q => c ⟨l, q⟩)
      by_cases f : FB B S T m ft td ld (row N B r) = true
      · rw [if_pos f, if_pos ((fi r).mpr f).1]
      · rw [if_neg f, if_neg (fun q => f ((fi r).mp ⟨q, c'⟩))]
