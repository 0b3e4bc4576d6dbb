/-! the relation, but what no question about names, bars, sheets and rules looks at: of one shape with the whole -/
def rE (x m : GG) (N B S : Nat) : Prop := True ∧ rL (x.1 4) (x.1 5) (m.1 2) (m.1 3) ∧ rN x m N ∧ rB x m B ∧ rTi x m B ∧ rLi x m N B ∧ rH x m N ∧ True ∧ True ∧ rS x m S B ∧ rR x m ∧ True
theorem rA.e {x m : GG} {N B S : Nat} (h : rA x m N B S) : rE x m N B S := ⟨trivial, h.2.1, h.2.2.1, h.2.2.2.1, h.2.2.2.2.1, h.2.2.2.2.2.1, h.2.2.2.2.2.2.1, trivial, trivial, h.2.2.2.2.2.2.2.2.2.1, h.2.2.2.2.2.2.2.2.2.2.1, trivial⟩
theorem rE.fr {x m x' m' : GG} {N B S : Nat} (h : rE x m N B S) (ex : ∀ a j, kEx a j = true → x'.1 a j = x.1 a j) (em : ∀ a j, kEm a j = true → m'.1 a j = m.1 a j) : rE x' m' N B S := by
  obtain ⟨-, hL, hN, hB, hTi, hLi, hH, -, -, hS, hR, -⟩ := h
  refine ⟨trivial, ?_, hN.frk ?_ ?_, hB.frk ?_ ?_, hTi.frk ?_ ?_, hLi.frk ?_ ?_, hH.frk ?_ ?_, trivial, trivial, hS.frk ?_ ?_, hR.fr ?_ ?_, trivial⟩
  · rw [funext fun j => ex 4 j rfl, funext fun j => ex 5 j rfl, funext fun j => em 2 j rfl, funext fun j => em 3 j rfl]
    exact hL
  all_goals first
    | exact cut_of2 (fun a j hk => ex a j (kx_sub hk (by simp))) k0_no
    | exact cut_of2 (fun a j hk => em a j (km_sub hk (by simp))) k0_no
theorem rE.eq {x m y g : GG} {N B S : Nat} (h : rE x m N B S) (hx : eqX x y) (hm : eqM m g) : rE y g N B S := h.fr hx.k (kEm_of hm)
/-! what the reference's questions overwrite, and nothing else -/
def eqV (g g' : GG) : Prop := (∀ a, a ≠ 0 → a ≠ 21 → a ≠ 33 → a ≠ 34 → g'.1 a = g.1 a) ∧ (∀ j, j ≠ 34 → j ≠ 53 → j ≠ 54 → g'.1 0 j = g.1 0 j) ∧ g'.2 = g.2
theorem eqV.rfl' (g : GG) : eqV g g := ⟨fun _ _ _ _ _ => rfl, fun _ _ _ _ => rfl, rfl⟩
theorem eqV.tr {a b c : GG} (h : eqV a b) (k : eqV b c) : eqV a c := ⟨fun q h0 h1 h2 h3 => (k.1 q h0 h1 h2 h3).trans (h.1 q h0 h1 h2 h3), fun j h1 h2 h3 => (k.2.1 j h1 h2 h3).trans (h.2.1 j h1 h2 h3), k.2.2.trans h.2.2⟩
theorem eqV.si {g0 g : GG} (h : eqV g0 g) {a j : Nat} (v : Int32) (ha : (a = 0 ∧ (j = 34 ∨ j = 53 ∨ j = 54)) ∨ a = 21 ∨ a = 33 ∨ a = 34) : eqV g0 (ik_si g a j v) := by
  refine ⟨fun q h0 h1 h2 h3 => ?_, fun k h1 h2 h3 => ?_, h.2.2⟩
  · rw [ik_si_row _ _ _ _ _ (by omega)]; exact h.1 q h0 h1 h2 h3
  · by_cases e : a = 0
    · subst e
      rw [ik_si_ne _ _ _ _ _ (by omega)]; exact h.2.1 k h1 h2 h3
    · rw [ik_si_row _ _ _ _ _ (fun q => e q.symm)]; exact h.2.1 k h1 h2 h3
def eqN (m g0 g : GG) : Prop := eqM m g ∧ eqV g0 g
theorem eqM.n {m g : GG} (h : eqM m g) : eqN m g g := ⟨h, eqV.rfl' g⟩
theorem eqN.tr {m a b c : GG} (h : eqN m a b) (k : eqN m b c) : eqN m a c := ⟨k.1, h.2.tr k.2⟩
theorem eqN.si {m g0 g : GG} (h : eqN m g0 g) {a j : Nat} (v : Int32) (ha : (a = 0 ∧ (j = 34 ∨ j = 53 ∨ j = 54)) ∨ a = 21 ∨ a = 33 ∨ a = 34) : eqN m g0 (ik_si g a j v) := ⟨h.1.si v (by omega), h.2.si v ha⟩
/-! what the class's rules overwrite, and nothing else -/
def eqF (x y : GG) : Prop := (∀ a, a ≠ 35 → a ≠ 38 → y.1 a = x.1 a) ∧ (∀ j, j < 5 → y.1 35 j = x.1 35 j) ∧ y.2 = x.2
theorem eqF.rfl' (x : GG) : eqF x x := ⟨fun _ _ _ => rfl, fun _ _ => rfl, rfl⟩
theorem eqF.tr {a b c : GG} (h : eqF a b) (k : eqF b c) : eqF a c := ⟨fun q h1 h2 => (k.1 q h1 h2).trans (h.1 q h1 h2), fun j hj => (k.2.1 j hj).trans (h.2.1 j hj), k.2.2.trans h.2.2⟩
theorem eqF.x {x y : GG} (h : eqF x y) : eqX x y := ⟨fun a _ _ a3 _ a5 _ _ _ _ _ _ _ _ _ => h.1 a a3 a5, fun j _ => by rw [h.1 25 (by decide) (by decide)], h.2.1, fun j _ => by rw [h.1 48 (by decide) (by decide)], fun j _ => by rw [h.1 49 (by decide) (by decide)], h.2.2⟩
theorem eqF.s38 {x y : GG} (h : eqF x y) (p : Nat) (v : Int32) : eqF x (ik_si y 38 p v) := h.tr ⟨fun a _ a2 => by rw [ik_si_row _ _ _ _ _ a2], fun j _ => by rw [ik_si_row _ _ _ _ _ (by decide)], rfl⟩
