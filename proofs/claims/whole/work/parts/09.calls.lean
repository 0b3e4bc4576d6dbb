-- a method's parameters, the receiver first: a kind (0 int, 1 long), or the cell that it names; what is told are the numbers alone
abbrev ik_sg : Type := List (Nat ⊕ Nat)
def ik_kind : ik_sg → List Value → Prop
  | [], [] => True
  | .inr _ :: r, vs => ik_kind r vs
  | .inl 0 :: r, .int _ :: vs => ik_kind r vs
  | .inl 1 :: r, .long _ :: vs => ik_kind r vs
  | _, _ => False
def ik_wv (ad : Nat → Nat) : ik_sg → List Value → List Value
  | [], _ => []
  | .inr q :: r, vs => .ref (ad q) :: ik_wv ad r vs
  | .inl _ :: r, v :: vs => v :: ik_wv ad r vs
  | .inl _ :: _, [] => []
def ik_eI : Nat → ik_sg → List Value → Nat → Int32
  | s, .inr _ :: r, vs, k => ik_eI (s + 1) r vs k
  | s, .inl _ :: r, .int v :: vs, k => if k = s then v else ik_eI (s + 1) r vs k
  | s, .inl _ :: r, .long _ :: vs, k => ik_eI (s + 2) r vs k
  | _, _, _, _ => 0
def ik_eL : Nat → ik_sg → List Value → Nat → Int64
  | s, .inr _ :: r, vs, k => ik_eL (s + 1) r vs k
  | s, .inl _ :: r, .int _ :: vs, k => ik_eL (s + 1) r vs k
  | s, .inl _ :: r, .long v :: vs, k => if k = s then v else ik_eL (s + 2) r vs k
  | _, _, _, _ => 0
def ik_elv : Nat → ik_sg → ik_LV
  | _, [] => []
  | s, .inr _ :: r => ik_elv (s + 1) r
  | s, .inl 0 :: r => (s, 0) :: ik_elv (s + 1) r
  | s, .inl _ :: r => (s, 1) :: ik_elv (s + 2) r
def ik_erl : Nat → ik_sg → ik_LV
  | _, [] => []
  | s, .inr q :: r => (s, q) :: ik_erl (s + 1) r
  | s, .inl 0 :: r => ik_erl (s + 1) r
  | s, .inl _ :: r => ik_erl (s + 2) r
def ik_wds : ik_sg → Nat
  | [] => 0
  | .inr _ :: r => ik_wds r + 1
  | .inl 0 :: r => ik_wds r + 1
  | .inl _ :: r => ik_wds r + 2
theorem ik_elv_ge : ∀ (sig : ik_sg) (s : Nat), ∀ q ∈ ik_elv s sig, s ≤ q.1
  | [], s, q, h => by simp [ik_elv] at h
  | .inr _ :: r, s, q, h => by
    have := ik_elv_ge r (s + 1) q h
    omega
  | .inl 0 :: r, s, q, h => by
    rcases List.mem_cons.mp h with rfl | h
    · exact Nat.le_refl _
    · have := ik_elv_ge r (s + 1) q h
      omega
  | .inl (n + 1) :: r, s, q, h => by
    rcases List.mem_cons.mp h with rfl | h
    · exact Nat.le_refl _
    · have := ik_elv_ge r (s + 2) q h
      omega
theorem ik_sl1 {v : Value} {vs : List Value} (h : v.category = 1) : (lg_sl (v :: vs)).length = (lg_sl vs).length + 1 := by
  have e : lg_sl (v :: vs) = [.val v] ++ lg_sl vs := by simp [lg_sl, h]
  rw [e, List.length_append]
  simp
  omega
theorem ik_sl2 {v : Value} {vs : List Value} (h : v.category = 2) : (lg_sl (v :: vs)).length = (lg_sl vs).length + 2 := by
  have e : lg_sl (v :: vs) = [.val v, .second] ++ lg_sl vs := by simp [lg_sl, h]
  rw [e, List.length_append]
  simp
  omega
theorem ik_kind_wds {ad : Nat → Nat} : ∀ (sig : ik_sg) (vs : List Value), ik_kind sig vs → (lg_sl (ik_wv ad sig vs)).length = ik_wds sig
  | [], [], _ => rfl
  | .inr q :: r, vs, h => by
    rw [ik_wv, ik_sl1 rfl, ik_kind_wds (ad := ad) r vs h]
    rfl
  | .inl 0 :: r, .int v :: vs, h => by
    rw [ik_wv, ik_sl1 rfl, ik_kind_wds (ad := ad) r vs h]
    rfl
  | .inl 1 :: r, .long v :: vs, h => by
    rw [ik_wv, ik_sl2 rfl, ik_kind_wds (ad := ad) r vs h]
    rfl
theorem ik_entry {ad : Nat → Nat} {g : GG} : ∀ (sig : ik_sg) (vs : List Value) (s : Nat), ik_kind sig vs → (∀ q ∈ ik_erl s sig, (q.1, Value.ref (ad q.2)) ∈ lv_args s (ik_wv ad sig vs)) ∧ ∀ q ∈ ik_elv s sig, (q.1, if q.2 = 1 then Value.long (ik_eL s sig vs q.1) else Value.int (ik_eI s sig vs q.1)) ∈ lv_args s (ik_wv ad sig vs)
  | [], [], s, _ => ⟨fun q h => by simp [ik_erl] at h, fun q h => by simp [ik_elv] at h⟩
  | .inr i :: r, vs, s, h => by
    obtain ⟨h1, h2⟩ := ik_entry (ad := ad) (g := g) r vs (s + 1) h
    refine ⟨fun q hq => ?_, fun q hq => ?_⟩
    · rcases List.mem_cons.mp hq with rfl | hq
      · exact List.mem_cons_self
      · exact List.mem_cons_of_mem _ (by simpa [Value.category] using h1 q hq)
    · exact List.mem_cons_of_mem _ (by simpa [Value.category, ik_eI, ik_eL] using h2 q hq)
  | .inl 0 :: r, .int v :: vs, s, h => by
    obtain ⟨h1, h2⟩ := ik_entry (ad := ad) (g := g) r vs (s + 1) h
    refine ⟨fun q hq => ?_, fun q hq => ?_⟩
    · exact List.mem_cons_of_mem _ (by simpa [Value.category] using h1 q hq)
    · rcases List.mem_cons.mp hq with rfl | hq
      · simp [ik_eI, ik_wv, lv_args]
      · have hne : q.1 ≠ s := by have := ik_elv_ge r (s + 1) q hq; omega
        exact List.mem_cons_of_mem _ (by simpa [Value.category, ik_eI, ik_eL, hne] using h2 q hq)
  | .inl 1 :: r, .long v :: vs, s, h => by
    obtain ⟨h1, h2⟩ := ik_entry (ad := ad) (g := g) r vs (s + 2) h
    refine ⟨fun q hq => ?_, fun q hq => ?_⟩
    · exact List.mem_cons_of_mem _ (by simpa [Value.category] using h1 q hq)
    · rcases List.mem_cons.mp hq with rfl | hq
      · simp [ik_eL, ik_wv, lv_args]
      · have hne : q.1 ≠ s := by have := ik_elv_ge r (s + 2) q hq; omega
        exact List.mem_cons_of_mem _ (by simpa [Value.category, ik_eI, ik_eL, hne] using h2 q hq)
-- what a method does: of its numbers and the system's state, its answer and the new state; and that the machine does so
def ik_okM (wd : List ik_CD) (y : MethodName) (cc : ByteArray) (mL : Nat) (rt : Option FieldType) (k : Nat) (sig : ik_sg) (f : List Value → GG → Option (Value × GG)) : Prop :=
  ∀ (l : Launch) (ad : Nat → Nat) (D : va_G) (cA : Nat → ClassId) (A : Nat → Prop) (g : GG) (vs : List Value) (v : Value) (g' : GG), ik_kind sig vs → f vs g = some (v, g') →
    Met l y (Cond.code y cc mL rt :: lw_gd) (ik_rm k) (va_Pc (ik_wv ad sig vs) (fun U => va_P D vwCl (ik_w wd ad cA g) U.heap ∧ va_K D vwCl (ik_tys cA) U ∧ ik_nest U ∧ ∀ g, va_D A (ik_w wd ad cA g))) (ik_Q wd ad D cA A v g') 0 0 A
abbrev MP (wd : List ik_CD) (y : MethodName) (cc : ByteArray) (mL : Nat) (rt : Option FieldType) (k : Nat) (sig : ik_sg) : Type := { f : List Value → GG → Option (Value × GG) // ik_okM wd y cc mL rt k sig f }
theorem ik_ofW {l : Launch} {y : MethodName} {ws ws' : List Cond} {rm : Room} {Pc : Array Value → State → Prop} {Qc : Array Value → State → Outcome → State → Prop} {mc ms : Nat} {free : Addr → Prop} {cc : ByteArray} {maxL : Nat} {ret : Option FieldType}
    (hy : plainFor y = true) (hw : ws = Cond.code y cc maxL ret :: ws')
    (body : ∀ p e s m args below meth c s₁, BodyLoose p l y (headSpec ws rm) cc maxL ret e s m args below meth c s₁ → c.maxLocals = maxL → Pc args s →
      W p l e (headSpec ws rm).room s m args below meth c s.heap [] 0 0 (MQ below Qc args s mc ms free) (entryFrame m args maxL)) : Met l y ws rm Pc Qc mc ms free := by
  refine MetFree.of_bodySF (code := cc) (maxLocals := maxL) (ret := ret) hy ?_ ?_
  · intro args s m h hn
    obtain ⟨meth, c, h1, h2, h3, h4, h5, h6, -, -⟩ := Cond.code_spec hn (atoms_spec (ws := ws) h _ (by rw [hw]; exact List.mem_cons_self))
    exact ⟨meth, c, h1, h2, h3, h4, h5, h6⟩
  · intro p e s m args below meth c s₁ B hml hP _
    have hh0 : s₁.heap = s.heap := by rw [B.state]; rfl
    obtain ⟨t, a1, o, b1, b2, b3⟩ := body p e s m args below meth c s₁ B hml hP s₁ hh0 (Stand.of_body B)
    exact ⟨t, o, a1, b1, b2, ⟨b3.1, b3.2⟩⟩
def sBody (sig : ik_sg) (b : ST) : List Value → GG → Option (Value × GG) := fun vs g => (b (ik_eI 0 sig vs, ik_eL 0 sig vs, g)).bind fun o => match o with
  | .inr r => some r
  | .inl _ => none
theorem okBody (sc : ik_SC) (y : MethodName) (sig : ik_sg) (body : SP sc) (hy : plainFor y = true) (hrl : sc.2.2.2.2.1 = ik_erl 0 sig) (hown : sc.2.2.2.1 = y.cls) (hsz : ik_wds sig ≤ sc.2.2.1) (hck : (body.1.1 (ik_elv 0 sig) 0).isSome = true) : ik_okM sc.1 y sc.2.1 sc.2.2.1 sc.2.2.2.2.2.2 sc.2.2.2.2.2.1 sig (sBody sig body.1.2) := by
  intro l ad D cA A g vs v g' hkd hf
  refine ik_ofW (cc := sc.2.1) (maxL := sc.2.2.1) (ret := sc.2.2.2.2.2.2) hy rfl ?_
  intro p e s m args below meth c s₁ B hml hv
  obtain ⟨rfl, hP, hK, hN, hD⟩ := hv
  have hts := atoms_spec (ws := Cond.code y sc.2.1 sc.2.2.1 sc.2.2.2.2.2.2 :: lw_gd) B.pre
  have hcls : s.vm.findClass y.cls = some m.cls := findClass_of_methodNamed B.named
  obtain ⟨⟨lv', pc'⟩, hc⟩ := Option.isSome_iff_exists.mp hck
  simp only [sBody, Option.bind_eq_some_iff] at hf
  obtain ⟨o, e1, e2⟩ := hf
  have hl := lv_entry (ik_wv ad sig vs) (n := sc.2.2.1) (by rw [ik_kind_wds sig vs hkd]; exact hsz)
  rw [lg_entry_eq]
  refine body.2 (p, l, e, s, m, (ik_wv ad sig vs).toArray, below, meth, c, ad, D, cA, A, v, g') ⟨B.exec, B.bytes, hml, by rw [hown]; exact hcls, fun w hw => hts w (List.mem_cons_of_mem _ hw), hN, hK, hD, B.returns, B.notSynchronized⟩ (ik_elv 0 sig) 0 lv' pc' (ik_eI 0 sig vs, ik_eL 0 sig vs, g) o hc e1 (fun σ' he => ?_) (fun r he => ?_) s.heap [] _ hP va_S.rf ?_
  · subst he; cases e2
  · subst he
    cases e2
    rfl
  · refine ⟨hl.1, hl.2.1, fun q hq => hl.2.2 q ?_⟩
    obtain ⟨h1, h2⟩ := ik_entry (ad := ad) (g := g) sig vs 0 hkd
    simp only [ik_lv, List.mem_append, List.mem_map] at hq
    rcases hq with ⟨a, ha, rfl⟩ | ⟨a, ha, rfl⟩
    · rw [hrl] at ha
      exact h1 a ha
    · exact h2 a ha
def mkM (sc : ik_SC) (y : MethodName) (sig : ik_sg) (body : SP sc) (hy : plainFor y = true) (hrl : sc.2.2.2.2.1 = ik_erl 0 sig) (hown : sc.2.2.2.1 = y.cls) (hsz : ik_wds sig ≤ sc.2.2.1) (hck : (body.1.1 (ik_elv 0 sig) 0).isSome = true) : MP sc.1 y sc.2.1 sc.2.2.1 sc.2.2.2.2.2.2 sc.2.2.2.2.2.1 sig := ⟨sBody sig body.1.2, okBody sc y sig body hy hrl hown hsz hck⟩
-- numbers put on the stack for a call
def ik_okA (sc : ik_SC) (sig : ik_sg) (chk : ik_LV → Nat → Nat → Option Nat) (sem : SS → Option (List Value × GG)) : Prop :=
  ∀ (x : ik_DX), ik_Cx sc x → ∀ (lv : ik_LV) (d pc pc' : Nat) (st : List Value) (σ : SS) (vs : List Value) (g' : GG), chk lv d pc = some pc' → ik_cat st ≤ d → sem σ = some (vs, g') → ik_kind sig vs ∧ (ik_Go sc x lv pc' ((ik_wv (ik_xad x) sig vs).reverse ++ st) (σ.1, σ.2.1, g') → ik_Go sc x lv pc st σ)
abbrev AP (sc : ik_SC) (sig : ik_sg) : Type := { q : (ik_LV → Nat → Nat → Option Nat) × (SS → Option (List Value × GG)) // ik_okA sc sig q.1 q.2 }
section CA
variable {sc : ik_SC} {sig : ik_sg}
def sNil : SS → Option (List Value × GG) := fun σ => some ([], σ.2.2)
theorem okNil : ik_okA sc [] (fun _ _ pc => some pc) sNil := by
  intro x hC lv d pc pc' st σ vs g' hc hd hs
  cases hc
  cases hs
  exact ⟨trivial, fun h => h⟩
def aNil : AP sc [] := ⟨(fun _ _ pc => some pc, sNil), okNil⟩
def sArgI (e : SS → Option (Int32 × GG)) (r : SS → Option (List Value × GG)) : SS → Option (List Value × GG) := fun σ => (e σ).bind fun q => (r (σ.1, σ.2.1, q.2)).map fun w => (.int q.1 :: w.1, w.2)
theorem okArgI (e : EP sc) (r : AP sc sig) : ik_okA sc (.inl 0 :: sig) (fun lv d pc => (e.1.1 lv d pc).bind fun p1 => r.1.1 lv (d + 1) p1) (sArgI e.1.2 r.1.2) := by
  intro x hC lv d pc pc' st σ vs g' hc hd hs
  simp only [Option.bind_eq_some_iff] at hc
  obtain ⟨p1, h1, h2⟩ := hc
  simp only [sArgI, Option.bind_eq_some_iff, Option.map_eq_some_iff] at hs
  obtain ⟨⟨v1, g1⟩, e1, ⟨ws, g2⟩, e2, e3⟩ := hs
  cases e3
  obtain ⟨hk, hgo⟩ := r.2 x hC lv (d + 1) p1 pc' (.int v1 :: st) (σ.1, σ.2.1, g1) ws g2 h2 (ik_cat_i hd) e2
  refine ⟨hk, fun h => e.2 x hC lv d pc p1 st σ v1 g1 h1 hd e1 (hgo ?_)⟩
  simpa [ik_wv] using h
def aI (e : EP sc) (r : AP sc sig) : AP sc (.inl 0 :: sig) := ⟨(fun lv d pc => (e.1.1 lv d pc).bind fun p1 => r.1.1 lv (d + 1) p1, sArgI e.1.2 r.1.2), okArgI e r⟩
def sArgL (e : SS → Option (Int64 × GG)) (r : SS → Option (List Value × GG)) : SS → Option (List Value × GG) := fun σ => (e σ).bind fun q => (r (σ.1, σ.2.1, q.2)).map fun w => (.long q.1 :: w.1, w.2)
theorem okArgL (e : JP sc) (r : AP sc sig) : ik_okA sc (.inl 1 :: sig) (fun lv d pc => (e.1.1 lv d pc).bind fun p1 => r.1.1 lv (d + 2) p1) (sArgL e.1.2 r.1.2) := by
  intro x hC lv d pc pc' st σ vs g' hc hd hs
  simp only [Option.bind_eq_some_iff] at hc
  obtain ⟨p1, h1, h2⟩ := hc
  simp only [sArgL, Option.bind_eq_some_iff, Option.map_eq_some_iff] at hs
  obtain ⟨⟨v1, g1⟩, e1, ⟨ws, g2⟩, e2, e3⟩ := hs
  cases e3
  obtain ⟨hk, hgo⟩ := r.2 x hC lv (d + 2) p1 pc' (.long v1 :: st) (σ.1, σ.2.1, g1) ws g2 h2 (ik_cat_l hd) e2
  refine ⟨hk, fun h => e.2 x hC lv d pc p1 st σ v1 g1 h1 hd e1 (hgo ?_)⟩
  simpa [ik_wv] using h
def aL (e : JP sc) (r : AP sc sig) : AP sc (.inl 1 :: sig) := ⟨(fun lv d pc => (e.1.1 lv d pc).bind fun p1 => r.1.1 lv (d + 2) p1, sArgL e.1.2 r.1.2), okArgL e r⟩
theorem okArgR {id : Nat} (e : RP sc id) (r : AP sc sig) : ik_okA sc (.inr id :: sig) (fun lv d pc => (e.1 lv d pc).bind fun p1 => r.1.1 lv (d + 1) p1) r.1.2 := by
  intro x hC lv d pc pc' st σ vs g' hc hd hs
  simp only [Option.bind_eq_some_iff] at hc
  obtain ⟨p1, h1, h2⟩ := hc
  obtain ⟨hk, hgo⟩ := r.2 x hC lv (d + 1) p1 pc' (.ref (ik_xad x id) :: st) σ vs g' h2 (ik_cat_r hd) hs
  refine ⟨hk, fun h => e.2 x hC lv d pc p1 st σ h1 (hgo ?_)⟩
  simpa [ik_wv] using h
def aR {id : Nat} (e : RP sc id) (r : AP sc sig) : AP sc (.inr id :: sig) := ⟨(fun lv d pc => (e.1 lv d pc).bind fun p1 => r.1.1 lv (d + 1) p1, r.1.2), okArgR e r⟩
end CA
-- a call that the tables link: by it the machine runs the method that a contract tells of
def ik_LK (sc : ik_SC) (y : MethodName) (cc : ByteArray) (mL : Nat) (rt : Option FieldType) (k : Nat) (sig : ik_sg) (ins : Instr) : Prop :=
  ∀ (p : Program) (l : Launch) (e : Env) (s : State) (m : MethodId) (args : Array Value) (below : List Frame) (meth : Method) (c : Code) (ad : Nat → Nat) (D : va_G) (cA : Nat → ClassId) (A : Nat → Prop) (v0 : Value) (g0 : GG), ik_Cx sc (p, l, e, s, m, args, below, meth, c, ad, D, cA, A, v0, g0) →
    ∀ (H : Heap) (locs : List Loc) (ls : Array Slot) (pc : Nat) (st vs : List Value) (g : GG) (v : Value) (g' : GG), Met l y (Cond.code y cc mL rt :: lw_gd) (ik_rm k) (va_Pc (ik_wv ad sig vs) (fun U => va_P D vwCl (ik_w sc.1 ad cA g) U.heap ∧ va_K D vwCl (ik_tys cA) U ∧ ik_nest U ∧ ∀ g, va_D A (ik_w sc.1 ad cA g))) (ik_Q sc.1 ad D cA A v g') 0 0 A →
    va_P D vwCl (ik_w sc.1 ad cA g) H → decode sc.2.1 pc = .ok (ins, 3) → ik_cat st ≤ 8 → ik_kind sig vs → ls.size = sc.2.2.1 →
    ∃ a : Array Value, va_Run p l e (ik_rm sc.2.2.2.2.2.1) s m args below meth c H locs 0 0 0 0 (F0 m pc ls ((ik_wv ad sig vs).reverse ++ st)) st (ik_Q sc.1 ad D cA A v g' a) A
-- what the tables say of a method
def ik_MF (y : MethodName) (cc : ByteArray) (mL : Nat) (rt : Option FieldType) (n : Nat) : Prop := Cond.code y cc mL rt ∈ lw_tbl ∧ Cond.initialized y.cls ∈ lw_tbl ∧ (y.cls ≠ "java/lang/invoke/MethodHandle" ∧ y.cls ≠ "java/lang/invoke/VarHandle" ∧ (parseMethodDescriptor y.desc).map (fun d => d.parameters.length) = some n)
def ik_MV (y : MethodName) : Prop := Cond.instanceMethod y ∈ lw_tbl ∧ Cond.selects y.cls y y ∈ lw_tbl
theorem ik_goodIn {ws : List Cond} (h : ∀ w ∈ ws, w ∈ lw_gd) : GoodIn lw_gd ws := fun w hw => ⟨h w hw, ik_gd_good w (h w hw)⟩
theorem ik_goodM {y : MethodName} {cc : ByteArray} {mL : Nat} {rt : Option FieldType} {n : Nat} (h : ik_MF y cc mL rt n) : GoodIn lw_gd (Cond.code y cc mL rt :: lw_gd) := ik_goodIn (fun w hw => by
  rcases List.mem_cons.mp hw with rfl | hw
  · exact ik_gd h.1 rfl
  · exact hw)
theorem ik_blind {ad : Nat → Nat} {wd : List ik_CD} {D : va_G} {cA : Nat → ClassId} {A : Nat → Prop} {g : GG} {vs : List Value} : FrameBlind (va_Pc vs (fun U => va_P D vwCl (ik_w wd ad cA g) U.heap ∧ va_K D vwCl (ik_tys cA) U ∧ ik_nest U ∧ ∀ g, va_D A (ik_w wd ad cA g))) := by
  intro a U gg mk q
  obtain ⟨q0, qP, qK, qN, qD⟩ := q
  exact ⟨q0, qP, va_K.moved (u := U) (U := U.calling gg mk a) (Vm.Alike.refl U.vm) qK, qN.same rfl, qD⟩
theorem ik_kind_len {ad : Nat → Nat} : ∀ (sig : ik_sg) (vs : List Value), ik_kind sig vs → (ik_wv ad sig vs).length = sig.length
  | [], [], _ => rfl
  | .inr q :: r, vs, h => by simp [ik_wv, ik_kind_len (ad := ad) r vs h]
  | .inl 0 :: r, .int v :: vs, h => by simp [ik_wv, ik_kind_len (ad := ad) r vs h]
  | .inl 1 :: r, .long v :: vs, h => by simp [ik_wv, ik_kind_len (ad := ad) r vs h]
theorem lkV {sc : ik_SC} {y : MethodName} {cc : ByteArray} {mL : Nat} {rt : Option FieldType} {k o n idx ci : Nat} {sig : ik_sg} {T : u_T} {N : Nat} {fds : List (Nat ⊕ Nat)} (hf : ik_MF y cc mL rt n) (hv : ik_MV y) (hl : Cond.methodLink sc.2.2.2.1 idx y ∈ lw_tbl) (ho : sc.1[o]? = some (.inr (ci, fds))) (hci : vwCl[ci]? = some (y.cls, T, N)) (hn : sig.length = n) (hk : k + 1 ≤ sc.2.2.2.2.2.1) (hm : mL ≤ 181) : ik_LK sc y cc mL rt k (.inr o :: sig) (.invokevirtual idx) := by
  intro p l e s m args below meth c ad D cA A v0 g0 hC H locs ls pc st vs g v g' hM hP hdg hst hkd hls
  obtain ⟨hx, hb, hml, hown, hts, hns, hK, hD, hr, hlk⟩ := hC
  have hcell : (ik_w sc.1 ad cA g)[o]? = some (ad o, .inr (ci, ik_fv ad g o 0 fds)) := by rw [ik_w_at, ho]; rfl
  refine ⟨(ik_wv ad (.inr o :: sig) vs).toArray, ?_⟩
  have hGo : GoodIn lw_gd (wsV sc.2.2.2.1 idx y.cls y (Cond.code y cc mL rt :: lw_gd)) := ik_goodIn (fun w hw => by
    unfold wsV at hw
    rcases List.mem_append.mp hw with hw | hw
    · simp only [List.mem_cons, List.not_mem_nil, or_false] at hw
      rcases hw with rfl | rfl | rfl | rfl
      · exact ik_gd hl rfl
      · exact ik_gd hv.1 rfl
      · exact ik_gd hv.2 rfl
      · exact ik_gd hf.2.1 rfl
    · exact (ik_goodM hf w hw).1)
  refine va_runV (As := ik_wv ad sig vs) (rest := st) (C := y.cls) (n := n) (b := ad o) ⟨hx, hb, hml, hown, hts⟩ hM (cwV n hts hGo rfl rfl rfl ⟨rfl, hf.2.2⟩ ⟨hk, by show 8 + (mL + 11) + 200 * k ≤ 200 * _; omega⟩) ⟨ik_blind, va_recv hK hP hci hcell, fun U hU hW => ⟨rfl, by rw [hU]; exact hP, va_K.moved hW.alike hK, hns.warm hW, hD⟩⟩ rfl (by rw [ik_kind_len sig vs hkd]; exact hn) hls ?_ (lv_room hst) hdg ⟨Nat.le_refl _, Nat.le_refl _⟩
  simp [ik_wv]
theorem lkS {sc : ik_SC} {y : MethodName} {cc : ByteArray} {mL : Nat} {rt : Option FieldType} {k n idx : Nat} {sig : ik_sg} (hf : ik_MF y cc mL rt n) (hv : Cond.static y ∈ lw_tbl) (hl : Cond.methodLink sc.2.2.2.1 idx y ∈ lw_tbl) (hn : sig.length = n) (hk : k + 1 ≤ sc.2.2.2.2.2.1) (hm : mL ≤ 181) : ik_LK sc y cc mL rt k sig (.invokestatic idx) := by
  intro p l e s m args below meth c ad D cA A v0 g0 hC H locs ls pc st vs g v g' hM hP hdg hst hkd hls
  obtain ⟨hx, hb, hml, hown, hts, hns, hK, hD, hr, hlk⟩ := hC
  refine ⟨(ik_wv ad sig vs).toArray, ?_⟩
  have hGo : GoodIn lw_gd (va_wsS sc.2.2.2.1 idx y (Cond.code y cc mL rt :: lw_gd)) := ik_goodIn (fun w hw => by
    unfold va_wsS at hw
    rcases List.mem_append.mp hw with hw | hw
    · simp only [List.mem_cons, List.not_mem_nil, or_false] at hw
      rcases hw with rfl | rfl | rfl
      · exact ik_gd hl rfl
      · exact ik_gd hv rfl
      · exact ik_gd hf.2.1 rfl
    · exact (ik_goodM hf w hw).1)
  exact va_runS (As := ik_wv ad sig vs) (rest := st) (n := n) ⟨hx, hb, hml, hown, hts⟩ hM (va_cwS n hts hGo rfl rfl rfl hf.2.2 ⟨hk, by show 8 + (mL + 11) + 200 * k ≤ 200 * _; omega⟩) ⟨ik_blind, fun U hU hW => ⟨rfl, by rw [hU]; exact hP, va_K.moved hW.alike hK, hns.warm hW, hD⟩⟩ rfl (by rw [ik_kind_len sig vs hkd]; exact hn) hls rfl (lv_room hst) hdg ⟨Nat.le_refl _, Nat.le_refl _⟩
theorem lkN {sc : ik_SC} {y : MethodName} {cc : ByteArray} {mL : Nat} {rt : Option FieldType} {k n idx : Nat} {sig : ik_sg} {host : String} (hf : ik_MF y cc mL rt n) (hv : Cond.static y ∈ lw_tbl) (hl : Cond.methodLinkNest sc.2.2.2.1 idx y host ∈ lw_tbl) (hn : sig.length = n) (hk : k + 1 ≤ sc.2.2.2.2.2.1) (hm : mL ≤ 181) : ik_LK sc y cc mL rt k sig (.invokestatic idx) := by
  intro p l e s m args below meth c ad D cA A v0 g0 hC H locs ls pc st vs g v g' hM hP hdg hst hkd hls
  obtain ⟨hx, hb, hml, hown, hts, hns, hK, hD, hr, hlk⟩ := hC
  refine ⟨(ik_wv ad sig vs).toArray, ?_⟩
  exact va_runSN (As := ik_wv ad sig vs) (rest := st) (n := n) ⟨hx, hb, hml, hown, hts⟩ hM ⟨va_cnB n hts (ik_goodM hf) rfl rfl rfl (hns _ _ _ _ hl) (hts _ (ik_gd hf.2.1 rfl)) hf.2.2 ⟨hk, by show 8 + (mL + 11) + 200 * k ≤ 200 * _; omega⟩, hts _ (ik_gd hv rfl), trivial⟩ ⟨ik_blind, fun U hU hW => ⟨rfl, by rw [hU]; exact hP, va_K.moved hW.alike hK, hns.warm hW, hD⟩⟩ rfl (by rw [ik_kind_len sig vs hkd]; exact hn) hls rfl (lv_room hst) hdg ⟨Nat.le_refl _, Nat.le_refl _⟩
-- behind a call
theorem ik_call_i {sc : ik_SC} {y : MethodName} {cc : ByteArray} {mL : Nat} {rt : Option FieldType} {k : Nat} {sig : ik_sg} {ins : Instr} (h : ik_LK sc y cc mL rt k sig ins) (M : MP sc.1 y cc mL rt k sig) {x : ik_DX} (hC : ik_Cx sc x) {lv : ik_LV} {pc : Nat} {st vs : List Value} {σ : SS} {r : Int32} {g' : GG} (hf : M.1 vs σ.2.2 = some (.int r, g')) (hkd : ik_kind sig vs) (hst : ik_cat st ≤ 8) (hdg : decode sc.2.1 pc = .ok (ins, 3)) (hk : ik_Go sc x lv (pc + 3) (.int r :: st) (σ.1, σ.2.1, g')) : ik_Go sc x lv pc ((ik_wv (ik_xad x) sig vs).reverse ++ st) σ := by
  obtain ⟨p, l, e, s, m, args, below, meth, c, ad, D, cA, A, v0, g0⟩ := x
  intro H locs ls hP hS hl
  obtain ⟨a, hrun⟩ := h p l e s m args below meth c ad D cA A v0 g0 hC H locs ls pc st vs σ.2.2 (.int r) g' (M.2 l ad D cA A σ.2.2 vs (.int r) g' hkd hf) hP hdg hst hkd hl.1
  refine va_calli (a := a) (S := Unit) (post := fun r' _ => r' = r) (B := ik_B sc.1 ad D cA g') hrun hS (fun _ _ h => h) (fun _ h => h) (fun r' u t H1 locs1 ht hvm hw hB hz hk1 hS1 => ?_)
  subst hw
  subst ht
  exact hk t.heap locs1 ls hB hS1 hl
theorem ik_call_l {sc : ik_SC} {y : MethodName} {cc : ByteArray} {mL : Nat} {rt : Option FieldType} {k : Nat} {sig : ik_sg} {ins : Instr} (h : ik_LK sc y cc mL rt k sig ins) (M : MP sc.1 y cc mL rt k sig) {x : ik_DX} (hC : ik_Cx sc x) {lv : ik_LV} {pc : Nat} {st vs : List Value} {σ : SS} {r : Int64} {g' : GG} (hf : M.1 vs σ.2.2 = some (.long r, g')) (hkd : ik_kind sig vs) (hst : ik_cat st ≤ 8) (hdg : decode sc.2.1 pc = .ok (ins, 3)) (hk : ik_Go sc x lv (pc + 3) (.long r :: st) (σ.1, σ.2.1, g')) : ik_Go sc x lv pc ((ik_wv (ik_xad x) sig vs).reverse ++ st) σ := by
  obtain ⟨p, l, e, s, m, args, below, meth, c, ad, D, cA, A, v0, g0⟩ := x
  intro H locs ls hP hS hl
  obtain ⟨a, hrun⟩ := h p l e s m args below meth c ad D cA A v0 g0 hC H locs ls pc st vs σ.2.2 (.long r) g' (M.2 l ad D cA A σ.2.2 vs (.long r) g' hkd hf) hP hdg hst hkd hl.1
  refine va_calll (a := a) (S := Unit) (post := fun r' _ => r' = r) (B := ik_B sc.1 ad D cA g') hrun hS (fun _ _ h => h) (fun _ h => h) (fun r' u t H1 locs1 ht hvm hw hB hz hk1 hS1 => ?_)
  subst hw
  subst ht
  exact hk t.heap locs1 ls hB hS1 hl
theorem ik_call_v {sc : ik_SC} {y : MethodName} {cc : ByteArray} {mL : Nat} {rt : Option FieldType} {k : Nat} {sig : ik_sg} {ins : Instr} (h : ik_LK sc y cc mL rt k sig ins) (M : MP sc.1 y cc mL rt k sig) {x : ik_DX} (hC : ik_Cx sc x) {lv : ik_LV} {pc : Nat} {st vs : List Value} {σ : SS} {g' : GG} (hf : M.1 vs σ.2.2 = some (.null, g')) (hkd : ik_kind sig vs) (hst : ik_cat st ≤ 8) (hdg : decode sc.2.1 pc = .ok (ins, 3)) (hk : ik_Go sc x lv (pc + 3) st (σ.1, σ.2.1, g')) : ik_Go sc x lv pc ((ik_wv (ik_xad x) sig vs).reverse ++ st) σ := by
  obtain ⟨p, l, e, s, m, args, below, meth, c, ad, D, cA, A, v0, g0⟩ := x
  intro H locs ls hP hS hl
  obtain ⟨a, hrun⟩ := h p l e s m args below meth c ad D cA A v0 g0 hC H locs ls pc st vs σ.2.2 .null g' (M.2 l ad D cA A σ.2.2 vs .null g' hkd hf) hP hdg hst hkd hl.1
  refine va_callv (a := a) (S := Unit) (post := fun _ => True) (B := ik_B sc.1 ad D cA g') hrun hS (fun _ _ h => h) (fun _ h => h) (fun u t H1 locs1 ht hvm hw hB hz hk1 hS1 => ?_)
  subst ht
  exact hk t.heap locs1 ls hB hS1 hl
section CB
variable {sc : ik_SC} {y : MethodName} {cc : ByteArray} {mL : Nat} {rt : Option FieldType} {k : Nat} {sig : ik_sg}
def cCall (cc : ByteArray) (ins : Instr) (d pc : Nat) : Option Nat := if d ≤ 8 then (match decode cc pc with
  | .ok (i, 3) => if i = ins then some (pc + 3) else none
  | _ => none) else none
theorem cCall_ok {cc : ByteArray} {ins : Instr} {d pc pc' : Nat} (h : cCall cc ins d pc = some pc') : d ≤ 8 ∧ decode cc pc = .ok (ins, 3) ∧ pc' = pc + 3 := by
  unfold cCall at h
  split at h
  · rename_i hd
    split at h
    · rename_i j hdg
      split at h
      · rename_i he
        subst he
        cases h
        exact ⟨hd, hdg, rfl⟩
      · cases h
    · cases h
  · cases h
def sCall (f : List Value → GG → Option (Value × GG)) (a : SS → Option (List Value × GG)) : SS → Option (Int32 × GG) := fun σ => (a σ).bind fun q => (f q.1 q.2).bind fun r => match r with
  | (.int v, g) => some (v, g)
  | _ => none
theorem okCall (ins : Instr) (h : ik_LK sc y cc mL rt k sig ins) (M : MP sc.1 y cc mL rt k sig) (a : AP sc sig) : ik_okE sc (fun lv d pc => (a.1.1 lv d pc).bind fun p1 => cCall sc.2.1 ins d p1) (sCall M.1 a.1.2) := by
  intro x hC lv d pc pc' st σ v g' hc hd hs hk
  simp only [Option.bind_eq_some_iff] at hc
  obtain ⟨p1, h1, h2⟩ := hc
  obtain ⟨hd8, hdg, rfl⟩ := cCall_ok h2
  simp only [sCall, Option.bind_eq_some_iff] at hs
  obtain ⟨⟨vs, g1⟩, e1, ⟨w, g2⟩, e2, e3⟩ := hs
  obtain ⟨hkd, hgo⟩ := a.2 x hC lv d pc p1 st σ vs g1 h1 hd e1
  cases w with
  | int r =>
    cases e3
    exact hgo (ik_call_i (σ := (σ.1, σ.2.1, g1)) h M hC e2 hkd (Nat.le_trans hd hd8) hdg hk)
  | _ => cases e3
def eCall (ins : Instr) (h : ik_LK sc y cc mL rt k sig ins) (M : MP sc.1 y cc mL rt k sig) (a : AP sc sig) : EP sc := ⟨(fun lv d pc => (a.1.1 lv d pc).bind fun p1 => cCall sc.2.1 ins d p1, sCall M.1 a.1.2), okCall ins h M a⟩
def sCallL (f : List Value → GG → Option (Value × GG)) (a : SS → Option (List Value × GG)) : SS → Option (Int64 × GG) := fun σ => (a σ).bind fun q => (f q.1 q.2).bind fun r => match r with
  | (.long v, g) => some (v, g)
  | _ => none
theorem okCallL (ins : Instr) (h : ik_LK sc y cc mL rt k sig ins) (M : MP sc.1 y cc mL rt k sig) (a : AP sc sig) : ik_okL sc (fun lv d pc => (a.1.1 lv d pc).bind fun p1 => cCall sc.2.1 ins d p1) (sCallL M.1 a.1.2) := by
  intro x hC lv d pc pc' st σ v g' hc hd hs hk
  simp only [Option.bind_eq_some_iff] at hc
  obtain ⟨p1, h1, h2⟩ := hc
  obtain ⟨hd8, hdg, rfl⟩ := cCall_ok h2
  simp only [sCallL, Option.bind_eq_some_iff] at hs
  obtain ⟨⟨vs, g1⟩, e1, ⟨w, g2⟩, e2, e3⟩ := hs
  obtain ⟨hkd, hgo⟩ := a.2 x hC lv d pc p1 st σ vs g1 h1 hd e1
  cases w with
  | long r =>
    cases e3
    exact hgo (ik_call_l (σ := (σ.1, σ.2.1, g1)) h M hC e2 hkd (Nat.le_trans hd hd8) hdg hk)
  | _ => cases e3
def lCall (ins : Instr) (h : ik_LK sc y cc mL rt k sig ins) (M : MP sc.1 y cc mL rt k sig) (a : AP sc sig) : JP sc := ⟨(fun lv d pc => (a.1.1 lv d pc).bind fun p1 => cCall sc.2.1 ins d p1, sCallL M.1 a.1.2), okCallL ins h M a⟩
def sDo (f : List Value → GG → Option (Value × GG)) (a : SS → Option (List Value × GG)) : ST := fun σ => (a σ).bind fun q => (f q.1 q.2).bind fun r => match r with
  | (.null, g) => some (.inl (σ.1, σ.2.1, g))
  | _ => none
theorem okDo (ins : Instr) (h : ik_LK sc y cc mL rt k sig ins) (M : MP sc.1 y cc mL rt k sig) (a : AP sc sig) : ik_okS sc (fun lv pc => (a.1.1 lv 0 pc).bind fun p1 => (cCall sc.2.1 ins 0 p1).map fun p2 => (lv, p2)) (sDo M.1 a.1.2) := by
  intro x hC lv pc lv' pc' σ o hc hs hk hr
  simp only [Option.bind_eq_some_iff, Option.map_eq_some_iff] at hc
  obtain ⟨p1, h1, p2, h2, h3⟩ := hc
  cases h3
  obtain ⟨hd8, hdg, rfl⟩ := cCall_ok h2
  simp only [sDo, Option.bind_eq_some_iff] at hs
  obtain ⟨⟨vs, g1⟩, e1, ⟨w, g2⟩, e2, e3⟩ := hs
  obtain ⟨hkd, hgo⟩ := a.2 x hC lv 0 pc p1 [] σ vs g1 h1 ik_cat_0 e1
  cases w with
  | null =>
    cases e3
    exact hgo (ik_call_v (σ := (σ.1, σ.2.1, g1)) h M hC e2 hkd (Nat.zero_le _) hdg (hk _ rfl))
  | _ => cases e3
def pDo (ins : Instr) (h : ik_LK sc y cc mL rt k sig ins) (M : MP sc.1 y cc mL rt k sig) (a : AP sc sig) : SP sc := ⟨(fun lv pc => (a.1.1 lv 0 pc).bind fun p1 => (cCall sc.2.1 ins 0 p1).map fun p2 => (lv, p2), sDo M.1 a.1.2), okDo ins h M a⟩
-- an int dropped
def sPop (e : SS → Option (Int32 × GG)) : ST := fun σ => (e σ).map fun q => .inl (σ.1, σ.2.1, q.2)
theorem okPop (e : EP sc) : ik_okS sc (fun lv pc => (e.1.1 lv 0 pc).bind fun p1 => (cOp sc.2.1 .pop p1).map fun p2 => (lv, p2)) (sPop e.1.2) := by
  intro x hC lv pc lv' pc' σ o hc hs hk hr
  simp only [Option.bind_eq_some_iff, Option.map_eq_some_iff] at hc
  obtain ⟨p1, h1, p2, h2, h3⟩ := hc
  cases h3
  obtain ⟨hdg, rfl⟩ := cOp_ok h2
  simp only [sPop, Option.map_eq_some_iff] at hs
  obtain ⟨⟨v1, g1⟩, e1, e2⟩ := hs
  have hk := hk _ e2.symm
  refine e.2 x hC lv 0 pc p1 [] σ v1 g1 h1 ik_cat_0 e1 ?_
  obtain ⟨p, l, e, s, m, args, below, meth, c, ad, D, cA, A, v0, g0⟩ := x
  obtain ⟨hx, hb, hml, hown, hts, hns, hK, hD, hr, hlk⟩ := hC
  intro H locs ls hP hS hl
  exact lv_pop hx hb hdg rfl (hk H locs ls hP hS hl)
def pPop (e : EP sc) : SP sc := ⟨(fun lv pc => (e.1.1 lv 0 pc).bind fun p1 => (cOp sc.2.1 .pop p1).map fun p2 => (lv, p2), sPop e.1.2), okPop e⟩
end CB
-- no such call is ever made
def mFail (wd : List ik_CD) (y : MethodName) (cc : ByteArray) (mL : Nat) (rt : Option FieldType) (k : Nat) (sig : ik_sg) : MP wd y cc mL rt k sig := ⟨fun _ _ => none, fun _ _ _ _ _ _ _ _ _ _ h => by cases h⟩
