-- the words that every method of ours takes along: those that stay as classes warm up; and the links between nest mates
def lw_gd : List Cond := lw_tbl.filter goodWord
theorem ik_gd {w : Cond} (h : w ∈ lw_tbl) (hg : goodWord w = true) : w ∈ lw_gd := List.mem_filter.mpr ⟨h, hg⟩
theorem ik_gd_good : ∀ w ∈ lw_gd, (w.onTables && w.keeps) = true ∨ ∃ ty, w = .arrayClass ty := fun _ h => good_of_word (List.mem_filter.mp h).2
theorem ik_lay_good (C : String) (T : u_T) (k : Nat) : goodWord (u_lay C T k) = true := by
  unfold u_lay
  split <;> rfl
theorem ik_gd_lays {C : String} {T : u_T} {N : Nat} (h : ∀ w ∈ u_ws C T N, w ∈ lw_tbl) : ∀ w ∈ u_ws C T N, w ∈ lw_gd := by
  intro w hw
  obtain ⟨k, -, rfl⟩ := List.mem_map.mp hw
  exact ik_gd (h _ hw) (ik_lay_good C T k)
def ik_nest (U : State) : Prop := ∀ (own : String) (i : Nat) (y : MethodName) (host : String), Cond.methodLinkNest own i y host ∈ lw_tbl → va_Nw (.methodLinkNest own i y host) U
theorem ik_nest.warm {s U : State} (hW : s.WarmedH U.vm) (h : ik_nest s) : ik_nest U := fun own i y host hm => (h own i y host hm).warmM hW
theorem ik_nest.same {u U : State} (h : u.vm = U.vm) (hn : ik_nest u) : ik_nest U := fun own i y host hm => (hn own i y host hm).same rfl h
/-! the state of a system: what its cells hold, by the cell's number and the place in it (ints; longs) -/
abbrev GG : Type := (Nat → Nat → Int32) × (Nat → Nat → Int64)
/-- a method's state: its ints and longs by their places among the locals, and the system's state -/
abbrev SS : Type := (Nat → Int32) × (Nat → Int64) × GG
/-- a cell: an array (kind, length) or an object (class, its fields: a kind or the cell that it names). Kinds: 0 int, 1 long, 2 byte, 3 boolean -/
abbrev ik_CD : Type := (Nat × Nat) ⊕ (Nat × List (Nat ⊕ Nat))
def ik_ty : Nat → FieldType
  | 0 => .int
  | 1 => .long
  | 2 => .byte
  | _ => .boolean
abbrev ik_tys (cA : Nat → ClassId) : List (ClassId × FieldType) := [(cA 0, .int), (cA 1, .long), (cA 2, .byte), (cA 3, .boolean)]
def ik_fv (ad : Nat → Nat) (g : GG) (id : Nat) : Nat → List (Nat ⊕ Nat) → List Value
  | _, [] => []
  | j, .inl t :: r => (if t = 1 then .long (g.2 id j) else .int (g.1 id j)) :: ik_fv ad g id (j + 1) r
  | j, .inr q :: r => .ref (ad q) :: ik_fv ad g id (j + 1) r
def ik_ce (ad : Nat → Nat) (cA : Nat → ClassId) (g : GG) (id : Nat) : ik_CD → va_E
  | .inl (k, n) => .inl (cA k, n, if k = 1 then .inr (.inl (g.2 id)) else .inl (g.1 id))
  | .inr (ci, fds) => .inr (ci, ik_fv ad g id 0 fds)
def ik_w (wd : List ik_CD) (ad : Nat → Nat) (cA : Nat → ClassId) (g : GG) : va_W := wd.mapIdx (fun id cd => (ad id, ik_ce ad cA g id cd))
theorem ik_w_at (wd : List ik_CD) (ad : Nat → Nat) (cA : Nat → ClassId) (g : GG) (id : Nat) : (ik_w wd ad cA g)[id]? = (wd[id]?).map (fun cd => (ad id, ik_ce ad cA g id cd)) := by
  simp [ik_w, List.getElem?_mapIdx]
theorem ik_fv_congr {ad : Nat → Nat} {g g' : GG} {id : Nat} (h1 : g.1 id = g'.1 id) (h2 : g.2 id = g'.2 id) : ∀ (fds : List (Nat ⊕ Nat)) (j : Nat), ik_fv ad g id j fds = ik_fv ad g' id j fds
  | [], _ => rfl
  | .inl t :: r, j => by simp only [ik_fv, h1, h2, ik_fv_congr h1 h2 r (j + 1)]
  | .inr q :: r, j => by simp only [ik_fv, ik_fv_congr h1 h2 r (j + 1)]
theorem ik_ce_congr {ad : Nat → Nat} {cA : Nat → ClassId} {g g' : GG} {id : Nat} (h1 : g.1 id = g'.1 id) (h2 : g.2 id = g'.2 id) (cd : ik_CD) : ik_ce ad cA g id cd = ik_ce ad cA g' id cd := by
  rcases cd with ⟨k, n⟩ | ⟨ci, fds⟩
  · simp only [ik_ce, h1, h2]
  · simp only [ik_ce, ik_fv_congr h1 h2]
theorem ik_fv_at {ad : Nat → Nat} {g : GG} {id : Nat} : ∀ (fds : List (Nat ⊕ Nat)) (j k : Nat), (ik_fv ad g id j fds)[k]? = (fds[k]?).map (fun fd => match fd with
    | .inl t => if t = 1 then Value.long (g.2 id (j + k)) else Value.int (g.1 id (j + k))
    | .inr q => Value.ref (ad q))
  | [], j, k => by simp [ik_fv]
  | .inl t :: r, j, 0 => by simp [ik_fv]
  | .inr q :: r, j, 0 => by simp [ik_fv]
  | .inl t :: r, j, k + 1 => by
    have h := ik_fv_at (ad := ad) (g := g) (id := id) r (j + 1) k
    simp only [ik_fv, List.getElem?_cons_succ, h, show j + 1 + k = j + (k + 1) by omega]
  | .inr q :: r, j, k + 1 => by
    have h := ik_fv_at (ad := ad) (g := g) (id := id) r (j + 1) k
    simp only [ik_fv, List.getElem?_cons_succ, h, show j + 1 + k = j + (k + 1) by omega]
theorem ik_fv_len {ad : Nat → Nat} {g : GG} {id : Nat} : ∀ (fds : List (Nat ⊕ Nat)) (j : Nat), (ik_fv ad g id j fds).length = fds.length
  | [], j => rfl
  | .inl t :: r, j => by simp [ik_fv, ik_fv_len r]
  | .inr q :: r, j => by simp [ik_fv, ik_fv_len r]
theorem ik_w_set {wd : List ik_CD} {ad : Nat → Nat} {cA : Nat → ClassId} {g g' : GG} {id : Nat} {cd : ik_CD} {e : va_E} (hc : wd[id]? = some cd) (he : ik_ce ad cA g' id cd = e) (h : ∀ a, a ≠ id → g.1 a = g'.1 a ∧ g.2 a = g'.2 a) : (ik_w wd ad cA g).set id (ad id, e) = ik_w wd ad cA g' := by
  refine List.ext_getElem? fun k => ?_
  by_cases hk : k = id
  · subst hk
    have hl : k < (ik_w wd ad cA g).length := (List.getElem?_eq_some_iff.mp (show (ik_w wd ad cA g)[k]? = some _ by rw [ik_w_at, hc]; rfl)).1
    rw [List.getElem?_set_self hl, ik_w_at, hc, ← he]
    rfl
  · rw [List.getElem?_set_ne (Ne.symm hk), ik_w_at, ik_w_at]
    cases wd[k]? with
    | none => rfl
    | some cd => simp only [Option.map_some, ik_ce_congr (h k hk).1 (h k hk).2]
/-- an int, a long put at a place of a cell -/
def ik_si (g : GG) (id j : Nat) (x : Int32) : GG := (fun a b => if a = id ∧ b = j then x else g.1 a b, g.2)
def ik_sl (g : GG) (id j : Nat) (x : Int64) : GG := (g.1, fun a b => if a = id ∧ b = j then x else g.2 a b)
theorem ik_w_si_arr {wd : List ik_CD} {ad : Nat → Nat} {cA : Nat → ClassId} {g : GG} {id k n j : Nat} {x : Int32} (hc : wd[id]? = some (.inl (k, n))) (hk : k ≠ 1) : (ik_w wd ad cA g).set id (ad id, .inl (cA k, n, .inl (upd (g.1 id) j x))) = ik_w wd ad cA (ik_si g id j x) := by
  refine ik_w_set hc ?_ (fun a ha => ⟨?_, rfl⟩)
  · simp only [ik_ce, if_neg hk, ik_si]
    congr 4
    funext b
    simp [upd]
  · funext b
    simp [ik_si, ha]
theorem ik_w_sl_arr {wd : List ik_CD} {ad : Nat → Nat} {cA : Nat → ClassId} {g : GG} {id n j : Nat} {x : Int64} (hc : wd[id]? = some (.inl (1, n))) : (ik_w wd ad cA g).set id (ad id, .inl (cA 1, n, .inr (.inl (vp_updL (g.2 id) j x)))) = ik_w wd ad cA (ik_sl g id j x) := by
  refine ik_w_set hc ?_ (fun a ha => ⟨rfl, ?_⟩)
  · have e : (fun b => if id = id ∧ b = j then x else g.2 id b) = vp_updL (g.2 id) j x := by
      funext b
      simp [vp_updL]
    show Sum.inl (cA 1, n, if (1 : Nat) = 1 then Sum.inr (Sum.inl (fun b => if id = id ∧ b = j then x else g.2 id b)) else _) = _
    rw [e]
    rfl
  · funext b
    simp [ik_sl, ha]
theorem ik_w_si_obj {wd : List ik_CD} {ad : Nat → Nat} {cA : Nat → ClassId} {g : GG} {id ci j t : Nat} {fds : List (Nat ⊕ Nat)} {x : Int32} (hc : wd[id]? = some (.inr (ci, fds))) (hf : fds[j]? = some (.inl t)) (ht : t ≠ 1) : (ik_w wd ad cA g).set id (ad id, .inr (ci, (ik_fv ad g id 0 fds).set j (.int x))) = ik_w wd ad cA (ik_si g id j x) := by
  refine ik_w_set hc ?_ (fun a ha => ⟨?_, rfl⟩)
  · simp only [ik_ce]
    congr 2
    refine List.ext_getElem? fun k => ?_
    by_cases hk : k = j
    · subst hk
      rw [List.getElem?_set_self (by rw [ik_fv_len]; exact (List.getElem?_eq_some_iff.mp hf).1), ik_fv_at, hf]
      simp [ht, ik_si]
    · rw [List.getElem?_set_ne (Ne.symm hk), ik_fv_at, ik_fv_at]
      cases fds[k]? with
      | none => rfl
      | some fd => cases fd <;> simp [ik_si, hk]
  · funext b
    simp [ik_si, ha]
theorem ik_w_sl_obj {wd : List ik_CD} {ad : Nat → Nat} {cA : Nat → ClassId} {g : GG} {id ci j : Nat} {fds : List (Nat ⊕ Nat)} {x : Int64} (hc : wd[id]? = some (.inr (ci, fds))) (hf : fds[j]? = some (.inl 1)) : (ik_w wd ad cA g).set id (ad id, .inr (ci, (ik_fv ad g id 0 fds).set j (.long x))) = ik_w wd ad cA (ik_sl g id j x) := by
  refine ik_w_set hc ?_ (fun a ha => ⟨rfl, ?_⟩)
  · simp only [ik_ce]
    congr 2
    refine List.ext_getElem? fun k => ?_
    by_cases hk : k = j
    · subst hk
      rw [List.getElem?_set_self (by rw [ik_fv_len]; exact (List.getElem?_eq_some_iff.mp hf).1), ik_fv_at, hf]
      simp [ik_sl]
    · rw [List.getElem?_set_ne (Ne.symm hk), ik_fv_at, ik_fv_at]
      cases fds[k]? with
      | none => rfl
      | some fd => cases fd <;> simp [ik_sl, hk]
  · funext b
    simp [ik_sl, ha]
/-- the cells' addresses are apart and of a kind: that says nothing of what they hold -/
theorem ik_w_D {wd : List ik_CD} {ad : Nat → Nat} {cA : Nat → ClassId} {g g' : GG} {A : Nat → Prop} (h : va_D A (ik_w wd ad cA g)) : va_D A (ik_w wd ad cA g') := by
  have key : ∀ (k : Nat) (q : Nat × va_E), (ik_w wd ad cA g')[k]? = some q → ∃ q0, (ik_w wd ad cA g)[k]? = some q0 ∧ q0.1 = q.1 := by
    intro k q hk
    rw [ik_w_at] at hk ⊢
    cases hw : wd[k]? with
    | none => rw [hw] at hk; cases hk
    | some cd => rw [hw] at hk; cases hk; exact ⟨_, rfl, rfl⟩
  refine ⟨fun i j x y hi hj hxy => ?_, fun k q hk => ?_⟩
  · obtain ⟨x0, h1, h2⟩ := key i x hi
    obtain ⟨y0, h3, h4⟩ := key j y hj
    exact h.1 i j x0 y0 h1 h3 (h2.trans (hxy.trans h4.symm))
  · obtain ⟨q0, h1, h2⟩ := key k q hk
    rw [← h2]
    exact h.2 k q0 h1
/-! what is fixed for a method: the cells, its bytes, its locals' number, its class, its locals that name cells, its level (room), what it returns -/
abbrev ik_SC : Type := List ik_CD × ByteArray × Nat × String × List (Nat × Nat) × Nat × Option FieldType
abbrev ik_DX : Type := Program × Launch × Env × State × MethodId × Array Value × List Frame × Method × Code × (Nat → Nat) × va_G × (Nat → ClassId) × (Nat → Prop) × Value × GG
abbrev ik_rm (k : Nat) : Room := { frames := k, cells := 0, slots := 0, locals := 200 * k }
abbrev ik_B (wd : List ik_CD) (ad : Nat → Nat) (D : va_G) (cA : Nat → ClassId) (g : GG) : Unit → State → Prop := fun _ t => va_P D vwCl (ik_w wd ad cA g) t.heap
def ik_Q (wd : List ik_CD) (ad : Nat → Nat) (D : va_G) (cA : Nat → ClassId) (A : Nat → Prop) (v : Value) (g : GG) : Array Value → State → Outcome → State → Prop := match v with
  | .int r => va_Qi (fun r' _ => r' = r) (ik_B wd ad D cA g) A
  | .long r => va_Ql (fun r' _ => r' = r) (ik_B wd ad D cA g) A
  | _ => va_Qv (fun _ => True) (ik_B wd ad D cA g) A
def ik_lv (ad : Nat → Nat) (rl lv : List (Nat × Nat)) (σ : SS) : List (Nat × Value) := rl.map (fun q => (q.1, Value.ref (ad q.2))) ++ lv.map (fun q => (q.1, if q.2 = 1 then Value.long (σ.2.1 q.1) else Value.int (σ.1 q.1)))
/-- the machine, with these locals and this stack, in this state of the system, comes to the method's end -/
def ik_Go (sc : ik_SC) : ik_DX → List (Nat × Nat) → Nat → List Value → SS → Prop
  | (p, l, e, s, m, args, below, meth, c, ad, D, cA, A, v0, g0), lv, pc, st, σ => ∀ (H : Heap) (locs : List Loc) (ls : Array Slot), va_P D vwCl (ik_w sc.1 ad cA σ.2.2) H → va_S A s.heap H locs → lv_has ls sc.2.2.1 (ik_lv ad sc.2.2.2.2.1 lv σ) →
    W p l e (ik_rm sc.2.2.2.2.2.1) s m args below meth c H locs 0 0 (MQ below (ik_Q sc.1 ad D cA A v0 g0) args s 0 0 A) (F0 m pc ls st)
/-- what holds of the machine all through a method -/
def ik_Cx (sc : ik_SC) : ik_DX → Prop
  | (p, l, e, s, m, args, below, meth, c, ad, D, cA, A, v0, g0) => p.tables.exec = Jvm.exec ∧ c.code = sc.2.1 ∧ c.maxLocals = sc.2.2.1 ∧ s.vm.findClass sc.2.2.2.1 = some m.cls ∧ (∀ w ∈ lw_gd, w.before args s = true) ∧ ik_nest s ∧ va_K D vwCl (ik_tys cA) s ∧ (∀ g, va_D A (ik_w sc.1 ad cA g)) ∧ meth.sig.returnType = sc.2.2.2.2.2.2 ∧ meth.locks = false
def ik_cat (st : List Value) : Nat := (st.map fun v => v.category).sum
abbrev ik_LV : Type := List (Nat × Nat)
