/-! the law's body: both systems' cells side by side, the script beside them -/
abbrev lw_DX : Type := Program × Launch × Env × State × MethodId × List Frame × Method × Code × va_G × (Nat → ClassId) × Nat × Nat × (Nat → Int32) × (Nat → Nat) × (Nat → Nat)
def lw_Cx : lw_DX → Prop
  | (p, _, _, s, m, _, meth, c, D, cA, b, L, xs, adX, adM) => p.tables.exec = Jvm.exec ∧ c.code = code ∧ c.maxLocals = 4 ∧ s.vm.findClass R_law = some m.cls ∧ (∀ w ∈ lw_gd, w.before #[Value.ref b] s = true) ∧ ik_nest s ∧ va_K D vwCl (ik_tys cA) s ∧ va_X b L xs s s.heap ∧ b < s.heap.size ∧ meth.locks = false ∧ meth.sig.returnType = ret ∧ (∀ gx gm, va_D (fun q : Nat => s.heap.size ≤ q) (ik_w wdX adX cA gx ++ (ik_w wdM adM cA gm ++ []))) ∧ L ≤ 3072
def lw_Go : lw_DX → Nat → Nat → List Value → GG → GG → Prop
  | (p, l, e, s, m, below, meth, c, D, cA, b, _, _, adX, adM), i, pc, st, gx, gm => ∀ (H : Heap) (locs : List Loc) (ls : Array Slot), va_P D vwCl (ik_w wdX adX cA gx ++ (ik_w wdM adM cA gm ++ [])) H → va_S (fun q : Nat => s.heap.size ≤ q) s.heap H locs → lv_has ls 4 [(3, .int (nI i)), (0, .ref b), (1, .ref (adX 0)), (2, .ref (adM 0))] →
    W p l e room_1 s m #[Value.ref b] below meth c H locs 600000 7302250 (lw_Z below #[Value.ref b] s) (F0 m pc ls st)
def lw_L : lw_DX → Nat
  | (_, _, _, _, _, _, _, _, _, _, _, L, _, _, _) => L
def lw_xs : lw_DX → Nat → Int32
  | (_, _, _, _, _, _, _, _, _, _, _, _, xs, _, _) => xs
def lw_adX : lw_DX → Nat → Nat
  | (_, _, _, _, _, _, _, _, _, _, _, _, _, a, _) => a
def lw_adM : lw_DX → Nat → Nat
  | (_, _, _, _, _, _, _, _, _, _, _, _, _, _, a) => a
/-- the arguments of an operation, out of the script -/
def lw_vs (xs : Nat → Int32) (i k n : Nat) : List Value := (List.range' k n).map fun j => .int (xs (i + j))
def lw_lds : Nat → Nat → Nat → Option Nat
  | pc, 0, _ => some pc
  | pc, n + 1, k => if decode code pc = .ok (.aload_n 0, 1) ∧ decode code (pc + 1) = .ok (.iload_n 3, 1) ∧ decode code (pc + 2) = .ok (.iconst k, 1) ∧ decode code (pc + 3) = .ok (.iadd, 1) ∧ decode code (pc + 4) = .ok (.iaload, 1) then lw_lds (pc + 5) n (k + 1) else none
theorem lw_ld {x : lw_DX} (hC : lw_Cx x) {i : Nat} (hi : i + 6 ≤ lw_L x) {gx gm : GG} : ∀ (n k pc pc' : Nat) (st : List Value), lw_lds pc n k = some pc' → k + n ≤ 6 → lw_Go x i pc' ((lw_vs (lw_xs x) i k n).reverse ++ st) gx gm → lw_Go x i pc st gx gm := by
  intro n
  induction n with
  | zero =>
    intro k pc pc' st hck hk h
    cases hck
    exact h
  | succ n ih =>
    intro k pc pc' st hck hk h
    unfold lw_lds at hck
    split at hck
    · rename_i d
      obtain ⟨d0, d1, d2, d3, d4⟩ := d
      have h1 := ih (k + 1) (pc + 5) pc' (.int (lw_xs x (i + k)) :: st) hck (by omega) (by
        simpa [lw_vs, List.range'_succ] using h)
      obtain ⟨p, l, e, s, m, below, meth, c, D, cA, b, L, xs, adX, adM⟩ := x
      obtain ⟨hx, hb, hml, hown, hts, hns, hK, hX, hbl, hlk, hr, hD, hL⟩ := hC
      intro H locs ls hP hS hl
      refine lv_aload_n hx hb d0 rfl (lv_at hl 1 rfl) ?_
      refine lv_iload_n hx hb d1 rfl (lv_at hl 0 rfl) ?_
      refine lv_iconst (v := nI k) hx hb d2 rfl ?_
      refine lv_iadd hx hb d3 ?_
      rw [nI_add]
      have hlt : i + k < L := by
        have : i + 6 ≤ L := hi
        omega
      refine va_sld hx hb hX hbl (Nat.not_le.mpr hbl) hS (vp_in_nI hlt (by omega)) d4 ?_
      rw [nI_clamp (by omega)]
      exact h1 H locs ls hP hS hl
    · cases hck
/-- the cells of one system change, all others stay -/
theorem ik_mid {U V : va_W} {wd : List ik_CD} {ad : Nat → Nat} {D : va_G} {cA : Nat → ClassId} {g g' : GG} {A : Nat → Prop} {H H1 : Heap} (hP : va_P D vwCl (U ++ (ik_w wd ad cA g ++ V)) H) (hD : va_D A (U ++ (ik_w wd ad cA g ++ V)))
    (hk : ∀ q : Nat, q < H.size → ¬ va_A (ik_w wd ad cA g) H.size q → H1[q]? = H[q]?) (hP1 : va_P D vwCl (ik_w wd ad cA g') H1) : va_P D vwCl (U ++ (ik_w wd ad cA g' ++ V)) H1 := by
  have keep : ∀ (k : Nat) (q : Nat × va_E), (U ++ (ik_w wd ad cA g ++ V))[k]? = some q → (k < U.length ∨ U.length + (ik_w wd ad cA g).length ≤ k) → va_at D vwCl q H1 := by
    intro k q hq hr
    have hlt := (hP k q hq).lt
    refine (hP k q hq).kept (hk q.1 hlt fun h => ?_)
    rcases h with ⟨j, e, hj⟩ | h
    · have hjl := (List.getElem?_eq_some_iff.mp hj).1
      have : (U ++ (ik_w wd ad cA g ++ V))[U.length + j]? = some (q.1, e) := by
        rw [List.getElem?_append_right (by omega), Nat.add_sub_cancel_left, List.getElem?_append_left hjl, hj]
      have := hD.1 k (U.length + j) q (q.1, e) hq this rfl
      omega
    · omega
  refine va_P.app (fun k q hq => ?_) (va_P.app hP1 (fun k q hq => ?_))
  · have hl := (List.getElem?_eq_some_iff.mp hq).1
    exact keep k q (by rw [List.getElem?_append_left hl, hq]) (Or.inl hl)
  · refine keep (U.length + ((ik_w wd ad cA g).length + k)) q ?_ (Or.inr (by omega))
    rw [List.getElem?_append_right (by omega), Nat.add_sub_cancel_left, List.getElem?_append_right (by omega), Nat.add_sub_cancel_left, hq]
theorem ik_midP {U V : va_W} {wd : List ik_CD} {ad : Nat → Nat} {D : va_G} {cA : Nat → ClassId} {g : GG} {H : Heap} (hP : va_P D vwCl (U ++ (ik_w wd ad cA g ++ V)) H) : va_P D vwCl (ik_w wd ad cA g) H := by
  intro k q hq
  have hl := (List.getElem?_eq_some_iff.mp hq).1
  refine hP (U.length + k) q ?_
  rw [List.getElem?_append_right (by omega), Nat.add_sub_cancel_left, List.getElem?_append_left hl, hq]
theorem ik_midD {U V : va_W} {wd : List ik_CD} {ad : Nat → Nat} {cA : Nat → ClassId} {g : GG} {A : Nat → Prop} (hD : va_D A (U ++ (ik_w wd ad cA g ++ V))) : va_D A (ik_w wd ad cA g) := by
  have key : ∀ (k : Nat) (q : Nat × va_E), (ik_w wd ad cA g)[k]? = some q → (U ++ (ik_w wd ad cA g ++ V))[U.length + k]? = some q := by
    intro k q hq
    have hl := (List.getElem?_eq_some_iff.mp hq).1
    rw [List.getElem?_append_right (by omega), Nat.add_sub_cancel_left, List.getElem?_append_left hl, hq]
  refine ⟨fun i j x y hi hj hxy => ?_, fun k q hq => hD.2 _ q (key k q hq)⟩
  have := hD.1 _ _ x y (key i x hi) (key j y hj) hxy
  omega
/-- a call of the law -/
theorem lw_run {p : Program} {l : Launch} {e : Env} {s : State} {m : MethodId} {below : List Frame} {meth : Method} {c : Code} {D : va_G} {cA : Nat → ClassId} {b : Nat} {H : Heap} {locs : List Loc} {ls : Array Slot} {pc : Nat} {st : List Value}
    (hx : p.tables.exec = Jvm.exec) (hb : c.code = code) (hml : c.maxLocals = 4) (hown : s.vm.findClass R_law = some m.cls) (hts : ∀ w ∈ lw_gd, w.before #[Value.ref b] s = true) (hns : ik_nest s) (hK : va_K D vwCl (ik_tys cA) s)
    {wd : List ik_CD} {ad : Nat → Nat} {g g' : GG} {y : MethodName} {cc : ByteArray} {mL : Nat} {rt : Option FieldType} {k n idx ci : Nat} {sig : ik_sg} {fds : List (Nat ⊕ Nat)} {T : u_T} {N : Nat} {vs : List Value} {v : Value} (M : MP wd y cc mL rt k (.inr 0 :: sig))
    (hf : ik_MF y cc mL rt n) (hv : ik_MV y) (hl : Cond.methodLink R_law idx y ∈ lw_tbl) (ho : wd[0]? = some (.inr (ci, fds))) (hci : vwCl[ci]? = some (y.cls, T, N)) (hn : sig.length = n) (hk : k ≤ 100) (hm : mL ≤ 181)
    (hM : M.1 vs g = some (v, g')) (hkd : ik_kind (.inr 0 :: sig) vs) {A : Nat → Prop} (hD : va_D A (ik_w wd ad cA g)) (hP : va_P D vwCl (ik_w wd ad cA g) H) (hls : ls.size = 4) (hst : (st.map fun v => v.category).sum ≤ 8) (hdg : decode code pc = .ok (.invokevirtual idx, 3)) :
    ∃ a : Array Value, va_Run p l e room_1 s m #[Value.ref b] below meth c H locs 600000 7302250 0 0 (F0 m pc ls ((ik_wv ad sig vs).reverse ++ .ref (ad 0) :: st)) st (ik_Q wd ad D cA (va_A (ik_w wd ad cA g) H.size) v g' a) (va_A (ik_w wd ad cA g) H.size) := by
  have hcell : (ik_w wd ad cA g)[0]? = some (ad 0, .inr (ci, ik_fv ad g 0 0 fds)) := by rw [ik_w_at, ho]; rfl
  refine ⟨(ik_wv ad (.inr 0 :: sig) vs).toArray, ?_⟩
  have hGo : GoodIn lw_gd (wsV R_law idx y.cls y (Cond.code y cc mL rt :: lw_gd)) := ik_goodIn (fun w hw => by
    unfold wsV at hw
    rcases List.mem_append.mp hw with hw | hw
    · simp only [List.mem_cons, List.not_mem_nil, or_false] at hw
      rcases hw with rfl | rfl | rfl | rfl
      · exact ik_gd hl rfl
      · exact ik_gd hv.1 rfl
      · exact ik_gd hv.2 rfl
      · exact ik_gd hf.2.1 rfl
    · exact (ik_goodM hf w hw).1)
  have hMet := M.2 l ad D cA (va_A (ik_w wd ad cA g) H.size) g vs v g' hkd hM
  refine va_runV (As := ik_wv ad sig vs) (rest := st) (C := y.cls) (n := n) (b := ad 0) (nL := 4) ⟨hx, hb, hml, hown, hts⟩ hMet (cwV n hts hGo rfl rfl rfl ⟨rfl, hf.2.2⟩ ⟨by show k + 1 ≤ 2048; omega, by show 8 + (mL + 11) + 200 * k ≤ 84000; omega⟩) ⟨ik_blind, va_recv hK hP hci hcell, fun U hU hW => ⟨rfl, by rw [hU]; exact hP, va_K.moved hW.alike hK, hns.warm hW, fun g2 => ik_w_D hD.self⟩⟩ rfl (by rw [ik_kind_len sig vs hkd]; exact hn) hls rfl (lv_room hst) hdg ⟨Nat.le_refl _, Nat.le_refl _⟩
