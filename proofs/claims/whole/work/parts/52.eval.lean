/-! what a row of codes answers: a stack of numbers, none where it is refused -/
def ev_w (op : Nat) (a b : Int32) : Int32 :=
  if op = 43 then a + b else if op = 45 then a - b else if op = 42 then a * b else if op = 47 then a / b else if op = 37 then a - a / b * b
  else if op = 60 then (if a < b then 1 else 0) else if op = 62 then (if b < a then 1 else 0) else (if a = b then 1 else 0)
def ev_b (op : Nat) (a b : Option Int32) : Option Int32 := match a with
  | none => none
  | some v => if op = 38 then (if v = 1 then b else some v) else if op = 124 then (if v = 0 then b else some v)
    else match b with
    | none => none
    | some u => if (op = 47 ∨ op = 37) ∧ u = 0 then none else some (ev_w op v u)
def ev_1 (val : Nat → Int32) (o : Nat × Nat) (st : List (Option Int32)) : Option (List (Option Int32)) :=
  if o.1 = 0 then some (some (nI o.2) :: st) else if o.1 = 1 then some (some (val o.2) :: st)
  else if o.1 = 2 then (match st with
    | a :: r => some (a.map (fun v => 1 - v) :: r)
    | [] => none)
  else match st with
    | b :: a :: r => some (ev_b o.1 a b :: r)
    | _ => none
def ev_r (val : Nat → Int32) : RC → List (Option Int32) → Option (List (Option Int32))
  | [], st => some st
  | o :: r, st => (ev_1 val o st).bind (ev_r val r)
theorem ev_app (val : Nat → Int32) : ∀ (a b : RC) (st : List (Option Int32)), ev_r val (a ++ b) st = (ev_r val a st).bind (ev_r val b)
  | [], b, st => rfl
  | o :: a, b, st => by
    show (ev_1 val o st).bind (ev_r val (a ++ b)) = ((ev_1 val o st).bind (ev_r val a)).bind (ev_r val b)
    cases ev_1 val o st with
    | none => rfl
    | some s => exact ev_app val a b s
/-- the codes answer so, whatever lies below -/
def isE (val : Nat → Int32) (cs : RC) (E : Option Int32) : Prop := ∀ st, ev_r val cs st = some (E :: st)
theorem isE_num (val : Nat → Int32) (v : Nat) : isE val [(0, v)] (some (nI v)) := fun st => rfl
theorem isE_let (val : Nat → Int32) (l : Nat) : isE val [(1, l)] (some (val l)) := fun st => rfl
theorem isE_bin {val : Nat → Int32} {cs ds : RC} {A B : Option Int32} {op : Nat} (h1 : isE val cs A) (h2 : isE val ds B) (ho : 2 < op) : isE val (cs ++ ds ++ [(op, 0)]) (ev_b op A B) := by
  intro st
  rw [List.append_assoc, ev_app, h1 st, Option.bind_some, ev_app, h2, Option.bind_some]
  have e : ev_1 val (op, 0) (B :: A :: st) = some (ev_b op A B :: st) := by
    unfold ev_1
    rw [if_neg (by show ¬ op = 0; omega), if_neg (by show ¬ op = 1; omega), if_neg (by show ¬ op = 2; omega)]
  show (ev_1 val (op, 0) (B :: A :: st)).bind (ev_r val []) = _
  rw [e]
  rfl
theorem isE_not {val : Nat → Int32} {cs : RC} {A : Option Int32} (h1 : isE val cs A) : isE val (cs ++ [(2, 0)]) (A.map (fun v => 1 - v)) := by
  intro st
  rw [ev_app, h1 st]
  rfl
theorem isE_one {val : Nat → Int32} {cs : RC} {A B : Option Int32} (h1 : isE val cs A) (h2 : isE val cs B) : A = B := by
  have h := (h1 []).symm.trans (h2 [])
  simpa using h
