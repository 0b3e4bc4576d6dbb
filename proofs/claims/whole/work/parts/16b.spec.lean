/-! the rules' text, read by a plain function: what is wrong and where; else where it ends, and what it asks, as a row of codes -/
abbrev RC : Type := List (Nat × Nat)
abbrev RR : Type := (Nat × Nat) ⊕ (Nat × RC)
def sg_dig (c : Nat) : Bool := decide (48 ≤ c) && decide (c ≤ 57)
def sg_fact (c : Nat) : Bool := c == 97 || c == 98 || c == 105 || c == 110 || c == 115 || c == 118 || c == 119 || c == 121 || c == 122
def sg_times (c : Nat) : Bool := c == 42 || c == 47 || c == 37
def sg_plus (c : Nat) : Bool := c == 43 || c == 45
def sg_cmp (c : Nat) : Bool := c == 60 || c == 62 || c == 61
def sg_and (c : Nat) : Bool := c == 38
def sg_or (c : Nat) : Bool := c == 124
def sp_num (c : Nat → Nat) : Nat → Nat → Nat → RR
  | 0, p, v => if sg_dig (c p) = true then .inl (2, p) else .inr (p, [(0, v)])
  | f + 1, p, v => if sg_dig (c p) = true then sp_num c f (p + 1) (10 * v + c p - 48) else .inr (p, [(0, v)])
/-- go on behind what was read -/
def sp_then (r : RR) (k : Nat → RC → RR) : RR := match r with
  | .inl e => .inl e
  | .inr (q, cs) => k q cs
def sp_fac (last : Bool) (sum : Nat → RR) (c : Nat → Nat) (p : Nat) : RR :=
  if c p = 91 then (if last = true then .inl (5, p) else sp_then (sum (p + 1)) (fun q cs => if c q = 93 then .inr (q + 1, cs) else .inl (1, q)))
  else if sg_dig (c p) = true then sp_num c 5 p 0
  else if sg_fact (c p) = true then .inr (p + 1, [(1, c p)])
  else .inl (1, p)
def sp_loop (c : Nat → Nat) (isop : Nat → Bool) (sub : Nat → RR) : Nat → Nat → RC → RR
  | 0, q, cs => .inr (q, cs)
  | f + 1, q, cs => if isop (c q) = true then sp_then (sub (q + 1)) (fun q' ds => sp_loop c isop sub f q' (cs ++ ds ++ [(c q, 0)])) else .inr (q, cs)
def sp_ops (c : Nat → Nat) (isop : Nat → Bool) (sub : Nat → RR) (p : Nat) : RR := sp_then (sub p) (fun q cs => sp_loop c isop sub 160 q cs)
def sp_nest (last : Bool) (cond piece : Nat → RR) (c : Nat → Nat) (p : Nat) : RR :=
  if last = true then .inl (5, p) else if c p = 33 then sp_then (piece (p + 1)) (fun q cs => .inr (q, cs ++ [(2, 0)]))
  else sp_then (cond (p + 1)) (fun q cs => if c q = 41 then .inr (q + 1, cs) else .inl (1, q))
def sp_pie (last : Bool) (cond piece sum : Nat → RR) (c : Nat → Nat) (p : Nat) : RR :=
  if c p = 33 ∨ c p = 40 then sp_nest last cond piece c p
  else sp_then (sum p) (fun q cs => if sg_cmp (c q) = true then sp_then (sum (q + 1)) (fun q' ds => .inr (q', cs ++ ds ++ [(c q, 0)])) else .inl (1, q))
abbrev R3 : Type := (Nat → RR) × (Nat → RR) × (Nat → RR)
def sp_F (n : Nat) (r : R3) (c : Nat → Nat) : Nat → RR := sp_fac (n == 0) r.2.2 c
def sp_P (n : Nat) (r : R3) (c : Nat → Nat) : Nat → RR := sp_ops c sg_times (sp_F n r c)
def sp_S (n : Nat) (r : R3) (c : Nat → Nat) : Nat → RR := sp_ops c sg_plus (sp_P n r c)
def sp_I (n : Nat) (r : R3) (c : Nat → Nat) : Nat → RR := sp_pie (n == 0) r.1 r.2.1 (sp_S n r c) c
def sp_A (n : Nat) (r : R3) (c : Nat → Nat) : Nat → RR := sp_ops c sg_and (sp_I n r c)
def sp_C (n : Nat) (r : R3) (c : Nat → Nat) : Nat → RR := sp_ops c sg_or (sp_A n r c)
/-- condition, piece, sum with so many levels left -/
def sp_lvl (c : Nat → Nat) : Nat → R3
  | 0 => (fun p => .inl (5, p), fun p => .inl (5, p), fun p => .inl (5, p))
  | n + 1 => (sp_C n (sp_lvl c n) c, sp_I n (sp_lvl c n) c, sp_S n (sp_lvl c n) c)
/-- a condition from its ( on, with its ); a clause; all of them -/
def sp_cl2 (c : Nat → Nat) (p : Nat) : RR := if c p = 40 then sp_then (sp_C 5 (sp_lvl c 5) c (p + 1)) (fun q ds => if c q = 41 then .inr (q + 1, ds) else .inl (1, q)) else .inl (1, p)
def sp_cl (c : Nat → Nat) (nth p : Nat) : RR := if ¬ sg_dig (c p) = true then .inl (1, p) else if 12 ≤ nth then .inl (4, p) else if 52 ≤ c p then .inl (3, p) else sp_cl2 c (p + 1)
def sp_all (c : Nat → Nat) (N : Nat) : Nat → Nat → List (Nat × RC) → (Nat × Nat) ⊕ List (Nat × RC)
  | 0, p, _ => .inl (4, p)
  | f + 1, p, L => match sp_cl c L.length p with
    | .inl e => .inl e
    | .inr (q, ds) => if N ≤ q then .inr (L ++ [(c p - 48, ds)]) else if c q = 59 then sp_all c N f (q + 1) (L ++ [(c p - 48, ds)]) else .inl (1, q)
def cls (L : List (Nat × RC)) : RC := (L.map (fun q => q.2)).flatten
