/-! The two languages: what a text is, over its tokens, and what its parts mean. -/
/-- a token's code; its value -/
abbrev qT : Type := Nat → Int32
abbrev vD : Type := (Nat → Int32) → Option Int32
abbrev vT : Type := (Nat → Int32) → Option Bool
def o_bd (r : Int64) : Option Int32 := if 1000000000 < r ∨ r < -1000000000 then none else some r.toInt32
def o_bin (c : Int32) (a b : Int32) : Option Int32 :=
  if c = 143 then o_bd (a.toInt64 + b.toInt64)
  else if c = 145 then o_bd (a.toInt64 - b.toInt64)
  else if c = 142 then o_bd (a.toInt64 * b.toInt64)
  else if b = 0 then none
  else if c = 147 then o_bd (a.toInt64 / b.toInt64)
  else o_bd (a.toInt64 - a.toInt64 / b.toInt64 * b.toInt64)
def o_cmp (c : Int32) (a b : Int32) : Bool := if c = 160 then decide (a.toInt64 < b.toInt64) else if c = 162 then decide (b.toInt64 < a.toInt64) else decide (a.toInt64 = b.toInt64)
def v_bin (c : Int32) (a b : vD) : vD := fun E => match a E with
  | none => none
  | some x => match b E with
    | none => none
    | some y => o_bin c x y
def v_cmp (c : Int32) (a b : vD) : vT := fun E => match a E with
  | none => none
  | some x => match b E with
    | none => none
    | some y => some (o_cmp c x y)
def v_and (a b : vT) : vT := fun E => match a E with
  | none => none
  | some false => some false
  | some true => b E
def v_or (a b : vT) : vT := fun E => match a E with
  | none => none
  | some true => some true
  | some false => b E
def v_not (t : Bool) (a : vT) : vT := fun E => match a E with
  | none => none
  | some x => some (x != t)
abbrev qR (α : Type) : Type := Nat ⊕ (Nat × Nat × α)
abbrev qP (α : Type) : Type := Nat → Nat → qR α
def q_chain {α : Type} (X : qP α) (op : Int32 → Option (α → α → α)) (tc : qT) : Nat → Nat → Nat → α → qR α
  | 0, k, p, a => .inr (k, p, a)
  | n + 1, k, p, a => match op (tc k) with
    | none => .inr (k, p, a)
    | some c => match X (k + 1) p with
      | .inl e => .inl e
      | .inr (k', p', b) => q_chain X op tc n k' p' (c a b)
def q_seq {α : Type} (X : qP α) (op : Int32 → Option (α → α → α)) (tc : qT) : qP α := fun k p => match X k p with
  | .inl e => .inl e
  | .inr (k', p', a) => q_chain X op tc 400 k' p' a
def q_add (c : Int32) : Option (vD → vD → vD) := if c = 143 ∨ c = 145 then some (v_bin c) else none
def q_mul (c : Int32) : Option (vD → vD → vD) := if c = 142 ∨ c = 147 ∨ c = 137 then some (v_bin c) else none
def q_and (c : Int32) : Option (vT → vT → vT) := if c = 8 then some v_and else none
def q_or (c : Int32) : Option (vT → vT → vT) := if c = 7 then some v_or else none
/-- a word's place among the class's words -/
def q_word (o : Bool) (c : Int32) : Nat :=
  if o then (if c = 16 then 0 else if c = 17 then 1 else if c = 18 then 2 else if c = 19 then 3 else 4)
  else (if c = 10 then 0 else if c = 11 then 1 else if c = 12 then 2 else if c = 13 then 6 else if c = 14 then 3 else if c = 15 then 4 else 5)
def q_leaf (o : Bool) (tc tv : qT) : qP vD := fun k p =>
  if (tc k = 50 ∧ tv k ≤ 1000) ∨ (o = true ∧ 14 ≤ tc k ∧ tc k ≤ 20) ∨ (o = false ∧ 10 ≤ tc k ∧ tc k ≤ 16) then
    if p = 50 then .inl k
    else if o = true ∧ (tc k = 14 ∨ tc k = 15) then
      (if tc (k + 1) = 50 ∧ 0 ≤ tv (k + 1) ∧ tv (k + 1) ≤ 6 then .inr (k + 2, p + 1, fun E => some (E ((if tc k = 15 then 5 else 12) + (tv (k + 1)).toNatClampNeg))) else .inl (k + 1))
    else .inr (k + 1, p + 1, if tc k = 50 then fun _ => some (tv k) else fun E => some (E (q_word o (tc k))))
  else .inl k
def q_part (o : Bool) (tc tv : qT) : Nat → qP vD
  | 0 => fun k p => if tc k = 191 then .inl k else q_leaf o tc tv k p
  | r + 1 => fun k p => if tc k = 191 then (match q_seq (q_seq (q_part o tc tv r) q_mul tc) q_add tc (k + 1) p with
      | .inl e => .inl e
      | .inr (k', p', a) => if tc k' = 193 then .inr (k' + 1, p', a) else .inl k') else q_leaf o tc tv k p
def q_sum (o : Bool) (tc tv : qT) (r : Nat) : qP vD := q_seq (q_seq (q_part o tc tv r) q_mul tc) q_add tc
def q_nots (tc : qT) : Nat → Nat → Bool → Nat × Bool
  | 0, k, t => (k, t)
  | n + 1, k, t => if tc k = 9 then q_nots tc n (k + 1) (!t) else (k, t)
def q_comp (o : Bool) (tc tv : qT) (r : Nat) : qP vT := fun k p => match q_sum o tc tv r k p with
  | .inl e => .inl e
  | .inr (k1, p1, a) => if tc k1 = 160 ∨ tc k1 = 162 ∨ tc k1 = 161 then (match q_sum o tc tv r (k1 + 1) p1 with
      | .inl e => .inl e
      | .inr (k2, p2, b) => .inr (k2, p2, v_cmp (tc k1) a b)) else .inl k1
def q_turn (t : Bool) : qR vT → qR vT
  | .inl e => .inl e
  | .inr (k, p, a) => .inr (k, p, v_not t a)
def q_plain (o : Bool) (tc tv : qT) : Nat → qP vT
  | 0 => fun k p => let s := q_nots tc 400 k false
      q_turn s.2 (if tc s.1 = 140 then .inl s.1 else q_comp o tc tv 0 s.1 p)
  | r + 1 => fun k p => let s := q_nots tc 400 k false
      q_turn s.2 (if tc s.1 = 140 then (match q_seq (q_seq (q_plain o tc tv r) q_and tc) q_or tc (s.1 + 1) p with
        | .inl e => .inl e
        | .inr (k', p', a) => if tc k' = 141 then .inr (k' + 1, p', a) else .inl k') else q_comp o tc tv (r + 1) s.1 p)
def q_test (o : Bool) (tc tv : qT) (r : Nat) : qP vT := q_seq (q_seq (q_plain o tc tv r) q_and tc) q_or tc
def q_if (o : Bool) (tc tv : qT) : qP vT := fun k p => if tc k = 6 then q_test o tc tv 8 (k + 1) p else .inr (k, p, fun _ => some true)
/-- a clause: its kind, its sums, how often, its condition -/
abbrev qC : Type := Nat × vD × vD × Nat × vT
def q_rule (tc tv : qT) : qP qC := fun k p =>
  if 1 ≤ tc k ∧ tc k ≤ 4 then (match q_sum false tc tv 8 (k + 1) p with
    | .inl e => .inl e
    | .inr (k1, p1, a) => match q_if false tc tv k1 p1 with
      | .inl e => .inl e
      | .inr (k2, p2, c) => .inr (k2, p2, ((tc k).toNatClampNeg - 1, a, a, 1, c)))
  else if tc k = 5 then (match q_if false tc tv (k + 1) p with
    | .inl e => .inl e
    | .inr (k2, p2, c) => .inr (k2, p2, (4, fun _ => some 1, fun _ => some 1, 1, c)))
  else .inl k
/-- 'times' -/
def q_times (tc tv : qT) : qP Nat := fun k p => if tc k = 27 then (if tc (k + 1) = 50 ∧ 1 ≤ tv (k + 1) ∧ tv (k + 1) ≤ 20 then .inr (k + 2, p, (tv (k + 1)).toNatClampNeg) else .inl (k + 1)) else .inr (k, p, 1)
/-- two sums with a word between them -/
def q_two (tc tv : qT) (c : Int32) (kd : Nat) : qP (Nat × vD × vD) := fun k p => match q_sum true tc tv 8 k p with
    | .inl e => .inl e
    | .inr (k1, p1, a) => if tc k1 = c then (match q_sum true tc tv 8 (k1 + 1) p1 with
        | .inl e => .inl e
        | .inr (k2, p2, b) => .inr (k2, p2, kd, a, b)) else .inl k1
/-- an order's sums: by its first token -/
def q_sums (tc tv : qT) : qP (Nat × vD × vD) := fun k p =>
  if tc k = 21 then q_two tc tv 22 0 (k + 1) p
  else if tc k = 24 then q_two tc tv 25 2 (k + 1) p
  else if tc k = 23 then (match q_sum true tc tv 8 (k + 1) p with
    | .inl e => .inl e
    | .inr (k1, p1, a) => .inr (k1, p1, 1, a, a))
  else if tc k = 26 then .inr (k + 1, p, 3, fun _ => some 0, fun _ => some 0)
  else .inl k
def q_order (tc tv : qT) : qP qC := fun k p => match q_sums tc tv k p with
  | .inl e => .inl e
  | .inr (k1, p1, kd, a, b) => match q_times tc tv k1 p1 with
    | .inl e => .inl e
    | .inr (k2, p2, n) => match q_if true tc tv k2 p2 with
      | .inl e => .inl e
      | .inr (k3, p3, c) => .inr (k3, p3, kd, a, b, n, c)
def q_one (o : Bool) (tc tv : qT) : qP qC := if o then q_order tc tv else q_rule tc tv
/-- a text of T tokens: where its fault is, or its clauses -/
def q_text (o : Bool) (tc tv : qT) (T : Nat) : Nat → Nat → Nat → Nat ⊕ List qC
  | 0, k, _ => .inl k
  | n + 1, k, p => match q_one o tc tv k p with
    | .inl e => .inl e
    | .inr (k', p', c) => if tc k' = 159 then (match q_text o tc tv T n (k' + 1) p' with
        | .inl e => .inl e
        | .inr cs => .inr (c :: cs)) else if k' < T then .inl k' else .inr [c]
/-- what a law tells: the last of its clauses of the kind that holds -/
def l_hold (c : qC) (kd : Nat) (E : Nat → Int32) : Option Int32 := if c.1 = kd ∧ c.2.2.2.2 E = some true then c.2.1 E else none
def l_clamp (hi x : Int32) : Int32 := if x < 0 then 0 else if hi < x then hi else x
def l_tell (kd : Nat) (hi : Int32) (E : Nat → Int32) : List qC → Int32 → Int32
  | [], x => x
  | c :: cs, x => l_tell kd hi E cs (match l_hold c kd E with
    | none => x
    | some y => l_clamp hi y)
