/-! What a sum's value is to the reference, live or not, broken or not. -/
def e_val (l b : Bool) (x : Option Int32) : Int64 := if l = true ∧ b = false then (match x with
  | some y => y.toInt64
  | none => 0) else 0
def e_brk (l b : Bool) (x : Option Int32) : Bool := b || (l && x.isNone)
def e_far (v : Int64) : Bool := decide (1000000000 < v ∨ v < -1000000000)
/-! Sums, by the reference. -/
theorem o_small {r : Int64} (h : ¬ (1000000000 < r ∨ r < -1000000000)) : r.toInt32.toInt64 = r := by
  have h1 : ¬ 1000000000 < r := fun q => h (Or.inl q)
  have h2 : ¬ r < -1000000000 := fun q => h (Or.inr q)
  rw [Int64.lt_iff_toInt_lt] at h1 h2
  have e1 : (1000000000 : Int64).toInt = 1000000000 := rfl
  have e2 : (-1000000000 : Int64).toInt = -1000000000 := rfl
  apply Int64.toInt_inj.mp
  rw [Int32.toInt_toInt64, Int64.toInt_toInt32]
  rw [e1] at h1
  rw [e2] at h2
  rw [Int.bmod_eq_of_le (by omega) (by omega)]
theorem o_bdv (r : Int64) : o_bd r = if e_far r = true then none else some r.toInt32 := by
  simp only [o_bd, e_far, decide_eq_true_eq]
theorem e_bdv (l b : Bool) (r : Int64) (hl : l = true) (hb : b = false) : e_val l b (o_bd r) = (if e_far r = true then 0 else r) ∧ e_brk l b (o_bd r) = e_far r := by
  subst hl hb
  rw [o_bdv]
  by_cases h : e_far r = true
  · simp [h, e_val, e_brk]
  · have h2 : r.toInt32.toInt64 = r := o_small (by simpa [e_far] using h)
    simp [h, e_val, e_brk, h2]
theorem z64 (y : Int32) : y.toInt64 = 0 ↔ y = 0 := by
  rw [← Int64.toInt_inj, ← Int32.toInt_inj, Int32.toInt_toInt64]; rfl
/-- one more operand of a sum -/
theorem e_add (l b : Bool) (c : Int32) (hc : c = 143 ∨ c = 145) (x y : Option Int32) (E : Nat → Int32) (r : Int64) (hr : r = if c = 143 then e_val l b x + e_val l (e_brk l b x) y else e_val l b x - e_val l (e_brk l b x) y) : (if e_brk l (e_brk l b x) y || (l && e_far r) then 0 else r) = e_val l b (v_bin c (fun _ => x) (fun _ => y) E) ∧ (e_brk l (e_brk l b x) y || (l && e_far r)) = e_brk l b (v_bin c (fun _ => x) (fun _ => y) E) := by
  cases l
  · cases b <;> rcases hc with rfl | rfl <;> simp [e_val, e_brk] at hr ⊢ <;> exact hr
  · cases b
    · cases x with
      | none => simp [e_val, e_brk, v_bin]
      | some x =>
        cases y with
        | none => simp [e_val, e_brk, v_bin]
        | some y =>
          have := e_bdv true false r rfl rfl
          rcases hc with rfl | rfl <;> simp [e_val, e_brk, v_bin, o_bin] at hr this ⊢ <;> rw [← hr] <;> exact ⟨this.1.symm, this.2.symm⟩
    · rcases hc with rfl | rfl <;> simp [e_val, e_brk] at hr ⊢
theorem e_mul (l b : Bool) (x y : Option Int32) (E : Nat → Int32) (r : Int64) (hr : r = e_val l b x * e_val l (e_brk l b x) y) : (if e_brk l (e_brk l b x) y || (l && e_far r) then 0 else r) = e_val l b (v_bin 142 (fun _ => x) (fun _ => y) E) ∧ (e_brk l (e_brk l b x) y || (l && e_far r)) = e_brk l b (v_bin 142 (fun _ => x) (fun _ => y) E) := by
  cases l
  · cases b <;> simp [e_val, e_brk] at hr ⊢ <;> exact hr
  · cases b
    · cases x with
      | none => simp [e_val, e_brk, v_bin]
      | some x =>
        cases y with
        | none => simp [e_val, e_brk, v_bin]
        | some y =>
          have := e_bdv true false r rfl rfl
          simp [e_val, e_brk, v_bin, o_bin] at hr this ⊢
          rw [← hr]
          exact ⟨this.1.symm, this.2.symm⟩
    · simp [e_val, e_brk] at hr ⊢
/-- the operand by which is divided is 0 -/
theorem e_div0 (l b : Bool) (c : Int32) (hc : c = 147 ∨ c = 137) (x y : Option Int32) (E : Nat → Int32) (hy : e_val l (e_brk l b x) y = 0) (r : Int64) (hr : r = if c = 147 then e_val l b x / 1 else e_val l b x - e_val l b x / 1 * 1) : (if (e_brk l (e_brk l b x) y || l) || (l && e_far r) then 0 else r) = e_val l b (v_bin c (fun _ => x) (fun _ => y) E) ∧ ((e_brk l (e_brk l b x) y || l) || (l && e_far r)) = e_brk l b (v_bin c (fun _ => x) (fun _ => y) E) := by
  cases l
  · cases b <;> rcases hc with rfl | rfl <;> simp [e_val, e_brk] at hr ⊢ <;> exact hr
  · cases b
    · cases x with
      | none => simp [e_val, e_brk, v_bin]
      | some x =>
        cases y with
        | none => simp [e_val, e_brk, v_bin]
        | some y =>
          have hy0 : y = 0 := (z64 y).mp (by simpa [e_val, e_brk] using hy)
          subst hy0
          rcases hc with rfl | rfl <;> simp [e_val, e_brk, v_bin, o_bin]
    · rcases hc with rfl | rfl <;> simp [e_val, e_brk] at hr ⊢
theorem e_div (l b : Bool) (c : Int32) (hc : c = 147 ∨ c = 137) (x y : Option Int32) (E : Nat → Int32) (hy : ¬ e_val l (e_brk l b x) y = 0) (r : Int64) (hr : r = if c = 147 then e_val l b x / e_val l (e_brk l b x) y else e_val l b x - e_val l b x / e_val l (e_brk l b x) y * e_val l (e_brk l b x) y) : (if e_brk l (e_brk l b x) y || (l && e_far r) then 0 else r) = e_val l b (v_bin c (fun _ => x) (fun _ => y) E) ∧ (e_brk l (e_brk l b x) y || (l && e_far r)) = e_brk l b (v_bin c (fun _ => x) (fun _ => y) E) := by
  cases l
  · cases b <;> simp [e_val, e_brk] at hy
  · cases b
    · cases x with
      | none => simp [e_val, e_brk] at hy
      | some x =>
        cases y with
        | none => simp [e_val, e_brk] at hy
        | some y =>
          have hy0 : ¬ y = 0 := fun q => hy (by simpa [e_val, e_brk] using (z64 y).mpr q)
          have := e_bdv true false r rfl rfl
          rcases hc with rfl | rfl <;> simp [e_val, e_brk, v_bin, o_bin, hy0] at hr this ⊢ <;> rw [← hr] <;> exact ⟨this.1.symm, this.2.symm⟩
    · simp [e_val, e_brk] at hy
