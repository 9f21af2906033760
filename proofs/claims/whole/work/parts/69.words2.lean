/-! A word's place among the words of a text, by codes. -/
def wAt (c : Int32) : List Nat := wWs.getD (c.toNatClampNeg - 1) []
def wPos (y : Nat → Nat) (a b : Nat) : List Int32 → Nat → Int32
  | [], _ => -1
  | c :: r, j => if wEq y a b (wAt c) = true then nI j else wPos y a b r (j + 1)
section WP
variable {y : Nat → Nat} {a b : Nat}
theorem wFind_27 : wFind y a b wWs 1 ≤ 27 := by
  have hl : wWs.length = 27 := rfl
  rcases wFind_le (y := y) (a := a) (b := b) wWs 1 with h | ⟨_, h, _⟩ <;> omega
theorem wAt_some {i : Nat} (hi : i < 27) : wWs[i]? = some (wAt (nI (i + 1))) := by
  have hl : i < wWs.length := hi
  rw [wAt, a_clamp (by omega), Nat.add_sub_cancel, List.getD_eq_getElem?_getD, List.getElem?_eq_getElem hl]
  rfl
theorem wIdx_pos : ∀ (L : List Int32) (j : Nat), (∀ c, c ∈ L → ∃ i, i < 27 ∧ c = nI (i + 1)) → wIdx (nI (wFind y a b wWs 1)) L j = wPos y a b L j
  | [], _, _ => rfl
  | c :: r, j, h => by
    obtain ⟨i, hi, rfl⟩ := h _ (List.mem_cons_self ..)
    have h27 := wFind_27 (y := y) (a := a) (b := b)
    have ih := wIdx_pos r (j + 1) (fun c hc => h c (List.mem_cons_of_mem _ hc))
    have e : (nI (wFind y a b wWs 1) = nI (i + 1)) = (wEq y a b (wAt (nI (i + 1))) = true) := by
      rw [a_eq (by omega) (by omega)]
      exact propext (wFind_iff (wAt_some hi))
    rw [wIdx, wPos, ih]
    by_cases q : wEq y a b (wAt (nI (i + 1))) = true
    · rw [if_pos q, if_pos (by rw [e]; exact q)]
    · rw [if_neg q, if_neg (by rw [e]; exact q)]
end WP
