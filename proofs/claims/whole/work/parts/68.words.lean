/-! Words. -/
/-- the reference's words, by their codes from 1 on -/
def wWs : List (List Nat) := [[102, 97, 108, 108, 115], [114, 105, 115, 101, 115], [115, 104, 111, 119, 115], [98, 114, 101, 97, 107, 115], [98, 97, 114, 115], [105, 102], [111, 114], [97, 110, 100], [110, 111, 116], [109, 111, 110, 107], [118, 111, 119], [104, 97, 114, 100], [109, 111, 111, 100], [104, 101, 108, 100], [104, 97, 115], [121, 101, 97, 114], [100, 111, 110, 101], [108, 97, 116, 101, 115, 116], [103, 105, 118, 101, 110], [115, 117, 109], [103, 105, 118, 101], [116, 111], [108, 97, 121], [115, 119, 97, 112], [119, 105, 116, 104], [112, 97, 115, 115], [116, 105, 109, 101, 115]]
/-- the bytes from a to b are the word -/
def wEq (y : Nat → Nat) (a b : Nat) (wd : List Nat) : Bool := decide (b = a + wd.length) && (List.range wd.length).all (fun i => decide (y (a + i) = wd.getD i 0))
def wFind (y : Nat → Nat) (a b : Nat) : List (List Nat) → Nat → Nat
  | [], _ => 0
  | wd :: r, j => if wEq y a b wd = true then j else wFind y a b r (j + 1)
section WO
variable {y : Nat → Nat} {a b : Nat}
theorem wEq_iff {wd : List Nat} : wEq y a b wd = true ↔ b = a + wd.length ∧ ∀ i, i < wd.length → y (a + i) = wd.getD i 0 := by
  simp only [wEq, Bool.and_eq_true, decide_eq_true_eq, List.all_eq_true, List.mem_range]
theorem wEq_inj {u v : List Nat} (h1 : wEq y a b u = true) (h2 : wEq y a b v = true) : u = v := by
  rw [wEq_iff] at h1 h2
  have hl : u.length = v.length := by omega
  refine List.ext_getElem hl (fun i g1 g2 => ?_)
  have e1 := h1.2 i g1
  have e2 := h2.2 i g2
  rw [List.getD_eq_getElem?_getD, List.getElem?_eq_getElem g1] at e1
  rw [List.getD_eq_getElem?_getD, List.getElem?_eq_getElem g2] at e2
  exact e1.symm.trans e2
theorem wFind_at : ∀ (L : List (List Nat)) (j c : Nat) (wd : List Nat), L.Nodup → L[c]? = some wd → wEq y a b wd = true → wFind y a b L j = j + c
  | [], _, _, _, _, h, _ => by cases h
  | u :: r, j, c, wd, hn, h, he => by
    rw [wFind]
    match c, h with
    | 0, h => cases Option.some.inj h; rw [if_pos he]; rfl
    | c + 1, h =>
      have hn2 := List.nodup_cons.mp hn
      have hne : ¬ wEq y a b u = true := fun q => by
        have := wEq_inj q he
        subst this
        exact hn2.1 (List.mem_of_getElem? h)
      rw [if_neg hne, wFind_at r (j + 1) c wd hn2.2 h he]
      omega
theorem wFind_le : ∀ (L : List (List Nat)) (j : Nat), wFind y a b L j = 0 ∨ (j ≤ wFind y a b L j ∧ wFind y a b L j < j + L.length ∧ ∃ wd, L[wFind y a b L j - j]? = some wd ∧ wEq y a b wd = true)
  | [], _ => Or.inl rfl
  | u :: r, j => by
    rw [wFind]
    split
    · rename_i h
      refine Or.inr ⟨Nat.le_refl _, by simp, u, ?_, h⟩
      rw [Nat.sub_self]
      rfl
    · rcases wFind_le r (j + 1) with h | ⟨h1, h2, wd, h3, h4⟩
      · exact Or.inl h
      · refine Or.inr ⟨by omega, by rw [List.length_cons]; omega, wd, ?_, h4⟩
        rw [show wFind y a b r (j + 1) - j = (wFind y a b r (j + 1) - (j + 1)) + 1 by omega]
        exact h3
theorem wWs_nd : wWs.Nodup := by decide
/-- a word's code -/
theorem wFind_iff {c : Nat} {wd : List Nat} (h : wWs[c]? = some wd) : wFind y a b wWs 1 = c + 1 ↔ wEq y a b wd = true := by
  constructor
  · intro q
    rcases wFind_le (y := y) (a := a) (b := b) wWs 1 with h0 | ⟨h1, h2, wd', h3, h4⟩
    · omega
    · rw [q, Nat.add_sub_cancel, h] at h3
      cases Option.some.inj h3
      exact h4
  · intro q
    rw [wFind_at wWs 1 c wd wWs_nd h q]
    omega
end WO
