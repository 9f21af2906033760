/-! Tokens of a text of n bytes. -/
def tR (P : Nat → Bool) (y : Nat → Nat) (n : Nat) : Nat → Nat → Nat
  | 0, i => i
  | f + 1, i => if i < n ∧ P (y i) = true then tR P y n f (i + 1) else i
/-- how far a row of bytes of a kind goes -/
def tRun (P : Nat → Bool) (y : Nat → Nat) (n i : Nat) : Nat := tR P y n (n - i) i
def bBl (u : Nat) : Bool := decide (u = 32)
def bSm (u : Nat) : Bool := decide (97 ≤ u ∧ u ≤ 122)
def bDg (u : Nat) : Bool := decide (48 ≤ u ∧ u ≤ 57)
section TK
variable {P : Nat → Bool} {y : Nat → Nat} {n : Nat}
theorem tRun_eq (i : Nat) : tRun P y n i = if i < n ∧ P (y i) = true then tRun P y n (i + 1) else i := by
  by_cases h : i < n
  · rw [tRun, show n - i = (n - (i + 1)) + 1 by omega, tR]
    rfl
  · rw [tRun, show n - i = 0 by omega, tR, if_neg (fun q => h q.1)]
theorem tRun_ge : ∀ f i, n - i ≤ f → i ≤ tRun P y n i ∧ (i ≤ n → tRun P y n i ≤ n) ∧ (tRun P y n i < n → P (y (tRun P y n i)) = false) ∧ ∀ j, i ≤ j → j < tRun P y n i → P (y j) = true
  | 0, i, hf => by
    rw [tRun_eq, if_neg (by omega)]
    exact ⟨Nat.le_refl _, fun h => h, fun h => by omega, fun j h1 h2 => by omega⟩
  | f + 1, i, hf => by
    rw [tRun_eq]
    by_cases h : i < n ∧ P (y i) = true
    · rw [if_pos h]
      obtain ⟨h1, h2, h3, h4⟩ := tRun_ge f (i + 1) (by omega)
      refine ⟨by omega, fun _ => h2 (by omega), h3, fun j g1 g2 => ?_⟩
      by_cases hj : j = i
      · rw [hj]; exact h.2
      · exact h4 j (by omega) g2
    · rw [if_neg h]
      refine ⟨Nat.le_refl _, fun h => h, fun hn => ?_, fun j g1 g2 => by omega⟩
      cases hp : P (y i)
      · rfl
      · exact absurd ⟨hn, hp⟩ h
theorem tRun_le (i : Nat) : i ≤ tRun P y n i := (tRun_ge (n - i) i (Nat.le_refl _)).1
theorem tRun_n {i : Nat} (h : i ≤ n) : tRun P y n i ≤ n := (tRun_ge (n - i) i (Nat.le_refl _)).2.1 h
theorem tRun_no {i : Nat} (h : tRun P y n i < n) : P (y (tRun P y n i)) = false := (tRun_ge (n - i) i (Nat.le_refl _)).2.2.1 h
theorem tRun_in {i j : Nat} (h1 : i ≤ j) (h2 : j < tRun P y n i) : P (y j) = true := (tRun_ge (n - i) i (Nat.le_refl _)).2.2.2 j h1 h2
theorem tRun_1 {i : Nat} (h : i < n) (hp : P (y i) = true) : tRun P y n i = tRun P y n (i + 1) := by rw [tRun_eq, if_pos ⟨h, hp⟩]
theorem tRun_0 {i : Nat} (h : ¬ (i < n ∧ P (y i) = true)) : tRun P y n i = i := by rw [tRun_eq, if_neg h]
/-- a token's end, by its start -/
def tEnd (y : Nat → Nat) (n s : Nat) : Nat := if s < n then (if bSm (y s) then tRun bSm y n s else if bDg (y s) then tRun bDg y n s else s + 1) else n
def tS (y : Nat → Nat) (n : Nat) : Nat → Nat
  | 0 => tRun bBl y n 0
  | k + 1 => tRun bBl y n (tEnd y n (tS y n k))
def tE (y : Nat → Nat) (n k : Nat) : Nat := tEnd y n (tS y n k)
theorem tEnd_n {s : Nat} (h : s ≤ n) : tEnd y n s ≤ n := by
  rw [tEnd]
  split
  · split
    · exact tRun_n h
    · split
      · exact tRun_n h
      · omega
  · exact Nat.le_refl _
theorem tEnd_gt {s : Nat} (h : s < n) : s < tEnd y n s := by
  rw [tEnd, if_pos h]
  split
  · rename_i hp
    rw [tRun_1 h hp]
    exact tRun_le (s + 1)
  · split
    · rename_i hp
      rw [tRun_1 h hp]
      exact tRun_le (s + 1)
    · omega
theorem tS_n : ∀ k, tS y n k ≤ n
  | 0 => tRun_n (Nat.zero_le _)
  | k + 1 => tRun_n (tEnd_n (tS_n k))
theorem tS_lt {k : Nat} (h : tS y n k < n) : tS y n k < tS y n (k + 1) := Nat.lt_of_lt_of_le (tEnd_gt h) (tRun_le _)
theorem tS_ge : ∀ k, tS y n k < n → k ≤ tS y n k
  | 0, _ => Nat.zero_le _
  | k + 1, h => by
    by_cases hk : tS y n k < n
    · have := tS_ge k hk
      have := tS_lt hk
      omega
    · have h1 : tS y n k = n := by have := tS_n (y := y) (n := n) k; omega
      have h2 : tS y n (k + 1) = n := by
        show tRun bBl y n (tEnd y n (tS y n k)) = n
        rw [h1, tEnd, if_neg (by omega), tRun_0 (by omega)]
      omega
def tCn (y : Nat → Nat) (n : Nat) : Nat → Nat → Nat
  | 0, k => k
  | f + 1, k => if tS y n k < n then tCn y n f (k + 1) else k
/-- how many tokens -/
def tT (y : Nat → Nat) (n : Nat) : Nat := tCn y n (n + 1) 0
theorem tCn_ok : ∀ f k, (∀ j, j < k → tS y n j < n) → n + 1 ≤ f + k → (∀ j, j < tCn y n f k → tS y n j < n) ∧ tS y n (tCn y n f k) = n
  | 0, k, h, hf => by
    have h1 := h (k - 1) (by omega)
    have := tS_ge (k - 1) h1
    omega
  | f + 1, k, h, hf => by
    rw [tCn]
    by_cases hk : tS y n k < n
    · rw [if_pos hk]
      refine tCn_ok f (k + 1) (fun j hj => ?_) (by omega)
      by_cases hj2 : j = k
      · rw [hj2]; exact hk
      · exact h j (by omega)
    · rw [if_neg hk]
      exact ⟨h, by have := tS_n (y := y) (n := n) k; omega⟩
theorem tT_lt {k : Nat} (h : k < tT y n) : tS y n k < n := (tCn_ok (n + 1) 0 (fun j hj => by omega) (by omega)).1 k h
theorem tT_eq : tS y n (tT y n) = n := (tCn_ok (n + 1) 0 (fun j hj => by omega) (by omega)).2
theorem tT_le : tT y n ≤ n := by
  cases h : tT y n with
  | zero => omega
  | succ k =>
    have h1 := tT_lt (y := y) (n := n) (k := k) (by omega)
    have := tS_ge k h1
    omega
theorem tT_ge {k : Nat} (h : tT y n ≤ k) : tS y n k = n := by
  induction k with
  | zero => have h0 : tT y n = 0 := by omega
            have := tT_eq (y := y) (n := n)
            rw [h0] at this
            exact this
  | succ k ih =>
    by_cases hk : tT y n = k + 1
    · rw [← hk]; exact tT_eq
    · show tRun bBl y n (tEnd y n (tS y n k)) = n
      rw [ih (by omega), tEnd, if_neg (by omega), tRun_0 (by omega)]
/-- numbers, as the reference and as the class reads them -/
def tvM (y : Nat → Nat) (a : Nat) : Nat → Nat
  | 0 => 0
  | m + 1 => if 1000000 < tvM y a m then tvM y a m else 10 * tvM y a m + y (a + m) - 48
def tvV (y : Nat → Nat) (a : Nat) : Nat → Nat
  | 0 => 0
  | m + 1 => if tvV y a m * 10 + y (a + m) - 48 ≤ 1001 then tvV y a m * 10 + y (a + m) - 48 else 1001
theorem tv_rel (a : Nat) : ∀ m, (∀ i, i < m → bDg (y (a + i)) = true) → tvV y a m ≤ 1001 ∧ tvM y a m ≤ 10000009 ∧ (tvV y a m = tvM y a m ∨ (tvV y a m = 1001 ∧ 1000 < tvM y a m))
  | 0, _ => by simp [tvV, tvM]
  | m + 1, h => by
    obtain ⟨h1, h2, h3⟩ := tv_rel a m (fun i hi => h i (by omega))
    have hd := h m (by omega)
    simp only [bDg, decide_eq_true_eq] at hd
    simp only [tvV, tvM]
    split <;> split <;> omega
end TK
