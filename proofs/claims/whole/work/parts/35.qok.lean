/-! How far a part of a text goes. -/
def q_ok {α : Type} (T : Nat) (X : qP α) : Prop := (∀ k p k' p' a, X k p = .inr (k', p', a) → k < k' ∧ k' ≤ T ∧ p < p' ∧ (p ≤ 50 → p' ≤ 50)) ∧ ∀ k p e, k ≤ T → X k p = .inl e → e ≤ T
section QO
variable {α : Type} {X : qP α} {op : Int32 → Option (α → α → α)} {tc tv : qT} {T : Nat} {o : Bool}
theorem q_chain_ok1 (hX : q_ok T X) : ∀ n k p a k' p' a', k ≤ T → q_chain X op tc n k p a = .inr (k', p', a') → k ≤ k' ∧ k' ≤ T ∧ p ≤ p' ∧ (p ≤ 50 → p' ≤ 50)
  | 0, k, p, a, k', p', a', hk, h => by
    simp only [q_chain, Sum.inr.injEq, Prod.mk.injEq] at h
    omega
  | n + 1, k, p, a, k', p', a', hk, h => by
    simp only [q_chain] at h
    split at h
    · simp only [Sum.inr.injEq, Prod.mk.injEq] at h
      omega
    · split at h
      · cases h
      · rename_i k1 p1 b hx
        have h1 := hX.1 _ _ _ _ _ hx
        have h2 := q_chain_ok1 hX n _ _ _ _ _ _ h1.2.1 h
        omega
theorem q_chain_ok2 (hX : q_ok T X) (h0 : op 0 = none) (ht : ∀ k, T ≤ k → tc k = 0) : ∀ n k p a e, k ≤ T → q_chain X op tc n k p a = .inl e → e ≤ T
  | 0, k, p, a, e, hk, h => by simp only [q_chain] at h; cases h
  | n + 1, k, p, a, e, hk, h => by
    simp only [q_chain] at h
    split at h
    · cases h
    · rename_i c hc
      have hkT : k < T := Nat.lt_of_not_le (fun q => by rw [ht k q, h0] at hc; cases hc)
      split at h
      · rename_i e1 hx
        cases h
        exact hX.2 _ _ _ hkT hx
      · rename_i k1 p1 b hx
        exact q_chain_ok2 hX h0 ht n _ _ _ _ (hX.1 _ _ _ _ _ hx).2.1 h
theorem q_seq_ok (hX : q_ok T X) (h0 : op 0 = none) (ht : ∀ k, T ≤ k → tc k = 0) : q_ok T (q_seq X op tc) := by
  refine ⟨fun k p k' p' a h => ?_, fun k p e hk h => ?_⟩
  · simp only [q_seq] at h
    split at h
    · cases h
    · rename_i k1 p1 b hx
      have h1 := hX.1 _ _ _ _ _ hx
      have h2 := q_chain_ok1 hX _ _ _ _ _ _ _ h1.2.1 h
      omega
  · simp only [q_seq] at h
    split at h
    · rename_i e1 hx
      cases h
      exact hX.2 _ _ _ hk hx
    · rename_i k1 p1 b hx
      exact q_chain_ok2 hX h0 ht _ _ _ _ _ (hX.1 _ _ _ _ _ hx).2.1 h
theorem q_ne0 {k : Nat} (h0 : ∀ k, T ≤ k → tc k = 0) (h : tc k ≠ 0) : k < T := Nat.lt_of_not_le (fun q => h (h0 k q))
theorem q_leaf_ok (h0 : ∀ k, T ≤ k → tc k = 0) : q_ok T (q_leaf o tc tv) := by
  have key : ∀ k, ((tc k = 50 ∧ tv k ≤ 1000) ∨ (o = true ∧ 14 ≤ tc k ∧ tc k ≤ 20) ∨ (o = false ∧ 10 ≤ tc k ∧ tc k ≤ 16)) → k < T := fun k hc => q_ne0 h0 (fun q => by rw [q] at hc; revert hc; cases o <;> simp)
  refine ⟨fun k p k' p' a h => ?_, fun k p e hk h => ?_⟩
  · simp only [q_leaf] at h
    split at h
    · rename_i hc
      have hk : k < T := key k hc
      split at h
      · cases h
      · split at h
        · split at h
          · rename_i h5
            have hk1 : k + 1 < T := q_ne0 h0 (fun q => by rw [q] at h5; exact absurd h5.1 (by decide))
            simp only [Sum.inr.injEq, Prod.mk.injEq] at h
            omega
          · cases h
        · simp only [Sum.inr.injEq, Prod.mk.injEq] at h
          omega
    · cases h
  · simp only [q_leaf] at h
    split at h
    · rename_i hc
      have hk : k < T := key k hc
      split at h
      · cases h; omega
      · split at h
        · split at h
          · cases h
          · cases h; omega
        · cases h
    · cases h; omega
theorem q_mul0 : q_mul 0 = none := by decide
theorem q_add0 : q_add 0 = none := by decide
theorem q_and0 : q_and 0 = none := by decide
theorem q_or0 : q_or 0 = none := by decide
theorem q_part_ok (h0 : ∀ k, T ≤ k → tc k = 0) : ∀ r, q_ok T (q_part o tc tv r)
  | 0 => by
    refine ⟨fun k p k' p' a h => ?_, fun k p e hk h => ?_⟩ <;> simp only [q_part] at h <;> split at h
    · cases h
    · exact (q_leaf_ok h0).1 _ _ _ _ _ h
    · cases h; exact hk
    · exact (q_leaf_ok h0).2 _ _ _ hk h
  | r + 1 => by
    have hs := q_seq_ok (q_seq_ok (q_part_ok h0 r) q_mul0 h0) q_add0 h0
    refine ⟨fun k p k' p' a h => ?_, fun k p e hk h => ?_⟩ <;> simp only [q_part] at h <;> split at h
    · split at h
      · cases h
      · rename_i k1 p1 b hx
        have h1 := hs.1 _ _ _ _ _ hx
        split at h
        · rename_i h5
          have hk1 : k1 < T := q_ne0 h0 (fun q => by rw [q] at h5; exact absurd h5 (by decide))
          simp only [Sum.inr.injEq, Prod.mk.injEq] at h
          omega
        · cases h
    · exact (q_leaf_ok h0).1 _ _ _ _ _ h
    · rename_i h6
      have hk1 : k < T := q_ne0 h0 (fun q => by rw [q] at h6; exact absurd h6 (by decide))
      split at h
      · rename_i e1 hx
        cases h
        exact hs.2 _ _ _ hk1 hx
      · rename_i k1 p1 b hx
        have h1 := hs.1 _ _ _ _ _ hx
        split at h
        · cases h
        · cases h; exact h1.2.1
    · exact (q_leaf_ok h0).2 _ _ _ hk h
theorem q_sum_ok (h0 : ∀ k, T ≤ k → tc k = 0) (r : Nat) : q_ok T (q_sum o tc tv r) := q_seq_ok (q_seq_ok (q_part_ok h0 r) q_mul0 h0) q_add0 h0
theorem q_nots_le (h0 : ∀ k, T ≤ k → tc k = 0) : ∀ n k t, k ≤ T → k ≤ (q_nots tc n k t).1 ∧ (q_nots tc n k t).1 ≤ T
  | 0, k, t, hk => ⟨Nat.le_refl _, hk⟩
  | n + 1, k, t, hk => by
    simp only [q_nots]
    split
    · rename_i h
      have hk1 : k < T := q_ne0 h0 (fun q => by rw [q] at h; exact absurd h (by decide))
      have := q_nots_le h0 n (k + 1) (!t) hk1
      omega
    · exact ⟨Nat.le_refl _, hk⟩
theorem q_comp_ok (h0 : ∀ k, T ≤ k → tc k = 0) (r : Nat) : q_ok T (q_comp o tc tv r) := by
  have hs := q_sum_ok (o := o) (tv := tv) h0 r
  refine ⟨fun k p k' p' a h => ?_, fun k p e hk h => ?_⟩ <;> simp only [q_comp] at h <;> split at h
  · cases h
  · rename_i k1 p1 b hx
    have h1 := hs.1 _ _ _ _ _ hx
    split at h
    · split at h
      · cases h
      · rename_i k2 p2 b2 hx2
        have h2 := hs.1 _ _ _ _ _ hx2
        simp only [Sum.inr.injEq, Prod.mk.injEq] at h
        omega
    · cases h
  · rename_i e1 hx
    cases h
    exact hs.2 _ _ _ hk hx
  · rename_i k1 p1 b hx
    have h1 := hs.1 _ _ _ _ _ hx
    split at h
    · rename_i h6
      have hk1 : k1 < T := q_ne0 h0 (fun q => by rw [q] at h6; revert h6; decide)
      split at h
      · rename_i e1 hx2
        cases h
        exact hs.2 _ _ _ hk1 hx2
      · cases h
    · cases h; exact h1.2.1
theorem q_turn_r {t : Bool} {x : qR vT} {k p : Nat} {a : vT} (h : q_turn t x = .inr (k, p, a)) : ∃ b, x = .inr (k, p, b) := by
  match x, h with
  | .inr (k, p, b), h => simp only [q_turn, Sum.inr.injEq, Prod.mk.injEq] at h; exact ⟨b, by rw [h.1, h.2.1]⟩
theorem q_turn_l {t : Bool} {x : qR vT} {e : Nat} (h : q_turn t x = .inl e) : x = .inl e := by
  match x, h with
  | .inl e, h => exact h
theorem q_plain_ok (h0 : ∀ k, T ≤ k → tc k = 0) : ∀ r, q_ok T (q_plain o tc tv r) := by
  have kt : ∀ k, k ≤ T ∨ T < k := fun k => by omega
  intro r
  induction r with
  | zero =>
    have hc := q_comp_ok (o := o) (tv := tv) h0 0
    refine ⟨fun k p k' p' a h => ?_, fun k p e hk h => ?_⟩ <;> simp only [q_plain] at h
    · obtain ⟨b, h⟩ := q_turn_r h
      split at h
      · cases h
      · have h1 := hc.1 _ _ _ _ _ h
        rcases kt k with hk | hk
        · have h2 := q_nots_le h0 400 k false hk
          omega
        · have h3 : q_nots tc 400 k false = (k, false) := by simp [q_nots, h0 k (by omega)]
          rw [h3] at h1
          exact h1
    · have h := q_turn_l h
      have h2 := q_nots_le h0 400 k false hk
      split at h
      · cases h; exact h2.2
      · exact hc.2 _ _ _ h2.2 h
  | succ r ih =>
    have hs := q_seq_ok (q_seq_ok ih q_and0 h0) q_or0 h0
    have hc := q_comp_ok (o := o) (tv := tv) h0 (r + 1)
    refine ⟨fun k p k' p' a h => ?_, fun k p e hk h => ?_⟩ <;> simp only [q_plain] at h
    · obtain ⟨b, h⟩ := q_turn_r h
      have hle : k ≤ (q_nots tc 400 k false).1 := by
        rcases kt k with hk | hk
        · exact (q_nots_le h0 400 k false hk).1
        · have h3 : q_nots tc 400 k false = (k, false) := by simp [q_nots, h0 k (by omega)]
          rw [h3]
          exact Nat.le_refl _
      split at h
      · split at h
        · cases h
        · rename_i k1 p1 b1 hx
          have h1 := hs.1 _ _ _ _ _ hx
          split at h
          · rename_i h5
            have hk1 : k1 < T := q_ne0 h0 (fun q => by rw [q] at h5; exact absurd h5 (by decide))
            simp only [Sum.inr.injEq, Prod.mk.injEq] at h
            omega
          · cases h
      · have h1 := hc.1 _ _ _ _ _ h
        omega
    · have h := q_turn_l h
      have h2 := q_nots_le h0 400 k false hk
      split at h
      · rename_i h6
        have hk1 : (q_nots tc 400 k false).1 < T := q_ne0 h0 (fun q => by rw [q] at h6; exact absurd h6 (by decide))
        split at h
        · rename_i e1 hx
          cases h
          exact hs.2 _ _ _ hk1 hx
        · rename_i k1 p1 b1 hx
          have h1 := hs.1 _ _ _ _ _ hx
          split at h
          · cases h
          · cases h; exact h1.2.1
      · exact hc.2 _ _ _ h2.2 h
theorem q_test_ok (h0 : ∀ k, T ≤ k → tc k = 0) (r : Nat) : q_ok T (q_test o tc tv r) := q_seq_ok (q_seq_ok (q_plain_ok h0 r) q_and0 h0) q_or0 h0
end QO
