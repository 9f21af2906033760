/-! Every method of the system, at every depth, keeps to the meaning. -/
set_option maxRecDepth 100000 in
theorem hv_BD_len : hv_BD.length = 305 := rfl
theorem hv_sem_str (d j : Nat) (as : List Value) (h : hv_H) (r : hv_R) (hj : 305 ≤ j) (hs : hv_sem d j as h = some r) : (j = 305 ∧ ∃ k, as = [.retAddr k] ∧ k < 11) ∨ (j = 306 ∧ ∃ k i, as = [.retAddr k, .int i] ∧ k < 11) := by
  cases d with
  | zero => simp [hv_sem] at hs
  | succ d =>
    have hB : hv_BD[j]? = none := List.getElem?_eq_none (by rw [hv_BD_len]; exact hj)
    unfold hv_sem at hs
    rw [hB] at hs
    simp only at hs
    split at hs
    · cases hs
    · split at hs
      · rename_i k
        split at hs
        · rename_i hk
          exact Or.inl ⟨rfl, k, rfl, hk⟩
        · cases hs
      · rename_i k i
        split at hs
        · rename_i hk
          exact Or.inr ⟨rfl, k, i, rfl, hk.1⟩
        · cases hs
      · cases hs
theorem hv_sim (l : Launch) (D : va_G) (b : Nat) (sa sv : Nat → Nat) (cA : Nat → ClassId) : ∀ d, hv_Sim l D b sa sv cA (hv_sem d) d
  | 0 => fun j as h rv h' hs => by simp [hv_sem] at hs
  | d + 1 => fun j as h rv h' hs => by
    have IH := hv_sim l D b sa sv cA d
    by_cases hj : j < 305
    · exact hv_met IH (hv_sem_str d) hj hs
    · have hB : hv_BD[j]? = none := List.getElem?_eq_none (by rw [hv_BD_len]; exact Nat.not_lt.mp hj)
      unfold hv_sem at hs
      rw [hB] at hs
      simp only at hs
      split at hs
      · cases hs
      · rename_i hd
        obtain ⟨d', rfl⟩ : ∃ d', d = d' + 5 := ⟨d - 5, by omega⟩
        split at hs
        · rename_i k
          split at hs
          · rename_i hk
            cases Option.some.inj hs
            exact mT_length l D b sa sv cA (d' + 1) hk h
          · cases hs
        · rename_i k i
          split at hs
          · rename_i hk
            cases Option.some.inj hs
            exact mT_charAt l D b sa sv cA (d' + 1) hk.1 hk.2.1 hk.2.2 h
          · cases hs
        · cases hs
