/-! A receiver's kind. -/
theorem rc_none {as : List Value} {h : hv_H} : hv_rc none as h = true := rfl
theorem rc_of {h : hv_H} {a ci : Nat} {fs : List Value} {as : List Value} (q : h[a]? = some (.inr (ci, fs))) : hv_rc (some ci) (.ref a :: as) h = true := by simp [hv_rc, q]
theorem rc_0 {w : wW} {as : List Value} : hv_rc (some 10) (.ref 0 :: as) (wB w) = true := rfl
theorem rc_1 {w : wW} {as : List Value} : hv_rc (some 9) (.ref 1 :: as) (wB w) = true := rfl
theorem rc_2 {w : wW} {as : List Value} : hv_rc (some 3) (.ref 2 :: as) (wB w) = true := rfl
theorem rc_8 {w : wW} {as : List Value} : hv_rc (some 4) (.ref 8 :: as) (wB w) = true := rfl
theorem rc_10 {w : wW} {as : List Value} : hv_rc (some 7) (.ref 10 :: as) (wB w) = true := rfl
theorem rc_12 {w : wW} {as : List Value} : hv_rc (some 0) (.ref 12 :: as) (wB w) = true := rfl
theorem rc_18 {w : wW} {as : List Value} : hv_rc (some 5) (.ref 18 :: as) (wB w) = true := rfl
theorem rc_19 {w : wW} {as : List Value} : hv_rc (some 3) (.ref 19 :: as) (wB w) = true := rfl
theorem rc_21 {w : wW} {as : List Value} : hv_rc (some 3) (.ref 21 :: as) (wB w) = true := rfl
theorem rc_24 {w : wW} {as : List Value} : hv_rc (some 2) (.ref 24 :: as) (wB w) = true := rfl
theorem rc_25 {w : wW} {as : List Value} : hv_rc (some 8) (.ref 25 :: as) (wB w) = true := rfl
theorem rc_28 {w : wW} {as : List Value} : hv_rc (some 8) (.ref 28 :: as) (wB w) = true := rfl
theorem rc_31 {w : wW} {as : List Value} : hv_rc (some 3) (.ref 31 :: as) (wB w) = true := rfl
theorem rc_35 {w : wW} {as : List Value} : hv_rc (some 6) (.ref 35 :: as) (wB w) = true := rfl
theorem rc_36 {w : wW} {as : List Value} : hv_rc (some 1) (.ref 36 :: as) (wB w) = true := rfl
theorem rc_40 {w : wW} {as : List Value} : hv_rc (some 11) (.ref 40 :: as) (wB w) = true := rfl
/-! Loops by a step of their own. -/
def nfold {X : Type} (g : Nat → X → X) : Nat → X → X
  | 0, x => x
  | n + 1, x => g n (nfold g n x)
/-- a loop of n rounds whose rounds are steps g; what lies dead in its locals is y -/
theorem lp_g {X Y : Type} {B : hv_M} {σ : hv_S} (St : Nat → X → Y → hv_S) (g : Nat → X → X) (P : Nat → X → Prop) (n : Nat) (x0 : X) (y0 : Y) (h0 : σ = St 0 x0 y0) (hp : P 0 x0) (hs : ∀ i x y, i < n → P i x → (∃ y', B (St i x y) = some (.inl (1, St (i + 1) (g i x) y'))) ∧ P (i + 1) (g i x)) (he : ∀ x y, P n x → B (St n x y) = some (.inl (0, St n x y))) : (∃ y, hv_lp B σ = some (.inl (0, St n (nfold g n x0) y))) ∧ P n (nfold g n x0) := by
  have key : ∀ i, i ≤ n → P i (nfold g i x0) ∧ ∃ y, hv_lp B σ = hv_lp B (St i (nfold g i x0) y) := by
    intro i
    induction i with
    | zero => intro _; exact ⟨hp, y0, by rw [h0]; rfl⟩
    | succ i ih =>
      intro hi
      obtain ⟨p1, y1, e1⟩ := ih (by omega)
      obtain ⟨⟨y2, e2⟩, p2⟩ := hs i _ y1 (by omega) p1
      refine ⟨p2, y2, ?_⟩
      rw [e1, hv_lp_eq, e2]
      rfl
  obtain ⟨p1, y1, e1⟩ := key n (Nat.le_refl n)
  refine ⟨⟨y1, ?_⟩, p1⟩
  rw [e1, hv_lp_eq, he _ y1 p1]
  rfl
/-- likewise, without a condition -/
theorem lp_h {X Y : Type} {B : hv_M} {σ : hv_S} (St : Nat → X → Y → hv_S) (g : Nat → X → X) (n : Nat) (x0 : X) (y0 : Y) (h0 : σ = St 0 x0 y0) (hs : ∀ i x y, i < n → ∃ y', B (St i x y) = some (.inl (1, St (i + 1) (g i x) y'))) (he : ∀ x y, B (St n x y) = some (.inl (0, St n x y))) : ∃ y, hv_lp B σ = some (.inl (0, St n (nfold g n x0) y)) :=
  (lp_g St g (fun _ _ => True) n x0 y0 h0 trivial (fun i x y hi _ => ⟨hs i x y hi, trivial⟩) (fun x y _ => he x y)).1

