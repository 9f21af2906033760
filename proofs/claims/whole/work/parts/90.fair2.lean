/-! The first best row, found one by one. -/
def lt2 (y x : fE) : Prop := y.1 < x.1 ∨ (y.1 = x.1 ∧ y.2.1 < x.2.1)
def bet (st : Option fE) (x : fE) : Option fE := match st with
  | none => some x
  | some y => if x.1 < y.1 ∨ (x.1 = y.1 ∧ x.2.1 ≤ y.2.1) then some y else some x
section FB
variable {W : Nat → Nat → Option Nat} {n : Nat}
theorem bet_mem : ∀ (l : List fE) (st : Option fE), l.foldl bet st = st ∨ ∃ x ∈ l, l.foldl bet st = some x
  | [], st => Or.inl rfl
  | y :: l, st => by
    rw [List.foldl_cons]
    rcases bet_mem l (bet st y) with h | ⟨x, hx, h⟩
    · rw [h]
      cases st with
      | none => exact Or.inr ⟨y, List.mem_cons_self .., rfl⟩
      | some z =>
        simp only [bet]
        split
        · exact Or.inl rfl
        · exact Or.inr ⟨y, List.mem_cons_self .., rfl⟩
    · exact Or.inr ⟨x, List.mem_cons_of_mem _ hx, h⟩
theorem bet_stay {x : fE} : ∀ (l : List fE), (∀ y ∈ l, ¬ lt2 x y) → l.foldl bet (some x) = some x
  | [], _ => rfl
  | y :: l, h => by
    have hy := h y (List.mem_cons_self ..)
    have e : bet (some x) y = some x := by
      simp only [bet]
      rw [if_pos]
      simp only [lt2] at hy
      omega
    rw [List.foldl_cons, e]
    exact bet_stay l (fun z hz => h z (List.mem_cons_of_mem _ hz))
theorem bet_first {l l1 l2 : List fE} {x : fE} (h : l = l1 ++ x :: l2) (h1 : ∀ y ∈ l1, lt2 y x) (h2 : ∀ y ∈ l2, ¬ lt2 x y) : l.foldl bet none = some x := by
  rw [h, List.foldl_append, List.foldl_cons]
  have e : bet (l1.foldl bet none) x = some x := by
    rcases bet_mem l1 none with q | ⟨y, hy, q⟩
    · rw [q]; rfl
    · rw [q]
      have := h1 y hy
      simp only [bet]
      rw [if_neg]
      simp only [lt2] at this
      omega
  rw [e]
  exact bet_stay l2 h2
theorem filter_split {α : Type} {p : α → Bool} {x : α} : ∀ {l l1 l2 : List α}, l.filter p = l1 ++ x :: l2 → ∃ k1 k2, l = k1 ++ x :: k2 ∧ k1.filter p = l1 ∧ k2.filter p = l2
  | [], l1, l2, h => by
    have := congrArg List.length h
    simp at this
  | y :: l, l1, l2, h => by
    by_cases hp : p y = true
    · rw [List.filter_cons_of_pos hp] at h
      cases l1 with
      | nil =>
        rw [List.nil_append] at h
        cases h
        exact ⟨[], l, rfl, rfl, rfl⟩
      | cons z l1 =>
        rw [List.cons_append] at h
        injection h with h1 h2
        subst h1
        obtain ⟨k1, k2, e1, e2, e3⟩ := filter_split h2
        exact ⟨y :: k1, k2, by rw [e1]; rfl, by rw [List.filter_cons_of_pos hp, e2], e3⟩
    · rw [List.filter_cons_of_neg hp] at h
      obtain ⟨k1, k2, e1, e2, e3⟩ := filter_split h
      exact ⟨y :: k1, k2, by rw [e1]; rfl, by rw [List.filter_cons_of_neg hp, e2], e3⟩
theorem lMx_at {f : fE → Nat} : ∀ {l : List fE} {k : Nat}, lMx f l = some k → ∃ x ∈ l, f x = k
  | [], k, h => by cases h
  | y :: l, k, h => by
    rw [lMx] at h
    cases hl : lMx f l with
    | none =>
      rw [hl] at h
      cases h
      exact ⟨y, List.mem_cons_self .., rfl⟩
    | some b =>
      rw [hl] at h
      obtain ⟨x, hx, e⟩ := lMx_at hl
      simp only [oMx] at h
      split at h
      · cases h
        exact ⟨x, List.mem_cons_of_mem _ hx, e⟩
      · cases h
        exact ⟨y, List.mem_cons_self .., rfl⟩
theorem fC_99 : ∀ j m s, ∀ x ∈ fC W j m s, x.1 ≤ 99
  | 0, m, s, x, hx => by
    rw [fC, List.mem_singleton] at hx
    rw [hx]
    exact Nat.le_refl _
  | j + 1, m, s, x, hx => by
    rw [fC] at hx
    obtain ⟨v, _, hx⟩ := List.mem_flatMap.mp hx
    rw [fG] at hx
    split at hx
    · cases hx
    · cases hW : W m v with
      | none => rw [hW] at hx; cases hx
      | some a =>
        rw [hW] at hx
        obtain ⟨y, hy, rfl⟩ := List.mem_map.mp hx
        have := fC_99 j (m + 1) _ y hy
        simp only [f_ext]
        split <;> omega
theorem fair_none (h : gM W true true n n 0 = none) : (fC W n 0 0).foldl bet none = none := by
  rw [fC_min n 0 0 (by omega)] at h
  rw [lMx_none h]
  rfl
theorem fair_some {L : Nat} (h : gM W true true n n 0 = some L) : ∃ S x, gM (fT W L) false true n n 0 = some S ∧ (fC W n 0 0).foldl bet none = some x ∧ x.1 = L ∧ x.2.1 = S ∧ x.2.2 = gG (fT W L) n n 0 0 ∧ ∀ (i v : Nat), (gG (fT W L) n n 0 0)[i]? = some v → v < 7 := by
  rw [fC_min n 0 0 (by omega)] at h
  have hmax := lMx_le h
  obtain ⟨z, hz, hzL⟩ := lMx_at h
  have hL : L ≤ 99 := by rw [← hzL]; exact fC_99 n 0 0 z hz
  have hflt := fC_flt (W := W) hL n 0 0
  have hne : gM (fT W L) false true n n 0 ≠ none := by
    rw [fC_sum n 0 0 (by omega), hflt]
    intro q
    have := lMx_none q
    have hz2 : z ∈ (fC W n 0 0).filter (fun x => decide (L ≤ x.1)) := List.mem_filter.mpr ⟨hz, decide_eq_true (Nat.le_of_eq hzL.symm)⟩
    rw [this] at hz2
    cases hz2
  cases hS : gM (fT W L) false true n n 0 with
  | none => exact absurd hS hne
  | some S =>
    obtain ⟨x, ⟨l1, l2, e1, e2, e3⟩, e4, e5, e6⟩ := f_first n 0 0 S (by omega) hS
    rw [hflt] at e1
    obtain ⟨k1, k2, g1, g2, g3⟩ := filter_split e1
    have hxC : x ∈ fC W n 0 0 := by rw [g1]; exact List.mem_append_right _ (List.mem_cons_self ..)
    have hx2 : x ∈ (fC W n 0 0).filter (fun x => decide (L ≤ x.1)) := by rw [e1]; exact List.mem_append_right _ (List.mem_cons_self ..)
    have hxL : x.1 = L := by
      have a1 := of_decide_eq_true (List.mem_filter.mp hx2).2
      have a2 := hmax x hxC
      omega
    refine ⟨S, x, rfl, bet_first g1 (fun y hy => ?_) (fun y hy => ?_), hxL, e4, e5, e6⟩
    · have hyC : y ∈ fC W n 0 0 := by rw [g1]; exact List.mem_append_left _ hy
      have a2 := hmax y hyC
      by_cases q : L ≤ y.1
      · have : y ∈ l1 := by rw [← g2]; exact List.mem_filter.mpr ⟨hy, decide_eq_true q⟩
        have := e2 y this
        exact Or.inr ⟨by omega, this⟩
      · exact Or.inl (by omega)
    · have hyC : y ∈ fC W n 0 0 := by rw [g1]; exact List.mem_append_right _ (List.mem_cons_of_mem _ hy)
      have a2 := hmax y hyC
      rintro (q | ⟨q1, q2⟩)
      · omega
      · have : y ∈ l2 := by rw [← g3]; exact List.mem_filter.mpr ⟨hy, decide_eq_true (by omega)⟩
        have h9 : y.2.1 ≤ x.2.1 := e3 y this
        omega
theorem gG_gR : ∀ j m, m + j = n → (∀ (i v : Nat), (gG W n j m (gS W false true n m))[i]? = some v → v < 7) → ∀ i, i < j → (gG W n j m (gS W false true n m))[i]? = some (gR W false true n (m + i))
  | 0, m, _, _, i, hi => by omega
  | j + 1, m, h, hv, i, hi => by
    have h0 := hv 0 (gC W false true n m (gS W false true n m)) rfl
    have hs : sAd (gS W false true n m) (gC W false true n m (gS W false true n m)) = gS W false true n (m + 1) := by rw [gS, if_neg (by omega)]
    have ih := gG_gR j (m + 1) (by omega) (fun i v hiv => hv (i + 1) v (by rw [gG, hs]; exact hiv))
    rw [gG, hs]
    match i, hi with
    | 0, _ =>
      show some (gC W false true n m (gS W false true n m)) = _
      rw [Nat.add_zero, gR, if_neg (by omega)]
    | i + 1, hi =>
      show (gG W n j (m + 1) (gS W false true n (m + 1)))[i]? = _
      rw [ih i (by omega), show m + 1 + i = m + (i + 1) by omega]
theorem gG_len : ∀ j m s, (gG W n j m s).length = j
  | 0, _, _ => rfl
  | j + 1, m, s => by rw [gG, List.length_cons, gG_len j]
/-- a row's least and sum from what stands ahead of it -/
def f_acc (l t : Nat) (p : List Nat) (x : fE) : fE := (if x.1 < l then x.1 else l, t + x.2.1, p ++ x.2.2)
theorem f_acc_ext {l t a v : Nat} {p : List Nat} (x : fE) : f_acc l t p (f_ext a v x) = f_acc (if a < l then a else l) (t + a) (p ++ [v]) x := by
  simp only [f_acc, f_ext, List.append_assoc, List.cons_append, List.nil_append]
  refine Prod.ext ?_ (Prod.ext ?_ rfl)
  · simp only []
    (repeat' split) <;> omega
  · simp only []
    omega
end FB
