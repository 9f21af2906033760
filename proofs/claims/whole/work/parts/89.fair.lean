/-! The fairest row: all rows in order, and the first that is best. -/
abbrev fE : Type := Nat × Nat × List Nat
def f_ext (a v : Nat) (x : fE) : fE := (if x.1 < a then x.1 else a, a + x.2.1, v :: x.2.2)
def fG (W : Nat → Nat → Option Nat) (m s : Nat) (r : Nat → List fE) (v : Nat) : List fE := if sIn s v = true then [] else match W m v with
  | none => []
  | some a => (r (sAd s v)).map (f_ext a v)
/-- all rows of j monks from m on, when s is taken: their least, their sum, their vows -/
def fC (W : Nat → Nat → Option Nat) : Nat → Nat → Nat → List fE
  | 0, _, _ => [(99, 0, [])]
  | j + 1, m, s => (List.range 7).flatMap (fG W m s (fC W j (m + 1)))
def lMx (f : fE → Nat) : List fE → Option Nat
  | [] => none
  | x :: l => oMx (some (f x)) (lMx f l)
section FA
variable {W : Nat → Nat → Option Nat}
theorem oMx_none (x : Option Nat) : oMx x none = x := by cases x <;> rfl
theorem oMx_assoc (x y z : Option Nat) : oMx (oMx x y) z = oMx x (oMx y z) := by
  cases x with
  | none => rfl
  | some a =>
    cases y with
    | none => rfl
    | some b =>
      cases z with
      | none => simp only [oMx_none]
      | some c =>
        simp only [oMx]
        congr 1
        (repeat' split) <;> omega
theorem lMx_app (f : fE → Nat) : ∀ l1 l2, lMx f (l1 ++ l2) = oMx (lMx f l1) (lMx f l2)
  | [], _ => rfl
  | x :: l1, l2 => by rw [List.cons_append, lMx, lMx_app f l1 l2, lMx, oMx_assoc]
theorem lMx_le {f : fE → Nat} : ∀ {l : List fE} {k : Nat}, lMx f l = some k → ∀ x ∈ l, f x ≤ k
  | [], _, h, _, hx => by cases hx
  | y :: l, k, h, x, hx => by
    rw [lMx] at h
    cases hl : lMx f l with
    | none =>
      rw [hl, oMx_none] at h
      cases l with
      | nil =>
        cases h
        rcases List.mem_cons.mp hx with rfl | hx
        · exact Nat.le_refl _
        · cases hx
      | cons z l =>
        rw [lMx] at hl
        cases hl2 : lMx f l with
        | none => rw [hl2] at hl; cases hl
        | some b => rw [hl2] at hl; cases hl
    | some b =>
      rw [hl] at h
      simp only [oMx] at h
      cases h
      rcases List.mem_cons.mp hx with rfl | hx
      · split <;> omega
      · have := lMx_le hl x hx
        split <;> omega
theorem lMx_none {f : fE → Nat} : ∀ {l : List fE}, lMx f l = none → l = []
  | [], _ => rfl
  | y :: l, h => by
    rw [lMx] at h
    cases hl : lMx f l with
    | none => rw [hl] at h; cases h
    | some b => rw [hl] at h; cases h
theorem rng_fm {α : Type} (g : Nat → List α) (k : Nat) : (List.range (k + 1)).flatMap g = (List.range k).flatMap g ++ g k := by
  rw [List.range_succ, List.flatMap_append, List.flatMap_cons, List.flatMap_nil, List.append_nil]
theorem lMx_min (a v : Nat) : ∀ l, lMx (fun x => x.1) (l.map (f_ext a v)) = (lMx (fun x => x.1) l).map (fun b => if b < a then b else a)
  | [] => rfl
  | x :: l => by
    rw [List.map_cons, lMx, lMx_min a v l, lMx]
    cases lMx (fun x => x.1) l with
    | none => rfl
    | some b =>
      simp only [oMx, Option.map_some, f_ext]
      congr 1
      (repeat' split) <;> omega
theorem lMx_sum (a v : Nat) : ∀ l, lMx (fun x => x.2.1) (l.map (f_ext a v)) = (lMx (fun x => x.2.1) l).map (fun b => a + b)
  | [] => rfl
  | x :: l => by
    rw [List.map_cons, lMx, lMx_sum a v l, lMx]
    cases lMx (fun x => x.2.1) l with
    | none => rfl
    | some b =>
      simp only [oMx, Option.map_some, f_ext]
      congr 1
      (repeat' split) <;> omega
theorem fG_min {m s v : Nat} {r : Nat → List fE} {q : Nat → Option Nat} (h : ∀ s, q s = lMx (fun x => x.1) (r s)) : gW W true q m s v = lMx (fun x => x.1) (fG W m s r v) := by
  rw [gW, fG]
  split
  · rfl
  · cases W m v with
    | none => rfl
    | some a =>
      simp only []
      rw [lMx_min, h]
      cases lMx (fun x => x.1) (r (sAd s v)) with
      | none => rfl
      | some b => simp
theorem fG_sum {m s v : Nat} {r : Nat → List fE} {q : Nat → Option Nat} (h : ∀ s, q s = lMx (fun x => x.2.1) (r s)) : gW W false q m s v = lMx (fun x => x.2.1) (fG W m s r v) := by
  rw [gW, fG]
  split
  · rfl
  · cases W m v with
    | none => rfl
    | some a =>
      simp only []
      rw [lMx_sum, h]
      cases lMx (fun x => x.2.1) (r (sAd s v)) with
      | none => rfl
      | some b => simp
theorem fC_min {n : Nat} : ∀ j m s, m + j = n → gM W true true n j s = lMx (fun x => x.1) (fC W j m s)
  | 0, m, s, _ => rfl
  | j + 1, m, s, h => by
    have ih := fun s => fC_min (n := n) j (m + 1) s (by omega)
    rw [gM, fC, show n - 1 - j = m by omega, if_pos rfl]
    have key : ∀ k, gV W true (gM W true true n j) m s none k = lMx (fun x => x.1) ((List.range k).flatMap (fG W m s (fC W j (m + 1)))) := by
      intro k
      induction k with
      | zero => rfl
      | succ k ihk => rw [gV, ihk, rng_fm, lMx_app, fG_min ih]
    exact key 7
theorem fC_sum {n : Nat} : ∀ j m s, m + j = n → gM W false true n j s = lMx (fun x => x.2.1) (fC W j m s)
  | 0, m, s, _ => rfl
  | j + 1, m, s, h => by
    have ih := fun s => fC_sum (n := n) j (m + 1) s (by omega)
    rw [gM, fC, show n - 1 - j = m by omega, if_pos rfl]
    have key : ∀ k, gV W false (gM W false true n j) m s none k = lMx (fun x => x.2.1) ((List.range k).flatMap (fG W m s (fC W j (m + 1)))) := by
      intro k
      induction k with
      | zero => rfl
      | succ k ihk => rw [gV, ihk, rng_fm, lMx_app, fG_sum ih]
    exact key 7
/-- only what is as hard as t -/
def fT (W : Nat → Nat → Option Nat) (t : Nat) (m v : Nat) : Option Nat := match W m v with
  | none => none
  | some a => if a < t then none else some a
theorem fC_flt {t : Nat} (ht : t ≤ 99) : ∀ j m s, fC (fT W t) j m s = (fC W j m s).filter (fun x => decide (t ≤ x.1))
  | 0, m, s => by
    rw [fC, fC, List.filter_cons_of_pos (by simpa using ht)]
    rfl
  | j + 1, m, s => by
    have ih := fC_flt ht j (m + 1)
    rw [fC, fC, List.filter_flatMap]
    congr 1
    funext v
    rw [fG, fG]
    split
    · rfl
    · rw [fT]
      cases W m v with
      | none => rfl
      | some a =>
        simp only []
        by_cases q : a < t
        · rw [if_pos q]
          simp only []
          symm
          rw [List.filter_eq_nil_iff]
          intro x hx
          obtain ⟨y, _, rfl⟩ := List.mem_map.mp hx
          show ¬ decide (t ≤ (if y.1 < a then y.1 else a)) = true
          intro h
          have := of_decide_eq_true h
          split at this <;> omega
        · rw [if_neg q]
          simp only []
          rw [ih, List.filter_map]
          congr 1
          refine List.filter_congr (fun x _ => ?_)
          simp only [Function.comp, f_ext]
          congr 1
          rw [eq_iff_iff]
          split <;> omega
/-- x is the first of the best by f -/
def fst1 (f : fE → Nat) (l : List fE) (x : fE) : Prop := ∃ l1 l2, l = l1 ++ x :: l2 ∧ (∀ y ∈ l1, f y < f x) ∧ ∀ y ∈ l2, f y ≤ f x
def gG (W : Nat → Nat → Option Nat) (n : Nat) : Nat → Nat → Nat → List Nat
  | 0, _, _ => []
  | j + 1, m, s => gC W false true n m s :: gG W n j (m + 1) (sAd s (gC W false true n m s))
theorem gC1_first {f : Nat → Option Nat} {g : Option Nat} : ∀ k v u, v ≤ u → u < gC1 f g k v → g ≠ none → f u ≠ g
  | 0, v, u, h1, h2, _ => by rw [gC1] at h2; omega
  | k + 1, v, u, h1, h2, hg => by
    rw [gC1] at h2
    split at h2
    · omega
    · rename_i hn
      by_cases q : u = v
      · rw [q]; exact fun e => hn ⟨e, hg⟩
      · exact gC1_first k (v + 1) u (by omega) h2 hg
theorem gV_le {r : Nat → Option Nat} {m s S : Nat} {lc : Bool} : ∀ k, gV W lc r m s none k = some S → (∀ u b, u < k → gW W lc r m s u = some b → b ≤ S) ∧ ∃ u, u < k ∧ gW W lc r m s u = some S
  | 0, h => by cases h
  | k + 1, h => by
    rw [gV] at h
    cases h1 : gV W lc r m s none k with
    | none =>
      rw [h1] at h
      replace h : gW W lc r m s k = some S := h
      refine ⟨fun u b hu hb => ?_, k, by omega, h⟩
      by_cases q : u = k
      · rw [q, h] at hb
        cases hb
        exact Nat.le_refl _
      · exfalso
        have : ∀ k', gV W lc r m s none k' = none → ∀ u, u < k' → gW W lc r m s u = none := by
          intro k'
          induction k' with
          | zero => intro _ u hu; omega
          | succ k' ih =>
            intro hk u hu
            rw [gV] at hk
            cases h2 : gV W lc r m s none k' with
            | none =>
              rw [h2] at hk
              by_cases q : u = k'
              · rw [q]; exact hk
              · exact ih h2 u (by omega)
            | some z =>
              rw [h2] at hk
              cases h3 : gW W lc r m s k' with
              | none => rw [h3] at hk; cases hk
              | some y => rw [h3] at hk; cases hk
        rw [this k h1 u (by omega)] at hb
        cases hb
    | some x =>
      obtain ⟨ih1, u1, ih2, ih3⟩ := gV_le k h1
      rw [h1] at h
      cases h2 : gW W lc r m s k with
      | none =>
        rw [h2, oMx_none] at h
        cases h
        refine ⟨fun u b hu hb => ?_, u1, by omega, ih3⟩
        by_cases q : u = k
        · rw [q, h2] at hb; cases hb
        · exact ih1 u b (by omega) hb
      | some y =>
        rw [h2] at h
        simp only [oMx] at h
        by_cases q : x < y
        · rw [if_pos q] at h
          cases h
          refine ⟨fun u b hu hb => ?_, k, by omega, h2⟩
          by_cases qu : u = k
          · rw [qu, h2] at hb; cases hb; exact Nat.le_refl _
          · have := ih1 u b (by omega) hb; omega
        · rw [if_neg q] at h
          cases h
          refine ⟨fun u b hu hb => ?_, u1, by omega, ih3⟩
          by_cases qu : u = k
          · rw [qu, h2] at hb; cases hb; omega
          · exact ih1 u b (by omega) hb
theorem gC1_ex {f : Nat → Option Nat} {g : Option Nat} (hg : g ≠ none) : ∀ k v, (∃ u, v ≤ u ∧ u < v + k ∧ f u = g) → gC1 f g k v < v + k ∧ f (gC1 f g k v) = g
  | 0, v, ⟨u, h1, h2, _⟩ => by omega
  | k + 1, v, ⟨u, h1, h2, h3⟩ => by
    rw [gC1]
    split
    · rename_i h
      exact ⟨by omega, h.1⟩
    · rename_i h
      have hne : ¬ u = v := fun q => h ⟨by rw [← q]; exact h3, hg⟩
      have := gC1_ex hg k (v + 1) ⟨u, by omega, by omega, h3⟩
      exact ⟨by omega, this.2⟩
theorem rng_split {α : Type} (g : Nat → List α) : ∀ (k v : Nat), v < k → (List.range k).flatMap g = (List.range v).flatMap g ++ (g v ++ ((List.range (k - 1 - v)).map (fun i => v + 1 + i)).flatMap g)
  | 0, v, h => by omega
  | k + 1, v, h => by
    rw [rng_fm]
    by_cases q : v = k
    · subst q
      rw [show v + 1 - 1 - v = 0 by omega]
      simp
    · rw [rng_split g k v (by omega), show k + 1 - 1 - v = (k - 1 - v) + 1 by omega, List.range_succ, List.map_append, List.flatMap_append, List.append_assoc, List.append_assoc]
      simp only [List.map_cons, List.map_nil, List.flatMap_cons, List.flatMap_nil, List.append_nil]
      rw [show v + 1 + (k - 1 - v) = k by omega]
theorem f_first {n : Nat} : ∀ j m s S, m + j = n → gM W false true n j s = some S → ∃ x, fst1 (fun x => x.2.1) (fC W j m s) x ∧ x.2.1 = S ∧ x.2.2 = gG W n j m s ∧ (∀ (i v : Nat), (gG W n j m s)[i]? = some v → v < 7)
  | 0, m, s, S, _, h => by
    cases h
    exact ⟨(99, 0, []), ⟨[], [], rfl, fun y hy => (by cases hy), fun y hy => (by cases hy)⟩, rfl, rfl, fun i v hv => by cases hv⟩
  | j + 1, m, s, S, h, hM => by
    have hM2 := hM
    rw [gM, show n - 1 - j = m by omega, if_pos rfl] at hM2
    obtain ⟨h1, u, h2, h3⟩ := gV_le 7 hM2
    have hc := gC1_ex (f := gW W false (gM W false true n j) m s) (g := some S) (by simp) 7 0 ⟨u, by omega, by omega, h3⟩
    have hcd : gC W false true n m s = gC1 (gW W false (gM W false true n j) m s) (some S) 7 0 := by
      rw [gC, show n - 1 - m = j by omega, show n - m = j + 1 by omega, hM]
    rw [← hcd] at hc
    have hfirst : ∀ u, u < gC W false true n m s → gW W false (gM W false true n j) m s u ≠ some S := fun u hu => gC1_first 7 0 u (by omega) (by rw [← hcd]; exact hu) (by simp)
    obtain ⟨v, hv⟩ : ∃ v, gC W false true n m s = v := ⟨_, rfl⟩
    rw [hv] at hc hfirst
    have hgw := hc.2
    rw [gW] at hgw
    split at hgw
    · cases hgw
    · rename_i hin
      cases hW : W m v with
      | none => rw [hW] at hgw; cases hgw
      | some a =>
        rw [hW] at hgw
        simp only [] at hgw
        cases hr : gM W false true n j (sAd s v) with
        | none => rw [hr] at hgw; cases hgw
        | some b =>
          rw [hr] at hgw
          simp only [Bool.false_eq_true, if_false, Option.some.injEq] at hgw
          obtain ⟨x, ⟨l1, l2, hl, hl1, hl2⟩, hx1, hx2, hx3⟩ := f_first j (m + 1) (sAd s v) b (by omega) hr
          have hGv : fG W m s (fC W j (m + 1)) v = l1.map (f_ext a v) ++ f_ext a v x :: l2.map (f_ext a v) := by
            rw [fG, if_neg hin, hW]
            simp only []
            rw [hl, List.map_append, List.map_cons]
          have hsum := fun s => fC_sum (W := W) (n := n) j (m + 1) s (by omega)
          have hub : ∀ u, u < 7 → ∀ y ∈ fG W m s (fC W j (m + 1)) u, ∃ b, gW W false (gM W false true n j) m s u = some b ∧ y.2.1 ≤ b ∧ b ≤ S := by
            intro u hu y hy
            have e := fG_sum (W := W) (m := m) (s := s) (v := u) hsum
            cases hl3 : lMx (fun x => x.2.1) (fG W m s (fC W j (m + 1)) u) with
            | none => rw [lMx_none hl3] at hy; cases hy
            | some b2 =>
              rw [hl3] at e
              exact ⟨b2, e, lMx_le hl3 y hy, h1 u b2 hu e⟩
          refine ⟨f_ext a v x, ⟨(List.range v).flatMap (fG W m s (fC W j (m + 1))) ++ l1.map (f_ext a v), l2.map (f_ext a v) ++ ((List.range (7 - 1 - v)).map (fun i => v + 1 + i)).flatMap (fG W m s (fC W j (m + 1))), ?_, ?_, ?_⟩, ?_, ?_, ?_⟩
          · rw [fC, rng_split _ 7 v (by omega), hGv]
            simp only [List.append_assoc, List.cons_append]
          · intro y hy
            have hxs : (f_ext a v x).2.1 = S := by simp only [f_ext]; omega
            show y.2.1 < (f_ext a v x).2.1
            rw [hxs]
            rcases List.mem_append.mp hy with hy | hy
            · obtain ⟨u2, hu2, hy⟩ := List.mem_flatMap.mp hy
              rw [List.mem_range] at hu2
              obtain ⟨b2, e2, e3, e4⟩ := hub u2 (by omega) y hy
              have : b2 ≠ S := fun q => hfirst u2 hu2 (by rw [e2, q])
              omega
            · obtain ⟨z, hz, rfl⟩ := List.mem_map.mp hy
              have := hl1 z hz
              simp only [f_ext] at this ⊢
              omega
          · intro y hy
            have hxs : (f_ext a v x).2.1 = S := by simp only [f_ext]; omega
            show y.2.1 ≤ (f_ext a v x).2.1
            rw [hxs]
            rcases List.mem_append.mp hy with hy | hy
            · obtain ⟨z, hz, rfl⟩ := List.mem_map.mp hy
              have := hl2 z hz
              simp only [f_ext] at this ⊢
              omega
            · obtain ⟨u2, hu2, hy⟩ := List.mem_flatMap.mp hy
              obtain ⟨i, hi, rfl⟩ := List.mem_map.mp hu2
              rw [List.mem_range] at hi
              obtain ⟨b2, e2, e3, e4⟩ := hub (v + 1 + i) (by omega) y hy
              omega
          · simp only [f_ext]
            omega
          · rw [gG, hv]
            simp only [f_ext]
            rw [hx2]
          · intro i w hw
            rw [gG, hv] at hw
            match i, hw with
            | 0, hw => cases hw; omega
            | i + 1, hw => exact hx3 i w hw
end FA
