/-! What more cells leave. -/
section AP
variable {w w1 : wW} {D X : hv_H} {I : Nat → Option Nat} {la : Nat → Option Nat} {c b k : Nat} {cs : List qC} {ls : List (List qC)} {im : Nat → Option aW}
theorem gx {i : Nat} {x : va_E} (h : D[i]? = some x) : (D ++ X)[i]? = some x := by
  obtain ⟨hi, _⟩ := List.getElem?_eq_some_iff.mp h
  rw [List.getElem?_append_left hi]
  exact h
theorem gx_lt {i : Nat} {x : va_E} (h : D[i]? = some x) : i < D.length := (List.getElem?_eq_some_iff.mp h).1
theorem lwB_app (h : lwB D I c cs) : lwB (D ++ X) I c cs := by
  obtain ⟨mk, sp, M, S, len, h0, h1, h2, h3, h4, h5, h6, h7⟩ := h
  exact ⟨mk, sp, M, S, len, h0, h1, h2, h3, gx h4, gx h5, gx h6, h7⟩
theorem vLw_app (h : vLw la D I ls) : vLw la (D ++ X) I ls := by
  refine ⟨fun L cs hL => ?_, h.2⟩
  obtain ⟨c, h1, h2⟩ := h.1 L cs hL
  exact ⟨c, h1, lwB_app h2⟩
theorem imO_app {a : aW} (h : imO D I b a) : imO (D ++ X) I b a := by
  obtain ⟨H, md, n, ls, fc, sn, sv, ss⟩ := a
  obtain ⟨h0, F, la, SV, SS, h1, h2, h3, h4, h5, h6, h7, h8, h9, h10, h11⟩ := h
  exact ⟨h0, F, la, SV, SS, gx h1, gx h2, gx h3, gx h4, gx h5, gx h6, h7, h8, h9, h10, vLw_app h11⟩
theorem vIm_app (h : vIm w im) (e1 : w_im w1 = w_im w) (e2 : w_dy w1 = w_dy w ++ X) : vIm w1 im := by
  obtain ⟨h1, h2⟩ := h
  refine ⟨fun k hk => ?_, by rw [e1]; exact h2⟩
  have := h1 k hk
  cases hi : im k with
  | none =>
    rw [hi] at this
    rw [e1]
    exact this
  | some a =>
    rw [hi] at this
    obtain ⟨b, g1, g2⟩ := this
    exact ⟨b, by rw [e1]; exact g1, by rw [e1, e2]; exact imO_app g2⟩
theorem imO_hi {a : aW} (h : imO D I b a) : 66 ≤ b ∧ b + 6 ≤ 66 + D.length := by
  obtain ⟨H, md, n, ls, fc, sn, sv, ss⟩ := a
  obtain ⟨h0, F, la, SV, SS, h1, h2, h3, h4, h5, h6, h7⟩ := h
  have := gx_lt h6
  omega
theorem vIm_hi (h : vIm w im) (hk : k < 2) (hb : w_im w k = some b) : 66 ≤ b ∧ b + 6 ≤ 66 + (w_dy w).length := by
  have := h.1 k hk
  cases hi : im k with
  | none =>
    rw [hi] at this
    rw [this] at hb
    cases hb
  | some a =>
    rw [hi] at this
    obtain ⟨b', g1, g2⟩ := this
    rw [hb] at g1
    cases g1
    exact imO_hi g2
theorem vBad_hi (h : vIm w im) (hc : 66 + (w_dy w).length ≤ c) : ¬ vBad (w_im w) c := by
  rintro ⟨k, b, hk, hb, h1, h2⟩
  have := vIm_hi h hk hb
  omega
theorem vu_at {α : Type} {f : Nat → α} {i : Nat} {x : α} : va_up f i x i = x := by rw [va_up, if_pos rfl]
theorem vu_ne {α : Type} {f : Nat → α} {i j : Nat} {x : α} (h : ¬ j = i) : va_up f i x j = f j := by rw [va_up, if_neg h]
/-- a law more -/
theorem vLw_new {M S M0 S0 : Nat → Int32} {len : Nat} (hl : vLw la (w_dy w) (w_im w) ls) (hi : vIm w im) (h1 : len ≤ 400) (h2 : cs.length ≤ 12) (hM : ∀ i, i < cs.length * 5 → M i = M0 i) (hS : ∀ i, i < len → S i = S0 i) (h3 : ∀ j q, cs[j]? = some q → clX false M0 S0 7 len j q) : vLw (va_up la ls.length (some (66 + (w_dy w).length))) (w_dy w ++ cdO (66 + (w_dy w).length) cs.length len :: [.inl (0, cs.length * 5, .inl M), .inl (0, len, .inl S)]) (w_im w) (ls ++ [cs]) := by
  refine ⟨fun L cs' hL => ?_, fun L h4 h5 => ?_⟩
  rotate_left
  · rw [List.length_append] at h4
    have e : [cs].length = 1 := rfl
    rw [vu_ne (by omega)]
    exact hl.2 L (by omega) h5
  by_cases q : L < ls.length
  · rw [List.getElem?_append_left q] at hL
    obtain ⟨c, g1, g2⟩ := hl.1 L cs' hL
    exact ⟨c, by rw [vu_ne (by omega)]; exact g1, lwB_app g2⟩
  · have hL2 : L = ls.length := by
      have := (List.getElem?_eq_some_iff.mp hL).1
      rw [List.length_append] at this
      have e : [cs].length = 1 := rfl
      omega
    subst hL2
    rw [List.getElem?_append_right (Nat.le_refl _), Nat.sub_self] at hL
    cases hL
    refine ⟨66 + (w_dy w).length, vu_at, 66 + (w_dy w).length + 1, 66 + (w_dy w).length + 2, M, S, len, ⟨vBad_hi hi (by omega), vBad_hi hi (by omega), vBad_hi hi (by omega)⟩, by omega, by omega, by omega, ?_, ?_, ?_, h1, h2, fun j q hq => ?_⟩
    · rw [show 66 + (w_dy w).length - 66 = (w_dy w).length by omega]
      simp [cdO]
    · rw [show 66 + (w_dy w).length + 1 - 66 = (w_dy w).length + 1 by omega]
      simp
    · rw [show 66 + (w_dy w).length + 2 - 66 = (w_dy w).length + 2 by omega]
      simp
    · have hj := (List.getElem?_eq_some_iff.mp hq).1
      exact clL_mono (h3 j q hq) (fun i hi => hM i (by omega)) hS (Nat.le_refl _)
theorem lOk_new {M0 S0 : Nat → Int32} {len : Nat} (h3 : ∀ j q, cs[j]? = some q → clX false M0 S0 7 len j q) : lOk (some cs) := by
  intro cs' e q hq h4
  cases e
  obtain ⟨j, hj⟩ := List.getElem?_of_mem hq
  have := h3 j q hj
  rw [clX, if_neg (by decide)] at this
  rcases this.2.2.1 with ⟨_, _, h⟩ | ⟨h, _⟩
  · exact h
  · exact absurd h4 h
end AP
