/-! Law: the class reads and keeps one. -/
section VLW
variable {w : wW} {y : Nat → Nat} {d n k t : Nat}
def lwW (w : wW) (t : Nat) (D : hv_H) (n k l : Nat) (M S : Nat → Int32) : wW := s_sc (s_la (wE w D (cdO (66 + D.length) k l) [.inl (0, k * 5, .inl M), .inl (0, l, .inl S)]) (va_up (w_la w) n (some (66 + D.length)))) 104 (nI (n + 1))
set_option maxHeartbeats 400000 in
theorem v_lawNew {l : Nat} (h4 : w_sc w 104 = nI n) (hn : n < 6) (h1 : w_sc w 3602 = nI k) (h2 : w_sc w 3603 = nI l) (hk : k ≤ 12) (hl : l ≤ 400) (hd : 3 ≤ d) : ∃ M S : Nat → Int32, (∀ i, i < k * 5 → M i = w_ar w 37 i) ∧ (∀ i, i < l → S i = w_ar w 38 i) ∧ hv_sem d 195 [.ref (66 + (w_dy w).length), .ref 36] (wB (wE w (w_dy w) (.inr (1, [.null, .null, .int 0, .int 0])) [])) = some (none, wB (wE w (w_dy w) (cdO (66 + (w_dy w).length) k l) [.inl (0, k * 5, .inl M), .inl (0, l, .inl S)])) ∧ hv_sem d 297 [.ref 1, .ref (66 + (w_dy w).length)] (wB (wE w (w_dy w) (cdO (66 + (w_dy w).length) k l) [.inl (0, k * 5, .inl M), .inl (0, l, .inl S)])) = some (some (.int (nI n)), wB (lwW w n (w_dy w) n k l M S)) := by
  obtain ⟨M, S, hM, hS, e1⟩ := v_newCode (w := w) (D := w_dy w) h1 h2 hk hl (d := d) hd
  exact ⟨M, S, hM, hS, e1, v_addLaw (w := w) (D := w_dy w) h4 hn (d := d) (by omega)⟩
theorem w_new : wB w ++ [.inr (1, [.null, .null, .int 0, .int 0])] = wB (wE w (w_dy w) (.inr (1, [.null, .null, .int 0, .int 0])) []) := by rw [wa_dy, wE]
theorem cm_195 : hv_cm 195 = (2, 800) := rfl
end VLW
