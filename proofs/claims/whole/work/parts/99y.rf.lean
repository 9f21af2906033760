/-! soft: the reference's rows as a lens. -/
def rfW (w : wW) (K T S D A R : Nat → Int32) : wW := s_ar (s_ar (s_ar (s_ar (s_ar (s_ar w 42 K) 53 T) 56 S) 57 D) 58 A) 59 R
section RF
variable {w : wW} {K T S D A R K' T' S' D' A' R' : Nat → Int32}
theorem rf_ar {j : Nat} : w_ar (rfW w K T S D A R) j = if j = 59 then R else if j = 58 then A else if j = 57 then D else if j = 56 then S else if j = 53 then T else if j = 42 then K else w_ar w j := rfl
theorem rf_42 : s_ar (rfW w K T S D A R) 42 K' = rfW w K' T S D A R := by simp -implicitDefEqProofs only [rfW, n_arar, n_arS (show 42 < 53 by decide), n_arS (show 42 < 56 by decide), n_arS (show 42 < 57 by decide), n_arS (show 42 < 58 by decide), n_arS (show 42 < 59 by decide)]
theorem rf_53 : s_ar (rfW w K T S D A R) 53 T' = rfW w K T' S D A R := by simp -implicitDefEqProofs only [rfW, n_arar, n_arS (show 53 < 56 by decide), n_arS (show 53 < 57 by decide), n_arS (show 53 < 58 by decide), n_arS (show 53 < 59 by decide)]
theorem rf_sh : shW (rfW w K T S D A R) S' D' = rfW w K T S' D' A R := by simp -implicitDefEqProofs only [rfW, shW, n_arar, n_arS (show 56 < 57 by decide), n_arS (show 56 < 58 by decide), n_arS (show 56 < 59 by decide), n_arS (show 57 < 58 by decide), n_arS (show 57 < 59 by decide)]
theorem rf_l : s_ar (s_ar (rfW w K T S D A R) 58 A') 59 R' = rfW w K T S D A' R' := by simp -implicitDefEqProofs only [rfW, n_arar, n_arS (show 58 < 59 by decide)]
theorem rf_id : rfW w (w_ar w 42) (w_ar w 53) (w_ar w 56) (w_ar w 57) (w_ar w 58) (w_ar w 59) = w := by rw [rfW, n_arE, n_arE, n_arE, n_arE, n_arE, n_arE]
set_option maxHeartbeats 400000 in
theorem m_yearA {n : Nat} {H : Nat → Int32} {law : Option (List qC)} {md : Int32} {d : Nat} (hwf : hWf n H) (h : askM (rfW w K T S D A R) law md n H) (hn : K 81 = nI n) (hd : 47 ≤ d) (x : tX) : ∃ (S' D' A' R' : Nat → Int32) (x1 : tX) (y : Int32), hv_sem d 139 [.ref 40] (wB (tT' (rfW w K T S D A R) x)) = some (none, wB (tT' (rfW w K T S' D' A R) x1)) ∧ hv_sem d 141 [.ref 40] (wB (tT' (rfW w K T S' D' A R) x1)) = some (some (.int y), wB (tT' (rfW w K T S' D' A' R') x1)) ∧ ∀ m, m < n → R' m = nI (gR (pWs law md H) false false n m) := by
  obtain ⟨S', D', x1, e1, hsh⟩ := m_laysShown h hn (d := d) hd x
  rw [rf_sh] at e1
  have h' : askM (rfW w K T S' D' A R) law md n H := h
  obtain ⟨A', R', e2, hR⟩ := m_best (w := rfW w K T S' D' A R) h' hn hwf hsh (d := d) (by omega) x1
  rw [rf_l] at e2
  exact ⟨S', D', A', R', x1, _, e1, e2, hR⟩
end RF
