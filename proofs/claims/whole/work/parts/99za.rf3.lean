/-! soft: the reference's year passes. -/
section RH
variable {w : wW} {K T S D A R : Nat → Int32} {n : Nat} {H : Nat → Int32} {law : Option (List qC)} {md : Int32} {d : Nat}
set_option maxHeartbeats 400000 in
theorem m_yearD (hl : lawIn K law) (hk : lOk law) (h7 : n ≤ 7) (hA' : hA n K H) (h80 : K 80 = md) (hn : K 81 = nI n) (hd : 47 ≤ d) (x : tX) : ∃ (T' G : Nat → Int32) (x2 : tX), hv_sem d 126 [.ref 40] (wB (tT' (rfW w K T S D A R) x)) = some (none, wB (tT' (rfW w G T' S D A R) x2)) ∧ hA n G (pYr law md H) ∧ ∀ i, 64 ≤ i → G i = K i := by
  have h2 : askM (rfW w K T S D A R) law md n H := ⟨hl, hA', h80, h7, hk⟩
  obtain ⟨x2, T', G, e5, g1, g2⟩ := m_yearPasses h2 hn (d := d) hd x
  rw [rf_53, rf_42] at e5
  exact ⟨T', G, x2, e5, g1, g2⟩
end RH
