/-! soft: the reference sums, obeys. -/
section RG
variable {w : wW} {K T S D A R : Nat → Int32} {n : Nat} {H : Nat → Int32} {law : Option (List qC)} {md : Int32} {d : Nat} {W : Nat → Nat → Option Nat} {x : tX}
set_option maxHeartbeats 400000 in
theorem m_yearB (h7 : n ≤ 7) (hwf : hWf n H) (hA' : hA n K H) (hn : K 81 = nI n) (hR : ∀ m, m < n → R m = nI (gR W false false n m)) (hd : 3 ≤ d) : hv_sem d 146 [.ref 40] (wB (tT' (rfW w K T S D A R) x)) = some (some (.int (nI (hdT W H n n))), wB (tT' (rfW w K T S D A R) x)) :=
  m_sumBest (w := tT' (rfW w K T S D A R) x) (W := W) hwf h7 (fun m v hm hv => (hA'.1 m hm).1 v hv) hR hn (d := d) hd
set_option maxHeartbeats 400000 in
theorem m_yearC (h7 : n ≤ 7) (hn : K 81 = nI n) (hR : ∀ m, m < n → R m = nI (gR W false false n m)) (hd : 3 ≤ d) : hv_sem d 147 [.ref 40] (wB (tT' (rfW w K T S D A R) x)) = some (none, wB (tT' (rfW w (obF W n K n) T S D A R) x)) := by
  have e4 := m_obeys1 (w := tT' (rfW w K T S D A R) x) (W := W) h7 hR hn (d := d) (by omega)
  have e42 : w_ar (tT' (rfW w K T S D A R) x) 42 = K := rfl
  rw [e42, tt_oar (by omega), rf_42] at e4
  exact e4
end RG
