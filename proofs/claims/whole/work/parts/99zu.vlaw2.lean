/-! Law: the class. -/
section VLX
variable {w : wW} {y : Nat → Nat} {d n k t : Nat} {H : Nat → Int32} {md fc : Int32} {sn : Nat} {ls : List (List qC)} {sv ss : Nat → Int32} {im : Nat → Option aW} {tr : aTr} {cr fa sta sp : Int32} {rf : Nat → Int32} {dr : Nat × (Nat → Int32)}
theorem vAll_rd {a b k nn p cl ln x2 x3 x : Int32} {M S : Nat → Int32} (hv : vAll w ((H, md, n, ls, fc, sn, sv, ss), im, tr, (y, t), (cr, fa, sta, sp, rf), dr)) : vAll (s_sc (rW (s_sc (s_sc (s_sc w 11 0) 3502 x2) 3503 x3) a b k nn p cl ln M S) 13 x) ((H, md, n, ls, fc, sn, sv, ss), im, tr, (y, 0), (cr, x, sta, sp, rf), dr) := by
  obtain ⟨un, TK, TH⟩ := tr
  obtain ⟨dn, DH⟩ := dr
  obtain ⟨q1, q2, q3, ⟨q4, q4'⟩, ⟨q5, q6, q7, q8, q9⟩, q10⟩ := hv
  exact ⟨q1, q2, q3, ⟨rfl, q4'⟩, ⟨q5, rfl, q7, q8, q9⟩, q10⟩
theorem fM_rd {a b k nn p cl ln x2 x3 x : Int32} {M S : Nat → Int32} : fM w (s_sc (rW (s_sc (s_sc (s_sc w 11 0) 3502 x2) 3503 x3) a b k nn p cl ln M S) 13 x) := fM_sc (by omega) (fM_rw (fM_sc (by omega) (fM_sc (by omega) (fM_sc (by omega) fM_refl))))
/-- a law read: what it leaves -/
theorem vAll_lw {cs : List qC} {len : Nat} {M S M0 S0 : Nat → Int32} (hv : vAll w ((H, md, n, ls, fc, sn, sv, ss), im, tr, (y, t), (cr, fa, sta, sp, rf), dr)) (h1 : len ≤ 400) (h2 : cs.length ≤ 12) (hM : ∀ i, i < cs.length * 5 → M i = M0 i) (hS : ∀ i, i < len → S i = S0 i) (h3 : ∀ j q, cs[j]? = some q → clX false M0 S0 7 len j q) : vAll (lwW w ls.length (w_dy w) ls.length cs.length len M S) ((H, md, n, ls ++ [cs], fc, sn, sv, ss), im, tr, (y, t), (cr, fa, sta, sp, rf), dr) := by
  obtain ⟨un, TK, TH⟩ := tr
  obtain ⟨dn, DH⟩ := dr
  obtain ⟨⟨v1, v2, v3, v4, v5, v6, v7, v8⟩, q2, q3, q4, q5, q6⟩ := hv
  have e := vLw_new v8 q2 h1 h2 hM hS h3
  refine ⟨⟨v1, v2, v3, ?_, v5, v6, v7, e⟩, vIm_app q2 rfl rfl, q3, q4, q5, q6⟩
  rw [List.length_append]
  rfl
theorem fM_lw {k l : Nat} {D : hv_H} {M S : Nat → Int32} : fM w (lwW w t D n k l M S) := fM_sc (by omega) (fM_la (fM_dy fM_refl))
end VLX
