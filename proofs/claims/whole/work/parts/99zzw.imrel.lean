/-! Images: what stays where one is written. -/
section IR
variable {w w' : wW} {D D1 D2 : hv_H} {I I' : Nat → Option Nat} {la la' s : Nat → Option Nat} {b c k n : Nat} {cs : List qC} {ls : List (List qC)} {im : Nat → Option aW} {F SV SS H sv ss : Nat → Int32} {p q r md fc : Int32} {sn : Nat}
theorem dr1 {i : Nat} {x : va_E} (h : D[i]? = some x) : D.drop i = x :: D.drop (i + 1) := by
  obtain ⟨hi, e⟩ := List.getElem?_eq_some_iff.mp h
  rw [List.drop_eq_getElem_cons hi, e]
theorem imO_cut (h : imO D I b (H, md, n, ls, fc, sn, sv, ss)) : ∃ D1 D2 F la SV SS, D = D1 ++ (imL b F la SV SS (nI ls.length) fc (nI sn) ++ D2) ∧ b = 66 + D1.length ∧ hA n F H ∧ F 64 = md ∧ F 65 = nI n ∧ (∀ i, i < sn → SV i = sv i ∧ SS i = ss i) ∧ vLw la D I ls := by
  obtain ⟨h0, F, la, SV, SS, h1, h2, h3, h4, h5, h6, h7, h8, h9, h10, h11⟩ := h
  have hlt := gx_lt h1
  refine ⟨D.take (b - 66), D.drop (b - 66 + 6), F, la, SV, SS, ?_, ?_, h7, h8, h9, h10, h11⟩
  · have e1 := dr1 h1
    have e2 := dr1 (i := b - 66 + 1) (by rw [show b - 66 + 1 = b + 1 - 66 by omega]; exact h2)
    have e3 := dr1 (i := b - 66 + 2) (by rw [show b - 66 + 2 = b + 2 - 66 by omega]; exact h3)
    have e4 := dr1 (i := b - 66 + 3) (by rw [show b - 66 + 3 = b + 3 - 66 by omega]; exact h4)
    have e5 := dr1 (i := b - 66 + 4) (by rw [show b - 66 + 4 = b + 4 - 66 by omega]; exact h5)
    have e6 := dr1 (i := b - 66 + 5) (by rw [show b - 66 + 5 = b + 5 - 66 by omega]; exact h6)
    have e : D.drop (b - 66) = imL b F la SV SS (nI ls.length) fc (nI sn) ++ D.drop (b - 66 + 6) := by
      rw [e1, e2, e3, e4, e5, e6]
      rfl
    rw [← e]
    exact (List.take_append_drop _ _).symm
  · rw [List.length_take]
    omega
theorem cdR_of (hb : b = 66 + D1.length) (h : ∀ i, i < 6 → s i = none ∨ ∃ c fs, s i = some c ∧ 66 ≤ c ∧ ¬ (b ≤ c ∧ c < b + 6) ∧ (wB (wG w b D1 D2 F la SV SS p q r))[c]? = some (.inr (1, fs))) : cdR w b D1 D2 s := by
  intro i hi
  rcases h i hi with h1 | ⟨c, fs, h1, h2, h3, h4⟩
  · exact Or.inl h1
  · refine Or.inr ⟨c, fs, h1, h2, fun F2 la2 SV2 SS2 p2 q2 r2 => ?_⟩
    rw [wg_o (F2 := F) (la2 := la) (SV2 := SV) (SS2 := SS) (p2 := p) (q2 := q) (r2 := r) hb h2 h3]
    exact h4
/-- cells of laws, wherever what changes is no cell of a law -/
theorem lwB_o {D' : hv_H} (hD : ∀ i, i < D.length → ¬ vBad I (i + 66) → D'[i]? = D[i]?) (hI : ∀ i, i < D.length → ¬ vBad I (i + 66) → ¬ vBad I' (i + 66)) (h : lwB D I c cs) : lwB D' I' c cs := by
  obtain ⟨mk, sp, M, S, len, ⟨b1, b2, b3⟩, h1, h2, h3, h4, h5, h6, h7⟩ := h
  have l4 := gx_lt h4
  have l5 := gx_lt h5
  have l6 := gx_lt h6
  have k1 : ¬ vBad I (c - 66 + 66) := by rw [show c - 66 + 66 = c by omega]; exact b1
  have k2 : ¬ vBad I (mk - 66 + 66) := by rw [show mk - 66 + 66 = mk by omega]; exact b2
  have k3 : ¬ vBad I (sp - 66 + 66) := by rw [show sp - 66 + 66 = sp by omega]; exact b3
  have j1 := hI _ l4 k1
  have j2 := hI _ l5 k2
  have j3 := hI _ l6 k3
  rw [show c - 66 + 66 = c by omega] at j1
  rw [show mk - 66 + 66 = mk by omega] at j2
  rw [show sp - 66 + 66 = sp by omega] at j3
  exact ⟨mk, sp, M, S, len, ⟨j1, j2, j3⟩, h1, h2, h3, (hD _ l4 k1).trans h4, (hD _ l5 k2).trans h5, (hD _ l6 k3).trans h6, h7⟩
theorem vLw_o {D' : hv_H} (hD : ∀ i, i < D.length → ¬ vBad I (i + 66) → D'[i]? = D[i]?) (hI : ∀ i, i < D.length → ¬ vBad I (i + 66) → ¬ vBad I' (i + 66)) (h : vLw la D I ls) : vLw la D' I' ls := by
  refine ⟨fun L cs hL => ?_, h.2⟩
  obtain ⟨c, h1, h2⟩ := h.1 L cs hL
  exact ⟨c, h1, lwB_o hD hI h2⟩
/-- where the six cells are written -/
def imH (w : wW) (b k : Nat) (D1 D2 : hv_H) (I' : Nat → Option Nat) : Prop := b = 66 + D1.length ∧ k < 2 ∧ I' k = some b ∧ (∀ j, j < 2 → ¬ j = k → I' j = w_im w j) ∧ (∀ F la SV SS p q r i, i < (w_dy w).length → ¬ (b ≤ i + 66 ∧ i + 66 < b + 6) → (D1 ++ (imL b F la SV SS p q r ++ D2))[i]? = (w_dy w)[i]?) ∧ (∀ i, i < (w_dy w).length → ¬ vBad (w_im w) (i + 66) → ¬ (b ≤ i + 66 ∧ i + 66 < b + 6)) ∧ ∀ j b', j < 2 → ¬ j = k → w_im w j = some b' → b' + 6 ≤ b ∨ b + 6 ≤ b'
theorem imH_bad (h : imH w b k D1 D2 I') : ∀ i, i < (w_dy w).length → ¬ vBad (w_im w) (i + 66) → ¬ vBad I' (i + 66) := by
  rintro i hi hn ⟨j, b', hj, e, g1, g2⟩
  by_cases q : j = k
  · rw [q, h.2.2.1] at e
    cases e
    exact h.2.2.2.2.2.1 i hi hn ⟨g1, g2⟩
  · rw [h.2.2.2.1 j hj q] at e
    exact hn ⟨j, b', hj, e, g1, g2⟩
theorem imH_lw (h : imH w b k D1 D2 I') (hl : vLw la (w_dy w) (w_im w) ls) : vLw la (D1 ++ (imL b F la' SV SS p q r ++ D2)) I' ls := vLw_o (fun i hi hn => h.2.2.2.2.1 F la' SV SS p q r i hi (h.2.2.2.2.2.1 i hi hn)) (imH_bad h) hl
theorem imH_im {a : aW} {b' j : Nat} (h : imH w b k D1 D2 I') (hj : j < 2) (hk : ¬ j = k) (he : w_im w j = some b') (hi : imO (w_dy w) (w_im w) b' a) : imO (D1 ++ (imL b F la' SV SS p q r ++ D2)) I' b' a := by
  obtain ⟨H, md, n, ls, fc, sn, sv, ss⟩ := a
  have hh := imO_hi hi
  have h5 := h.2.2.2.2.2.2 j b' hj hk he
  obtain ⟨h0, F1, la1, SV1, SS1, h1, h2, h3, h4, h5', h6, h7, h8, h9, h10, h11⟩ := hi
  have key : ∀ z, z < 6 → (D1 ++ (imL b F la' SV SS p q r ++ D2))[b' + z - 66]? = (w_dy w)[b' + z - 66]? := fun z hz => h.2.2.2.2.1 F la' SV SS p q r _ (by omega) (by omega)
  exact ⟨h0, F1, la1, SV1, SS1, (key 0 (by omega)).trans h1, (key 1 (by omega)).trans h2, (key 2 (by omega)).trans h3, (key 3 (by omega)).trans h4, (key 4 (by omega)).trans h5', (key 5 (by omega)).trans h6, h7, h8, h9, h10, imH_lw h h11⟩
theorem imL_O {i : Nat} (hb : b = 66 + D1.length) (hi : i < 6) : (D1 ++ (imL b F la SV SS p q r ++ D2))[b + i - 66]? = (imL b F la SV SS p q r)[i]? := by
  have hL : (imL b F la SV SS p q r).length = 6 := rfl
  rw [show b + i - 66 = D1.length + i by omega, List.getElem?_append_right (by omega), Nat.add_sub_cancel_left, List.getElem?_append_left (by omega)]
theorem vAll_img {tr : aTr} {tp : (Nat → Nat) × Nat} {sc : aSc} {dr : Nat × (Nat → Int32)} (h : imH w b k D1 D2 I') (hv : vAll w ((H, md, n, ls, fc, sn, sv, ss), im, tr, tp, sc, dr)) (g1 : hA n F H) (g2 : F 64 = md) (g3 : F 65 = nI n) (g4 : ∀ i, i < sn → SV i = sv i ∧ SS i = ss i) (g5 : ∀ i, i < 6 → la i = w_la w i) (hl6 : ls.length ≤ 6) : vAll (wG (s_im w I') b D1 D2 F la SV SS (nI ls.length) fc (nI sn)) ((H, md, n, ls, fc, sn, sv, ss), (fun j => if j = k then some (H, md, n, ls, fc, sn, sv, ss) else im j), tr, tp, sc, dr) := by
  obtain ⟨un, TK, TH⟩ := tr
  obtain ⟨y, t⟩ := tp
  obtain ⟨cr, fa, sta, sp, rf⟩ := sc
  obtain ⟨dn, DH⟩ := dr
  obtain ⟨⟨v1, v2, v3, v4, v5, v6, v7, v8⟩, ⟨q2, q2'⟩, q3, q4, q5, q6⟩ := hv
  have hlw := imH_lw (F := F) (la' := la) (SV := SV) (SS := SS) (p := nI ls.length) (q := fc) (r := nI sn) h v8
  have hlw2 : vLw la (D1 ++ (imL b F la SV SS (nI ls.length) fc (nI sn) ++ D2)) I' ls := by
    refine ⟨fun L cs hL => ?_, fun L h1 h2 => ?_⟩
    · have hL6 := (List.getElem?_eq_some_iff.mp hL).1
      obtain ⟨c, c1, c2⟩ := hlw.1 L cs hL
      exact ⟨c, by rw [g5 L (by omega)]; exact c1, c2⟩
    · rw [g5 L h2]
      exact hlw.2 L h1 h2
  have hb := h.1
  refine ⟨⟨v1, v2, v3, v4, v5, v6, v7, hlw⟩, ⟨fun j hj => ?_, fun b0 b1 e0 e1 => ?_⟩, q3, q4, q5, q6⟩
  · by_cases qj : j = k
    · show match (if j = k then some (H, md, n, ls, fc, sn, sv, ss) else im j) with
        | none => I' j = none
        | some a => ∃ b', I' j = some b' ∧ imO (D1 ++ (imL b F la SV SS (nI ls.length) fc (nI sn) ++ D2)) I' b' a
      rw [if_pos qj, qj]
      exact ⟨b, h.2.2.1, by omega, F, la, SV, SS, imL_O (i := 0) hb (by omega), imL_O (i := 1) hb (by omega), imL_O (i := 2) hb (by omega), imL_O (i := 3) hb (by omega), imL_O (i := 4) hb (by omega), imL_O (i := 5) hb (by omega), g1, g2, g3, g4, hlw2⟩
    · show match (if j = k then some (H, md, n, ls, fc, sn, sv, ss) else im j) with
        | none => I' j = none
        | some a => ∃ b', I' j = some b' ∧ imO (D1 ++ (imL b F la SV SS (nI ls.length) fc (nI sn) ++ D2)) I' b' a
      rw [if_neg qj, h.2.2.2.1 j hj qj]
      have z := q2 j hj
      cases hz : im j with
      | none =>
        rw [hz] at z
        exact z
      | some a =>
        rw [hz] at z
        obtain ⟨b', z1, z2⟩ := z
        exact ⟨b', z1, imH_im h hj qj z1 z2⟩
  · replace e0 : I' 0 = some b0 := e0
    replace e1 : I' 1 = some b1 := e1
    have hk := h.2.1
    rcases (show k = 0 ∨ k = 1 by omega) with rfl | rfl
    · rw [h.2.2.1] at e0
      cases e0
      have := h.2.2.2.2.2.2 1 b1 (by omega) (by omega) (by rw [← h.2.2.2.1 1 (by omega) (by omega)]; exact e1)
      omega
    · rw [h.2.2.1] at e1
      cases e1
      have := h.2.2.2.2.2.2 0 b0 (by omega) (by omega) (by rw [← h.2.2.2.1 0 (by omega) (by omega)]; exact e0)
      omega
/-- an image that is there -/
theorem imH_old (hk : k < 2) (hI : vIm w im) (he : w_im w k = some b) (hD : w_dy w = D1 ++ (imL b F la SV SS p q r ++ D2)) (hb : b = 66 + D1.length) : imH w b k D1 D2 (w_im w) := by
  refine ⟨hb, hk, he, fun _ _ _ => rfl, fun F2 la2 SV2 SS2 p2 q2 r2 i hi hn => ?_, fun i hi hn z => hn ⟨k, b, hk, he, z.1, z.2⟩, fun j b' hj hjk e => ?_⟩
  · have e1 := wg_o (w := w) (c := i + 66) (D2 := D2) (F := F2) (la := la2) (SV := SV2) (SS := SS2) (p := p2) (q := q2) (r := r2) (F2 := F) (la2 := la) (SV2 := SV) (SS2 := SS) (p2 := p) (q2 := q) (r2 := r) hb (by omega) hn
    rw [wr_dy (by omega), wr_dy (by omega), show i + 66 - 66 = i by omega] at e1
    rw [hD]
    exact e1
  · rcases (show (j = 0 ∧ k = 1) ∨ (j = 1 ∧ k = 0) by omega) with ⟨rfl, rfl⟩ | ⟨rfl, rfl⟩
    · exact hI.2 b' b e he
    · have := hI.2 b b' he e
      omega
/-- a new one -/
theorem imH_new (hk : k < 2) (hI : vIm w im) (hb : b = 66 + (w_dy w).length) : imH w b k (w_dy w) [] (va_up (w_im w) k (some b)) := by
  refine ⟨hb, hk, vu_at, fun j hj q => vu_ne q, fun F2 la2 SV2 SS2 p2 q2 r2 i hi hn => ?_, fun i hi hn z => by omega, fun j b' hj hjk e => ?_⟩
  · rw [List.getElem?_append_left hi]
  · have := vIm_hi hI hj e
    omega
/-- the laws' cells are Codes -/
theorem cdR_lw {L : Nat → Option Nat} (h : imH w b k D1 D2 I') (hl : vLw L (w_dy w) (w_im w) ls) : cdR (s_im w I') b D1 D2 L := by
  refine cdR_of (F := fun _ => 0) (la := fun _ => none) (SV := fun _ => 0) (SS := fun _ => 0) (p := 0) (q := 0) (r := 0) h.1 (fun i hi => ?_)
  by_cases q1 : i < ls.length
  · obtain ⟨c, c1, mk, sp, M, S, len, ⟨b1, b2, b3⟩, c2, c3, c4, c5, _⟩ := hl.1 i ls[i] (List.getElem?_eq_getElem q1)
    have hc := gx_lt c5
    have hn := h.2.2.2.2.2.1 (c - 66) hc (by rw [show c - 66 + 66 = c by omega]; exact b1)
    rw [show c - 66 + 66 = c by omega] at hn
    refine Or.inr ⟨c, [.ref mk, .ref sp, .int (nI ls[i].length), .int (nI len)], c1, c2, hn, ?_⟩
    rw [wr_dy c2]
    show (D1 ++ (imL b (fun _ => 0) (fun _ => none) (fun _ => 0) (fun _ => 0) 0 0 0 ++ D2))[c - 66]? = _
    rw [h.2.2.2.2.1 _ _ _ _ _ _ _ (c - 66) hc (by rw [show c - 66 + 66 = c by omega]; exact hn)]
    exact c5
  · exact Or.inl (hl.2 i (by omega) hi)
end IR
