/-! What class and reference keep, as one abstract state. -/
/-- the order: house, mood, monks, laws, force, what was seen -/
abbrev aW : Type := (Nat → Int32) × Int32 × Nat × List (List qC) × Int32 × Nat × (Nat → Int32) × (Nat → Int32)
abbrev aTr : Type := Nat × (Nat → Nat) × (Nat → Nat → Int32)
abbrev aSc : Type := Int32 × Int32 × Int32 × Int32 × (Nat → Int32)
abbrev aS : Type := aW × (Nat → Option aW) × aTr × ((Nat → Nat) × Nat) × aSc × (Nat × (Nat → Int32))
def aLaw (ls : List (List qC)) (fc : Int32) : Option (List qC) := if fc = -1 then none else ls[fc.toNatClampNeg]?
def aOk : aW → Prop
  | (H, _, n, ls, fc, sn, sv, _) => n ≤ 7 ∧ ls.length ≤ 6 ∧ (fc = -1 ∨ ∃ L, L < ls.length ∧ fc = nI L) ∧ sn ≤ 8 ∧ hWf n H ∧ rg 999 (H 63) ∧ (∀ i, i < sn → ∃ v, v < 7 ∧ sv i = nI v) ∧ ∀ cs ∈ ls, lOk (some cs)
def aTrOk (n : Nat) : aTr → Prop
  | (u, TK, TH) => u ≤ 16 ∧ ∀ i, i < u → TK i ≤ 3 ∧ hWf n (TH i) ∧ rg 999 (TH i 63)
def aAll : aS → Prop
  | ((H, md, n, ls, fc, sn, sv, ss), im, tr, (y, t), _, (dn, _)) => aOk (H, md, n, ls, fc, sn, sv, ss) ∧ (∀ k b, k < 2 → im k = some b → aOk b) ∧ aTrOk n tr ∧ (∀ i, y i < 256) ∧ t ≤ 400 ∧ dn ≤ 7
/-- the cells of images -/
def vBad (I : Nat → Option Nat) (q : Nat) : Prop := ∃ k b, k < 2 ∧ I k = some b ∧ b ≤ q ∧ q < b + 6
def lwB (D : hv_H) (I : Nat → Option Nat) (c : Nat) (cs : List qC) : Prop := ∃ mk sp M S len, (¬ vBad I c ∧ ¬ vBad I mk ∧ ¬ vBad I sp) ∧ 66 ≤ c ∧ 66 ≤ mk ∧ 66 ≤ sp ∧ D[c - 66]? = some (.inr (1, [.ref mk, .ref sp, .int (nI cs.length), .int (nI len)])) ∧ D[mk - 66]? = some (.inl (0, cs.length * 5, .inl M)) ∧ D[sp - 66]? = some (.inl (0, len, .inl S)) ∧ len ≤ 400 ∧ cs.length ≤ 12 ∧ ∀ j q, cs[j]? = some q → clL M S 7 len j q
theorem lwB_O {D : hv_H} {I : Nat → Option Nat} {c : Nat} {cs : List qC} (h : lwB D I c cs) : lwO D c cs := by
  obtain ⟨mk, sp, M, S, len, _, h⟩ := h
  exact ⟨mk, sp, M, S, len, h⟩
/-- laws by their cells -/
def vLw (la : Nat → Option Nat) (D : hv_H) (I : Nat → Option Nat) (ls : List (List qC)) : Prop := (∀ L cs, ls[L]? = some cs → ∃ c, la L = some c ∧ lwB D I c cs) ∧ ∀ L, ls.length ≤ L → L < 6 → la L = none
def vMain (w : wW) : aW → Prop
  | (H, md, n, ls, fc, sn, sv, ss) => hA n (w_ar w 3) H ∧ w_ar w 3 64 = md ∧ w_ar w 3 65 = nI n ∧ w_sc w 104 = nI ls.length ∧ w_sc w 105 = fc ∧ w_sc w 106 = nI sn ∧ (∀ i, i < sn → w_ar w 5 i = sv i ∧ w_ar w 6 i = ss i) ∧ vLw (w_la w) (w_dy w) (w_im w) ls
/-- an image's cells, from b on -/
def imO (D : hv_H) (I : Nat → Option Nat) (b : Nat) : aW → Prop
  | (H, md, n, ls, fc, sn, sv, ss) => 66 ≤ b ∧ ∃ F la SV SS, D[b - 66]? = some (.inr (9, [.ref (b + 1), .ref (b + 3), .ref (b + 4), .ref (b + 5), .int (nI ls.length), .int fc, .int (nI sn)])) ∧ D[b + 1 - 66]? = some (.inr (3, [.ref (b + 2)])) ∧ D[b + 2 - 66]? = some (.inl (0, 66, .inl F)) ∧ D[b + 3 - 66]? = some (.inl (5, 6, .inr (.inr (.inr (.inr la))))) ∧ D[b + 4 - 66]? = some (.inl (0, 8, .inl SV)) ∧ D[b + 5 - 66]? = some (.inl (0, 8, .inl SS)) ∧ hA n F H ∧ F 64 = md ∧ F 65 = nI n ∧ (∀ i, i < sn → SV i = sv i ∧ SS i = ss i) ∧ vLw la D I ls
def vIm (w : wW) (im : Nat → Option aW) : Prop := (∀ k, k < 2 → match im k with
    | none => w_im w k = none
    | some a => ∃ b, w_im w k = some b ∧ imO (w_dy w) (w_im w) b a) ∧ ∀ b0 b1, w_im w 0 = some b0 → w_im w 1 = some b1 → b0 + 6 ≤ b1 ∨ b1 + 6 ≤ b0
def vTrl (w : wW) (n : Nat) (md : Int32) : aTr → Prop
  | (u, TK, TH) => w_sc w 2502 = nI u ∧ ∀ i, i < u → w_ar w 26 i = nI (TK i) ∧ hA n (fun j => w_ar w 27 (66 * i + j)) (TH i) ∧ w_ar w 27 (66 * i + 64) = md ∧ w_ar w 27 (66 * i + 65) = nI n
def vTap (w : wW) (y : Nat → Nat) (t : Nat) : Prop := w_sc w 11 = nI t ∧ ∀ i, i < 400 → w_ar w 34 i = nI (y i)
def vScl (w : wW) : aSc → Prop
  | (cr, fa, sta, sp, rf) => w_sc w 12 = cr ∧ w_sc w 13 = fa ∧ w_sc w 14 = sta ∧ w_sc w 2410 = sp ∧ ∀ i, i < 5 → w_ar w 39 i = rf i
def vDr (w : wW) (dn : Nat) (DH : Nat → Int32) : Prop := w_ar w 22 65 = nI dn ∧ hA dn (w_ar w 22) DH
def vAll (w : wW) : aS → Prop
  | ((H, md, n, ls, fc, sn, sv, ss), im, tr, (y, t), sc, (dn, DH)) => vMain w (H, md, n, ls, fc, sn, sv, ss) ∧ vIm w im ∧ vTrl w n md tr ∧ vTap w y t ∧ vScl w sc ∧ vDr w dn DH
/-! The reference. -/
def mMain (K : Nat → Int32) : aW → Prop
  | (H, md, n, ls, fc, sn, sv, ss) => hA n K H ∧ K 80 = md ∧ K 81 = nI n ∧ K 82 = nI sn ∧ K 83 = nI ls.length ∧ K 84 = fc ∧ (∀ i, i < sn → K (64 + 2 * i) = sv i ∧ K (64 + 2 * i + 1) = ss i) ∧ ∀ L cs, ls[L]? = some cs → lawAt K L cs
def mTrl (w : wW) (n : Nat) : aTr → Prop
  | (u, TK, TH) => w_sc w 4032 = nI u ∧ ∀ i, i < u → w_ar w 54 (65 * i + 64) = nI (TK i) ∧ hA n (fun j => w_ar w 54 (65 * i + j)) (TH i)
def mTap (w : wW) (y : Nat → Nat) (t : Nat) : Prop := w_sc w 4013 = nI t ∧ mTp w y
def mScl (w : wW) : aSc → Prop
  | (cr, fa, sta, sp, rf) => w_sc w 4006 = cr ∧ w_sc w 4014 = fa ∧ w_sc w 4000 = sta ∧ w_sc w 4043 = sp ∧ w_ar w 41 1 = rf 0 ∧ w_ar w 41 2 = rf 1 ∧ w_ar w 41 3 = rf 2 ∧ w_ar w 41 5 = rf 3 ∧ w_ar w 41 6 = rf 4
def mIm (w : wW) (im : Nat → Option aW) : Prop := ∀ k, k < 2 → match im k with
    | none => w_ar w 44 k = 0
    | some a => w_ar w 44 k = 1 ∧ mMain (fun i => w_ar w 43 (5692 * k + i)) a
def mDr (w : wW) (dn : Nat) (DH : Nat → Int32) : Prop := (dn = 0 ∧ w_sc w 4051 = -1) ∨ (1 ≤ dn ∧ w_sc w 4051 = nI dn ∧ hA dn (w_ar w 65) DH)
def mAll (w : wW) : aS → Prop
  | ((H, md, n, ls, fc, sn, sv, ss), im, tr, (y, t), sc, (dn, DH)) => mMain (w_ar w 42) (H, md, n, ls, fc, sn, sv, ss) ∧ mIm w im ∧ mTrl w n tr ∧ mTap w y t ∧ mScl w sc ∧ mDr w dn DH ∧ mWd w ∧ ∃ b : Bool, w_sc w 4024 = b2i b
/-! What stays of the other side. -/
def fM (w w1 : wW) : Prop := (∀ j, 4000 ≤ j → w_sc w1 j = w_sc w j) ∧ (∀ j, 40 ≤ j → w_ar w1 j = w_ar w j) ∧ w_sm w1 = w_sm w
def fV (w w1 : wW) : Prop := (∀ j, j < 4000 → w_sc w1 j = w_sc w j) ∧ (∀ j, j < 40 → w_ar w1 j = w_ar w j) ∧ w_rh w1 = w_rh w ∧ w_rl w1 = w_rl w ∧ w_la w1 = w_la w ∧ w_im w1 = w_im w ∧ w_dy w1 = w_dy w
section FR
variable {w u : wW} {j k : Nat} {x : Int32} {f : Nat → Int32}
theorem fM_refl : fM w w := ⟨fun _ _ => rfl, fun _ _ => rfl, rfl⟩
theorem fM_trans {v : wW} (h1 : fM w u) (h2 : fM u v) : fM w v := ⟨fun j hj => (h2.1 j hj).trans (h1.1 j hj), fun j hj => (h2.2.1 j hj).trans (h1.2.1 j hj), h2.2.2.trans h1.2.2⟩
theorem fM_sc (hk : k < 4000) (h : fM w u) : fM w (s_sc u k x) := ⟨fun j hj => by rw [g_sc_sc, if_neg (by omega)]; exact h.1 j hj, h.2⟩
theorem fM_ar (hk : k < 40) (h : fM w u) : fM w (s_ar u k f) := ⟨h.1, fun j hj => by rw [g_ar_ar, if_neg (by omega)]; exact h.2.1 j hj, h.2.2⟩
theorem fM_rh {z : Nat} (h : fM w u) : fM w (s_rh u z) := h
theorem fM_rl {z : Option Nat} (h : fM w u) : fM w (s_rl u z) := h
theorem fM_la {z : Nat → Option Nat} (h : fM w u) : fM w (s_la u z) := h
theorem fM_im {z : Nat → Option Nat} (h : fM w u) : fM w (s_im u z) := h
theorem fM_dy {z : hv_H} (h : fM w u) : fM w (s_dy u z) := h
theorem fM_zT {z : zX} (h : fM w u) : fM w (zT u z) := fM_ar (by omega) (fM_sc (by omega) (fM_sc (by omega) (fM_ar (by omega) h)))
theorem fM_ch {B A R : Nat → Int32} {a b : Int32} (h : fM w u) : fM w (chW u B A R a b) := fM_ar (by omega) (fM_ar (by omega) (fM_sc (by omega) (fM_sc (by omega) (fM_ar (by omega) h))))
theorem fM_ws {R A K : Nat → Int32} (h : fM w u) : fM w (wsW u R A K) := fM_ar (by omega) (fM_ar (by omega) (fM_ar (by omega) h))
theorem fM_rw {a b k n p cl ln : Int32} {M S : Nat → Int32} (h : fM w u) : fM w (rW u a b k n p cl ln M S) := fM_ar (by omega) (fM_ar (by omega) (fM_sc (by omega) (fM_sc (by omega) (fM_sc (by omega) (fM_sc (by omega) (fM_sc (by omega) (fM_sc (by omega) (fM_sc (by omega) h))))))))
theorem fV_refl : fV w w := ⟨fun _ _ => rfl, fun _ _ => rfl, rfl, rfl, rfl, rfl, rfl⟩
theorem fV_trans {v : wW} (h1 : fV w u) (h2 : fV u v) : fV w v := ⟨fun j hj => (h2.1 j hj).trans (h1.1 j hj), fun j hj => (h2.2.1 j hj).trans (h1.2.1 j hj), h2.2.2.1.trans h1.2.2.1, h2.2.2.2.1.trans h1.2.2.2.1, h2.2.2.2.2.1.trans h1.2.2.2.2.1, h2.2.2.2.2.2.1.trans h1.2.2.2.2.2.1, h2.2.2.2.2.2.2.trans h1.2.2.2.2.2.2⟩
theorem fV_sc (hk : 4000 ≤ k) (h : fV w u) : fV w (s_sc u k x) := ⟨fun j hj => by rw [g_sc_sc, if_neg (by omega)]; exact h.1 j hj, h.2⟩
theorem fV_ar (hk : 40 ≤ k) (h : fV w u) : fV w (s_ar u k f) := ⟨h.1, fun j hj => by rw [g_ar_ar, if_neg (by omega)]; exact h.2.1 j hj, h.2.2⟩
theorem fV_sm {z : Nat → Int64} (h : fV w u) : fV w (s_sm u z) := h
theorem fV_tT {z : tX} (h : fV w u) : fV w (tT' u z) := fV_ar (by omega) (fV_sc (by omega) (fV_sc (by omega) (fV_sc (by omega) (fV_sc (by omega) h))))
theorem fV_sh {S D : Nat → Int32} (h : fV w u) : fV w (shW u S D) := fV_ar (by omega) (fV_ar (by omega) h)
theorem fV_fw {a b : Int32} {r q : Nat → Int32} (h : fV w u) : fV w (fW u a b r q) := fV_ar (by omega) (fV_ar (by omega) (fV_sc (by omega) (fV_sc (by omega) h)))
theorem fV_wm {K D : Nat → Int32} (h : fV w u) : fV w (wmW u K D) := fV_ar (by omega) (fV_ar (by omega) h)
theorem mMain_cg {K G : Nat → Int32} {a : aW} (h : mMain K a) (hg : ∀ i, i < 5692 → G i = K i) (hn : aOk a) : mMain G a := by
  obtain ⟨H, md, n, ls, fc, sn, sv, ss⟩ := a
  obtain ⟨h1, h2, h3, h4, h5, h6, h7, h8⟩ := h
  obtain ⟨n7, n6, _, n8, _⟩ := hn
  refine ⟨⟨fun m hm => ⟨fun v hv => ?_, ?_, ?_⟩, ?_⟩, ?_, ?_, ?_, ?_, ?_, fun i hi => ⟨?_, ?_⟩, fun L cs hL => ?_⟩
  · rw [hg _ (by omega)]; exact (h1.1 m hm).1 v hv
  · rw [hg _ (by omega)]; exact (h1.1 m hm).2.1
  · rw [hg _ (by omega)]; exact (h1.1 m hm).2.2
  · rw [hg _ (by omega)]; exact h1.2
  · rw [hg _ (by omega)]; exact h2
  · rw [hg _ (by omega)]; exact h3
  · rw [hg _ (by omega)]; exact h4
  · rw [hg _ (by omega)]; exact h5
  · rw [hg _ (by omega)]; exact h6
  · rw [hg _ (by omega)]; exact (h7 i hi).1
  · rw [hg _ (by omega)]; exact (h7 i hi).2
  · obtain ⟨T, tc, tv, t1, t2, t3, t4⟩ := h8 L cs hL
    have hL6 : L < 6 := by
      rw [List.getElem?_eq_some_iff] at hL
      obtain ⟨q, _⟩ := hL
      omega
    obtain ⟨e1, e2, e3, e4⟩ := t3
    refine ⟨T, tc, tv, t1, by rw [hg _ (by omega)]; exact t2, ⟨e1, e2, fun k hk => ?_, e4⟩, t4⟩
    rw [hg _ (by omega), hg _ (by omega)]
    exact e3 k hk
theorem mAll_fM {w1 : wW} {s : aS} (h : fM w w1) (hm : mAll w s) : mAll w1 s := by
  obtain ⟨⟨H, md, n, ls, fc, sn, sv, ss⟩, im, ⟨un, TK, TH⟩, ⟨y, t⟩, ⟨cr, fa, sta, sp, rf⟩, dn, DH⟩ := s
  obtain ⟨f1, f2, f3⟩ := h
  have a := fun j (hj : 40 ≤ j) => f2 j hj
  have b := fun j (hj : 4000 ≤ j) => f1 j hj
  simp only [mAll, mIm, mTrl, mTap, mScl, mDr, mWd, mTp, a 42 (by omega), a 41 (by omega), a 43 (by omega), a 44 (by omega), a 54 (by omega), a 47 (by omega), a 46 (by omega), a 65 (by omega), b 4032 (by omega), b 4013 (by omega), b 4006 (by omega), b 4014 (by omega), b 4000 (by omega), b 4043 (by omega), b 4051 (by omega), b 4024 (by omega)]
  exact hm
theorem vAll_fV {w1 : wW} {s : aS} (h : fV w w1) (hm : vAll w s) : vAll w1 s := by
  obtain ⟨⟨H, md, n, ls, fc, sn, sv, ss⟩, im, ⟨un, TK, TH⟩, ⟨y, t⟩, ⟨cr, fa, sta, sp, rf⟩, dn, DH⟩ := s
  obtain ⟨f1, f2, f3, f4, f5, f6, f7⟩ := h
  have a := fun j (hj : j < 40) => f2 j hj
  have b := fun j (hj : j < 4000) => f1 j hj
  simp only [vAll, vMain, vIm, vTrl, vTap, vScl, vDr, f5, f6, f7, a 3 (by omega), a 5 (by omega), a 6 (by omega), a 26 (by omega), a 27 (by omega), a 34 (by omega), a 39 (by omega), a 22 (by omega), b 104 (by omega), b 105 (by omega), b 106 (by omega), b 2502 (by omega), b 11 (by omega), b 12 (by omega), b 13 (by omega), b 14 (by omega), b 2410 (by omega)]
  exact hm
theorem lawIn_of {K : Nat → Int32} {H : Nat → Int32} {md fc : Int32} {n sn : Nat} {ls : List (List qC)} {sv ss : Nat → Int32} (h : mMain K (H, md, n, ls, fc, sn, sv, ss)) (hk : aOk (H, md, n, ls, fc, sn, sv, ss)) : lawIn K (aLaw ls fc) := by
  obtain ⟨h1, h2, h3, h4, h5, h6, h7, h8⟩ := h
  obtain ⟨_, n6, hf, _⟩ := hk
  rcases hf with rfl | ⟨L, hL, rfl⟩
  · exact Or.inl ⟨h6, by rw [aLaw, if_pos rfl]⟩
  · have hg : ls[L]? = some ls[L] := List.getElem?_eq_getElem hL
    refine Or.inr ⟨L, ls[L], by omega, h6, h8 L _ hg, ?_⟩
    rw [aLaw, if_neg (fun q => m1_ne (by omega) q.symm), a_clamp (by omega), hg]
theorem lOk_of {H : Nat → Int32} {md fc : Int32} {n sn : Nat} {ls : List (List qC)} {sv ss : Nat → Int32} (hk : aOk (H, md, n, ls, fc, sn, sv, ss)) : lOk (aLaw ls fc) := by
  obtain ⟨_, n6, hf, _, _, _, _, hl⟩ := hk
  rcases hf with rfl | ⟨L, hL, rfl⟩
  · rw [aLaw, if_pos rfl]
    exact fun cs q => by cases q
  · have hg : ls[L]? = some ls[L] := List.getElem?_eq_getElem hL
    rw [aLaw, if_neg (fun q => m1_ne (by omega) q.symm), a_clamp (by omega), hg]
    exact hl _ (List.getElem_mem hL)
theorem askM_of {H : Nat → Int32} {md fc : Int32} {n sn : Nat} {ls : List (List qC)} {sv ss : Nat → Int32} (h : mMain (w_ar w 42) (H, md, n, ls, fc, sn, sv, ss)) (hk : aOk (H, md, n, ls, fc, sn, sv, ss)) : askM w (aLaw ls fc) md n H := ⟨lawIn_of h hk, h.1, h.2.1, hk.1, lOk_of hk⟩
end FR
