/-! soft: the reference's loop. -/
section RI
variable {w : wW} {n k : Nat} {K0 H : Nat → Int32} {law : Option (List qC)} {md b : Int32} {d : Nat}
theorem sfA_stay {j K : Nat} (h : sfA b law md n H k = some j) (hK : k ≤ K) : sfA b law md n H K = some j := by
  induction K with
  | zero =>
    rw [show k = 0 by omega] at h
    exact h
  | succ K ih =>
    by_cases q : k = K + 1
    · rw [← q]
      exact h
    · have := ih (by omega)
      rw [sfA, this, if_neg (fun q => by cases q)]
theorem sfA_hit (h : sfA b law md n H k = none) (h2 : nI (sfS law md n H k) < b) : sfA b law md n H (k + 1) = some k := by rw [sfA, if_pos h, if_pos h2]
theorem lawIn_cg {K G : Nat → Int32} (h : lawIn K law) (hg : ∀ i, 64 ≤ i → G i = K i) : lawIn G law := by
  rcases h with ⟨h1, h2⟩ | ⟨L, cs, h1, h2, h3, h4⟩
  · exact Or.inl ⟨(hg 84 (by omega)).trans h1, h2⟩
  · exact Or.inr ⟨L, cs, h1, (hg 84 (by omega)).trans h2, lawAt_cg h3 (fun i hi => hg i (by omega)), h4⟩
abbrev rfX : Type := (Nat → Int32) × (Nat → Int32) × (Nat → Int32) × (Nat → Int32) × (Nat → Int32) × (Nat → Int32)
def rfV (w : wW) (X : rfX) : wW := rfW w X.1 X.2.1 X.2.2.1 X.2.2.2.1 X.2.2.2.2.1 X.2.2.2.2.2
def sfP (K0 : Nat → Int32) (n : Nat) (H : Nat → Int32) (K : Nat → Int32) : Prop := hA n K H ∧ ∀ i, 64 ≤ i → K i = K0 i
set_option maxHeartbeats 400000 in
theorem m_softRound {X : rfX} {x : tX} (hl : lawIn K0 law) (hk : lOk law) (h7 : n ≤ 7) (hwf : hWf n H) (h80 : K0 80 = md) (h81 : K0 81 = nI n) (hP : sfP K0 n (sfH law md n H k) X.1) (hd : 47 ≤ d) : ∃ (X' : rfX) (x1 x2 : tX) (Y1 Y2 Y3 : rfX) (y : Int32), hv_sem d 139 [.ref 40] (wB (tT' (rfV w X) x)) = some (none, wB (tT' (rfV w Y1) x1)) ∧ hv_sem d 141 [.ref 40] (wB (tT' (rfV w Y1) x1)) = some (some (.int y), wB (tT' (rfV w Y2) x1)) ∧ hv_sem d 146 [.ref 40] (wB (tT' (rfV w Y2) x1)) = some (some (.int (nI (sfS law md n H k))), wB (tT' (rfV w Y2) x1)) ∧ hv_sem d 147 [.ref 40] (wB (tT' (rfV w Y2) x1)) = some (none, wB (tT' (rfV w Y3) x1)) ∧ hv_sem d 126 [.ref 40] (wB (tT' (rfV w Y3) x1)) = some (none, wB (tT' (rfV w X') x2)) ∧ sfP K0 n (sfH law md n H (k + 1)) X'.1 := by
  obtain ⟨K, T, S, D, A, R⟩ := X
  obtain ⟨p1, p2⟩ := hP
  have hw := sfH_wf (law := law) (md := md) h7 hwf k
  have g1 : lawIn K law := lawIn_cg hl p2
  have g2 : K 80 = md := (p2 80 (by omega)).trans h80
  have g3 : K 81 = nI n := (p2 81 (by omega)).trans h81
  obtain ⟨S', D', A', R', x1, y, e1, e2, hR⟩ := m_yearA (w := w) (K := K) (T := T) (S := S) (D := D) (A := A) (R := R) hw ⟨g1, p1, g2, h7, hk⟩ g3 (d := d) (by omega) x
  have e3 := m_yearB (w := w) (K := K) (T := T) (S := S') (D := D') (A := A') (R := R') (x := x1) h7 hw p1 g3 hR (d := d) (by omega)
  have e4 := m_yearC (w := w) (K := K) (T := T) (S := S') (D := D') (A := A') (R := R') (x := x1) h7 g3 hR (d := d) (by omega)
  have hK := obF_cg (W := pWs law md (sfH law md n H k)) p1 (Nat.le_refl n)
  have kf : ∀ i, 64 ≤ i → obF (pWs law md (sfH law md n H k)) n K n i = K i := fun i hi => obF_o h7 (Or.inr (by omega))
  obtain ⟨T', G, x2, e5, q1, q2⟩ := m_yearD (w := w) (K := obF (pWs law md (sfH law md n H k)) n K n) (T := T) (S := S') (D := D') (A := A') (R := R') (lawIn_cg g1 kf) hk h7 hK ((kf 80 (by omega)).trans g2) ((kf 81 (by omega)).trans g3) (d := d) (by omega) x1
  exact ⟨(G, T', S', D', A', R'), x1, x2, (K, T, S', D', A, R), (K, T, S', D', A', R'), (obF (pWs law md (sfH law md n H k)) n K n, T, S', D', A', R'), y, e1, e2, e3, e4, e5, q1, fun i hi => (q2 i hi).trans ((kf i hi).trans (p2 i hi))⟩
end RI
