/-! The class reads: orders. -/
section VK
variable {w : wW} {T nw : Nat} {tc tv : qT} {pl en : Nat → Nat} {kd nu : Nat → Int32}
set_option maxHeartbeats 400000 in
theorem v_ordTail (h : VT w true T tc tv pl en kd nu) (hnw : nw = 19) {d k c l l2 k2 p2 kq : Nat} {n2 : Int32} {M M2 S S2 : Nat → Int32} {a b : vD} {x : Option hv_R} (hd : 49 ≤ d) (hc : c < 12)
    (g1 : ∀ W, hv_sem d 256 [.ref 35] (wB (rK w pl en kd k2 n2 (nI p2) (nI (c + 1)) (nI l2) M2 S2)) = some (some (.int 0), wB W) → x = some (some (.int 0), wB W))
    (g2 : ∀ W W', hv_sem d 256 [.ref 35] (wB (rK w pl en kd k2 n2 (nI p2) (nI (c + 1)) (nI l2) M2 S2)) = some (some (.int 1), wB W) → hv_sem d 257 [.ref 35] (wB W) = some (some (.int 0), wB W') → x = some (some (.int 0), wB W'))
    (g3 : ∀ W W', hv_sem d 256 [.ref 35] (wB (rK w pl en kd k2 n2 (nI p2) (nI (c + 1)) (nI l2) M2 S2)) = some (some (.int 1), wB W) → hv_sem d 257 [.ref 35] (wB W) = some (some (.int 1), wB W') → x = some (some (.int 1), wB W'))
    (hk2 : k2 ≤ T) (hp2 : p2 ≤ 50) (hl2 : l2 ≤ k2) (hll : l ≤ l2) (hlk : l2 + k ≤ l + k2) (hn2 : kd k2 = -3 → n2 = nu k2) (hq : kq ≤ 3) (hM0 : M2 (c * 5) = nI kq) (hM1 : M2 (c * 5 + 1) = 1) (hM4 : M2 (c * 5 + 4) = -1) (hF : (kq = 3 ∧ M2 (c * 5 + 2) = -1) ∨ (¬ kq = 3 ∧ ∃ i, M2 (c * 5 + 2) = nI i ∧ secV S2 nw l2 i a)) (hG : (¬ (kq = 0 ∨ kq = 2) ∧ M2 (c * 5 + 3) = -1) ∨ ((kq = 0 ∨ kq = 2) ∧ ∃ i, M2 (c * 5 + 3) = nI i ∧ secV S2 nw l2 i b)) (hMM : ∀ i, i < c * 5 → M2 i = M i) (hSS : ∀ q, q < l → S2 q = S q) :
    vCl w pl en kd nu (fun M' S' l' q => clO M' S' nw l' c q) c k l M S (match q_times tc tv k2 p2 with
      | .inl e => .inl e
      | .inr (k3, p3, m) => match q_if true tc tv k3 p3 with
        | .inl e => .inl e
        | .inr (k4, p4, cd) => .inr (k4, p4, kq, a, b, m, cd)) x := by
  have hT4 := h.1
  have h0 := h.2.1
  have r1 := v_times h (d := d) (k := k2) (p := p2) (l := l2) (c := c) (n := n2) (M := M2) (S := S2) (by omega) hk2 (by omega) hc hM1 hn2
  cases hx : q_times tc tv k2 p2 with
  | inl e =>
    rw [hx] at r1
    obtain ⟨b1, kk, n', pp, cl, l', M', S', hl', e1⟩ := r1
    exact ⟨b1, kk, n', pp, cl, l', M', S', hl', g1 _ e1⟩
  | inr s =>
    obtain ⟨k3, p3, m⟩ := s
    rw [hx] at r1
    obtain ⟨hp3, hm, n3, M3, e1, hn3, hM3, hM31⟩ := r1
    have hp3 := hp3.symm
    subst hp3
    have gk := (q_times_ok (tv := tv) h0).1 _ _ _ _ _ hk2 hx
    have r2 := v_cond h hnw (d := d) (k := k3) (p := p2) (l := l2) (c := c) (n := n3) (M := M3) (S := S2) (by omega) gk.2.1 hp2 (by omega) hn3 hc (by rw [hM3 _ (by omega)]; exact hM4)
    simp only []
    cases hy : q_if true tc tv k3 p2 with
    | inl e =>
      rw [hy] at r2
      obtain ⟨b1, kk, n', pp, cl, l', M', S', hl', e2⟩ := r2
      exact ⟨b1, kk, n', pp, cl, l', M', S', hl', g2 _ _ e1 e2⟩
    | inr s =>
      obtain ⟨k4, p4, cd⟩ := s
      rw [hy] at r2
      obtain ⟨n4, l4, M4, S4, e4, hn4, hl4, hl5, hM4', hS4, hc4⟩ := r2
      refine ⟨n4, l4, M4, S4, g3 _ _ e1 e4, hn4, by omega, by omega, fun i hi => ?_, fun q hq => by rw [hS4 q (by omega)]; exact hSS q hq, ?_, hq, ?_, hm, ?_, ?_, hc4⟩
      · rw [hM4' i (by omega), hM3 i (by omega)]; exact hMM i hi
      · rw [hM4' _ (by omega), hM3 _ (by omega)]; exact hM0
      · rw [hM4' _ (by omega)]; exact hM31
      · rcases hF with ⟨f1, f2⟩ | ⟨f1, i, f2, f3⟩
        · exact Or.inl ⟨f1, by rw [hM4' _ (by omega), hM3 _ (by omega)]; exact f2⟩
        · exact Or.inr ⟨f1, i, by rw [hM4' _ (by omega), hM3 _ (by omega)]; exact f2, secV_mono f3 hS4 hl4⟩
      · rcases hG with ⟨f1, f2⟩ | ⟨f1, i, f2, f3⟩
        · exact Or.inl ⟨f1, by rw [hM4' _ (by omega), hM3 _ (by omega)]; exact f2⟩
        · exact Or.inr ⟨f1, i, by rw [hM4' _ (by omega), hM3 _ (by omega)]; exact f2, secV_mono f3 hS4 hl4⟩
theorem w0 {c : Int32} : wIdx c (wLst 0) 0 = if c = 21 then 0 else if c = 23 then 1 else if c = 24 then 2 else if c = 26 then 3 else -1 := rfl
set_option maxHeartbeats 400000 in
theorem v_ordTwo (h : VT w true T tc tv pl en kd nu) (hnw : nw = 19) {d k p l c kq jw : Nat} {cw xq : Int32} {M S : Nat → Int32} {x : Option hv_R} (hxq : xq = nI kq) (hd : 49 ≤ d) (hk : k < T) (hp : p ≤ 50) (hl : l ≤ k) (hc : c < 12) (hkq : kq = 0 ∨ kq = 2) (hj : jw < 11) (hw : wLst jw = [cw]) (hcw : ¬ cw = 0) {n1 : Int32} (hn1 : kd (k + 1) = -3 → n1 = nu (k + 1))
    (f1 : ∀ W, hv_sem d 255 [.ref 35, .int 2] (wB (rK w pl en kd (k + 1) n1 (nI p) (nI (c + 1)) (nI l) (clA M c xq) S)) = some (some (.int 0), wB W) → x = some (some (.int 0), wB W))
    (f2 : ∀ W W2, hv_sem d 255 [.ref 35, .int 2] (wB (rK w pl en kd (k + 1) n1 (nI p) (nI (c + 1)) (nI l) (clA M c xq) S)) = some (some (.int 1), wB W) → hv_sem d 268 [.ref 35, .retAddr jw] (wB W) = some (some (.int 0), wB W2) → x = some (some (.int 0), wB W2))
    (f3 : ∀ W W2 W3, hv_sem d 255 [.ref 35, .int 2] (wB (rK w pl en kd (k + 1) n1 (nI p) (nI (c + 1)) (nI l) (clA M c xq) S)) = some (some (.int 1), wB W) → hv_sem d 268 [.ref 35, .retAddr jw] (wB W) = some (some (.int 1), wB W2) → hv_sem d 255 [.ref 35, .int 3] (wB W2) = some (some (.int 0), wB W3) → x = some (some (.int 0), wB W3))
    (f4 : ∀ W W2 W3 W4, hv_sem d 255 [.ref 35, .int 2] (wB (rK w pl en kd (k + 1) n1 (nI p) (nI (c + 1)) (nI l) (clA M c xq) S)) = some (some (.int 1), wB W) → hv_sem d 268 [.ref 35, .retAddr jw] (wB W) = some (some (.int 1), wB W2) → hv_sem d 255 [.ref 35, .int 3] (wB W2) = some (some (.int 1), wB W3) → hv_sem d 256 [.ref 35] (wB W3) = some (some (.int 0), wB W4) → x = some (some (.int 0), wB W4))
    (f5 : ∀ W W2 W3 W4 W5, hv_sem d 255 [.ref 35, .int 2] (wB (rK w pl en kd (k + 1) n1 (nI p) (nI (c + 1)) (nI l) (clA M c xq) S)) = some (some (.int 1), wB W) → hv_sem d 268 [.ref 35, .retAddr jw] (wB W) = some (some (.int 1), wB W2) → hv_sem d 255 [.ref 35, .int 3] (wB W2) = some (some (.int 1), wB W3) → hv_sem d 256 [.ref 35] (wB W3) = some (some (.int 1), wB W4) → hv_sem d 257 [.ref 35] (wB W4) = some (some (.int 0), wB W5) → x = some (some (.int 0), wB W5))
    (f6 : ∀ W W2 W3 W4 W5, hv_sem d 255 [.ref 35, .int 2] (wB (rK w pl en kd (k + 1) n1 (nI p) (nI (c + 1)) (nI l) (clA M c xq) S)) = some (some (.int 1), wB W) → hv_sem d 268 [.ref 35, .retAddr jw] (wB W) = some (some (.int 1), wB W2) → hv_sem d 255 [.ref 35, .int 3] (wB W2) = some (some (.int 1), wB W3) → hv_sem d 256 [.ref 35] (wB W3) = some (some (.int 1), wB W4) → hv_sem d 257 [.ref 35] (wB W4) = some (some (.int 1), wB W5) → x = some (some (.int 1), wB W5)) :
    vCl w pl en kd nu (fun M' S' l' q => clO M' S' nw l' c q) c k l M S (match q_two tc tv cw kq (k + 1) p with
      | .inl e => .inl e
      | .inr (k1, p1, kd', a, b) => match q_times tc tv k1 p1 with
        | .inl e => .inl e
        | .inr (k2, p2, n) => match q_if true tc tv k2 p2 with
          | .inl e => .inl e
          | .inr (k3, p3, c) => .inr (k3, p3, kd', a, b, n, c)) x := by
  have hT4 := h.1
  have h0 := h.2.1
  have sok := q_sum_ok (o := true) (tv := tv) h0 8
  have r1 := v_marked h hnw (d := d) (k := k + 1) (p := p) (l := l) (c := c) (i := 2) (n := n1) (M := clA M c xq) (S := S) (by omega) hk hp (by omega) hn1 hc (by omega)
  rw [show nI 2 = 2 from rfl] at r1
  simp only [q_two]
  cases hx : q_sum true tc tv 8 (k + 1) p with
  | inl e =>
    rw [hx] at r1
    obtain ⟨b1, kk, n', pp, cl, l', M', S', hl', e1⟩ := r1
    exact ⟨b1, kk, n', pp, cl, l', M', S', hl', f1 _ e1⟩
  | inr s =>
    obtain ⟨k1, p1, a1⟩ := s
    rw [hx] at r1
    have g := sok.1 _ _ _ _ _ hx
    obtain ⟨n2, l1, S1, e1, hn2, hl1, hl2, hS1, hb1⟩ := r1
    simp only []
    by_cases hcc : tc k1 = cw
    · rw [if_pos hcc]
      have hk1 : k1 < T := q_ne0 h0 (fun q => by rw [q] at hcc; exact hcw hcc.symm)
      obtain ⟨n3, ew, hn3⟩ := k_wordT (n := n2) (p := nI p1) (cl := nI (c + 1)) (ln := nI l1) (M := upd (clA M c xq) (c * 5 + 2) (nI l)) (S := S1) h (d := d) (j := jw) (by omega) hj hw hk1 hcc
      have r2 := v_marked h hnw (d := d) (k := k1 + 1) (p := p1) (l := l1) (c := c) (i := 3) (n := n3) (M := upd (clA M c xq) (c * 5 + 2) (nI l)) (S := S1) (by omega) hk1 (g.2.2.2 hp) (by omega) hn3 hc (by omega)
      rw [show nI 3 = 3 from rfl] at r2
      cases hy : q_sum true tc tv 8 (k1 + 1) p1 with
      | inl e =>
        rw [hy] at r2
        obtain ⟨b1, kk, n', pp, cl, l', M', S', hl', e2⟩ := r2
        exact ⟨b1, kk, n', pp, cl, l', M', S', hl', f3 _ _ _ e1 ew e2⟩
      | inr s =>
        obtain ⟨k2, p2, a2⟩ := s
        rw [hy] at r2
        have g' := sok.1 _ _ _ _ _ hy
        obtain ⟨n4, l3, S3, e3, hn4, hl3, hl4, hS3, hb3⟩ := r2
        simp only []
        refine v_ordTail h hnw hd hc (fun W q => f4 _ _ _ _ e1 ew e3 q) (fun W W' q q' => f5 _ _ _ _ _ e1 ew e3 q q') (fun W W' q q' => f6 _ _ _ _ _ e1 ew e3 q q') g'.2.1 (g'.2.2.2 (g.2.2.2 hp)) (by omega) (by omega) (by omega) hn4 (by omega) ?_ ?_ ?_ (Or.inr ⟨by omega, l, ?_, secV_mono hb1 hS3 (by omega)⟩) (Or.inr ⟨hkq, l1, ?_, hb3⟩) (fun i hi => ?_) (fun q hq => by rw [hS3 q (by omega), hS1 q hq])
        · rw [upd_ne (by omega), upd_ne (by omega), clA_0]; exact hxq
        · rw [upd_ne (by omega), upd_ne (by omega)]; exact clA_1
        · rw [upd_ne (by omega), upd_ne (by omega)]; exact clA_4
        · rw [upd_ne (by omega)]; simp [upd]
        · simp [upd]
        · rw [upd_ne (by omega), upd_ne (by omega), clA_lt hi]
    · rw [if_neg hcc]
      have ew := k_wordF (n := n2) (p := nI p1) (cl := nI (c + 1)) (ln := nI l1) (M := upd (clA M c xq) (c * 5 + 2) (nI l)) (S := S1) h (d := d) (j := jw) (by omega) hj hw g.2.1 hcc
      exact vFl_k (l' := l1) (by omega) (f2 _ _ e1 ew)
end VK
