/-! Orders: the reference goes along what was read. -/
def gyS (q : qC) (E : Nat → Int32) (sm : Nat → Int64) (su : Bool) : Prop := su = (oAr q.1 q.2.1 q.2.2.1 E).isSome ∧ ∀ x y, oAr q.1 q.2.1 q.2.2.1 E = some (x, y) → (¬ q.1 = 3 → sm 0 = x.toInt64) ∧ ((q.1 = 0 ∨ q.1 = 2) → sm 1 = y.toInt64)
def gyK (kd : Nat) (x : Int32) : Prop := (kd = 0 ∧ x = 21) ∨ (kd = 1 ∧ x = 23) ∨ (kd = 2 ∧ x = 24) ∨ (kd = 3 ∧ x = 26)
section GS
variable {w : wW} {sm : Nat → Int64} {d k k1 k2 k3 T nn tm p p1 p2 kd : Nat} {E : Nat → Int32} {tc tv : qT} {g0 ge io ti hh su0 te0 : Int32} {l b0 : Bool} {a b : vD}
theorem e_val1 (x : Int32) : e_val true false (some x) = x.toInt64 := rfl
theorem e_brk1 (x : Option Int32) : e_brk true false x = x.isNone := by simp [e_brk]
theorem oAr_n (h : ¬ kd = 3) (ha : a E = none) : oAr kd a b E = none := by
  rw [oAr, if_neg h, ha]
theorem oAr_bn {z : Int32} (h : kd = 0 ∨ kd = 2) (ha : a E = some z) (hb : b E = none) : oAr kd a b E = none := by
  rw [oAr, if_neg (by omega), ha, hb]
  exact if_neg (by omega)
theorem oAr_s {z z2 : Int32} (h : kd = 0 ∨ kd = 2) (ha : a E = some z) (hb : b E = some z2) : oAr kd a b E = some (z, z2) := by
  rw [oAr, if_neg (by omega), ha, hb]
  exact if_neg (by omega)
/-- the sums of an order -/
def gyL (w : wW) (d k k1 T nn kd : Nat) (E : Nat → Int32) (a b : vD) (x9 : Int32) (l : Bool) (sm : Nat → Int64) (ti te0 : Int32) : Prop := ∀ b0 : Bool, ∃ (sm' : Nat → Int64) (b1 su : Bool), (l = true → su = (oAr kd a b E).isSome ∧ ∀ x y, oAr kd a b E = some (x, y) → (¬ kd = 3 → sm' 0 = x.toInt64) ∧ ((kd = 0 ∨ kd = 2) → sm' 1 = y.toInt64)) ∧ hv_lp (hl_M_goesAlong_0 (hv_step hv_cm hv_vk hv_dv hv_ft 0 0 none (hv_sem d))) ([some (.ref 40), some (.int (nI (2400 + T))), some (.int (b2i l)), some (.int (nI nn)), some (.int 0)], [], wB (gyW w sm (nI (2400 + k + 1)) (nI (2400 + T)) (b2i b0) 1 ti x9 1 te0), 0, 0) = some (.inl (0, [some (.ref 40), some (.int (nI (2400 + T))), some (.int (b2i l)), some (.int (nI nn)), some (.int (nI nn))], [], wB (gyW w sm' (nI (2400 + k1)) (nI (2400 + T)) (b2i b1) 1 ti x9 (b2i su) te0), 0, 0))
theorem gy_L0 : gyL w d k (k + 1) T 0 3 E a b (tc k) l sm ti te0 := by
  intro b0
  refine ⟨sm, b0, true, fun _ => ⟨rfl, fun x y _ => ⟨fun q => absurd rfl q, fun q => by omega⟩⟩, m_goE0⟩
theorem gy_L1 (h : gyP E T tc tv w) (hk : k < T) (hq : q_sum true tc tv 8 (k + 1) p = .inr (k1, p1, a)) (hd : 31 ≤ d) : gyL w d k k1 T 1 1 E a b (tc k) l sm ti te0 := by
  intro b0
  have es := g_sum (w := w) (sm := sm) (k := k + 1) (b := false) (l := l) (ti := ti) (hh := tc k) (su := 1) (te := te0) h (by omega) hq (d := d) (by omega)
  refine ⟨_, e_brk l false (a E), !(e_brk l false (a E)), fun hl => ?_, m_goL1 (br := b2i b0) (k := k + 1) es⟩
  subst hl
  rw [e_brk1, oAr, if_neg (by omega)]
  cases hx : a E with
  | none => exact ⟨rfl, fun x y q => by cases q⟩
  | some z =>
    refine ⟨rfl, fun x y q => ?_⟩
    cases q
    exact ⟨fun _ => rfl, fun q => by omega⟩
theorem gy_L2 (hkd : kd = 0 ∨ kd = 2) (h : gyP E T tc tv w) (hk : k < T) (hq : q_sum true tc tv 8 (k + 1) p = .inr (k1, p1, a)) (hq2 : q_sum true tc tv 8 (k1 + 1) p1 = .inr (k2, p2, b)) (hk1 : k1 < T) (hd : 31 ≤ d) : gyL w d k k2 T 2 kd E a b (tc k) l sm ti te0 := by
  intro b0
  have es := g_sum (w := w) (sm := sm) (k := k + 1) (b := false) (l := l) (ti := ti) (hh := tc k) (su := 1) (te := te0) h (by omega) hq (d := d) (by omega)
  have es2 := g_sum (w := w) (sm := vp_updL sm 0 (e_val l false (a E))) (k := k1 + 1) (b := false) (l := l) (ti := ti) (hh := tc k) (su := b2i (!(e_brk l false (a E)))) (te := te0) h (by omega) hq2 (d := d) (by omega)
  refine ⟨_, e_brk l false (b E), (!(e_brk l false (a E)) && !(e_brk l false (b E))), fun hl => ?_, m_goL2 (br := b2i b0) (k := k + 1) es es2⟩
  subst hl
  rw [e_brk1, e_brk1]
  cases hx : a E with
  | none =>
    rw [oAr_n (by omega) hx]
    exact ⟨rfl, fun x y q => by cases q⟩
  | some z =>
    cases hy : b E with
    | none =>
      rw [oAr_bn hkd hx hy]
      exact ⟨rfl, fun x y q => by cases q⟩
    | some z2 =>
      rw [oAr_s hkd hx hy]
      refine ⟨rfl, fun x y q => ?_⟩
      cases q
      exact ⟨fun _ => rfl, fun _ => rfl⟩
theorem q_timesE {n : Nat} (h0 : ∀ k, T ≤ k → tc k = 0) (hk : k ≤ T) (hq : q_times tc tv k p = .inr (k2, p2, n)) : ((¬ tc k = 27 ∧ k2 = k ∧ n = 1) ∨ (tc k = 27 ∧ k2 = k + 2 ∧ k + 1 < T ∧ tv (k + 1) = nI n)) ∧ k2 ≤ T ∧ n ≤ 20 := by
  rw [q_times] at hq
  by_cases h : tc k = 27
  · rw [if_pos h] at hq
    by_cases h2 : tc (k + 1) = 50 ∧ 1 ≤ tv (k + 1) ∧ tv (k + 1) ≤ 20
    · rw [if_pos h2] at hq
      cases hq
      have h3 : k + 1 < T := q_ne0 h0 (by rw [h2.1]; decide)
      obtain ⟨i, hi, e⟩ := n_rng (x := tv (k + 1)) (a := 1) (c := 20) (by omega) h2.2.1 h2.2.2 (by omega)
      rw [e, a_clamp (by omega)]
      exact ⟨Or.inr ⟨h, rfl, h3, rfl⟩, by omega, by omega⟩
    · rw [if_neg h2] at hq
      cases hq
  · rw [if_neg h] at hq
    cases hq
    exact ⟨Or.inl ⟨h, rfl, rfl⟩, hk, by omega⟩
theorem q_ifE {c : vT} (h0 : ∀ k, T ≤ k → tc k = 0) (hk : k ≤ T) (hq : q_if true tc tv k p = .inr (k3, p2, c)) : gyI E T tc tv k k3 c ∧ k3 ≤ T := by
  rw [q_if] at hq
  by_cases h : tc k = 6
  · rw [if_pos h] at hq
    exact ⟨Or.inr ⟨h, p, p2, hq⟩, ((q_test_ok h0 8).1 _ _ _ _ _ hq).2.1⟩
  · rw [if_neg h] at hq
    cases hq
    exact ⟨Or.inl ⟨h, rfl, rfl⟩, hk⟩
set_option maxHeartbeats 400000 in
theorem m_goes {q : qC} {p3 : Nat} (h : gyP E T tc tv w) (h44 : w_sc w 4044 = nI (2400 + k)) (hq : q_order tc tv k p = .inr (k3, p3, q)) (hd : 44 ≤ d) : k < T ∧ k < k3 + 1 ∧ k3 ≤ T ∧ gyK q.1 (tc k) ∧ ∃ (sm' : Nat → Int64) (b3 su te : Bool), (l = true → gyS q E sm' su ∧ te = decide (q.2.2.2.2 E = some true)) ∧ hv_sem (d + 1) 166 [.ref 40, .int (nI (2400 + T)), .int (b2i l)] (wB (gyW w sm g0 ge (b2i b0) io ti hh su0 te0)) = some (none, wB (gyW w sm' (nI (2400 + k3 + 1)) (nI (2400 + T)) (b2i b3) 1 (nI q.2.2.2.1) (tc k) (b2i su) (b2i te))) := by
  have h0 : ∀ k, T ≤ k → tc k = 0 := h.1.2.2.2
  have hso := (q_sum_ok (o := true) (tv := tv) h0 8).1
  rw [q_order] at hq
  cases hs : q_sums tc tv k p with
  | inl e =>
    rw [hs] at hq
    cases hq
  | inr z =>
    obtain ⟨k1, p1, kd, a, b⟩ := z
    rw [hs] at hq
    replace hq : (match q_times tc tv k1 p1 with
      | .inl e => .inl e
      | .inr (k2, p2, n) => match q_if true tc tv k2 p2 with
        | .inl e => .inl e
        | .inr (k3, p3, c) => .inr (k3, p3, kd, a, b, n, c)) = (Sum.inr (k3, p3, q) : qR qC) := hq
    -- the sums
    have hL : k < T ∧ k < k1 ∧ k1 ≤ T ∧ gyK kd (tc k) ∧ ∃ nn, ((tc k = 26 ∧ nn = 0) ∨ (tc k = 23 ∧ nn = 1) ∨ ((¬ tc k = 26 ∧ ¬ tc k = 23) ∧ nn = 2)) ∧ gyL w d k k1 T nn kd E a b (tc k) l sm ti te0 := by
      rw [q_sums] at hs
      by_cases c1 : tc k = 21
      · have hkT : k < T := q_ne0 h0 (by rw [c1]; decide)
        rw [if_pos c1, q_two] at hs
        cases hs1 : q_sum true tc tv 8 (k + 1) p with
        | inl e =>
          rw [hs1] at hs
          cases hs
        | inr z =>
          obtain ⟨j1, r1, a1⟩ := z
          rw [hs1] at hs
          replace hs : (if tc j1 = 22 then (match q_sum true tc tv 8 (j1 + 1) r1 with
            | .inl e => .inl e
            | .inr (k2, p2, b) => .inr (k2, p2, 0, a1, b)) else .inl j1) = (Sum.inr (k1, p1, kd, a, b) : qR (Nat × vD × vD)) := hs
          by_cases c2 : tc j1 = 22
          · rw [if_pos c2] at hs
            cases hs2 : q_sum true tc tv 8 (j1 + 1) r1 with
            | inl e =>
              rw [hs2] at hs
              cases hs
            | inr z =>
              obtain ⟨j2, r2, b1⟩ := z
              rw [hs2] at hs
              cases hs
              have hj1 : j1 < T := q_ne0 h0 (by rw [c2]; decide)
              have o1 := hso _ _ _ _ _ hs1
              have o2 := hso _ _ _ _ _ hs2
              exact ⟨hkT, by omega, o2.2.1, Or.inl ⟨rfl, c1⟩, 2, Or.inr (Or.inr ⟨⟨by rw [c1]; decide, by rw [c1]; decide⟩, rfl⟩), gy_L2 (Or.inl rfl) h hkT hs1 hs2 hj1 (by omega)⟩
          · rw [if_neg c2] at hs
            cases hs
      · rw [if_neg c1] at hs
        by_cases c3 : tc k = 24
        · have hkT : k < T := q_ne0 h0 (by rw [c3]; decide)
          rw [if_pos c3, q_two] at hs
          cases hs1 : q_sum true tc tv 8 (k + 1) p with
          | inl e =>
            rw [hs1] at hs
            cases hs
          | inr z =>
            obtain ⟨j1, r1, a1⟩ := z
            rw [hs1] at hs
            replace hs : (if tc j1 = 25 then (match q_sum true tc tv 8 (j1 + 1) r1 with
              | .inl e => .inl e
              | .inr (k2, p2, b) => .inr (k2, p2, 2, a1, b)) else .inl j1) = (Sum.inr (k1, p1, kd, a, b) : qR (Nat × vD × vD)) := hs
            by_cases c2 : tc j1 = 25
            · rw [if_pos c2] at hs
              cases hs2 : q_sum true tc tv 8 (j1 + 1) r1 with
              | inl e =>
                rw [hs2] at hs
                cases hs
              | inr z =>
                obtain ⟨j2, r2, b1⟩ := z
                rw [hs2] at hs
                cases hs
                have hj1 : j1 < T := q_ne0 h0 (by rw [c2]; decide)
                have o1 := hso _ _ _ _ _ hs1
                have o2 := hso _ _ _ _ _ hs2
                exact ⟨hkT, by omega, o2.2.1, Or.inr (Or.inr (Or.inl ⟨rfl, c3⟩)), 2, Or.inr (Or.inr ⟨⟨by rw [c3]; decide, by rw [c3]; decide⟩, rfl⟩), gy_L2 (Or.inr rfl) h hkT hs1 hs2 hj1 (by omega)⟩
            · rw [if_neg c2] at hs
              cases hs
        · rw [if_neg c3] at hs
          by_cases c4 : tc k = 23
          · have hkT : k < T := q_ne0 h0 (by rw [c4]; decide)
            rw [if_pos c4] at hs
            cases hs1 : q_sum true tc tv 8 (k + 1) p with
            | inl e =>
              rw [hs1] at hs
              cases hs
            | inr z =>
              obtain ⟨j1, r1, a1⟩ := z
              rw [hs1] at hs
              cases hs
              have o1 := hso _ _ _ _ _ hs1
              exact ⟨hkT, by omega, o1.2.1, Or.inr (Or.inl ⟨rfl, c4⟩), 1, Or.inr (Or.inl ⟨c4, rfl⟩), gy_L1 h hkT hs1 (by omega)⟩
          · rw [if_neg c4] at hs
            by_cases c5 : tc k = 26
            · have hkT : k < T := q_ne0 h0 (by rw [c5]; decide)
              rw [if_pos c5] at hs
              cases hs
              exact ⟨hkT, by omega, by omega, Or.inr (Or.inr (Or.inr ⟨rfl, c5⟩)), 0, Or.inl ⟨c5, rfl⟩, gy_L0⟩
            · rw [if_neg c5] at hs
              cases hs
    obtain ⟨hkT, hk1, hk1T, hgK, nn, hnn, hL⟩ := hL
    cases ht : q_times tc tv k1 p1 with
    | inl e =>
      rw [ht] at hq
      cases hq
    | inr z =>
      obtain ⟨k2, p2, n⟩ := z
      rw [ht] at hq
      replace hq : (match q_if true tc tv k2 p2 with
        | .inl e => .inl e
        | .inr (k3, p3, c) => .inr (k3, p3, kd, a, b, n, c)) = (Sum.inr (k3, p3, q) : qR qC) := hq
      obtain ⟨hT, hk2, hn20⟩ := q_timesE h0 hk1T ht
      cases hi : q_if true tc tv k2 p2 with
      | inl e =>
        rw [hi] at hq
        cases hq
      | inr z =>
        obtain ⟨j3, p4, c⟩ := z
        rw [hi] at hq
        cases hq
        obtain ⟨hI, hk3⟩ := q_ifE (E := E) h0 hk2 hi
        have hk23 : k2 ≤ k3 := by
          rcases hI with ⟨_, e, _⟩ | ⟨_, r, r', e⟩
          · omega
          · have := ((q_test_ok h0 8).1 _ _ _ _ _ e).1
            omega
        have hk12 : k1 ≤ k2 := by
          rcases hT with ⟨_, e, _⟩ | ⟨_, e, _⟩ <;> omega
        exact ⟨hkT, by omega, hk3, hgK, m_goM (Q := fun sm' su => su = (oAr kd a b E).isSome ∧ ∀ x y, oAr kd a b E = some (x, y) → (¬ kd = 3 → sm' 0 = x.toInt64) ∧ ((kd = 0 ∨ kd = 2) → sm' 1 = y.toInt64)) h h44 hkT hnn hL hk1T hT hk2 hI hk3 hd⟩
end GS
