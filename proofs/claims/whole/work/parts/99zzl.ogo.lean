/-! Orders: what the reference goes along with, as a lens. -/
def gyW (w : wW) (sm : Nat → Int64) (g ge br io ti hh su te : Int32) : wW := s_sc (s_sc (s_sc (s_sc (s_sc (s_sc (s_sc (s_sc (s_sm w sm) 4022 g) 4023 ge) 4024 br) 4025 io) 4045 ti) 4046 hh) 4047 su) 4048 te
section GY
variable {w : wW} {sm sm' : Nat → Int64} {g ge br io ti hh su te x : Int32} {j : Nat}
theorem gy_sc : w_sc (gyW w sm g ge br io ti hh su te) j = (if j = 4048 then te else (if j = 4047 then su else (if j = 4046 then hh else (if j = 4045 then ti else (if j = 4025 then io else (if j = 4024 then br else (if j = 4023 then ge else (if j = 4022 then g else w_sc w j)))))))) := rfl
theorem gy_ar : w_ar (gyW w sm g ge br io ti hh su te) = w_ar w := rfl
theorem gy_smr : w_sm (gyW w sm g ge br io ti hh su te) = sm := rfl
theorem gy_22 : s_sc (gyW w sm g ge br io ti hh su te) 4022 x = gyW w sm x ge br io ti hh su te := by simp -implicitDefEqProofs only [gyW, n_scsc, n_scS (show 4022 < 4023 by decide), n_scS (show 4022 < 4024 by decide), n_scS (show 4022 < 4025 by decide), n_scS (show 4022 < 4045 by decide), n_scS (show 4022 < 4046 by decide), n_scS (show 4022 < 4047 by decide), n_scS (show 4022 < 4048 by decide)]
theorem gy_23 : s_sc (gyW w sm g ge br io ti hh su te) 4023 x = gyW w sm g x br io ti hh su te := by simp -implicitDefEqProofs only [gyW, n_scsc, n_scS (show 4023 < 4024 by decide), n_scS (show 4023 < 4025 by decide), n_scS (show 4023 < 4045 by decide), n_scS (show 4023 < 4046 by decide), n_scS (show 4023 < 4047 by decide), n_scS (show 4023 < 4048 by decide)]
theorem gy_24 : s_sc (gyW w sm g ge br io ti hh su te) 4024 x = gyW w sm g ge x io ti hh su te := by simp -implicitDefEqProofs only [gyW, n_scsc, n_scS (show 4024 < 4025 by decide), n_scS (show 4024 < 4045 by decide), n_scS (show 4024 < 4046 by decide), n_scS (show 4024 < 4047 by decide), n_scS (show 4024 < 4048 by decide)]
theorem gy_25 : s_sc (gyW w sm g ge br io ti hh su te) 4025 x = gyW w sm g ge br x ti hh su te := by simp -implicitDefEqProofs only [gyW, n_scsc, n_scS (show 4025 < 4045 by decide), n_scS (show 4025 < 4046 by decide), n_scS (show 4025 < 4047 by decide), n_scS (show 4025 < 4048 by decide)]
theorem gy_45 : s_sc (gyW w sm g ge br io ti hh su te) 4045 x = gyW w sm g ge br io x hh su te := by simp -implicitDefEqProofs only [gyW, n_scsc, n_scS (show 4045 < 4046 by decide), n_scS (show 4045 < 4047 by decide), n_scS (show 4045 < 4048 by decide)]
theorem gy_46 : s_sc (gyW w sm g ge br io ti hh su te) 4046 x = gyW w sm g ge br io ti x su te := by simp -implicitDefEqProofs only [gyW, n_scsc, n_scS (show 4046 < 4047 by decide), n_scS (show 4046 < 4048 by decide)]
theorem gy_47 : s_sc (gyW w sm g ge br io ti hh su te) 4047 x = gyW w sm g ge br io ti hh x te := by simp -implicitDefEqProofs only [gyW, n_scsc, n_scS (show 4047 < 4048 by decide)]
theorem gy_48 : s_sc (gyW w sm g ge br io ti hh su te) 4048 x = gyW w sm g ge br io ti hh su x := by simp -implicitDefEqProofs only [gyW, n_scsc]
theorem gy_sm : s_sm (gyW w sm g ge br io ti hh su te) sm' = gyW w sm' g ge br io ti hh su te := by simp -implicitDefEqProofs only [gyW, n_smsc, n_smsm]
theorem gy_id : gyW w (w_sm w) (w_sc w 4022) (w_sc w 4023) (w_sc w 4024) (w_sc w 4025) (w_sc w 4045) (w_sc w 4046) (w_sc w 4047) (w_sc w 4048) = w := by
  have e : ∀ j : Nat, s_sc w j (w_sc w j) = w := fun j => n_scE
  have e2 : s_sm w (w_sm w) = w := rfl
  rw [gyW, e2, e, e, e, e, e, e, e, e]
theorem ew_gy {O k : Nat} {b : Bool} : eW (gyW w sm g ge br io ti hh su te) O k b = gyW w sm (nI (O + k)) ge (b2i b) io ti hh su te := by rw [eW, gy_22, gy_24]
variable {E : Nat → Int32} {T k d : Nat} {tc tv : qT} {l b : Bool}
/-- what an evaluation wants of the world -/
def gyP (E : Nat → Int32) (T : Nat) (tc tv : qT) (w : wW) : Prop := ET (w_ar w 42) (nI (2400 + T)) 2400 T tc tv ∧ e_ord (w_ar w 42) (w_sc w 4027) (w_sc w 4028) E ∧ T ≤ 400
theorem gyP_e (h : gyP E T tc tv w) : e_P true E 2400 T tc tv (gyW w sm g (nI (2400 + T)) br 1 ti hh su te) := ⟨h.1, rfl, (fun q => by cases q), fun _ => h.2.1⟩
theorem g_code {j : Nat} (h : gyP E T tc tv w) (hj : j ≤ 1000) (hd : 1 ≤ d) : hv_sem d 105 [.ref 40, .int (nI (2400 + j))] (wB (gyW w sm (nI (2400 + k)) (nI (2400 + T)) (b2i b) 1 ti hh su te)) = some (some (.int (tc j)), wB (gyW w sm (nI (2400 + k)) (nI (2400 + T)) (b2i b) 1 ti hh su te)) := by
  have e := m_codeAt (d := d) (k := k) (b := b) hd (gyP_e (sm := sm) (g := 0) (br := 0) (ti := ti) (hh := hh) (su := su) (te := te) h) hj
  rw [ew_gy] at e
  exact e
theorem g_passT {x : Int32} (h : gyP E T tc tv w) (hk : k ≤ 1000) (hc : tc k = x) (hd : 2 ≤ d) : hv_sem d 106 [.ref 40, .int x] (wB (gyW w sm (nI (2400 + k)) (nI (2400 + T)) (b2i b) 1 ti hh su te)) = some (some (.int 1), wB (gyW w sm (nI (2400 + k + 1)) (nI (2400 + T)) (b2i b) 1 ti hh su te)) := by
  have e := m_passT (d := d) (k := k) (b := b) hd (gyP_e (sm := sm) (g := 0) (br := 0) (ti := ti) (hh := hh) (su := su) (te := te) h) hk hc
  rw [ew_gy, ew_gy] at e
  exact e
theorem g_passF {x : Int32} (h : gyP E T tc tv w) (hk : k ≤ 1000) (hc : ¬ tc k = x) (hd : 2 ≤ d) : hv_sem d 106 [.ref 40, .int x] (wB (gyW w sm (nI (2400 + k)) (nI (2400 + T)) (b2i b) 1 ti hh su te)) = some (some (.int 0), wB (gyW w sm (nI (2400 + k)) (nI (2400 + T)) (b2i b) 1 ti hh su te)) := by
  have e := m_passF (d := d) (k := k) (b := b) hd (gyP_e (sm := sm) (g := 0) (br := 0) (ti := ti) (hh := hh) (su := su) (te := te) h) hk hc
  rw [ew_gy] at e
  exact e
theorem g_sum {p k' p' : Nat} {a : vD} (h : gyP E T tc tv w) (hk : k ≤ T) (hq : q_sum true tc tv 8 k p = .inr (k', p', a)) (hd : 31 ≤ d) : hv_sem d 108 [.ref 40, .int (b2i l)] (wB (gyW w sm (nI (2400 + k)) (nI (2400 + T)) (b2i b) 1 ti hh su te)) = some (some (.long (e_val l b (a E))), wB (gyW w sm (nI (2400 + k')) (nI (2400 + T)) (b2i (e_brk l b (a E))) 1 ti hh su te)) := by
  have e := m_sumAll (gyP_e (sm := sm) (g := 0) (br := 0) (ti := ti) (hh := hh) (su := su) (te := te) h) h.2.2 8 d k p k' p' a l b hq (by omega) hk
  rw [ew_gy, ew_gy] at e
  exact e
theorem g_test {p k' p' : Nat} {a : vT} (h : gyP E T tc tv w) (hk : k ≤ T) (hq : q_test true tc tv 8 k p = .inr (k', p', a)) (hd : 43 ≤ d) : ∃ v : Bool, hv_sem d 112 [.ref 40, .int (b2i l)] (wB (gyW w sm (nI (2400 + k)) (nI (2400 + T)) (b2i b) 1 ti hh su te)) = some (some (.int (b2i v)), wB (gyW w sm (nI (2400 + k')) (nI (2400 + T)) (b2i (t_brk l b (a E))) 1 ti hh su te)) ∧ (l = true → b = false → ∀ y, a E = some y → v = y) := by
  obtain ⟨v, e, hv⟩ := m_testAll (gyP_e (sm := sm) (g := 0) (br := 0) (ti := ti) (hh := hh) (su := su) (te := te) h) h.2.2 8 d k p k' p' a l b hq (by omega) hk
  rw [ew_gy, ew_gy] at e
  exact ⟨v, e, hv⟩
end GY
