/-! years: pure; the class's round. -/
abbrev dyX : Type := (Nat → Int32) × Nat × Nat
def dyM (n s : Nat) : Nat := dnx s % n
def dyV (s : Nat) : Nat := dnx (dnx s) % 7
def dyG (law : Option (List qC)) (md : Int32) (n : Nat) (X : dyX) : Bool := pGv law md n X.1 (dyV X.2.1) (dyM n X.2.1)
def dyH (law : Option (List qC)) (md : Int32) (n : Nat) (X : dyX) : Nat → Int32 := if dyG law md n X = true then upd (upd X.1 (49 + dyM n X.2.1) (nI (dyV X.2.1))) (56 + dyM n X.2.1) 0 else X.1
def dyS (law : Option (List qC)) (md : Int32) (n : Nat) (X : dyX) : dyX := (pYr law md (dyH law md n X), dnx (dnx X.2.1), if dyG law md n X = true then X.2.2 + 1 else X.2.2)
def dyK (law : Option (List qC)) (md : Int32) (n : Nat) (H : Nat → Int32) (s : Nat) : Nat → dyX
  | 0 => (H, s, 0)
  | k + 1 => if (dyK law md n H s k).1 63 < 999 then dyS law md n (dyK law md n H s k) else dyK law md n H s k
def drW (w : wW) (F : Nat → Int32) (l : Option Nat) (x : Int32) : wW := s_sc (s_rl (s_rh (s_ar w 22 F) 21) l) 1805 x
section DY
variable {w : wW} {n k s q : Nat} {F G H : Nat → Int32} {d : Nat} {l : Option Nat} {law : Option (List qC)} {md x y : Int32} {z : zX} {X : dyX}
theorem dr_sc : s_sc (zT (drW w F l x) z) 1805 y = zT (drW w F l y) z := by
  rw [zt_osc (by omega)]
  simp -implicitDefEqProofs only [drW, n_scsc]
theorem dr_22 : s_ar (zT (drW w F l x) z) 22 G = zT (drW w G l x) z := by
  rw [zt_oar (by omega) (by omega)]
  simp -implicitDefEqProofs only [drW, n_scar, n_rhar, n_rlar, n_arar]
theorem dr_22' : s_ar (drW w F l x) 22 G = drW w G l x := by
  simp -implicitDefEqProofs only [drW, n_scar, n_rhar, n_rlar, n_arar]
theorem rh_dr : w_rh (zT (drW w F l x) z) = 21 := rfl
theorem dyH_wf (h0 : 0 < n) (h7 : n ≤ 7) (h : hWf n X.1) : hWf n (dyH law md n X) := by
  rw [dyH]
  split
  · exact hWf_give h (Nat.mod_lt _ h0) h7 (Or.inr ⟨_, Nat.mod_lt _ (by omega), rfl⟩)
  · exact h
theorem dyK_ok (h0 : 0 < n) (h7 : n ≤ 7) (h : hWf n H) (hs : s ≤ 1000003) : ∀ k, hWf n (dyK law md n H s k).1 ∧ (dyK law md n H s k).2.1 ≤ 1000003 ∧ (dyK law md n H s k).2.2 ≤ k
  | 0 => ⟨h, hs, Nat.le_refl _⟩
  | k + 1 => by
    obtain ⟨i1, i2, i3⟩ := dyK_ok h0 h7 h hs k
    rw [dyK]
    split
    · refine ⟨pYr_wf h7 (dyH_wf h0 h7 i1), ?_, ?_⟩
      · have := @dnx_lt (dnx (dyK law md n H s k).2.1)
        show dnx (dnx (dyK law md n H s k).2.1) ≤ 1000003
        omega
      · show (if dyG law md n (dyK law md n H s k) = true then (dyK law md n H s k).2.2 + 1 else (dyK law md n H s k).2.2) ≤ k + 1
        split <;> omega
    · exact ⟨i1, i2, by omega⟩
theorem dyK_stay (h : ¬ (dyK law md n H s k).1 63 < 999) : ∀ r, dyK law md n H s (k + r) = dyK law md n H s k
  | 0 => rfl
  | r + 1 => by
    have e := dyK_stay h r
    rw [show k + (r + 1) = k + r + 1 from rfl, dyK, e, if_neg h]
theorem hA_dyH (h : hA n F X.1) : hA n (if dyG law md n X = true then upd (upd F (49 + dyM n X.2.1) (nI (dyV X.2.1))) (56 + dyM n X.2.1) 0 else F) (dyH law md n X) := by
  rw [dyH]
  split
  · exact hA_upd2 h
  · exact h
set_option maxHeartbeats 400000 in
theorem v_dyParts (h0 : 0 < n) (h7 : n ≤ 7) (hwf : hWf n X.1) (hl : ∀ F x, lawV (drW w F l x) law) (hk : lOk law) (h1 : hA n F X.1) (h64 : F 64 = md) (h65 : F 65 = nI n) (hs : X.2.1 ≤ 1000003) (hd : 7 ≤ d) (z : zX) : ∃ (G : Nat → Int32) (z1 z2 : zX), hv_sem d 250 [.ref 18, .int (nI n)] (wB (zT (drW w F l (nI X.2.1)) z)) = some (some (.int (nI (dyM n X.2.1))), wB (zT (drW w F l (nI (dnx X.2.1))) z)) ∧ hv_sem d 250 [.ref 18, .int 7] (wB (zT (drW w F l (nI (dnx X.2.1))) z)) = some (some (.int (nI (dyV X.2.1))), wB (zT (drW w F l (nI (dnx (dnx X.2.1)))) z)) ∧ hv_sem d 283 [.ref 10, .int (nI (dyV X.2.1)), .int (nI (dyM n X.2.1))] (wB (zT (drW w F l (nI (dnx (dnx X.2.1)))) z)) = some (some (.int (if dyG law md n X = true then 0 else -3)), wB (zT (drW w F l (nI (dnx (dnx X.2.1)))) z1)) ∧ hv_sem d 219 [.ref 21, .int (nI (dyM n X.2.1)), .int (nI (dyV X.2.1))] (wB (zT (drW w F l (nI (dnx (dnx X.2.1)))) z1)) = some (none, wB (zT (drW w (upd (upd F (49 + dyM n X.2.1) (nI (dyV X.2.1))) (56 + dyM n X.2.1) 0) l (nI (dnx (dnx X.2.1)))) z1)) ∧ hv_sem d 286 [.ref 10] (wB (zT (drW w (if dyG law md n X = true then upd (upd F (49 + dyM n X.2.1) (nI (dyV X.2.1))) (56 + dyM n X.2.1) 0 else F) l (nI (dnx (dnx X.2.1)))) z1)) = some (none, wB (zT (drW w G l (nI (dnx (dnx X.2.1)))) z2)) ∧ hA n G (dyS law md n X).1 ∧ G 64 = md ∧ G 65 = nI n := by
  obtain ⟨H, s, g⟩ := X
  replace h1 : hA n F H := h1
  replace hwf : hWf n H := hwf
  replace hs : s ≤ 1000003 := hs
  have hs21 : hsOk 21 22 := Or.inr (Or.inr ⟨rfl, rfl⟩)
  have e1 := v_draw (w := zT (drW w F l (nI s)) z) (s := s) rfl hs h0 h7 (d := d) (by omega)
  rw [dr_sc] at e1
  have b1 := @dnx_lt s
  have e2 := v_draw (w := zT (drW w F l (nI (dnx s))) z) (s := dnx s) (n := 7) rfl (by omega) (by omega) (by omega) (d := d) (by omega)
  rw [dr_sc] at e2
  have hm : dyM n s < n := Nat.mod_lt _ h0
  have hv : dyV s < 7 := Nat.mod_lt _ (by omega)
  have hAv : askV (drW w F l (nI (dnx (dnx s)))) 21 22 law md n H := ⟨hs21, rfl, hl _ _, h1, h64, h7, hk⟩
  obtain ⟨z1, e3⟩ := v_refG hAv h65 hv hm (z := z) (d := d) (by omega)
  have e4 := hs_setVow (w := zT (drW w F l (nI (dnx (dnx s)))) z1) (x := nI (dyV s)) hs21 (show dyM n s < 7 by omega) (d := d) (by omega)
  rw [show w_ar (zT (drW w F l (nI (dnx (dnx s)))) z1) 22 = F from rfl, dr_22] at e4
  have hH := hA_dyH (law := law) (md := md) (X := (H, s, g)) h1
  have hW := dyH_wf (law := law) (md := md) (X := (H, s, g)) h0 h7 hwf
  have g64 : (if dyG law md n (H, s, g) = true then upd (upd F (49 + dyM n s) (nI (dyV s))) (56 + dyM n s) 0 else F) 64 = md := by
    split
    · rw [upd_ne (by omega), upd_ne (by omega), h64]
    · exact h64
  have g65 : (if dyG law md n (H, s, g) = true then upd (upd F (49 + dyM n s) (nI (dyV s))) (56 + dyM n s) 0 else F) 65 = nI n := by
    split
    · rw [upd_ne (by omega), upd_ne (by omega), h65]
    · exact h65
  replace hH : hA n (if dyG law md n (H, s, g) = true then upd (upd F (49 + dyM n s) (nI (dyV s))) (56 + dyM n s) 0 else F) (dyH law md n (H, s, g)) := hH
  obtain ⟨K, hK⟩ : ∃ K, K = (if dyG law md n (H, s, g) = true then upd (upd F (49 + dyM n s) (nI (dyV s))) (56 + dyM n s) 0 else F) := ⟨_, rfl⟩
  rw [← hK] at g64 g65 hH
  obtain ⟨z2, G, e5, p1, p2, p3⟩ := v_passYear (w := drW w K l (nI (dnx (dnx s)))) hs21 rfl (hl _ _) g64 g65 h7 (hWf_hA hW hH) (d := d) (by omega) z1
  rw [dr_22'] at e5
  replace p1 : hA n G (pYr law md K) := p1
  have p4 := hA_trans p1 (pYr_cg (law := law) (md := md) h7 hH)
  subst hK
  exact ⟨G, z1, z2, e1, e2, e3, e4, e5, p4, p2, p3⟩
set_option maxHeartbeats 400000 in
theorem v_dyStep {l6 l7 : Option Value} {x2 : Int32} (h0 : 0 < n) (h7 : n ≤ 7) (hwf : hWf n X.1) (hl : ∀ F x, lawV (drW w F l x) law) (hk : lOk law) (h1 : hA n F X.1) (h64 : F 64 = md) (h65 : F 65 = nI n) (hs : X.2.1 ≤ 1000003) (hkq : k < q) (hq : q ≤ 100) (hg : X.2.2 ≤ k) (hy : X.1 63 < 999) (hd : 7 ≤ d) (z : zX) : ∃ (G : Nat → Int32) (z2 : zX) (m v : Option Value), hl_Paper_drawYears_0 (hv_step hv_cm hv_vk hv_dv hv_ft 0 0 (some .int) (hv_sem d)) ([some (.ref 18), some (.ref 1), some (.int x2), some (.int (nI q)), some (.int (nI X.2.2)), some (.int (nI k)), l6, l7], [], wB (zT (drW w F l (nI X.2.1)) z), 0, 0) = some (.inl (1, [some (.ref 18), some (.ref 1), some (.int x2), some (.int (nI q)), some (.int (nI (dyS law md n X).2.2)), some (.int (nI (k + 1))), m, v], [], wB (zT (drW w G l (nI (dyS law md n X).2.1)) z2), 0, 0)) ∧ hA n G (dyS law md n X).1 ∧ G 64 = md ∧ G 65 = nI n := by
  obtain ⟨G, z1, z2, e1, e2, e3, e4, e5, p1, p2, p3⟩ := v_dyParts (w := w) h0 h7 hwf hl hk h1 h64 h65 hs (d := d) hd z
  have hs21 : hsOk 21 22 := Or.inr (Or.inr ⟨rfl, rfl⟩)
  have ey := hs_year (w := zT (drW w F l (nI X.2.1)) z) hs21 (d := d) (by omega)
  rw [show w_ar (zT (drW w F l (nI X.2.1)) z) 22 63 = F 63 from rfl, h1.2] at ey
  have em := hs_monks (w := zT (drW w F l (nI X.2.1)) z) hs21 (d := d) (by omega)
  rw [show w_ar (zT (drW w F l (nI X.2.1)) z) 22 65 = F 65 from rfl, h65] at em
  refine ⟨G, z2, some (.int (nI (dyM n X.2.1))), some (.int (nI (dyV X.2.1))), ?_, p1, p2, p3⟩
  clear p1 p2 p3 h1 hl hwf h64 h65
  rw [show (dyS law md n X).2.1 = dnx (dnx X.2.1) from rfl, show (dyS law md n X).2.2 = if dyG law md n X = true then X.2.2 + 1 else X.2.2 from rfl]
  generalize dyM n X.2.1 = m at *
  generalize dyV X.2.1 = v at *
  generalize X.1 63 = yr at *
  generalize X.2.2 = g at *
  cases hG : dyG law md n X
  · rw [hG, if_neg (by decide)] at e3 e5
    rw [if_neg (by decide)]
    generalize zT (drW w F l (nI X.2.1)) z = u0 at *
    generalize zT (drW w F l (nI (dnx X.2.1))) z = u1 at *
    generalize zT (drW w F l (nI (dnx (dnx X.2.1)))) z = u2 at *
    generalize zT (drW w F l (nI (dnx (dnx X.2.1)))) z1 = u3 at *
    generalize zT (drW w G l (nI (dnx (dnx X.2.1)))) z2 = u5 at *
    simp -implicitDefEqProofs (disch := first | assumption | omega) [r_cons, r_nil, k_seq, k_blk, k_s0, k_s1, k_sr, k_sn, k_si, k_b0, k_b1, k_br, k_bn, k_bi, k_fr, k_fi, k_fn, k_l0, k_l1, k_l2, k_lr, k_ln, k_li, hv_nx, rc_none, hv_cmp, k_w0, k_wi, k_wr, k_wl, k_wn, k_wt, k_in0, k_ini, k_inr, k_inl, k_inn, k_int, k_nb0, k_nb1, k_nbi, k_ni, k_fi32, k_fb0, k_fb1, k_fbb, k_nbb, hv_st1, hv_st2, hv_k1, hv_ft, k_le, -Int32.not_lt, -Int32.not_le, gl_0, gl_1, gl_2, gl_3, gl_4, gl_5, gl_6, gl_7, gl_8, gl_9, gl_10, gl_11, gl_12, sl_0, sl_1, sl_2, sl_3, sl_4, sl_5, sl_6, sl_7, sl_8, sl_9, sl_10, sl_11, sl_12, st_iconst, st_bipush, st_ldc, st_aconst_null, st_iload, st_lload, st_aload, st_istore, st_astore, st_lstore, st_iinc, st_iadd, st_isub, st_imul, st_iand, st_ior, st_ishl, st_ishr, st_iushr, st_idiv, st_irem, st_ineg, st_ladd, st_lsub, st_lmul, st_ldiv, st_lrem, st_lcmp, st_i2l, st_l2i, st_i2b, st_dup, st_dup2, st_pop, st_goto, st_ifCond, st_if_icmp, st_ifnull, st_ifnonnull, st_tableswitch, st_iaload, st_baload, st_laload, st_aaload, st_iastore, st_bastore, st_lastore, st_aastore, st_arraylength, st_new, st_newarray, st_anewarray, st_invokespecial, st_invokestatic, st_swap, st_checkcast, st_invokeinterface, st_ireturn, st_lreturn, st_areturn, st_return_, nI_add, nI_1, nI_lits, nI_litr, nI_litm, nI_litn, pk_mul, a_clamp, a_subl, a_lsub, a_sub, a_lt, a_ltl, a_llt, a_eq, a_eql, a_leq, a_m1, a_m1r, a_neg, a_lt0, a_0lt, a_eq0, a_0eq, lg_cmp_gt, lg_cmp_lt, lg_cmp_eq, n_lt1, n_lt0, n_le1, n_le0, n_eq1, n_eq0, g_sc_sc, g_sc_ar, g_sc_sm, g_sc_rh, g_sc_rl, g_sc_la, g_sc_im, g_sc_dy, g_ar_sc, g_ar_ar, g_ar_sm, g_ar_rh, g_ar_rl, g_ar_la, g_ar_im, g_ar_dy, g_sm_sc, g_sm_ar, g_sm_sm, g_sm_rh, g_sm_rl, g_sm_la, g_sm_im, g_sm_dy, g_rh_sc, g_rh_ar, g_rh_sm, g_rh_rh, g_rh_rl, g_rh_la, g_rh_im, g_rh_dy, g_rl_sc, g_rl_ar, g_rl_sm, g_rl_rh, g_rl_rl, g_rl_la, g_rl_im, g_rl_dy, g_la_sc, g_la_ar, g_la_sm, g_la_rh, g_la_rl, g_la_la, g_la_im, g_la_dy, g_im_sc, g_im_ar, g_im_sm, g_im_rh, g_im_rl, g_im_la, g_im_im, g_im_dy, g_dy_sc, g_dy_ar, g_dy_sm, g_dy_rh, g_dy_rl, g_dy_la, g_dy_im, g_dy_dy, n_scsc, n_arar, n_scar, n_scS, n_arS, n_smsc, n_smar, n_smsm, n_rhsc, n_rhar, n_rhrh, n_rlsc, n_rlar, n_rlrl, n_lasc, n_laar, n_lala, n_imsc, n_imar, n_imim, n_dysc, n_dyar, n_dydy, hl_Paper_drawYears_0, cm_213, vk_213, cm_219, vk_219, cm_225, vk_225, cm_229, vk_229, cm_250, vk_250, cm_274, vk_274, cm_283, vk_283, cm_286, vk_286, cm_296, vk_296, rc_0, rc_1, rc_2, wr_3, wr_4, wr_5, wr_6, wr_7, rc_8, wr_9, rc_10, wr_11, rc_12, wr_13, wr_14, wr_15, wr_16, wr_17, rc_18, rc_19, wr_20, rc_21, wr_22, wr_23, rc_24, rc_25, wr_26, wr_27, rc_28, wr_29, wr_30, rc_31, wr_32, wr_33, wr_34, rc_35, rc_36, wr_37, wr_38, wr_39, gf_0, gf_1, gf_2, gf_3, gf_4, gf_5, gf_6, gf_7, gf_8, gf_9, gf_10, gf_11, pf_11, gf_12, pf_12, gf_13, pf_13, gf_14, pf_14, gf_100, gf_101, gf_102, gf_103, gf_104, pf_104, gf_105, pf_105, gf_106, pf_106, gf_200, ww_3, ww_4, ww_5, ww_6, ww_7, gf_800, gf_801, pf_801, gf_802, pf_802, ww_9, gf_1000, gf_1001, gf_1002, pf_rh, gf_1003, pf_rl, pf_rn, ww_11, gf_1200, gf_1201, gf_1202, gf_1203, gf_1204, gf_1205, pf_1205, gf_1206, pf_1206, ww_13, ww_14, ww_15, ww_16, ww_17, gf_1800, gf_1801, gf_1802, gf_1803, gf_1804, gf_1805, pf_1805, gf_1900, ww_20, gf_2100, ww_22, ww_23, gf_2400, gf_2401, gf_2402, gf_2403, gf_2404, gf_2405, gf_2406, gf_2407, gf_2408, pf_2408, gf_2409, pf_2409, gf_2410, pf_2410, gf_2500, gf_2501, gf_2502, pf_2502, ww_26, ww_27, gf_2800, gf_2801, gf_2802, pf_2802, ww_29, ww_30, gf_3100, ww_32, ww_33, ww_34, gf_3500, gf_3501, gf_3502, pf_3502, gf_3503, pf_3503, gf_3504, pf_3504, gf_3505, pf_3505, gf_3506, pf_3506, gf_3507, pf_3507, gf_3508, pf_3508, gf_3600, gf_3601, gf_3602, pf_3602, gf_3603, pf_3603, ww_37, ww_38, ww_39, tyX3, tyX5, tyX7, tyX9, ey, em, hy, e1, e2, e3, e5]
  · rw [hG, if_pos rfl] at e3 e5
    rw [if_pos rfl]
    generalize zT (drW w F l (nI X.2.1)) z = u0 at *
    generalize zT (drW w F l (nI (dnx X.2.1))) z = u1 at *
    generalize zT (drW w F l (nI (dnx (dnx X.2.1)))) z = u2 at *
    generalize zT (drW w F l (nI (dnx (dnx X.2.1)))) z1 = u3 at *
    generalize zT (drW w (upd (upd F (49 + m) (nI v)) (56 + m) 0) l (nI (dnx (dnx X.2.1)))) z1 = u4 at *
    generalize zT (drW w G l (nI (dnx (dnx X.2.1)))) z2 = u5 at *
    simp -implicitDefEqProofs (disch := first | assumption | omega) [r_cons, r_nil, k_seq, k_blk, k_s0, k_s1, k_sr, k_sn, k_si, k_b0, k_b1, k_br, k_bn, k_bi, k_fr, k_fi, k_fn, k_l0, k_l1, k_l2, k_lr, k_ln, k_li, hv_nx, rc_none, hv_cmp, k_w0, k_wi, k_wr, k_wl, k_wn, k_wt, k_in0, k_ini, k_inr, k_inl, k_inn, k_int, k_nb0, k_nb1, k_nbi, k_ni, k_fi32, k_fb0, k_fb1, k_fbb, k_nbb, hv_st1, hv_st2, hv_k1, hv_ft, k_le, -Int32.not_lt, -Int32.not_le, gl_0, gl_1, gl_2, gl_3, gl_4, gl_5, gl_6, gl_7, gl_8, gl_9, gl_10, gl_11, gl_12, sl_0, sl_1, sl_2, sl_3, sl_4, sl_5, sl_6, sl_7, sl_8, sl_9, sl_10, sl_11, sl_12, st_iconst, st_bipush, st_ldc, st_aconst_null, st_iload, st_lload, st_aload, st_istore, st_astore, st_lstore, st_iinc, st_iadd, st_isub, st_imul, st_iand, st_ior, st_ishl, st_ishr, st_iushr, st_idiv, st_irem, st_ineg, st_ladd, st_lsub, st_lmul, st_ldiv, st_lrem, st_lcmp, st_i2l, st_l2i, st_i2b, st_dup, st_dup2, st_pop, st_goto, st_ifCond, st_if_icmp, st_ifnull, st_ifnonnull, st_tableswitch, st_iaload, st_baload, st_laload, st_aaload, st_iastore, st_bastore, st_lastore, st_aastore, st_arraylength, st_new, st_newarray, st_anewarray, st_invokespecial, st_invokestatic, st_swap, st_checkcast, st_invokeinterface, st_ireturn, st_lreturn, st_areturn, st_return_, nI_add, nI_1, nI_lits, nI_litr, nI_litm, nI_litn, pk_mul, a_clamp, a_subl, a_lsub, a_sub, a_lt, a_ltl, a_llt, a_eq, a_eql, a_leq, a_m1, a_m1r, a_neg, a_lt0, a_0lt, a_eq0, a_0eq, lg_cmp_gt, lg_cmp_lt, lg_cmp_eq, n_lt1, n_lt0, n_le1, n_le0, n_eq1, n_eq0, g_sc_sc, g_sc_ar, g_sc_sm, g_sc_rh, g_sc_rl, g_sc_la, g_sc_im, g_sc_dy, g_ar_sc, g_ar_ar, g_ar_sm, g_ar_rh, g_ar_rl, g_ar_la, g_ar_im, g_ar_dy, g_sm_sc, g_sm_ar, g_sm_sm, g_sm_rh, g_sm_rl, g_sm_la, g_sm_im, g_sm_dy, g_rh_sc, g_rh_ar, g_rh_sm, g_rh_rh, g_rh_rl, g_rh_la, g_rh_im, g_rh_dy, g_rl_sc, g_rl_ar, g_rl_sm, g_rl_rh, g_rl_rl, g_rl_la, g_rl_im, g_rl_dy, g_la_sc, g_la_ar, g_la_sm, g_la_rh, g_la_rl, g_la_la, g_la_im, g_la_dy, g_im_sc, g_im_ar, g_im_sm, g_im_rh, g_im_rl, g_im_la, g_im_im, g_im_dy, g_dy_sc, g_dy_ar, g_dy_sm, g_dy_rh, g_dy_rl, g_dy_la, g_dy_im, g_dy_dy, n_scsc, n_arar, n_scar, n_scS, n_arS, n_smsc, n_smar, n_smsm, n_rhsc, n_rhar, n_rhrh, n_rlsc, n_rlar, n_rlrl, n_lasc, n_laar, n_lala, n_imsc, n_imar, n_imim, n_dysc, n_dyar, n_dydy, hl_Paper_drawYears_0, cm_213, vk_213, cm_219, vk_219, cm_225, vk_225, cm_229, vk_229, cm_250, vk_250, cm_274, vk_274, cm_283, vk_283, cm_286, vk_286, cm_296, vk_296, rc_0, rc_1, rc_2, wr_3, wr_4, wr_5, wr_6, wr_7, rc_8, wr_9, rc_10, wr_11, rc_12, wr_13, wr_14, wr_15, wr_16, wr_17, rc_18, rc_19, wr_20, rc_21, wr_22, wr_23, rc_24, rc_25, wr_26, wr_27, rc_28, wr_29, wr_30, rc_31, wr_32, wr_33, wr_34, rc_35, rc_36, wr_37, wr_38, wr_39, gf_0, gf_1, gf_2, gf_3, gf_4, gf_5, gf_6, gf_7, gf_8, gf_9, gf_10, gf_11, pf_11, gf_12, pf_12, gf_13, pf_13, gf_14, pf_14, gf_100, gf_101, gf_102, gf_103, gf_104, pf_104, gf_105, pf_105, gf_106, pf_106, gf_200, ww_3, ww_4, ww_5, ww_6, ww_7, gf_800, gf_801, pf_801, gf_802, pf_802, ww_9, gf_1000, gf_1001, gf_1002, pf_rh, gf_1003, pf_rl, pf_rn, ww_11, gf_1200, gf_1201, gf_1202, gf_1203, gf_1204, gf_1205, pf_1205, gf_1206, pf_1206, ww_13, ww_14, ww_15, ww_16, ww_17, gf_1800, gf_1801, gf_1802, gf_1803, gf_1804, gf_1805, pf_1805, gf_1900, ww_20, gf_2100, ww_22, ww_23, gf_2400, gf_2401, gf_2402, gf_2403, gf_2404, gf_2405, gf_2406, gf_2407, gf_2408, pf_2408, gf_2409, pf_2409, gf_2410, pf_2410, gf_2500, gf_2501, gf_2502, pf_2502, ww_26, ww_27, gf_2800, gf_2801, gf_2802, pf_2802, ww_29, ww_30, gf_3100, ww_32, ww_33, ww_34, gf_3500, gf_3501, gf_3502, pf_3502, gf_3503, pf_3503, gf_3504, pf_3504, gf_3505, pf_3505, gf_3506, pf_3506, gf_3507, pf_3507, gf_3508, pf_3508, gf_3600, gf_3601, gf_3602, pf_3602, gf_3603, pf_3603, ww_37, ww_38, ww_39, tyX3, tyX5, tyX7, tyX9, ey, em, hy, e1, e2, e3, e4, e5]
end DY
