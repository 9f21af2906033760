/-! Orders: a deed of both, whatever its numbers. -/
def smI (x : Int32) : Int32 := if x < 0 ∨ 1000000 < x then -1 else x
def oOut (kd n : Nat) (x y : Int32) : Prop := (kd = 0 ∧ ((∀ v, v < 7 → ¬ x = nI v) ∨ ∀ m, m < n → ¬ y = nI m)) ∨ (kd = 2 ∧ ((∀ m, m < n → ¬ x = nI m) ∨ ∀ m, m < n → ¬ y = nI m)) ∨ (kd = 1 ∧ ∀ m, m < n → ¬ x = nI m)
/-- the reference's side of a deed -/
def dR (d kd : Nat) (x y : Int32) (Sf : (Nat → Int32) → aTr → aS) (H : Nat → Int32) (tr : aTr) (o : Option (Int32 × (Nat → Int32) × aTr)) : Prop := match o with
  | none => ∀ w2, mAll w2 (Sf H tr) → ∃ k w3, hv_sem d (oMm kd) (.ref 40 :: oAs kd x y) (wB w2) = some (some (.int k), wB w3) ∧ (k = -1 ∨ k = -2 ∨ k = -3) ∧ mAll w3 (Sf H tr) ∧ fV w2 w3 ∧ fX w2 w3
  | some z => rg 2000 z.1 ∧ aAll (Sf z.2.1 z.2.2) ∧ ∀ w2, mAll w2 (Sf H tr) → ∃ w3, hv_sem d (oMm kd) (.ref 40 :: oAs kd x y) (wB w2) = some (some (.int z.1), wB w3) ∧ mAll w3 (Sf z.2.1 z.2.2) ∧ fV w2 w3 ∧ fX w2 w3
/-- the class's -/
def dC (w : wW) (d kd : Nat) (x y : Int32) (Sf : (Nat → Int32) → aTr → aS) (H : Nat → Int32) (tr : aTr) (o : Option (Int32 × (Nat → Int32) × aTr)) : Prop := match o with
  | none => ∃ k w1, hv_sem d (oVm kd) (.ref 24 :: oAs kd x y) (wB w) = some (some (.int k), wB w1) ∧ (k = -1 ∨ k = -2 ∨ k = -3) ∧ vAll w1 (Sf H tr) ∧ fM w w1 ∧ fD w w1
  | some z => ∃ w1, hv_sem d (oVm kd) (.ref 24 :: oAs kd x y) (wB w) = some (some (.int z.1), wB w1) ∧ vAll w1 (Sf z.2.1 z.2.2) ∧ fM w w1 ∧ fD w w1 ∧ aAll (Sf z.2.1 z.2.2)
section OF
variable {w : wW} {d n kd : Nat} {H : Nat → Int32} {md fc x y : Int32} {sn : Nat} {ls : List (List qC)} {sv ss : Nat → Int32} {im : Nat → Option aW} {tr : aTr} {tp : (Nat → Nat) × Nat} {sc : aSc} {dr : Nat × (Nat → Int32)}
theorem sm_out (h : ¬ smI x = x) : (∀ v, v < 7 → ¬ x = nI v) ∧ ∀ v, v < 7 → ¬ smI x = nI v := by
  have h1 : x < 0 ∨ 1000000 < x := Classical.byContradiction (fun q => h (by rw [smI, if_neg q]))
  have h2 : smI x = -1 := by rw [smI, if_pos h1]
  refine ⟨fun v hv q => ?_, fun v hv q => ?_⟩
  · rw [q] at h1
    rcases h1 with h1 | h1
    · rw [a_lt0 (by omega)] at h1
      exact h1
    · rw [show (1000000 : Int32) = nI 1000000 from rfl, a_lt (by omega) (by omega)] at h1
      omega
  · rw [h2] at q
    exact m1_ne (by omega) q
theorem d_all (x y : Int32) (hk : kd ≤ 3) : deedOk 50 (oVm kd) (oMm kd) (oAs kd x y) := by
  rcases (show kd = 0 ∨ kd = 1 ∨ kd = 2 ∨ kd = 3 by omega) with rfl | rfl | rfl | rfl
  · exact deed_mono (d_give x y) (by omega)
  · exact deed_mono (d_lay x) (by omega)
  · exact deed_mono (d_swap x y) (by omega)
  · exact d_pass
set_option maxHeartbeats 400000 in
theorem d_neg (h : oOut kd n x y) (hvm : vMain w (H, md, n, ls, fc, sn, sv, ss)) (ha : aOk (H, md, n, ls, fc, sn, sv, ss)) (hd : 50 ≤ d) : ∃ k w1, hv_sem d (oVm kd) (.ref 24 :: oAs kd x y) (wB w) = some (some (.int k), wB w1) ∧ (k = -1 ∨ k = -2) := by
  obtain ⟨d, rfl⟩ : ∃ e, d = e + 1 := ⟨d - 1, by omega⟩
  have hs2 : hsOk 2 3 := Or.inl ⟨rfl, rfl⟩
  obtain ⟨v1, v2, v3, v4, v5, v6, v7, v8⟩ := hvm
  obtain ⟨a1, a2, a3, a4, a5, a6, a7, a8⟩ := ha
  obtain ⟨l, e1, h1⟩ := v_lawOf (x := fc) v4 v8 a2 a3 (d := d) (by omega)
  have e2 := v_take (w := w) (h := 2) (l := l) (d := d) (by omega)
  obtain ⟨z, hz⟩ : ∃ z : zX, zT (s_rl (s_rh w 2) l) z = s_rl (s_rh w 2) l := ⟨_, zt_id⟩
  rcases h with ⟨rfl, h⟩ | ⟨rfl, h⟩ | ⟨rfl, h⟩
  · rcases n_cut x 7 (by omega) with ⟨v, hv, rfl⟩ | hx
    · have hy : ∀ m, m < n → ¬ y = nI m := by
        rcases h with h | h
        · exact absurd rfl (h v hv)
        · exact h
      have e3 := v_refG2 (w := s_rl (s_rh w 2) l) (z := z) (hc := 2) (rc := 3) hs2 rfl v3 a1 hv hy (d := d) (by omega)
      rw [hz] at e3
      refine ⟨-2, s_rl (s_rh w 2) l, ?_, Or.inr rfl⟩
      show hv_sem (d + 1) 203 [.ref 24, .int (nI v), .int y] (wB w) = _
      simp -implicitDefEqProofs (disch := first | assumption | omega) [r_cons, r_nil, k_seq, k_blk, k_s0, k_s1, k_sr, k_sn, k_si, k_b0, k_b1, k_br, k_bn, k_bi, k_fr, k_fi, k_fn, k_l0, k_l1, k_l2, k_lr, k_ln, k_li, hv_nx, rc_none, hv_cmp, k_w0, k_wi, k_wr, k_wl, k_wn, k_wt, k_in0, k_ini, k_inr, k_inl, k_inn, k_int, k_nb0, k_nb1, k_nbi, k_ni, k_fi32, k_fb0, k_fb1, k_fbb, k_nbb, hv_st1, hv_st2, hv_k1, hv_ft, k_le, -Int32.not_lt, -Int32.not_le, gl_0, gl_1, gl_2, gl_3, gl_4, gl_5, gl_6, gl_7, gl_8, gl_9, gl_10, gl_11, gl_12, sl_0, sl_1, sl_2, sl_3, sl_4, sl_5, sl_6, sl_7, sl_8, sl_9, sl_10, sl_11, sl_12, st_iconst, st_bipush, st_ldc, st_aconst_null, st_iload, st_lload, st_aload, st_istore, st_astore, st_lstore, st_iinc, st_iadd, st_isub, st_imul, st_iand, st_ior, st_ishl, st_ishr, st_iushr, st_idiv, st_irem, st_ineg, st_ladd, st_lsub, st_lmul, st_ldiv, st_lrem, st_lcmp, st_i2l, st_l2i, st_i2b, st_dup, st_dup2, st_pop, st_goto, st_ifCond, st_if_icmp, st_ifnull, st_ifnonnull, st_tableswitch, st_iaload, st_baload, st_laload, st_aaload, st_iastore, st_bastore, st_lastore, st_aastore, st_arraylength, st_new, st_newarray, st_anewarray, st_invokespecial, st_invokestatic, st_swap, st_checkcast, st_invokeinterface, st_ireturn, st_lreturn, st_areturn, st_return_, nI_add, nI_1, nI_lits, nI_litr, nI_litm, nI_litn, pk_mul, a_clamp, a_subl, a_lsub, a_sub, a_lt, a_ltl, a_llt, a_eq, a_eql, a_leq, a_m1, a_m1r, a_neg, a_lt0, a_0lt, a_eq0, a_0eq, lg_cmp_gt, lg_cmp_lt, lg_cmp_eq, n_lt1, n_lt0, n_le1, n_le0, n_eq1, n_eq0, g_sc_sc, g_sc_ar, g_sc_sm, g_sc_rh, g_sc_rl, g_sc_la, g_sc_im, g_sc_dy, g_ar_sc, g_ar_ar, g_ar_sm, g_ar_rh, g_ar_rl, g_ar_la, g_ar_im, g_ar_dy, g_sm_sc, g_sm_ar, g_sm_sm, g_sm_rh, g_sm_rl, g_sm_la, g_sm_im, g_sm_dy, g_rh_sc, g_rh_ar, g_rh_sm, g_rh_rh, g_rh_rl, g_rh_la, g_rh_im, g_rh_dy, g_rl_sc, g_rl_ar, g_rl_sm, g_rl_rh, g_rl_rl, g_rl_la, g_rl_im, g_rl_dy, g_la_sc, g_la_ar, g_la_sm, g_la_rh, g_la_rl, g_la_la, g_la_im, g_la_dy, g_im_sc, g_im_ar, g_im_sm, g_im_rh, g_im_rl, g_im_la, g_im_im, g_im_dy, g_dy_sc, g_dy_ar, g_dy_sm, g_dy_rh, g_dy_rl, g_dy_la, g_dy_im, g_dy_dy, n_scsc, n_arar, n_scar, n_scS, n_arS, n_smsc, n_smar, n_smsm, n_rhsc, n_rhar, n_rhrh, n_rlsc, n_rlar, n_rlrl, n_lasc, n_laar, n_lala, n_imsc, n_imar, n_imim, n_dysc, n_dyar, n_dydy, sem_Deeds_giveVow, hb_Deeds_giveVow, cm_216, vk_216, cm_219, vk_219, cm_274, vk_274, cm_283, vk_283, cm_291, vk_291, cm_296, vk_296, rc_0, rc_1, rc_2, wr_3, wr_4, wr_5, wr_6, wr_7, rc_8, wr_9, rc_10, wr_11, rc_12, wr_13, wr_14, wr_15, wr_16, wr_17, rc_18, rc_19, wr_20, rc_21, wr_22, wr_23, rc_24, rc_25, wr_26, wr_27, rc_28, wr_29, wr_30, rc_31, wr_32, wr_33, wr_34, rc_35, rc_36, wr_37, wr_38, wr_39, gf_0, gf_1, gf_2, gf_3, gf_4, gf_5, gf_6, gf_7, gf_8, gf_9, gf_10, gf_11, pf_11, gf_12, pf_12, gf_13, pf_13, gf_14, pf_14, gf_100, gf_101, gf_102, gf_103, gf_104, pf_104, gf_105, pf_105, gf_106, pf_106, gf_200, ww_3, ww_4, ww_5, ww_6, ww_7, gf_800, gf_801, pf_801, gf_802, pf_802, ww_9, gf_1000, gf_1001, gf_1002, pf_rh, gf_1003, pf_rl, pf_rn, ww_11, gf_1200, gf_1201, gf_1202, gf_1203, gf_1204, gf_1205, pf_1205, gf_1206, pf_1206, ww_13, ww_14, ww_15, ww_16, ww_17, gf_1800, gf_1801, gf_1802, gf_1803, gf_1804, gf_1805, pf_1805, gf_1900, ww_20, gf_2100, ww_22, ww_23, gf_2400, gf_2401, gf_2402, gf_2403, gf_2404, gf_2405, gf_2406, gf_2407, gf_2408, pf_2408, gf_2409, pf_2409, gf_2410, pf_2410, gf_2500, gf_2501, gf_2502, pf_2502, ww_26, ww_27, gf_2800, gf_2801, gf_2802, pf_2802, ww_29, ww_30, gf_3100, ww_32, ww_33, ww_34, gf_3500, gf_3501, gf_3502, pf_3502, gf_3503, pf_3503, gf_3504, pf_3504, gf_3505, pf_3505, gf_3506, pf_3506, gf_3507, pf_3507, gf_3508, pf_3508, gf_3600, gf_3601, gf_3602, pf_3602, gf_3603, pf_3603, ww_37, ww_38, ww_39, tyX2, tyX3, tyX7, tyX8, tyX9, v5, e1, e2, e3]
    · have e3 := v_refG1 (w := s_rl (s_rh w 2) l) (z := z) (y := y) hx (d := d) (by omega)
      rw [hz] at e3
      refine ⟨-1, s_rl (s_rh w 2) l, ?_, Or.inl rfl⟩
      show hv_sem (d + 1) 203 [.ref 24, .int x, .int y] (wB w) = _
      simp -implicitDefEqProofs (disch := first | assumption | omega) [r_cons, r_nil, k_seq, k_blk, k_s0, k_s1, k_sr, k_sn, k_si, k_b0, k_b1, k_br, k_bn, k_bi, k_fr, k_fi, k_fn, k_l0, k_l1, k_l2, k_lr, k_ln, k_li, hv_nx, rc_none, hv_cmp, k_w0, k_wi, k_wr, k_wl, k_wn, k_wt, k_in0, k_ini, k_inr, k_inl, k_inn, k_int, k_nb0, k_nb1, k_nbi, k_ni, k_fi32, k_fb0, k_fb1, k_fbb, k_nbb, hv_st1, hv_st2, hv_k1, hv_ft, k_le, -Int32.not_lt, -Int32.not_le, gl_0, gl_1, gl_2, gl_3, gl_4, gl_5, gl_6, gl_7, gl_8, gl_9, gl_10, gl_11, gl_12, sl_0, sl_1, sl_2, sl_3, sl_4, sl_5, sl_6, sl_7, sl_8, sl_9, sl_10, sl_11, sl_12, st_iconst, st_bipush, st_ldc, st_aconst_null, st_iload, st_lload, st_aload, st_istore, st_astore, st_lstore, st_iinc, st_iadd, st_isub, st_imul, st_iand, st_ior, st_ishl, st_ishr, st_iushr, st_idiv, st_irem, st_ineg, st_ladd, st_lsub, st_lmul, st_ldiv, st_lrem, st_lcmp, st_i2l, st_l2i, st_i2b, st_dup, st_dup2, st_pop, st_goto, st_ifCond, st_if_icmp, st_ifnull, st_ifnonnull, st_tableswitch, st_iaload, st_baload, st_laload, st_aaload, st_iastore, st_bastore, st_lastore, st_aastore, st_arraylength, st_new, st_newarray, st_anewarray, st_invokespecial, st_invokestatic, st_swap, st_checkcast, st_invokeinterface, st_ireturn, st_lreturn, st_areturn, st_return_, nI_add, nI_1, nI_lits, nI_litr, nI_litm, nI_litn, pk_mul, a_clamp, a_subl, a_lsub, a_sub, a_lt, a_ltl, a_llt, a_eq, a_eql, a_leq, a_m1, a_m1r, a_neg, a_lt0, a_0lt, a_eq0, a_0eq, lg_cmp_gt, lg_cmp_lt, lg_cmp_eq, n_lt1, n_lt0, n_le1, n_le0, n_eq1, n_eq0, g_sc_sc, g_sc_ar, g_sc_sm, g_sc_rh, g_sc_rl, g_sc_la, g_sc_im, g_sc_dy, g_ar_sc, g_ar_ar, g_ar_sm, g_ar_rh, g_ar_rl, g_ar_la, g_ar_im, g_ar_dy, g_sm_sc, g_sm_ar, g_sm_sm, g_sm_rh, g_sm_rl, g_sm_la, g_sm_im, g_sm_dy, g_rh_sc, g_rh_ar, g_rh_sm, g_rh_rh, g_rh_rl, g_rh_la, g_rh_im, g_rh_dy, g_rl_sc, g_rl_ar, g_rl_sm, g_rl_rh, g_rl_rl, g_rl_la, g_rl_im, g_rl_dy, g_la_sc, g_la_ar, g_la_sm, g_la_rh, g_la_rl, g_la_la, g_la_im, g_la_dy, g_im_sc, g_im_ar, g_im_sm, g_im_rh, g_im_rl, g_im_la, g_im_im, g_im_dy, g_dy_sc, g_dy_ar, g_dy_sm, g_dy_rh, g_dy_rl, g_dy_la, g_dy_im, g_dy_dy, n_scsc, n_arar, n_scar, n_scS, n_arS, n_smsc, n_smar, n_smsm, n_rhsc, n_rhar, n_rhrh, n_rlsc, n_rlar, n_rlrl, n_lasc, n_laar, n_lala, n_imsc, n_imar, n_imim, n_dysc, n_dyar, n_dydy, sem_Deeds_giveVow, hb_Deeds_giveVow, cm_216, vk_216, cm_219, vk_219, cm_274, vk_274, cm_283, vk_283, cm_291, vk_291, cm_296, vk_296, rc_0, rc_1, rc_2, wr_3, wr_4, wr_5, wr_6, wr_7, rc_8, wr_9, rc_10, wr_11, rc_12, wr_13, wr_14, wr_15, wr_16, wr_17, rc_18, rc_19, wr_20, rc_21, wr_22, wr_23, rc_24, rc_25, wr_26, wr_27, rc_28, wr_29, wr_30, rc_31, wr_32, wr_33, wr_34, rc_35, rc_36, wr_37, wr_38, wr_39, gf_0, gf_1, gf_2, gf_3, gf_4, gf_5, gf_6, gf_7, gf_8, gf_9, gf_10, gf_11, pf_11, gf_12, pf_12, gf_13, pf_13, gf_14, pf_14, gf_100, gf_101, gf_102, gf_103, gf_104, pf_104, gf_105, pf_105, gf_106, pf_106, gf_200, ww_3, ww_4, ww_5, ww_6, ww_7, gf_800, gf_801, pf_801, gf_802, pf_802, ww_9, gf_1000, gf_1001, gf_1002, pf_rh, gf_1003, pf_rl, pf_rn, ww_11, gf_1200, gf_1201, gf_1202, gf_1203, gf_1204, gf_1205, pf_1205, gf_1206, pf_1206, ww_13, ww_14, ww_15, ww_16, ww_17, gf_1800, gf_1801, gf_1802, gf_1803, gf_1804, gf_1805, pf_1805, gf_1900, ww_20, gf_2100, ww_22, ww_23, gf_2400, gf_2401, gf_2402, gf_2403, gf_2404, gf_2405, gf_2406, gf_2407, gf_2408, pf_2408, gf_2409, pf_2409, gf_2410, pf_2410, gf_2500, gf_2501, gf_2502, pf_2502, ww_26, ww_27, gf_2800, gf_2801, gf_2802, pf_2802, ww_29, ww_30, gf_3100, ww_32, ww_33, ww_34, gf_3500, gf_3501, gf_3502, pf_3502, gf_3503, pf_3503, gf_3504, pf_3504, gf_3505, pf_3505, gf_3506, pf_3506, gf_3507, pf_3507, gf_3508, pf_3508, gf_3600, gf_3601, gf_3602, pf_3602, gf_3603, pf_3603, ww_37, ww_38, ww_39, tyX2, tyX3, tyX7, tyX8, tyX9, v5, e1, e2, e3]
  · by_cases q : x = y
    · subst q
      have e3 := v_refS1 (w := s_rl (s_rh w 2) l) (z := z) (y := x) (d := d) (by omega)
      rw [hz] at e3
      refine ⟨-1, s_rl (s_rh w 2) l, ?_, Or.inl rfl⟩
      show hv_sem (d + 1) 205 [.ref 24, .int x, .int x] (wB w) = _
      simp -implicitDefEqProofs (disch := first | assumption | omega) [r_cons, r_nil, k_seq, k_blk, k_s0, k_s1, k_sr, k_sn, k_si, k_b0, k_b1, k_br, k_bn, k_bi, k_fr, k_fi, k_fn, k_l0, k_l1, k_l2, k_lr, k_ln, k_li, hv_nx, rc_none, hv_cmp, k_w0, k_wi, k_wr, k_wl, k_wn, k_wt, k_in0, k_ini, k_inr, k_inl, k_inn, k_int, k_nb0, k_nb1, k_nbi, k_ni, k_fi32, k_fb0, k_fb1, k_fbb, k_nbb, hv_st1, hv_st2, hv_k1, hv_ft, k_le, -Int32.not_lt, -Int32.not_le, gl_0, gl_1, gl_2, gl_3, gl_4, gl_5, gl_6, gl_7, gl_8, gl_9, gl_10, gl_11, gl_12, sl_0, sl_1, sl_2, sl_3, sl_4, sl_5, sl_6, sl_7, sl_8, sl_9, sl_10, sl_11, sl_12, st_iconst, st_bipush, st_ldc, st_aconst_null, st_iload, st_lload, st_aload, st_istore, st_astore, st_lstore, st_iinc, st_iadd, st_isub, st_imul, st_iand, st_ior, st_ishl, st_ishr, st_iushr, st_idiv, st_irem, st_ineg, st_ladd, st_lsub, st_lmul, st_ldiv, st_lrem, st_lcmp, st_i2l, st_l2i, st_i2b, st_dup, st_dup2, st_pop, st_goto, st_ifCond, st_if_icmp, st_ifnull, st_ifnonnull, st_tableswitch, st_iaload, st_baload, st_laload, st_aaload, st_iastore, st_bastore, st_lastore, st_aastore, st_arraylength, st_new, st_newarray, st_anewarray, st_invokespecial, st_invokestatic, st_swap, st_checkcast, st_invokeinterface, st_ireturn, st_lreturn, st_areturn, st_return_, nI_add, nI_1, nI_lits, nI_litr, nI_litm, nI_litn, pk_mul, a_clamp, a_subl, a_lsub, a_sub, a_lt, a_ltl, a_llt, a_eq, a_eql, a_leq, a_m1, a_m1r, a_neg, a_lt0, a_0lt, a_eq0, a_0eq, lg_cmp_gt, lg_cmp_lt, lg_cmp_eq, n_lt1, n_lt0, n_le1, n_le0, n_eq1, n_eq0, g_sc_sc, g_sc_ar, g_sc_sm, g_sc_rh, g_sc_rl, g_sc_la, g_sc_im, g_sc_dy, g_ar_sc, g_ar_ar, g_ar_sm, g_ar_rh, g_ar_rl, g_ar_la, g_ar_im, g_ar_dy, g_sm_sc, g_sm_ar, g_sm_sm, g_sm_rh, g_sm_rl, g_sm_la, g_sm_im, g_sm_dy, g_rh_sc, g_rh_ar, g_rh_sm, g_rh_rh, g_rh_rl, g_rh_la, g_rh_im, g_rh_dy, g_rl_sc, g_rl_ar, g_rl_sm, g_rl_rh, g_rl_rl, g_rl_la, g_rl_im, g_rl_dy, g_la_sc, g_la_ar, g_la_sm, g_la_rh, g_la_rl, g_la_la, g_la_im, g_la_dy, g_im_sc, g_im_ar, g_im_sm, g_im_rh, g_im_rl, g_im_la, g_im_im, g_im_dy, g_dy_sc, g_dy_ar, g_dy_sm, g_dy_rh, g_dy_rl, g_dy_la, g_dy_im, g_dy_dy, n_scsc, n_arar, n_scar, n_scS, n_arS, n_smsc, n_smar, n_smsm, n_rhsc, n_rhar, n_rhrh, n_rlsc, n_rlar, n_rlrl, n_lasc, n_laar, n_lala, n_imsc, n_imar, n_imim, n_dysc, n_dyar, n_dydy, sem_Deeds_swapVows, hb_Deeds_swapVows, cm_216, vk_216, cm_218, vk_218, cm_219, vk_219, cm_274, vk_274, cm_284, vk_284, cm_291, vk_291, cm_296, vk_296, rc_0, rc_1, rc_2, wr_3, wr_4, wr_5, wr_6, wr_7, rc_8, wr_9, rc_10, wr_11, rc_12, wr_13, wr_14, wr_15, wr_16, wr_17, rc_18, rc_19, wr_20, rc_21, wr_22, wr_23, rc_24, rc_25, wr_26, wr_27, rc_28, wr_29, wr_30, rc_31, wr_32, wr_33, wr_34, rc_35, rc_36, wr_37, wr_38, wr_39, gf_0, gf_1, gf_2, gf_3, gf_4, gf_5, gf_6, gf_7, gf_8, gf_9, gf_10, gf_11, pf_11, gf_12, pf_12, gf_13, pf_13, gf_14, pf_14, gf_100, gf_101, gf_102, gf_103, gf_104, pf_104, gf_105, pf_105, gf_106, pf_106, gf_200, ww_3, ww_4, ww_5, ww_6, ww_7, gf_800, gf_801, pf_801, gf_802, pf_802, ww_9, gf_1000, gf_1001, gf_1002, pf_rh, gf_1003, pf_rl, pf_rn, ww_11, gf_1200, gf_1201, gf_1202, gf_1203, gf_1204, gf_1205, pf_1205, gf_1206, pf_1206, ww_13, ww_14, ww_15, ww_16, ww_17, gf_1800, gf_1801, gf_1802, gf_1803, gf_1804, gf_1805, pf_1805, gf_1900, ww_20, gf_2100, ww_22, ww_23, gf_2400, gf_2401, gf_2402, gf_2403, gf_2404, gf_2405, gf_2406, gf_2407, gf_2408, pf_2408, gf_2409, pf_2409, gf_2410, pf_2410, gf_2500, gf_2501, gf_2502, pf_2502, ww_26, ww_27, gf_2800, gf_2801, gf_2802, pf_2802, ww_29, ww_30, gf_3100, ww_32, ww_33, ww_34, gf_3500, gf_3501, gf_3502, pf_3502, gf_3503, pf_3503, gf_3504, pf_3504, gf_3505, pf_3505, gf_3506, pf_3506, gf_3507, pf_3507, gf_3508, pf_3508, gf_3600, gf_3601, gf_3602, pf_3602, gf_3603, pf_3603, ww_37, ww_38, ww_39, tyX2, tyX3, tyX7, tyX8, tyX9, v5, e1, e2, e3]
    · have e3 := v_refS2 (w := s_rl (s_rh w 2) l) (z := z) (hc := 2) (rc := 3) hs2 rfl v3 a1 q h (d := d) (by omega)
      rw [hz] at e3
      refine ⟨-2, s_rl (s_rh w 2) l, ?_, Or.inr rfl⟩
      show hv_sem (d + 1) 205 [.ref 24, .int x, .int y] (wB w) = _
      simp -implicitDefEqProofs (disch := first | assumption | omega) [r_cons, r_nil, k_seq, k_blk, k_s0, k_s1, k_sr, k_sn, k_si, k_b0, k_b1, k_br, k_bn, k_bi, k_fr, k_fi, k_fn, k_l0, k_l1, k_l2, k_lr, k_ln, k_li, hv_nx, rc_none, hv_cmp, k_w0, k_wi, k_wr, k_wl, k_wn, k_wt, k_in0, k_ini, k_inr, k_inl, k_inn, k_int, k_nb0, k_nb1, k_nbi, k_ni, k_fi32, k_fb0, k_fb1, k_fbb, k_nbb, hv_st1, hv_st2, hv_k1, hv_ft, k_le, -Int32.not_lt, -Int32.not_le, gl_0, gl_1, gl_2, gl_3, gl_4, gl_5, gl_6, gl_7, gl_8, gl_9, gl_10, gl_11, gl_12, sl_0, sl_1, sl_2, sl_3, sl_4, sl_5, sl_6, sl_7, sl_8, sl_9, sl_10, sl_11, sl_12, st_iconst, st_bipush, st_ldc, st_aconst_null, st_iload, st_lload, st_aload, st_istore, st_astore, st_lstore, st_iinc, st_iadd, st_isub, st_imul, st_iand, st_ior, st_ishl, st_ishr, st_iushr, st_idiv, st_irem, st_ineg, st_ladd, st_lsub, st_lmul, st_ldiv, st_lrem, st_lcmp, st_i2l, st_l2i, st_i2b, st_dup, st_dup2, st_pop, st_goto, st_ifCond, st_if_icmp, st_ifnull, st_ifnonnull, st_tableswitch, st_iaload, st_baload, st_laload, st_aaload, st_iastore, st_bastore, st_lastore, st_aastore, st_arraylength, st_new, st_newarray, st_anewarray, st_invokespecial, st_invokestatic, st_swap, st_checkcast, st_invokeinterface, st_ireturn, st_lreturn, st_areturn, st_return_, nI_add, nI_1, nI_lits, nI_litr, nI_litm, nI_litn, pk_mul, a_clamp, a_subl, a_lsub, a_sub, a_lt, a_ltl, a_llt, a_eq, a_eql, a_leq, a_m1, a_m1r, a_neg, a_lt0, a_0lt, a_eq0, a_0eq, lg_cmp_gt, lg_cmp_lt, lg_cmp_eq, n_lt1, n_lt0, n_le1, n_le0, n_eq1, n_eq0, g_sc_sc, g_sc_ar, g_sc_sm, g_sc_rh, g_sc_rl, g_sc_la, g_sc_im, g_sc_dy, g_ar_sc, g_ar_ar, g_ar_sm, g_ar_rh, g_ar_rl, g_ar_la, g_ar_im, g_ar_dy, g_sm_sc, g_sm_ar, g_sm_sm, g_sm_rh, g_sm_rl, g_sm_la, g_sm_im, g_sm_dy, g_rh_sc, g_rh_ar, g_rh_sm, g_rh_rh, g_rh_rl, g_rh_la, g_rh_im, g_rh_dy, g_rl_sc, g_rl_ar, g_rl_sm, g_rl_rh, g_rl_rl, g_rl_la, g_rl_im, g_rl_dy, g_la_sc, g_la_ar, g_la_sm, g_la_rh, g_la_rl, g_la_la, g_la_im, g_la_dy, g_im_sc, g_im_ar, g_im_sm, g_im_rh, g_im_rl, g_im_la, g_im_im, g_im_dy, g_dy_sc, g_dy_ar, g_dy_sm, g_dy_rh, g_dy_rl, g_dy_la, g_dy_im, g_dy_dy, n_scsc, n_arar, n_scar, n_scS, n_arS, n_smsc, n_smar, n_smsm, n_rhsc, n_rhar, n_rhrh, n_rlsc, n_rlar, n_rlrl, n_lasc, n_laar, n_lala, n_imsc, n_imar, n_imim, n_dysc, n_dyar, n_dydy, sem_Deeds_swapVows, hb_Deeds_swapVows, cm_216, vk_216, cm_218, vk_218, cm_219, vk_219, cm_274, vk_274, cm_284, vk_284, cm_291, vk_291, cm_296, vk_296, rc_0, rc_1, rc_2, wr_3, wr_4, wr_5, wr_6, wr_7, rc_8, wr_9, rc_10, wr_11, rc_12, wr_13, wr_14, wr_15, wr_16, wr_17, rc_18, rc_19, wr_20, rc_21, wr_22, wr_23, rc_24, rc_25, wr_26, wr_27, rc_28, wr_29, wr_30, rc_31, wr_32, wr_33, wr_34, rc_35, rc_36, wr_37, wr_38, wr_39, gf_0, gf_1, gf_2, gf_3, gf_4, gf_5, gf_6, gf_7, gf_8, gf_9, gf_10, gf_11, pf_11, gf_12, pf_12, gf_13, pf_13, gf_14, pf_14, gf_100, gf_101, gf_102, gf_103, gf_104, pf_104, gf_105, pf_105, gf_106, pf_106, gf_200, ww_3, ww_4, ww_5, ww_6, ww_7, gf_800, gf_801, pf_801, gf_802, pf_802, ww_9, gf_1000, gf_1001, gf_1002, pf_rh, gf_1003, pf_rl, pf_rn, ww_11, gf_1200, gf_1201, gf_1202, gf_1203, gf_1204, gf_1205, pf_1205, gf_1206, pf_1206, ww_13, ww_14, ww_15, ww_16, ww_17, gf_1800, gf_1801, gf_1802, gf_1803, gf_1804, gf_1805, pf_1805, gf_1900, ww_20, gf_2100, ww_22, ww_23, gf_2400, gf_2401, gf_2402, gf_2403, gf_2404, gf_2405, gf_2406, gf_2407, gf_2408, pf_2408, gf_2409, pf_2409, gf_2410, pf_2410, gf_2500, gf_2501, gf_2502, pf_2502, ww_26, ww_27, gf_2800, gf_2801, gf_2802, pf_2802, ww_29, ww_30, gf_3100, ww_32, ww_33, ww_34, gf_3500, gf_3501, gf_3502, pf_3502, gf_3503, pf_3503, gf_3504, pf_3504, gf_3505, pf_3505, gf_3506, pf_3506, gf_3507, pf_3507, gf_3508, pf_3508, gf_3600, gf_3601, gf_3602, pf_3602, gf_3603, pf_3603, ww_37, ww_38, ww_39, tyX2, tyX3, tyX7, tyX8, tyX9, v5, e1, e2, e3]
  · have ei := hs_isMonkF hs2 v3 a1 h (d := d) (by omega)
    refine ⟨-2, w, ?_, Or.inr rfl⟩
    show hv_sem (d + 1) 204 [.ref 24, .int x] (wB w) = _
    simp -implicitDefEqProofs (disch := first | assumption | omega) [r_cons, r_nil, k_seq, k_blk, k_s0, k_s1, k_sr, k_sn, k_si, k_b0, k_b1, k_br, k_bn, k_bi, k_fr, k_fi, k_fn, k_l0, k_l1, k_l2, k_lr, k_ln, k_li, hv_nx, rc_none, hv_cmp, k_w0, k_wi, k_wr, k_wl, k_wn, k_wt, k_in0, k_ini, k_inr, k_inl, k_inn, k_int, k_nb0, k_nb1, k_nbi, k_ni, k_fi32, k_fb0, k_fb1, k_fbb, k_nbb, hv_st1, hv_st2, hv_k1, hv_ft, k_le, -Int32.not_lt, -Int32.not_le, gl_0, gl_1, gl_2, gl_3, gl_4, gl_5, gl_6, gl_7, gl_8, gl_9, gl_10, gl_11, gl_12, sl_0, sl_1, sl_2, sl_3, sl_4, sl_5, sl_6, sl_7, sl_8, sl_9, sl_10, sl_11, sl_12, st_iconst, st_bipush, st_ldc, st_aconst_null, st_iload, st_lload, st_aload, st_istore, st_astore, st_lstore, st_iinc, st_iadd, st_isub, st_imul, st_iand, st_ior, st_ishl, st_ishr, st_iushr, st_idiv, st_irem, st_ineg, st_ladd, st_lsub, st_lmul, st_ldiv, st_lrem, st_lcmp, st_i2l, st_l2i, st_i2b, st_dup, st_dup2, st_pop, st_goto, st_ifCond, st_if_icmp, st_ifnull, st_ifnonnull, st_tableswitch, st_iaload, st_baload, st_laload, st_aaload, st_iastore, st_bastore, st_lastore, st_aastore, st_arraylength, st_new, st_newarray, st_anewarray, st_invokespecial, st_invokestatic, st_swap, st_checkcast, st_invokeinterface, st_ireturn, st_lreturn, st_areturn, st_return_, nI_add, nI_1, nI_lits, nI_litr, nI_litm, nI_litn, pk_mul, a_clamp, a_subl, a_lsub, a_sub, a_lt, a_ltl, a_llt, a_eq, a_eql, a_leq, a_m1, a_m1r, a_neg, a_lt0, a_0lt, a_eq0, a_0eq, lg_cmp_gt, lg_cmp_lt, lg_cmp_eq, n_lt1, n_lt0, n_le1, n_le0, n_eq1, n_eq0, g_sc_sc, g_sc_ar, g_sc_sm, g_sc_rh, g_sc_rl, g_sc_la, g_sc_im, g_sc_dy, g_ar_sc, g_ar_ar, g_ar_sm, g_ar_rh, g_ar_rl, g_ar_la, g_ar_im, g_ar_dy, g_sm_sc, g_sm_ar, g_sm_sm, g_sm_rh, g_sm_rl, g_sm_la, g_sm_im, g_sm_dy, g_rh_sc, g_rh_ar, g_rh_sm, g_rh_rh, g_rh_rl, g_rh_la, g_rh_im, g_rh_dy, g_rl_sc, g_rl_ar, g_rl_sm, g_rl_rh, g_rl_rl, g_rl_la, g_rl_im, g_rl_dy, g_la_sc, g_la_ar, g_la_sm, g_la_rh, g_la_rl, g_la_la, g_la_im, g_la_dy, g_im_sc, g_im_ar, g_im_sm, g_im_rh, g_im_rl, g_im_la, g_im_im, g_im_dy, g_dy_sc, g_dy_ar, g_dy_sm, g_dy_rh, g_dy_rl, g_dy_la, g_dy_im, g_dy_dy, n_scsc, n_arar, n_scar, n_scS, n_arS, n_smsc, n_smar, n_smsm, n_rhsc, n_rhar, n_rhrh, n_rlsc, n_rlar, n_rlrl, n_lasc, n_laar, n_lala, n_imsc, n_imar, n_imim, n_dysc, n_dyar, n_dydy, sem_Deeds_layDown, hb_Deeds_layDown, cm_214, vk_214, cm_218, vk_218, cm_219, vk_219, cm_291, vk_291, rc_0, rc_1, rc_2, wr_3, wr_4, wr_5, wr_6, wr_7, rc_8, wr_9, rc_10, wr_11, rc_12, wr_13, wr_14, wr_15, wr_16, wr_17, rc_18, rc_19, wr_20, rc_21, wr_22, wr_23, rc_24, rc_25, wr_26, wr_27, rc_28, wr_29, wr_30, rc_31, wr_32, wr_33, wr_34, rc_35, rc_36, wr_37, wr_38, wr_39, gf_0, gf_1, gf_2, gf_3, gf_4, gf_5, gf_6, gf_7, gf_8, gf_9, gf_10, gf_11, pf_11, gf_12, pf_12, gf_13, pf_13, gf_14, pf_14, gf_100, gf_101, gf_102, gf_103, gf_104, pf_104, gf_105, pf_105, gf_106, pf_106, gf_200, ww_3, ww_4, ww_5, ww_6, ww_7, gf_800, gf_801, pf_801, gf_802, pf_802, ww_9, gf_1000, gf_1001, gf_1002, pf_rh, gf_1003, pf_rl, pf_rn, ww_11, gf_1200, gf_1201, gf_1202, gf_1203, gf_1204, gf_1205, pf_1205, gf_1206, pf_1206, ww_13, ww_14, ww_15, ww_16, ww_17, gf_1800, gf_1801, gf_1802, gf_1803, gf_1804, gf_1805, pf_1805, gf_1900, ww_20, gf_2100, ww_22, ww_23, gf_2400, gf_2401, gf_2402, gf_2403, gf_2404, gf_2405, gf_2406, gf_2407, gf_2408, pf_2408, gf_2409, pf_2409, gf_2410, pf_2410, gf_2500, gf_2501, gf_2502, pf_2502, ww_26, ww_27, gf_2800, gf_2801, gf_2802, pf_2802, ww_29, ww_30, gf_3100, ww_32, ww_33, ww_34, gf_3500, gf_3501, gf_3502, pf_3502, gf_3503, pf_3503, gf_3504, pf_3504, gf_3505, pf_3505, gf_3506, pf_3506, gf_3507, pf_3507, gf_3508, pf_3508, gf_3600, gf_3601, gf_3602, pf_3602, gf_3603, pf_3603, ww_37, ww_38, ww_39, tyX2, tyX3, tyX8, ei]
theorem rg_neg {r : Int32} (h : rg 2000 r) : ¬ (r = -1 ∨ r = -2 ∨ r = -3) := by
  obtain ⟨k, hk, rfl⟩ := h
  have hi : (nI k).toInt = k := nI_toInt (by omega)
  rintro (q | q | q)
  · rw [q, show (-1 : Int32).toInt = -1 from rfl] at hi
    omega
  · rw [q, show (-2 : Int32).toInt = -2 from rfl] at hi
    omega
  · rw [q, show (-3 : Int32).toInt = -3 from rfl] at hi
    omega
theorem d_pair (hk : kd ≤ 3) (hv : vAll w ((H, md, n, ls, fc, sn, sv, ss), im, tr, tp, sc, dr)) (ha : aAll ((H, md, n, ls, fc, sn, sv, ss), im, tr, tp, sc, dr)) (hd : 50 ≤ d) (x y : Int32) : ∃ o, dC w d kd x y (fun H tr => ((H, md, n, ls, fc, sn, sv, ss), im, tr, tp, sc, dr)) H tr o ∧ dR d kd (smI x) (smI y) (fun H tr => ((H, md, n, ls, fc, sn, sv, ss), im, tr, tp, sc, dr)) H tr o := by
  obtain ⟨r, H', tr', ⟨w1, e1, f1, f2, f3⟩, hr, ha', hor⟩ := d_all (kd := kd) x y hk d hd w H md n ls fc sn sv ss im tr tp sc dr hv ha
  have hvm : vMain w (H, md, n, ls, fc, sn, sv, ss) := by
    obtain ⟨un, TK, TH⟩ := tr
    obtain ⟨y, t⟩ := tp
    obtain ⟨dn, DH⟩ := dr
    exact hv.1
  have ham : aOk (H, md, n, ls, fc, sn, sv, ss) := by
    obtain ⟨un, TK, TH⟩ := tr
    obtain ⟨y, t⟩ := tp
    obtain ⟨dn, DH⟩ := dr
    exact ha.1
  have h7 : n ≤ 7 := ham.1
  by_cases same : oAs kd (smI x) (smI y) = oAs kd x y
  · rcases hor with hg | ⟨hn, rfl, rfl⟩
    · refine ⟨some (r, H', tr'), ⟨w1, e1, f1, f2, f3, ha'⟩, hg, ha', fun w2 hm => ?_⟩
      rw [same]
      exact hr w2 hm
    · refine ⟨none, ⟨r, w1, e1, hn, f1, f2, f3⟩, fun w2 hm => ?_⟩
      rw [same]
      obtain ⟨w3, g1, g2, g3, g4⟩ := hr w2 hm
      exact ⟨r, w3, g1, hn, g2, g3, g4⟩
  · have hout : oOut kd n x y ∧ oOut kd n (smI x) (smI y) := by
      have hx : ¬ kd = 3 := fun q => same (by rw [q]; rfl)
      by_cases k1 : kd = 1
      · subst k1
        have hs : ¬ smI x = x := fun q => same (by rw [oAs, oAs, if_neg (by omega), if_pos rfl, if_neg (by omega), if_pos rfl, q])
        obtain ⟨g1, g2⟩ := sm_out hs
        exact ⟨Or.inr (Or.inr ⟨rfl, fun m hm => g1 m (by omega)⟩), Or.inr (Or.inr ⟨rfl, fun m hm => g2 m (by omega)⟩)⟩
      · by_cases hs : smI x = x
        · have hs2 : ¬ smI y = y := fun q => same (by rw [hs, q])
          obtain ⟨g1, g2⟩ := sm_out hs2
          rcases (show kd = 0 ∨ kd = 2 by omega) with rfl | rfl
          · exact ⟨Or.inl ⟨rfl, Or.inr (fun m hm => g1 m (by omega))⟩, Or.inl ⟨rfl, Or.inr (fun m hm => g2 m (by omega))⟩⟩
          · exact ⟨Or.inr (Or.inl ⟨rfl, Or.inr (fun m hm => g1 m (by omega))⟩), Or.inr (Or.inl ⟨rfl, Or.inr (fun m hm => g2 m (by omega))⟩)⟩
        · obtain ⟨g1, g2⟩ := sm_out hs
          rcases (show kd = 0 ∨ kd = 2 by omega) with rfl | rfl
          · exact ⟨Or.inl ⟨rfl, Or.inl g1⟩, Or.inl ⟨rfl, Or.inl g2⟩⟩
          · exact ⟨Or.inr (Or.inl ⟨rfl, Or.inl (fun m hm => g1 m (by omega))⟩), Or.inr (Or.inl ⟨rfl, Or.inl (fun m hm => g2 m (by omega))⟩)⟩
    obtain ⟨k, w9, e9, hk9⟩ := d_neg hout.1 hvm ham hd
    have er : r = k := by
      rw [e1] at e9
      have e9' := congrArg (fun z => z.map Prod.fst) e9
      cases e9'
      rfl
    obtain ⟨r2, H2, tr2, ⟨w4, e4, _⟩, hr2, _, hor2⟩ := d_all (kd := kd) (smI x) (smI y) hk d hd w H md n ls fc sn sv ss im tr tp sc dr hv ha
    obtain ⟨k2, w8, e8, hk8⟩ := d_neg hout.2 hvm ham hd
    have er2 : r2 = k2 := by
      rw [e4] at e8
      have e8' := congrArg (fun z => z.map Prod.fst) e8
      cases e8'
      rfl
    have hn1 : r = -1 ∨ r = -2 ∨ r = -3 := by rw [er]; rcases hk9 with h | h <;> simp [h]
    have hn2 : r2 = -1 ∨ r2 = -2 ∨ r2 = -3 := by rw [er2]; rcases hk8 with h | h <;> simp [h]
    rcases hor with hg | ⟨hn, rfl, rfl⟩
    · exact absurd hn1 (rg_neg hg)
    · rcases hor2 with hg2 | ⟨hn2', rfl, rfl⟩
      · exact absurd hn2 (rg_neg hg2)
      · refine ⟨none, ⟨r, w1, e1, hn, f1, f2, f3⟩, fun w2 hm => ?_⟩
        obtain ⟨w3, g1, g2, g3, g4⟩ := hr2 w2 hm
        exact ⟨r2, w3, g1, hn2, g2, g3, g4⟩
end OF
