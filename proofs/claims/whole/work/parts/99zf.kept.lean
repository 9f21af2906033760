/-! kept: pure, and the class's year of one monk. -/
def kpH (law : Option (List qC)) (md : Int32) (H : Nat → Int32) : Nat → Nat → Int32
  | 0 => H
  | k + 1 => pYr law md (kpH law md H k)
def kpP (law : Option (List qC)) (md : Int32) (H : Nat → Int32) (m v : Nat) : Nat → Int64
  | 0 => 1000000000000
  | k + 1 => kpP law md H m v k * (10 - pT law md (kpH law md H k) 3 m v).toInt64 / 10
/-- the sheet agrees with a house for one monk and vow -/
def kpA (m v : Nat) (md : Int32) (F H : Nat → Int32) : Prop := F (7 * m + v) = H (7 * m + v) ∧ F (49 + m) = H (49 + m) ∧ F (56 + m) = H (56 + m) ∧ F 63 = H 63 ∧ F 64 = md
def kpN (law : Option (List qC)) (md : Int32) (m v : Nat) (F : Nat → Int32) : Nat → Int32 := upd (upd (upd F (7 * m + v) (i_max 0 (F (7 * m + v) - pT law md F 0 m v))) (56 + m) (i_min 99 (F (56 + m) + 1))) 63 (F 63 + 1)
section KP
variable {w : wW} {n m v k : Nat} {F G H : Nat → Int32} {d : Nat} {l : Option Nat} {law : Option (List qC)} {md : Int32}
theorem kpH_wf (h7 : n ≤ 7) (h : hWf n H) : ∀ k, hWf n (kpH law md H k)
  | 0 => h
  | k + 1 => pYr_wf h7 (kpH_wf h7 h k)
theorem kpH_s (hm : m < 7) : ∀ k, kpH law md H k (49 + m) = H (49 + m)
  | 0 => rfl
  | k + 1 => (pYr_s hm).trans (kpH_s hm k)
theorem kpA_pT {kd : Nat} (h : kpA m v md F H) : pT law md F kd m v = pT law md H kd m v := pT_cg h.1 h.2.1 h.2.2.1 h.2.2.2.1
theorem kpA_next (hm : m < 7) (hv : v < 7) (h : kpA m v md F H) (hs : H (49 + m) = nI v) : kpA m v md (kpN law md m v F) (pYr law md H) := by
  have e0 := kpA_pT (law := law) (kd := 0) h
  obtain ⟨h1, h2, h3, h4, h5⟩ := h
  refine ⟨?_, ?_, ?_, ?_, ?_⟩
  · rw [pYr_c hm hv, pYc, if_pos hs, kpN, upd_ne (by omega), upd_ne (by omega), u_at, e0, h1]
  · rw [pYr_s hm, kpN, upd_ne (by omega), upd_ne (by omega), upd_ne (by omega), h2]
  · rw [pYr_h hm, pYh, if_neg (by rw [hs]; exact fun q => m1_ne (by omega) q.symm), kpN, upd_ne (by omega), u_at, h3]
  · rw [pYr_y, kpN, u_at, h4]
  · rw [kpN, upd_ne (by omega), upd_ne (by omega), upd_ne (by omega), h5]
theorem zsk_20 {z : zX} : s_ar (zT (skW w F l) z) 20 G = zT (skW w G l) z := by rw [zt_oar (by omega) (by omega), sk_20]
theorem rh_sk {z : zX} : w_rh (zT (skW w F l) z) = 19 := rfl
set_option maxHeartbeats 400000 in
theorem v_passOf (hl : lawV (skW w F l) law) (hm : m < 7) (hv : v < 7) (h64 : F 64 = md) (hd : 5 ≤ d) (z : zX) : ∃ z', hv_sem d 287 [.ref 10, .int (nI m), .int (nI v)] (wB (zT (skW w F l) z)) = some (none, wB (zT (skW w (kpN law md m v F) l) z')) := by
  obtain ⟨d, rfl⟩ : ∃ e, d = e + 1 := ⟨d - 1, by omega⟩
  have hs9 : hsOk 19 20 := Or.inr (Or.inl ⟨rfl, rfl⟩)
  have e1 := hs_hardOf (w := zT (skW w F l) z) hs9 hm hv (d := d) (by omega)
  replace e1 : hv_sem d 216 [.ref 19, .int (nI m), .int (nI v)] (wB (zT (skW w F l) z)) = some (some (.int (F (7 * m + v))), wB (zT (skW w F l) z)) := e1
  obtain ⟨z', e2⟩ := v_ask0 (w := skW w F l) (hc := 19) (rc := 20) (law := law) (md := md) hs9 rfl hl h64 hm hv (kd := 0) (by omega) (d := d) (by omega) z
  replace e2 : hv_sem d 280 [.ref 10, .int 0, .int (nI m), .int (nI v)] (wB (zT (skW w F l) z)) = some (some (.int (pT law md F 0 m v)), wB (zT (skW w F l) z')) := e2
  have e3 := hs_setHard (w := zT (skW w F l) z') (x := i_max 0 (F (7 * m + v) - pT law md F 0 m v)) hs9 hm hv (d := d) (by omega)
  rw [show w_ar (zT (skW w F l) z') 20 = F from rfl, zsk_20] at e3
  generalize hF1 : upd F (7 * m + v) (i_max 0 (F (7 * m + v) - pT law md F 0 m v)) = F1 at *
  have e4 := hs_hold (w := zT (skW w F1 l) z') hs9 hm (d := d) (by omega)
  rw [show w_ar (zT (skW w F1 l) z') 20 = F1 from rfl, zsk_20] at e4
  have f1 : F1 (56 + m) = F (56 + m) := by rw [← hF1, upd_ne (by omega)]
  have f2 : F1 63 = F 63 := by rw [← hF1, upd_ne (by omega)]
  rw [f1] at e4
  generalize hF2 : upd F1 (56 + m) (i_min 99 (F (56 + m) + 1)) = F2 at *
  have f3 : F2 63 = F 63 := by rw [← hF2, upd_ne (by omega), f2]
  have e5 := hs_year (w := zT (skW w F2 l) z') hs9 (d := d) (by omega)
  replace e5 : hv_sem d 225 [.ref 19] (wB (zT (skW w F2 l) z')) = some (some (.int (F2 63)), wB (zT (skW w F2 l) z')) := e5
  rw [f3] at e5
  have e6 := hs_setYear (w := zT (skW w F2 l) z') (x := F 63 + 1) hs9 (d := d) (by omega)
  rw [show w_ar (zT (skW w F2 l) z') 20 = F2 from rfl, zsk_20] at e6
  have hN : kpN law md m v F = upd F2 63 (F 63 + 1) := by rw [kpN, hF1, hF2]
  refine ⟨z', ?_⟩
  rw [hN]
  clear hN hF1 hF2 f1 f2 f3
  generalize pT law md F 0 m v = y1 at *
  generalize upd F2 63 (F 63 + 1) = F3 at *
  simp -implicitDefEqProofs (disch := first | assumption | omega) [r_cons, r_nil, k_seq, k_blk, k_s0, k_s1, k_sr, k_sn, k_si, k_b0, k_b1, k_br, k_bn, k_bi, k_fr, k_fi, k_fn, k_l0, k_l1, k_l2, k_lr, k_ln, k_li, hv_nx, rc_none, hv_cmp, k_w0, k_wi, k_wr, k_wl, k_wn, k_wt, k_in0, k_ini, k_inr, k_inl, k_inn, k_int, k_nb0, k_nb1, k_nbi, k_ni, k_fi32, k_fb0, k_fb1, k_fbb, k_nbb, hv_st1, hv_st2, hv_k1, hv_ft, k_le, -Int32.not_lt, -Int32.not_le, gl_0, gl_1, gl_2, gl_3, gl_4, gl_5, gl_6, gl_7, gl_8, gl_9, gl_10, gl_11, gl_12, sl_0, sl_1, sl_2, sl_3, sl_4, sl_5, sl_6, sl_7, sl_8, sl_9, sl_10, sl_11, sl_12, st_iconst, st_bipush, st_ldc, st_aconst_null, st_iload, st_lload, st_aload, st_istore, st_astore, st_lstore, st_iinc, st_iadd, st_isub, st_imul, st_iand, st_ior, st_ishl, st_ishr, st_iushr, st_idiv, st_irem, st_ineg, st_ladd, st_lsub, st_lmul, st_ldiv, st_lrem, st_lcmp, st_i2l, st_l2i, st_i2b, st_dup, st_dup2, st_pop, st_goto, st_ifCond, st_if_icmp, st_ifnull, st_ifnonnull, st_tableswitch, st_iaload, st_baload, st_laload, st_aaload, st_iastore, st_bastore, st_lastore, st_aastore, st_arraylength, st_new, st_newarray, st_anewarray, st_invokespecial, st_invokestatic, st_swap, st_checkcast, st_invokeinterface, st_ireturn, st_lreturn, st_areturn, st_return_, nI_add, nI_1, nI_lits, nI_litr, nI_litm, nI_litn, pk_mul, a_clamp, a_subl, a_lsub, a_sub, a_lt, a_ltl, a_llt, a_eq, a_eql, a_leq, a_m1, a_m1r, a_neg, a_lt0, a_0lt, a_eq0, a_0eq, lg_cmp_gt, lg_cmp_lt, lg_cmp_eq, n_lt1, n_lt0, n_le1, n_le0, n_eq1, n_eq0, g_sc_sc, g_sc_ar, g_sc_sm, g_sc_rh, g_sc_rl, g_sc_la, g_sc_im, g_sc_dy, g_ar_sc, g_ar_ar, g_ar_sm, g_ar_rh, g_ar_rl, g_ar_la, g_ar_im, g_ar_dy, g_sm_sc, g_sm_ar, g_sm_sm, g_sm_rh, g_sm_rl, g_sm_la, g_sm_im, g_sm_dy, g_rh_sc, g_rh_ar, g_rh_sm, g_rh_rh, g_rh_rl, g_rh_la, g_rh_im, g_rh_dy, g_rl_sc, g_rl_ar, g_rl_sm, g_rl_rh, g_rl_rl, g_rl_la, g_rl_im, g_rl_dy, g_la_sc, g_la_ar, g_la_sm, g_la_rh, g_la_rl, g_la_la, g_la_im, g_la_dy, g_im_sc, g_im_ar, g_im_sm, g_im_rh, g_im_rl, g_im_la, g_im_im, g_im_dy, g_dy_sc, g_dy_ar, g_dy_sm, g_dy_rh, g_dy_rl, g_dy_la, g_dy_im, g_dy_dy, n_scsc, n_arar, n_scar, n_scS, n_arS, n_smsc, n_smar, n_smsm, n_rhsc, n_rhar, n_rhrh, n_rlsc, n_rlar, n_rlrl, n_lasc, n_laar, n_lala, n_imsc, n_imar, n_imim, n_dysc, n_dyar, n_dydy, sem_Rules_passYearOf, hb_Rules_passYearOf, cm_216, vk_216, cm_217, vk_217, cm_221, vk_221, cm_225, vk_225, cm_226, vk_226, cm_280, vk_280, cm_301, vk_301, rc_0, rc_1, rc_2, wr_3, wr_4, wr_5, wr_6, wr_7, rc_8, wr_9, rc_10, wr_11, rc_12, wr_13, wr_14, wr_15, wr_16, wr_17, rc_18, rc_19, wr_20, rc_21, wr_22, wr_23, rc_24, rc_25, wr_26, wr_27, rc_28, wr_29, wr_30, rc_31, wr_32, wr_33, wr_34, rc_35, rc_36, wr_37, wr_38, wr_39, gf_0, gf_1, gf_2, gf_3, gf_4, gf_5, gf_6, gf_7, gf_8, gf_9, gf_10, gf_11, pf_11, gf_12, pf_12, gf_13, pf_13, gf_14, pf_14, gf_100, gf_101, gf_102, gf_103, gf_104, pf_104, gf_105, pf_105, gf_106, pf_106, gf_200, ww_3, ww_4, ww_5, ww_6, ww_7, gf_800, gf_801, pf_801, gf_802, pf_802, ww_9, gf_1000, gf_1001, gf_1002, pf_rh, gf_1003, pf_rl, pf_rn, ww_11, gf_1200, gf_1201, gf_1202, gf_1203, gf_1204, gf_1205, pf_1205, gf_1206, pf_1206, ww_13, ww_14, ww_15, ww_16, ww_17, gf_1800, gf_1801, gf_1802, gf_1803, gf_1804, gf_1805, pf_1805, gf_1900, ww_20, gf_2100, ww_22, ww_23, gf_2400, gf_2401, gf_2402, gf_2403, gf_2404, gf_2405, gf_2406, gf_2407, gf_2408, pf_2408, gf_2409, pf_2409, gf_2410, pf_2410, gf_2500, gf_2501, gf_2502, pf_2502, ww_26, ww_27, gf_2800, gf_2801, gf_2802, pf_2802, ww_29, ww_30, gf_3100, ww_32, ww_33, ww_34, gf_3500, gf_3501, gf_3502, pf_3502, gf_3503, pf_3503, gf_3504, pf_3504, gf_3505, pf_3505, gf_3506, pf_3506, gf_3507, pf_3507, gf_3508, pf_3508, gf_3600, gf_3601, gf_3602, pf_3602, gf_3603, pf_3603, ww_37, ww_38, ww_39, tyX3, tyX7, rh_sk, t_max, e1, e2, e3, e4, e5, e6]
end KP
