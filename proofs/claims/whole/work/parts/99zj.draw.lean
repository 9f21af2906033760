/-! years: the draws. -/
def dnx (s : Nat) : Nat := (1103 * s + 12345) % 1000003
section DR
variable {w : wW} {n s d : Nat}
theorem nI_div {a b : Nat} (ha : a < 2 ^ 31) (hb : b < 2 ^ 31) : nI a / nI b = nI (a / b) := by
  have hc : a / b ≤ a := Nat.div_le_self a b
  refine Int32.toInt_inj.mp ?_
  rw [Int32.toInt_div, nI_toInt ha, nI_toInt hb, nI_toInt (by omega), ← Int.ofNat_tdiv]
  generalize a / b = c at *
  exact Int.bmod_eq_of_le (by omega) (by omega)
theorem nI_rem {a b : Nat} (ha : a < 2 ^ 31) (hb : b < 2 ^ 31) : nI a - nI a / nI b * nI b = nI (a % b) := by
  have hm : a / b * b ≤ a := Nat.div_mul_le_self a b
  have hr : a % b = a - a / b * b := by rw [Nat.mod_eq_sub_mul_div, Nat.mul_comm]
  rw [nI_div ha hb, hr, pk_mul]
  exact a_sub _ _ hm
theorem dnx_lt : dnx s < 1000003 := Nat.mod_lt _ (by omega)
theorem d32 (hs : s ≤ 1000003) : nI (s * 1103 + 12345) - nI (s * 1103 + 12345) / 1000003 * 1000003 = nI (dnx s) := by
  rw [show (1000003 : Int32) = nI 1000003 from rfl, nI_rem (by omega) (by omega), dnx, Nat.mul_comm s 1103]
theorem d64 (hs : s ≤ 1000003) : ((1103 : Int64) * (nI s).toInt64 + 12345 - (1103 * (nI s).toInt64 + 12345) / 1000003 * 1000003).toInt32 = nI (dnx s) := by
  have e : ((1103 : Int64) * (nI s).toInt64 + 12345).toInt = ((1103 * s + 12345 : Nat) : Int) := by
    rw [Int64.toInt_add, Int64.toInt_mul, Int32.toInt_toInt64, nI_toInt (by omega), show (1103 : Int64).toInt = 1103 from rfl, show (12345 : Int64).toInt = 12345 from rfl, Int.bmod_eq_of_le (n := 1103 * (s : Int)) (m := 2 ^ 64) (by omega) (by omega)]
    rw [show (1103 * (s : Int) + 12345) = ((1103 * s + 12345 : Nat) : Int) by omega]
    exact Int.bmod_eq_of_le (by omega) (by omega)
  generalize (1103 : Int64) * (nI s).toInt64 + 12345 = x at *
  have hd : (x / 1000003).toInt = (((1103 * s + 12345) / 1000003 : Nat) : Int) := by
    rw [Int64.toInt_div, e, show (1000003 : Int64).toInt = ((1000003 : Nat) : Int) from rfl, ← Int.ofNat_tdiv]
    exact Int.bmod_eq_of_le (by omega) (by omega)
  have hm : (x / 1000003 * 1000003).toInt = (((1103 * s + 12345) / 1000003 * 1000003 : Nat) : Int) := by
    rw [Int64.toInt_mul, hd, show (1000003 : Int64).toInt = ((1000003 : Nat) : Int) from rfl, ← Int.natCast_mul]
    exact Int.bmod_eq_of_le (by omega) (by omega)
  have hx : (x - x / 1000003 * 1000003).toInt = ((dnx s : Nat) : Int) := by
    have := @dnx_lt s
    rw [Int64.toInt_sub, e, hm]
    rw [show (((1103 * s + 12345 : Nat) : Int) - (((1103 * s + 12345) / 1000003 * 1000003 : Nat) : Int)) = ((dnx s : Nat) : Int) by rw [dnx]; omega]
    exact Int.bmod_eq_of_le (by omega) (by omega)
  refine Int32.toInt_inj.mp ?_
  have := @dnx_lt s
  rw [Int64.toInt_toInt32, hx, nI_toInt (by omega)]
  exact Int.bmod_eq_of_le (by omega) (by omega)
theorem l1103 : Int64.ofInt 1103 = 1103 := rfl
theorem l12345 : Int64.ofInt 12345 = 12345 := rfl
theorem l1000003 : Int64.ofInt 1000003 = 1000003 := rfl
theorem l1000003n : ¬ ((1000003 : Int64) = 0) := by decide
theorem v_draw (hs : w_sc w 1805 = nI s) (h1 : s ≤ 1000003) (h0 : 0 < n) (h7 : n ≤ 7) (hd : 1 ≤ d) : hv_sem d 250 [.ref 18, .int (nI n)] (wB w) = some (some (.int (nI (dnx s % n))), wB (s_sc w 1805 (nI (dnx s)))) := by
  obtain ⟨d, rfl⟩ : ∃ e, d = e + 1 := ⟨d - 1, by omega⟩
  have e1 := d32 h1
  have h2 := @dnx_lt s
  have e2 := nI_rem (a := dnx s) (b := n) (by omega) (by omega)
  generalize dnx s = y at *
  simp -implicitDefEqProofs (disch := first | assumption | omega) [r_cons, r_nil, k_seq, k_blk, k_s0, k_s1, k_sr, k_sn, k_si, k_b0, k_b1, k_br, k_bn, k_bi, k_fr, k_fi, k_fn, k_l0, k_l1, k_l2, k_lr, k_ln, k_li, hv_nx, rc_none, hv_cmp, k_w0, k_wi, k_wr, k_wl, k_wn, k_wt, k_in0, k_ini, k_inr, k_inl, k_inn, k_int, k_nb0, k_nb1, k_nbi, k_ni, k_fi32, k_fb0, k_fb1, k_fbb, k_nbb, hv_st1, hv_st2, hv_k1, hv_ft, k_le, -Int32.not_lt, -Int32.not_le, gl_0, gl_1, gl_2, gl_3, gl_4, gl_5, gl_6, gl_7, gl_8, gl_9, gl_10, gl_11, gl_12, sl_0, sl_1, sl_2, sl_3, sl_4, sl_5, sl_6, sl_7, sl_8, sl_9, sl_10, sl_11, sl_12, st_iconst, st_bipush, st_ldc, st_aconst_null, st_iload, st_lload, st_aload, st_istore, st_astore, st_lstore, st_iinc, st_iadd, st_isub, st_imul, st_iand, st_ior, st_ishl, st_ishr, st_iushr, st_idiv, st_irem, st_ineg, st_ladd, st_lsub, st_lmul, st_ldiv, st_lrem, st_lcmp, st_i2l, st_l2i, st_i2b, st_dup, st_dup2, st_pop, st_goto, st_ifCond, st_if_icmp, st_ifnull, st_ifnonnull, st_tableswitch, st_iaload, st_baload, st_laload, st_aaload, st_iastore, st_bastore, st_lastore, st_aastore, st_arraylength, st_new, st_newarray, st_anewarray, st_invokespecial, st_invokestatic, st_swap, st_checkcast, st_invokeinterface, st_ireturn, st_lreturn, st_areturn, st_return_, nI_add, nI_1, nI_lits, nI_litr, nI_litm, nI_litn, pk_mul, a_clamp, a_subl, a_lsub, a_sub, a_lt, a_ltl, a_llt, a_eq, a_eql, a_leq, a_m1, a_m1r, a_neg, a_lt0, a_0lt, a_eq0, a_0eq, lg_cmp_gt, lg_cmp_lt, lg_cmp_eq, n_lt1, n_lt0, n_le1, n_le0, n_eq1, n_eq0, g_sc_sc, g_sc_ar, g_sc_sm, g_sc_rh, g_sc_rl, g_sc_la, g_sc_im, g_sc_dy, g_ar_sc, g_ar_ar, g_ar_sm, g_ar_rh, g_ar_rl, g_ar_la, g_ar_im, g_ar_dy, g_sm_sc, g_sm_ar, g_sm_sm, g_sm_rh, g_sm_rl, g_sm_la, g_sm_im, g_sm_dy, g_rh_sc, g_rh_ar, g_rh_sm, g_rh_rh, g_rh_rl, g_rh_la, g_rh_im, g_rh_dy, g_rl_sc, g_rl_ar, g_rl_sm, g_rl_rh, g_rl_rl, g_rl_la, g_rl_im, g_rl_dy, g_la_sc, g_la_ar, g_la_sm, g_la_rh, g_la_rl, g_la_la, g_la_im, g_la_dy, g_im_sc, g_im_ar, g_im_sm, g_im_rh, g_im_rl, g_im_la, g_im_im, g_im_dy, g_dy_sc, g_dy_ar, g_dy_sm, g_dy_rh, g_dy_rl, g_dy_la, g_dy_im, g_dy_dy, n_scsc, n_arar, n_scar, n_scS, n_arS, n_smsc, n_smar, n_smsm, n_rhsc, n_rhar, n_rhrh, n_rlsc, n_rlar, n_rlrl, n_lasc, n_laar, n_lala, n_imsc, n_imar, n_imim, n_dysc, n_dyar, n_dydy, sem_Paper_draw, hb_Paper_draw, rc_0, rc_1, rc_2, wr_3, wr_4, wr_5, wr_6, wr_7, rc_8, wr_9, rc_10, wr_11, rc_12, wr_13, wr_14, wr_15, wr_16, wr_17, rc_18, rc_19, wr_20, rc_21, wr_22, wr_23, rc_24, rc_25, wr_26, wr_27, rc_28, wr_29, wr_30, rc_31, wr_32, wr_33, wr_34, rc_35, rc_36, wr_37, wr_38, wr_39, gf_0, gf_1, gf_2, gf_3, gf_4, gf_5, gf_6, gf_7, gf_8, gf_9, gf_10, gf_11, pf_11, gf_12, pf_12, gf_13, pf_13, gf_14, pf_14, gf_100, gf_101, gf_102, gf_103, gf_104, pf_104, gf_105, pf_105, gf_106, pf_106, gf_200, ww_3, ww_4, ww_5, ww_6, ww_7, gf_800, gf_801, pf_801, gf_802, pf_802, ww_9, gf_1000, gf_1001, gf_1002, pf_rh, gf_1003, pf_rl, pf_rn, ww_11, gf_1200, gf_1201, gf_1202, gf_1203, gf_1204, gf_1205, pf_1205, gf_1206, pf_1206, ww_13, ww_14, ww_15, ww_16, ww_17, gf_1800, gf_1801, gf_1802, gf_1803, gf_1804, gf_1805, pf_1805, gf_1900, ww_20, gf_2100, ww_22, ww_23, gf_2400, gf_2401, gf_2402, gf_2403, gf_2404, gf_2405, gf_2406, gf_2407, gf_2408, pf_2408, gf_2409, pf_2409, gf_2410, pf_2410, gf_2500, gf_2501, gf_2502, pf_2502, ww_26, ww_27, gf_2800, gf_2801, gf_2802, pf_2802, ww_29, ww_30, gf_3100, ww_32, ww_33, ww_34, gf_3500, gf_3501, gf_3502, pf_3502, gf_3503, pf_3503, gf_3504, pf_3504, gf_3505, pf_3505, gf_3506, pf_3506, gf_3507, pf_3507, gf_3508, pf_3508, gf_3600, gf_3601, gf_3602, pf_3602, gf_3603, pf_3603, ww_37, ww_38, ww_39, tyX5, hs, e1, e2]
theorem m_draws (hs : w_sc w 4052 = nI s) (h1 : s ≤ 1000003) (h0 : 0 < n) (h7 : n ≤ 7) (hd : 1 ≤ d) : hv_sem d 170 [.ref 40, .int (nI n)] (wB w) = some (some (.int (nI (dnx s % n))), wB (s_sc w 4052 (nI (dnx s)))) := by
  obtain ⟨d, rfl⟩ : ∃ e, d = e + 1 := ⟨d - 1, by omega⟩
  have e1 := d64 h1
  have h2 := @dnx_lt s
  have e2 := nI_rem (a := dnx s) (b := n) (by omega) (by omega)
  generalize dnx s = y at *
  simp -implicitDefEqProofs (disch := first | assumption | omega) [r_cons, r_nil, k_seq, k_blk, k_s0, k_s1, k_sr, k_sn, k_si, k_b0, k_b1, k_br, k_bn, k_bi, k_fr, k_fi, k_fn, k_l0, k_l1, k_l2, k_lr, k_ln, k_li, hv_nx, rc_none, hv_cmp, k_w0, k_wi, k_wr, k_wl, k_wn, k_wt, k_in0, k_ini, k_inr, k_inl, k_inn, k_int, k_nb0, k_nb1, k_nbi, k_ni, k_fi32, k_fb0, k_fb1, k_fbb, k_nbb, hv_st1, hv_st2, hv_k1, hv_ft, k_le, -Int32.not_lt, -Int32.not_le, gl_0, gl_1, gl_2, gl_3, gl_4, gl_5, gl_6, gl_7, gl_8, gl_9, gl_10, gl_11, gl_12, sl_0, sl_1, sl_2, sl_3, sl_4, sl_5, sl_6, sl_7, sl_8, sl_9, sl_10, sl_11, sl_12, st_iconst, st_bipush, st_ldc, st_aconst_null, st_iload, st_lload, st_aload, st_istore, st_astore, st_lstore, st_iinc, st_iadd, st_isub, st_imul, st_iand, st_ior, st_ishl, st_ishr, st_iushr, st_idiv, st_irem, st_ineg, st_ladd, st_lsub, st_lmul, st_ldiv, st_lrem, st_lcmp, st_i2l, st_l2i, st_i2b, st_dup, st_dup2, st_pop, st_goto, st_ifCond, st_if_icmp, st_ifnull, st_ifnonnull, st_tableswitch, st_iaload, st_baload, st_laload, st_aaload, st_iastore, st_bastore, st_lastore, st_aastore, st_arraylength, st_new, st_newarray, st_anewarray, st_invokespecial, st_invokestatic, st_swap, st_checkcast, st_invokeinterface, st_ireturn, st_lreturn, st_areturn, st_return_, nI_add, nI_1, nI_lits, nI_litr, nI_litm, nI_litn, pk_mul, a_clamp, a_subl, a_lsub, a_sub, a_lt, a_ltl, a_llt, a_eq, a_eql, a_leq, a_m1, a_m1r, a_neg, a_lt0, a_0lt, a_eq0, a_0eq, lg_cmp_gt, lg_cmp_lt, lg_cmp_eq, n_lt1, n_lt0, n_le1, n_le0, n_eq1, n_eq0, g_sc_sc, g_sc_ar, g_sc_sm, g_sc_rh, g_sc_rl, g_sc_la, g_sc_im, g_sc_dy, g_ar_sc, g_ar_ar, g_ar_sm, g_ar_rh, g_ar_rl, g_ar_la, g_ar_im, g_ar_dy, g_sm_sc, g_sm_ar, g_sm_sm, g_sm_rh, g_sm_rl, g_sm_la, g_sm_im, g_sm_dy, g_rh_sc, g_rh_ar, g_rh_sm, g_rh_rh, g_rh_rl, g_rh_la, g_rh_im, g_rh_dy, g_rl_sc, g_rl_ar, g_rl_sm, g_rl_rh, g_rl_rl, g_rl_la, g_rl_im, g_rl_dy, g_la_sc, g_la_ar, g_la_sm, g_la_rh, g_la_rl, g_la_la, g_la_im, g_la_dy, g_im_sc, g_im_ar, g_im_sm, g_im_rh, g_im_rl, g_im_la, g_im_im, g_im_dy, g_dy_sc, g_dy_ar, g_dy_sm, g_dy_rh, g_dy_rl, g_dy_la, g_dy_im, g_dy_dy, n_scsc, n_arar, n_scar, n_scS, n_arS, n_smsc, n_smar, n_smsm, n_rhsc, n_rhar, n_rhrh, n_rlsc, n_rlar, n_rlrl, n_lasc, n_laar, n_lala, n_imsc, n_imar, n_imim, n_dysc, n_dyar, n_dydy, sem_M_draws, hb_M_draws, rc_40, wr_41, wr_42, wr_43, wr_44, wr_45, wr_46, wr_47, wr_48, wr_49, wr_50, wr_51, wr_52, wr_53, wr_54, wr_55, wr_56, wr_57, wr_58, wr_59, wr_60, wr_61, wr_62, wr_63, wr_64, wr_65, gf_4000, pf_4000, gf_4001, gf_4002, gf_4003, gf_4004, gf_4005, gf_4006, pf_4006, gf_4007, gf_4008, pf_4008, gf_4009, pf_4009, gf_4010, pf_4010, gf_4011, gf_4012, gf_4013, pf_4013, gf_4014, pf_4014, gf_4015, gf_4016, gf_4017, gf_4018, pf_4018, gf_4019, pf_4019, gf_4020, pf_4020, gf_4021, pf_4021, gf_4022, pf_4022, gf_4023, pf_4023, gf_4024, pf_4024, gf_4025, pf_4025, gf_4026, gf_4027, pf_4027, gf_4028, pf_4028, gf_4029, gf_4030, gf_4031, gf_4032, pf_4032, gf_4033, gf_4034, gf_4035, gf_4036, gf_4037, gf_4038, gf_4039, pf_4039, gf_4040, pf_4040, gf_4041, gf_4042, gf_4043, pf_4043, gf_4044, pf_4044, gf_4045, pf_4045, gf_4046, pf_4046, gf_4047, pf_4047, gf_4048, pf_4048, gf_4049, gf_4050, gf_4051, pf_4051, gf_4052, pf_4052, ww_41, ww_42, ww_43, ww_44, ww_45, ww_46, ww_47, ww_48, ww_49, ww_50, ww_51, ww_52, ww_53, ww_54, ww_55, ww_56, ww_57, ww_58, ww_59, ww_60, ww_61, ww_62, ww_63, ww_64, ww_65, tyX11, l1103, l12345, l1000003, l1000003n, hs, e1, e2]
end DR
