/-! The reference works parts out. -/
section MG
variable {w : wW} {O T k : Nat} {b c : Bool} {tc tv : qT} {o : Bool} {E : Nat → Int32}
theorem m_leafNum (h : e_P o E O T tc tv w) (hT4 : T ≤ 400) {d : Nat} {l : Bool} (hd : 5 ≤ d) (hkT : k < T) (h50 : tc k = 50) : hv_sem d 110 [.ref 40, .int (b2i l)] (wB (eW w O k b)) = some (some (.long (e_val l b (some (tv k)))), wB (eW w O (k + 1) b)) := by
  have h1 := h.1.1
  have hio := h.2.1
  have hc : ¬ tc k = 191 := by rw [h50]; decide
  have hv : w_ar w 42 (2891 + (O + (k + 1))) = tv k := by rw [show 2891 + (O + (k + 1)) = 2892 + (O + k) by omega]; exact (h.1.2.2.1 k hkT).2
  obtain ⟨d, rfl⟩ : ∃ e, d = e + 5 := ⟨d - 5, by omega⟩
  have p1 := m_passF (d := d + 4) (b := b) (by omega) h (show k ≤ 1000 by omega) hc
  have cA := m_codeAt (d := d + 4) (j := k) (k := k) (b := b) (by omega) h (by omega)
  clear h
  cases o <;> cases l <;> cases b <;> simp only [b2i_t, b2i_f, e_val] at hio ⊢ <;> simp -implicitDefEqProofs (disch := first | assumption | omega) [r_cons, r_nil, k_seq, k_blk, k_s0, k_s1, k_sr, k_sn, k_si, k_b0, k_b1, k_br, k_bn, k_bi, k_fr, k_fi, k_fn, k_l0, k_l1, k_l2, k_lr, k_ln, k_li, hv_nx, rc_none, hv_cmp, k_w0, k_wi, k_wr, k_wl, k_wn, k_wt, k_in0, k_ini, k_inr, k_inl, k_inn, k_int, k_nb0, k_nb1, k_nbi, k_ni, k_fi32, k_fb0, k_fb1, k_fbb, k_nbb, hv_st1, hv_st2, hv_k1, hv_ft, k_le, -Int32.not_lt, -Int32.not_le, gl_0, gl_1, gl_2, gl_3, gl_4, gl_5, gl_6, gl_7, gl_8, gl_9, gl_10, gl_11, gl_12, sl_0, sl_1, sl_2, sl_3, sl_4, sl_5, sl_6, sl_7, sl_8, sl_9, sl_10, sl_11, sl_12, st_iconst, st_bipush, st_ldc, st_aconst_null, st_iload, st_lload, st_aload, st_istore, st_astore, st_lstore, st_iinc, st_iadd, st_isub, st_imul, st_iand, st_ior, st_ishl, st_ishr, st_iushr, st_idiv, st_irem, st_ineg, st_ladd, st_lsub, st_lmul, st_ldiv, st_lrem, st_lcmp, st_i2l, st_l2i, st_i2b, st_dup, st_dup2, st_pop, st_goto, st_ifCond, st_if_icmp, st_ifnull, st_ifnonnull, st_tableswitch, st_iaload, st_baload, st_laload, st_aaload, st_iastore, st_bastore, st_lastore, st_aastore, st_arraylength, st_new, st_newarray, st_anewarray, st_invokespecial, st_invokestatic, st_swap, st_checkcast, st_invokeinterface, st_ireturn, st_lreturn, st_areturn, st_return_, nI_add, nI_1, nI_lits, nI_litr, nI_litm, nI_litn, pk_mul, a_clamp, a_subl, a_lsub, a_sub, a_lt, a_ltl, a_llt, a_eq, a_eql, a_leq, a_m1, a_m1r, a_neg, a_lt0, a_0lt, a_eq0, a_0eq, lg_cmp_gt, lg_cmp_lt, lg_cmp_eq, n_lt1, n_lt0, n_le1, n_le0, n_eq1, n_eq0, g_sc_sc, g_sc_ar, g_sc_sm, g_sc_rh, g_sc_rl, g_sc_la, g_sc_im, g_sc_dy, g_ar_sc, g_ar_ar, g_ar_sm, g_ar_rh, g_ar_rl, g_ar_la, g_ar_im, g_ar_dy, g_sm_sc, g_sm_ar, g_sm_sm, g_sm_rh, g_sm_rl, g_sm_la, g_sm_im, g_sm_dy, g_rh_sc, g_rh_ar, g_rh_sm, g_rh_rh, g_rh_rl, g_rh_la, g_rh_im, g_rh_dy, g_rl_sc, g_rl_ar, g_rl_sm, g_rl_rh, g_rl_rl, g_rl_la, g_rl_im, g_rl_dy, g_la_sc, g_la_ar, g_la_sm, g_la_rh, g_la_rl, g_la_la, g_la_im, g_la_dy, g_im_sc, g_im_ar, g_im_sm, g_im_rh, g_im_rl, g_im_la, g_im_im, g_im_dy, g_dy_sc, g_dy_ar, g_dy_sm, g_dy_rh, g_dy_rl, g_dy_la, g_dy_im, g_dy_dy, n_scsc, n_arar, n_scar, n_scS, n_arS, n_smsc, n_smar, n_smsm, n_rhsc, n_rhar, n_rhrh, n_rlsc, n_rlar, n_rlrl, n_lasc, n_laar, n_lala, n_imsc, n_imar, n_imim, n_dysc, n_dyar, n_dydy, sem_M_partOf, hb_M_partOf, cm_87, vk_87, cm_105, vk_105, cm_106, vk_106, cm_108, vk_108, cm_111, vk_111, sem_M_sign, hb_M_sign, rc_40, wr_41, wr_42, wr_43, wr_44, wr_45, wr_46, wr_47, wr_48, wr_49, wr_50, wr_51, wr_52, wr_53, wr_54, wr_55, wr_56, wr_57, wr_58, wr_59, wr_60, wr_61, wr_62, wr_63, wr_64, wr_65, gf_4000, pf_4000, gf_4001, gf_4002, gf_4003, gf_4004, gf_4005, gf_4006, pf_4006, gf_4007, gf_4008, pf_4008, gf_4009, pf_4009, gf_4010, pf_4010, gf_4011, gf_4012, gf_4013, pf_4013, gf_4014, pf_4014, gf_4015, gf_4016, gf_4017, gf_4018, pf_4018, gf_4019, pf_4019, gf_4020, pf_4020, gf_4021, pf_4021, gf_4022, pf_4022, gf_4023, pf_4023, gf_4024, pf_4024, gf_4025, pf_4025, gf_4026, gf_4027, pf_4027, gf_4028, pf_4028, gf_4029, gf_4030, gf_4031, gf_4032, pf_4032, gf_4033, gf_4034, gf_4035, gf_4036, gf_4037, gf_4038, gf_4039, pf_4039, gf_4040, pf_4040, gf_4041, gf_4042, gf_4043, pf_4043, gf_4044, pf_4044, gf_4045, pf_4045, gf_4046, pf_4046, gf_4047, pf_4047, gf_4048, pf_4048, gf_4049, gf_4050, gf_4051, pf_4051, gf_4052, pf_4052, ww_41, ww_42, ww_43, ww_44, ww_45, ww_46, ww_47, ww_48, ww_49, ww_50, ww_51, ww_52, ww_53, ww_54, ww_55, ww_56, ww_57, ww_58, ww_59, ww_60, ww_61, ww_62, ww_63, ww_64, ww_65, tyX11, p1, cA, ew_sc, ew_ar, ew_g, hio, h50, hv, b2i_t, b2i_f]
theorem m_leafLaw (h : e_P false E O T tc tv w) (hT4 : T ≤ 400) {d i : Nat} {l : Bool} (hd : 5 ≤ d) (hkT : k < T) (hi : i < 7) (hti : tc k = nI (10 + i)) : hv_sem d 110 [.ref 40, .int (b2i l)] (wB (eW w O k b)) = some (some (.long (e_val l b (some (E (q_word false (tc k)))))), wB (eW w O (k + 1) b)) := by
  have h1 := h.1.1
  have hio := h.2.1
  have hc : ¬ tc k = 191 := by rw [hti]; show ¬ nI (10 + i) = nI 191; rw [a_eq (by omega) (by omega)]; omega
  have hask := h.2.2.1 rfl i hi
  obtain ⟨d, rfl⟩ : ∃ e, d = e + 5 := ⟨d - 5, by omega⟩
  have p1 := m_passF (d := d + 4) (b := b) (by omega) h (show k ≤ 1000 by omega) hc
  have cA := m_codeAt (d := d + 4) (j := k) (k := k) (b := b) (by omega) h (by omega)
  have hs : 10 + i - 10 = i := by omega
  rw [hti] at cA ⊢
  clear h
  cases l <;> cases b <;> simp only [b2i_t, b2i_f, e_val] at hio ⊢ <;> simp -implicitDefEqProofs (disch := first | assumption | omega) [r_cons, r_nil, k_seq, k_blk, k_s0, k_s1, k_sr, k_sn, k_si, k_b0, k_b1, k_br, k_bn, k_bi, k_fr, k_fi, k_fn, k_l0, k_l1, k_l2, k_lr, k_ln, k_li, hv_nx, rc_none, hv_cmp, k_w0, k_wi, k_wr, k_wl, k_wn, k_wt, k_in0, k_ini, k_inr, k_inl, k_inn, k_int, k_nb0, k_nb1, k_nbi, k_ni, k_fi32, k_fb0, k_fb1, k_fbb, k_nbb, hv_st1, hv_st2, hv_k1, hv_ft, k_le, -Int32.not_lt, -Int32.not_le, gl_0, gl_1, gl_2, gl_3, gl_4, gl_5, gl_6, gl_7, gl_8, gl_9, gl_10, gl_11, gl_12, sl_0, sl_1, sl_2, sl_3, sl_4, sl_5, sl_6, sl_7, sl_8, sl_9, sl_10, sl_11, sl_12, st_iconst, st_bipush, st_ldc, st_aconst_null, st_iload, st_lload, st_aload, st_istore, st_astore, st_lstore, st_iinc, st_iadd, st_isub, st_imul, st_iand, st_ior, st_ishl, st_ishr, st_iushr, st_idiv, st_irem, st_ineg, st_ladd, st_lsub, st_lmul, st_ldiv, st_lrem, st_lcmp, st_i2l, st_l2i, st_i2b, st_dup, st_dup2, st_pop, st_goto, st_ifCond, st_if_icmp, st_ifnull, st_ifnonnull, st_tableswitch, st_iaload, st_baload, st_laload, st_aaload, st_iastore, st_bastore, st_lastore, st_aastore, st_arraylength, st_new, st_newarray, st_anewarray, st_invokespecial, st_invokestatic, st_swap, st_checkcast, st_invokeinterface, st_ireturn, st_lreturn, st_areturn, st_return_, nI_add, nI_1, nI_lits, nI_litr, nI_litm, nI_litn, pk_mul, a_clamp, a_subl, a_lsub, a_sub, a_lt, a_ltl, a_llt, a_eq, a_eql, a_leq, a_m1, a_m1r, a_neg, a_lt0, a_0lt, a_eq0, a_0eq, lg_cmp_gt, lg_cmp_lt, lg_cmp_eq, n_lt1, n_lt0, n_le1, n_le0, n_eq1, n_eq0, g_sc_sc, g_sc_ar, g_sc_sm, g_sc_rh, g_sc_rl, g_sc_la, g_sc_im, g_sc_dy, g_ar_sc, g_ar_ar, g_ar_sm, g_ar_rh, g_ar_rl, g_ar_la, g_ar_im, g_ar_dy, g_sm_sc, g_sm_ar, g_sm_sm, g_sm_rh, g_sm_rl, g_sm_la, g_sm_im, g_sm_dy, g_rh_sc, g_rh_ar, g_rh_sm, g_rh_rh, g_rh_rl, g_rh_la, g_rh_im, g_rh_dy, g_rl_sc, g_rl_ar, g_rl_sm, g_rl_rh, g_rl_rl, g_rl_la, g_rl_im, g_rl_dy, g_la_sc, g_la_ar, g_la_sm, g_la_rh, g_la_rl, g_la_la, g_la_im, g_la_dy, g_im_sc, g_im_ar, g_im_sm, g_im_rh, g_im_rl, g_im_la, g_im_im, g_im_dy, g_dy_sc, g_dy_ar, g_dy_sm, g_dy_rh, g_dy_rl, g_dy_la, g_dy_im, g_dy_dy, n_scsc, n_arar, n_scar, n_scS, n_arS, n_smsc, n_smar, n_smsm, n_rhsc, n_rhar, n_rhrh, n_rlsc, n_rlar, n_rlrl, n_lasc, n_laar, n_lala, n_imsc, n_imar, n_imim, n_dysc, n_dyar, n_dydy, sem_M_partOf, hb_M_partOf, cm_87, vk_87, cm_105, vk_105, cm_106, vk_106, cm_108, vk_108, cm_111, vk_111, sem_M_sign, hb_M_sign, rc_40, wr_41, wr_42, wr_43, wr_44, wr_45, wr_46, wr_47, wr_48, wr_49, wr_50, wr_51, wr_52, wr_53, wr_54, wr_55, wr_56, wr_57, wr_58, wr_59, wr_60, wr_61, wr_62, wr_63, wr_64, wr_65, gf_4000, pf_4000, gf_4001, gf_4002, gf_4003, gf_4004, gf_4005, gf_4006, pf_4006, gf_4007, gf_4008, pf_4008, gf_4009, pf_4009, gf_4010, pf_4010, gf_4011, gf_4012, gf_4013, pf_4013, gf_4014, pf_4014, gf_4015, gf_4016, gf_4017, gf_4018, pf_4018, gf_4019, pf_4019, gf_4020, pf_4020, gf_4021, pf_4021, gf_4022, pf_4022, gf_4023, pf_4023, gf_4024, pf_4024, gf_4025, pf_4025, gf_4026, gf_4027, pf_4027, gf_4028, pf_4028, gf_4029, gf_4030, gf_4031, gf_4032, pf_4032, gf_4033, gf_4034, gf_4035, gf_4036, gf_4037, gf_4038, gf_4039, pf_4039, gf_4040, pf_4040, gf_4041, gf_4042, gf_4043, pf_4043, gf_4044, pf_4044, gf_4045, pf_4045, gf_4046, pf_4046, gf_4047, pf_4047, gf_4048, pf_4048, gf_4049, gf_4050, gf_4051, pf_4051, gf_4052, pf_4052, ww_41, ww_42, ww_43, ww_44, ww_45, ww_46, ww_47, ww_48, ww_49, ww_50, ww_51, ww_52, ww_53, ww_54, ww_55, ww_56, ww_57, ww_58, ww_59, ww_60, ww_61, ww_62, ww_63, ww_64, ww_65, tyX11, p1, cA, ew_sc, ew_ar, ew_g, hio, hs, hask, b2i_t, b2i_f]
theorem m_leafOrd (h : e_P true E O T tc tv w) (hT4 : T ≤ 400) {d i : Nat} {l : Bool} (hd : 5 ≤ d) (hkT : k < T) (hi : i < 5) (hti : tc k = nI (16 + i)) : hv_sem d 110 [.ref 40, .int (b2i l)] (wB (eW w O k b)) = some (some (.long (e_val l b (some (E i)))), wB (eW w O (k + 1) b)) := by
  have h1 := h.1.1
  have hio := h.2.1
  have hc : ¬ tc k = 191 := by rw [hti]; show ¬ nI (16 + i) = nI 191; rw [a_eq (by omega) (by omega)]; omega
  obtain ⟨d, rfl⟩ : ∃ e, d = e + 5 := ⟨d - 5, by omega⟩
  have p1 := m_passF (d := d + 4) (b := b) (by omega) h (show k ≤ 1000 by omega) hc
  have cA := m_codeAt (d := d + 4) (j := k) (k := k) (b := b) (by omega) h (by omega)
  have ov := ((m_orderValue (d := d + 4) (k := k + 1) (b := b) (by omega) h).2 i hi)
  rw [hti] at cA
  clear h
  cases l <;> cases b <;> simp only [b2i_t, b2i_f, e_val] at hio ⊢ <;> simp -implicitDefEqProofs (disch := first | assumption | omega) [r_cons, r_nil, k_seq, k_blk, k_s0, k_s1, k_sr, k_sn, k_si, k_b0, k_b1, k_br, k_bn, k_bi, k_fr, k_fi, k_fn, k_l0, k_l1, k_l2, k_lr, k_ln, k_li, hv_nx, rc_none, hv_cmp, k_w0, k_wi, k_wr, k_wl, k_wn, k_wt, k_in0, k_ini, k_inr, k_inl, k_inn, k_int, k_nb0, k_nb1, k_nbi, k_ni, k_fi32, k_fb0, k_fb1, k_fbb, k_nbb, hv_st1, hv_st2, hv_k1, hv_ft, k_le, -Int32.not_lt, -Int32.not_le, gl_0, gl_1, gl_2, gl_3, gl_4, gl_5, gl_6, gl_7, gl_8, gl_9, gl_10, gl_11, gl_12, sl_0, sl_1, sl_2, sl_3, sl_4, sl_5, sl_6, sl_7, sl_8, sl_9, sl_10, sl_11, sl_12, st_iconst, st_bipush, st_ldc, st_aconst_null, st_iload, st_lload, st_aload, st_istore, st_astore, st_lstore, st_iinc, st_iadd, st_isub, st_imul, st_iand, st_ior, st_ishl, st_ishr, st_iushr, st_idiv, st_irem, st_ineg, st_ladd, st_lsub, st_lmul, st_ldiv, st_lrem, st_lcmp, st_i2l, st_l2i, st_i2b, st_dup, st_dup2, st_pop, st_goto, st_ifCond, st_if_icmp, st_ifnull, st_ifnonnull, st_tableswitch, st_iaload, st_baload, st_laload, st_aaload, st_iastore, st_bastore, st_lastore, st_aastore, st_arraylength, st_new, st_newarray, st_anewarray, st_invokespecial, st_invokestatic, st_swap, st_checkcast, st_invokeinterface, st_ireturn, st_lreturn, st_areturn, st_return_, nI_add, nI_1, nI_lits, nI_litr, nI_litm, nI_litn, pk_mul, a_clamp, a_subl, a_lsub, a_sub, a_lt, a_ltl, a_llt, a_eq, a_eql, a_leq, a_m1, a_m1r, a_neg, a_lt0, a_0lt, a_eq0, a_0eq, lg_cmp_gt, lg_cmp_lt, lg_cmp_eq, n_lt1, n_lt0, n_le1, n_le0, n_eq1, n_eq0, g_sc_sc, g_sc_ar, g_sc_sm, g_sc_rh, g_sc_rl, g_sc_la, g_sc_im, g_sc_dy, g_ar_sc, g_ar_ar, g_ar_sm, g_ar_rh, g_ar_rl, g_ar_la, g_ar_im, g_ar_dy, g_sm_sc, g_sm_ar, g_sm_sm, g_sm_rh, g_sm_rl, g_sm_la, g_sm_im, g_sm_dy, g_rh_sc, g_rh_ar, g_rh_sm, g_rh_rh, g_rh_rl, g_rh_la, g_rh_im, g_rh_dy, g_rl_sc, g_rl_ar, g_rl_sm, g_rl_rh, g_rl_rl, g_rl_la, g_rl_im, g_rl_dy, g_la_sc, g_la_ar, g_la_sm, g_la_rh, g_la_rl, g_la_la, g_la_im, g_la_dy, g_im_sc, g_im_ar, g_im_sm, g_im_rh, g_im_rl, g_im_la, g_im_im, g_im_dy, g_dy_sc, g_dy_ar, g_dy_sm, g_dy_rh, g_dy_rl, g_dy_la, g_dy_im, g_dy_dy, n_scsc, n_arar, n_scar, n_scS, n_arS, n_smsc, n_smar, n_smsm, n_rhsc, n_rhar, n_rhrh, n_rlsc, n_rlar, n_rlrl, n_lasc, n_laar, n_lala, n_imsc, n_imar, n_imim, n_dysc, n_dyar, n_dydy, sem_M_partOf, hb_M_partOf, cm_87, vk_87, cm_105, vk_105, cm_106, vk_106, cm_108, vk_108, cm_111, vk_111, sem_M_sign, hb_M_sign, rc_40, wr_41, wr_42, wr_43, wr_44, wr_45, wr_46, wr_47, wr_48, wr_49, wr_50, wr_51, wr_52, wr_53, wr_54, wr_55, wr_56, wr_57, wr_58, wr_59, wr_60, wr_61, wr_62, wr_63, wr_64, wr_65, gf_4000, pf_4000, gf_4001, gf_4002, gf_4003, gf_4004, gf_4005, gf_4006, pf_4006, gf_4007, gf_4008, pf_4008, gf_4009, pf_4009, gf_4010, pf_4010, gf_4011, gf_4012, gf_4013, pf_4013, gf_4014, pf_4014, gf_4015, gf_4016, gf_4017, gf_4018, pf_4018, gf_4019, pf_4019, gf_4020, pf_4020, gf_4021, pf_4021, gf_4022, pf_4022, gf_4023, pf_4023, gf_4024, pf_4024, gf_4025, pf_4025, gf_4026, gf_4027, pf_4027, gf_4028, pf_4028, gf_4029, gf_4030, gf_4031, gf_4032, pf_4032, gf_4033, gf_4034, gf_4035, gf_4036, gf_4037, gf_4038, gf_4039, pf_4039, gf_4040, pf_4040, gf_4041, gf_4042, gf_4043, pf_4043, gf_4044, pf_4044, gf_4045, pf_4045, gf_4046, pf_4046, gf_4047, pf_4047, gf_4048, pf_4048, gf_4049, gf_4050, gf_4051, pf_4051, gf_4052, pf_4052, ww_41, ww_42, ww_43, ww_44, ww_45, ww_46, ww_47, ww_48, ww_49, ww_50, ww_51, ww_52, ww_53, ww_54, ww_55, ww_56, ww_57, ww_58, ww_59, ww_60, ww_61, ww_62, ww_63, ww_64, ww_65, tyX11, p1, cA, ew_sc, ew_ar, ew_g, hio, ov, b2i_t, b2i_f]
theorem m_leafHas (h : e_P true E O T tc tv w) (hT4 : T ≤ 400) {d j : Nat} {l : Bool} (hd : 5 ≤ d) (hkT : k + 1 < T) (hj : j < 7) (hti : tc k = 14 ∨ tc k = 15) (hjv : tv (k + 1) = nI j) : hv_sem d 110 [.ref 40, .int (b2i l)] (wB (eW w O k b)) = some (some (.long (e_val l b (some (E ((if tc k = 15 then 5 else 12) + j))))), wB (eW w O (k + 1 + 1) b)) := by
  have h1 := h.1.1
  have hio := h.2.1
  have hc : ¬ tc k = 191 := by rcases hti with q | q <;> rw [q] <;> decide
  have hv2 : w_ar w 42 (2892 + (O + (k + 1))) = nI j := (h.1.2.2.1 (k + 1) hkT).2.trans hjv
  obtain ⟨d, rfl⟩ : ∃ e, d = e + 5 := ⟨d - 5, by omega⟩
  have p1 := m_passF (d := d + 4) (b := b) (by omega) h (show k ≤ 1000 by omega) hc
  have cA := m_codeAt (d := d + 4) (j := k) (k := k) (b := b) (by omega) h (by omega)
  have ov := ((m_orderValue (d := d + 4) (k := k + 1 + 1) (b := b) (by omega) h).1 j (by omega))
  clear h
  rcases hti with hti | hti
  · rw [hti] at cA ⊢
    rw [if_neg (show ¬ (14 : Int32) = 15 by decide)]
    cases l <;> cases b <;> simp only [b2i_t, b2i_f, e_val] at hio ⊢ <;> simp -implicitDefEqProofs (disch := first | assumption | omega) [r_cons, r_nil, k_seq, k_blk, k_s0, k_s1, k_sr, k_sn, k_si, k_b0, k_b1, k_br, k_bn, k_bi, k_fr, k_fi, k_fn, k_l0, k_l1, k_l2, k_lr, k_ln, k_li, hv_nx, rc_none, hv_cmp, k_w0, k_wi, k_wr, k_wl, k_wn, k_wt, k_in0, k_ini, k_inr, k_inl, k_inn, k_int, k_nb0, k_nb1, k_nbi, k_ni, k_fi32, k_fb0, k_fb1, k_fbb, k_nbb, hv_st1, hv_st2, hv_k1, hv_ft, k_le, -Int32.not_lt, -Int32.not_le, gl_0, gl_1, gl_2, gl_3, gl_4, gl_5, gl_6, gl_7, gl_8, gl_9, gl_10, gl_11, gl_12, sl_0, sl_1, sl_2, sl_3, sl_4, sl_5, sl_6, sl_7, sl_8, sl_9, sl_10, sl_11, sl_12, st_iconst, st_bipush, st_ldc, st_aconst_null, st_iload, st_lload, st_aload, st_istore, st_astore, st_lstore, st_iinc, st_iadd, st_isub, st_imul, st_iand, st_ior, st_ishl, st_ishr, st_iushr, st_idiv, st_irem, st_ineg, st_ladd, st_lsub, st_lmul, st_ldiv, st_lrem, st_lcmp, st_i2l, st_l2i, st_i2b, st_dup, st_dup2, st_pop, st_goto, st_ifCond, st_if_icmp, st_ifnull, st_ifnonnull, st_tableswitch, st_iaload, st_baload, st_laload, st_aaload, st_iastore, st_bastore, st_lastore, st_aastore, st_arraylength, st_new, st_newarray, st_anewarray, st_invokespecial, st_invokestatic, st_swap, st_checkcast, st_invokeinterface, st_ireturn, st_lreturn, st_areturn, st_return_, nI_add, nI_1, nI_lits, nI_litr, nI_litm, nI_litn, pk_mul, a_clamp, a_subl, a_lsub, a_sub, a_lt, a_ltl, a_llt, a_eq, a_eql, a_leq, a_m1, a_m1r, a_neg, a_lt0, a_0lt, a_eq0, a_0eq, lg_cmp_gt, lg_cmp_lt, lg_cmp_eq, n_lt1, n_lt0, n_le1, n_le0, n_eq1, n_eq0, g_sc_sc, g_sc_ar, g_sc_sm, g_sc_rh, g_sc_rl, g_sc_la, g_sc_im, g_sc_dy, g_ar_sc, g_ar_ar, g_ar_sm, g_ar_rh, g_ar_rl, g_ar_la, g_ar_im, g_ar_dy, g_sm_sc, g_sm_ar, g_sm_sm, g_sm_rh, g_sm_rl, g_sm_la, g_sm_im, g_sm_dy, g_rh_sc, g_rh_ar, g_rh_sm, g_rh_rh, g_rh_rl, g_rh_la, g_rh_im, g_rh_dy, g_rl_sc, g_rl_ar, g_rl_sm, g_rl_rh, g_rl_rl, g_rl_la, g_rl_im, g_rl_dy, g_la_sc, g_la_ar, g_la_sm, g_la_rh, g_la_rl, g_la_la, g_la_im, g_la_dy, g_im_sc, g_im_ar, g_im_sm, g_im_rh, g_im_rl, g_im_la, g_im_im, g_im_dy, g_dy_sc, g_dy_ar, g_dy_sm, g_dy_rh, g_dy_rl, g_dy_la, g_dy_im, g_dy_dy, n_scsc, n_arar, n_scar, n_scS, n_arS, n_smsc, n_smar, n_smsm, n_rhsc, n_rhar, n_rhrh, n_rlsc, n_rlar, n_rlrl, n_lasc, n_laar, n_lala, n_imsc, n_imar, n_imim, n_dysc, n_dyar, n_dydy, sem_M_partOf, hb_M_partOf, cm_87, vk_87, cm_105, vk_105, cm_106, vk_106, cm_108, vk_108, cm_111, vk_111, sem_M_sign, hb_M_sign, rc_40, wr_41, wr_42, wr_43, wr_44, wr_45, wr_46, wr_47, wr_48, wr_49, wr_50, wr_51, wr_52, wr_53, wr_54, wr_55, wr_56, wr_57, wr_58, wr_59, wr_60, wr_61, wr_62, wr_63, wr_64, wr_65, gf_4000, pf_4000, gf_4001, gf_4002, gf_4003, gf_4004, gf_4005, gf_4006, pf_4006, gf_4007, gf_4008, pf_4008, gf_4009, pf_4009, gf_4010, pf_4010, gf_4011, gf_4012, gf_4013, pf_4013, gf_4014, pf_4014, gf_4015, gf_4016, gf_4017, gf_4018, pf_4018, gf_4019, pf_4019, gf_4020, pf_4020, gf_4021, pf_4021, gf_4022, pf_4022, gf_4023, pf_4023, gf_4024, pf_4024, gf_4025, pf_4025, gf_4026, gf_4027, pf_4027, gf_4028, pf_4028, gf_4029, gf_4030, gf_4031, gf_4032, pf_4032, gf_4033, gf_4034, gf_4035, gf_4036, gf_4037, gf_4038, gf_4039, pf_4039, gf_4040, pf_4040, gf_4041, gf_4042, gf_4043, pf_4043, gf_4044, pf_4044, gf_4045, pf_4045, gf_4046, pf_4046, gf_4047, pf_4047, gf_4048, pf_4048, gf_4049, gf_4050, gf_4051, pf_4051, gf_4052, pf_4052, ww_41, ww_42, ww_43, ww_44, ww_45, ww_46, ww_47, ww_48, ww_49, ww_50, ww_51, ww_52, ww_53, ww_54, ww_55, ww_56, ww_57, ww_58, ww_59, ww_60, ww_61, ww_62, ww_63, ww_64, ww_65, tyX11, p1, cA, ew_sc, ew_ar, ew_g, hio, hv2, ov, b2i_t, b2i_f]
  · rw [hti] at cA ⊢
    rw [if_pos rfl]
    cases l <;> cases b <;> simp only [b2i_t, b2i_f, e_val] at hio ⊢ <;> simp -implicitDefEqProofs (disch := first | assumption | omega) [r_cons, r_nil, k_seq, k_blk, k_s0, k_s1, k_sr, k_sn, k_si, k_b0, k_b1, k_br, k_bn, k_bi, k_fr, k_fi, k_fn, k_l0, k_l1, k_l2, k_lr, k_ln, k_li, hv_nx, rc_none, hv_cmp, k_w0, k_wi, k_wr, k_wl, k_wn, k_wt, k_in0, k_ini, k_inr, k_inl, k_inn, k_int, k_nb0, k_nb1, k_nbi, k_ni, k_fi32, k_fb0, k_fb1, k_fbb, k_nbb, hv_st1, hv_st2, hv_k1, hv_ft, k_le, -Int32.not_lt, -Int32.not_le, gl_0, gl_1, gl_2, gl_3, gl_4, gl_5, gl_6, gl_7, gl_8, gl_9, gl_10, gl_11, gl_12, sl_0, sl_1, sl_2, sl_3, sl_4, sl_5, sl_6, sl_7, sl_8, sl_9, sl_10, sl_11, sl_12, st_iconst, st_bipush, st_ldc, st_aconst_null, st_iload, st_lload, st_aload, st_istore, st_astore, st_lstore, st_iinc, st_iadd, st_isub, st_imul, st_iand, st_ior, st_ishl, st_ishr, st_iushr, st_idiv, st_irem, st_ineg, st_ladd, st_lsub, st_lmul, st_ldiv, st_lrem, st_lcmp, st_i2l, st_l2i, st_i2b, st_dup, st_dup2, st_pop, st_goto, st_ifCond, st_if_icmp, st_ifnull, st_ifnonnull, st_tableswitch, st_iaload, st_baload, st_laload, st_aaload, st_iastore, st_bastore, st_lastore, st_aastore, st_arraylength, st_new, st_newarray, st_anewarray, st_invokespecial, st_invokestatic, st_swap, st_checkcast, st_invokeinterface, st_ireturn, st_lreturn, st_areturn, st_return_, nI_add, nI_1, nI_lits, nI_litr, nI_litm, nI_litn, pk_mul, a_clamp, a_subl, a_lsub, a_sub, a_lt, a_ltl, a_llt, a_eq, a_eql, a_leq, a_m1, a_m1r, a_neg, a_lt0, a_0lt, a_eq0, a_0eq, lg_cmp_gt, lg_cmp_lt, lg_cmp_eq, n_lt1, n_lt0, n_le1, n_le0, n_eq1, n_eq0, g_sc_sc, g_sc_ar, g_sc_sm, g_sc_rh, g_sc_rl, g_sc_la, g_sc_im, g_sc_dy, g_ar_sc, g_ar_ar, g_ar_sm, g_ar_rh, g_ar_rl, g_ar_la, g_ar_im, g_ar_dy, g_sm_sc, g_sm_ar, g_sm_sm, g_sm_rh, g_sm_rl, g_sm_la, g_sm_im, g_sm_dy, g_rh_sc, g_rh_ar, g_rh_sm, g_rh_rh, g_rh_rl, g_rh_la, g_rh_im, g_rh_dy, g_rl_sc, g_rl_ar, g_rl_sm, g_rl_rh, g_rl_rl, g_rl_la, g_rl_im, g_rl_dy, g_la_sc, g_la_ar, g_la_sm, g_la_rh, g_la_rl, g_la_la, g_la_im, g_la_dy, g_im_sc, g_im_ar, g_im_sm, g_im_rh, g_im_rl, g_im_la, g_im_im, g_im_dy, g_dy_sc, g_dy_ar, g_dy_sm, g_dy_rh, g_dy_rl, g_dy_la, g_dy_im, g_dy_dy, n_scsc, n_arar, n_scar, n_scS, n_arS, n_smsc, n_smar, n_smsm, n_rhsc, n_rhar, n_rhrh, n_rlsc, n_rlar, n_rlrl, n_lasc, n_laar, n_lala, n_imsc, n_imar, n_imim, n_dysc, n_dyar, n_dydy, sem_M_partOf, hb_M_partOf, cm_87, vk_87, cm_105, vk_105, cm_106, vk_106, cm_108, vk_108, cm_111, vk_111, sem_M_sign, hb_M_sign, rc_40, wr_41, wr_42, wr_43, wr_44, wr_45, wr_46, wr_47, wr_48, wr_49, wr_50, wr_51, wr_52, wr_53, wr_54, wr_55, wr_56, wr_57, wr_58, wr_59, wr_60, wr_61, wr_62, wr_63, wr_64, wr_65, gf_4000, pf_4000, gf_4001, gf_4002, gf_4003, gf_4004, gf_4005, gf_4006, pf_4006, gf_4007, gf_4008, pf_4008, gf_4009, pf_4009, gf_4010, pf_4010, gf_4011, gf_4012, gf_4013, pf_4013, gf_4014, pf_4014, gf_4015, gf_4016, gf_4017, gf_4018, pf_4018, gf_4019, pf_4019, gf_4020, pf_4020, gf_4021, pf_4021, gf_4022, pf_4022, gf_4023, pf_4023, gf_4024, pf_4024, gf_4025, pf_4025, gf_4026, gf_4027, pf_4027, gf_4028, pf_4028, gf_4029, gf_4030, gf_4031, gf_4032, pf_4032, gf_4033, gf_4034, gf_4035, gf_4036, gf_4037, gf_4038, gf_4039, pf_4039, gf_4040, pf_4040, gf_4041, gf_4042, gf_4043, pf_4043, gf_4044, pf_4044, gf_4045, pf_4045, gf_4046, pf_4046, gf_4047, pf_4047, gf_4048, pf_4048, gf_4049, gf_4050, gf_4051, pf_4051, gf_4052, pf_4052, ww_41, ww_42, ww_43, ww_44, ww_45, ww_46, ww_47, ww_48, ww_49, ww_50, ww_51, ww_52, ww_53, ww_54, ww_55, ww_56, ww_57, ww_58, ww_59, ww_60, ww_61, ww_62, ww_63, ww_64, ww_65, tyX11, p1, cA, ew_sc, ew_ar, ew_g, hio, hv2, ov, b2i_t, b2i_f]
theorem e_brk_s {l b : Bool} {x : Int32} : e_brk l b (some x) = b := by simp [e_brk]
theorem m_partLeaf (h : e_P o E O T tc tv w) (hT4 : T ≤ 400) {d p k' p' : Nat} {a : vD} {l : Bool} (hq : q_leaf o tc tv k p = .inr (k', p', a)) (hd : 5 ≤ d) (hk : k ≤ T) : hv_sem d 110 [.ref 40, .int (b2i l)] (wB (eW w O k b)) = some (some (.long (e_val l b (a E))), wB (eW w O k' (e_brk l b (a E)))) := by
  simp only [q_leaf] at hq
  split at hq
  · rename_i hcc
    have hkT : k < T := q_ne0 h.1.2.2.2 (fun q => by rw [q] at hcc; revert hcc; cases o <;> simp)
    split at hq
    · cases hq
    · split at hq
      · rename_i h14
        obtain ⟨rfl, h14⟩ := h14
        split at hq
        · rename_i h5
          simp only [Sum.inr.injEq, Prod.mk.injEq] at hq
          obtain ⟨rfl, rfl, rfl⟩ := hq
          have hk1 : k + 1 < T := q_ne0 h.1.2.2.2 (fun q => by rw [q] at h5; exact absurd h5.1 (by decide))
          obtain ⟨j, hj, hjv⟩ := n_rng (a := 0) (c := 6) (by omega) h5.2.1 h5.2.2 (by omega)
          rw [Nat.zero_add] at hjv
          have hcl : (tv (k + 1)).toNatClampNeg = j := by rw [hjv]; exact a_clamp (by omega)
          rw [hcl, e_brk_s, show k + 2 = k + 1 + 1 from rfl]
          exact m_leafHas h hT4 hd hk1 (by omega) h14 hjv
        · cases hq
      · rename_i h14
        simp only [Sum.inr.injEq, Prod.mk.injEq] at hq
        obtain ⟨rfl, rfl, rfl⟩ := hq
        have n1 : ¬ (o = true ∧ tc k = 14) := fun q => h14 ⟨q.1, Or.inl q.2⟩
        have n2 : ¬ (o = true ∧ tc k = 15) := fun q => h14 ⟨q.1, Or.inr q.2⟩
        by_cases h50 : tc k = 50
        · simp only [if_pos h50]
          rw [e_brk_s]
          exact m_leafNum h hT4 hd hkT h50
        · simp only [if_neg h50]
          rw [e_brk_s]
          cases o
          · have hr : nI 10 ≤ tc k ∧ tc k ≤ nI 16 := by
              rcases hcc with q | q | q
              · exact absurd q.1 h50
              · cases q.1
              · exact q.2
            obtain ⟨i, hi, hti⟩ := n_rng (by omega) hr.1 hr.2 (by omega)
            exact m_leafLaw h hT4 hd hkT (by omega) hti
          · have hr : nI 14 ≤ tc k ∧ tc k ≤ nI 20 := by
              rcases hcc with q | q | q
              · exact absurd q.1 h50
              · exact q.2
              · cases q.1
            obtain ⟨i, hi, hti⟩ := n_rng (by omega) hr.1 hr.2 (by omega)
            have hi2 : ∃ i', i' < 5 ∧ i = i' + 2 := by
              have q1 : ¬ i = 0 := fun q => n1 ⟨rfl, by rw [hti, q]; rfl⟩
              have q2 : ¬ i = 1 := fun q => n2 ⟨rfl, by rw [hti, q]; rfl⟩
              exact ⟨i - 2, by omega, by omega⟩
            obtain ⟨i', hi', rfl⟩ := hi2
            have hs : 14 + (i' + 2) = 16 + i' := by omega
            rw [hs] at hti
            have hw : q_word true (tc k) = i' := by
              rw [hti]
              exact q_word_t i' hi'
            rw [hw]
            exact m_leafOrd h hT4 hd hkT hi' hti
  · cases hq
theorem m_partOf (h : e_P o E O T tc tv w) (hT4 : T ≤ 400) : ∀ r, e_ev w E O T 110 (3 * r + 5) (q_part o tc tv r) := by
  have h0 := h.1.2.2.2
  intro r
  induction r with
  | zero =>
    intro d k p k' p' a l b hq hd hk
    simp only [q_part] at hq
    split at hq
    · cases hq
    · rename_i hc
      exact m_partLeaf h hT4 hq (by omega) hk
  | succ r ih =>
    intro d k p k' p' a l b hq hd hk
    simp only [q_part] at hq
    split at hq
    · rename_i hc
      have hk1 : k < T := q_ne0 h0 (fun q => by rw [q] at hc; revert hc; decide)
      have hS := m_sumOf h hT4 (q_seq_ok (q_part_ok h0 r) q_mul0 h0) (by omega) (m_termOf h hT4 (q_part_ok h0 r) (by omega) ih)
      have h1 := h.1.1
      obtain ⟨d, rfl⟩ : ∃ e, d = e + 4 := ⟨d - 4, by omega⟩
      split at hq
      · cases hq
      · rename_i k1 p1 a1 hx
        have e1 := hS (d + 3) (k + 1) p k1 p1 a1 l b hx (by omega) hk1
        split at hq
        · rename_i h5
          simp only [Sum.inr.injEq, Prod.mk.injEq] at hq
          obtain ⟨rfl, rfl, rfl⟩ := hq
          have pT := m_passT (d := d + 3) (b := b) (by omega) h (show k ≤ 1000 by omega) hc
          simp -implicitDefEqProofs (disch := first | assumption | omega) [r_cons, r_nil, k_seq, k_blk, k_s0, k_s1, k_sr, k_sn, k_si, k_b0, k_b1, k_br, k_bn, k_bi, k_fr, k_fi, k_fn, k_l0, k_l1, k_l2, k_lr, k_ln, k_li, hv_nx, rc_none, hv_cmp, k_w0, k_wi, k_wr, k_wl, k_wn, k_wt, k_in0, k_ini, k_inr, k_inl, k_inn, k_int, k_nb0, k_nb1, k_nbi, k_ni, k_fi32, k_fb0, k_fb1, k_fbb, k_nbb, hv_st1, hv_st2, hv_k1, hv_ft, k_le, -Int32.not_lt, -Int32.not_le, gl_0, gl_1, gl_2, gl_3, gl_4, gl_5, gl_6, gl_7, gl_8, gl_9, gl_10, gl_11, gl_12, sl_0, sl_1, sl_2, sl_3, sl_4, sl_5, sl_6, sl_7, sl_8, sl_9, sl_10, sl_11, sl_12, st_iconst, st_bipush, st_ldc, st_aconst_null, st_iload, st_lload, st_aload, st_istore, st_astore, st_lstore, st_iinc, st_iadd, st_isub, st_imul, st_iand, st_ior, st_ishl, st_ishr, st_iushr, st_idiv, st_irem, st_ineg, st_ladd, st_lsub, st_lmul, st_ldiv, st_lrem, st_lcmp, st_i2l, st_l2i, st_i2b, st_dup, st_dup2, st_pop, st_goto, st_ifCond, st_if_icmp, st_ifnull, st_ifnonnull, st_tableswitch, st_iaload, st_baload, st_laload, st_aaload, st_iastore, st_bastore, st_lastore, st_aastore, st_arraylength, st_new, st_newarray, st_anewarray, st_invokespecial, st_invokestatic, st_swap, st_checkcast, st_invokeinterface, st_ireturn, st_lreturn, st_areturn, st_return_, nI_add, nI_1, nI_lits, nI_litr, nI_litm, nI_litn, pk_mul, a_clamp, a_subl, a_lsub, a_sub, a_lt, a_ltl, a_llt, a_eq, a_eql, a_leq, a_m1, a_m1r, a_neg, a_lt0, a_0lt, a_eq0, a_0eq, lg_cmp_gt, lg_cmp_lt, lg_cmp_eq, n_lt1, n_lt0, n_le1, n_le0, n_eq1, n_eq0, g_sc_sc, g_sc_ar, g_sc_sm, g_sc_rh, g_sc_rl, g_sc_la, g_sc_im, g_sc_dy, g_ar_sc, g_ar_ar, g_ar_sm, g_ar_rh, g_ar_rl, g_ar_la, g_ar_im, g_ar_dy, g_sm_sc, g_sm_ar, g_sm_sm, g_sm_rh, g_sm_rl, g_sm_la, g_sm_im, g_sm_dy, g_rh_sc, g_rh_ar, g_rh_sm, g_rh_rh, g_rh_rl, g_rh_la, g_rh_im, g_rh_dy, g_rl_sc, g_rl_ar, g_rl_sm, g_rl_rh, g_rl_rl, g_rl_la, g_rl_im, g_rl_dy, g_la_sc, g_la_ar, g_la_sm, g_la_rh, g_la_rl, g_la_la, g_la_im, g_la_dy, g_im_sc, g_im_ar, g_im_sm, g_im_rh, g_im_rl, g_im_la, g_im_im, g_im_dy, g_dy_sc, g_dy_ar, g_dy_sm, g_dy_rh, g_dy_rl, g_dy_la, g_dy_im, g_dy_dy, n_scsc, n_arar, n_scar, n_scS, n_arS, n_smsc, n_smar, n_smsm, n_rhsc, n_rhar, n_rhrh, n_rlsc, n_rlar, n_rlrl, n_lasc, n_laar, n_lala, n_imsc, n_imar, n_imim, n_dysc, n_dyar, n_dydy, sem_M_partOf, hb_M_partOf, cm_87, vk_87, cm_105, vk_105, cm_106, vk_106, cm_108, vk_108, cm_111, vk_111, sem_M_sign, hb_M_sign, rc_40, wr_41, wr_42, wr_43, wr_44, wr_45, wr_46, wr_47, wr_48, wr_49, wr_50, wr_51, wr_52, wr_53, wr_54, wr_55, wr_56, wr_57, wr_58, wr_59, wr_60, wr_61, wr_62, wr_63, wr_64, wr_65, gf_4000, pf_4000, gf_4001, gf_4002, gf_4003, gf_4004, gf_4005, gf_4006, pf_4006, gf_4007, gf_4008, pf_4008, gf_4009, pf_4009, gf_4010, pf_4010, gf_4011, gf_4012, gf_4013, pf_4013, gf_4014, pf_4014, gf_4015, gf_4016, gf_4017, gf_4018, pf_4018, gf_4019, pf_4019, gf_4020, pf_4020, gf_4021, pf_4021, gf_4022, pf_4022, gf_4023, pf_4023, gf_4024, pf_4024, gf_4025, pf_4025, gf_4026, gf_4027, pf_4027, gf_4028, pf_4028, gf_4029, gf_4030, gf_4031, gf_4032, pf_4032, gf_4033, gf_4034, gf_4035, gf_4036, gf_4037, gf_4038, gf_4039, pf_4039, gf_4040, pf_4040, gf_4041, gf_4042, gf_4043, pf_4043, gf_4044, pf_4044, gf_4045, pf_4045, gf_4046, pf_4046, gf_4047, pf_4047, gf_4048, pf_4048, gf_4049, gf_4050, gf_4051, pf_4051, gf_4052, pf_4052, ww_41, ww_42, ww_43, ww_44, ww_45, ww_46, ww_47, ww_48, ww_49, ww_50, ww_51, ww_52, ww_53, ww_54, ww_55, ww_56, ww_57, ww_58, ww_59, ww_60, ww_61, ww_62, ww_63, ww_64, ww_65, tyX11, pT, e1, ew_sc, ew_g]
        · cases hq
    · rename_i hc
      exact m_partLeaf h hT4 hq (by omega) hk
theorem m_sumAll (h : e_P o E O T tc tv w) (hT4 : T ≤ 400) (r : Nat) : e_ev w E O T 108 (3 * r + 7) (q_sum o tc tv r) := m_sumOf h hT4 (q_seq_ok (q_part_ok h.1.2.2.2 r) q_mul0 h.1.2.2.2) (by omega) (m_termOf h hT4 (q_part_ok h.1.2.2.2 r) (by omega) (m_partOf h hT4 r))
end MG
