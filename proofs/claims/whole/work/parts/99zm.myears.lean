/-! years: the reference's round. -/
section DA
variable {w : wW} {n k s q : Nat} {K0 H : Nat → Int32} {d : Nat} {law : Option (List qC)} {md a b : Int32} {X : dyX} {Y : rfX} {x : tX}
theorem rf_sc : s_sc (tT' (rfV (s_sc w 4052 a) Y) x) 4052 b = tT' (rfV (s_sc w 4052 b) Y) x := by
  rw [tt_osc (by omega)]
  congr 1
  simp -implicitDefEqProofs only [rfV, rfW, n_scar, n_scsc]
set_option maxHeartbeats 400000 in
theorem m_dyParts (h0 : 0 < n) (hl : lawIn K0 law) (hk : lOk law) (h7 : n ≤ 7) (h80 : K0 80 = md) (h81 : K0 81 = nI n) (hP : sfP K0 n X.1 Y.1) (hs : X.2.1 ≤ 1000003) (hd : 47 ≤ d) : ∃ (Y' : rfX) (x1 x2 : tX) (K : Nat → Int32), hv_sem d 170 [.ref 40, .int (nI n)] (wB (tT' (rfV (s_sc w 4052 (nI X.2.1)) Y) x)) = some (some (.int (nI (dyM n X.2.1))), wB (tT' (rfV (s_sc w 4052 (nI (dnx X.2.1))) Y) x)) ∧ hv_sem d 170 [.ref 40, .int 7] (wB (tT' (rfV (s_sc w 4052 (nI (dnx X.2.1))) Y) x)) = some (some (.int (nI (dyV X.2.1))), wB (tT' (rfV (s_sc w 4052 (nI (dnx (dnx X.2.1)))) Y) x)) ∧ hv_sem d 124 [.ref 40, .int (nI (dyV X.2.1)), .int (nI (dyM n X.2.1))] (wB (tT' (rfV (s_sc w 4052 (nI (dnx (dnx X.2.1)))) Y) x)) = some (some (.int (b2i (dyG law md n X))), wB (tT' (rfV (s_sc w 4052 (nI (dnx (dnx X.2.1)))) Y) x1)) ∧ hv_sem d 125 [.ref 40, .int (nI (dyM n X.2.1)), .int (nI (dyV X.2.1))] (wB (tT' (rfV (s_sc w 4052 (nI (dnx (dnx X.2.1)))) Y) x1)) = some (none, wB (tT' (rfV (s_sc w 4052 (nI (dnx (dnx X.2.1)))) (K, Y.2)) x1)) ∧ hv_sem d 126 [.ref 40] (wB (tT' (rfV (s_sc w 4052 (nI (dnx (dnx X.2.1)))) (if dyG law md n X = true then K else Y.1, Y.2)) x1)) = some (none, wB (tT' (rfV (s_sc w 4052 (nI (dnx (dnx X.2.1)))) Y') x2)) ∧ sfP K0 n (dyS law md n X).1 Y'.1 := by
  obtain ⟨H, s, g⟩ := X
  obtain ⟨Ky, T, S, D, A, R⟩ := Y
  replace hP : sfP K0 n H Ky := hP
  replace hs : s ≤ 1000003 := hs
  have e1 := m_draws (w := tT' (rfV (s_sc w 4052 (nI s)) (Ky, T, S, D, A, R)) x) (s := s) rfl hs h0 h7 (d := d) (by omega)
  rw [rf_sc] at e1
  have b1 := @dnx_lt s
  have e2 := m_draws (w := tT' (rfV (s_sc w 4052 (nI (dnx s))) (Ky, T, S, D, A, R)) x) (s := dnx s) (n := 7) rfl (by omega) (by omega) (by omega) (d := d) (by omega)
  rw [rf_sc] at e2
  have hm : dyM n s < n := Nat.mod_lt _ h0
  have hv : dyV s < 7 := Nat.mod_lt _ (by omega)
  obtain ⟨p1, p2⟩ := hP
  have g1 : lawIn Ky law := lawIn_cg hl p2
  have g2 : Ky 80 = md := (p2 80 (by omega)).trans h80
  have g3 : Ky 81 = nI n := (p2 81 (by omega)).trans h81
  obtain ⟨x1, e3⟩ := m_canGive (w := rfW (s_sc w 4052 (nI (dnx (dnx s)))) Ky T S D A R) (law := law) (md := md) (n := n) (H := H) ⟨g1, p1, g2, h7, hk⟩ g3 hv hm (z := x) (d := d) (by omega)
  have e4 := m_gives (w := tT' (rfW (s_sc w 4052 (nI (dnx (dnx s)))) Ky T S D A R) x1) (m := dyM n s) (y := nI (dyV s)) (by omega) (d := d) (by omega)
  rw [show w_ar (tT' (rfW (s_sc w 4052 (nI (dnx (dnx s)))) Ky T S D A R) x1) 42 = Ky from rfl, tt_oar (by omega), rf_42] at e4
  have hH := hA_dyH (law := law) (md := md) (X := (H, s, g)) (F := Ky) p1
  replace hH : hA n (if dyG law md n (H, s, g) = true then upd (upd Ky (49 + dyM n s) (nI (dyV s))) (56 + dyM n s) 0 else Ky) (dyH law md n (H, s, g)) := hH
  have hf : ∀ i, 64 ≤ i → (if dyG law md n (H, s, g) = true then upd (upd Ky (49 + dyM n s) (nI (dyV s))) (56 + dyM n s) 0 else Ky) i = K0 i := by
    intro i hi
    split
    · rw [upd_ne (by omega), upd_ne (by omega), p2 i hi]
    · exact p2 i hi
  obtain ⟨K, hK⟩ : ∃ K, K = (if dyG law md n (H, s, g) = true then upd (upd Ky (49 + dyM n s) (nI (dyV s))) (56 + dyM n s) 0 else Ky) := ⟨_, rfl⟩
  rw [← hK] at hH hf
  obtain ⟨T', G, x2, e5, q1, q2⟩ := m_yearD (w := s_sc w 4052 (nI (dnx (dnx s)))) (K := K) (T := T) (S := S) (D := D) (A := A) (R := R) (lawIn_cg hl hf) hk h7 hH ((hf 80 (by omega)).trans h80) ((hf 81 (by omega)).trans h81) (d := d) (by omega) x1
  subst hK
  exact ⟨(G, T', S, D, A, R), x1, x2, _, e1, e2, e3, e4, e5, q1, fun i hi => (q2 i hi).trans (hf i hi)⟩
set_option maxHeartbeats 400000 in
theorem m_dyYear (h0 : 0 < n) (hl : lawIn K0 law) (hk : lOk law) (h7 : n ≤ 7) (h80 : K0 80 = md) (h81 : K0 81 = nI n) (hP : sfP K0 n X.1 Y.1) (hs : X.2.1 ≤ 1000003) (h51 : w_sc w 4051 = nI n) (hd : 48 ≤ d) : ∃ (Y' : rfX) (x2 : tX), hv_sem d 171 [.ref 40] (wB (tT' (rfV (s_sc w 4052 (nI X.2.1)) Y) x)) = some (some (.int (b2i (dyG law md n X))), wB (tT' (rfV (s_sc w 4052 (nI (dnx (dnx X.2.1)))) Y') x2)) ∧ sfP K0 n (dyS law md n X).1 Y'.1 := by
  obtain ⟨d, rfl⟩ : ∃ e, d = e + 1 := ⟨d - 1, by omega⟩
  obtain ⟨Y', x1, x2, K, e1, e2, e3, e4, e5, hP'⟩ := m_dyParts (w := w) (x := x) h0 hl hk h7 h80 h81 hP hs (d := d) (by omega)
  refine ⟨Y', x2, ?_, hP'⟩
  have h51' : w_sc (tT' (rfV (s_sc w 4052 (nI X.2.1)) Y) x) 4051 = nI n := h51
  clear hP hP' hl h80 h81
  generalize dyM n X.2.1 = m at *
  generalize dyV X.2.1 = v at *
  cases hG : dyG law md n X
  · rw [hG, if_neg (by decide)] at e5
    rw [hG] at e3
    replace e5 : hv_sem d 126 [.ref 40] (wB (tT' (rfV (s_sc w 4052 (nI (dnx (dnx X.2.1)))) Y) x1)) = some (none, wB (tT' (rfV (s_sc w 4052 (nI (dnx (dnx X.2.1)))) Y') x2)) := e5
    generalize tT' (rfV (s_sc w 4052 (nI X.2.1)) Y) x = u0 at *
    generalize tT' (rfV (s_sc w 4052 (nI (dnx X.2.1))) Y) x = u1 at *
    generalize tT' (rfV (s_sc w 4052 (nI (dnx (dnx X.2.1)))) Y) x = u2 at *
    generalize tT' (rfV (s_sc w 4052 (nI (dnx (dnx X.2.1)))) Y) x1 = u3 at *
    generalize tT' (rfV (s_sc w 4052 (nI (dnx (dnx X.2.1)))) Y') x2 = u5 at *
    simp -implicitDefEqProofs (disch := first | assumption | omega) [r_cons, r_nil, k_seq, k_blk, k_s0, k_s1, k_sr, k_sn, k_si, k_b0, k_b1, k_br, k_bn, k_bi, k_fr, k_fi, k_fn, k_l0, k_l1, k_l2, k_lr, k_ln, k_li, hv_nx, rc_none, hv_cmp, k_w0, k_wi, k_wr, k_wl, k_wn, k_wt, k_in0, k_ini, k_inr, k_inl, k_inn, k_int, k_nb0, k_nb1, k_nbi, k_ni, k_fi32, k_fb0, k_fb1, k_fbb, k_nbb, hv_st1, hv_st2, hv_k1, hv_ft, k_le, -Int32.not_lt, -Int32.not_le, gl_0, gl_1, gl_2, gl_3, gl_4, gl_5, gl_6, gl_7, gl_8, gl_9, gl_10, gl_11, gl_12, sl_0, sl_1, sl_2, sl_3, sl_4, sl_5, sl_6, sl_7, sl_8, sl_9, sl_10, sl_11, sl_12, st_iconst, st_bipush, st_ldc, st_aconst_null, st_iload, st_lload, st_aload, st_istore, st_astore, st_lstore, st_iinc, st_iadd, st_isub, st_imul, st_iand, st_ior, st_ishl, st_ishr, st_iushr, st_idiv, st_irem, st_ineg, st_ladd, st_lsub, st_lmul, st_ldiv, st_lrem, st_lcmp, st_i2l, st_l2i, st_i2b, st_dup, st_dup2, st_pop, st_goto, st_ifCond, st_if_icmp, st_ifnull, st_ifnonnull, st_tableswitch, st_iaload, st_baload, st_laload, st_aaload, st_iastore, st_bastore, st_lastore, st_aastore, st_arraylength, st_new, st_newarray, st_anewarray, st_invokespecial, st_invokestatic, st_swap, st_checkcast, st_invokeinterface, st_ireturn, st_lreturn, st_areturn, st_return_, nI_add, nI_1, nI_lits, nI_litr, nI_litm, nI_litn, pk_mul, a_clamp, a_subl, a_lsub, a_sub, a_lt, a_ltl, a_llt, a_eq, a_eql, a_leq, a_m1, a_m1r, a_neg, a_lt0, a_0lt, a_eq0, a_0eq, lg_cmp_gt, lg_cmp_lt, lg_cmp_eq, n_lt1, n_lt0, n_le1, n_le0, n_eq1, n_eq0, g_sc_sc, g_sc_ar, g_sc_sm, g_sc_rh, g_sc_rl, g_sc_la, g_sc_im, g_sc_dy, g_ar_sc, g_ar_ar, g_ar_sm, g_ar_rh, g_ar_rl, g_ar_la, g_ar_im, g_ar_dy, g_sm_sc, g_sm_ar, g_sm_sm, g_sm_rh, g_sm_rl, g_sm_la, g_sm_im, g_sm_dy, g_rh_sc, g_rh_ar, g_rh_sm, g_rh_rh, g_rh_rl, g_rh_la, g_rh_im, g_rh_dy, g_rl_sc, g_rl_ar, g_rl_sm, g_rl_rh, g_rl_rl, g_rl_la, g_rl_im, g_rl_dy, g_la_sc, g_la_ar, g_la_sm, g_la_rh, g_la_rl, g_la_la, g_la_im, g_la_dy, g_im_sc, g_im_ar, g_im_sm, g_im_rh, g_im_rl, g_im_la, g_im_im, g_im_dy, g_dy_sc, g_dy_ar, g_dy_sm, g_dy_rh, g_dy_rl, g_dy_la, g_dy_im, g_dy_dy, n_scsc, n_arar, n_scar, n_scS, n_arS, n_smsc, n_smar, n_smsm, n_rhsc, n_rhar, n_rhrh, n_rlsc, n_rlar, n_rlrl, n_lasc, n_laar, n_lala, n_imsc, n_imar, n_imim, n_dysc, n_dyar, n_dydy, sem_M_yearIsDrawn, hb_M_yearIsDrawn, cm_124, vk_124, cm_125, vk_125, cm_126, vk_126, cm_170, vk_170, rc_40, wr_41, wr_42, wr_43, wr_44, wr_45, wr_46, wr_47, wr_48, wr_49, wr_50, wr_51, wr_52, wr_53, wr_54, wr_55, wr_56, wr_57, wr_58, wr_59, wr_60, wr_61, wr_62, wr_63, wr_64, wr_65, gf_4000, pf_4000, gf_4001, gf_4002, gf_4003, gf_4004, gf_4005, gf_4006, pf_4006, gf_4007, gf_4008, pf_4008, gf_4009, pf_4009, gf_4010, pf_4010, gf_4011, gf_4012, gf_4013, pf_4013, gf_4014, pf_4014, gf_4015, gf_4016, gf_4017, gf_4018, pf_4018, gf_4019, pf_4019, gf_4020, pf_4020, gf_4021, pf_4021, gf_4022, pf_4022, gf_4023, pf_4023, gf_4024, pf_4024, gf_4025, pf_4025, gf_4026, gf_4027, pf_4027, gf_4028, pf_4028, gf_4029, gf_4030, gf_4031, gf_4032, pf_4032, gf_4033, gf_4034, gf_4035, gf_4036, gf_4037, gf_4038, gf_4039, pf_4039, gf_4040, pf_4040, gf_4041, gf_4042, gf_4043, pf_4043, gf_4044, pf_4044, gf_4045, pf_4045, gf_4046, pf_4046, gf_4047, pf_4047, gf_4048, pf_4048, gf_4049, gf_4050, gf_4051, pf_4051, gf_4052, pf_4052, ww_41, ww_42, ww_43, ww_44, ww_45, ww_46, ww_47, ww_48, ww_49, ww_50, ww_51, ww_52, ww_53, ww_54, ww_55, ww_56, ww_57, ww_58, ww_59, ww_60, ww_61, ww_62, ww_63, ww_64, ww_65, tyX11, h51', e1, e2, e3, e5, b2i_f]
  · rw [hG, if_pos rfl] at e5
    rw [hG] at e3
    generalize tT' (rfV (s_sc w 4052 (nI X.2.1)) Y) x = u0 at *
    generalize tT' (rfV (s_sc w 4052 (nI (dnx X.2.1))) Y) x = u1 at *
    generalize tT' (rfV (s_sc w 4052 (nI (dnx (dnx X.2.1)))) Y) x = u2 at *
    generalize tT' (rfV (s_sc w 4052 (nI (dnx (dnx X.2.1)))) Y) x1 = u3 at *
    generalize tT' (rfV (s_sc w 4052 (nI (dnx (dnx X.2.1)))) (K, Y.2)) x1 = u4 at *
    generalize tT' (rfV (s_sc w 4052 (nI (dnx (dnx X.2.1)))) Y') x2 = u5 at *
    simp -implicitDefEqProofs (disch := first | assumption | omega) [r_cons, r_nil, k_seq, k_blk, k_s0, k_s1, k_sr, k_sn, k_si, k_b0, k_b1, k_br, k_bn, k_bi, k_fr, k_fi, k_fn, k_l0, k_l1, k_l2, k_lr, k_ln, k_li, hv_nx, rc_none, hv_cmp, k_w0, k_wi, k_wr, k_wl, k_wn, k_wt, k_in0, k_ini, k_inr, k_inl, k_inn, k_int, k_nb0, k_nb1, k_nbi, k_ni, k_fi32, k_fb0, k_fb1, k_fbb, k_nbb, hv_st1, hv_st2, hv_k1, hv_ft, k_le, -Int32.not_lt, -Int32.not_le, gl_0, gl_1, gl_2, gl_3, gl_4, gl_5, gl_6, gl_7, gl_8, gl_9, gl_10, gl_11, gl_12, sl_0, sl_1, sl_2, sl_3, sl_4, sl_5, sl_6, sl_7, sl_8, sl_9, sl_10, sl_11, sl_12, st_iconst, st_bipush, st_ldc, st_aconst_null, st_iload, st_lload, st_aload, st_istore, st_astore, st_lstore, st_iinc, st_iadd, st_isub, st_imul, st_iand, st_ior, st_ishl, st_ishr, st_iushr, st_idiv, st_irem, st_ineg, st_ladd, st_lsub, st_lmul, st_ldiv, st_lrem, st_lcmp, st_i2l, st_l2i, st_i2b, st_dup, st_dup2, st_pop, st_goto, st_ifCond, st_if_icmp, st_ifnull, st_ifnonnull, st_tableswitch, st_iaload, st_baload, st_laload, st_aaload, st_iastore, st_bastore, st_lastore, st_aastore, st_arraylength, st_new, st_newarray, st_anewarray, st_invokespecial, st_invokestatic, st_swap, st_checkcast, st_invokeinterface, st_ireturn, st_lreturn, st_areturn, st_return_, nI_add, nI_1, nI_lits, nI_litr, nI_litm, nI_litn, pk_mul, a_clamp, a_subl, a_lsub, a_sub, a_lt, a_ltl, a_llt, a_eq, a_eql, a_leq, a_m1, a_m1r, a_neg, a_lt0, a_0lt, a_eq0, a_0eq, lg_cmp_gt, lg_cmp_lt, lg_cmp_eq, n_lt1, n_lt0, n_le1, n_le0, n_eq1, n_eq0, g_sc_sc, g_sc_ar, g_sc_sm, g_sc_rh, g_sc_rl, g_sc_la, g_sc_im, g_sc_dy, g_ar_sc, g_ar_ar, g_ar_sm, g_ar_rh, g_ar_rl, g_ar_la, g_ar_im, g_ar_dy, g_sm_sc, g_sm_ar, g_sm_sm, g_sm_rh, g_sm_rl, g_sm_la, g_sm_im, g_sm_dy, g_rh_sc, g_rh_ar, g_rh_sm, g_rh_rh, g_rh_rl, g_rh_la, g_rh_im, g_rh_dy, g_rl_sc, g_rl_ar, g_rl_sm, g_rl_rh, g_rl_rl, g_rl_la, g_rl_im, g_rl_dy, g_la_sc, g_la_ar, g_la_sm, g_la_rh, g_la_rl, g_la_la, g_la_im, g_la_dy, g_im_sc, g_im_ar, g_im_sm, g_im_rh, g_im_rl, g_im_la, g_im_im, g_im_dy, g_dy_sc, g_dy_ar, g_dy_sm, g_dy_rh, g_dy_rl, g_dy_la, g_dy_im, g_dy_dy, n_scsc, n_arar, n_scar, n_scS, n_arS, n_smsc, n_smar, n_smsm, n_rhsc, n_rhar, n_rhrh, n_rlsc, n_rlar, n_rlrl, n_lasc, n_laar, n_lala, n_imsc, n_imar, n_imim, n_dysc, n_dyar, n_dydy, sem_M_yearIsDrawn, hb_M_yearIsDrawn, cm_124, vk_124, cm_125, vk_125, cm_126, vk_126, cm_170, vk_170, rc_40, wr_41, wr_42, wr_43, wr_44, wr_45, wr_46, wr_47, wr_48, wr_49, wr_50, wr_51, wr_52, wr_53, wr_54, wr_55, wr_56, wr_57, wr_58, wr_59, wr_60, wr_61, wr_62, wr_63, wr_64, wr_65, gf_4000, pf_4000, gf_4001, gf_4002, gf_4003, gf_4004, gf_4005, gf_4006, pf_4006, gf_4007, gf_4008, pf_4008, gf_4009, pf_4009, gf_4010, pf_4010, gf_4011, gf_4012, gf_4013, pf_4013, gf_4014, pf_4014, gf_4015, gf_4016, gf_4017, gf_4018, pf_4018, gf_4019, pf_4019, gf_4020, pf_4020, gf_4021, pf_4021, gf_4022, pf_4022, gf_4023, pf_4023, gf_4024, pf_4024, gf_4025, pf_4025, gf_4026, gf_4027, pf_4027, gf_4028, pf_4028, gf_4029, gf_4030, gf_4031, gf_4032, pf_4032, gf_4033, gf_4034, gf_4035, gf_4036, gf_4037, gf_4038, gf_4039, pf_4039, gf_4040, pf_4040, gf_4041, gf_4042, gf_4043, pf_4043, gf_4044, pf_4044, gf_4045, pf_4045, gf_4046, pf_4046, gf_4047, pf_4047, gf_4048, pf_4048, gf_4049, gf_4050, gf_4051, pf_4051, gf_4052, pf_4052, ww_41, ww_42, ww_43, ww_44, ww_45, ww_46, ww_47, ww_48, ww_49, ww_50, ww_51, ww_52, ww_53, ww_54, ww_55, ww_56, ww_57, ww_58, ww_59, ww_60, ww_61, ww_62, ww_63, ww_64, ww_65, tyX11, h51', e1, e2, e3, e4, e5, b2i_t]
end DA
