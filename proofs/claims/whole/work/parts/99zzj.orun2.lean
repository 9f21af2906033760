/-! Orders: the class's run, whole. -/
section OJ
variable {w w1 w2 : wW} {d n u i k tm l : Nat} {H H0 : Nat → Int32} {md fc : Int32} {sn : Nat} {ls : List (List qC)} {sv ss : Nat → Int32} {im : Nat → Option aW} {tr tr0 : aTr} {tp : (Nat → Nat) × Nat} {cr fa sta : Int32} {rf : Nat → Int32} {dr : Nat × (Nat → Int32)} {q : qC} {M S : Nat → Int32} {X : oX}
set_option maxHeartbeats 1000000 in
theorem v_oStep (h7 : n ≤ 7) (hI : oI (fun H tr => ((H, md, n, ls, fc, sn, sv, ss), im, tr, tp, (cr, fa, sta, -1, rf), dr)) w X) (ah : ahD n md w H0 tr0) (h : w_sc w 3603 = nI l) (hl : l ≤ 400) (hM : w_ar w 37 = M) (hS : w_ar w 38 = S) (hi : i < 12) (hq : clO M S 19 l i q) (hk : k < tm) (ht : tm ≤ 20) (hd : 50 ≤ d) : ∃ o, oT d n (fun H tr => ((H, md, n, ls, fc, sn, sv, ss), im, tr, tp, (cr, fa, sta, -1, rf), dr)) q X o ∧ oQ w (fun H tr => ((H, md, n, ls, fc, sn, sv, ss), im, tr, tp, (cr, fa, sta, -1, rf), dr)) (fun x => ((H0, md, n, ls, fc, sn, sv, ss), im, tr0, tp, (cr, fa, sta, x, rf), dr)) (hl_Deeds_run_1 (hv_step hv_cm hv_vk hv_dv hv_ft 0 0 (some .int) (hv_sem (d + 1))) ([some (.ref 24), some (.ref 36), some (.int (nI i)), some (.int (nI tm)), some (.int (nI k))], [], wB w, 0, 0)) i tm k o := by
  obtain ⟨H, tr, dn, lt⟩ := X
  obtain ⟨hv, ha, h8, h9⟩ := hI
  replace hv : vAll w ((H, md, n, ls, fc, sn, sv, ss), im, tr, tp, (cr, fa, sta, -1, rf), dr) := hv
  replace ha : aAll ((H, md, n, ls, fc, sn, sv, ss), im, tr, tp, (cr, fa, sta, -1, rf), dr) := ha
  replace h8 : w_sc w 2408 = nI dn := h8
  replace h9 : w_sc w 2409 = lt := h9
  have hvm : vMain w (H, md, n, ls, fc, sn, sv, ss) := by
    obtain ⟨un, TK, TH⟩ := tr
    obtain ⟨y, t⟩ := tp
    obtain ⟨dn, DH⟩ := dr
    exact hv.1
  have ham : aOk (H, md, n, ls, fc, sn, sv, ss) := by
    obtain ⟨un, TK, TH⟩ := tr
    obtain ⟨y, t⟩ := tp
    obtain ⟨dn, DH⟩ := dr
    exact ha.1
  have hW := ham.2.2.2.2.1
  obtain ⟨G, es, hG⟩ := v_setWords (w := w) hvm.2.2.1 h7 (hWf_hA hW hvm.1) h8 h9 (d := d + 1) (by omega)
  rw [oE_cg hvm.1 (hWf_vows hW)] at hG
  obtain ⟨wb, ew, kb⟩ := v_wanted (w := s_ar w 33 G) (E := oE n H dn lt) h hl hM hS hG hi hq.2.2.2.2.2.2 (d := d + 1) (by omega)
  have hvb := kw_vAll kb (w33_vAll (G := G) hv)
  have fb : fO w wb := fO_trans w33_fO (kw_fO kb).1
  obtain ⟨r1, r2, r3, r4⟩ := kw_37 kb
  by_cases hc : q.2.2.2.2 (oE n H dn lt) = some true
  · rw [show b2i (decide (q.2.2.2.2 (oE n H dn lt) = some true)) = 1 by rw [decide_eq_true hc]; rfl] at ew
    have hcy := v_carry (w := wb) (E := oE n H dn lt) (q := q) (r4.trans h) hl (r1.trans hM) (r2.trans hS) (fun k hk => by rw [r3]; exact hG k hk) hi hq (d := d) (by omega)
    cases ho : oAr q.1 q.2.1 q.2.2.1 (oE n H dn lt) with
    | none =>
      rw [ho] at hcy
      obtain ⟨wc, kc, ec⟩ := hcy
      refine ⟨none, Or.inr ⟨hc, Or.inl ⟨ho, rfl⟩⟩, ?_⟩
      exact v_oFail es ew ec (Or.inr (Or.inr rfl)) hk ht (kw_vAll kc hvb) h7 (ahD_fO ah (fO_trans fb (kw_fO kc).1)) (fO_trans fb (kw_fO kc).1).1
    | some xy =>
      obtain ⟨x, y⟩ := xy
      rw [ho] at hcy
      obtain ⟨wc, kc, hcy⟩ := hcy
      have hvc := kw_vAll kc hvb
      have fc' := fO_trans fb (kw_fO kc).1
      obtain ⟨z, hC, hR⟩ := d_pair (kd := q.1) hq.2.1 hvc ha hd x y
      refine ⟨z.map (fun z => (z.2.1, z.2.2, dn + 1, if q.1 = 0 then z.1 else lt)), Or.inr ⟨hc, Or.inr ⟨x, y, z, ho, hR, rfl⟩⟩, ?_⟩
      cases z with
      | none =>
        obtain ⟨kk, w4, e4, hn, g1, g2, g3⟩ := hC
        have ec := hcy kk w4 e4
        have hfo : fO wc (if q.1 = 0 then s_sc w4 2409 kk else w4) := by
          split
          · exact fO_trans (fO_fD g2 g3) (w24_fO (y := 0)).1
          · exact fO_fD g2 g3
        refine v_oFail es ew ec hn hk ht (H := H) (tr := tr) (sp := -1) ?_ h7 (ahD_fO ah (fO_trans fc' hfo)) (fO_trans fc' hfo).1
        split
        · exact (w24_vAll (y := 0) g1).1
        · exact g1
      | some z =>
        obtain ⟨r, H', tr'⟩ := z
        obtain ⟨w4, e4, g1, g2, g3, g5⟩ := hC
        have hrg : rg 2000 r := hR.1
        have ec := hcy r w4 e4
        have hfo : fO wc (if q.1 = 0 then s_sc w4 2409 r else w4) := by
          split
          · exact fO_trans (fO_fD g2 g3) (w24_fO (y := 0)).1
          · exact fO_fD g2 g3
        have hv5 : vAll (if q.1 = 0 then s_sc w4 2409 r else w4) ((H', md, n, ls, fc, sn, sv, ss), im, tr', tp, (cr, fa, sta, -1, rf), dr) := by
          split
          · exact (w24_vAll (y := 0) g1).1
          · exact g1
        have k8 : w_sc wc 2408 = nI dn ∧ w_sc wc 2409 = lt := by
          obtain ⟨s', t', dd', rfl⟩ := kc
          obtain ⟨s1, t1, dd1, rfl⟩ := kb
          exact ⟨h8, h9⟩
        have h85 : w_sc (if q.1 = 0 then s_sc w4 2409 r else w4) 2408 = nI dn := by
          split
          · exact g3.1.trans k8.1
          · exact g3.1.trans k8.1
        have h95 : w_sc (if q.1 = 0 then s_sc w4 2409 r else w4) 2409 = if q.1 = 0 then r else lt := by
          by_cases q0 : q.1 = 0
          · rw [if_pos q0, if_pos q0]
            rfl
          · rw [if_neg q0, if_neg q0]
            exact g3.2.1.trans k8.2
        generalize (if q.1 = 0 then s_sc w4 2409 r else w4) = w5 at *
        refine ⟨s_sc w5 2408 (nI (dn + 1)), ?_, ⟨(w24_vAll (x := 0) hv5).2, g5, rfl, h95⟩, fO_trans fc' (fO_trans hfo (w24_fO (x := 0)).2)⟩
        obtain ⟨kr, hkr, rfl⟩ := hrg
        clear hv5 g1 g5 hR hcy ah hv ha hvm ham hvb hvc
        simp -implicitDefEqProofs (disch := first | assumption | omega) [r_cons, r_nil, k_seq, k_blk, k_s0, k_s1, k_sr, k_sn, k_si, k_b0, k_b1, k_br, k_bn, k_bi, k_fr, k_fi, k_fn, k_l0, k_l1, k_l2, k_lr, k_ln, k_li, hv_nx, rc_none, hv_cmp, k_w0, k_wi, k_wr, k_wl, k_wn, k_wt, k_in0, k_ini, k_inr, k_inl, k_inn, k_int, k_nb0, k_nb1, k_nbi, k_ni, k_fi32, k_fb0, k_fb1, k_fbb, k_nbb, hv_st1, hv_st2, hv_k1, hv_ft, k_le, -Int32.not_lt, -Int32.not_le, gl_0, gl_1, gl_2, gl_3, gl_4, gl_5, gl_6, gl_7, gl_8, gl_9, gl_10, gl_11, gl_12, sl_0, sl_1, sl_2, sl_3, sl_4, sl_5, sl_6, sl_7, sl_8, sl_9, sl_10, sl_11, sl_12, st_iconst, st_bipush, st_ldc, st_aconst_null, st_iload, st_lload, st_aload, st_istore, st_astore, st_lstore, st_iinc, st_iadd, st_isub, st_imul, st_iand, st_ior, st_ishl, st_ishr, st_iushr, st_idiv, st_irem, st_ineg, st_ladd, st_lsub, st_lmul, st_ldiv, st_lrem, st_lcmp, st_i2l, st_l2i, st_i2b, st_dup, st_dup2, st_pop, st_goto, st_ifCond, st_if_icmp, st_ifnull, st_ifnonnull, st_tableswitch, st_iaload, st_baload, st_laload, st_aaload, st_iastore, st_bastore, st_lastore, st_aastore, st_arraylength, st_new, st_newarray, st_anewarray, st_invokespecial, st_invokestatic, st_swap, st_checkcast, st_invokeinterface, st_ireturn, st_lreturn, st_areturn, st_return_, nI_add, nI_1, nI_lits, nI_litr, nI_litm, nI_litn, pk_mul, a_clamp, a_subl, a_lsub, a_sub, a_lt, a_ltl, a_llt, a_eq, a_eql, a_leq, a_m1, a_m1r, a_neg, a_lt0, a_0lt, a_eq0, a_0eq, lg_cmp_gt, lg_cmp_lt, lg_cmp_eq, n_lt1, n_lt0, n_le1, n_le0, n_eq1, n_eq0, g_sc_sc, g_sc_ar, g_sc_sm, g_sc_rh, g_sc_rl, g_sc_la, g_sc_im, g_sc_dy, g_ar_sc, g_ar_ar, g_ar_sm, g_ar_rh, g_ar_rl, g_ar_la, g_ar_im, g_ar_dy, g_sm_sc, g_sm_ar, g_sm_sm, g_sm_rh, g_sm_rl, g_sm_la, g_sm_im, g_sm_dy, g_rh_sc, g_rh_ar, g_rh_sm, g_rh_rh, g_rh_rl, g_rh_la, g_rh_im, g_rh_dy, g_rl_sc, g_rl_ar, g_rl_sm, g_rl_rh, g_rl_rl, g_rl_la, g_rl_im, g_rl_dy, g_la_sc, g_la_ar, g_la_sm, g_la_rh, g_la_rl, g_la_la, g_la_im, g_la_dy, g_im_sc, g_im_ar, g_im_sm, g_im_rh, g_im_rl, g_im_la, g_im_im, g_im_dy, g_dy_sc, g_dy_ar, g_dy_sm, g_dy_rh, g_dy_rl, g_dy_la, g_dy_im, g_dy_dy, n_scsc, n_arar, n_scar, n_scS, n_arS, n_smsc, n_smar, n_smsm, n_rhsc, n_rhar, n_rhrh, n_rlsc, n_rlar, n_rlrl, n_lasc, n_laar, n_lala, n_imsc, n_imar, n_imim, n_dysc, n_dyar, n_dydy, hl_Deeds_run_1, cm_199, vk_199, cm_209, vk_209, cm_210, vk_210, cm_211, vk_211, cm_229, vk_229, cm_293, vk_293, rc_0, rc_1, rc_2, wr_3, wr_4, wr_5, wr_6, wr_7, rc_8, wr_9, rc_10, wr_11, rc_12, wr_13, wr_14, wr_15, wr_16, wr_17, rc_18, rc_19, wr_20, rc_21, wr_22, wr_23, rc_24, rc_25, wr_26, wr_27, rc_28, wr_29, wr_30, rc_31, wr_32, wr_33, wr_34, rc_35, rc_36, wr_37, wr_38, wr_39, gf_0, gf_1, gf_2, gf_3, gf_4, gf_5, gf_6, gf_7, gf_8, gf_9, gf_10, gf_11, pf_11, gf_12, pf_12, gf_13, pf_13, gf_14, pf_14, gf_100, gf_101, gf_102, gf_103, gf_104, pf_104, gf_105, pf_105, gf_106, pf_106, gf_200, ww_3, ww_4, ww_5, ww_6, ww_7, gf_800, gf_801, pf_801, gf_802, pf_802, ww_9, gf_1000, gf_1001, gf_1002, pf_rh, gf_1003, pf_rl, pf_rn, ww_11, gf_1200, gf_1201, gf_1202, gf_1203, gf_1204, gf_1205, pf_1205, gf_1206, pf_1206, ww_13, ww_14, ww_15, ww_16, ww_17, gf_1800, gf_1801, gf_1802, gf_1803, gf_1804, gf_1805, pf_1805, gf_1900, ww_20, gf_2100, ww_22, ww_23, gf_2400, gf_2401, gf_2402, gf_2403, gf_2404, gf_2405, gf_2406, gf_2407, gf_2408, pf_2408, gf_2409, pf_2409, gf_2410, pf_2410, gf_2500, gf_2501, gf_2502, pf_2502, ww_26, ww_27, gf_2800, gf_2801, gf_2802, pf_2802, ww_29, ww_30, gf_3100, ww_32, ww_33, ww_34, gf_3500, gf_3501, gf_3502, pf_3502, gf_3503, pf_3503, gf_3504, pf_3504, gf_3505, pf_3505, gf_3506, pf_3506, gf_3507, pf_3507, gf_3508, pf_3508, gf_3600, gf_3601, gf_3602, pf_3602, gf_3603, pf_3603, ww_37, ww_38, ww_39, tyX1, tyX2, tyX3, tyX8, es, ew, ec, h85]
  · rw [show b2i (decide (q.2.2.2.2 (oE n H dn lt) = some true)) = 0 by rw [decide_eq_false hc]; rfl] at ew
    refine ⟨some (H, tr, dn, lt), Or.inl ⟨hc, rfl⟩, wb, ?_, ⟨hvb, ha, ?_, ?_⟩, fb⟩
    · clear hvb ah hv ha hvm ham
      simp -implicitDefEqProofs (disch := first | assumption | omega) [r_cons, r_nil, k_seq, k_blk, k_s0, k_s1, k_sr, k_sn, k_si, k_b0, k_b1, k_br, k_bn, k_bi, k_fr, k_fi, k_fn, k_l0, k_l1, k_l2, k_lr, k_ln, k_li, hv_nx, rc_none, hv_cmp, k_w0, k_wi, k_wr, k_wl, k_wn, k_wt, k_in0, k_ini, k_inr, k_inl, k_inn, k_int, k_nb0, k_nb1, k_nbi, k_ni, k_fi32, k_fb0, k_fb1, k_fbb, k_nbb, hv_st1, hv_st2, hv_k1, hv_ft, k_le, -Int32.not_lt, -Int32.not_le, gl_0, gl_1, gl_2, gl_3, gl_4, gl_5, gl_6, gl_7, gl_8, gl_9, gl_10, gl_11, gl_12, sl_0, sl_1, sl_2, sl_3, sl_4, sl_5, sl_6, sl_7, sl_8, sl_9, sl_10, sl_11, sl_12, st_iconst, st_bipush, st_ldc, st_aconst_null, st_iload, st_lload, st_aload, st_istore, st_astore, st_lstore, st_iinc, st_iadd, st_isub, st_imul, st_iand, st_ior, st_ishl, st_ishr, st_iushr, st_idiv, st_irem, st_ineg, st_ladd, st_lsub, st_lmul, st_ldiv, st_lrem, st_lcmp, st_i2l, st_l2i, st_i2b, st_dup, st_dup2, st_pop, st_goto, st_ifCond, st_if_icmp, st_ifnull, st_ifnonnull, st_tableswitch, st_iaload, st_baload, st_laload, st_aaload, st_iastore, st_bastore, st_lastore, st_aastore, st_arraylength, st_new, st_newarray, st_anewarray, st_invokespecial, st_invokestatic, st_swap, st_checkcast, st_invokeinterface, st_ireturn, st_lreturn, st_areturn, st_return_, nI_add, nI_1, nI_lits, nI_litr, nI_litm, nI_litn, pk_mul, a_clamp, a_subl, a_lsub, a_sub, a_lt, a_ltl, a_llt, a_eq, a_eql, a_leq, a_m1, a_m1r, a_neg, a_lt0, a_0lt, a_eq0, a_0eq, lg_cmp_gt, lg_cmp_lt, lg_cmp_eq, n_lt1, n_lt0, n_le1, n_le0, n_eq1, n_eq0, g_sc_sc, g_sc_ar, g_sc_sm, g_sc_rh, g_sc_rl, g_sc_la, g_sc_im, g_sc_dy, g_ar_sc, g_ar_ar, g_ar_sm, g_ar_rh, g_ar_rl, g_ar_la, g_ar_im, g_ar_dy, g_sm_sc, g_sm_ar, g_sm_sm, g_sm_rh, g_sm_rl, g_sm_la, g_sm_im, g_sm_dy, g_rh_sc, g_rh_ar, g_rh_sm, g_rh_rh, g_rh_rl, g_rh_la, g_rh_im, g_rh_dy, g_rl_sc, g_rl_ar, g_rl_sm, g_rl_rh, g_rl_rl, g_rl_la, g_rl_im, g_rl_dy, g_la_sc, g_la_ar, g_la_sm, g_la_rh, g_la_rl, g_la_la, g_la_im, g_la_dy, g_im_sc, g_im_ar, g_im_sm, g_im_rh, g_im_rl, g_im_la, g_im_im, g_im_dy, g_dy_sc, g_dy_ar, g_dy_sm, g_dy_rh, g_dy_rl, g_dy_la, g_dy_im, g_dy_dy, n_scsc, n_arar, n_scar, n_scS, n_arS, n_smsc, n_smar, n_smsm, n_rhsc, n_rhar, n_rhrh, n_rlsc, n_rlar, n_rlrl, n_lasc, n_laar, n_lala, n_imsc, n_imar, n_imim, n_dysc, n_dyar, n_dydy, hl_Deeds_run_1, cm_199, vk_199, cm_209, vk_209, cm_210, vk_210, cm_211, vk_211, cm_229, vk_229, cm_293, vk_293, rc_0, rc_1, rc_2, wr_3, wr_4, wr_5, wr_6, wr_7, rc_8, wr_9, rc_10, wr_11, rc_12, wr_13, wr_14, wr_15, wr_16, wr_17, rc_18, rc_19, wr_20, rc_21, wr_22, wr_23, rc_24, rc_25, wr_26, wr_27, rc_28, wr_29, wr_30, rc_31, wr_32, wr_33, wr_34, rc_35, rc_36, wr_37, wr_38, wr_39, gf_0, gf_1, gf_2, gf_3, gf_4, gf_5, gf_6, gf_7, gf_8, gf_9, gf_10, gf_11, pf_11, gf_12, pf_12, gf_13, pf_13, gf_14, pf_14, gf_100, gf_101, gf_102, gf_103, gf_104, pf_104, gf_105, pf_105, gf_106, pf_106, gf_200, ww_3, ww_4, ww_5, ww_6, ww_7, gf_800, gf_801, pf_801, gf_802, pf_802, ww_9, gf_1000, gf_1001, gf_1002, pf_rh, gf_1003, pf_rl, pf_rn, ww_11, gf_1200, gf_1201, gf_1202, gf_1203, gf_1204, gf_1205, pf_1205, gf_1206, pf_1206, ww_13, ww_14, ww_15, ww_16, ww_17, gf_1800, gf_1801, gf_1802, gf_1803, gf_1804, gf_1805, pf_1805, gf_1900, ww_20, gf_2100, ww_22, ww_23, gf_2400, gf_2401, gf_2402, gf_2403, gf_2404, gf_2405, gf_2406, gf_2407, gf_2408, pf_2408, gf_2409, pf_2409, gf_2410, pf_2410, gf_2500, gf_2501, gf_2502, pf_2502, ww_26, ww_27, gf_2800, gf_2801, gf_2802, pf_2802, ww_29, ww_30, gf_3100, ww_32, ww_33, ww_34, gf_3500, gf_3501, gf_3502, pf_3502, gf_3503, pf_3503, gf_3504, pf_3504, gf_3505, pf_3505, gf_3506, pf_3506, gf_3507, pf_3507, gf_3508, pf_3508, gf_3600, gf_3601, gf_3602, pf_3602, gf_3603, pf_3603, ww_37, ww_38, ww_39, tyX1, tyX2, tyX3, tyX8, es, ew]
    · obtain ⟨s1, t1, dd1, rfl⟩ := kb
      exact h8
    · obtain ⟨s1, t1, dd1, rfl⟩ := kb
      exact h9
end OJ
