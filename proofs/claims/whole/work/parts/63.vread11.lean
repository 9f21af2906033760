/-! The class reads: an order. -/
section VK2
variable {w : wW} {T nw : Nat} {tc tv : qT} {pl en : Nat → Nat} {kd nu : Nat → Int32}
set_option maxHeartbeats 400000 in
theorem v_readsOrder (h : VT w true T tc tv pl en kd nu) (hnw : nw = 19) {d k p l c : Nat} {n : Int32} {M S : Nat → Int32} (hd : 50 ≤ d) (hk : k ≤ T) (hp : p ≤ 50) (hl : l ≤ k) (hc : c < 12) : vCl w pl en kd nu (fun M' S' l' q => clO M' S' nw l' c q) c k l M S (q_order tc tv k p) (hv_sem d 254 [.ref 35] (wB (rK w pl en kd k n (nI p) (nI c) (nI l) M S))) := by
  have hT4 := h.1
  have h0 := h.2.1
  obtain ⟨d, rfl⟩ : ∃ e, d = e + 1 := ⟨d - 1, by omega⟩
  have e0 := h.2.2.2.2.1 d 0 k n (nI p) (nI c) (nI l) M S (by omega) (by omega) hk
  have ea := fun x => k_addClause (w := w) (pl := pl) (en := en) (kd := kd) (k := k) (n := n) (p := nI p) (ln := nI l) (x := x) (M := M) (S := S) (d := d) (by omega) hc
  have es := fun (hkT : k < T) x => h.2.2.2.1 d k n (nI p) (nI (c + 1)) (nI l) (clA M c x) S (by omega) hkT
  rw [w0] at e0
  simp only [q_order, q_sums]
  by_cases h21 : tc k = 21
  · rw [if_pos h21] at e0
    simp only [if_pos h21]
    have hkT : k < T := q_ne0 h0 (fun q => by rw [q] at h21; revert h21; decide)
    obtain ⟨n1, es, hn1⟩ := es hkT 0
    exact v_ordTwo h hnw (kq := 0) (jw := 6) (xq := 0) rfl (by omega) hkT hp hl hc (Or.inl rfl) (by omega) rfl (by decide) hn1 (fun W q => o_0_m2 e0 (ea 0) es q) (fun W W2 q q2 => o_0_to e0 (ea 0) es q q2) (fun W W2 W3 q q2 q3 => o_0_m3 e0 (ea 0) es q q2 q3) (fun W W2 W3 W4 q q2 q3 q4 => o_0_ti e0 (ea 0) es q q2 q3 q4) (fun W W2 W3 W4 W5 q q2 q3 q4 q5 => o_0_co e0 (ea 0) es q q2 q3 q4 q5) (fun W W2 W3 W4 W5 q q2 q3 q4 q5 => o_0_ok e0 (ea 0) es q q2 q3 q4 q5)
  · rw [if_neg h21] at e0
    simp only [if_neg h21]
    by_cases h24 : tc k = 24
    · rw [if_neg (by rw [h24]; decide), if_pos h24] at e0
      simp only [if_pos h24]
      have hkT : k < T := q_ne0 h0 (fun q => by rw [q] at h24; revert h24; decide)
      obtain ⟨n1, es, hn1⟩ := es hkT 2
      exact v_ordTwo h hnw (kq := 2) (jw := 7) (xq := 2) rfl (by omega) hkT hp hl hc (Or.inr rfl) (by omega) rfl (by decide) hn1 (fun W q => o_2_m2 e0 (ea 2) es q) (fun W W2 q q2 => o_2_to e0 (ea 2) es q q2) (fun W W2 W3 q q2 q3 => o_2_m3 e0 (ea 2) es q q2 q3) (fun W W2 W3 W4 q q2 q3 q4 => o_2_ti e0 (ea 2) es q q2 q3 q4) (fun W W2 W3 W4 W5 q q2 q3 q4 q5 => o_2_co e0 (ea 2) es q q2 q3 q4 q5) (fun W W2 W3 W4 W5 q q2 q3 q4 q5 => o_2_ok e0 (ea 2) es q q2 q3 q4 q5)
    · simp only [if_neg h24]
      by_cases h23 : tc k = 23
      · rw [if_pos h23] at e0
        simp only [if_pos h23]
        have hkT : k < T := q_ne0 h0 (fun q => by rw [q] at h23; revert h23; decide)
        obtain ⟨n1, es, hn1⟩ := es hkT 1
        have r1 := v_marked h hnw (d := d) (k := k + 1) (p := p) (l := l) (c := c) (i := 2) (n := n1) (M := clA M c 1) (S := S) (by omega) hkT hp (by omega) hn1 hc (by omega)
        rw [show nI 2 = 2 from rfl] at r1
        cases hx : q_sum true tc tv 8 (k + 1) p with
        | inl e =>
          rw [hx] at r1
          obtain ⟨b1, kk, n', pp, cl, l', M', S', hl', e1⟩ := r1
          exact ⟨b1, kk, n', pp, cl, l', M', S', hl', o_1_m2 e0 (ea 1) es e1⟩
        | inr s =>
          obtain ⟨k1, p1, a1⟩ := s
          rw [hx] at r1
          have g := (q_sum_ok (o := true) (tv := tv) h0 8).1 _ _ _ _ _ hx
          obtain ⟨n2, l1, S1, e1, hn2, hl1, hl2, hS1, hb1⟩ := r1
          simp only []
          refine v_ordTail h hnw (by omega) hc (fun W q => o_1_ti e0 (ea 1) es e1 q) (fun W W' q q' => o_1_co e0 (ea 1) es e1 q q') (fun W W' q q' => o_1_ok e0 (ea 1) es e1 q q') g.2.1 (g.2.2.2 hp) (by omega) (by omega) (by omega) hn2 (by omega) ?_ ?_ ?_ (Or.inr ⟨by omega, l, by simp [upd], hb1⟩) (Or.inl ⟨by omega, ?_⟩) (fun i hi => ?_) hS1
          · rw [upd_ne (by omega), clA_0]; rfl
          · rw [upd_ne (by omega)]; exact clA_1
          · rw [upd_ne (by omega)]; exact clA_4
          · rw [upd_ne (by omega)]; exact clA_3
          · rw [upd_ne (by omega), clA_lt hi]
      · rw [if_neg h23, if_neg h24] at e0
        simp only [if_neg h23]
        by_cases h26 : tc k = 26
        · rw [if_pos h26] at e0
          simp only [if_pos h26]
          have hkT : k < T := q_ne0 h0 (fun q => by rw [q] at h26; revert h26; decide)
          obtain ⟨n1, es, hn1⟩ := es hkT 3
          exact v_ordTail h hnw (by omega) hc (fun W q => o_3_ti e0 (ea 3) es q) (fun W W' q q' => o_3_co e0 (ea 3) es q q') (fun W W' q q' => o_3_ok e0 (ea 3) es q q') hkT hp (by omega) (Nat.le_refl _) (by omega) hn1 (by omega) (clA_0.trans rfl) clA_1 clA_4 (Or.inl ⟨rfl, clA_2⟩) (Or.inl ⟨by omega, clA_3⟩) (fun i hi => clA_lt hi) (fun _ _ => rfl)
        · rw [if_neg h26] at e0
          simp only [if_neg h26]
          exact vFl_k (l' := l) (by omega) (by simp -implicitDefEqProofs (disch := first | assumption | omega) [r_cons, r_nil, k_seq, k_blk, k_s0, k_s1, k_sr, k_sn, k_si, k_b0, k_b1, k_br, k_bn, k_bi, k_fr, k_fi, k_fn, k_l0, k_l1, k_l2, k_lr, k_ln, k_li, hv_nx, rc_none, hv_cmp, k_w0, k_wi, k_wr, k_wl, k_wn, k_wt, k_in0, k_ini, k_inr, k_inl, k_inn, k_int, k_nb0, k_nb1, k_nbi, k_ni, k_fi32, k_fb0, k_fb1, k_fbb, k_nbb, hv_st1, hv_st2, hv_k1, hv_ft, k_le, -Int32.not_lt, -Int32.not_le, gl_0, gl_1, gl_2, gl_3, gl_4, gl_5, gl_6, gl_7, gl_8, gl_9, gl_10, gl_11, gl_12, sl_0, sl_1, sl_2, sl_3, sl_4, sl_5, sl_6, sl_7, sl_8, sl_9, sl_10, sl_11, sl_12, st_iconst, st_bipush, st_ldc, st_aconst_null, st_iload, st_lload, st_aload, st_istore, st_astore, st_lstore, st_iinc, st_iadd, st_isub, st_imul, st_iand, st_ior, st_ishl, st_ishr, st_iushr, st_idiv, st_irem, st_ineg, st_ladd, st_lsub, st_lmul, st_ldiv, st_lrem, st_lcmp, st_i2l, st_l2i, st_i2b, st_dup, st_dup2, st_pop, st_goto, st_ifCond, st_if_icmp, st_ifnull, st_ifnonnull, st_tableswitch, st_iaload, st_baload, st_laload, st_aaload, st_iastore, st_bastore, st_lastore, st_aastore, st_arraylength, st_new, st_newarray, st_anewarray, st_invokespecial, st_invokestatic, st_swap, st_checkcast, st_invokeinterface, st_ireturn, st_lreturn, st_areturn, st_return_, nI_add, nI_1, nI_lits, nI_litr, nI_litm, nI_litn, pk_mul, a_clamp, a_subl, a_lsub, a_sub, a_lt, a_ltl, a_llt, a_eq, a_eql, a_leq, a_m1, a_m1r, a_neg, a_lt0, a_0lt, a_eq0, a_0eq, lg_cmp_gt, lg_cmp_lt, lg_cmp_eq, n_lt1, n_lt0, n_le1, n_le0, n_eq1, n_eq0, g_sc_sc, g_sc_ar, g_sc_sm, g_sc_rh, g_sc_rl, g_sc_la, g_sc_im, g_sc_dy, g_ar_sc, g_ar_ar, g_ar_sm, g_ar_rh, g_ar_rl, g_ar_la, g_ar_im, g_ar_dy, g_sm_sc, g_sm_ar, g_sm_sm, g_sm_rh, g_sm_rl, g_sm_la, g_sm_im, g_sm_dy, g_rh_sc, g_rh_ar, g_rh_sm, g_rh_rh, g_rh_rl, g_rh_la, g_rh_im, g_rh_dy, g_rl_sc, g_rl_ar, g_rl_sm, g_rl_rh, g_rl_rl, g_rl_la, g_rl_im, g_rl_dy, g_la_sc, g_la_ar, g_la_sm, g_la_rh, g_la_rl, g_la_la, g_la_im, g_la_dy, g_im_sc, g_im_ar, g_im_sm, g_im_rh, g_im_rl, g_im_la, g_im_im, g_im_dy, g_dy_sc, g_dy_ar, g_dy_sm, g_dy_rh, g_dy_rl, g_dy_la, g_dy_im, g_dy_dy, n_scsc, n_arar, n_scar, n_scS, n_arS, n_smsc, n_smar, n_smsm, n_rhsc, n_rhar, n_rhrh, n_rlsc, n_rlar, n_rlrl, n_lasc, n_laar, n_lala, n_imsc, n_imar, n_imim, n_dysc, n_dyar, n_dydy, sem_Reader_readsOrder, hb_Reader_readsOrder, cm_197, vk_197, cm_255, vk_255, cm_256, vk_256, cm_257, vk_257, cm_268, vk_268, cm_269, vk_269, cm_270, vk_270, rc_0, rc_1, rc_2, wr_3, wr_4, wr_5, wr_6, wr_7, rc_8, wr_9, rc_10, wr_11, rc_12, wr_13, wr_14, wr_15, wr_16, wr_17, rc_18, rc_19, wr_20, rc_21, wr_22, wr_23, rc_24, rc_25, wr_26, wr_27, rc_28, wr_29, wr_30, rc_31, wr_32, wr_33, wr_34, rc_35, rc_36, wr_37, wr_38, wr_39, gf_0, gf_1, gf_2, gf_3, gf_4, gf_5, gf_6, gf_7, gf_8, gf_9, gf_10, gf_11, pf_11, gf_12, pf_12, gf_13, pf_13, gf_14, pf_14, gf_100, gf_101, gf_102, gf_103, gf_104, pf_104, gf_105, pf_105, gf_106, pf_106, gf_200, ww_3, ww_4, ww_5, ww_6, ww_7, gf_800, gf_801, pf_801, gf_802, pf_802, ww_9, gf_1000, gf_1001, gf_1002, pf_rh, gf_1003, pf_rl, pf_rn, ww_11, gf_1200, gf_1201, gf_1202, gf_1203, gf_1204, gf_1205, pf_1205, gf_1206, pf_1206, ww_13, ww_14, ww_15, ww_16, ww_17, gf_1800, gf_1801, gf_1802, gf_1803, gf_1804, gf_1805, pf_1805, gf_1900, ww_20, gf_2100, ww_22, ww_23, gf_2400, gf_2401, gf_2402, gf_2403, gf_2404, gf_2405, gf_2406, gf_2407, gf_2408, pf_2408, gf_2409, pf_2409, gf_2410, pf_2410, gf_2500, gf_2501, gf_2502, pf_2502, ww_26, ww_27, gf_2800, gf_2801, gf_2802, pf_2802, ww_29, ww_30, gf_3100, ww_32, ww_33, ww_34, gf_3500, gf_3501, gf_3502, pf_3502, gf_3503, pf_3503, gf_3504, pf_3504, gf_3505, pf_3505, gf_3506, pf_3506, gf_3507, pf_3507, gf_3508, pf_3508, gf_3600, gf_3601, gf_3602, pf_3602, gf_3603, pf_3603, ww_37, ww_38, ww_39, tyX1, tyX6, e0]; exact rfl)
end VK2
