/-! The reference asks a law: all its clauses. -/
section TM
variable {w : wW} {O T k : Nat} {tc tv : qT} {E : Nat → Int32}
theorem m_tellLoop (h : e_P false E O T tc tv w) (hT4 : T ≤ 400) {d : Nat} (hd : 43 ≤ d) {kd : Nat} (hkd : kd < 5) (m v hi wo : Int32) : ∀ n k p cs, q_text false tc tv T n k p = .inr cs → k ≤ T → ∀ x bb x8 x9 x10 x11 x12, ∃ b' y8 y9 y10 y11 y12, hv_lp (hl_M_tells_0 (hv_step hv_cm hv_vk hv_dv hv_ft 0 0 (some .int) (hv_sem d))) ([some (.ref 40), some (.int (nI (kd + 1))), some (.int m), some (.int v), some (.int hi), some (.int wo), some (.long x.toInt64), none, x8, x9, x10, x11, x12], [], wB (eW w O k bb), 0, 0) = some (.inl (0, [some (.ref 40), some (.int (nI (kd + 1))), some (.int m), some (.int v), some (.int hi), some (.int wo), some (.long (l_tell kd hi E cs x).toInt64), none, y8, y9, y10, y11, y12], [], wB (eW w O (T + 1) b'), 0, 0)) := by
  have h0 := h.1.2.2.2
  have h1 := h.1.1
  have hge := h.1.2.1
  have hok := q_rule_ok (tv := tv) h0
  intro n
  induction n with
  | zero => intro k p cs hq; simp only [q_text] at hq; cases hq
  | succ n ih =>
    intro k p cs hq hk x bb x8 x9 x10 x11 x12
    simp only [q_text, q_one, Bool.false_eq_true, if_false] at hq
    cases hr : q_rule tc tv k p with
    | inl e => rw [hr] at hq; cases hq
    | inr s =>
      obtain ⟨k2, p2, c⟩ := s
      rw [hr] at hq
      have g := hok.1 _ _ _ _ _ hk hr
      have hkT : k < T := by omega
      have hstep : ∃ b' y8 y9 y10 y11 y12, hl_M_tells_0 (hv_step hv_cm hv_vk hv_dv hv_ft 0 0 (some .int) (hv_sem d)) ([some (.ref 40), some (.int (nI (kd + 1))), some (.int m), some (.int v), some (.int hi), some (.int wo), some (.long x.toInt64), none, x8, x9, x10, x11, x12], [], wB (eW w O k bb), 0, 0) = some (.inl (1, [some (.ref 40), some (.int (nI (kd + 1))), some (.int m), some (.int v), some (.int hi), some (.int wo), some (.long (t_new kd hi E c x).toInt64), none, y8, y9, y10, y11, y12], [], wB (eW w O (k2 + 1) b'), 0, 0)) := by
        simp only [q_rule] at hr
        split at hr
        · rename_i h14
          split at hr
          · cases hr
          · rename_i k1 p1 a hs
            split at hr
            · cases hr
            · rename_i k3 p3 cd hf
              simp only [Sum.inr.injEq, Prod.mk.injEq] at hr
              obtain ⟨rfl, rfl, rfl⟩ := hr
              obtain ⟨i, hi4, hti⟩ := n_rng (a := 1) (c := 4) (by omega) h14.1 h14.2 (by omega)
              rw [Nat.add_comm] at hti
              have hcl : (tc k).toNatClampNeg - 1 = i := by rw [hti, a_clamp (by omega)]; omega
              rw [hcl]
              exact m_tellSum h hT4 hd hkd m v hi wo x bb x8 x9 x10 x11 x12 hkT (by omega) hti hs hf
        · split at hr
          · rename_i h5
            split at hr
            · cases hr
            · rename_i k3 p3 cd hf
              simp only [Sum.inr.injEq, Prod.mk.injEq] at hr
              obtain ⟨rfl, rfl, rfl⟩ := hr
              exact m_tellBar h hT4 hd hkd m v hi wo x bb x8 x9 x10 x11 x12 hkT h5 hf
          · cases hr
      obtain ⟨b1, z8, z9, z10, z11, z12, e1⟩ := hstep
      simp only [] at hq
      split at hq
      · rename_i h159
        have hk2 : k2 < T := q_ne0 h0 (fun q => by rw [q] at h159; exact absurd h159 (by decide))
        split at hq
        · cases hq
        · rename_i cs2 hq2
          cases hq
          obtain ⟨b', y8, y9, y10, y11, y12, e2⟩ := ih (k2 + 1) p2 cs2 hq2 hk2 (t_new kd hi E c x) b1 z8 z9 z10 z11 z12
          refine ⟨b', y8, y9, y10, y11, y12, ?_⟩
          rw [hv_lp_eq, e1]
          exact e2
      · split at hq
        · cases hq
        · cases hq
          have hk2 : k2 = T := by omega
          subst hk2
          refine ⟨b1, z8, z9, z10, z11, z12, ?_⟩
          rw [hv_lp_eq, e1]
          show hv_lp _ _ = _
          rw [hv_lp_eq]
          simp -implicitDefEqProofs (disch := first | assumption | omega) [r_cons, r_nil, k_seq, k_blk, k_s0, k_s1, k_sr, k_sn, k_si, k_b0, k_b1, k_br, k_bn, k_bi, k_fr, k_fi, k_fn, k_l0, k_l1, k_l2, k_lr, k_ln, k_li, hv_nx, rc_none, hv_cmp, k_w0, k_wi, k_wr, k_wl, k_wn, k_wt, k_in0, k_ini, k_inr, k_inl, k_inn, k_int, k_nb0, k_nb1, k_nbi, k_ni, k_fi32, k_fb0, k_fb1, k_fbb, k_nbb, hv_st1, hv_st2, hv_k1, hv_ft, k_le, -Int32.not_lt, -Int32.not_le, gl_0, gl_1, gl_2, gl_3, gl_4, gl_5, gl_6, gl_7, gl_8, gl_9, gl_10, gl_11, gl_12, sl_0, sl_1, sl_2, sl_3, sl_4, sl_5, sl_6, sl_7, sl_8, sl_9, sl_10, sl_11, sl_12, st_iconst, st_bipush, st_ldc, st_aconst_null, st_iload, st_lload, st_aload, st_istore, st_astore, st_lstore, st_iinc, st_iadd, st_isub, st_imul, st_iand, st_ior, st_ishl, st_ishr, st_iushr, st_idiv, st_irem, st_ineg, st_ladd, st_lsub, st_lmul, st_ldiv, st_lrem, st_lcmp, st_i2l, st_l2i, st_i2b, st_dup, st_dup2, st_pop, st_goto, st_ifCond, st_if_icmp, st_ifnull, st_ifnonnull, st_tableswitch, st_iaload, st_baload, st_laload, st_aaload, st_iastore, st_bastore, st_lastore, st_aastore, st_arraylength, st_new, st_newarray, st_anewarray, st_invokespecial, st_invokestatic, st_swap, st_checkcast, st_invokeinterface, st_ireturn, st_lreturn, st_areturn, st_return_, nI_add, nI_1, nI_lits, nI_litr, nI_litm, nI_litn, pk_mul, a_clamp, a_subl, a_lsub, a_sub, a_lt, a_ltl, a_llt, a_eq, a_eql, a_leq, a_m1, a_m1r, a_neg, a_lt0, a_0lt, a_eq0, a_0eq, lg_cmp_gt, lg_cmp_lt, lg_cmp_eq, n_lt1, n_lt0, n_le1, n_le0, n_eq1, n_eq0, g_sc_sc, g_sc_ar, g_sc_sm, g_sc_rh, g_sc_rl, g_sc_la, g_sc_im, g_sc_dy, g_ar_sc, g_ar_ar, g_ar_sm, g_ar_rh, g_ar_rl, g_ar_la, g_ar_im, g_ar_dy, g_sm_sc, g_sm_ar, g_sm_sm, g_sm_rh, g_sm_rl, g_sm_la, g_sm_im, g_sm_dy, g_rh_sc, g_rh_ar, g_rh_sm, g_rh_rh, g_rh_rl, g_rh_la, g_rh_im, g_rh_dy, g_rl_sc, g_rl_ar, g_rl_sm, g_rl_rh, g_rl_rl, g_rl_la, g_rl_im, g_rl_dy, g_la_sc, g_la_ar, g_la_sm, g_la_rh, g_la_rl, g_la_la, g_la_im, g_la_dy, g_im_sc, g_im_ar, g_im_sm, g_im_rh, g_im_rl, g_im_la, g_im_im, g_im_dy, g_dy_sc, g_dy_ar, g_dy_sm, g_dy_rh, g_dy_rl, g_dy_la, g_dy_im, g_dy_dy, n_scsc, n_arar, n_scar, n_scS, n_arS, n_smsc, n_smar, n_smsm, n_rhsc, n_rhar, n_rhrh, n_rlsc, n_rlar, n_rlrl, n_lasc, n_laar, n_lala, n_imsc, n_imar, n_imim, n_dysc, n_dyar, n_dydy, hl_M_tells_0, cm_63, vk_63, cm_65, vk_65, cm_105, vk_105, cm_106, vk_106, cm_108, vk_108, cm_112, vk_112, rc_40, wr_41, wr_42, wr_43, wr_44, wr_45, wr_46, wr_47, wr_48, wr_49, wr_50, wr_51, wr_52, wr_53, wr_54, wr_55, wr_56, wr_57, wr_58, wr_59, wr_60, wr_61, wr_62, wr_63, wr_64, wr_65, gf_4000, pf_4000, gf_4001, gf_4002, gf_4003, gf_4004, gf_4005, gf_4006, pf_4006, gf_4007, gf_4008, pf_4008, gf_4009, pf_4009, gf_4010, pf_4010, gf_4011, gf_4012, gf_4013, pf_4013, gf_4014, pf_4014, gf_4015, gf_4016, gf_4017, gf_4018, pf_4018, gf_4019, pf_4019, gf_4020, pf_4020, gf_4021, pf_4021, gf_4022, pf_4022, gf_4023, pf_4023, gf_4024, pf_4024, gf_4025, pf_4025, gf_4026, gf_4027, pf_4027, gf_4028, pf_4028, gf_4029, gf_4030, gf_4031, gf_4032, pf_4032, gf_4033, gf_4034, gf_4035, gf_4036, gf_4037, gf_4038, gf_4039, pf_4039, gf_4040, pf_4040, gf_4041, gf_4042, gf_4043, pf_4043, gf_4044, pf_4044, gf_4045, pf_4045, gf_4046, pf_4046, gf_4047, pf_4047, gf_4048, pf_4048, gf_4049, gf_4050, gf_4051, pf_4051, gf_4052, pf_4052, ww_41, ww_42, ww_43, ww_44, ww_45, ww_46, ww_47, ww_48, ww_49, ww_50, ww_51, ww_52, ww_53, ww_54, ww_55, ww_56, ww_57, ww_58, ww_59, ww_60, ww_61, ww_62, ww_63, ww_64, ww_65, tyX11, ew_sc, hge]
          rfl
theorem m_tells {law : Option (List qC)} (hL : lawIn (w_ar w 42) law) {d m v kd : Nat} (hd : 45 ≤ d) (hm : m < 7) (hv : v < 7) (hkd : kd < 5) (hi wo : Int32) (f : Nat → Int32) (g e i : Int32) (b : Bool) : ∃ f' g' e' b' i', hv_sem d 116 [.ref 40, .int (nI (kd + 1)), .int (nI m), .int (nI v), .int hi, .int wo] (wB (tW w f g e (b2i b) i)) = some (some (.int (tellP law kd hi wo (envH (w_ar w 42) (w_ar w 42 80) m v))), wB (tW w f' g' e' (b2i b') i')) := by
  obtain ⟨d, rfl⟩ : ∃ e, d = e + 2 := ⟨d - 2, by omega⟩
  rcases hL with ⟨hF, rfl⟩ | ⟨L, cs, hL6, hF, ⟨T, tc, tv, hT4, hsz, hET, hq⟩, rfl⟩
  · refine ⟨f, g, e, b, i, ?_⟩
    simp -implicitDefEqProofs (disch := first | assumption | omega) [r_cons, r_nil, k_seq, k_blk, k_s0, k_s1, k_sr, k_sn, k_si, k_b0, k_b1, k_br, k_bn, k_bi, k_fr, k_fi, k_fn, k_l0, k_l1, k_l2, k_lr, k_ln, k_li, hv_nx, rc_none, hv_cmp, k_w0, k_wi, k_wr, k_wl, k_wn, k_wt, k_in0, k_ini, k_inr, k_inl, k_inn, k_int, k_nb0, k_nb1, k_nbi, k_ni, k_fi32, k_fb0, k_fb1, k_fbb, k_nbb, hv_st1, hv_st2, hv_k1, hv_ft, k_le, -Int32.not_lt, -Int32.not_le, gl_0, gl_1, gl_2, gl_3, gl_4, gl_5, gl_6, gl_7, gl_8, gl_9, gl_10, gl_11, gl_12, sl_0, sl_1, sl_2, sl_3, sl_4, sl_5, sl_6, sl_7, sl_8, sl_9, sl_10, sl_11, sl_12, st_iconst, st_bipush, st_ldc, st_aconst_null, st_iload, st_lload, st_aload, st_istore, st_astore, st_lstore, st_iinc, st_iadd, st_isub, st_imul, st_iand, st_ior, st_ishl, st_ishr, st_iushr, st_idiv, st_irem, st_ineg, st_ladd, st_lsub, st_lmul, st_ldiv, st_lrem, st_lcmp, st_i2l, st_l2i, st_i2b, st_dup, st_dup2, st_pop, st_goto, st_ifCond, st_if_icmp, st_ifnull, st_ifnonnull, st_tableswitch, st_iaload, st_baload, st_laload, st_aaload, st_iastore, st_bastore, st_lastore, st_aastore, st_arraylength, st_new, st_newarray, st_anewarray, st_invokespecial, st_invokestatic, st_swap, st_checkcast, st_invokeinterface, st_ireturn, st_lreturn, st_areturn, st_return_, nI_add, nI_1, nI_lits, nI_litr, nI_litm, nI_litn, pk_mul, a_clamp, a_subl, a_lsub, a_sub, a_lt, a_ltl, a_llt, a_eq, a_eql, a_leq, a_m1, a_m1r, a_neg, a_lt0, a_0lt, a_eq0, a_0eq, lg_cmp_gt, lg_cmp_lt, lg_cmp_eq, n_lt1, n_lt0, n_le1, n_le0, n_eq1, n_eq0, g_sc_sc, g_sc_ar, g_sc_sm, g_sc_rh, g_sc_rl, g_sc_la, g_sc_im, g_sc_dy, g_ar_sc, g_ar_ar, g_ar_sm, g_ar_rh, g_ar_rl, g_ar_la, g_ar_im, g_ar_dy, g_sm_sc, g_sm_ar, g_sm_sm, g_sm_rh, g_sm_rl, g_sm_la, g_sm_im, g_sm_dy, g_rh_sc, g_rh_ar, g_rh_sm, g_rh_rh, g_rh_rl, g_rh_la, g_rh_im, g_rh_dy, g_rl_sc, g_rl_ar, g_rl_sm, g_rl_rh, g_rl_rl, g_rl_la, g_rl_im, g_rl_dy, g_la_sc, g_la_ar, g_la_sm, g_la_rh, g_la_rl, g_la_la, g_la_im, g_la_dy, g_im_sc, g_im_ar, g_im_sm, g_im_rh, g_im_rl, g_im_la, g_im_im, g_im_dy, g_dy_sc, g_dy_ar, g_dy_sm, g_dy_rh, g_dy_rl, g_dy_la, g_dy_im, g_dy_dy, n_scsc, n_arar, n_scar, n_scS, n_arS, n_smsc, n_smar, n_smsm, n_rhsc, n_rhar, n_rhrh, n_rlsc, n_rlar, n_rlrl, n_lasc, n_laar, n_lala, n_imsc, n_imar, n_imim, n_dysc, n_dyar, n_dydy, sem_M_tells, hb_M_tells, cm_63, vk_63, cm_65, vk_65, cm_105, vk_105, cm_106, vk_106, cm_108, vk_108, cm_112, vk_112, rc_40, wr_41, wr_42, wr_43, wr_44, wr_45, wr_46, wr_47, wr_48, wr_49, wr_50, wr_51, wr_52, wr_53, wr_54, wr_55, wr_56, wr_57, wr_58, wr_59, wr_60, wr_61, wr_62, wr_63, wr_64, wr_65, gf_4000, pf_4000, gf_4001, gf_4002, gf_4003, gf_4004, gf_4005, gf_4006, pf_4006, gf_4007, gf_4008, pf_4008, gf_4009, pf_4009, gf_4010, pf_4010, gf_4011, gf_4012, gf_4013, pf_4013, gf_4014, pf_4014, gf_4015, gf_4016, gf_4017, gf_4018, pf_4018, gf_4019, pf_4019, gf_4020, pf_4020, gf_4021, pf_4021, gf_4022, pf_4022, gf_4023, pf_4023, gf_4024, pf_4024, gf_4025, pf_4025, gf_4026, gf_4027, pf_4027, gf_4028, pf_4028, gf_4029, gf_4030, gf_4031, gf_4032, pf_4032, gf_4033, gf_4034, gf_4035, gf_4036, gf_4037, gf_4038, gf_4039, pf_4039, gf_4040, pf_4040, gf_4041, gf_4042, gf_4043, pf_4043, gf_4044, pf_4044, gf_4045, pf_4045, gf_4046, pf_4046, gf_4047, pf_4047, gf_4048, pf_4048, gf_4049, gf_4050, gf_4051, pf_4051, gf_4052, pf_4052, ww_41, ww_42, ww_43, ww_44, ww_45, ww_46, ww_47, ww_48, ww_49, ww_50, ww_51, ww_52, ww_53, ww_54, ww_55, ww_56, ww_57, ww_58, ww_59, ww_60, ww_61, ww_62, ww_63, ww_64, ww_65, tyX11, tw_ar, tw_sc, hF, tellP]
  · have hEP : ∀ F : Nat → Int32, ∀ bb : Bool, (∀ i, i < 7 → F i = envH (w_ar w 42) (w_ar w 42 80) m v (q_word false (nI (10 + i)))) → e_P false (envH (w_ar w 42) (w_ar w 42 80) m v) (400 * L) T tc tv (tW w F (nI (400 * L)) (nI (400 * L + T)) (b2i bb) 0) := by
      intro F bb hF
      exact ⟨hET, rfl, fun _ => hF, fun q => by cases q⟩
    have hw : ∀ F : Nat → Int32, (∀ i, i < 7 → F i = envH (w_ar w 42) (w_ar w 42 80) m v (q_word false (nI (10 + i)))) → ∃ b' y8 y9 y10 y11 y12, hv_lp (hl_M_tells_0 (hv_step hv_cm hv_vk hv_dv hv_ft 0 0 (some .int) (hv_sem (d + 1)))) ([some (.ref 40), some (.int (nI (kd + 1))), some (.int (nI m)), some (.int (nI v)), some (.int hi), some (.int wo), some (.long wo.toInt64), none, none, none, none, none, none], [], wB (tW w F (nI (400 * L)) (nI (400 * L + T)) (b2i b) 0), 0, 0) = some (.inl (0, [some (.ref 40), some (.int (nI (kd + 1))), some (.int (nI m)), some (.int (nI v)), some (.int hi), some (.int wo), some (.long (l_tell kd hi (envH (w_ar w 42) (w_ar w 42 80) m v) cs wo).toInt64), none, y8, y9, y10, y11, y12], [], wB (tW w F (nI (400 * L + (T + 1))) (nI (400 * L + T)) (b2i b') 0), 0, 0)) := by
      intro F hF
      obtain ⟨b', y8, y9, y10, y11, y12, e1⟩ := m_tellLoop (hEP F b hF) hT4 (d := d + 1) (by omega) hkd (nI m) (nI v) hi wo 12 0 0 cs hq (by omega) wo b none none none none none
      rw [tw_ew, tw_ew, Nat.add_zero] at e1
      exact ⟨b', y8, y9, y10, y11, y12, e1⟩
    by_cases hh : w_ar w 42 (49 + m) = nI v
    · obtain ⟨b', y8, y9, y10, y11, y12, e1⟩ := hw (upd (upd (upd (upd (upd (upd (upd f 0 (nI m)) 1 (nI v)) 2 (w_ar w 42 (7 * m + v))) 3 (w_ar w 42 80)) 4 (w_ar w 42 (56 + m))) 5 (w_ar w 42 (49 + m))) 6 (w_ar w 42 63)) (fun i hi => by
        match i, hi with
        | 0, _ => rfl
        | 1, _ => rfl
        | 2, _ => rfl
        | 3, _ => rfl
        | 4, _ => show w_ar w 42 (56 + m) = if w_ar w 42 (49 + m) = nI v then w_ar w 42 (56 + m) else 0; rw [if_pos hh]
        | 5, _ => rfl
        | 6, _ => rfl)
      rw [hh] at e1
      exact ⟨_, _, _, b', _, by simp -implicitDefEqProofs (disch := first | assumption | omega) [r_cons, r_nil, k_seq, k_blk, k_s0, k_s1, k_sr, k_sn, k_si, k_b0, k_b1, k_br, k_bn, k_bi, k_fr, k_fi, k_fn, k_l0, k_l1, k_l2, k_lr, k_ln, k_li, hv_nx, rc_none, hv_cmp, k_w0, k_wi, k_wr, k_wl, k_wn, k_wt, k_in0, k_ini, k_inr, k_inl, k_inn, k_int, k_nb0, k_nb1, k_nbi, k_ni, k_fi32, k_fb0, k_fb1, k_fbb, k_nbb, hv_st1, hv_st2, hv_k1, hv_ft, k_le, -Int32.not_lt, -Int32.not_le, gl_0, gl_1, gl_2, gl_3, gl_4, gl_5, gl_6, gl_7, gl_8, gl_9, gl_10, gl_11, gl_12, sl_0, sl_1, sl_2, sl_3, sl_4, sl_5, sl_6, sl_7, sl_8, sl_9, sl_10, sl_11, sl_12, st_iconst, st_bipush, st_ldc, st_aconst_null, st_iload, st_lload, st_aload, st_istore, st_astore, st_lstore, st_iinc, st_iadd, st_isub, st_imul, st_iand, st_ior, st_ishl, st_ishr, st_iushr, st_idiv, st_irem, st_ineg, st_ladd, st_lsub, st_lmul, st_ldiv, st_lrem, st_lcmp, st_i2l, st_l2i, st_i2b, st_dup, st_dup2, st_pop, st_goto, st_ifCond, st_if_icmp, st_ifnull, st_ifnonnull, st_tableswitch, st_iaload, st_baload, st_laload, st_aaload, st_iastore, st_bastore, st_lastore, st_aastore, st_arraylength, st_new, st_newarray, st_anewarray, st_invokespecial, st_invokestatic, st_swap, st_checkcast, st_invokeinterface, st_ireturn, st_lreturn, st_areturn, st_return_, nI_add, nI_1, nI_lits, nI_litr, nI_litm, nI_litn, pk_mul, a_clamp, a_subl, a_lsub, a_sub, a_lt, a_ltl, a_llt, a_eq, a_eql, a_leq, a_m1, a_m1r, a_neg, a_lt0, a_0lt, a_eq0, a_0eq, lg_cmp_gt, lg_cmp_lt, lg_cmp_eq, n_lt1, n_lt0, n_le1, n_le0, n_eq1, n_eq0, g_sc_sc, g_sc_ar, g_sc_sm, g_sc_rh, g_sc_rl, g_sc_la, g_sc_im, g_sc_dy, g_ar_sc, g_ar_ar, g_ar_sm, g_ar_rh, g_ar_rl, g_ar_la, g_ar_im, g_ar_dy, g_sm_sc, g_sm_ar, g_sm_sm, g_sm_rh, g_sm_rl, g_sm_la, g_sm_im, g_sm_dy, g_rh_sc, g_rh_ar, g_rh_sm, g_rh_rh, g_rh_rl, g_rh_la, g_rh_im, g_rh_dy, g_rl_sc, g_rl_ar, g_rl_sm, g_rl_rh, g_rl_rl, g_rl_la, g_rl_im, g_rl_dy, g_la_sc, g_la_ar, g_la_sm, g_la_rh, g_la_rl, g_la_la, g_la_im, g_la_dy, g_im_sc, g_im_ar, g_im_sm, g_im_rh, g_im_rl, g_im_la, g_im_im, g_im_dy, g_dy_sc, g_dy_ar, g_dy_sm, g_dy_rh, g_dy_rl, g_dy_la, g_dy_im, g_dy_dy, n_scsc, n_arar, n_scar, n_scS, n_arS, n_smsc, n_smar, n_smsm, n_rhsc, n_rhar, n_rhrh, n_rlsc, n_rlar, n_rlrl, n_lasc, n_laar, n_lala, n_imsc, n_imar, n_imim, n_dysc, n_dyar, n_dydy, sem_M_tells, hb_M_tells, cm_63, vk_63, cm_65, vk_65, cm_105, vk_105, cm_106, vk_106, cm_108, vk_108, cm_112, vk_112, sem_M_hardOf, hb_M_hardOf, sem_M_heldOf, hb_M_heldOf, rc_40, wr_41, wr_42, wr_43, wr_44, wr_45, wr_46, wr_47, wr_48, wr_49, wr_50, wr_51, wr_52, wr_53, wr_54, wr_55, wr_56, wr_57, wr_58, wr_59, wr_60, wr_61, wr_62, wr_63, wr_64, wr_65, gf_4000, pf_4000, gf_4001, gf_4002, gf_4003, gf_4004, gf_4005, gf_4006, pf_4006, gf_4007, gf_4008, pf_4008, gf_4009, pf_4009, gf_4010, pf_4010, gf_4011, gf_4012, gf_4013, pf_4013, gf_4014, pf_4014, gf_4015, gf_4016, gf_4017, gf_4018, pf_4018, gf_4019, pf_4019, gf_4020, pf_4020, gf_4021, pf_4021, gf_4022, pf_4022, gf_4023, pf_4023, gf_4024, pf_4024, gf_4025, pf_4025, gf_4026, gf_4027, pf_4027, gf_4028, pf_4028, gf_4029, gf_4030, gf_4031, gf_4032, pf_4032, gf_4033, gf_4034, gf_4035, gf_4036, gf_4037, gf_4038, gf_4039, pf_4039, gf_4040, pf_4040, gf_4041, gf_4042, gf_4043, pf_4043, gf_4044, pf_4044, gf_4045, pf_4045, gf_4046, pf_4046, gf_4047, pf_4047, gf_4048, pf_4048, gf_4049, gf_4050, gf_4051, pf_4051, gf_4052, pf_4052, ww_41, ww_42, ww_43, ww_44, ww_45, ww_46, ww_47, ww_48, ww_49, ww_50, ww_51, ww_52, ww_53, ww_54, ww_55, ww_56, ww_57, ww_58, ww_59, ww_60, ww_61, ww_62, ww_63, ww_64, ww_65, tyX11, tw_ar, tw_sc, tw_f, tw_g, tw_e, tw_i, hF, hh, hsz, tellP, l_back, e1]; exact rfl⟩
    · obtain ⟨b', y8, y9, y10, y11, y12, e1⟩ := hw (upd (upd (upd (upd (upd (upd (upd f 0 (nI m)) 1 (nI v)) 2 (w_ar w 42 (7 * m + v))) 3 (w_ar w 42 80)) 4 0) 5 (w_ar w 42 (49 + m))) 6 (w_ar w 42 63)) (fun i hi => by
        match i, hi with
        | 0, _ => rfl
        | 1, _ => rfl
        | 2, _ => rfl
        | 3, _ => rfl
        | 4, _ => show 0 = if w_ar w 42 (49 + m) = nI v then w_ar w 42 (56 + m) else 0; rw [if_neg hh]
        | 5, _ => rfl
        | 6, _ => rfl)
      exact ⟨_, _, _, b', _, by simp -implicitDefEqProofs (disch := first | assumption | omega) [r_cons, r_nil, k_seq, k_blk, k_s0, k_s1, k_sr, k_sn, k_si, k_b0, k_b1, k_br, k_bn, k_bi, k_fr, k_fi, k_fn, k_l0, k_l1, k_l2, k_lr, k_ln, k_li, hv_nx, rc_none, hv_cmp, k_w0, k_wi, k_wr, k_wl, k_wn, k_wt, k_in0, k_ini, k_inr, k_inl, k_inn, k_int, k_nb0, k_nb1, k_nbi, k_ni, k_fi32, k_fb0, k_fb1, k_fbb, k_nbb, hv_st1, hv_st2, hv_k1, hv_ft, k_le, -Int32.not_lt, -Int32.not_le, gl_0, gl_1, gl_2, gl_3, gl_4, gl_5, gl_6, gl_7, gl_8, gl_9, gl_10, gl_11, gl_12, sl_0, sl_1, sl_2, sl_3, sl_4, sl_5, sl_6, sl_7, sl_8, sl_9, sl_10, sl_11, sl_12, st_iconst, st_bipush, st_ldc, st_aconst_null, st_iload, st_lload, st_aload, st_istore, st_astore, st_lstore, st_iinc, st_iadd, st_isub, st_imul, st_iand, st_ior, st_ishl, st_ishr, st_iushr, st_idiv, st_irem, st_ineg, st_ladd, st_lsub, st_lmul, st_ldiv, st_lrem, st_lcmp, st_i2l, st_l2i, st_i2b, st_dup, st_dup2, st_pop, st_goto, st_ifCond, st_if_icmp, st_ifnull, st_ifnonnull, st_tableswitch, st_iaload, st_baload, st_laload, st_aaload, st_iastore, st_bastore, st_lastore, st_aastore, st_arraylength, st_new, st_newarray, st_anewarray, st_invokespecial, st_invokestatic, st_swap, st_checkcast, st_invokeinterface, st_ireturn, st_lreturn, st_areturn, st_return_, nI_add, nI_1, nI_lits, nI_litr, nI_litm, nI_litn, pk_mul, a_clamp, a_subl, a_lsub, a_sub, a_lt, a_ltl, a_llt, a_eq, a_eql, a_leq, a_m1, a_m1r, a_neg, a_lt0, a_0lt, a_eq0, a_0eq, lg_cmp_gt, lg_cmp_lt, lg_cmp_eq, n_lt1, n_lt0, n_le1, n_le0, n_eq1, n_eq0, g_sc_sc, g_sc_ar, g_sc_sm, g_sc_rh, g_sc_rl, g_sc_la, g_sc_im, g_sc_dy, g_ar_sc, g_ar_ar, g_ar_sm, g_ar_rh, g_ar_rl, g_ar_la, g_ar_im, g_ar_dy, g_sm_sc, g_sm_ar, g_sm_sm, g_sm_rh, g_sm_rl, g_sm_la, g_sm_im, g_sm_dy, g_rh_sc, g_rh_ar, g_rh_sm, g_rh_rh, g_rh_rl, g_rh_la, g_rh_im, g_rh_dy, g_rl_sc, g_rl_ar, g_rl_sm, g_rl_rh, g_rl_rl, g_rl_la, g_rl_im, g_rl_dy, g_la_sc, g_la_ar, g_la_sm, g_la_rh, g_la_rl, g_la_la, g_la_im, g_la_dy, g_im_sc, g_im_ar, g_im_sm, g_im_rh, g_im_rl, g_im_la, g_im_im, g_im_dy, g_dy_sc, g_dy_ar, g_dy_sm, g_dy_rh, g_dy_rl, g_dy_la, g_dy_im, g_dy_dy, n_scsc, n_arar, n_scar, n_scS, n_arS, n_smsc, n_smar, n_smsm, n_rhsc, n_rhar, n_rhrh, n_rlsc, n_rlar, n_rlrl, n_lasc, n_laar, n_lala, n_imsc, n_imar, n_imim, n_dysc, n_dyar, n_dydy, sem_M_tells, hb_M_tells, cm_63, vk_63, cm_65, vk_65, cm_105, vk_105, cm_106, vk_106, cm_108, vk_108, cm_112, vk_112, sem_M_hardOf, hb_M_hardOf, sem_M_heldOf, hb_M_heldOf, rc_40, wr_41, wr_42, wr_43, wr_44, wr_45, wr_46, wr_47, wr_48, wr_49, wr_50, wr_51, wr_52, wr_53, wr_54, wr_55, wr_56, wr_57, wr_58, wr_59, wr_60, wr_61, wr_62, wr_63, wr_64, wr_65, gf_4000, pf_4000, gf_4001, gf_4002, gf_4003, gf_4004, gf_4005, gf_4006, pf_4006, gf_4007, gf_4008, pf_4008, gf_4009, pf_4009, gf_4010, pf_4010, gf_4011, gf_4012, gf_4013, pf_4013, gf_4014, pf_4014, gf_4015, gf_4016, gf_4017, gf_4018, pf_4018, gf_4019, pf_4019, gf_4020, pf_4020, gf_4021, pf_4021, gf_4022, pf_4022, gf_4023, pf_4023, gf_4024, pf_4024, gf_4025, pf_4025, gf_4026, gf_4027, pf_4027, gf_4028, pf_4028, gf_4029, gf_4030, gf_4031, gf_4032, pf_4032, gf_4033, gf_4034, gf_4035, gf_4036, gf_4037, gf_4038, gf_4039, pf_4039, gf_4040, pf_4040, gf_4041, gf_4042, gf_4043, pf_4043, gf_4044, pf_4044, gf_4045, pf_4045, gf_4046, pf_4046, gf_4047, pf_4047, gf_4048, pf_4048, gf_4049, gf_4050, gf_4051, pf_4051, gf_4052, pf_4052, ww_41, ww_42, ww_43, ww_44, ww_45, ww_46, ww_47, ww_48, ww_49, ww_50, ww_51, ww_52, ww_53, ww_54, ww_55, ww_56, ww_57, ww_58, ww_59, ww_60, ww_61, ww_62, ww_63, ww_64, ww_65, tyX11, tw_ar, tw_sc, tw_f, tw_g, tw_e, tw_i, hF, hh, hsz, tellP, l_back, e1]; exact rfl⟩
end TM
