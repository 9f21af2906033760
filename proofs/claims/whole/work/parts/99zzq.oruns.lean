/-! Orders: the reference runs one. -/
def oJ (Sf : (Nat → Int32) → aTr → aS) (w : wW) (X : oX) (k : Nat) : Prop := mAll w (Sf X.1 X.2.1) ∧ w_sc w 4027 = nI X.2.2.1 ∧ w_sc w 4028 = X.2.2.2 ∧ w_sc w 4044 = nI (2400 + k)
def fJ (w w1 : wW) : Prop := fV w w1 ∧ (∀ i, 64 ≤ i → w_ar w1 42 i = w_ar w 42 i) ∧ w_ar w1 45 = w_ar w 45 ∧ w_ar w1 55 = w_ar w 55
section OL
variable {w w1 w2 : wW} {d n k k3 T tm kk : Nat} {md fc : Int32} {sn : Nat} {ls : List (List qC)} {sv ss : Nat → Int32} {im : Nat → Option aW} {tp : (Nat → Nat) × Nat} {sc : aSc} {dr : Nat × (Nat → Int32)} {q : qC} {X : oX} {tc tv : qT} {K : Nat → Int32}
theorem fJ_refl : fJ w w := ⟨fV_refl, fun _ _ => rfl, rfl, rfl⟩
theorem fJ_trans (h1 : fJ w w1) (h2 : fJ w1 w2) : fJ w w2 := ⟨fV_trans h1.1 h2.1, fun i hi => (h2.2.1 i hi).trans (h1.2.1 i hi), h2.2.2.1.trans h1.2.2.1, h2.2.2.2.trans h1.2.2.2⟩
theorem fJ_fX (h1 : fV w w1) (h2 : fX w w1) : fJ w w1 := ⟨h1, h2.1, h2.2.2.2.2.2.1, h2.2.2.2.2.2.2.1⟩
theorem gy_mAll {s : aS} {sm : Nat → Int64} {g ge io ti hh su te : Int32} {b : Bool} (hm : mAll w s) : mAll (gyW w sm g ge (b2i b) io ti hh su te) s := by
  obtain ⟨⟨H, md, n, ls, fc, sn, sv, ss⟩, im, ⟨un, TK, TH⟩, ⟨y, t⟩, ⟨cr, fa, sta, sp, rf⟩, dn, DH⟩ := s
  obtain ⟨h1, h2, h3, h4, h5, h6, h7, h8⟩ := hm
  exact ⟨h1, h2, h3, h4, h5, h6, h7, b, rfl⟩
theorem gy_fJ {sm : Nat → Int64} {g ge br io ti hh su te : Int32} : fJ w (gyW w sm g ge br io ti hh su te) := ⟨fV_sc (by omega) (fV_sc (by omega) (fV_sc (by omega) (fV_sc (by omega) (fV_sc (by omega) (fV_sc (by omega) (fV_sc (by omega) (fV_sc (by omega) (fV_sm fV_refl)))))))), fun _ _ => rfl, rfl, rfl⟩
/-- the laid text as the evaluation wants it -/
def oTx (K : Nat → Int32) (T : Nat) (tc tv : qT) : Prop := T ≤ 400 ∧ (∀ k, k < T → K (92 + (2400 + k)) = tc k ∧ K (2892 + (2400 + k)) = tv k) ∧ ∀ k, T ≤ k → tc k = 0
theorem gyP_of (hT : oTx (w_ar w 42) T tc tv) (hJ : oJ (fun H tr => ((H, md, n, ls, fc, sn, sv, ss), im, tr, tp, sc, dr)) w X k) (h7 : n ≤ 7) (hW : hWf n X.1) : gyP (oE n X.1 X.2.2.1 X.2.2.2) T tc tv w := by
  obtain ⟨H, tr, dn, lt⟩ := X
  obtain ⟨hm, h1, h2, h3⟩ := hJ
  have hmm : mMain (w_ar w 42) (H, md, n, ls, fc, sn, sv, ss) := by
    obtain ⟨un, TK, TH⟩ := tr
    obtain ⟨y, t⟩ := tp
    obtain ⟨cr, fa, sta, sp, rf⟩ := sc
    obtain ⟨dn, DH⟩ := dr
    exact hm.1
  refine ⟨⟨by have := hT.1; omega, rfl, hT.2.1, hT.2.2⟩, ?_, hT.1⟩
  rw [h1, h2]
  exact e_ordE h7 hmm.2.2.1 hmm.1 (hWf_vows hW)
theorem oTx_fJ (hT : oTx (w_ar w 42) T tc tv) (hf : fJ w w1) : oTx (w_ar w1 42) T tc tv := ⟨hT.1, fun k hk => ⟨(hf.2.1 _ (by omega)).trans (hT.2.1 k hk).1, (hf.2.1 _ (by omega)).trans (hT.2.1 k hk).2⟩, hT.2.2⟩
theorem aA_wf {H : Nat → Int32} {tr : aTr} (ha : aAll ((H, md, n, ls, fc, sn, sv, ss), im, tr, tp, sc, dr)) : hWf n H := by
  obtain ⟨un, TK, TH⟩ := tr
  obtain ⟨y, t⟩ := tp
  obtain ⟨cr, fa, sta, sp, rf⟩ := sc
  obtain ⟨dn, DH⟩ := dr
  exact ha.1.2.2.2.2.1
theorem mBo {s : aS} (hm : mAll w s) : ∃ b : Bool, w_sc w 4024 = b2i b := by
  obtain ⟨⟨H, md, n, ls, fc, sn, sv, ss⟩, im, ⟨un, TK, TH⟩, ⟨y, t⟩, ⟨cr, fa, sta, sp, rf⟩, dn, DH⟩ := s
  exact hm.2.2.2.2.2.2.2
/-- along, from any world -/
theorem m_goesW {p p3 : Nat} {l : Bool} (hT : oTx (w_ar w 42) T tc tv) (hJ : oJ (fun H tr => ((H, md, n, ls, fc, sn, sv, ss), im, tr, tp, sc, dr)) w X k) (h7 : n ≤ 7) (hW : hWf n X.1) (hq : q_order tc tv k p = .inr (k3, p3, q)) (hd : 44 ≤ d) : k < T ∧ k < k3 + 1 ∧ k3 ≤ T ∧ gyK q.1 (tc k) ∧ ∃ (sm' : Nat → Int64) (b3 su te : Bool), (l = true → gyS q (oE n X.1 X.2.2.1 X.2.2.2) sm' su ∧ te = decide (q.2.2.2.2 (oE n X.1 X.2.2.1 X.2.2.2) = some true)) ∧ hv_sem (d + 1) 166 [.ref 40, .int (nI (2400 + T)), .int (b2i l)] (wB w) = some (none, wB (gyW w sm' (nI (2400 + k3 + 1)) (nI (2400 + T)) (b2i b3) 1 (nI q.2.2.2.1) (tc k) (b2i su) (b2i te))) := by
  obtain ⟨b0, hb⟩ := mBo hJ.1
  have h := m_goes (sm := w_sm w) (g0 := w_sc w 4022) (ge := w_sc w 4023) (b0 := b0) (io := w_sc w 4025) (ti := w_sc w 4045) (hh := w_sc w 4046) (su0 := w_sc w 4047) (te0 := w_sc w 4048) (l := l) (gyP_of hT hJ h7 hW) hJ.2.2.2 hq (d := d) hd
  rw [← hb, gy_id] at h
  exact h
def oM (w : wW) (Sf : (Nat → Int32) → aTr → aS) (X : oX) (k : Nat) (x : Option hv_O) (en be : Int32) (tm kk : Nat) (o : Option oX) : Prop := match o with
  | some X' => ∃ w1, x = some (.inl (1, [some (.ref 40), some (.int en), some (.int (nI tm)), some (.int be), some (.int (nI (kk + 1)))], [], wB w1, 0, 0)) ∧ oJ Sf w1 X' k ∧ fJ w w1 ∧ aAll (Sf X'.1 X'.2.1)
  | none => ∃ w1, x = some (.inr (some (.int 0), wB w1)) ∧ mAll w1 (Sf X.1 X.2.1) ∧ fJ w w1
set_option maxHeartbeats 1000000 in
theorem m_oStep {p p3 : Nat} {be : Int32} {o : Option oX} (hT : oTx (w_ar w 42) T tc tv) (hJ : oJ (fun H tr => ((H, md, n, ls, fc, sn, sv, ss), im, tr, tp, sc, dr)) w X k) (h7 : n ≤ 7) (haX : aAll ((X.1, md, n, ls, fc, sn, sv, ss), im, X.2.1, tp, sc, dr)) (hq : q_order tc tv k p = .inr (k3, p3, q)) (hkk : kk < tm) (htm : tm ≤ 20) (ho : oT d n (fun H tr => ((H, md, n, ls, fc, sn, sv, ss), im, tr, tp, sc, dr)) q X o) (hd : 44 ≤ d) : oM w (fun H tr => ((H, md, n, ls, fc, sn, sv, ss), im, tr, tp, sc, dr)) X k (hl_M_runs_0 (hv_step hv_cm hv_vk hv_dv hv_ft 0 0 (some .boolean) (hv_sem (d + 1))) ([some (.ref 40), some (.int (nI (2400 + T))), some (.int (nI tm)), some (.int be), some (.int (nI kk))], [], wB w, 0, 0)) (nI (2400 + T)) be tm kk o := by
  have hW : hWf n X.1 := aA_wf haX
  obtain ⟨hkT, _, _, hK, sm, b3, su, te, hS, eg⟩ := m_goesW (l := true) hT hJ h7 hW hq (d := d) hd
  obtain ⟨⟨hsu, hsm⟩, hte⟩ := hS rfl
  rw [show b2i true = 1 from rfl] at eg
  obtain ⟨H, tr, dn, lt⟩ := X
  obtain ⟨hm, j1, j2, j3⟩ := hJ
  have hmu := gy_mAll (sm := sm) (g := nI (2400 + k3 + 1)) (ge := nI (2400 + T)) (b := b3) (io := 1) (ti := nI q.2.2.2.1) (hh := tc k) (su := b2i su) (te := b2i te) hm
  have hfu := gy_fJ (w := w) (sm := sm) (g := nI (2400 + k3 + 1)) (ge := nI (2400 + T)) (br := b2i b3) (io := 1) (ti := nI q.2.2.2.1) (hh := tc k) (su := b2i su) (te := b2i te)
  have t48 : w_sc (gyW w sm (nI (2400 + k3 + 1)) (nI (2400 + T)) (b2i b3) 1 (nI q.2.2.2.1) (tc k) (b2i su) (b2i te)) 4048 = b2i te := rfl
  have t47 : w_sc (gyW w sm (nI (2400 + k3 + 1)) (nI (2400 + T)) (b2i b3) 1 (nI q.2.2.2.1) (tc k) (b2i su) (b2i te)) 4047 = b2i su := rfl
  rcases ho with ⟨hc, rfl⟩ | ⟨hc, ho⟩
  · have hte0 : te = false := by rw [hte]; exact decide_eq_false hc
    refine ⟨_, ?_, ⟨hmu, j1, j2, j3⟩, hfu, haX⟩
    rw [hte0, show b2i false = 0 from rfl] at t48 eg ⊢
    clear hmu hfu hm hsm t47
    generalize gyW w sm (nI (2400 + k3 + 1)) (nI (2400 + T)) (b2i b3) 1 (nI q.2.2.2.1) (tc k) (b2i su) 0 = u at *
    simp -implicitDefEqProofs (disch := first | assumption | omega) [r_cons, r_nil, k_seq, k_blk, k_s0, k_s1, k_sr, k_sn, k_si, k_b0, k_b1, k_br, k_bn, k_bi, k_fr, k_fi, k_fn, k_l0, k_l1, k_l2, k_lr, k_ln, k_li, hv_nx, rc_none, hv_cmp, k_w0, k_wi, k_wr, k_wl, k_wn, k_wt, k_in0, k_ini, k_inr, k_inl, k_inn, k_int, k_nb0, k_nb1, k_nbi, k_ni, k_fi32, k_fb0, k_fb1, k_fbb, k_nbb, hv_st1, hv_st2, hv_k1, hv_ft, k_le, -Int32.not_lt, -Int32.not_le, gl_0, gl_1, gl_2, gl_3, gl_4, gl_5, gl_6, gl_7, gl_8, gl_9, gl_10, gl_11, gl_12, sl_0, sl_1, sl_2, sl_3, sl_4, sl_5, sl_6, sl_7, sl_8, sl_9, sl_10, sl_11, sl_12, st_iconst, st_bipush, st_ldc, st_aconst_null, st_iload, st_lload, st_aload, st_istore, st_astore, st_lstore, st_iinc, st_iadd, st_isub, st_imul, st_iand, st_ior, st_ishl, st_ishr, st_iushr, st_idiv, st_irem, st_ineg, st_ladd, st_lsub, st_lmul, st_ldiv, st_lrem, st_lcmp, st_i2l, st_l2i, st_i2b, st_dup, st_dup2, st_pop, st_goto, st_ifCond, st_if_icmp, st_ifnull, st_ifnonnull, st_tableswitch, st_iaload, st_baload, st_laload, st_aaload, st_iastore, st_bastore, st_lastore, st_aastore, st_arraylength, st_new, st_newarray, st_anewarray, st_invokespecial, st_invokestatic, st_swap, st_checkcast, st_invokeinterface, st_ireturn, st_lreturn, st_areturn, st_return_, nI_add, nI_1, nI_lits, nI_litr, nI_litm, nI_litn, pk_mul, a_clamp, a_subl, a_lsub, a_sub, a_lt, a_ltl, a_llt, a_eq, a_eql, a_leq, a_m1, a_m1r, a_neg, a_lt0, a_0lt, a_eq0, a_0eq, lg_cmp_gt, lg_cmp_lt, lg_cmp_eq, n_lt1, n_lt0, n_le1, n_le0, n_eq1, n_eq0, g_sc_sc, g_sc_ar, g_sc_sm, g_sc_rh, g_sc_rl, g_sc_la, g_sc_im, g_sc_dy, g_ar_sc, g_ar_ar, g_ar_sm, g_ar_rh, g_ar_rl, g_ar_la, g_ar_im, g_ar_dy, g_sm_sc, g_sm_ar, g_sm_sm, g_sm_rh, g_sm_rl, g_sm_la, g_sm_im, g_sm_dy, g_rh_sc, g_rh_ar, g_rh_sm, g_rh_rh, g_rh_rl, g_rh_la, g_rh_im, g_rh_dy, g_rl_sc, g_rl_ar, g_rl_sm, g_rl_rh, g_rl_rl, g_rl_la, g_rl_im, g_rl_dy, g_la_sc, g_la_ar, g_la_sm, g_la_rh, g_la_rl, g_la_la, g_la_im, g_la_dy, g_im_sc, g_im_ar, g_im_sm, g_im_rh, g_im_rl, g_im_la, g_im_im, g_im_dy, g_dy_sc, g_dy_ar, g_dy_sm, g_dy_rh, g_dy_rl, g_dy_la, g_dy_im, g_dy_dy, n_scsc, n_arar, n_scar, n_scS, n_arS, n_smsc, n_smar, n_smsm, n_rhsc, n_rhar, n_rhrh, n_rlsc, n_rlar, n_rlrl, n_lasc, n_laar, n_lala, n_imsc, n_imar, n_imim, n_dysc, n_dyar, n_dydy, hl_M_runs_0, cm_166, vk_166, cm_168, vk_168, rc_40, wr_41, wr_42, wr_43, wr_44, wr_45, wr_46, wr_47, wr_48, wr_49, wr_50, wr_51, wr_52, wr_53, wr_54, wr_55, wr_56, wr_57, wr_58, wr_59, wr_60, wr_61, wr_62, wr_63, wr_64, wr_65, gf_4000, pf_4000, gf_4001, gf_4002, gf_4003, gf_4004, gf_4005, gf_4006, pf_4006, gf_4007, gf_4008, pf_4008, gf_4009, pf_4009, gf_4010, pf_4010, gf_4011, gf_4012, gf_4013, pf_4013, gf_4014, pf_4014, gf_4015, gf_4016, gf_4017, gf_4018, pf_4018, gf_4019, pf_4019, gf_4020, pf_4020, gf_4021, pf_4021, gf_4022, pf_4022, gf_4023, pf_4023, gf_4024, pf_4024, gf_4025, pf_4025, gf_4026, gf_4027, pf_4027, gf_4028, pf_4028, gf_4029, gf_4030, gf_4031, gf_4032, pf_4032, gf_4033, gf_4034, gf_4035, gf_4036, gf_4037, gf_4038, gf_4039, pf_4039, gf_4040, pf_4040, gf_4041, gf_4042, gf_4043, pf_4043, gf_4044, pf_4044, gf_4045, pf_4045, gf_4046, pf_4046, gf_4047, pf_4047, gf_4048, pf_4048, gf_4049, gf_4050, gf_4051, pf_4051, gf_4052, pf_4052, ww_41, ww_42, ww_43, ww_44, ww_45, ww_46, ww_47, ww_48, ww_49, ww_50, ww_51, ww_52, ww_53, ww_54, ww_55, ww_56, ww_57, ww_58, ww_59, ww_60, ww_61, ww_62, ww_63, ww_64, ww_65, tyX11, eg, t48]
  · have hte1 : te = true := by rw [hte]; exact decide_eq_true hc
    rcases ho with ⟨ha, rfl⟩ | ⟨x, y, z, ha, hR, rfl⟩
    · have hsu0 : su = false := by rw [hsu]; show (oAr q.1 q.2.1 q.2.2.1 (oE n H dn lt)).isSome = false; rw [ha]; rfl
      refine ⟨_, ?_, hmu, hfu⟩
      rw [hte1, show b2i true = 1 from rfl] at t48 eg t47 ⊢
      rw [hsu0, show b2i false = 0 from rfl] at t47 eg t48 ⊢
      clear hmu hfu hm hsm
      generalize gyW w sm (nI (2400 + k3 + 1)) (nI (2400 + T)) (b2i b3) 1 (nI q.2.2.2.1) (tc k) 0 1 = u at *
      simp -implicitDefEqProofs (disch := first | assumption | omega) [r_cons, r_nil, k_seq, k_blk, k_s0, k_s1, k_sr, k_sn, k_si, k_b0, k_b1, k_br, k_bn, k_bi, k_fr, k_fi, k_fn, k_l0, k_l1, k_l2, k_lr, k_ln, k_li, hv_nx, rc_none, hv_cmp, k_w0, k_wi, k_wr, k_wl, k_wn, k_wt, k_in0, k_ini, k_inr, k_inl, k_inn, k_int, k_nb0, k_nb1, k_nbi, k_ni, k_fi32, k_fb0, k_fb1, k_fbb, k_nbb, hv_st1, hv_st2, hv_k1, hv_ft, k_le, -Int32.not_lt, -Int32.not_le, gl_0, gl_1, gl_2, gl_3, gl_4, gl_5, gl_6, gl_7, gl_8, gl_9, gl_10, gl_11, gl_12, sl_0, sl_1, sl_2, sl_3, sl_4, sl_5, sl_6, sl_7, sl_8, sl_9, sl_10, sl_11, sl_12, st_iconst, st_bipush, st_ldc, st_aconst_null, st_iload, st_lload, st_aload, st_istore, st_astore, st_lstore, st_iinc, st_iadd, st_isub, st_imul, st_iand, st_ior, st_ishl, st_ishr, st_iushr, st_idiv, st_irem, st_ineg, st_ladd, st_lsub, st_lmul, st_ldiv, st_lrem, st_lcmp, st_i2l, st_l2i, st_i2b, st_dup, st_dup2, st_pop, st_goto, st_ifCond, st_if_icmp, st_ifnull, st_ifnonnull, st_tableswitch, st_iaload, st_baload, st_laload, st_aaload, st_iastore, st_bastore, st_lastore, st_aastore, st_arraylength, st_new, st_newarray, st_anewarray, st_invokespecial, st_invokestatic, st_swap, st_checkcast, st_invokeinterface, st_ireturn, st_lreturn, st_areturn, st_return_, nI_add, nI_1, nI_lits, nI_litr, nI_litm, nI_litn, pk_mul, a_clamp, a_subl, a_lsub, a_sub, a_lt, a_ltl, a_llt, a_eq, a_eql, a_leq, a_m1, a_m1r, a_neg, a_lt0, a_0lt, a_eq0, a_0eq, lg_cmp_gt, lg_cmp_lt, lg_cmp_eq, n_lt1, n_lt0, n_le1, n_le0, n_eq1, n_eq0, g_sc_sc, g_sc_ar, g_sc_sm, g_sc_rh, g_sc_rl, g_sc_la, g_sc_im, g_sc_dy, g_ar_sc, g_ar_ar, g_ar_sm, g_ar_rh, g_ar_rl, g_ar_la, g_ar_im, g_ar_dy, g_sm_sc, g_sm_ar, g_sm_sm, g_sm_rh, g_sm_rl, g_sm_la, g_sm_im, g_sm_dy, g_rh_sc, g_rh_ar, g_rh_sm, g_rh_rh, g_rh_rl, g_rh_la, g_rh_im, g_rh_dy, g_rl_sc, g_rl_ar, g_rl_sm, g_rl_rh, g_rl_rl, g_rl_la, g_rl_im, g_rl_dy, g_la_sc, g_la_ar, g_la_sm, g_la_rh, g_la_rl, g_la_la, g_la_im, g_la_dy, g_im_sc, g_im_ar, g_im_sm, g_im_rh, g_im_rl, g_im_la, g_im_im, g_im_dy, g_dy_sc, g_dy_ar, g_dy_sm, g_dy_rh, g_dy_rl, g_dy_la, g_dy_im, g_dy_dy, n_scsc, n_arar, n_scar, n_scS, n_arS, n_smsc, n_smar, n_smsm, n_rhsc, n_rhar, n_rhrh, n_rlsc, n_rlar, n_rlrl, n_lasc, n_laar, n_lala, n_imsc, n_imar, n_imim, n_dysc, n_dyar, n_dydy, hl_M_runs_0, cm_166, vk_166, cm_168, vk_168, rc_40, wr_41, wr_42, wr_43, wr_44, wr_45, wr_46, wr_47, wr_48, wr_49, wr_50, wr_51, wr_52, wr_53, wr_54, wr_55, wr_56, wr_57, wr_58, wr_59, wr_60, wr_61, wr_62, wr_63, wr_64, wr_65, gf_4000, pf_4000, gf_4001, gf_4002, gf_4003, gf_4004, gf_4005, gf_4006, pf_4006, gf_4007, gf_4008, pf_4008, gf_4009, pf_4009, gf_4010, pf_4010, gf_4011, gf_4012, gf_4013, pf_4013, gf_4014, pf_4014, gf_4015, gf_4016, gf_4017, gf_4018, pf_4018, gf_4019, pf_4019, gf_4020, pf_4020, gf_4021, pf_4021, gf_4022, pf_4022, gf_4023, pf_4023, gf_4024, pf_4024, gf_4025, pf_4025, gf_4026, gf_4027, pf_4027, gf_4028, pf_4028, gf_4029, gf_4030, gf_4031, gf_4032, pf_4032, gf_4033, gf_4034, gf_4035, gf_4036, gf_4037, gf_4038, gf_4039, pf_4039, gf_4040, pf_4040, gf_4041, gf_4042, gf_4043, pf_4043, gf_4044, pf_4044, gf_4045, pf_4045, gf_4046, pf_4046, gf_4047, pf_4047, gf_4048, pf_4048, gf_4049, gf_4050, gf_4051, pf_4051, gf_4052, pf_4052, ww_41, ww_42, ww_43, ww_44, ww_45, ww_46, ww_47, ww_48, ww_49, ww_50, ww_51, ww_52, ww_53, ww_54, ww_55, ww_56, ww_57, ww_58, ww_59, ww_60, ww_61, ww_62, ww_63, ww_64, ww_65, tyX11, eg, t48, t47]
    · have hsu1 : su = true := by rw [hsu]; show (oAr q.1 q.2.1 q.2.2.1 (oE n H dn lt)).isSome = true; rw [ha]; rfl
      obtain ⟨s0, s1⟩ := hsm x y ha
      have hob := fun r w3 => m_obeysR (w := w) (sm := sm) (g := nI (2400 + k3 + 1)) (ge := nI (2400 + T)) (br := b2i b3) (io := 1) (ti := nI q.2.2.2.1) (x9 := tc k) (su := b2i su) (te := b2i te) (x := x) (y := y) hK s0 s1 (d := d) (by omega) (r := r) (w3 := w3)
      have k27 : w_sc (gyW w sm (nI (2400 + k3 + 1)) (nI (2400 + T)) (b2i b3) 1 (nI q.2.2.2.1) (tc k) (b2i su) (b2i te)) 4027 = nI dn ∧ w_sc (gyW w sm (nI (2400 + k3 + 1)) (nI (2400 + T)) (b2i b3) 1 (nI q.2.2.2.1) (tc k) (b2i su) (b2i te)) 4028 = lt ∧ w_sc (gyW w sm (nI (2400 + k3 + 1)) (nI (2400 + T)) (b2i b3) 1 (nI q.2.2.2.1) (tc k) (b2i su) (b2i te)) 4044 = nI (2400 + k) := ⟨j1, j2, j3⟩
      rw [hte1, hsu1, show b2i true = 1 from rfl] at eg hob hmu hfu k27 t48 t47
      clear hm hsm
      generalize gyW w sm (nI (2400 + k3 + 1)) (nI (2400 + T)) (b2i b3) 1 (nI q.2.2.2.1) (tc k) 1 1 = u at *
      cases z with
      | none =>
        obtain ⟨r, w3, e3, hr, g1, g2, g3⟩ := hR u hmu
        have eo := hob r w3 e3
        have hn : r < 0 := by rcases hr with rfl | rfl | rfl <;> decide
        rw [if_neg (fun q => q.2 hn)] at eo
        refine ⟨w3, ?_, g1, fJ_trans hfu (fJ_fX g2 g3)⟩
        clear hmu hfu g1 g2 g3 hob hR
        simp -implicitDefEqProofs (disch := first | assumption | omega) [r_cons, r_nil, k_seq, k_blk, k_s0, k_s1, k_sr, k_sn, k_si, k_b0, k_b1, k_br, k_bn, k_bi, k_fr, k_fi, k_fn, k_l0, k_l1, k_l2, k_lr, k_ln, k_li, hv_nx, rc_none, hv_cmp, k_w0, k_wi, k_wr, k_wl, k_wn, k_wt, k_in0, k_ini, k_inr, k_inl, k_inn, k_int, k_nb0, k_nb1, k_nbi, k_ni, k_fi32, k_fb0, k_fb1, k_fbb, k_nbb, hv_st1, hv_st2, hv_k1, hv_ft, k_le, -Int32.not_lt, -Int32.not_le, gl_0, gl_1, gl_2, gl_3, gl_4, gl_5, gl_6, gl_7, gl_8, gl_9, gl_10, gl_11, gl_12, sl_0, sl_1, sl_2, sl_3, sl_4, sl_5, sl_6, sl_7, sl_8, sl_9, sl_10, sl_11, sl_12, st_iconst, st_bipush, st_ldc, st_aconst_null, st_iload, st_lload, st_aload, st_istore, st_astore, st_lstore, st_iinc, st_iadd, st_isub, st_imul, st_iand, st_ior, st_ishl, st_ishr, st_iushr, st_idiv, st_irem, st_ineg, st_ladd, st_lsub, st_lmul, st_ldiv, st_lrem, st_lcmp, st_i2l, st_l2i, st_i2b, st_dup, st_dup2, st_pop, st_goto, st_ifCond, st_if_icmp, st_ifnull, st_ifnonnull, st_tableswitch, st_iaload, st_baload, st_laload, st_aaload, st_iastore, st_bastore, st_lastore, st_aastore, st_arraylength, st_new, st_newarray, st_anewarray, st_invokespecial, st_invokestatic, st_swap, st_checkcast, st_invokeinterface, st_ireturn, st_lreturn, st_areturn, st_return_, nI_add, nI_1, nI_lits, nI_litr, nI_litm, nI_litn, pk_mul, a_clamp, a_subl, a_lsub, a_sub, a_lt, a_ltl, a_llt, a_eq, a_eql, a_leq, a_m1, a_m1r, a_neg, a_lt0, a_0lt, a_eq0, a_0eq, lg_cmp_gt, lg_cmp_lt, lg_cmp_eq, n_lt1, n_lt0, n_le1, n_le0, n_eq1, n_eq0, g_sc_sc, g_sc_ar, g_sc_sm, g_sc_rh, g_sc_rl, g_sc_la, g_sc_im, g_sc_dy, g_ar_sc, g_ar_ar, g_ar_sm, g_ar_rh, g_ar_rl, g_ar_la, g_ar_im, g_ar_dy, g_sm_sc, g_sm_ar, g_sm_sm, g_sm_rh, g_sm_rl, g_sm_la, g_sm_im, g_sm_dy, g_rh_sc, g_rh_ar, g_rh_sm, g_rh_rh, g_rh_rl, g_rh_la, g_rh_im, g_rh_dy, g_rl_sc, g_rl_ar, g_rl_sm, g_rl_rh, g_rl_rl, g_rl_la, g_rl_im, g_rl_dy, g_la_sc, g_la_ar, g_la_sm, g_la_rh, g_la_rl, g_la_la, g_la_im, g_la_dy, g_im_sc, g_im_ar, g_im_sm, g_im_rh, g_im_rl, g_im_la, g_im_im, g_im_dy, g_dy_sc, g_dy_ar, g_dy_sm, g_dy_rh, g_dy_rl, g_dy_la, g_dy_im, g_dy_dy, n_scsc, n_arar, n_scar, n_scS, n_arS, n_smsc, n_smar, n_smsm, n_rhsc, n_rhar, n_rhrh, n_rlsc, n_rlar, n_rlrl, n_lasc, n_laar, n_lala, n_imsc, n_imar, n_imim, n_dysc, n_dyar, n_dydy, hl_M_runs_0, cm_166, vk_166, cm_168, vk_168, rc_40, wr_41, wr_42, wr_43, wr_44, wr_45, wr_46, wr_47, wr_48, wr_49, wr_50, wr_51, wr_52, wr_53, wr_54, wr_55, wr_56, wr_57, wr_58, wr_59, wr_60, wr_61, wr_62, wr_63, wr_64, wr_65, gf_4000, pf_4000, gf_4001, gf_4002, gf_4003, gf_4004, gf_4005, gf_4006, pf_4006, gf_4007, gf_4008, pf_4008, gf_4009, pf_4009, gf_4010, pf_4010, gf_4011, gf_4012, gf_4013, pf_4013, gf_4014, pf_4014, gf_4015, gf_4016, gf_4017, gf_4018, pf_4018, gf_4019, pf_4019, gf_4020, pf_4020, gf_4021, pf_4021, gf_4022, pf_4022, gf_4023, pf_4023, gf_4024, pf_4024, gf_4025, pf_4025, gf_4026, gf_4027, pf_4027, gf_4028, pf_4028, gf_4029, gf_4030, gf_4031, gf_4032, pf_4032, gf_4033, gf_4034, gf_4035, gf_4036, gf_4037, gf_4038, gf_4039, pf_4039, gf_4040, pf_4040, gf_4041, gf_4042, gf_4043, pf_4043, gf_4044, pf_4044, gf_4045, pf_4045, gf_4046, pf_4046, gf_4047, pf_4047, gf_4048, pf_4048, gf_4049, gf_4050, gf_4051, pf_4051, gf_4052, pf_4052, ww_41, ww_42, ww_43, ww_44, ww_45, ww_46, ww_47, ww_48, ww_49, ww_50, ww_51, ww_52, ww_53, ww_54, ww_55, ww_56, ww_57, ww_58, ww_59, ww_60, ww_61, ww_62, ww_63, ww_64, ww_65, tyX11, eg, t48, t47, eo, hn]
      | some z =>
        obtain ⟨r, H', tr'⟩ := z
        obtain ⟨⟨kr, hkr, er⟩, haZ, hR⟩ := hR
        replace er : r = nI kr := er
        subst er
        obtain ⟨w3, e3, g1, g2, g3⟩ := hR u hmu
        replace e3 : hv_sem d (oMm q.1) (.ref 40 :: oAs q.1 (smI x) (smI y)) (wB u) = some (some (.int (nI kr)), wB w3) := e3
        have hn : ¬ nI kr < 0 := by rw [a_lt0 (by omega)]; exact fun q => q
        have eo := hob (nI kr) w3 e3
        have hm4 : mAll (if q.1 = 0 ∧ ¬ nI kr < 0 then s_sc w3 4028 (nI kr) else w3) ((H', md, n, ls, fc, sn, sv, ss), im, tr', tp, sc, dr) := by
          split
          · obtain ⟨un, TK, TH⟩ := tr'
            obtain ⟨y, t⟩ := tp
            obtain ⟨cr, fa, sta, sp, rf⟩ := sc
            obtain ⟨dn, DH⟩ := dr
            exact g1
          · exact g1
        have hf4 : fJ u (if q.1 = 0 ∧ ¬ nI kr < 0 then s_sc w3 4028 (nI kr) else w3) := by
          split
          · exact fJ_trans (fJ_fX g2 g3) ⟨fV_sc (by omega) fV_refl, fun _ _ => rfl, rfl, rfl⟩
          · exact fJ_fX g2 g3
        have h27 : w_sc (if q.1 = 0 ∧ ¬ nI kr < 0 then s_sc w3 4028 (nI kr) else w3) 4027 = nI dn := by
          split
          · exact g3.2.1.trans k27.1
          · exact g3.2.1.trans k27.1
        have h28 : w_sc (if q.1 = 0 ∧ ¬ nI kr < 0 then s_sc w3 4028 (nI kr) else w3) 4028 = if q.1 = 0 then nI kr else lt := by
          by_cases q0 : q.1 = 0
          · rw [if_pos ⟨q0, hn⟩, if_pos q0]
            rfl
          · rw [if_neg (fun z => q0 z.1), if_neg q0]
            exact g3.2.2.1.trans k27.2.1
        have h44 : w_sc (if q.1 = 0 ∧ ¬ nI kr < 0 then s_sc w3 4028 (nI kr) else w3) 4044 = nI (2400 + k) := by
          split
          · exact g3.2.2.2.1.trans k27.2.2
          · exact g3.2.2.2.1.trans k27.2.2
        generalize (if q.1 = 0 ∧ ¬ nI kr < 0 then s_sc w3 4028 (nI kr) else w3) = w4 at *
        refine ⟨s_sc w4 4027 (nI (dn + 1)), ?_, ⟨?_, rfl, h28, h44⟩, fJ_trans hfu (fJ_trans hf4 ⟨fV_sc (by omega) fV_refl, fun _ _ => rfl, rfl, rfl⟩), haZ⟩
        · clear hmu hfu g1 g2 g3 hob hR hm4 hf4
          simp -implicitDefEqProofs (disch := first | assumption | omega) [r_cons, r_nil, k_seq, k_blk, k_s0, k_s1, k_sr, k_sn, k_si, k_b0, k_b1, k_br, k_bn, k_bi, k_fr, k_fi, k_fn, k_l0, k_l1, k_l2, k_lr, k_ln, k_li, hv_nx, rc_none, hv_cmp, k_w0, k_wi, k_wr, k_wl, k_wn, k_wt, k_in0, k_ini, k_inr, k_inl, k_inn, k_int, k_nb0, k_nb1, k_nbi, k_ni, k_fi32, k_fb0, k_fb1, k_fbb, k_nbb, hv_st1, hv_st2, hv_k1, hv_ft, k_le, -Int32.not_lt, -Int32.not_le, gl_0, gl_1, gl_2, gl_3, gl_4, gl_5, gl_6, gl_7, gl_8, gl_9, gl_10, gl_11, gl_12, sl_0, sl_1, sl_2, sl_3, sl_4, sl_5, sl_6, sl_7, sl_8, sl_9, sl_10, sl_11, sl_12, st_iconst, st_bipush, st_ldc, st_aconst_null, st_iload, st_lload, st_aload, st_istore, st_astore, st_lstore, st_iinc, st_iadd, st_isub, st_imul, st_iand, st_ior, st_ishl, st_ishr, st_iushr, st_idiv, st_irem, st_ineg, st_ladd, st_lsub, st_lmul, st_ldiv, st_lrem, st_lcmp, st_i2l, st_l2i, st_i2b, st_dup, st_dup2, st_pop, st_goto, st_ifCond, st_if_icmp, st_ifnull, st_ifnonnull, st_tableswitch, st_iaload, st_baload, st_laload, st_aaload, st_iastore, st_bastore, st_lastore, st_aastore, st_arraylength, st_new, st_newarray, st_anewarray, st_invokespecial, st_invokestatic, st_swap, st_checkcast, st_invokeinterface, st_ireturn, st_lreturn, st_areturn, st_return_, nI_add, nI_1, nI_lits, nI_litr, nI_litm, nI_litn, pk_mul, a_clamp, a_subl, a_lsub, a_sub, a_lt, a_ltl, a_llt, a_eq, a_eql, a_leq, a_m1, a_m1r, a_neg, a_lt0, a_0lt, a_eq0, a_0eq, lg_cmp_gt, lg_cmp_lt, lg_cmp_eq, n_lt1, n_lt0, n_le1, n_le0, n_eq1, n_eq0, g_sc_sc, g_sc_ar, g_sc_sm, g_sc_rh, g_sc_rl, g_sc_la, g_sc_im, g_sc_dy, g_ar_sc, g_ar_ar, g_ar_sm, g_ar_rh, g_ar_rl, g_ar_la, g_ar_im, g_ar_dy, g_sm_sc, g_sm_ar, g_sm_sm, g_sm_rh, g_sm_rl, g_sm_la, g_sm_im, g_sm_dy, g_rh_sc, g_rh_ar, g_rh_sm, g_rh_rh, g_rh_rl, g_rh_la, g_rh_im, g_rh_dy, g_rl_sc, g_rl_ar, g_rl_sm, g_rl_rh, g_rl_rl, g_rl_la, g_rl_im, g_rl_dy, g_la_sc, g_la_ar, g_la_sm, g_la_rh, g_la_rl, g_la_la, g_la_im, g_la_dy, g_im_sc, g_im_ar, g_im_sm, g_im_rh, g_im_rl, g_im_la, g_im_im, g_im_dy, g_dy_sc, g_dy_ar, g_dy_sm, g_dy_rh, g_dy_rl, g_dy_la, g_dy_im, g_dy_dy, n_scsc, n_arar, n_scar, n_scS, n_arS, n_smsc, n_smar, n_smsm, n_rhsc, n_rhar, n_rhrh, n_rlsc, n_rlar, n_rlrl, n_lasc, n_laar, n_lala, n_imsc, n_imar, n_imim, n_dysc, n_dyar, n_dydy, hl_M_runs_0, cm_166, vk_166, cm_168, vk_168, rc_40, wr_41, wr_42, wr_43, wr_44, wr_45, wr_46, wr_47, wr_48, wr_49, wr_50, wr_51, wr_52, wr_53, wr_54, wr_55, wr_56, wr_57, wr_58, wr_59, wr_60, wr_61, wr_62, wr_63, wr_64, wr_65, gf_4000, pf_4000, gf_4001, gf_4002, gf_4003, gf_4004, gf_4005, gf_4006, pf_4006, gf_4007, gf_4008, pf_4008, gf_4009, pf_4009, gf_4010, pf_4010, gf_4011, gf_4012, gf_4013, pf_4013, gf_4014, pf_4014, gf_4015, gf_4016, gf_4017, gf_4018, pf_4018, gf_4019, pf_4019, gf_4020, pf_4020, gf_4021, pf_4021, gf_4022, pf_4022, gf_4023, pf_4023, gf_4024, pf_4024, gf_4025, pf_4025, gf_4026, gf_4027, pf_4027, gf_4028, pf_4028, gf_4029, gf_4030, gf_4031, gf_4032, pf_4032, gf_4033, gf_4034, gf_4035, gf_4036, gf_4037, gf_4038, gf_4039, pf_4039, gf_4040, pf_4040, gf_4041, gf_4042, gf_4043, pf_4043, gf_4044, pf_4044, gf_4045, pf_4045, gf_4046, pf_4046, gf_4047, pf_4047, gf_4048, pf_4048, gf_4049, gf_4050, gf_4051, pf_4051, gf_4052, pf_4052, ww_41, ww_42, ww_43, ww_44, ww_45, ww_46, ww_47, ww_48, ww_49, ww_50, ww_51, ww_52, ww_53, ww_54, ww_55, ww_56, ww_57, ww_58, ww_59, ww_60, ww_61, ww_62, ww_63, ww_64, ww_65, tyX11, eg, t48, t47, eo, hn, h27]
        · obtain ⟨un, TK, TH⟩ := tr'
          obtain ⟨y, t⟩ := tp
          obtain ⟨cr, fa, sta, sp, rf⟩ := sc
          obtain ⟨dn, DH⟩ := dr
          exact hm4
end OL
