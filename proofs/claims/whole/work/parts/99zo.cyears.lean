/-! Calls: years. -/
section DC
variable {w : wW} {n m s q : Nat} {H : Nat → Int32} {md : Int32} {d : Nat}
variable {fc : Int32} {sn : Nat} {ls : List (List qC)} {sv ss : Nat → Int32} {im : Nat → Option aW} {tr : aTr} {tp : (Nat → Nat) × Nat} {cr fa sta sp : Int32} {rf : Nat → Int32} {dr : Nat × (Nat → Int32)}
def dyE (w : wW) (n : Nat) (s : Int32) (Y : rfX) (x : tX) : wW := s_ar (s_ar (tT' (rfV (s_sc (s_ar (s_sc w 4051 (nI n)) 45 (cpq (w_ar w 42) (w_ar w 45) (64 * 0) 64)) 4052 s) Y) x) 65 (cpq Y.1 (w_ar w 65) 0 64)) 42 (w_ar w 42)
theorem mAll_dy {G : Nat → Int32} {a : Int32} {Y : rfX} {x : tX} (hm : mAll w ((H, md, n, ls, fc, sn, sv, ss), im, tr, tp, (cr, fa, sta, sp, rf), dr)) (h0 : 0 < n) (h7 : n ≤ 7) (hY : hA n Y.1 G) : mAll (dyE w n a Y x) ((H, md, n, ls, fc, sn, sv, ss), im, tr, tp, (cr, fa, sta, sp, rf), (n, G)) := by
  obtain ⟨un, TK, TH⟩ := tr
  obtain ⟨y, t⟩ := tp
  obtain ⟨dn, DH⟩ := dr
  obtain ⟨h1, h2, h3, h4, h5, h6, h8, h9⟩ := hm
  have hC : hA n (cpq Y.1 (w_ar w 65) 0 64) G := hA_cg hY h7 (fun j hj => by rw [cpq, if_pos (by omega)]; rfl)
  exact ⟨h1, h2, h3, h4, h5, Or.inr ⟨h0, rfl, hC⟩, h8, x.2.2.2.1, rfl⟩
theorem fV_dy {a : Int32} {Y : rfX} {x : tX} : fV w (dyE w n a Y x) := fV_ar (by omega) (fV_ar (by omega) (fV_tT (fV_ar (by omega) (fV_ar (by omega) (fV_ar (by omega) (fV_ar (by omega) (fV_ar (by omega) (fV_ar (by omega) (fV_sc (by omega) (fV_ar (by omega) (fV_sc (by omega) fV_refl)))))))))))
set_option maxHeartbeats 400000 in
theorem m_years (hm : mAll w ((H, md, n, ls, fc, sn, sv, ss), im, tr, tp, (cr, fa, sta, sp, rf), dr)) (ha : aOk (H, md, n, ls, fc, sn, sv, ss)) (h0 : 0 < n) (hs : s ≤ 1000000) (hq1 : 1 ≤ q) (hq : q ≤ 100) (hd : 49 ≤ d) : ∃ w2, hv_sem d 172 [.ref 40, .int (nI s), .int (nI q)] (wB w) = some (some (.int (nI (dyK (aLaw ls fc) md n H s q).2.2)), wB w2) ∧ mAll w2 ((H, md, n, ls, fc, sn, sv, ss), im, tr, tp, (cr, fa, 0, sp, rf), (n, (dyK (aLaw ls fc) md n H s q).1)) ∧ fV w w2 := by
  obtain ⟨d, rfl⟩ : ∃ e, d = e + 1 := ⟨d - 1, by omega⟩
  have hmc := hm
  obtain ⟨un, TK, TH⟩ := tr
  obtain ⟨y, t⟩ := tp
  obtain ⟨dn, DH⟩ := dr
  obtain ⟨hmm, _, _, _, _, _, _, bb, hbb⟩ := hm
  have hAM : askM w (aLaw ls fc) md n H := askM_of hmm ha
  obtain ⟨q1, q2, q3, q4, q5⟩ := hAM
  have h81 : w_ar w 42 81 = nI n := hmm.2.2.1
  have ea := m_aside (w := s_sc (s_sc w 4051 (nI n)) 4052 (nI s)) (q := 0) (by omega) (d := d) (by omega)
  replace ea : hv_sem d 56 [.ref 40, .int 0] (wB (s_sc (s_sc w 4051 (nI n)) 4052 (nI s))) = some (none, wB (s_ar (s_sc (s_sc w 4051 (nI n)) 4052 (nI s)) 45 (cpq (w_ar w 42) (w_ar w 45) (64 * 0) 64))) := ea
  have en : s_ar (s_sc (s_sc w 4051 (nI n)) 4052 (nI s)) 45 (cpq (w_ar w 42) (w_ar w 45) (64 * 0) 64) = s_sc (s_ar (s_sc w 4051 (nI n)) 45 (cpq (w_ar w 42) (w_ar w 45) (64 * 0) 64)) 4052 (nI s) := rfl
  rw [en] at ea
  obtain ⟨Y, x, hY, hY1⟩ := rf_tt (w := s_sc (s_ar (s_sc w 4051 (nI n)) 45 (cpq (w_ar w 42) (w_ar w 45) (64 * 0) 64)) 4052 (nI s)) hbb
  replace hY1 : Y.1 = w_ar w 42 := hY1
  obtain ⟨k', Y', x', el, hP⟩ := m_dyLoop (w := s_ar (s_sc w 4051 (nI n)) 45 (cpq (w_ar w 42) (w_ar w 45) (64 * 0) 64)) (K0 := w_ar w 42) (x1 := nI s) (H := H) (s := s) (q := q) h0 q1 q5 q4 ha.2.2.2.2.1 q3 h81 (by omega) hq rfl (d := d) (by omega) q 0 Y x (by omega) (by rw [hY1]; exact ⟨q2, fun _ _ => rfl⟩)
  replace el : hv_lp (hl_M_years_0 (hv_step hv_cm hv_vk hv_dv hv_ft 0 0 (some .int) (hv_sem d))) ([some (.ref 40), some (.int (nI s)), some (.int (nI q)), some (.int 0), some (.int 0)], [], wB (tT' (rfV (s_sc (s_ar (s_sc w 4051 (nI n)) 45 (cpq (w_ar w 42) (w_ar w 45) (64 * 0) 64)) 4052 (nI s)) Y) x), 0, 0) = some (.inl (0, [some (.ref 40), some (.int (nI s)), some (.int (nI q)), some (.int (nI (dyK (aLaw ls fc) md n H s q).2.2)), some (.int (nI k'))], [], wB (tT' (rfV (s_sc (s_ar (s_sc w 4051 (nI n)) 45 (cpq (w_ar w 42) (w_ar w 45) (64 * 0) 64)) 4052 (nI (dyK (aLaw ls fc) md n H s q).2.1)) Y') x'), 0, 0)) := el
  rw [hY] at el
  have ec := m_dyCopy (d := d) (u := tT' (rfV (s_sc (s_ar (s_sc w 4051 (nI n)) 45 (cpq (w_ar w 42) (w_ar w 45) (64 * 0) 64)) 4052 (nI (dyK (aLaw ls fc) md n H s q).2.1)) Y') x') (x1 := nI s) (x2 := nI q) (x3 := nI (dyK (aLaw ls fc) md n H s q).2.2)
  have eb := m_backs (w := s_ar (tT' (rfV (s_sc (s_ar (s_sc w 4051 (nI n)) 45 (cpq (w_ar w 42) (w_ar w 45) (64 * 0) 64)) 4052 (nI (dyK (aLaw ls fc) md n H s q).2.1)) Y') x') 65 (cpq Y'.1 (w_ar w 65) 0 64)) (q := 0) (by omega) (d := d) (by omega)
  replace eb : hv_sem d 57 [.ref 40, .int 0] (wB (s_ar (tT' (rfV (s_sc (s_ar (s_sc w 4051 (nI n)) 45 (cpq (w_ar w 42) (w_ar w 45) (64 * 0) 64)) 4052 (nI (dyK (aLaw ls fc) md n H s q).2.1)) Y') x') 65 (cpq Y'.1 (w_ar w 65) 0 64))) = some (none, wB (s_ar (s_ar (tT' (rfV (s_sc (s_ar (s_sc w 4051 (nI n)) 45 (cpq (w_ar w 42) (w_ar w 45) (64 * 0) 64)) 4052 (nI (dyK (aLaw ls fc) md n H s q).2.1)) Y') x') 65 (cpq Y'.1 (w_ar w 65) 0 64)) 42 (cpr (cpq (w_ar w 42) (w_ar w 45) (64 * 0) 64) Y'.1 (64 * 0) 64))) := eb
  rw [cp_back hP.2] at eb
  replace eb : _ = some (none, wB (dyE w n (nI (dyK (aLaw ls fc) md n H s q).2.1) Y' x')) := eb
  obtain ⟨w2, eg, hw2, hf2⟩ := m_good (x := nI (dyK (aLaw ls fc) md n H s q).2.2) (mAll_dy (a := nI (dyK (aLaw ls fc) md n H s q).2.1) (x := x') hmc h0 q4 hP.1) (d := d) (by omega)
  refine ⟨w2, ?_, hw2, fV_trans fV_dy hf2⟩
  have ei := m_liesT (k := s) (lo := 0) (hi := 1000000) (h := wB w) (d := d) (by omega) (by omega) (by omega) (by omega)
  rw [show nI 0 = 0 from rfl, show nI 1000000 = 1000000 from rfl] at ei
  have ej := m_liesT (k := q) (lo := 1) (hi := 100) (h := wB w) (d := d) (by omega) (by omega) (by omega) (by omega)
  rw [show nI 1 = 1 from rfl, show nI 100 = 100 from rfl] at ej
  clear hP hw2 hf2 hmc hmm q1 q2 q3 q5 hY hY1
  replace ec : hv_lp (hl_M_years_1 (hv_step hv_cm hv_vk hv_dv hv_ft 0 0 (some .int) (hv_sem d))) ([some (.ref 40), some (.int (nI s)), some (.int (nI q)), some (.int (nI (dyK (aLaw ls fc) md n H s q).2.2)), some (.int 0)], [], wB (tT' (rfV (s_sc (s_ar (s_sc w 4051 (nI n)) 45 (cpq (w_ar w 42) (w_ar w 45) (64 * 0) 64)) 4052 (nI (dyK (aLaw ls fc) md n H s q).2.1)) Y') x'), 0, 0) = some (.inl (0, [some (.ref 40), some (.int (nI s)), some (.int (nI q)), some (.int (nI (dyK (aLaw ls fc) md n H s q).2.2)), some (.int (nI 64))], [], wB (s_ar (tT' (rfV (s_sc (s_ar (s_sc w 4051 (nI n)) 45 (cpq (w_ar w 42) (w_ar w 45) (64 * 0) 64)) 4052 (nI (dyK (aLaw ls fc) md n H s q).2.1)) Y') x') 65 (cpq Y'.1 (w_ar w 65) 0 64)), 0, 0)) := ec
  generalize dyE w n (nI (dyK (aLaw ls fc) md n H s q).2.1) Y' x' = u3 at *
  generalize s_ar (tT' (rfV (s_sc (s_ar (s_sc w 4051 (nI n)) 45 (cpq (w_ar w 42) (w_ar w 45) (64 * 0) 64)) 4052 (nI (dyK (aLaw ls fc) md n H s q).2.1)) Y') x') 65 (cpq Y'.1 (w_ar w 65) 0 64) = u2 at *
  generalize tT' (rfV (s_sc (s_ar (s_sc w 4051 (nI n)) 45 (cpq (w_ar w 42) (w_ar w 45) (64 * 0) 64)) 4052 (nI (dyK (aLaw ls fc) md n H s q).2.1)) Y') x' = u1 at *
  generalize (dyK (aLaw ls fc) md n H s q).2.2 = g at *
  clear en
  generalize s_sc (s_ar (s_sc w 4051 (nI n)) 45 (cpq (w_ar w 42) (w_ar w 45) (64 * 0) 64)) 4052 (nI s) = u0 at *
  simp -implicitDefEqProofs (disch := first | assumption | omega) [r_cons, r_nil, k_seq, k_blk, k_s0, k_s1, k_sr, k_sn, k_si, k_b0, k_b1, k_br, k_bn, k_bi, k_fr, k_fi, k_fn, k_l0, k_l1, k_l2, k_lr, k_ln, k_li, hv_nx, rc_none, hv_cmp, k_w0, k_wi, k_wr, k_wl, k_wn, k_wt, k_in0, k_ini, k_inr, k_inl, k_inn, k_int, k_nb0, k_nb1, k_nbi, k_ni, k_fi32, k_fb0, k_fb1, k_fbb, k_nbb, hv_st1, hv_st2, hv_k1, hv_ft, k_le, -Int32.not_lt, -Int32.not_le, gl_0, gl_1, gl_2, gl_3, gl_4, gl_5, gl_6, gl_7, gl_8, gl_9, gl_10, gl_11, gl_12, sl_0, sl_1, sl_2, sl_3, sl_4, sl_5, sl_6, sl_7, sl_8, sl_9, sl_10, sl_11, sl_12, st_iconst, st_bipush, st_ldc, st_aconst_null, st_iload, st_lload, st_aload, st_istore, st_astore, st_lstore, st_iinc, st_iadd, st_isub, st_imul, st_iand, st_ior, st_ishl, st_ishr, st_iushr, st_idiv, st_irem, st_ineg, st_ladd, st_lsub, st_lmul, st_ldiv, st_lrem, st_lcmp, st_i2l, st_l2i, st_i2b, st_dup, st_dup2, st_pop, st_goto, st_ifCond, st_if_icmp, st_ifnull, st_ifnonnull, st_tableswitch, st_iaload, st_baload, st_laload, st_aaload, st_iastore, st_bastore, st_lastore, st_aastore, st_arraylength, st_new, st_newarray, st_anewarray, st_invokespecial, st_invokestatic, st_swap, st_checkcast, st_invokeinterface, st_ireturn, st_lreturn, st_areturn, st_return_, nI_add, nI_1, nI_lits, nI_litr, nI_litm, nI_litn, pk_mul, a_clamp, a_subl, a_lsub, a_sub, a_lt, a_ltl, a_llt, a_eq, a_eql, a_leq, a_m1, a_m1r, a_neg, a_lt0, a_0lt, a_eq0, a_0eq, lg_cmp_gt, lg_cmp_lt, lg_cmp_eq, n_lt1, n_lt0, n_le1, n_le0, n_eq1, n_eq0, g_sc_sc, g_sc_ar, g_sc_sm, g_sc_rh, g_sc_rl, g_sc_la, g_sc_im, g_sc_dy, g_ar_sc, g_ar_ar, g_ar_sm, g_ar_rh, g_ar_rl, g_ar_la, g_ar_im, g_ar_dy, g_sm_sc, g_sm_ar, g_sm_sm, g_sm_rh, g_sm_rl, g_sm_la, g_sm_im, g_sm_dy, g_rh_sc, g_rh_ar, g_rh_sm, g_rh_rh, g_rh_rl, g_rh_la, g_rh_im, g_rh_dy, g_rl_sc, g_rl_ar, g_rl_sm, g_rl_rh, g_rl_rl, g_rl_la, g_rl_im, g_rl_dy, g_la_sc, g_la_ar, g_la_sm, g_la_rh, g_la_rl, g_la_la, g_la_im, g_la_dy, g_im_sc, g_im_ar, g_im_sm, g_im_rh, g_im_rl, g_im_la, g_im_im, g_im_dy, g_dy_sc, g_dy_ar, g_dy_sm, g_dy_rh, g_dy_rl, g_dy_la, g_dy_im, g_dy_dy, n_scsc, n_arar, n_scar, n_scS, n_arS, n_smsc, n_smar, n_smsm, n_rhsc, n_rhar, n_rhrh, n_rlsc, n_rlar, n_rlrl, n_lasc, n_laar, n_lala, n_imsc, n_imar, n_imim, n_dysc, n_dyar, n_dydy, sem_M_years, hb_M_years, cm_48, vk_48, cm_51, vk_51, cm_52, vk_52, cm_56, vk_56, cm_57, vk_57, cm_171, vk_171, rc_40, wr_41, wr_42, wr_43, wr_44, wr_45, wr_46, wr_47, wr_48, wr_49, wr_50, wr_51, wr_52, wr_53, wr_54, wr_55, wr_56, wr_57, wr_58, wr_59, wr_60, wr_61, wr_62, wr_63, wr_64, wr_65, gf_4000, pf_4000, gf_4001, gf_4002, gf_4003, gf_4004, gf_4005, gf_4006, pf_4006, gf_4007, gf_4008, pf_4008, gf_4009, pf_4009, gf_4010, pf_4010, gf_4011, gf_4012, gf_4013, pf_4013, gf_4014, pf_4014, gf_4015, gf_4016, gf_4017, gf_4018, pf_4018, gf_4019, pf_4019, gf_4020, pf_4020, gf_4021, pf_4021, gf_4022, pf_4022, gf_4023, pf_4023, gf_4024, pf_4024, gf_4025, pf_4025, gf_4026, gf_4027, pf_4027, gf_4028, pf_4028, gf_4029, gf_4030, gf_4031, gf_4032, pf_4032, gf_4033, gf_4034, gf_4035, gf_4036, gf_4037, gf_4038, gf_4039, pf_4039, gf_4040, pf_4040, gf_4041, gf_4042, gf_4043, pf_4043, gf_4044, pf_4044, gf_4045, pf_4045, gf_4046, pf_4046, gf_4047, pf_4047, gf_4048, pf_4048, gf_4049, gf_4050, gf_4051, pf_4051, gf_4052, pf_4052, ww_41, ww_42, ww_43, ww_44, ww_45, ww_46, ww_47, ww_48, ww_49, ww_50, ww_51, ww_52, ww_53, ww_54, ww_55, ww_56, ww_57, ww_58, ww_59, ww_60, ww_61, ww_62, ww_63, ww_64, ww_65, tyX11, ei, ej, h81, ea, el, ec, eb, eg]
theorem vAll_dr {G F : Nat → Int32} {l : Option Nat} {x : Int32} {z : zX} {sc : aSc} (hv : vAll w ((H, md, n, ls, fc, sn, sv, ss), im, tr, tp, sc, dr)) (h1 : hA n F G) (h2 : F 65 = nI n) : vAll (zT (drW w F l x) z) ((H, md, n, ls, fc, sn, sv, ss), im, tr, tp, sc, (n, G)) := by
  obtain ⟨un, TK, TH⟩ := tr
  obtain ⟨y, t⟩ := tp
  obtain ⟨dn, DH⟩ := dr
  obtain ⟨q1, q2, q3, q4, q5, q6⟩ := hv
  exact ⟨q1, q2, q3, q4, q5, h2, h1⟩
theorem fM_dr {F : Nat → Int32} {l : Option Nat} {x : Int32} {z : zX} : fM w (zT (drW w F l x) z) := fM_zT (fM_sc (by omega) (fM_rl (fM_rh (fM_ar (by omega) fM_refl))))
end DC
