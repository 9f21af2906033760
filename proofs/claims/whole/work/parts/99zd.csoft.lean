/-! Call: soft. -/
section RK
variable {w : wW} {n k : Nat} {H : Nat → Int32} {md b : Int32} {d : Nat}
theorem rf_tt {bb : Bool} (h : w_sc w 4024 = b2i bb) : ∃ (X : rfX) (x : tX), tT' (rfV w X) x = w ∧ X.1 = w_ar w 42 := by
  refine ⟨(w_ar w 42, w_ar w 53, w_ar w 56, w_ar w 57, w_ar w 58, w_ar w 59), (w_ar w 52, w_sc w 4022, w_sc w 4023, bb, w_sc w 4025), ?_, rfl⟩
  rw [show rfV w (w_ar w 42, w_ar w 53, w_ar w 56, w_ar w 57, w_ar w 58, w_ar w 59) = rfW w (w_ar w 42) (w_ar w 53) (w_ar w 56) (w_ar w 57) (w_ar w 58) (w_ar w 59) from rfl, rf_id]
  exact tt_id h
theorem cp_back {K G A : Nat → Int32} (h : ∀ i, 64 ≤ i → G i = K i) : cpr (cpq K A (64 * 0) 64) G (64 * 0) 64 = K := by
  funext j
  rw [cpr]
  by_cases q : j < 64
  · rw [if_pos q, cpq, if_pos (by omega), show 64 * 0 + j - 64 * 0 = j by omega]
  · rw [if_neg q, h j (by omega)]
theorem mAll_rf {s : aS} {A : Nat → Int32} {X : rfX} {x : tX} (hm : mAll w s) (h : X.1 = w_ar w 42) : mAll (tT' (rfV (s_ar w 45 A) X) x) s := by
  obtain ⟨K, T, S, D, A', R⟩ := X
  replace h : K = w_ar w 42 := h
  subst h
  obtain ⟨⟨H, md, n, ls, fc, sn, sv, ss⟩, im, ⟨un, TK, TH⟩, ⟨y, t⟩, ⟨cr, fa, sta, sp, rf⟩, dn, DH⟩ := s
  obtain ⟨h1, h2, h3, h4, h5, h6, h7, h8⟩ := hm
  exact ⟨h1, h2, h3, h4, h5, h6, h7, x.2.2.2.1, rfl⟩
theorem fV_rf {A : Nat → Int32} {X : rfX} {x : tX} : fV w (tT' (rfV (s_ar w 45 A) X) x) := fV_tT (fV_ar (by omega) (fV_ar (by omega) (fV_ar (by omega) (fV_ar (by omega) (fV_ar (by omega) (fV_ar (by omega) (fV_ar (by omega) fV_refl)))))))
theorem m_backs0 {A : Nat → Int32} {X : rfX} {x : tX} (h : ∀ i, 64 ≤ i → X.1 i = w_ar w 42 i) (hd : 1 ≤ d) : hv_sem d 57 [.ref 40, .int 0] (wB (tT' (rfV (s_ar w 45 (cpq (w_ar w 42) A (64 * 0) 64)) X) x)) = some (none, wB (tT' (rfV (s_ar w 45 (cpq (w_ar w 42) A (64 * 0) 64)) (w_ar w 42, X.2)) x)) := by
  obtain ⟨K, T, S, D, A', R⟩ := X
  have e := m_backs (w := tT' (rfW (s_ar w 45 (cpq (w_ar w 42) A (64 * 0) 64)) K T S D A' R) x) (q := 0) (by omega) (d := d) hd
  have e1 : w_ar (tT' (rfW (s_ar w 45 (cpq (w_ar w 42) A (64 * 0) 64)) K T S D A' R) x) 45 = cpq (w_ar w 42) A (64 * 0) 64 := rfl
  have e2 : w_ar (tT' (rfW (s_ar w 45 (cpq (w_ar w 42) A (64 * 0) 64)) K T S D A' R) x) 42 = K := rfl
  rw [e1, e2, cp_back h, tt_oar (by omega), rf_42, show nI 0 = 0 from rfl] at e
  exact e
variable {fc : Int32} {sn : Nat} {ls : List (List qC)} {sv ss : Nat → Int32} {im : Nat → Option aW} {tr : aTr} {tp : (Nat → Nat) × Nat} {sc : aSc} {dr : Nat × (Nat → Int32)}
theorem m_soft (hm : mAll w ((H, md, n, ls, fc, sn, sv, ss), im, tr, tp, sc, dr)) (ha : aOk (H, md, n, ls, fc, sn, sv, ss)) (hk : k < 701) (hd : 48 ≤ d) : ∃ w2, hv_sem d 148 [.ref 40, .int (nI k)] (wB w) = some (some (.int (oN (sfA (nI k) (aLaw ls fc) md n H 101))), wB w2) ∧ mAll w2 ((H, md, n, ls, fc, sn, sv, ss), im, tr, tp, sc, dr) ∧ fV w w2 := by
  obtain ⟨d, rfl⟩ : ∃ e, d = e + 1 := ⟨d - 1, by omega⟩
  have hmc := hm
  obtain ⟨un, TK, TH⟩ := tr
  obtain ⟨y, t⟩ := tp
  obtain ⟨cr, fa, sta, sp, rf⟩ := sc
  obtain ⟨dn, DH⟩ := dr
  obtain ⟨hmm, _, _, _, _, _, _, bb, hbb⟩ := hm
  have hAM : askM w (aLaw ls fc) md n H := askM_of hmm ha
  obtain ⟨q1, q2, q3, q4, q5⟩ := hAM
  have ea := m_aside (w := w) (q := 0) (by omega) (d := d) (by omega)
  rw [show nI 0 = 0 from rfl] at ea
  obtain ⟨X, x, hX, hX1⟩ := rf_tt (w := s_ar w 45 (cpq (w_ar w 42) (w_ar w 45) (64 * 0) 64)) hbb
  replace hX1 : X.1 = w_ar w 42 := hX1
  obtain ⟨k', X', x', el, hf⟩ := m_softLoop (w := s_ar w 45 (cpq (w_ar w 42) (w_ar w 45) (64 * 0) 64)) (b := nI k) (K0 := w_ar w 42) (n := n) (H := H) q1 q5 q4 ha.2.2.2.2.1 q3 hmm.2.2.1 (d := d) (by omega) 101 0 X x (by omega) (by rw [hX1]; exact ⟨q2, fun _ _ => rfl⟩)
  rw [hX] at el
  replace el : hv_lp (hl_M_soft_0 (hv_step hv_cm hv_vk hv_dv hv_ft 0 0 (some .int) (hv_sem d))) ([some (.ref 40), some (.int (nI k)), some (.int (-1)), some (.int 0)], [], wB (s_ar w 45 (cpq (w_ar w 42) (w_ar w 45) (64 * 0) 64)), 0, 0) = some (.inl (0, [some (.ref 40), some (.int (nI k)), some (.int (oN (sfA (nI k) (aLaw ls fc) md n H 101))), some (.int (nI k'))], [], wB (tT' (rfV (s_ar w 45 (cpq (w_ar w 42) (w_ar w 45) (64 * 0) 64)) X') x'), 0, 0)) := el
  have eb := m_backs0 (w := w) (A := w_ar w 45) (x := x') hf (d := d) (by omega)
  refine ⟨tT' (rfV (s_ar w 45 (cpq (w_ar w 42) (w_ar w 45) (64 * 0) 64)) (w_ar w 42, X'.2)) x', ?_, mAll_rf hmc rfl, fV_rf⟩
  have ei := m_liesT (k := k) (lo := 0) (hi := 700) (h := wB w) (d := d) (by omega) (by omega) (by omega) (by omega)
  rw [show nI 0 = 0 from rfl, show nI 700 = 700 from rfl] at ei
  clear hf hX hX1
  generalize oN (sfA (nI k) (aLaw ls fc) md n H 101) = y9 at *
  generalize tT' (rfV (s_ar w 45 (cpq (w_ar w 42) (w_ar w 45) (64 * 0) 64)) (w_ar w 42, X'.2)) x' = u2 at *
  generalize tT' (rfV (s_ar w 45 (cpq (w_ar w 42) (w_ar w 45) (64 * 0) 64)) X') x' = u1 at *
  generalize s_ar w 45 (cpq (w_ar w 42) (w_ar w 45) (64 * 0) 64) = u0 at *
  simp -implicitDefEqProofs (disch := first | assumption | omega) [r_cons, r_nil, k_seq, k_blk, k_s0, k_s1, k_sr, k_sn, k_si, k_b0, k_b1, k_br, k_bn, k_bi, k_fr, k_fi, k_fn, k_l0, k_l1, k_l2, k_lr, k_ln, k_li, hv_nx, rc_none, hv_cmp, k_w0, k_wi, k_wr, k_wl, k_wn, k_wt, k_in0, k_ini, k_inr, k_inl, k_inn, k_int, k_nb0, k_nb1, k_nbi, k_ni, k_fi32, k_fb0, k_fb1, k_fbb, k_nbb, hv_st1, hv_st2, hv_k1, hv_ft, k_le, -Int32.not_lt, -Int32.not_le, gl_0, gl_1, gl_2, gl_3, gl_4, gl_5, gl_6, gl_7, gl_8, gl_9, gl_10, gl_11, gl_12, sl_0, sl_1, sl_2, sl_3, sl_4, sl_5, sl_6, sl_7, sl_8, sl_9, sl_10, sl_11, sl_12, st_iconst, st_bipush, st_ldc, st_aconst_null, st_iload, st_lload, st_aload, st_istore, st_astore, st_lstore, st_iinc, st_iadd, st_isub, st_imul, st_iand, st_ior, st_ishl, st_ishr, st_iushr, st_idiv, st_irem, st_ineg, st_ladd, st_lsub, st_lmul, st_ldiv, st_lrem, st_lcmp, st_i2l, st_l2i, st_i2b, st_dup, st_dup2, st_pop, st_goto, st_ifCond, st_if_icmp, st_ifnull, st_ifnonnull, st_tableswitch, st_iaload, st_baload, st_laload, st_aaload, st_iastore, st_bastore, st_lastore, st_aastore, st_arraylength, st_new, st_newarray, st_anewarray, st_invokespecial, st_invokestatic, st_swap, st_checkcast, st_invokeinterface, st_ireturn, st_lreturn, st_areturn, st_return_, nI_add, nI_1, nI_lits, nI_litr, nI_litm, nI_litn, pk_mul, a_clamp, a_subl, a_lsub, a_sub, a_lt, a_ltl, a_llt, a_eq, a_eql, a_leq, a_m1, a_m1r, a_neg, a_lt0, a_0lt, a_eq0, a_0eq, lg_cmp_gt, lg_cmp_lt, lg_cmp_eq, n_lt1, n_lt0, n_le1, n_le0, n_eq1, n_eq0, g_sc_sc, g_sc_ar, g_sc_sm, g_sc_rh, g_sc_rl, g_sc_la, g_sc_im, g_sc_dy, g_ar_sc, g_ar_ar, g_ar_sm, g_ar_rh, g_ar_rl, g_ar_la, g_ar_im, g_ar_dy, g_sm_sc, g_sm_ar, g_sm_sm, g_sm_rh, g_sm_rl, g_sm_la, g_sm_im, g_sm_dy, g_rh_sc, g_rh_ar, g_rh_sm, g_rh_rh, g_rh_rl, g_rh_la, g_rh_im, g_rh_dy, g_rl_sc, g_rl_ar, g_rl_sm, g_rl_rh, g_rl_rl, g_rl_la, g_rl_im, g_rl_dy, g_la_sc, g_la_ar, g_la_sm, g_la_rh, g_la_rl, g_la_la, g_la_im, g_la_dy, g_im_sc, g_im_ar, g_im_sm, g_im_rh, g_im_rl, g_im_la, g_im_im, g_im_dy, g_dy_sc, g_dy_ar, g_dy_sm, g_dy_rh, g_dy_rl, g_dy_la, g_dy_im, g_dy_dy, n_scsc, n_arar, n_scar, n_scS, n_arS, n_smsc, n_smar, n_smsm, n_rhsc, n_rhar, n_rhrh, n_rlsc, n_rlar, n_rlrl, n_lasc, n_laar, n_lala, n_imsc, n_imar, n_imim, n_dysc, n_dyar, n_dydy, sem_M_soft, hb_M_soft, cm_48, vk_48, cm_56, vk_56, cm_57, vk_57, cm_126, vk_126, cm_139, vk_139, cm_141, vk_141, cm_146, vk_146, cm_147, vk_147, rc_40, wr_41, wr_42, wr_43, wr_44, wr_45, wr_46, wr_47, wr_48, wr_49, wr_50, wr_51, wr_52, wr_53, wr_54, wr_55, wr_56, wr_57, wr_58, wr_59, wr_60, wr_61, wr_62, wr_63, wr_64, wr_65, gf_4000, pf_4000, gf_4001, gf_4002, gf_4003, gf_4004, gf_4005, gf_4006, pf_4006, gf_4007, gf_4008, pf_4008, gf_4009, pf_4009, gf_4010, pf_4010, gf_4011, gf_4012, gf_4013, pf_4013, gf_4014, pf_4014, gf_4015, gf_4016, gf_4017, gf_4018, pf_4018, gf_4019, pf_4019, gf_4020, pf_4020, gf_4021, pf_4021, gf_4022, pf_4022, gf_4023, pf_4023, gf_4024, pf_4024, gf_4025, pf_4025, gf_4026, gf_4027, pf_4027, gf_4028, pf_4028, gf_4029, gf_4030, gf_4031, gf_4032, pf_4032, gf_4033, gf_4034, gf_4035, gf_4036, gf_4037, gf_4038, gf_4039, pf_4039, gf_4040, pf_4040, gf_4041, gf_4042, gf_4043, pf_4043, gf_4044, pf_4044, gf_4045, pf_4045, gf_4046, pf_4046, gf_4047, pf_4047, gf_4048, pf_4048, gf_4049, gf_4050, gf_4051, pf_4051, gf_4052, pf_4052, ww_41, ww_42, ww_43, ww_44, ww_45, ww_46, ww_47, ww_48, ww_49, ww_50, ww_51, ww_52, ww_53, ww_54, ww_55, ww_56, ww_57, ww_58, ww_59, ww_60, ww_61, ww_62, ww_63, ww_64, ww_65, tyX11, ei, ea, el, eb]
theorem vAll_sk {s : aS} {K : Nat → Int32} {l : Option Nat} {B A R : Nat → Int32} {a c : Int32} {z : zX} (hv : vAll w s) : vAll (zT (chW (skW w K l) B A R a c) z) s := by
  obtain ⟨⟨H, md, n, ls, fc, sn, sv, ss⟩, im, ⟨un, TK, TH⟩, ⟨y, t⟩, ⟨cr, fa, sta, sp, rf⟩, dn, DH⟩ := s
  exact hv
theorem fM_sk {K : Nat → Int32} {l : Option Nat} {B A R : Nat → Int32} {a c : Int32} {z : zX} : fM w (zT (chW (skW w K l) B A R a c) z) := fM_zT (fM_ch (fM_rl (fM_rh (fM_ar (by omega) fM_refl))))
theorem hdT_lt {W : Nat → Nat → Option Nat} (h7 : n ≤ 7) (h : hWf n H) : ∀ k, k ≤ n → hdT W H n k ≤ 99 * k
  | 0, _ => Nat.le_refl _
  | k + 1, hk => by
    have h1 := hdT_lt (W := W) h7 h k (by omega)
    have h2 := hdH_le (W := W) h (m := k) (by omega)
    rw [hdT]
    omega
theorem sfA_0 {law : Option (List qC)} (h7 : n ≤ 7) (h : hWf n H) : ∀ k, sfA 0 law md n H k = none
  | 0 => rfl
  | k + 1 => by
    have e1 := hdT_lt (W := pWs law md (sfH law md n H k)) h7 (sfH_wf (law := law) (md := md) h7 h k) n (Nat.le_refl n)
    refine sfA_go (sfA_0 h7 h k) (fun q => ?_)
    have e2 : sfS law md n H k ≤ 99 * n := e1
    rw [a_lt0 (by omega)] at q
    exact q
end RK
