/-! Orders: the class's run. -/
def ahD (n : Nat) (md : Int32) (w : wW) (H0 : Nat → Int32) : aTr → Prop
  | (u, TK, TH) => w_sc w 2802 = nI u ∧ u ≤ 16 ∧ hA n (w_ar w 32) H0 ∧ w_ar w 32 64 = md ∧ w_ar w 32 65 = nI n ∧ ∀ i, i < u → w_ar w 29 i = nI (TK i) ∧ hA n (fun j => w_ar w 30 (66 * i + j)) (TH i) ∧ w_ar w 30 (66 * i + 64) = md ∧ w_ar w 30 (66 * i + 65) = nI n
def fO (w w1 : wW) : Prop := fM w w1 ∧ w_sc w1 2802 = w_sc w 2802 ∧ w_sc w1 3602 = w_sc w 3602 ∧ w_sc w1 3603 = w_sc w 3603 ∧ w_ar w1 29 = w_ar w 29 ∧ w_ar w1 30 = w_ar w 30 ∧ w_ar w1 32 = w_ar w 32 ∧ w_ar w1 37 = w_ar w 37 ∧ w_ar w1 38 = w_ar w 38
def oI (Sf : (Nat → Int32) → aTr → aS) (w : wW) (X : oX) : Prop := vAll w (Sf X.1 X.2.1) ∧ aAll (Sf X.1 X.2.1) ∧ w_sc w 2408 = nI X.2.2.1 ∧ w_sc w 2409 = X.2.2.2
section OH
variable {w w1 w2 : wW} {d n u i k tm l : Nat} {H H0 : Nat → Int32} {md fc : Int32} {sn : Nat} {ls : List (List qC)} {sv ss : Nat → Int32} {im : Nat → Option aW} {tr tr0 : aTr} {tp : (Nat → Nat) × Nat} {cr fa sta sp : Int32} {rf : Nat → Int32} {dr : Nat × (Nat → Int32)} {q : qC} {M S : Nat → Int32}
theorem fO_refl : fO w w := ⟨fM_refl, rfl, rfl, rfl, rfl, rfl, rfl, rfl, rfl⟩
theorem fO_trans (h1 : fO w w1) (h2 : fO w1 w2) : fO w w2 := by
  obtain ⟨a0, a1, a2, a3, a4, a5, a6, a7, a8⟩ := h1
  obtain ⟨b0, b1, b2, b3, b4, b5, b6, b7, b8⟩ := h2
  exact ⟨fM_trans a0 b0, b1.trans a1, b2.trans a2, b3.trans a3, b4.trans a4, b5.trans a5, b6.trans a6, b7.trans a7, b8.trans a8⟩
theorem fO_fD (h0 : fM w w1) (h : fD w w1) : fO w w1 := by
  obtain ⟨a1, a2, a3, a4, a5, a6, a7, a8, a9, a10, a11⟩ := h
  exact ⟨h0, a3, a4, a5, a6, a7, a8, a10, a11⟩
theorem ahD_fO (h : ahD n md w H0 tr0) (hf : fO w w1) : ahD n md w1 H0 tr0 := by
  obtain ⟨u, TK, TH⟩ := tr0
  obtain ⟨b0, b1, b2, b3, b4, b5, b6, b7, b8⟩ := hf
  simp only [ahD, b1, b4, b5, b6]
  exact h
theorem kw_vAll {s : aS} (h : kwR w w1) (hv : vAll w s) : vAll w1 s := by
  obtain ⟨s', t, dd, rfl⟩ := h
  obtain ⟨⟨H, md, n, ls, fc, sn, sv, ss⟩, im, ⟨un, TK, TH⟩, ⟨y, t⟩, ⟨cr, fa, sta, sp, rf⟩, dn, DH⟩ := s
  exact hv
theorem kw_fO (h : kwR w w1) : fO w w1 ∧ fD w w1 := by
  obtain ⟨s', t, dd, rfl⟩ := h
  exact ⟨⟨fM_ar (by omega) (fM_sc (by omega) (fM_sc (by omega) fM_refl)), rfl, rfl, rfl, rfl, rfl, rfl, rfl, rfl⟩, rfl, rfl, rfl, rfl, rfl, rfl, rfl, rfl, rfl, rfl, rfl⟩
theorem w33_vAll {s : aS} {G : Nat → Int32} (hv : vAll w s) : vAll (s_ar w 33 G) s := by
  obtain ⟨⟨H, md, n, ls, fc, sn, sv, ss⟩, im, ⟨un, TK, TH⟩, ⟨y, t⟩, ⟨cr, fa, sta, sp, rf⟩, dn, DH⟩ := s
  exact hv
theorem w33_fO {G : Nat → Int32} : fO w (s_ar w 33 G) := ⟨fM_ar (by omega) fM_refl, rfl, rfl, rfl, rfl, rfl, rfl, rfl, rfl⟩
theorem w24_vAll {s : aS} {x y : Int32} (hv : vAll w s) : vAll (s_sc w 2409 x) s ∧ vAll (s_sc w 2408 y) s := by
  obtain ⟨⟨H, md, n, ls, fc, sn, sv, ss⟩, im, ⟨un, TK, TH⟩, ⟨y, t⟩, ⟨cr, fa, sta, sp, rf⟩, dn, DH⟩ := s
  exact ⟨hv, hv⟩
theorem w24_fO {x y : Int32} : fO w (s_sc w 2409 x) ∧ fO w (s_sc w 2408 y) := ⟨⟨fM_sc (by omega) fM_refl, rfl, rfl, rfl, rfl, rfl, rfl, rfl, rfl⟩, ⟨fM_sc (by omega) fM_refl, rfl, rfl, rfl, rfl, rfl, rfl, rfl, rfl⟩⟩
theorem v_rest (hv : vAll w ((H, md, n, ls, fc, sn, sv, ss), im, tr, tp, (cr, fa, sta, sp, rf), dr)) (h7 : n ≤ 7) (ah : ahD n md w H0 tr0) (hd : 1 ≤ d) : ∃ u0 u1, hv_sem d 229 [.ref 2, .ref 31] (wB w) = some (none, wB u0) ∧ hv_sem d 293 [.ref 25, .ref 28] (wB u0) = some (none, wB u1) ∧ (∀ x, vAll (s_sc u1 2410 x) ((H0, md, n, ls, fc, sn, sv, ss), im, tr0, tp, (cr, fa, sta, x, rf), dr)) ∧ fM w u1 := by
  obtain ⟨u, TK, TH⟩ := tr0
  obtain ⟨a1, a2, a3, a4, a5, a6⟩ := ah
  have e1 := (v_hCpy (w := w) (d := d) hd).2
  have e2 := v_tBck (w := s_ar w 3 (va_cpy (w_ar w 32) (w_ar w 3) 0 0 66)) (u := u) a1 a2 (d := d) hd
  refine ⟨_, _, e1, e2, fun x => ?_, fM_ar (by omega) (fM_ar (by omega) (fM_sc (by omega) (fM_ar (by omega) fM_refl)))⟩
  have ec : ∀ j, j < 66 → va_cpy (w_ar w 32) (w_ar w 3) 0 0 66 j = w_ar w 32 j := fun j hj => by
    rw [cpy_in (by omega) (by omega), show 0 + (j - 0) = j by omega]
  obtain ⟨un, TK', TH'⟩ := tr
  obtain ⟨y, t⟩ := tp
  obtain ⟨dn, DH⟩ := dr
  obtain ⟨⟨v1, v2, v3, v4, v5, v6, v7, v8⟩, q2, q3, q4, ⟨s1, s2, s3, s4, s5⟩, q6⟩ := hv
  refine ⟨⟨hA_cg a3 h7 (fun j hj => ec j (by omega)), (ec 64 (by omega)).trans a4, (ec 65 (by omega)).trans a5, v4, v5, v6, v7, v8⟩, q2, ⟨rfl, fun i hi => ?_⟩, q4, ⟨s1, s2, s3, rfl, s5⟩, q6⟩
  obtain ⟨b1, b2, b3, b4⟩ := a6 i hi
  have ek : va_cpy (w_ar w 29) (w_ar w 26) 0 0 u i = w_ar w 29 i := by rw [cpy_in (by omega) (by omega), show 0 + (i - 0) = i by omega]
  have er : ∀ j, j < 66 → va_cpy (w_ar w 30) (w_ar w 27) 0 0 (u * 66) (66 * i + j) = w_ar w 30 (66 * i + j) := fun j hj => by
    rw [cpy_in (by omega) (by omega), show 0 + (66 * i + j - 0) = 66 * i + j by omega]
  exact ⟨ek.trans b1, hA_cg b2 h7 (fun j hj => er j (by omega)), (er 64 (by omega)).trans b3, (er 65 (by omega)).trans b4⟩
/-- one time -/
def oQ (w : wW) (Sf : (Nat → Int32) → aTr → aS) (S9 : Int32 → aS) (x : Option hv_O) (i tm k : Nat) (o : Option oX) : Prop := match o with
  | some X' => ∃ w1, x = some (.inl (1, [some (.ref 24), some (.ref 36), some (.int (nI i)), some (.int (nI tm)), some (.int (nI (k + 1)))], [], wB w1, 0, 0)) ∧ oI Sf w1 X' ∧ fO w w1
  | none => ∃ w1, x = some (.inr (some (.int (-3)), wB w1)) ∧ vAll w1 (S9 (nI i)) ∧ fM w w1
set_option maxHeartbeats 1000000 in
theorem v_oFail {wa wb wc : wW} {r : Int32} (es : hv_sem (d + 1) 211 [.ref 24] (wB w) = some (none, wB wa)) (ew : hv_sem (d + 1) 209 [.ref 24, .ref 36, .int (nI i)] (wB wa) = some (some (.int 1), wB wb)) (ec : hv_sem (d + 1) 210 [.ref 24, .ref 36, .int (nI i)] (wB wb) = some (some (.int r), wB wc)) (hr : r = -1 ∨ r = -2 ∨ r = -3) (hk : k < tm) (ht : tm ≤ 20) (hv : vAll wc ((H, md, n, ls, fc, sn, sv, ss), im, tr, tp, (cr, fa, sta, sp, rf), dr)) (h7 : n ≤ 7) (ah : ahD n md wc H0 tr0) (hf : fM w wc) : ∃ w1, hl_Deeds_run_1 (hv_step hv_cm hv_vk hv_dv hv_ft 0 0 (some .int) (hv_sem (d + 1))) ([some (.ref 24), some (.ref 36), some (.int (nI i)), some (.int (nI tm)), some (.int (nI k))], [], wB w, 0, 0) = some (.inr (some (.int (-3)), wB w1)) ∧ vAll w1 ((H0, md, n, ls, fc, sn, sv, ss), im, tr0, tp, (cr, fa, sta, nI i, rf), dr) ∧ fM w w1 := by
  obtain ⟨u0, u1, e1, e2, hx, hm⟩ := v_rest hv h7 ah (d := d + 1) (by omega)
  refine ⟨s_sc u1 2410 (nI i), ?_, hx _, fM_trans hf (fM_sc (by omega) hm)⟩
  have hn : r < 0 := by rcases hr with rfl | rfl | rfl <;> decide
  clear hx hm hv ah hf
  simp -implicitDefEqProofs (disch := first | assumption | omega) [r_cons, r_nil, k_seq, k_blk, k_s0, k_s1, k_sr, k_sn, k_si, k_b0, k_b1, k_br, k_bn, k_bi, k_fr, k_fi, k_fn, k_l0, k_l1, k_l2, k_lr, k_ln, k_li, hv_nx, rc_none, hv_cmp, k_w0, k_wi, k_wr, k_wl, k_wn, k_wt, k_in0, k_ini, k_inr, k_inl, k_inn, k_int, k_nb0, k_nb1, k_nbi, k_ni, k_fi32, k_fb0, k_fb1, k_fbb, k_nbb, hv_st1, hv_st2, hv_k1, hv_ft, k_le, -Int32.not_lt, -Int32.not_le, gl_0, gl_1, gl_2, gl_3, gl_4, gl_5, gl_6, gl_7, gl_8, gl_9, gl_10, gl_11, gl_12, sl_0, sl_1, sl_2, sl_3, sl_4, sl_5, sl_6, sl_7, sl_8, sl_9, sl_10, sl_11, sl_12, st_iconst, st_bipush, st_ldc, st_aconst_null, st_iload, st_lload, st_aload, st_istore, st_astore, st_lstore, st_iinc, st_iadd, st_isub, st_imul, st_iand, st_ior, st_ishl, st_ishr, st_iushr, st_idiv, st_irem, st_ineg, st_ladd, st_lsub, st_lmul, st_ldiv, st_lrem, st_lcmp, st_i2l, st_l2i, st_i2b, st_dup, st_dup2, st_pop, st_goto, st_ifCond, st_if_icmp, st_ifnull, st_ifnonnull, st_tableswitch, st_iaload, st_baload, st_laload, st_aaload, st_iastore, st_bastore, st_lastore, st_aastore, st_arraylength, st_new, st_newarray, st_anewarray, st_invokespecial, st_invokestatic, st_swap, st_checkcast, st_invokeinterface, st_ireturn, st_lreturn, st_areturn, st_return_, nI_add, nI_1, nI_lits, nI_litr, nI_litm, nI_litn, pk_mul, a_clamp, a_subl, a_lsub, a_sub, a_lt, a_ltl, a_llt, a_eq, a_eql, a_leq, a_m1, a_m1r, a_neg, a_lt0, a_0lt, a_eq0, a_0eq, lg_cmp_gt, lg_cmp_lt, lg_cmp_eq, n_lt1, n_lt0, n_le1, n_le0, n_eq1, n_eq0, g_sc_sc, g_sc_ar, g_sc_sm, g_sc_rh, g_sc_rl, g_sc_la, g_sc_im, g_sc_dy, g_ar_sc, g_ar_ar, g_ar_sm, g_ar_rh, g_ar_rl, g_ar_la, g_ar_im, g_ar_dy, g_sm_sc, g_sm_ar, g_sm_sm, g_sm_rh, g_sm_rl, g_sm_la, g_sm_im, g_sm_dy, g_rh_sc, g_rh_ar, g_rh_sm, g_rh_rh, g_rh_rl, g_rh_la, g_rh_im, g_rh_dy, g_rl_sc, g_rl_ar, g_rl_sm, g_rl_rh, g_rl_rl, g_rl_la, g_rl_im, g_rl_dy, g_la_sc, g_la_ar, g_la_sm, g_la_rh, g_la_rl, g_la_la, g_la_im, g_la_dy, g_im_sc, g_im_ar, g_im_sm, g_im_rh, g_im_rl, g_im_la, g_im_im, g_im_dy, g_dy_sc, g_dy_ar, g_dy_sm, g_dy_rh, g_dy_rl, g_dy_la, g_dy_im, g_dy_dy, n_scsc, n_arar, n_scar, n_scS, n_arS, n_smsc, n_smar, n_smsm, n_rhsc, n_rhar, n_rhrh, n_rlsc, n_rlar, n_rlrl, n_lasc, n_laar, n_lala, n_imsc, n_imar, n_imim, n_dysc, n_dyar, n_dydy, hl_Deeds_run_1, cm_199, vk_199, cm_209, vk_209, cm_210, vk_210, cm_211, vk_211, cm_229, vk_229, cm_293, vk_293, rc_0, rc_1, rc_2, wr_3, wr_4, wr_5, wr_6, wr_7, rc_8, wr_9, rc_10, wr_11, rc_12, wr_13, wr_14, wr_15, wr_16, wr_17, rc_18, rc_19, wr_20, rc_21, wr_22, wr_23, rc_24, rc_25, wr_26, wr_27, rc_28, wr_29, wr_30, rc_31, wr_32, wr_33, wr_34, rc_35, rc_36, wr_37, wr_38, wr_39, gf_0, gf_1, gf_2, gf_3, gf_4, gf_5, gf_6, gf_7, gf_8, gf_9, gf_10, gf_11, pf_11, gf_12, pf_12, gf_13, pf_13, gf_14, pf_14, gf_100, gf_101, gf_102, gf_103, gf_104, pf_104, gf_105, pf_105, gf_106, pf_106, gf_200, ww_3, ww_4, ww_5, ww_6, ww_7, gf_800, gf_801, pf_801, gf_802, pf_802, ww_9, gf_1000, gf_1001, gf_1002, pf_rh, gf_1003, pf_rl, pf_rn, ww_11, gf_1200, gf_1201, gf_1202, gf_1203, gf_1204, gf_1205, pf_1205, gf_1206, pf_1206, ww_13, ww_14, ww_15, ww_16, ww_17, gf_1800, gf_1801, gf_1802, gf_1803, gf_1804, gf_1805, pf_1805, gf_1900, ww_20, gf_2100, ww_22, ww_23, gf_2400, gf_2401, gf_2402, gf_2403, gf_2404, gf_2405, gf_2406, gf_2407, gf_2408, pf_2408, gf_2409, pf_2409, gf_2410, pf_2410, gf_2500, gf_2501, gf_2502, pf_2502, ww_26, ww_27, gf_2800, gf_2801, gf_2802, pf_2802, ww_29, ww_30, gf_3100, ww_32, ww_33, ww_34, gf_3500, gf_3501, gf_3502, pf_3502, gf_3503, pf_3503, gf_3504, pf_3504, gf_3505, pf_3505, gf_3506, pf_3506, gf_3507, pf_3507, gf_3508, pf_3508, gf_3600, gf_3601, gf_3602, pf_3602, gf_3603, pf_3603, ww_37, ww_38, ww_39, tyX1, tyX2, tyX3, tyX8, es, ew, ec, hn, e1, e2]
end OH
