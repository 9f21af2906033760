/-! A new Code: cells behind the world. -/
def wE (w : wW) (D : hv_H) (o : va_E) (E : hv_H) : wW := s_dy w (D ++ o :: E)
section NC
variable {w : wW} {D E : hv_H} {o o' : va_E} {d n N a k l : Nat} {f : Nat → Int32}
variable {cm : Nat → Nat × Nat} {vk : Nat → Option Nat} {dv : Nat → List Value} {mc ms : Nat} {rt : Option FieldType} {call : Nat → List Value → hv_H → Option hv_R} {ls : List (Option Value)} {st : List Value} {nc ns : Nat}
theorem we_r : (wB (wE w D o E))[66 + D.length]? = some o := by
  rw [wE, wr_dy (by omega), show 66 + D.length - 66 = D.length by omega, g_dy_dy]
  simp
theorem we_s : (wB (wE w D o E)).set (66 + D.length) o' = wB (wE w D o' E) := by
  rw [wE, ww_dy (by omega), show 66 + D.length - 66 = D.length by omega, g_dy_dy, n_dydy, wE]
  simp
theorem we_new {c : va_E} : wB (wE w D o E) ++ [c] = wB (wE w D o (E ++ [c])) := by
  rw [wE, wa_dy, n_dydy, g_dy_dy, wE, List.append_assoc, List.cons_append]
theorem we_len : (wB (wE w D o E)).length = 66 + D.length + (E.length + 1) := by
  rw [wB_len, wE, g_dy_dy, List.length_append, List.length_cons]
  omega
theorem we_37 : (wB (wE w D o E))[37]? = some (.inl (0, 60, .inl (w_ar w 37))) := rfl
theorem we_38 : (wB (wE w D o E))[38]? = some (.inl (0, 400, .inl (w_ar w 38))) := rfl
theorem we_r2 {c : va_E} : (wB (wE w D o (E ++ [c])))[66 + D.length + (E.length + 1)]? = some c := by
  rw [wE, wr_dy (by omega), show 66 + D.length + (E.length + 1) - 66 = D.length + (E.length + 1) by omega, g_dy_dy]
  simp
theorem we_s2 {c c' : va_E} : (wB (wE w D o (E ++ [c]))).set (66 + D.length + (E.length + 1)) c' = wB (wE w D o (E ++ [c'])) := by
  rw [wE, ww_dy (by omega), show 66 + D.length + (E.length + 1) - 66 = D.length + (E.length + 1) by omega, g_dy_dy, n_dydy, wE]
  simp
theorem k_farr (x : Nat) (t : FieldType) : hv_fok (.array t) (.ref x) = true := by simp [hv_fok, narrow, fits]
theorem pc_0 {x : Nat} {v0 v1 v2 v3 : Value} : hv_step cm vk dv hv_ft mc ms rt call (.putfield 100) (ls, .ref x :: .ref (66 + D.length) :: st, wB (wE w D (.inr (1, [v0, v1, v2, v3])) E), nc, ns) = hv_nx ls st (wB (wE w D (.inr (1, [.ref x, v1, v2, v3])) E)) nc ns := by
  simp [st_putfield, we_r, we_s, hv_ft, tyX1, k_fref, k_farr]
theorem pc_1 {x : Nat} {v0 v1 v2 v3 : Value} : hv_step cm vk dv hv_ft mc ms rt call (.putfield 101) (ls, .ref x :: .ref (66 + D.length) :: st, wB (wE w D (.inr (1, [v0, v1, v2, v3])) E), nc, ns) = hv_nx ls st (wB (wE w D (.inr (1, [v0, .ref x, v2, v3])) E)) nc ns := by
  simp [st_putfield, we_r, we_s, hv_ft, tyX1, k_fref, k_farr]
theorem pc_2 {x : Int32} {v0 v1 v2 v3 : Value} : hv_step cm vk dv hv_ft mc ms rt call (.putfield 102) (ls, .int x :: .ref (66 + D.length) :: st, wB (wE w D (.inr (1, [v0, v1, v2, v3])) E), nc, ns) = hv_nx ls st (wB (wE w D (.inr (1, [v0, v1, .int x, v3])) E)) nc ns := by
  simp [st_putfield, we_r, we_s, hv_ft, tyX1, k_fi32]
theorem pc_3 {x : Int32} {v0 v1 v2 v3 : Value} : hv_step cm vk dv hv_ft mc ms rt call (.putfield 103) (ls, .int x :: .ref (66 + D.length) :: st, wB (wE w D (.inr (1, [v0, v1, v2, v3])) E), nc, ns) = hv_nx ls st (wB (wE w D (.inr (1, [v0, v1, v2, .int x])) E)) nc ns := by
  simp [st_putfield, we_r, we_s, hv_ft, tyX1, k_fi32]
theorem cm_303 : hv_cm 303 = (1, 400) := rfl
theorem of_nI (k : Nat) : Int32.ofNat k = nI k := rfl
/-- a copy of a row: a new cell -/
theorem v_copyOf (h : ∀ E, (wB (wE w D o E))[a]? = some (.inl (0, N, .inl f))) (hN : N ≤ 400) (hn : n ≤ N) (hd : 2 ≤ d) : ∃ g : Nat → Int32, (∀ i, i < n → g i = f i) ∧ hv_sem d 303 [.ref a, .int (nI n)] (wB (wE w D o E)) = some (some (.ref (66 + D.length + (E.length + 1))), wB (wE w D o (E ++ [.inl (0, n, .inl g)]))) := by
  obtain ⟨d, rfl⟩ : ∃ e, d = e + 2 := ⟨d - 2, by omega⟩
  have h0 := h E
  by_cases q : n = N
  · subst q
    refine ⟨f, fun _ _ => rfl, ?_⟩
    have h1 := h (E ++ [.inl (0, n, .inl f)])
    have h2 := we_r2 (w := w) (D := D) (o := o) (E := E) (c := .inl (0, n, .inl f))
    generalize hu : wB (wE w D o (E ++ [.inl (0, n, .inl f)])) = u at *
    have h3 : wB (wE w D o E) ++ [.inl (0, n, .inl f)] = u := by rw [we_new, hu]
    have h4 := we_len (w := w) (D := D) (o := o) (E := E)
    generalize wB (wE w D o E) = u0 at *
    generalize 66 + D.length + (E.length + 1) = c at *
    simp -implicitDefEqProofs (disch := first | assumption | omega) [r_cons, r_nil, k_seq, k_blk, k_s0, k_s1, k_sr, k_sn, k_si, k_b0, k_b1, k_br, k_bn, k_bi, k_fr, k_fi, k_fn, k_l0, k_l1, k_l2, k_lr, k_ln, k_li, hv_nx, rc_none, hv_cmp, k_w0, k_wi, k_wr, k_wl, k_wn, k_wt, k_in0, k_ini, k_inr, k_inl, k_inn, k_int, k_nb0, k_nb1, k_nbi, k_ni, k_fi32, k_fb0, k_fb1, k_fbb, k_nbb, hv_st1, hv_st2, hv_k1, hv_ft, k_le, -Int32.not_lt, -Int32.not_le, gl_0, gl_1, gl_2, gl_3, gl_4, gl_5, gl_6, gl_7, gl_8, gl_9, gl_10, gl_11, gl_12, sl_0, sl_1, sl_2, sl_3, sl_4, sl_5, sl_6, sl_7, sl_8, sl_9, sl_10, sl_11, sl_12, st_iconst, st_bipush, st_ldc, st_aconst_null, st_iload, st_lload, st_aload, st_istore, st_astore, st_lstore, st_iinc, st_iadd, st_isub, st_imul, st_iand, st_ior, st_ishl, st_ishr, st_iushr, st_idiv, st_irem, st_ineg, st_ladd, st_lsub, st_lmul, st_ldiv, st_lrem, st_lcmp, st_i2l, st_l2i, st_i2b, st_dup, st_dup2, st_pop, st_goto, st_ifCond, st_if_icmp, st_ifnull, st_ifnonnull, st_tableswitch, st_iaload, st_baload, st_laload, st_aaload, st_iastore, st_bastore, st_lastore, st_aastore, st_arraylength, st_new, st_newarray, st_anewarray, st_invokespecial, st_invokestatic, st_swap, st_checkcast, st_invokeinterface, st_ireturn, st_lreturn, st_areturn, st_return_, nI_add, nI_1, nI_lits, nI_litr, nI_litm, nI_litn, pk_mul, a_clamp, a_subl, a_lsub, a_sub, a_lt, a_ltl, a_llt, a_eq, a_eql, a_leq, a_m1, a_m1r, a_neg, a_lt0, a_0lt, a_eq0, a_0eq, lg_cmp_gt, lg_cmp_lt, lg_cmp_eq, n_lt1, n_lt0, n_le1, n_le0, n_eq1, n_eq0, g_sc_sc, g_sc_ar, g_sc_sm, g_sc_rh, g_sc_rl, g_sc_la, g_sc_im, g_sc_dy, g_ar_sc, g_ar_ar, g_ar_sm, g_ar_rh, g_ar_rl, g_ar_la, g_ar_im, g_ar_dy, g_sm_sc, g_sm_ar, g_sm_sm, g_sm_rh, g_sm_rl, g_sm_la, g_sm_im, g_sm_dy, g_rh_sc, g_rh_ar, g_rh_sm, g_rh_rh, g_rh_rl, g_rh_la, g_rh_im, g_rh_dy, g_rl_sc, g_rl_ar, g_rl_sm, g_rl_rh, g_rl_rl, g_rl_la, g_rl_im, g_rl_dy, g_la_sc, g_la_ar, g_la_sm, g_la_rh, g_la_rl, g_la_la, g_la_im, g_la_dy, g_im_sc, g_im_ar, g_im_sm, g_im_rh, g_im_rl, g_im_la, g_im_im, g_im_dy, g_dy_sc, g_dy_ar, g_dy_sm, g_dy_rh, g_dy_rl, g_dy_la, g_dy_im, g_dy_dy, n_scsc, n_arar, n_scar, n_scS, n_arS, n_smsc, n_smar, n_smsm, n_rhsc, n_rhar, n_rhrh, n_rlsc, n_rlar, n_rlrl, n_lasc, n_laar, n_lala, n_imsc, n_imar, n_imim, n_dysc, n_dyar, n_dydy, sem_Arrays_copyOf, hb_Arrays_copyOf, cm_302, vk_302, of_nI, h0, h1, h2, h3, h4]
  · refine ⟨va_cpy f (fun _ => 0) 0 0 n, fun i hi => by rw [cpy_in (by omega) (by omega), show 0 + (i - 0) = i by omega], ?_⟩
    have hm : hv_sem (d + 1) 302 [.int (nI N), .int (nI n)] (wB (wE w D o (E ++ [.inl (0, n, .inl (fun _ => 0))]))) = some (some (.int (nI n)), wB (wE w D o (E ++ [.inl (0, n, .inl (fun _ => 0))]))) := by
      rw [t_min (by omega), i_min, if_pos (by rw [a_lt (by omega) (by omega)]; omega)]
    have h1 := h (E ++ [.inl (0, n, .inl (fun _ => 0))])
    have h2 := we_r2 (w := w) (D := D) (o := o) (E := E) (c := .inl (0, n, .inl (fun _ => 0)))
    have h5 := we_s2 (w := w) (D := D) (o := o) (E := E) (c := .inl (0, n, .inl (fun _ => 0))) (c' := .inl (0, n, .inl (va_cpy f (fun _ => 0) 0 0 n)))
    have h3 := we_new (w := w) (D := D) (o := o) (E := E) (c := .inl (0, n, .inl (fun _ => 0)))
    have h4 := we_len (w := w) (D := D) (o := o) (E := E)
    generalize wB (wE w D o (E ++ [.inl (0, n, .inl (fun _ => 0))])) = u1 at *
    generalize wB (wE w D o (E ++ [.inl (0, n, .inl (va_cpy f (fun _ => 0) 0 0 n))])) = u2 at *
    generalize wB (wE w D o E) = u0 at *
    generalize 66 + D.length + (E.length + 1) = c at *
    have nq : ¬ nI n = nI N := by rw [a_eq (by omega) (by omega)]; exact q
    simp -implicitDefEqProofs (disch := first | assumption | omega) [r_cons, r_nil, k_seq, k_blk, k_s0, k_s1, k_sr, k_sn, k_si, k_b0, k_b1, k_br, k_bn, k_bi, k_fr, k_fi, k_fn, k_l0, k_l1, k_l2, k_lr, k_ln, k_li, hv_nx, rc_none, hv_cmp, k_w0, k_wi, k_wr, k_wl, k_wn, k_wt, k_in0, k_ini, k_inr, k_inl, k_inn, k_int, k_nb0, k_nb1, k_nbi, k_ni, k_fi32, k_fb0, k_fb1, k_fbb, k_nbb, hv_st1, hv_st2, hv_k1, hv_ft, k_le, -Int32.not_lt, -Int32.not_le, gl_0, gl_1, gl_2, gl_3, gl_4, gl_5, gl_6, gl_7, gl_8, gl_9, gl_10, gl_11, gl_12, sl_0, sl_1, sl_2, sl_3, sl_4, sl_5, sl_6, sl_7, sl_8, sl_9, sl_10, sl_11, sl_12, st_iconst, st_bipush, st_ldc, st_aconst_null, st_iload, st_lload, st_aload, st_istore, st_astore, st_lstore, st_iinc, st_iadd, st_isub, st_imul, st_iand, st_ior, st_ishl, st_ishr, st_iushr, st_idiv, st_irem, st_ineg, st_ladd, st_lsub, st_lmul, st_ldiv, st_lrem, st_lcmp, st_i2l, st_l2i, st_i2b, st_dup, st_dup2, st_pop, st_goto, st_ifCond, st_if_icmp, st_ifnull, st_ifnonnull, st_tableswitch, st_iaload, st_baload, st_laload, st_aaload, st_iastore, st_bastore, st_lastore, st_aastore, st_arraylength, st_new, st_newarray, st_anewarray, st_invokespecial, st_invokestatic, st_swap, st_checkcast, st_invokeinterface, st_ireturn, st_lreturn, st_areturn, st_return_, nI_add, nI_1, nI_lits, nI_litr, nI_litm, nI_litn, pk_mul, a_clamp, a_subl, a_lsub, a_sub, a_lt, a_ltl, a_llt, a_eq, a_eql, a_leq, a_m1, a_m1r, a_neg, a_lt0, a_0lt, a_eq0, a_0eq, lg_cmp_gt, lg_cmp_lt, lg_cmp_eq, n_lt1, n_lt0, n_le1, n_le0, n_eq1, n_eq0, g_sc_sc, g_sc_ar, g_sc_sm, g_sc_rh, g_sc_rl, g_sc_la, g_sc_im, g_sc_dy, g_ar_sc, g_ar_ar, g_ar_sm, g_ar_rh, g_ar_rl, g_ar_la, g_ar_im, g_ar_dy, g_sm_sc, g_sm_ar, g_sm_sm, g_sm_rh, g_sm_rl, g_sm_la, g_sm_im, g_sm_dy, g_rh_sc, g_rh_ar, g_rh_sm, g_rh_rh, g_rh_rl, g_rh_la, g_rh_im, g_rh_dy, g_rl_sc, g_rl_ar, g_rl_sm, g_rl_rh, g_rl_rl, g_rl_la, g_rl_im, g_rl_dy, g_la_sc, g_la_ar, g_la_sm, g_la_rh, g_la_rl, g_la_la, g_la_im, g_la_dy, g_im_sc, g_im_ar, g_im_sm, g_im_rh, g_im_rl, g_im_la, g_im_im, g_im_dy, g_dy_sc, g_dy_ar, g_dy_sm, g_dy_rh, g_dy_rl, g_dy_la, g_dy_im, g_dy_dy, n_scsc, n_arar, n_scar, n_scS, n_arS, n_smsc, n_smar, n_smsm, n_rhsc, n_rhar, n_rhrh, n_rlsc, n_rlar, n_rlrl, n_lasc, n_laar, n_lala, n_imsc, n_imar, n_imim, n_dysc, n_dyar, n_dydy, sem_Arrays_copyOf, hb_Arrays_copyOf, cm_302, vk_302, of_nI, h0, h1, h2, h3, h4, h5, hm, nq]
end NC
