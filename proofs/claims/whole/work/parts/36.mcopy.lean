/-! Copies of rows, counts over the monks. -/
theorem wU_ap {α : Type} (f : Nat → α) (k : Nat) (x : α) (j : Nat) : wU f k x j = if j = k then x else f j := rfl
theorem wU_eta {α : Type} (f : Nat → α) (k : Nat) : wU f k (f k) = f := by
  funext j
  simp only [wU]
  split
  · rename_i h; rw [h]
  · rfl
theorem cpy_0 {f g : Nat → Int32} {sp dp : Nat} : va_cpy f g sp dp 0 = g := by
  funext j
  simp only [va_cpy]
  rw [if_neg (by omega)]
theorem cpy_s {f g : Nat → Int32} {sp dp i : Nat} : upd (va_cpy f g sp dp i) (dp + i) (f (sp + i)) = va_cpy f g sp dp (i + 1) := by
  funext j
  simp only [upd, va_cpy]
  by_cases h : j = dp + i
  · subst h
    rw [if_pos rfl, if_pos (by omega), show sp + (dp + i - dp) = sp + i by omega]
  · rw [if_neg h]
    by_cases h2 : dp ≤ j ∧ j < dp + i
    · rw [if_pos h2, if_pos (by omega)]
    · rw [if_neg h2, if_neg (by omega)]
theorem upd_at (f : Nat → Int32) (k : Nat) (x : Int32) : upd f k x k = x := by simp [upd]
section MC
variable {sc : Nat → Int32} {ar : Nat → Nat → Int32} {sm : Nat → Int64} {rh : Nat} {rl : Option Nat} {la im : Nat → Option Nat} {dy : hv_H}
theorem mN_laysAside (d : Nat) (k : Nat) (hk : k < 2) : hv_sem (d + 1) 56 [.ref 40, .int (nI k)] (wH sc ar sm rh rl la im dy) = some (none, wH sc (wU ar 45 (va_cpy (ar 42) (ar 45) 0 (64 * k) 64)) sm rh rl la im dy) := by
  simp [r_cons, r_nil, k_seq, k_blk, k_s0, k_s1, k_sr, k_sn, k_si, k_b0, k_b1, k_br, k_bn, k_bi, k_fr, k_fi, k_fn, k_l0, k_l1, k_l2, k_lr, k_ln, k_li, hv_step, hv_nx, hv_rc, hv_cmp, k_w0, k_wi, k_wr, k_wl, k_wn, k_in0, k_ini, k_inr, k_inl, k_inn, k_nb0, k_nb1, k_nbi, k_ni, k_fi32, hv_st1, hv_st2, hv_k1, hv_ft, k_le, -Int32.not_lt, -Int32.not_le, sem_M_laysAside, hb_M_laysAside, tyX11, wr_40, wr_41, wr_42, wr_43, wr_44, wr_45, wr_46, wr_47, wr_48, wr_49, wr_50, wr_51, wr_52, wr_53, wr_54, wr_55, wr_56, wr_57, wr_58, wr_59, wr_60, wr_61, wr_62, wr_63, wr_64, wr_65, wp_4000, wp_4006, wp_4008, wp_4009, wp_4010, wp_4013, wp_4014, wp_4018, wp_4019, wp_4020, wp_4021, wp_4022, wp_4023, wp_4024, wp_4025, wp_4027, wp_4028, wp_4032, wp_4039, wp_4040, wp_4043, wp_4044, wp_4045, wp_4046, wp_4047, wp_4048, wp_4051, wp_4052, ww_41, ww_42, ww_43, ww_44, ww_45, ww_46, ww_47, ww_48, ww_49, ww_50, ww_51, ww_52, ww_53, ww_54, ww_55, ww_56, ww_57, ww_58, ww_59, ww_60, ww_61, ww_62, ww_63, ww_65]
  rw [lp_to (fun i => ([some (.ref 40), some (.int (nI k)), some (.int (nI i))], [], wH sc (wU ar 45 (va_cpy (ar 42) (ar 45) 0 (64 * k) i)) sm rh rl la im dy, 0, 0)) 64 ([some (.ref 40), some (.int (nI k)), some (.int (nI 64))], [], wH sc (wU ar 45 (va_cpy (ar 42) (ar 45) 0 (64 * k) 64)) sm rh rl la im dy, 0, 0) ?_ ?_ ?_]
  · simp [r_cons, r_nil, k_seq, k_blk, k_s0, k_s1, k_sr, k_sn, k_si, k_b0, k_b1, k_br, k_bn, k_bi, k_fr, k_fi, k_fn, k_l0, k_l1, k_l2, k_lr, k_ln, k_li, hv_step, hv_nx, hv_rc, hv_cmp, k_w0, k_wi, k_wr, k_wl, k_wn, k_in0, k_ini, k_inr, k_inl, k_inn, k_nb0, k_nb1, k_nbi, k_ni, k_fi32, hv_st1, hv_st2, hv_k1, hv_ft, k_le, -Int32.not_lt, -Int32.not_le]
  · rw [cpy_0, wU_eta]; rfl
  · intro i hi
    have h2 : nI i < 64 := nI_lt (b := 64) hi (by omega)
    have h3 : (nI (64 * k + i)).toNatClampNeg = 64 * k + i := nI_clamp (by omega)
    have h4 : ¬ nI (64 * k + i) < 0 := nI_pos (by omega)
    have h5 : 64 * k + i < 128 := by omega
    have h6 : (nI i).toNatClampNeg = i := nI_clamp (by omega)
    have h7 : ¬ nI i < 0 := nI_pos (by omega)
    have h8 : i < 5692 := by omega
    have h9 := cpy_s (f := ar 42) (g := ar 45) (sp := 0) (dp := 64 * k) (i := i)
    rw [Nat.zero_add] at h9
    simp [r_cons, r_nil, k_seq, k_blk, k_s0, k_s1, k_sr, k_sn, k_si, k_b0, k_b1, k_br, k_bn, k_bi, k_fr, k_fi, k_fn, k_l0, k_l1, k_l2, k_lr, k_ln, k_li, hv_step, hv_nx, hv_rc, hv_cmp, k_w0, k_wi, k_wr, k_wl, k_wn, k_in0, k_ini, k_inr, k_inl, k_inn, k_nb0, k_nb1, k_nbi, k_ni, k_fi32, hv_st1, hv_st2, hv_k1, hv_ft, k_le, -Int32.not_lt, -Int32.not_le, hl_M_laysAside_0, wr_40, wr_42, wr_45, ww_45, wU_ap, nI_litm, nI_add, nI_1, h2, h3, h4, h5, h6, h7, h8, h9, wU_wU]
  · have h2 : ¬ nI 64 < 64 := by decide
    simp [r_cons, r_nil, k_seq, k_blk, k_s0, k_s1, k_sr, k_sn, k_si, k_b0, k_b1, k_br, k_bn, k_bi, k_fr, k_fi, k_fn, k_l0, k_l1, k_l2, k_lr, k_ln, k_li, hv_step, hv_nx, hv_rc, hv_cmp, k_w0, k_wi, k_wr, k_wl, k_wn, k_in0, k_ini, k_inr, k_inl, k_inn, k_nb0, k_nb1, k_nbi, k_ni, k_fi32, hv_st1, hv_st2, hv_k1, hv_ft, k_le, -Int32.not_lt, -Int32.not_le, hl_M_laysAside_0, h2]
theorem mN_takesBack (d : Nat) (k : Nat) (hk : k < 2) : hv_sem (d + 1) 57 [.ref 40, .int (nI k)] (wH sc ar sm rh rl la im dy) = some (none, wH sc (wU ar 42 (va_cpy (ar 45) (ar 42) (64 * k) 0 64)) sm rh rl la im dy) := by
  simp [r_cons, r_nil, k_seq, k_blk, k_s0, k_s1, k_sr, k_sn, k_si, k_b0, k_b1, k_br, k_bn, k_bi, k_fr, k_fi, k_fn, k_l0, k_l1, k_l2, k_lr, k_ln, k_li, hv_step, hv_nx, hv_rc, hv_cmp, k_w0, k_wi, k_wr, k_wl, k_wn, k_in0, k_ini, k_inr, k_inl, k_inn, k_nb0, k_nb1, k_nbi, k_ni, k_fi32, hv_st1, hv_st2, hv_k1, hv_ft, k_le, -Int32.not_lt, -Int32.not_le, sem_M_takesBack, hb_M_takesBack, tyX11, wr_40, wr_41, wr_42, wr_43, wr_44, wr_45, wr_46, wr_47, wr_48, wr_49, wr_50, wr_51, wr_52, wr_53, wr_54, wr_55, wr_56, wr_57, wr_58, wr_59, wr_60, wr_61, wr_62, wr_63, wr_64, wr_65, wp_4000, wp_4006, wp_4008, wp_4009, wp_4010, wp_4013, wp_4014, wp_4018, wp_4019, wp_4020, wp_4021, wp_4022, wp_4023, wp_4024, wp_4025, wp_4027, wp_4028, wp_4032, wp_4039, wp_4040, wp_4043, wp_4044, wp_4045, wp_4046, wp_4047, wp_4048, wp_4051, wp_4052, ww_41, ww_42, ww_43, ww_44, ww_45, ww_46, ww_47, ww_48, ww_49, ww_50, ww_51, ww_52, ww_53, ww_54, ww_55, ww_56, ww_57, ww_58, ww_59, ww_60, ww_61, ww_62, ww_63, ww_65]
  rw [lp_to (fun i => ([some (.ref 40), some (.int (nI k)), some (.int (nI i))], [], wH sc (wU ar 42 (va_cpy (ar 45) (ar 42) (64 * k) 0 i)) sm rh rl la im dy, 0, 0)) 64 ([some (.ref 40), some (.int (nI k)), some (.int (nI 64))], [], wH sc (wU ar 42 (va_cpy (ar 45) (ar 42) (64 * k) 0 64)) sm rh rl la im dy, 0, 0) ?_ ?_ ?_]
  · simp [r_cons, r_nil, k_seq, k_blk, k_s0, k_s1, k_sr, k_sn, k_si, k_b0, k_b1, k_br, k_bn, k_bi, k_fr, k_fi, k_fn, k_l0, k_l1, k_l2, k_lr, k_ln, k_li, hv_step, hv_nx, hv_rc, hv_cmp, k_w0, k_wi, k_wr, k_wl, k_wn, k_in0, k_ini, k_inr, k_inl, k_inn, k_nb0, k_nb1, k_nbi, k_ni, k_fi32, hv_st1, hv_st2, hv_k1, hv_ft, k_le, -Int32.not_lt, -Int32.not_le]
  · rw [cpy_0, wU_eta]; rfl
  · intro i hi
    have h2 : nI i < 64 := nI_lt (b := 64) hi (by omega)
    have h3 : (nI (64 * k + i)).toNatClampNeg = 64 * k + i := nI_clamp (by omega)
    have h4 : ¬ nI (64 * k + i) < 0 := nI_pos (by omega)
    have h5 : 64 * k + i < 128 := by omega
    have h6 : (nI i).toNatClampNeg = i := nI_clamp (by omega)
    have h7 : ¬ nI i < 0 := nI_pos (by omega)
    have h8 : i < 5692 := by omega
    have h9 := cpy_s (f := ar 45) (g := ar 42) (sp := 64 * k) (dp := 0) (i := i)
    rw [Nat.zero_add] at h9
    simp [r_cons, r_nil, k_seq, k_blk, k_s0, k_s1, k_sr, k_sn, k_si, k_b0, k_b1, k_br, k_bn, k_bi, k_fr, k_fi, k_fn, k_l0, k_l1, k_l2, k_lr, k_ln, k_li, hv_step, hv_nx, hv_rc, hv_cmp, k_w0, k_wi, k_wr, k_wl, k_wn, k_in0, k_ini, k_inr, k_inl, k_inn, k_nb0, k_nb1, k_nbi, k_ni, k_fi32, hv_st1, hv_st2, hv_k1, hv_ft, k_le, -Int32.not_lt, -Int32.not_le, hl_M_takesBack_0, wr_40, wr_42, wr_45, ww_42, wU_ap, nI_litm, nI_add, nI_1, h2, h3, h4, h5, h6, h7, h8, h9, wU_wU]
  · have h2 : ¬ nI 64 < 64 := by decide
    simp [r_cons, r_nil, k_seq, k_blk, k_s0, k_s1, k_sr, k_sn, k_si, k_b0, k_b1, k_br, k_bn, k_bi, k_fr, k_fi, k_fn, k_l0, k_l1, k_l2, k_lr, k_ln, k_li, hv_step, hv_nx, hv_rc, hv_cmp, k_w0, k_wi, k_wr, k_wl, k_wn, k_in0, k_ini, k_inr, k_inl, k_inn, k_nb0, k_nb1, k_nbi, k_ni, k_fi32, hv_st1, hv_st2, hv_k1, hv_ft, k_le, -Int32.not_lt, -Int32.not_le, hl_M_takesBack_0, h2]
def p_given (f : Nat → Int32) : Nat → Nat
  | 0 => 0
  | i + 1 => p_given f i + (if f (49 + i) = -1 then 0 else 1)
theorem p_given_le (f : Nat → Int32) : ∀ n, p_given f n ≤ n
  | 0 => Nat.le_refl 0
  | n + 1 => by
    have := p_given_le f n
    simp only [p_given]
    split <;> omega
theorem mN_givenNow (d : Nat) {n : Nat} (hn : ar 42 81 = nI n) (h7 : n ≤ 7) : hv_sem (d + 2) 122 [.ref 40] (wH sc ar sm rh rl la im dy) = some (some (.int (nI (p_given (ar 42) n))), (wH sc ar sm rh rl la im dy)) := by
  simp [r_cons, r_nil, k_seq, k_blk, k_s0, k_s1, k_sr, k_sn, k_si, k_b0, k_b1, k_br, k_bn, k_bi, k_fr, k_fi, k_fn, k_l0, k_l1, k_l2, k_lr, k_ln, k_li, hv_step, hv_nx, hv_rc, hv_cmp, k_w0, k_wi, k_wr, k_wl, k_wn, k_in0, k_ini, k_inr, k_inl, k_inn, k_nb0, k_nb1, k_nbi, k_ni, k_fi32, hv_st1, hv_st2, hv_k1, hv_ft, k_le, -Int32.not_lt, -Int32.not_le, sem_M_givenNow, hb_M_givenNow, cm_64, vk_64, tyX11, wr_40, wr_41, wr_42, wr_43, wr_44, wr_45, wr_46, wr_47, wr_48, wr_49, wr_50, wr_51, wr_52, wr_53, wr_54, wr_55, wr_56, wr_57, wr_58, wr_59, wr_60, wr_61, wr_62, wr_63, wr_64, wr_65, wp_4000, wp_4006, wp_4008, wp_4009, wp_4010, wp_4013, wp_4014, wp_4018, wp_4019, wp_4020, wp_4021, wp_4022, wp_4023, wp_4024, wp_4025, wp_4027, wp_4028, wp_4032, wp_4039, wp_4040, wp_4043, wp_4044, wp_4045, wp_4046, wp_4047, wp_4048, wp_4051, wp_4052, ww_41, ww_42, ww_43, ww_44, ww_45, ww_46, ww_47, ww_48, ww_49, ww_50, ww_51, ww_52, ww_53, ww_54, ww_55, ww_56, ww_57, ww_58, ww_59, ww_60, ww_61, ww_62, ww_63, ww_65]
  rw [lp_to (fun i => ([some (.ref 40), some (.int (nI (p_given (ar 42) i))), some (.int (nI i))], [], (wH sc ar sm rh rl la im dy), 0, 0)) n ([some (.ref 40), some (.int (nI (p_given (ar 42) n))), some (.int (nI n))], [], (wH sc ar sm rh rl la im dy), 0, 0) ?_ ?_ ?_]
  · simp [r_cons, r_nil, k_seq, k_blk, k_s0, k_s1, k_sr, k_sn, k_si, k_b0, k_b1, k_br, k_bn, k_bi, k_fr, k_fi, k_fn, k_l0, k_l1, k_l2, k_lr, k_ln, k_li, hv_step, hv_nx, hv_rc, hv_cmp, k_w0, k_wi, k_wr, k_wl, k_wn, k_in0, k_ini, k_inr, k_inl, k_inn, k_nb0, k_nb1, k_nbi, k_ni, k_fi32, hv_st1, hv_st2, hv_k1, hv_ft, k_le, -Int32.not_lt, -Int32.not_le]
  · rfl
  · intro i hi
    have h2 : nI i < nI n := nI_lt hi (by omega)
    have hh := fun dd => mN_hasOne (sc := sc) (ar := ar) (sm := sm) (rh := rh) (rl := rl) (la := la) (im := im) (dy := dy) dd i (by omega)
    by_cases h5 : ar 42 (49 + i) = -1 <;> simp [r_cons, r_nil, k_seq, k_blk, k_s0, k_s1, k_sr, k_sn, k_si, k_b0, k_b1, k_br, k_bn, k_bi, k_fr, k_fi, k_fn, k_l0, k_l1, k_l2, k_lr, k_ln, k_li, hv_step, hv_nx, hv_rc, hv_cmp, k_w0, k_wi, k_wr, k_wl, k_wn, k_in0, k_ini, k_inr, k_inl, k_inn, k_nb0, k_nb1, k_nbi, k_ni, k_fi32, hv_st1, hv_st2, hv_k1, hv_ft, k_le, -Int32.not_lt, -Int32.not_le, hl_M_givenNow_0, wr_40, wr_42, hn, h2, hh, h5, cm_64, vk_64, nI_1, p_given]
  · have h2 : ¬ nI n < nI n := by rw [nI_ltI (by omega) (by omega)]; omega
    simp [r_cons, r_nil, k_seq, k_blk, k_s0, k_s1, k_sr, k_sn, k_si, k_b0, k_b1, k_br, k_bn, k_bi, k_fr, k_fi, k_fn, k_l0, k_l1, k_l2, k_lr, k_ln, k_li, hv_step, hv_nx, hv_rc, hv_cmp, k_w0, k_wi, k_wr, k_wl, k_wn, k_in0, k_ini, k_inr, k_inl, k_inn, k_nb0, k_nb1, k_nbi, k_ni, k_fi32, hv_st1, hv_st2, hv_k1, hv_ft, k_le, -Int32.not_lt, -Int32.not_le, hl_M_givenNow_0, wr_40, wr_42, hn, h2]
end MC
