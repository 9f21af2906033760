/-! The reference's methods on monks and vows, over whole numbers. -/
theorem nI_sub1 {n : Nat} (h : 0 < n) : nI n - 1 = nI (n - 1) := by
  obtain ⟨k, rfl⟩ : ∃ k, n = k + 1 := ⟨n - 1, by omega⟩
  rw [nI_pred]; rfl
theorem p_is {n : Nat} (h7 : n < 2 ^ 31) (m : Int32) : (0 ≤ m ∧ m ≤ nI n - 1) ↔ ∃ k : Nat, k < n ∧ m = nI k := by
  constructor
  · rintro ⟨h1, h2⟩
    obtain ⟨k, hk, rfl⟩ := nI_of (Int32.not_lt.mpr h1)
    refine ⟨k, ?_, rfl⟩
    by_cases hn : n = 0
    · subst hn
      rw [nI_0] at h2
      have h3 : nI k ≤ -1 := h2
      rw [Int32.le_iff_toInt_le, nI_toInt hk] at h3
      have : (-1 : Int32).toInt = -1 := rfl
      omega
    · rw [nI_sub1 (by omega), nI_leI hk (by omega)] at h2
      omega
  · rintro ⟨k, hk, rfl⟩
    refine ⟨nI_pos' (by omega), ?_⟩
    rw [nI_sub1 (by omega), nI_leI (by omega) (by omega)]
    omega
theorem wU_at {α : Type} (f : Nat → α) (k : Nat) (x : α) : wU f k x k = x := by simp [wU]
theorem wU_wU {α : Type} (f : Nat → α) (k : Nat) (x y : α) : wU (wU f k x) k y = wU f k y := by
  funext j
  simp only [wU]
  split <;> rfl
section MH
variable {sc : Nat → Int32} {ar : Nat → Nat → Int32} {sm : Nat → Int64} {rh : Nat} {rl : Option Nat} {la im : Nat → Option Nat} {dy : hv_H}
theorem mN_isMonk (d : Nat) {n : Nat} (hn : ar 42 81 = nI n) (h7 : n ≤ 7) (m : Nat) (hm : m < n) : hv_sem (d + 2) 60 [.ref 40, .int (nI m)] (wH sc ar sm rh rl la im dy) = some (some (.int 1), (wH sc ar sm rh rl la im dy)) := by
  rw [m_isMonk, hn, if_pos ((p_is (by omega) _).mpr ⟨m, hm, rfl⟩)]
theorem mN_isMonk0 (d : Nat) {n : Nat} (hn : ar 42 81 = nI n) (h7 : n ≤ 7) (m : Int32) (hm : ¬ ∃ k : Nat, k < n ∧ m = nI k) : hv_sem (d + 2) 60 [.ref 40, .int m] (wH sc ar sm rh rl la im dy) = some (some (.int 0), (wH sc ar sm rh rl la im dy)) := by
  rw [m_isMonk, hn, if_neg (fun q => hm ((p_is (by omega) _).mp q))]
theorem mN_hardOf (d : Nat) (m v : Nat) (hm : m < 7) (hv : v < 7) : hv_sem (d + 1) 63 [.ref 40, .int (nI m), .int (nI v)] (wH sc ar sm rh rl la im dy) = some (some (.int (ar 42 (7 * m + v))), (wH sc ar sm rh rl la im dy)) := by
  have h1 : (nI (7 * m + v)).toNatClampNeg = 7 * m + v := nI_clamp (by omega)
  have h2 : ¬ nI (7 * m + v) < 0 := nI_pos (by omega)
  have h3 : 7 * m + v < 5692 := by omega
  simp [r_cons, r_nil, k_seq, k_blk, k_s0, k_s1, k_sr, k_sn, k_si, k_b0, k_b1, k_br, k_bn, k_bi, k_fr, k_fi, k_fn, k_l0, k_l1, k_l2, k_lr, k_ln, k_li, hv_step, hv_nx, hv_rc, hv_cmp, k_w0, k_wi, k_wr, k_wl, k_wn, k_in0, k_ini, k_inr, k_inl, k_inn, k_nb0, k_nb1, k_nbi, k_ni, k_fi32, hv_st1, hv_st2, hv_k1, hv_ft, k_le, -Int32.not_lt, -Int32.not_le, sem_M_hardOf, hb_M_hardOf, tyX11, wr_40, wr_41, wr_42, wr_43, wr_44, wr_45, wr_46, wr_47, wr_48, wr_49, wr_50, wr_51, wr_52, wr_53, wr_54, wr_55, wr_56, wr_57, wr_58, wr_59, wr_60, wr_61, wr_62, wr_63, wr_64, wr_65, wp_4000, wp_4006, wp_4008, wp_4009, wp_4010, wp_4013, wp_4014, wp_4018, wp_4019, wp_4020, wp_4021, wp_4022, wp_4023, wp_4024, wp_4025, wp_4027, wp_4028, wp_4032, wp_4039, wp_4040, wp_4043, wp_4044, wp_4045, wp_4046, wp_4047, wp_4048, wp_4051, wp_4052, ww_41, ww_42, ww_43, ww_44, ww_45, ww_46, ww_47, ww_48, ww_49, ww_50, ww_51, ww_52, ww_53, ww_54, ww_55, ww_56, ww_57, ww_58, ww_59, ww_60, ww_61, ww_62, ww_63, ww_65, nI_litm, nI_add, h1, h2, h3]
theorem mN_hasOne (d : Nat) (m : Nat) (hm : m < 7) : hv_sem (d + 1) 64 [.ref 40, .int (nI m)] (wH sc ar sm rh rl la im dy) = some (some (.int (if ar 42 (49 + m) = -1 then 0 else 1)), (wH sc ar sm rh rl la im dy)) := by
  have h1 : (nI (49 + m)).toNatClampNeg = 49 + m := nI_clamp (by omega)
  have h2 : ¬ nI (49 + m) < 0 := nI_pos (by omega)
  have h3 : 49 + m < 5692 := by omega
  by_cases h4 : ar 42 (49 + m) = -1 <;> simp [r_cons, r_nil, k_seq, k_blk, k_s0, k_s1, k_sr, k_sn, k_si, k_b0, k_b1, k_br, k_bn, k_bi, k_fr, k_fi, k_fn, k_l0, k_l1, k_l2, k_lr, k_ln, k_li, hv_step, hv_nx, hv_rc, hv_cmp, k_w0, k_wi, k_wr, k_wl, k_wn, k_in0, k_ini, k_inr, k_inl, k_inn, k_nb0, k_nb1, k_nbi, k_ni, k_fi32, hv_st1, hv_st2, hv_k1, hv_ft, k_le, -Int32.not_lt, -Int32.not_le, sem_M_hasOne, hb_M_hasOne, tyX11, wr_40, wr_41, wr_42, wr_43, wr_44, wr_45, wr_46, wr_47, wr_48, wr_49, wr_50, wr_51, wr_52, wr_53, wr_54, wr_55, wr_56, wr_57, wr_58, wr_59, wr_60, wr_61, wr_62, wr_63, wr_64, wr_65, wp_4000, wp_4006, wp_4008, wp_4009, wp_4010, wp_4013, wp_4014, wp_4018, wp_4019, wp_4020, wp_4021, wp_4022, wp_4023, wp_4024, wp_4025, wp_4027, wp_4028, wp_4032, wp_4039, wp_4040, wp_4043, wp_4044, wp_4045, wp_4046, wp_4047, wp_4048, wp_4051, wp_4052, ww_41, ww_42, ww_43, ww_44, ww_45, ww_46, ww_47, ww_48, ww_49, ww_50, ww_51, ww_52, ww_53, ww_54, ww_55, ww_56, ww_57, ww_58, ww_59, ww_60, ww_61, ww_62, ww_63, ww_65, nI_lits, h1, h2, h3, h4]
theorem mN_heldOf (d : Nat) (m : Nat) (v : Int32) (hm : m < 7) : hv_sem (d + 1) 65 [.ref 40, .int (nI m), .int v] (wH sc ar sm rh rl la im dy) = some (some (.int (if ar 42 (49 + m) = v then ar 42 (56 + m) else 0)), (wH sc ar sm rh rl la im dy)) := by
  have h1 : (nI (49 + m)).toNatClampNeg = 49 + m := nI_clamp (by omega)
  have h2 : ¬ nI (49 + m) < 0 := nI_pos (by omega)
  have h3 : 49 + m < 5692 := by omega
  have h5 : (nI (56 + m)).toNatClampNeg = 56 + m := nI_clamp (by omega)
  have h6 : ¬ nI (56 + m) < 0 := nI_pos (by omega)
  have h7 : 56 + m < 5692 := by omega
  by_cases h4 : ar 42 (49 + m) = v <;> simp [r_cons, r_nil, k_seq, k_blk, k_s0, k_s1, k_sr, k_sn, k_si, k_b0, k_b1, k_br, k_bn, k_bi, k_fr, k_fi, k_fn, k_l0, k_l1, k_l2, k_lr, k_ln, k_li, hv_step, hv_nx, hv_rc, hv_cmp, k_w0, k_wi, k_wr, k_wl, k_wn, k_in0, k_ini, k_inr, k_inl, k_inn, k_nb0, k_nb1, k_nbi, k_ni, k_fi32, hv_st1, hv_st2, hv_k1, hv_ft, k_le, -Int32.not_lt, -Int32.not_le, sem_M_heldOf, hb_M_heldOf, tyX11, wr_40, wr_41, wr_42, wr_43, wr_44, wr_45, wr_46, wr_47, wr_48, wr_49, wr_50, wr_51, wr_52, wr_53, wr_54, wr_55, wr_56, wr_57, wr_58, wr_59, wr_60, wr_61, wr_62, wr_63, wr_64, wr_65, wp_4000, wp_4006, wp_4008, wp_4009, wp_4010, wp_4013, wp_4014, wp_4018, wp_4019, wp_4020, wp_4021, wp_4022, wp_4023, wp_4024, wp_4025, wp_4027, wp_4028, wp_4032, wp_4039, wp_4040, wp_4043, wp_4044, wp_4045, wp_4046, wp_4047, wp_4048, wp_4051, wp_4052, ww_41, ww_42, ww_43, ww_44, ww_45, ww_46, ww_47, ww_48, ww_49, ww_50, ww_51, ww_52, ww_53, ww_54, ww_55, ww_56, ww_57, ww_58, ww_59, ww_60, ww_61, ww_62, ww_63, ww_65, nI_lits, h1, h2, h3, h4, h5, h6, h7]
theorem mN_has (d : Nat) {n : Nat} (hn : ar 42 81 = nI n) (h7 : n ≤ 7) (m : Nat) (hm : m < n) : hv_sem (d + 3) 71 [.ref 40, .int (nI m)] (wH sc ar sm rh rl la im dy) = some (some (.int (ar 42 (49 + m))), (wH sc ar sm rh rl la im dy)) := by
  have h1 : (nI (49 + m)).toNatClampNeg = 49 + m := nI_clamp (by omega)
  have h2 : ¬ nI (49 + m) < 0 := nI_pos (by omega)
  have h3 : 49 + m < 5692 := by omega
  simp [r_cons, r_nil, k_seq, k_blk, k_s0, k_s1, k_sr, k_sn, k_si, k_b0, k_b1, k_br, k_bn, k_bi, k_fr, k_fi, k_fn, k_l0, k_l1, k_l2, k_lr, k_ln, k_li, hv_step, hv_nx, hv_rc, hv_cmp, k_w0, k_wi, k_wr, k_wl, k_wn, k_in0, k_ini, k_inr, k_inl, k_inn, k_nb0, k_nb1, k_nbi, k_ni, k_fi32, hv_st1, hv_st2, hv_k1, hv_ft, k_le, -Int32.not_lt, -Int32.not_le, sem_M_has, hb_M_has, cm_60, vk_60, tyX11, wr_40, wr_41, wr_42, wr_43, wr_44, wr_45, wr_46, wr_47, wr_48, wr_49, wr_50, wr_51, wr_52, wr_53, wr_54, wr_55, wr_56, wr_57, wr_58, wr_59, wr_60, wr_61, wr_62, wr_63, wr_64, wr_65, wp_4000, wp_4006, wp_4008, wp_4009, wp_4010, wp_4013, wp_4014, wp_4018, wp_4019, wp_4020, wp_4021, wp_4022, wp_4023, wp_4024, wp_4025, wp_4027, wp_4028, wp_4032, wp_4039, wp_4040, wp_4043, wp_4044, wp_4045, wp_4046, wp_4047, wp_4048, wp_4051, wp_4052, ww_41, ww_42, ww_43, ww_44, ww_45, ww_46, ww_47, ww_48, ww_49, ww_50, ww_51, ww_52, ww_53, ww_54, ww_55, ww_56, ww_57, ww_58, ww_59, ww_60, ww_61, ww_62, ww_63, ww_65, mN_isMonk d hn h7 m hm, nI_lits, h1, h2, h3]
theorem mN_has0 (d : Nat) {n : Nat} (hn : ar 42 81 = nI n) (h7 : n ≤ 7) (m : Int32) (hm : ¬ ∃ k : Nat, k < n ∧ m = nI k) : hv_sem (d + 3) 71 [.ref 40, .int m] (wH sc ar sm rh rl la im dy) = some (some (.int (-1)), (wH sc ar sm rh rl la im dy)) := by
  simp [r_cons, r_nil, k_seq, k_blk, k_s0, k_s1, k_sr, k_sn, k_si, k_b0, k_b1, k_br, k_bn, k_bi, k_fr, k_fi, k_fn, k_l0, k_l1, k_l2, k_lr, k_ln, k_li, hv_step, hv_nx, hv_rc, hv_cmp, k_w0, k_wi, k_wr, k_wl, k_wn, k_in0, k_ini, k_inr, k_inl, k_inn, k_nb0, k_nb1, k_nbi, k_ni, k_fi32, hv_st1, hv_st2, hv_k1, hv_ft, k_le, -Int32.not_lt, -Int32.not_le, sem_M_has, hb_M_has, cm_60, vk_60, tyX11, wr_40, wr_41, wr_42, wr_43, wr_44, wr_45, wr_46, wr_47, wr_48, wr_49, wr_50, wr_51, wr_52, wr_53, wr_54, wr_55, wr_56, wr_57, wr_58, wr_59, wr_60, wr_61, wr_62, wr_63, wr_64, wr_65, wp_4000, wp_4006, wp_4008, wp_4009, wp_4010, wp_4013, wp_4014, wp_4018, wp_4019, wp_4020, wp_4021, wp_4022, wp_4023, wp_4024, wp_4025, wp_4027, wp_4028, wp_4032, wp_4039, wp_4040, wp_4043, wp_4044, wp_4045, wp_4046, wp_4047, wp_4048, wp_4051, wp_4052, ww_41, ww_42, ww_43, ww_44, ww_45, ww_46, ww_47, ww_48, ww_49, ww_50, ww_51, ww_52, ww_53, ww_54, ww_55, ww_56, ww_57, ww_58, ww_59, ww_60, ww_61, ww_62, ww_63, ww_65, mN_isMonk0 d hn h7 m hm]
theorem mN_gives (d : Nat) (m : Nat) (v : Int32) (hm : m < 7) : hv_sem (d + 1) 125 [.ref 40, .int (nI m), .int v] (wH sc ar sm rh rl la im dy) = some (none, wH sc (wU ar 42 (upd (upd (ar 42) (49 + m) v) (56 + m) 0)) sm rh rl la im dy) := by
  have h1 : (nI (49 + m)).toNatClampNeg = 49 + m := nI_clamp (by omega)
  have h2 : ¬ nI (49 + m) < 0 := nI_pos (by omega)
  have h3 : 49 + m < 5692 := by omega
  have h5 : (nI (56 + m)).toNatClampNeg = 56 + m := nI_clamp (by omega)
  have h6 : ¬ nI (56 + m) < 0 := nI_pos (by omega)
  have h7 : 56 + m < 5692 := by omega
  simp [r_cons, r_nil, k_seq, k_blk, k_s0, k_s1, k_sr, k_sn, k_si, k_b0, k_b1, k_br, k_bn, k_bi, k_fr, k_fi, k_fn, k_l0, k_l1, k_l2, k_lr, k_ln, k_li, hv_step, hv_nx, hv_rc, hv_cmp, k_w0, k_wi, k_wr, k_wl, k_wn, k_in0, k_ini, k_inr, k_inl, k_inn, k_nb0, k_nb1, k_nbi, k_ni, k_fi32, hv_st1, hv_st2, hv_k1, hv_ft, k_le, -Int32.not_lt, -Int32.not_le, sem_M_gives, hb_M_gives, tyX11, wr_40, wr_41, wr_42, wr_43, wr_44, wr_45, wr_46, wr_47, wr_48, wr_49, wr_50, wr_51, wr_52, wr_53, wr_54, wr_55, wr_56, wr_57, wr_58, wr_59, wr_60, wr_61, wr_62, wr_63, wr_64, wr_65, wp_4000, wp_4006, wp_4008, wp_4009, wp_4010, wp_4013, wp_4014, wp_4018, wp_4019, wp_4020, wp_4021, wp_4022, wp_4023, wp_4024, wp_4025, wp_4027, wp_4028, wp_4032, wp_4039, wp_4040, wp_4043, wp_4044, wp_4045, wp_4046, wp_4047, wp_4048, wp_4051, wp_4052, ww_41, ww_42, ww_43, ww_44, ww_45, ww_46, ww_47, ww_48, ww_49, ww_50, ww_51, ww_52, ww_53, ww_54, ww_55, ww_56, ww_57, ww_58, ww_59, ww_60, ww_61, ww_62, ww_63, ww_65, nI_lits, h1, h2, h3, h5, h6, h7]
  simp [wU_wU, wU_at]
theorem mN_adds (d : Nat) {n : Nat} (hn : ar 42 81 = nI n) (h7 : n < 7) : hv_sem (d + 1) 67 [.ref 40] (wH sc ar sm rh rl la im dy) = some (some (.int (nI n)), wH sc (wU ar 42 (upd (upd (upd (ar 42) (49 + n) (-1)) (56 + n) 0) 81 (nI (n + 1)))) sm rh rl la im dy) := by
  have h1 : (nI (49 + n)).toNatClampNeg = 49 + n := nI_clamp (by omega)
  have h2 : ¬ nI (49 + n) < 0 := nI_pos (by omega)
  have h3 : 49 + n < 5692 := by omega
  have h5 : (nI (56 + n)).toNatClampNeg = 56 + n := nI_clamp (by omega)
  have h6 : ¬ nI (56 + n) < 0 := nI_pos (by omega)
  have h8 : 56 + n < 5692 := by omega
  have e1 : ¬ 81 = 49 + n := by omega
  have e2 : ¬ 81 = 56 + n := by omega
  simp [r_cons, r_nil, k_seq, k_blk, k_s0, k_s1, k_sr, k_sn, k_si, k_b0, k_b1, k_br, k_bn, k_bi, k_fr, k_fi, k_fn, k_l0, k_l1, k_l2, k_lr, k_ln, k_li, hv_step, hv_nx, hv_rc, hv_cmp, k_w0, k_wi, k_wr, k_wl, k_wn, k_in0, k_ini, k_inr, k_inl, k_inn, k_nb0, k_nb1, k_nbi, k_ni, k_fi32, hv_st1, hv_st2, hv_k1, hv_ft, k_le, -Int32.not_lt, -Int32.not_le, sem_M_adds, hb_M_adds, tyX11, wr_40, wr_41, wr_42, wr_43, wr_44, wr_45, wr_46, wr_47, wr_48, wr_49, wr_50, wr_51, wr_52, wr_53, wr_54, wr_55, wr_56, wr_57, wr_58, wr_59, wr_60, wr_61, wr_62, wr_63, wr_64, wr_65, wp_4000, wp_4006, wp_4008, wp_4009, wp_4010, wp_4013, wp_4014, wp_4018, wp_4019, wp_4020, wp_4021, wp_4022, wp_4023, wp_4024, wp_4025, wp_4027, wp_4028, wp_4032, wp_4039, wp_4040, wp_4043, wp_4044, wp_4045, wp_4046, wp_4047, wp_4048, wp_4051, wp_4052, ww_41, ww_42, ww_43, ww_44, ww_45, ww_46, ww_47, ww_48, ww_49, ww_50, ww_51, ww_52, ww_53, ww_54, ww_55, ww_56, ww_57, ww_58, ww_59, ww_60, ww_61, ww_62, ww_63, ww_65, hn, nI_lits, h1, h2, h3, h5, h6, h8]
  simp [wU_wU, wU_at, upd, e1, e2, hn, nI_1]
end MH
