/-! Loops; the reference's methods that go over the monks. -/
theorem lp_for {B : hv_M} {S : Nat → hv_S} {n : Nat} {r : Option hv_O} (hs : ∀ i, i < n → B (S i) = some (.inl (1, S (i + 1)))) (he : hv_lk (hv_lp B) (B (S n)) = r) : hv_lp B (S 0) = r := by
  have key : ∀ k, k ≤ n → hv_lp B (S (n - k)) = r := by
    intro k
    induction k with
    | zero => intro _; rw [Nat.sub_zero, hv_lp_eq]; exact he
    | succ k ih =>
      intro hk
      rw [hv_lp_eq, hs _ (by omega)]
      show hv_lp B (S (n - (k + 1) + 1)) = r
      rw [show n - (k + 1) + 1 = n - k by omega]
      exact ih (by omega)
  have := key n (Nat.le_refl n)
  rwa [Nat.sub_self] at this
theorem lp_to {B : hv_M} {σ : hv_S} (S : Nat → hv_S) (n : Nat) (T : hv_S) (h0 : σ = S 0) (hs : ∀ i, i < n → B (S i) = some (.inl (1, S (i + 1)))) (he : B (S n) = some (.inl (0, T))) : hv_lp B σ = some (.inl (0, T)) := by
  rw [h0]
  exact lp_for hs (by rw [he]; rfl)
theorem nI_neg1 (n : Nat) (h : n < 2 ^ 31) : ¬ (nI n < 0) := nI_pos h
theorem nI_lits (a b : Nat) : (no_index (OfNat.ofNat a : Int32)) + nI b = nI (a + b) := nI_add a b
theorem nI_litm (a b : Nat) : (no_index (OfNat.ofNat a : Int32)) * nI b = nI (a * b) := pk_mul a b
section ML2
variable {sc : Nat → Int32} {ar : Nat → Nat → Int32} {sm : Nat → Int64} {rh : Nat} {rl : Option Nat} {la im : Nat → Option Nat} {dy : hv_H}
def p_holder (f : Nat → Int32) (v : Int32) : Nat → Int32
  | 0 => -1
  | i + 1 => if f (49 + i) = v then nI i else p_holder f v i
theorem m_holderOf (d : Nat) (v : Int32) (n : Nat) (hn : ar 42 81 = nI n) (h7 : n ≤ 7) : hv_sem (d + 1) 66 [.ref 40, .int v] (wH sc ar sm rh rl la im dy) = some (some (.int (p_holder (ar 42) v n)), (wH sc ar sm rh rl la im dy)) := by
  simp [r_cons, r_nil, k_seq, k_blk, k_s0, k_s1, k_sr, k_sn, k_si, k_b0, k_b1, k_br, k_bn, k_bi, k_fr, k_fi, k_fn, k_l0, k_l1, k_l2, k_lr, k_ln, k_li, hv_step, hv_nx, hv_rc, hv_cmp, k_w0, k_wi, k_wr, k_wl, k_wn, k_in0, k_ini, k_inr, k_inl, k_inn, k_nb0, k_nb1, k_nbi, k_ni, k_fi32, hv_st1, hv_st2, hv_k1, hv_ft, k_le, -Int32.not_lt, -Int32.not_le, sem_M_holderOf, hb_M_holderOf, tyX11, wr_40, wr_41, wr_42, wr_43, wr_44, wr_45, wr_46, wr_47, wr_48, wr_49, wr_50, wr_51, wr_52, wr_53, wr_54, wr_55, wr_56, wr_57, wr_58, wr_59, wr_60, wr_61, wr_62, wr_63, wr_64, wr_65, wp_4000, wp_4006, wp_4008, wp_4009, wp_4010, wp_4013, wp_4014, wp_4018, wp_4019, wp_4020, wp_4021, wp_4022, wp_4023, wp_4024, wp_4025, wp_4027, wp_4028, wp_4032, wp_4039, wp_4040, wp_4043, wp_4044, wp_4045, wp_4046, wp_4047, wp_4048, wp_4051, wp_4052, ww_41, ww_42, ww_43, ww_44, ww_45, ww_46, ww_47, ww_48, ww_49, ww_50, ww_51, ww_52, ww_53, ww_54, ww_55, ww_56, ww_57, ww_58, ww_59, ww_60, ww_61, ww_62, ww_63, ww_65]
  rw [lp_to (fun i => ([some (.ref 40), some (.int v), some (.int (p_holder (ar 42) v i)), some (.int (nI i))], [], (wH sc ar sm rh rl la im dy), 0, 0)) n ([some (.ref 40), some (.int v), some (.int (p_holder (ar 42) v n)), some (.int (nI n))], [], (wH sc ar sm rh rl la im dy), 0, 0) ?_ ?_ ?_]
  · simp [r_cons, r_nil, k_seq, k_blk, k_s0, k_s1, k_sr, k_sn, k_si, k_b0, k_b1, k_br, k_bn, k_bi, k_fr, k_fi, k_fn, k_l0, k_l1, k_l2, k_lr, k_ln, k_li, hv_step, hv_nx, hv_rc, hv_cmp, k_w0, k_wi, k_wr, k_wl, k_wn, k_in0, k_ini, k_inr, k_inl, k_inn, k_nb0, k_nb1, k_nbi, k_ni, k_fi32, hv_st1, hv_st2, hv_k1, hv_ft, k_le, -Int32.not_lt, -Int32.not_le]
  · rfl
  · intro i hi
    have h2 : nI i < nI n := nI_lt hi (by omega)
    have h3 : (nI (49 + i)).toNatClampNeg = 49 + i := nI_clamp (by omega)
    have h4 : ¬ nI (49 + i) < 0 := nI_pos (by omega)
    have h6 : 49 + i < 5692 := by omega
    by_cases h5 : ar 42 (49 + i) = v <;> simp [r_cons, r_nil, k_seq, k_blk, k_s0, k_s1, k_sr, k_sn, k_si, k_b0, k_b1, k_br, k_bn, k_bi, k_fr, k_fi, k_fn, k_l0, k_l1, k_l2, k_lr, k_ln, k_li, hv_step, hv_nx, hv_rc, hv_cmp, k_w0, k_wi, k_wr, k_wl, k_wn, k_in0, k_ini, k_inr, k_inl, k_inn, k_nb0, k_nb1, k_nbi, k_ni, k_fi32, hv_st1, hv_st2, hv_k1, hv_ft, k_le, -Int32.not_lt, -Int32.not_le, hl_M_holderOf_0, wr_40, wr_42, hn, h2, h3, h4, h5, h6, nI_lits, nI_1, p_holder]
  · have h2 : ¬ nI n < nI n := by rw [nI_ltI (by omega) (by omega)]; omega
    simp [r_cons, r_nil, k_seq, k_blk, k_s0, k_s1, k_sr, k_sn, k_si, k_b0, k_b1, k_br, k_bn, k_bi, k_fr, k_fi, k_fn, k_l0, k_l1, k_l2, k_lr, k_ln, k_li, hv_step, hv_nx, hv_rc, hv_cmp, k_w0, k_wi, k_wr, k_wl, k_wn, k_in0, k_ini, k_inr, k_inl, k_inn, k_nb0, k_nb1, k_nbi, k_ni, k_fi32, hv_st1, hv_st2, hv_k1, hv_ft, k_le, -Int32.not_lt, -Int32.not_le, hl_M_holderOf_0, wr_40, wr_42, hn, h2]
end ML2
