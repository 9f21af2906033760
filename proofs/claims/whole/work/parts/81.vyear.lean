/-! A year passes in the class's house. -/
def pYc (law : Option (List qC)) (md : Int32) (H : Nat → Int32) (m v : Nat) : Int32 := if H (49 + m) = nI v then i_max 0 (H (7 * m + v) - pT law md H 0 m v) else i_min 99 (H (7 * m + v) + pT law md H 1 m v)
def pYh (H : Nat → Int32) (m : Nat) : Int32 := if H (49 + m) = -1 then 0 else i_min 99 (H (56 + m) + 1)
/-- the house a year later -/
def pYr (law : Option (List qC)) (md : Int32) (H : Nat → Int32) : Nat → Int32 := fun i => if i < 49 then pYc law md H (i / 7) (i % 7) else if 56 ≤ i ∧ i < 63 then pYh H (i - 56) else if i = 63 then H 63 + 1 else H i
/-- the class's row while it passes: cells below c, monks below m -/
def yF (law : Option (List qC)) (md : Int32) (F : Nat → Int32) (m c : Nat) : Nat → Int32 := fun i => if i < c then pYc law md F (i / 7) (i % 7) else if 56 ≤ i ∧ i < 56 + m then pYh F (i - 56) else F i
section PY
variable {law : Option (List qC)} {md : Int32} {F G H : Nat → Int32} {n m v : Nat}
theorem rg_int {b : Nat} {x : Int32} (hb : b < 2 ^ 31) : rg b x ↔ 0 ≤ x.toInt ∧ x.toInt ≤ b := by
  constructor
  · rintro ⟨k, h1, rfl⟩
    rw [nI_toInt (by omega)]
    omega
  · intro ⟨h1, h2⟩
    refine ⟨x.toInt.toNat, by omega, ?_⟩
    refine Int32.toInt_inj.mp ?_
    rw [nI_toInt (by omega)]
    omega
theorem i32_0 : (0 : Int32).toInt = 0 := rfl
theorem i32_99 : (99 : Int32).toInt = 99 := rfl
theorem add_int {x y : Int32} (h1 : -1000000 ≤ x.toInt) (h2 : x.toInt ≤ 1000000) (h3 : -1000000 ≤ y.toInt) (h4 : y.toInt ≤ 1000000) : (x + y).toInt = x.toInt + y.toInt := by
  rw [Int32.toInt_add]
  exact Int.bmod_eq_of_le (by omega) (by omega)
theorem sub_int {x y : Int32} (h1 : -1000000 ≤ x.toInt) (h2 : x.toInt ≤ 1000000) (h3 : -1000000 ≤ y.toInt) (h4 : y.toInt ≤ 1000000) : (x - y).toInt = x.toInt - y.toInt := by
  rw [Int32.toInt_sub]
  exact Int.bmod_eq_of_le (by omega) (by omega)
theorem imin_int (x y : Int32) : (i_min x y).toInt = if y.toInt < x.toInt then y.toInt else x.toInt := by
  rw [i_min]
  split
  · rename_i h; rw [if_pos (Int32.lt_iff_toInt_lt.mp h)]
  · rename_i h; rw [if_neg (fun q => h (Int32.lt_iff_toInt_lt.mpr q))]
theorem imax_int (x y : Int32) : (i_max x y).toInt = if x.toInt < y.toInt then y.toInt else x.toInt := by
  rw [i_max]
  split
  · rename_i h; rw [if_pos (Int32.lt_iff_toInt_lt.mp h)]
  · rename_i h; rw [if_neg (fun q => h (Int32.lt_iff_toInt_lt.mpr q))]
theorem yr_f {a b : Int32} (ha : rg 99 a) (hb : rg 99 b) : i_max 0 (i_min 99 (a + -b)) = i_max 0 (a - b) := by
  rw [rg_int (by omega)] at ha hb
  refine Int32.toInt_inj.mp ?_
  rw [← Int32.sub_eq_add_neg, imax_int, imax_int, imin_int, sub_int (by omega) (by omega) (by omega) (by omega), i32_0, i32_99]
  split <;> split <;> omega
theorem yr_r {a b : Int32} (ha : rg 99 a) (hb : rg 99 b) : i_max 0 (i_min 99 (a + b)) = i_min 99 (a + b) := by
  rw [rg_int (by omega)] at ha hb
  refine Int32.toInt_inj.mp ?_
  rw [imax_int, imin_int, add_int (by omega) (by omega) (by omega) (by omega), i32_0, i32_99]
  split <;> split <;> omega
theorem pYc_rg (ha : rg 99 (H (7 * m + v))) : rg 99 (pYc law md H m v) := by
  have h0 := pT_rg (law := law) (md := md) (kd := 0) ha
  have h1 := pT_rg (law := law) (md := md) (kd := 1) ha
  rw [rg_int (by omega)] at ha h0 h1 ⊢
  rw [pYc]
  split
  · rw [imax_int, sub_int (by omega) (by omega) (by omega) (by omega), i32_0]
    split <;> omega
  · rw [imin_int, add_int (by omega) (by omega) (by omega) (by omega), i32_99]
    split <;> omega
theorem pYc_cg (h1 : F (7 * m + v) = G (7 * m + v)) (h2 : F (49 + m) = G (49 + m)) (h3 : F (56 + m) = G (56 + m)) (h4 : F 63 = G 63) : pYc law md F m v = pYc law md G m v := by
  rw [pYc, pYc, pT_cg h1 h2 h3 h4, pT_cg (kd := 1) h1 h2 h3 h4, h1, h2]
theorem pYr_c (hm : m < 7) (hv : v < 7) : pYr law md H (7 * m + v) = pYc law md H m v := by
  rw [pYr, if_pos (by omega), show (7 * m + v) / 7 = m by omega, show (7 * m + v) % 7 = v by omega]
theorem pYr_s (hm : m < 7) : pYr law md H (49 + m) = H (49 + m) := by
  rw [pYr, if_neg (by omega), if_neg (by omega), if_neg (by omega)]
theorem pYr_h (hm : m < 7) : pYr law md H (56 + m) = pYh H m := by
  rw [pYr, if_neg (by omega), if_pos (by omega), show 56 + m - 56 = m by omega]
theorem pYr_y : pYr law md H 63 = H 63 + 1 := rfl
theorem pYh_rg (h : rg 99 (H (56 + m))) : rg 99 (pYh H m) := by
  rw [pYh]
  split
  · exact ⟨0, by omega, rfl⟩
  · rw [rg_int (by omega)] at h ⊢
    have e : (1 : Int32).toInt = 1 := rfl
    rw [imin_int, add_int (by omega) (by omega) (by omega) (by omega), i32_99, e]
    split <;> omega
theorem pYr_wf (h7 : n ≤ 7) (h : hWf n H) : hWf n (pYr law md H) := by
  intro m hm
  refine ⟨fun v hv => ?_, ?_⟩
  · rw [pYr_c (by omega) hv]
    exact pYc_rg ((h m hm).1 v hv)
  · rw [pYr_s (by omega), pYr_h (by omega)]
    rcases (h m hm).2 with ⟨h1, h2⟩ | ⟨h1, h2⟩
    · refine Or.inl ⟨h1, ?_⟩
      rw [pYh, if_pos h1]
    · exact Or.inr ⟨h1, pYh_rg h2⟩
theorem pYr_cg (h7 : n ≤ 7) (h : hA n F G) : hA n (pYr law md F) (pYr law md G) := by
  refine ⟨fun m hm => ⟨fun v hv => ?_, ?_, ?_⟩, ?_⟩
  · rw [pYr_c (by omega) hv, pYr_c (by omega) hv]
    exact pYc_cg ((h.1 m hm).1 v hv) (h.1 m hm).2.1 (h.1 m hm).2.2 h.2
  · rw [pYr_s (by omega), pYr_s (by omega)]
    exact (h.1 m hm).2.1
  · rw [pYr_h (by omega), pYr_h (by omega), pYh, pYh, (h.1 m hm).2.1, (h.1 m hm).2.2]
  · rw [pYr_y, pYr_y, h.2]
theorem yF_step (hm : m < 7) (hv : v < 7) : upd (yF law md F m (7 * m + v)) (7 * m + v) (pYc law md F m v) = yF law md F m (7 * m + (v + 1)) := by
  funext i
  simp only [upd, yF]
  by_cases q : i = 7 * m + v
  · rw [if_pos q, if_pos (by omega), q, show (7 * m + v) / 7 = m by omega, show (7 * m + v) % 7 = v by omega]
  · rw [if_neg q]
    by_cases q2 : i < 7 * m + v
    · rw [if_pos q2, if_pos (by omega)]
    · rw [if_neg q2, if_neg (show ¬ i < 7 * m + (v + 1) by omega)]
theorem yF_hold (hm : m < 7) : upd (yF law md F m (7 * (m + 1))) (56 + m) (pYh F m) = yF law md F (m + 1) (7 * (m + 1)) := by
  funext i
  simp only [upd, yF]
  by_cases q : i = 56 + m
  · rw [if_pos q, if_neg (by omega), if_pos (by omega), q, show 56 + m - 56 = m by omega]
  · rw [if_neg q]
    by_cases q2 : i < 7 * (m + 1)
    · rw [if_pos q2, if_pos q2]
    · rw [if_neg q2, if_neg q2]
      by_cases q3 : 56 ≤ i ∧ i < 56 + m
      · rw [if_pos q3, if_pos (by omega)]
      · rw [if_neg q3, if_neg (by omega)]
theorem yF_0 : yF law md F 0 0 = F := by
  funext i
  rw [yF, if_neg (by omega), if_neg (by omega)]
theorem yF_end (h7 : n ≤ 7) : hA n (upd (yF law md F n (7 * n)) 63 (F 63 + 1)) (pYr law md F) := by
  refine ⟨fun m hm => ⟨fun v hv => ?_, ?_, ?_⟩, ?_⟩
  · rw [pYr_c (by omega) hv]
    simp only [upd, yF]
    rw [if_neg (by omega), if_pos (by omega), show (7 * m + v) / 7 = m by omega, show (7 * m + v) % 7 = v by omega]
  · rw [pYr_s (by omega)]
    simp only [upd, yF]
    rw [if_neg (by omega), if_neg (by omega), if_neg (by omega)]
  · rw [pYr_h (by omega)]
    simp only [upd, yF]
    rw [if_neg (by omega), if_neg (by omega), if_pos (by omega), show 56 + m - 56 = m by omega]
  · rw [pYr_y]
    exact u_at
end PY
section VY
variable {w : wW} {hc rc n m v : Nat} {law : Option (List qC)} {md : Int32} {F H : Nat → Int32}
theorem v_ask0 (h1 : hsOk hc rc) (h2 : w_rh w = hc) (h3 : lawV w law) (h5 : w_ar w rc 64 = md) (hm : m < 7) (hv : v < 7) {kd : Nat} (hk : kd ≤ 4) {d : Nat} (hd : 4 ≤ d) (x : zX) : ∃ x', hv_sem d 280 [.ref 10, .int (nI kd), .int (nI m), .int (nI v)] (wB (zT w x)) = some (some (.int (pT law md (w_ar w rc) kd m v)), wB (zT w x')) := by
  obtain ⟨E, s, t, dd, e⟩ := v_told h1 h2 h3 hm hv hk hd x.1 x.2.1 x.2.2.1 x.2.2.2
  refine ⟨(E, s, t, dd), ?_⟩
  rw [pT, ← h5]
  exact e
theorem lp_a1 {B : hv_M} {σ τ : hv_S} (h : B σ = some (.inl (1, τ))) : hv_lp B σ = hv_lp B τ := by
  rw [hv_lp_eq, h]
  rfl
set_option maxHeartbeats 1000000 in
theorem v_passV (h1 : hsOk hc rc) (h2 : w_rh w = hc) (h3 : lawV w law) (h5 : F 64 = md) (hm : m < 7) (hw : ∀ v, v < 7 → rg 99 (F (7 * m + v))) {d : Nat} (hd : 5 ≤ d) : ∀ k v, v + k = 7 → ∀ x l3 l4, ∃ x' l3' l4', hv_lp (hl_Rules_passYear_1 (hv_step hv_cm hv_vk hv_dv hv_ft 0 0 none (hv_sem d))) ([some (.ref 10), some (.int (nI m)), some (.int (nI v)), l3, l4], [], wB (zT (s_ar w rc (yF law md F m (7 * m + v))) x), 0, 0) = some (.inl (0, [some (.ref 10), some (.int (nI m)), some (.int (nI 7)), l3', l4'], [], wB (zT (s_ar w rc (yF law md F m (7 * (m + 1)))) x'), 0, 0)) := by
  obtain ⟨n9, n11⟩ := hs_ne h1
  intro k
  induction k with
  | zero =>
    intro v hv x l3 l4
    have hv7 : v = 7 := by omega
    subst hv7
    refine ⟨x, l3, l4, ?_⟩
    rw [hv_lp_eq, show 7 * m + 7 = 7 * (m + 1) by omega]
    simp -implicitDefEqProofs (disch := first | assumption | omega) [r_cons, r_nil, k_seq, k_blk, k_s0, k_s1, k_sr, k_sn, k_si, k_b0, k_b1, k_br, k_bn, k_bi, k_fr, k_fi, k_fn, k_l0, k_l1, k_l2, k_lr, k_ln, k_li, hv_nx, rc_none, hv_cmp, k_w0, k_wi, k_wr, k_wl, k_wn, k_wt, k_in0, k_ini, k_inr, k_inl, k_inn, k_int, k_nb0, k_nb1, k_nbi, k_ni, k_fi32, k_fb0, k_fb1, k_fbb, k_nbb, hv_st1, hv_st2, hv_k1, hv_ft, k_le, -Int32.not_lt, -Int32.not_le, gl_0, gl_1, gl_2, gl_3, gl_4, gl_5, gl_6, gl_7, gl_8, gl_9, gl_10, gl_11, gl_12, sl_0, sl_1, sl_2, sl_3, sl_4, sl_5, sl_6, sl_7, sl_8, sl_9, sl_10, sl_11, sl_12, st_iconst, st_bipush, st_ldc, st_aconst_null, st_iload, st_lload, st_aload, st_istore, st_astore, st_lstore, st_iinc, st_iadd, st_isub, st_imul, st_iand, st_ior, st_ishl, st_ishr, st_iushr, st_idiv, st_irem, st_ineg, st_ladd, st_lsub, st_lmul, st_ldiv, st_lrem, st_lcmp, st_i2l, st_l2i, st_i2b, st_dup, st_dup2, st_pop, st_goto, st_ifCond, st_if_icmp, st_ifnull, st_ifnonnull, st_tableswitch, st_iaload, st_baload, st_laload, st_aaload, st_iastore, st_bastore, st_lastore, st_aastore, st_arraylength, st_new, st_newarray, st_anewarray, st_invokespecial, st_invokestatic, st_swap, st_checkcast, st_invokeinterface, st_ireturn, st_lreturn, st_areturn, st_return_, nI_add, nI_1, nI_lits, nI_litr, nI_litm, nI_litn, pk_mul, a_clamp, a_subl, a_lsub, a_sub, a_lt, a_ltl, a_llt, a_eq, a_eql, a_leq, a_m1, a_m1r, a_neg, a_lt0, a_0lt, a_eq0, a_0eq, lg_cmp_gt, lg_cmp_lt, lg_cmp_eq, n_lt1, n_lt0, n_le1, n_le0, n_eq1, n_eq0, g_sc_sc, g_sc_ar, g_sc_sm, g_sc_rh, g_sc_rl, g_sc_la, g_sc_im, g_sc_dy, g_ar_sc, g_ar_ar, g_ar_sm, g_ar_rh, g_ar_rl, g_ar_la, g_ar_im, g_ar_dy, g_sm_sc, g_sm_ar, g_sm_sm, g_sm_rh, g_sm_rl, g_sm_la, g_sm_im, g_sm_dy, g_rh_sc, g_rh_ar, g_rh_sm, g_rh_rh, g_rh_rl, g_rh_la, g_rh_im, g_rh_dy, g_rl_sc, g_rl_ar, g_rl_sm, g_rl_rh, g_rl_rl, g_rl_la, g_rl_im, g_rl_dy, g_la_sc, g_la_ar, g_la_sm, g_la_rh, g_la_rl, g_la_la, g_la_im, g_la_dy, g_im_sc, g_im_ar, g_im_sm, g_im_rh, g_im_rl, g_im_la, g_im_im, g_im_dy, g_dy_sc, g_dy_ar, g_dy_sm, g_dy_rh, g_dy_rl, g_dy_la, g_dy_im, g_dy_dy, n_scsc, n_arar, n_scar, n_scS, n_arS, n_smsc, n_smar, n_smsm, n_rhsc, n_rhar, n_rhrh, n_rlsc, n_rlar, n_rlrl, n_lasc, n_laar, n_lala, n_imsc, n_imar, n_imim, n_dysc, n_dyar, n_dydy, hl_Rules_passYear_1, cm_213, vk_213, cm_216, vk_216, cm_217, vk_217, cm_218, vk_218, cm_221, vk_221, cm_225, vk_225, cm_226, vk_226, cm_280, vk_280, cm_301, vk_301, cm_302, vk_302, rc_0, rc_1, rc_2, wr_3, wr_4, wr_5, wr_6, wr_7, rc_8, wr_9, rc_10, wr_11, rc_12, wr_13, wr_14, wr_15, wr_16, wr_17, rc_18, rc_19, wr_20, rc_21, wr_22, wr_23, rc_24, rc_25, wr_26, wr_27, rc_28, wr_29, wr_30, rc_31, wr_32, wr_33, wr_34, rc_35, rc_36, wr_37, wr_38, wr_39, gf_0, gf_1, gf_2, gf_3, gf_4, gf_5, gf_6, gf_7, gf_8, gf_9, gf_10, gf_11, pf_11, gf_12, pf_12, gf_13, pf_13, gf_14, pf_14, gf_100, gf_101, gf_102, gf_103, gf_104, pf_104, gf_105, pf_105, gf_106, pf_106, gf_200, ww_3, ww_4, ww_5, ww_6, ww_7, gf_800, gf_801, pf_801, gf_802, pf_802, ww_9, gf_1000, gf_1001, gf_1002, pf_rh, gf_1003, pf_rl, pf_rn, ww_11, gf_1200, gf_1201, gf_1202, gf_1203, gf_1204, gf_1205, pf_1205, gf_1206, pf_1206, ww_13, ww_14, ww_15, ww_16, ww_17, gf_1800, gf_1801, gf_1802, gf_1803, gf_1804, gf_1805, pf_1805, gf_1900, ww_20, gf_2100, ww_22, ww_23, gf_2400, gf_2401, gf_2402, gf_2403, gf_2404, gf_2405, gf_2406, gf_2407, gf_2408, pf_2408, gf_2409, pf_2409, gf_2410, pf_2410, gf_2500, gf_2501, gf_2502, pf_2502, ww_26, ww_27, gf_2800, gf_2801, gf_2802, pf_2802, ww_29, ww_30, gf_3100, ww_32, ww_33, ww_34, gf_3500, gf_3501, gf_3502, pf_3502, gf_3503, pf_3503, gf_3504, pf_3504, gf_3505, pf_3505, gf_3506, pf_3506, gf_3507, pf_3507, gf_3508, pf_3508, gf_3600, gf_3601, gf_3602, pf_3602, gf_3603, pf_3603, ww_37, ww_38, ww_39, tyX3, tyX7]
  | succ k ih =>
    intro v hv x l3 l4
    have hv7 : v < 7 := by omega
    have y49 : yF law md F m (7 * m + v) (49 + m) = F (49 + m) := by
      simp only [yF]
      rw [if_neg (by omega), if_neg (by omega)]
    have y56 : yF law md F m (7 * m + v) (56 + m) = F (56 + m) := by
      simp only [yF]
      rw [if_neg (by omega), if_neg (by omega)]
    have y63 : yF law md F m (7 * m + v) 63 = F 63 := by
      simp only [yF]
      rw [if_neg (by omega), if_neg (by omega)]
    have y64 : yF law md F m (7 * m + v) 64 = md := by
      simp only [yF]
      rw [if_neg (by omega), if_neg (by omega), h5]
    have y7 : yF law md F m (7 * m + v) (7 * m + v) = F (7 * m + v) := by
      simp only [yF]
      rw [if_neg (by omega), if_neg (by omega)]
    have hst := yF_step (law := law) (md := md) (F := F) hm hv7
    have hpt : ∀ kd, pT law md (yF law md F m (7 * m + v)) kd m v = pT law md F kd m v := fun kd => pT_cg y7 y49 y56 y63
    have hask := fun kd (hkd : kd ≤ 4) => v_ask0 (w := s_ar w rc (yF law md F m (7 * m + v))) (law := law) (md := md) h1 h2 h3 (by rw [g_ar_ar, if_pos rfl]; exact y64) hm hv7 hkd (d := d) (by omega) x
    have hra := hw v hv7
    by_cases q : F (49 + m) = nI v
    · obtain ⟨x1, e1⟩ := hask 0 (by omega)
      rw [g_ar_ar, if_pos rfl, hpt, show nI 0 = 0 from rfl] at e1
      have e3 : pYc law md F m v = i_max 0 (F (7 * m + v) - pT law md F 0 m v) := if_pos q
      have e2 := (yr_f hra (pT_rg (law := law) (md := md) (kd := 0) hra)).trans e3.symm
      obtain ⟨x', l3', l4', e4⟩ := ih (v + 1) (by omega) x1 (some (.int 1)) (some (.int (F (7 * m + v) + -pT law md F 0 m v)))
      refine ⟨x', l3', l4', ?_⟩
      rw [lp_a1 (τ := ([some (.ref 10), some (.int (nI m)), some (.int (nI (v + 1))), some (.int 1), some (.int (F (7 * m + v) + -pT law md F 0 m v))], [], wB (zT (s_ar w rc (yF law md F m (7 * m + (v + 1)))) x1), 0, 0)) ?_]
      · exact e4
      · simp -implicitDefEqProofs (disch := first | assumption | omega) [r_cons, r_nil, k_seq, k_blk, k_s0, k_s1, k_sr, k_sn, k_si, k_b0, k_b1, k_br, k_bn, k_bi, k_fr, k_fi, k_fn, k_l0, k_l1, k_l2, k_lr, k_ln, k_li, hv_nx, rc_none, hv_cmp, k_w0, k_wi, k_wr, k_wl, k_wn, k_wt, k_in0, k_ini, k_inr, k_inl, k_inn, k_int, k_nb0, k_nb1, k_nbi, k_ni, k_fi32, k_fb0, k_fb1, k_fbb, k_nbb, hv_st1, hv_st2, hv_k1, hv_ft, k_le, -Int32.not_lt, -Int32.not_le, gl_0, gl_1, gl_2, gl_3, gl_4, gl_5, gl_6, gl_7, gl_8, gl_9, gl_10, gl_11, gl_12, sl_0, sl_1, sl_2, sl_3, sl_4, sl_5, sl_6, sl_7, sl_8, sl_9, sl_10, sl_11, sl_12, st_iconst, st_bipush, st_ldc, st_aconst_null, st_iload, st_lload, st_aload, st_istore, st_astore, st_lstore, st_iinc, st_iadd, st_isub, st_imul, st_iand, st_ior, st_ishl, st_ishr, st_iushr, st_idiv, st_irem, st_ineg, st_ladd, st_lsub, st_lmul, st_ldiv, st_lrem, st_lcmp, st_i2l, st_l2i, st_i2b, st_dup, st_dup2, st_pop, st_goto, st_ifCond, st_if_icmp, st_ifnull, st_ifnonnull, st_tableswitch, st_iaload, st_baload, st_laload, st_aaload, st_iastore, st_bastore, st_lastore, st_aastore, st_arraylength, st_new, st_newarray, st_anewarray, st_invokespecial, st_invokestatic, st_swap, st_checkcast, st_invokeinterface, st_ireturn, st_lreturn, st_areturn, st_return_, nI_add, nI_1, nI_lits, nI_litr, nI_litm, nI_litn, pk_mul, a_clamp, a_subl, a_lsub, a_sub, a_lt, a_ltl, a_llt, a_eq, a_eql, a_leq, a_m1, a_m1r, a_neg, a_lt0, a_0lt, a_eq0, a_0eq, lg_cmp_gt, lg_cmp_lt, lg_cmp_eq, n_lt1, n_lt0, n_le1, n_le0, n_eq1, n_eq0, g_sc_sc, g_sc_ar, g_sc_sm, g_sc_rh, g_sc_rl, g_sc_la, g_sc_im, g_sc_dy, g_ar_sc, g_ar_ar, g_ar_sm, g_ar_rh, g_ar_rl, g_ar_la, g_ar_im, g_ar_dy, g_sm_sc, g_sm_ar, g_sm_sm, g_sm_rh, g_sm_rl, g_sm_la, g_sm_im, g_sm_dy, g_rh_sc, g_rh_ar, g_rh_sm, g_rh_rh, g_rh_rl, g_rh_la, g_rh_im, g_rh_dy, g_rl_sc, g_rl_ar, g_rl_sm, g_rl_rh, g_rl_rl, g_rl_la, g_rl_im, g_rl_dy, g_la_sc, g_la_ar, g_la_sm, g_la_rh, g_la_rl, g_la_la, g_la_im, g_la_dy, g_im_sc, g_im_ar, g_im_sm, g_im_rh, g_im_rl, g_im_la, g_im_im, g_im_dy, g_dy_sc, g_dy_ar, g_dy_sm, g_dy_rh, g_dy_rl, g_dy_la, g_dy_im, g_dy_dy, n_scsc, n_arar, n_scar, n_scS, n_arS, n_smsc, n_smar, n_smsm, n_rhsc, n_rhar, n_rhrh, n_rlsc, n_rlar, n_rlrl, n_lasc, n_laar, n_lala, n_imsc, n_imar, n_imim, n_dysc, n_dyar, n_dydy, hl_Rules_passYear_1, cm_213, vk_213, cm_216, vk_216, cm_217, vk_217, cm_218, vk_218, cm_221, vk_221, cm_225, vk_225, cm_226, vk_226, cm_280, vk_280, cm_301, vk_301, cm_302, vk_302, rc_0, rc_1, rc_2, wr_3, wr_4, wr_5, wr_6, wr_7, rc_8, wr_9, rc_10, wr_11, rc_12, wr_13, wr_14, wr_15, wr_16, wr_17, rc_18, rc_19, wr_20, rc_21, wr_22, wr_23, rc_24, rc_25, wr_26, wr_27, rc_28, wr_29, wr_30, rc_31, wr_32, wr_33, wr_34, rc_35, rc_36, wr_37, wr_38, wr_39, gf_0, gf_1, gf_2, gf_3, gf_4, gf_5, gf_6, gf_7, gf_8, gf_9, gf_10, gf_11, pf_11, gf_12, pf_12, gf_13, pf_13, gf_14, pf_14, gf_100, gf_101, gf_102, gf_103, gf_104, pf_104, gf_105, pf_105, gf_106, pf_106, gf_200, ww_3, ww_4, ww_5, ww_6, ww_7, gf_800, gf_801, pf_801, gf_802, pf_802, ww_9, gf_1000, gf_1001, gf_1002, pf_rh, gf_1003, pf_rl, pf_rn, ww_11, gf_1200, gf_1201, gf_1202, gf_1203, gf_1204, gf_1205, pf_1205, gf_1206, pf_1206, ww_13, ww_14, ww_15, ww_16, ww_17, gf_1800, gf_1801, gf_1802, gf_1803, gf_1804, gf_1805, pf_1805, gf_1900, ww_20, gf_2100, ww_22, ww_23, gf_2400, gf_2401, gf_2402, gf_2403, gf_2404, gf_2405, gf_2406, gf_2407, gf_2408, pf_2408, gf_2409, pf_2409, gf_2410, pf_2410, gf_2500, gf_2501, gf_2502, pf_2502, ww_26, ww_27, gf_2800, gf_2801, gf_2802, pf_2802, ww_29, ww_30, gf_3100, ww_32, ww_33, ww_34, gf_3500, gf_3501, gf_3502, pf_3502, gf_3503, pf_3503, gf_3504, pf_3504, gf_3505, pf_3505, gf_3506, pf_3506, gf_3507, pf_3507, gf_3508, pf_3508, gf_3600, gf_3601, gf_3602, pf_3602, gf_3603, pf_3603, ww_37, ww_38, ww_39, tyX3, tyX7, zt_rh, h2, hs_rc h1, hs_vowOf h1, hs_hardOf h1, hs_setHard h1, zt_ar, zt_oar, n9, n11, y49, y7, q, e1, t_min, t_max, e2, hst]
    · obtain ⟨x1, e1⟩ := hask 1 (by omega)
      rw [g_ar_ar, if_pos rfl, hpt, show nI 1 = 1 from rfl] at e1
      have e3 : pYc law md F m v = i_min 99 (F (7 * m + v) + pT law md F 1 m v) := if_neg q
      have e2 := (yr_r hra (pT_rg (law := law) (md := md) (kd := 1) hra)).trans e3.symm
      obtain ⟨x', l3', l4', e4⟩ := ih (v + 1) (by omega) x1 (some (.int 0)) (some (.int (F (7 * m + v) + pT law md F 1 m v)))
      refine ⟨x', l3', l4', ?_⟩
      rw [lp_a1 (τ := ([some (.ref 10), some (.int (nI m)), some (.int (nI (v + 1))), some (.int 0), some (.int (F (7 * m + v) + pT law md F 1 m v))], [], wB (zT (s_ar w rc (yF law md F m (7 * m + (v + 1)))) x1), 0, 0)) ?_]
      · exact e4
      · simp -implicitDefEqProofs (disch := first | assumption | omega) [r_cons, r_nil, k_seq, k_blk, k_s0, k_s1, k_sr, k_sn, k_si, k_b0, k_b1, k_br, k_bn, k_bi, k_fr, k_fi, k_fn, k_l0, k_l1, k_l2, k_lr, k_ln, k_li, hv_nx, rc_none, hv_cmp, k_w0, k_wi, k_wr, k_wl, k_wn, k_wt, k_in0, k_ini, k_inr, k_inl, k_inn, k_int, k_nb0, k_nb1, k_nbi, k_ni, k_fi32, k_fb0, k_fb1, k_fbb, k_nbb, hv_st1, hv_st2, hv_k1, hv_ft, k_le, -Int32.not_lt, -Int32.not_le, gl_0, gl_1, gl_2, gl_3, gl_4, gl_5, gl_6, gl_7, gl_8, gl_9, gl_10, gl_11, gl_12, sl_0, sl_1, sl_2, sl_3, sl_4, sl_5, sl_6, sl_7, sl_8, sl_9, sl_10, sl_11, sl_12, st_iconst, st_bipush, st_ldc, st_aconst_null, st_iload, st_lload, st_aload, st_istore, st_astore, st_lstore, st_iinc, st_iadd, st_isub, st_imul, st_iand, st_ior, st_ishl, st_ishr, st_iushr, st_idiv, st_irem, st_ineg, st_ladd, st_lsub, st_lmul, st_ldiv, st_lrem, st_lcmp, st_i2l, st_l2i, st_i2b, st_dup, st_dup2, st_pop, st_goto, st_ifCond, st_if_icmp, st_ifnull, st_ifnonnull, st_tableswitch, st_iaload, st_baload, st_laload, st_aaload, st_iastore, st_bastore, st_lastore, st_aastore, st_arraylength, st_new, st_newarray, st_anewarray, st_invokespecial, st_invokestatic, st_swap, st_checkcast, st_invokeinterface, st_ireturn, st_lreturn, st_areturn, st_return_, nI_add, nI_1, nI_lits, nI_litr, nI_litm, nI_litn, pk_mul, a_clamp, a_subl, a_lsub, a_sub, a_lt, a_ltl, a_llt, a_eq, a_eql, a_leq, a_m1, a_m1r, a_neg, a_lt0, a_0lt, a_eq0, a_0eq, lg_cmp_gt, lg_cmp_lt, lg_cmp_eq, n_lt1, n_lt0, n_le1, n_le0, n_eq1, n_eq0, g_sc_sc, g_sc_ar, g_sc_sm, g_sc_rh, g_sc_rl, g_sc_la, g_sc_im, g_sc_dy, g_ar_sc, g_ar_ar, g_ar_sm, g_ar_rh, g_ar_rl, g_ar_la, g_ar_im, g_ar_dy, g_sm_sc, g_sm_ar, g_sm_sm, g_sm_rh, g_sm_rl, g_sm_la, g_sm_im, g_sm_dy, g_rh_sc, g_rh_ar, g_rh_sm, g_rh_rh, g_rh_rl, g_rh_la, g_rh_im, g_rh_dy, g_rl_sc, g_rl_ar, g_rl_sm, g_rl_rh, g_rl_rl, g_rl_la, g_rl_im, g_rl_dy, g_la_sc, g_la_ar, g_la_sm, g_la_rh, g_la_rl, g_la_la, g_la_im, g_la_dy, g_im_sc, g_im_ar, g_im_sm, g_im_rh, g_im_rl, g_im_la, g_im_im, g_im_dy, g_dy_sc, g_dy_ar, g_dy_sm, g_dy_rh, g_dy_rl, g_dy_la, g_dy_im, g_dy_dy, n_scsc, n_arar, n_scar, n_scS, n_arS, n_smsc, n_smar, n_smsm, n_rhsc, n_rhar, n_rhrh, n_rlsc, n_rlar, n_rlrl, n_lasc, n_laar, n_lala, n_imsc, n_imar, n_imim, n_dysc, n_dyar, n_dydy, hl_Rules_passYear_1, cm_213, vk_213, cm_216, vk_216, cm_217, vk_217, cm_218, vk_218, cm_221, vk_221, cm_225, vk_225, cm_226, vk_226, cm_280, vk_280, cm_301, vk_301, cm_302, vk_302, rc_0, rc_1, rc_2, wr_3, wr_4, wr_5, wr_6, wr_7, rc_8, wr_9, rc_10, wr_11, rc_12, wr_13, wr_14, wr_15, wr_16, wr_17, rc_18, rc_19, wr_20, rc_21, wr_22, wr_23, rc_24, rc_25, wr_26, wr_27, rc_28, wr_29, wr_30, rc_31, wr_32, wr_33, wr_34, rc_35, rc_36, wr_37, wr_38, wr_39, gf_0, gf_1, gf_2, gf_3, gf_4, gf_5, gf_6, gf_7, gf_8, gf_9, gf_10, gf_11, pf_11, gf_12, pf_12, gf_13, pf_13, gf_14, pf_14, gf_100, gf_101, gf_102, gf_103, gf_104, pf_104, gf_105, pf_105, gf_106, pf_106, gf_200, ww_3, ww_4, ww_5, ww_6, ww_7, gf_800, gf_801, pf_801, gf_802, pf_802, ww_9, gf_1000, gf_1001, gf_1002, pf_rh, gf_1003, pf_rl, pf_rn, ww_11, gf_1200, gf_1201, gf_1202, gf_1203, gf_1204, gf_1205, pf_1205, gf_1206, pf_1206, ww_13, ww_14, ww_15, ww_16, ww_17, gf_1800, gf_1801, gf_1802, gf_1803, gf_1804, gf_1805, pf_1805, gf_1900, ww_20, gf_2100, ww_22, ww_23, gf_2400, gf_2401, gf_2402, gf_2403, gf_2404, gf_2405, gf_2406, gf_2407, gf_2408, pf_2408, gf_2409, pf_2409, gf_2410, pf_2410, gf_2500, gf_2501, gf_2502, pf_2502, ww_26, ww_27, gf_2800, gf_2801, gf_2802, pf_2802, ww_29, ww_30, gf_3100, ww_32, ww_33, ww_34, gf_3500, gf_3501, gf_3502, pf_3502, gf_3503, pf_3503, gf_3504, pf_3504, gf_3505, pf_3505, gf_3506, pf_3506, gf_3507, pf_3507, gf_3508, pf_3508, gf_3600, gf_3601, gf_3602, pf_3602, gf_3603, pf_3603, ww_37, ww_38, ww_39, tyX3, tyX7, zt_rh, h2, hs_rc h1, hs_vowOf h1, hs_hardOf h1, hs_setHard h1, zt_ar, zt_oar, n9, n11, y49, y7, q, e1, t_min, t_max, e2, hst]
set_option maxHeartbeats 1000000 in
theorem v_passM (h1 : hsOk hc rc) (h2 : w_rh w = hc) (h3 : lawV w law) (h5 : F 64 = md) (h6 : F 65 = nI n) (h7 : n ≤ 7) (hw : hWf n F) {d : Nat} (hd : 5 ≤ d) : ∀ k m, m + k = n → ∀ x l2 l3 l4, ∃ x' l2' l3' l4', hv_lp (hl_Rules_passYear_0 (hv_step hv_cm hv_vk hv_dv hv_ft 0 0 none (hv_sem d))) ([some (.ref 10), some (.int (nI m)), l2, l3, l4], [], wB (zT (s_ar w rc (yF law md F m (7 * m))) x), 0, 0) = some (.inl (0, [some (.ref 10), some (.int (nI n)), l2', l3', l4'], [], wB (zT (s_ar w rc (yF law md F n (7 * n))) x'), 0, 0)) := by
  obtain ⟨n9, n11⟩ := hs_ne h1
  intro k
  induction k with
  | zero =>
    intro m hm x l2 l3 l4
    rw [Nat.add_zero] at hm
    subst hm
    have y65 : yF law md F m (7 * m) 65 = nI m := by
      simp only [yF]
      rw [if_neg (by omega), if_neg (by omega), h6]
    refine ⟨x, l2, l3, l4, ?_⟩
    rw [hv_lp_eq]
    simp -implicitDefEqProofs (disch := first | assumption | omega) [r_cons, r_nil, k_seq, k_blk, k_s0, k_s1, k_sr, k_sn, k_si, k_b0, k_b1, k_br, k_bn, k_bi, k_fr, k_fi, k_fn, k_l0, k_l1, k_l2, k_lr, k_ln, k_li, hv_nx, rc_none, hv_cmp, k_w0, k_wi, k_wr, k_wl, k_wn, k_wt, k_in0, k_ini, k_inr, k_inl, k_inn, k_int, k_nb0, k_nb1, k_nbi, k_ni, k_fi32, k_fb0, k_fb1, k_fbb, k_nbb, hv_st1, hv_st2, hv_k1, hv_ft, k_le, -Int32.not_lt, -Int32.not_le, gl_0, gl_1, gl_2, gl_3, gl_4, gl_5, gl_6, gl_7, gl_8, gl_9, gl_10, gl_11, gl_12, sl_0, sl_1, sl_2, sl_3, sl_4, sl_5, sl_6, sl_7, sl_8, sl_9, sl_10, sl_11, sl_12, st_iconst, st_bipush, st_ldc, st_aconst_null, st_iload, st_lload, st_aload, st_istore, st_astore, st_lstore, st_iinc, st_iadd, st_isub, st_imul, st_iand, st_ior, st_ishl, st_ishr, st_iushr, st_idiv, st_irem, st_ineg, st_ladd, st_lsub, st_lmul, st_ldiv, st_lrem, st_lcmp, st_i2l, st_l2i, st_i2b, st_dup, st_dup2, st_pop, st_goto, st_ifCond, st_if_icmp, st_ifnull, st_ifnonnull, st_tableswitch, st_iaload, st_baload, st_laload, st_aaload, st_iastore, st_bastore, st_lastore, st_aastore, st_arraylength, st_new, st_newarray, st_anewarray, st_invokespecial, st_invokestatic, st_swap, st_checkcast, st_invokeinterface, st_ireturn, st_lreturn, st_areturn, st_return_, nI_add, nI_1, nI_lits, nI_litr, nI_litm, nI_litn, pk_mul, a_clamp, a_subl, a_lsub, a_sub, a_lt, a_ltl, a_llt, a_eq, a_eql, a_leq, a_m1, a_m1r, a_neg, a_lt0, a_0lt, a_eq0, a_0eq, lg_cmp_gt, lg_cmp_lt, lg_cmp_eq, n_lt1, n_lt0, n_le1, n_le0, n_eq1, n_eq0, g_sc_sc, g_sc_ar, g_sc_sm, g_sc_rh, g_sc_rl, g_sc_la, g_sc_im, g_sc_dy, g_ar_sc, g_ar_ar, g_ar_sm, g_ar_rh, g_ar_rl, g_ar_la, g_ar_im, g_ar_dy, g_sm_sc, g_sm_ar, g_sm_sm, g_sm_rh, g_sm_rl, g_sm_la, g_sm_im, g_sm_dy, g_rh_sc, g_rh_ar, g_rh_sm, g_rh_rh, g_rh_rl, g_rh_la, g_rh_im, g_rh_dy, g_rl_sc, g_rl_ar, g_rl_sm, g_rl_rh, g_rl_rl, g_rl_la, g_rl_im, g_rl_dy, g_la_sc, g_la_ar, g_la_sm, g_la_rh, g_la_rl, g_la_la, g_la_im, g_la_dy, g_im_sc, g_im_ar, g_im_sm, g_im_rh, g_im_rl, g_im_la, g_im_im, g_im_dy, g_dy_sc, g_dy_ar, g_dy_sm, g_dy_rh, g_dy_rl, g_dy_la, g_dy_im, g_dy_dy, n_scsc, n_arar, n_scar, n_scS, n_arS, n_smsc, n_smar, n_smsm, n_rhsc, n_rhar, n_rhrh, n_rlsc, n_rlar, n_rlrl, n_lasc, n_laar, n_lala, n_imsc, n_imar, n_imim, n_dysc, n_dyar, n_dydy, hl_Rules_passYear_0, cm_213, vk_213, cm_216, vk_216, cm_217, vk_217, cm_218, vk_218, cm_221, vk_221, cm_225, vk_225, cm_226, vk_226, cm_280, vk_280, cm_301, vk_301, cm_302, vk_302, rc_0, rc_1, rc_2, wr_3, wr_4, wr_5, wr_6, wr_7, rc_8, wr_9, rc_10, wr_11, rc_12, wr_13, wr_14, wr_15, wr_16, wr_17, rc_18, rc_19, wr_20, rc_21, wr_22, wr_23, rc_24, rc_25, wr_26, wr_27, rc_28, wr_29, wr_30, rc_31, wr_32, wr_33, wr_34, rc_35, rc_36, wr_37, wr_38, wr_39, gf_0, gf_1, gf_2, gf_3, gf_4, gf_5, gf_6, gf_7, gf_8, gf_9, gf_10, gf_11, pf_11, gf_12, pf_12, gf_13, pf_13, gf_14, pf_14, gf_100, gf_101, gf_102, gf_103, gf_104, pf_104, gf_105, pf_105, gf_106, pf_106, gf_200, ww_3, ww_4, ww_5, ww_6, ww_7, gf_800, gf_801, pf_801, gf_802, pf_802, ww_9, gf_1000, gf_1001, gf_1002, pf_rh, gf_1003, pf_rl, pf_rn, ww_11, gf_1200, gf_1201, gf_1202, gf_1203, gf_1204, gf_1205, pf_1205, gf_1206, pf_1206, ww_13, ww_14, ww_15, ww_16, ww_17, gf_1800, gf_1801, gf_1802, gf_1803, gf_1804, gf_1805, pf_1805, gf_1900, ww_20, gf_2100, ww_22, ww_23, gf_2400, gf_2401, gf_2402, gf_2403, gf_2404, gf_2405, gf_2406, gf_2407, gf_2408, pf_2408, gf_2409, pf_2409, gf_2410, pf_2410, gf_2500, gf_2501, gf_2502, pf_2502, ww_26, ww_27, gf_2800, gf_2801, gf_2802, pf_2802, ww_29, ww_30, gf_3100, ww_32, ww_33, ww_34, gf_3500, gf_3501, gf_3502, pf_3502, gf_3503, pf_3503, gf_3504, pf_3504, gf_3505, pf_3505, gf_3506, pf_3506, gf_3507, pf_3507, gf_3508, pf_3508, gf_3600, gf_3601, gf_3602, pf_3602, gf_3603, pf_3603, ww_37, ww_38, ww_39, tyX3, tyX7, zt_rh, h2, hs_rc h1, hs_monks h1, zt_ar, n9, n11, y65]
  | succ k ih =>
    intro m hm x l2 l3 l4
    have hmn : m < n := by omega
    have y65 : ∀ c, c ≤ 49 → yF law md F m c 65 = nI n := by
      intro c hc49
      simp only [yF]
      rw [if_neg (by omega), if_neg (by omega), h6]
    have y65a := y65 (7 * m) (by omega)
    have y49 : yF law md F m (7 * (m + 1)) (49 + m) = F (49 + m) := by
      simp only [yF]
      rw [if_neg (by omega), if_neg (by omega)]
    have y56 : yF law md F m (7 * (m + 1)) (56 + m) = F (56 + m) := by
      simp only [yF]
      rw [if_neg (by omega), if_neg (by omega)]
    obtain ⟨x1, l3', l4', e1⟩ := v_passV (F := F) h1 h2 h3 h5 (show m < 7 by omega) (hw m hmn).1 hd 7 0 (by omega) x l3 l4
    rw [show nI 0 = 0 from rfl, show 7 * m + 0 = 7 * m from rfl] at e1
    obtain ⟨x', l2'', l3'', l4'', e4⟩ := ih (m + 1) (by omega) x1 (some (.int (nI 7))) l3' l4'
    refine ⟨x', l2'', l3'', l4'', ?_⟩
    have hho := yF_hold (law := law) (md := md) (F := F) (m := m) (by omega)
    rw [lp_a1 (τ := ([some (.ref 10), some (.int (nI (m + 1))), some (.int (nI 7)), l3', l4'], [], wB (zT (s_ar w rc (yF law md F (m + 1) (7 * (m + 1)))) x1), 0, 0)) ?_]
    · exact e4
    · rcases (hw m hmn).2 with ⟨q, q2⟩ | ⟨⟨v, hv, q⟩, q2⟩
      · have hsame : upd (yF law md F m (7 * (m + 1))) (56 + m) (pYh F m) = yF law md F m (7 * (m + 1)) := by
          funext i
          simp only [upd]
          split
          · rename_i z
            rw [z, y56, pYh, if_pos q, q2]
          · rfl
        rw [← hho, hsame]
        simp -implicitDefEqProofs (disch := first | assumption | omega) [r_cons, r_nil, k_seq, k_blk, k_s0, k_s1, k_sr, k_sn, k_si, k_b0, k_b1, k_br, k_bn, k_bi, k_fr, k_fi, k_fn, k_l0, k_l1, k_l2, k_lr, k_ln, k_li, hv_nx, rc_none, hv_cmp, k_w0, k_wi, k_wr, k_wl, k_wn, k_wt, k_in0, k_ini, k_inr, k_inl, k_inn, k_int, k_nb0, k_nb1, k_nbi, k_ni, k_fi32, k_fb0, k_fb1, k_fbb, k_nbb, hv_st1, hv_st2, hv_k1, hv_ft, k_le, -Int32.not_lt, -Int32.not_le, gl_0, gl_1, gl_2, gl_3, gl_4, gl_5, gl_6, gl_7, gl_8, gl_9, gl_10, gl_11, gl_12, sl_0, sl_1, sl_2, sl_3, sl_4, sl_5, sl_6, sl_7, sl_8, sl_9, sl_10, sl_11, sl_12, st_iconst, st_bipush, st_ldc, st_aconst_null, st_iload, st_lload, st_aload, st_istore, st_astore, st_lstore, st_iinc, st_iadd, st_isub, st_imul, st_iand, st_ior, st_ishl, st_ishr, st_iushr, st_idiv, st_irem, st_ineg, st_ladd, st_lsub, st_lmul, st_ldiv, st_lrem, st_lcmp, st_i2l, st_l2i, st_i2b, st_dup, st_dup2, st_pop, st_goto, st_ifCond, st_if_icmp, st_ifnull, st_ifnonnull, st_tableswitch, st_iaload, st_baload, st_laload, st_aaload, st_iastore, st_bastore, st_lastore, st_aastore, st_arraylength, st_new, st_newarray, st_anewarray, st_invokespecial, st_invokestatic, st_swap, st_checkcast, st_invokeinterface, st_ireturn, st_lreturn, st_areturn, st_return_, nI_add, nI_1, nI_lits, nI_litr, nI_litm, nI_litn, pk_mul, a_clamp, a_subl, a_lsub, a_sub, a_lt, a_ltl, a_llt, a_eq, a_eql, a_leq, a_m1, a_m1r, a_neg, a_lt0, a_0lt, a_eq0, a_0eq, lg_cmp_gt, lg_cmp_lt, lg_cmp_eq, n_lt1, n_lt0, n_le1, n_le0, n_eq1, n_eq0, g_sc_sc, g_sc_ar, g_sc_sm, g_sc_rh, g_sc_rl, g_sc_la, g_sc_im, g_sc_dy, g_ar_sc, g_ar_ar, g_ar_sm, g_ar_rh, g_ar_rl, g_ar_la, g_ar_im, g_ar_dy, g_sm_sc, g_sm_ar, g_sm_sm, g_sm_rh, g_sm_rl, g_sm_la, g_sm_im, g_sm_dy, g_rh_sc, g_rh_ar, g_rh_sm, g_rh_rh, g_rh_rl, g_rh_la, g_rh_im, g_rh_dy, g_rl_sc, g_rl_ar, g_rl_sm, g_rl_rh, g_rl_rl, g_rl_la, g_rl_im, g_rl_dy, g_la_sc, g_la_ar, g_la_sm, g_la_rh, g_la_rl, g_la_la, g_la_im, g_la_dy, g_im_sc, g_im_ar, g_im_sm, g_im_rh, g_im_rl, g_im_la, g_im_im, g_im_dy, g_dy_sc, g_dy_ar, g_dy_sm, g_dy_rh, g_dy_rl, g_dy_la, g_dy_im, g_dy_dy, n_scsc, n_arar, n_scar, n_scS, n_arS, n_smsc, n_smar, n_smsm, n_rhsc, n_rhar, n_rhrh, n_rlsc, n_rlar, n_rlrl, n_lasc, n_laar, n_lala, n_imsc, n_imar, n_imim, n_dysc, n_dyar, n_dydy, hl_Rules_passYear_0, cm_213, vk_213, cm_216, vk_216, cm_217, vk_217, cm_218, vk_218, cm_221, vk_221, cm_225, vk_225, cm_226, vk_226, cm_280, vk_280, cm_301, vk_301, cm_302, vk_302, rc_0, rc_1, rc_2, wr_3, wr_4, wr_5, wr_6, wr_7, rc_8, wr_9, rc_10, wr_11, rc_12, wr_13, wr_14, wr_15, wr_16, wr_17, rc_18, rc_19, wr_20, rc_21, wr_22, wr_23, rc_24, rc_25, wr_26, wr_27, rc_28, wr_29, wr_30, rc_31, wr_32, wr_33, wr_34, rc_35, rc_36, wr_37, wr_38, wr_39, gf_0, gf_1, gf_2, gf_3, gf_4, gf_5, gf_6, gf_7, gf_8, gf_9, gf_10, gf_11, pf_11, gf_12, pf_12, gf_13, pf_13, gf_14, pf_14, gf_100, gf_101, gf_102, gf_103, gf_104, pf_104, gf_105, pf_105, gf_106, pf_106, gf_200, ww_3, ww_4, ww_5, ww_6, ww_7, gf_800, gf_801, pf_801, gf_802, pf_802, ww_9, gf_1000, gf_1001, gf_1002, pf_rh, gf_1003, pf_rl, pf_rn, ww_11, gf_1200, gf_1201, gf_1202, gf_1203, gf_1204, gf_1205, pf_1205, gf_1206, pf_1206, ww_13, ww_14, ww_15, ww_16, ww_17, gf_1800, gf_1801, gf_1802, gf_1803, gf_1804, gf_1805, pf_1805, gf_1900, ww_20, gf_2100, ww_22, ww_23, gf_2400, gf_2401, gf_2402, gf_2403, gf_2404, gf_2405, gf_2406, gf_2407, gf_2408, pf_2408, gf_2409, pf_2409, gf_2410, pf_2410, gf_2500, gf_2501, gf_2502, pf_2502, ww_26, ww_27, gf_2800, gf_2801, gf_2802, pf_2802, ww_29, ww_30, gf_3100, ww_32, ww_33, ww_34, gf_3500, gf_3501, gf_3502, pf_3502, gf_3503, pf_3503, gf_3504, pf_3504, gf_3505, pf_3505, gf_3506, pf_3506, gf_3507, pf_3507, gf_3508, pf_3508, gf_3600, gf_3601, gf_3602, pf_3602, gf_3603, pf_3603, ww_37, ww_38, ww_39, tyX3, tyX7, zt_rh, h2, hs_rc h1, hs_monks h1, hs_vowOf h1, zt_ar, n9, n11, y65a, e1, y49, q]
      · have e5 : pYh F m = i_min 99 (F (56 + m) + 1) := by rw [pYh, q, if_neg (fun z => m1_ne (by omega) z.symm)]
        rw [e5] at hho
        simp -implicitDefEqProofs (disch := first | assumption | omega) [r_cons, r_nil, k_seq, k_blk, k_s0, k_s1, k_sr, k_sn, k_si, k_b0, k_b1, k_br, k_bn, k_bi, k_fr, k_fi, k_fn, k_l0, k_l1, k_l2, k_lr, k_ln, k_li, hv_nx, rc_none, hv_cmp, k_w0, k_wi, k_wr, k_wl, k_wn, k_wt, k_in0, k_ini, k_inr, k_inl, k_inn, k_int, k_nb0, k_nb1, k_nbi, k_ni, k_fi32, k_fb0, k_fb1, k_fbb, k_nbb, hv_st1, hv_st2, hv_k1, hv_ft, k_le, -Int32.not_lt, -Int32.not_le, gl_0, gl_1, gl_2, gl_3, gl_4, gl_5, gl_6, gl_7, gl_8, gl_9, gl_10, gl_11, gl_12, sl_0, sl_1, sl_2, sl_3, sl_4, sl_5, sl_6, sl_7, sl_8, sl_9, sl_10, sl_11, sl_12, st_iconst, st_bipush, st_ldc, st_aconst_null, st_iload, st_lload, st_aload, st_istore, st_astore, st_lstore, st_iinc, st_iadd, st_isub, st_imul, st_iand, st_ior, st_ishl, st_ishr, st_iushr, st_idiv, st_irem, st_ineg, st_ladd, st_lsub, st_lmul, st_ldiv, st_lrem, st_lcmp, st_i2l, st_l2i, st_i2b, st_dup, st_dup2, st_pop, st_goto, st_ifCond, st_if_icmp, st_ifnull, st_ifnonnull, st_tableswitch, st_iaload, st_baload, st_laload, st_aaload, st_iastore, st_bastore, st_lastore, st_aastore, st_arraylength, st_new, st_newarray, st_anewarray, st_invokespecial, st_invokestatic, st_swap, st_checkcast, st_invokeinterface, st_ireturn, st_lreturn, st_areturn, st_return_, nI_add, nI_1, nI_lits, nI_litr, nI_litm, nI_litn, pk_mul, a_clamp, a_subl, a_lsub, a_sub, a_lt, a_ltl, a_llt, a_eq, a_eql, a_leq, a_m1, a_m1r, a_neg, a_lt0, a_0lt, a_eq0, a_0eq, lg_cmp_gt, lg_cmp_lt, lg_cmp_eq, n_lt1, n_lt0, n_le1, n_le0, n_eq1, n_eq0, g_sc_sc, g_sc_ar, g_sc_sm, g_sc_rh, g_sc_rl, g_sc_la, g_sc_im, g_sc_dy, g_ar_sc, g_ar_ar, g_ar_sm, g_ar_rh, g_ar_rl, g_ar_la, g_ar_im, g_ar_dy, g_sm_sc, g_sm_ar, g_sm_sm, g_sm_rh, g_sm_rl, g_sm_la, g_sm_im, g_sm_dy, g_rh_sc, g_rh_ar, g_rh_sm, g_rh_rh, g_rh_rl, g_rh_la, g_rh_im, g_rh_dy, g_rl_sc, g_rl_ar, g_rl_sm, g_rl_rh, g_rl_rl, g_rl_la, g_rl_im, g_rl_dy, g_la_sc, g_la_ar, g_la_sm, g_la_rh, g_la_rl, g_la_la, g_la_im, g_la_dy, g_im_sc, g_im_ar, g_im_sm, g_im_rh, g_im_rl, g_im_la, g_im_im, g_im_dy, g_dy_sc, g_dy_ar, g_dy_sm, g_dy_rh, g_dy_rl, g_dy_la, g_dy_im, g_dy_dy, n_scsc, n_arar, n_scar, n_scS, n_arS, n_smsc, n_smar, n_smsm, n_rhsc, n_rhar, n_rhrh, n_rlsc, n_rlar, n_rlrl, n_lasc, n_laar, n_lala, n_imsc, n_imar, n_imim, n_dysc, n_dyar, n_dydy, hl_Rules_passYear_0, cm_213, vk_213, cm_216, vk_216, cm_217, vk_217, cm_218, vk_218, cm_221, vk_221, cm_225, vk_225, cm_226, vk_226, cm_280, vk_280, cm_301, vk_301, cm_302, vk_302, rc_0, rc_1, rc_2, wr_3, wr_4, wr_5, wr_6, wr_7, rc_8, wr_9, rc_10, wr_11, rc_12, wr_13, wr_14, wr_15, wr_16, wr_17, rc_18, rc_19, wr_20, rc_21, wr_22, wr_23, rc_24, rc_25, wr_26, wr_27, rc_28, wr_29, wr_30, rc_31, wr_32, wr_33, wr_34, rc_35, rc_36, wr_37, wr_38, wr_39, gf_0, gf_1, gf_2, gf_3, gf_4, gf_5, gf_6, gf_7, gf_8, gf_9, gf_10, gf_11, pf_11, gf_12, pf_12, gf_13, pf_13, gf_14, pf_14, gf_100, gf_101, gf_102, gf_103, gf_104, pf_104, gf_105, pf_105, gf_106, pf_106, gf_200, ww_3, ww_4, ww_5, ww_6, ww_7, gf_800, gf_801, pf_801, gf_802, pf_802, ww_9, gf_1000, gf_1001, gf_1002, pf_rh, gf_1003, pf_rl, pf_rn, ww_11, gf_1200, gf_1201, gf_1202, gf_1203, gf_1204, gf_1205, pf_1205, gf_1206, pf_1206, ww_13, ww_14, ww_15, ww_16, ww_17, gf_1800, gf_1801, gf_1802, gf_1803, gf_1804, gf_1805, pf_1805, gf_1900, ww_20, gf_2100, ww_22, ww_23, gf_2400, gf_2401, gf_2402, gf_2403, gf_2404, gf_2405, gf_2406, gf_2407, gf_2408, pf_2408, gf_2409, pf_2409, gf_2410, pf_2410, gf_2500, gf_2501, gf_2502, pf_2502, ww_26, ww_27, gf_2800, gf_2801, gf_2802, pf_2802, ww_29, ww_30, gf_3100, ww_32, ww_33, ww_34, gf_3500, gf_3501, gf_3502, pf_3502, gf_3503, pf_3503, gf_3504, pf_3504, gf_3505, pf_3505, gf_3506, pf_3506, gf_3507, pf_3507, gf_3508, pf_3508, gf_3600, gf_3601, gf_3602, pf_3602, gf_3603, pf_3603, ww_37, ww_38, ww_39, tyX3, tyX7, zt_rh, h2, hs_rc h1, hs_monks h1, hs_vowOf h1, hs_hold h1, zt_ar, zt_oar, n9, n11, y65a, e1, y49, y56, q, hho]
theorem v_passYear (h1 : hsOk hc rc) (h2 : w_rh w = hc) (h3 : lawV w law) (h5 : w_ar w rc 64 = md) (h6 : w_ar w rc 65 = nI n) (h7 : n ≤ 7) (hw : hWf n (w_ar w rc)) {d : Nat} (hd : 6 ≤ d) (x : zX) : ∃ x' G, hv_sem d 286 [.ref 10] (wB (zT w x)) = some (none, wB (zT (s_ar w rc G) x')) ∧ hA n G (pYr law md (w_ar w rc)) ∧ G 64 = md ∧ G 65 = nI n := by
  obtain ⟨d, rfl⟩ : ∃ e, d = e + 1 := ⟨d - 1, by omega⟩
  obtain ⟨n9, n11⟩ := hs_ne h1
  obtain ⟨x', l2, l3, l4, e1⟩ := v_passM (F := w_ar w rc) h1 h2 h3 h5 h6 h7 hw (d := d) (by omega) n 0 (by omega) x none none none
  rw [show nI 0 = 0 from rfl, show 7 * 0 = 0 from rfl, yF_0, n_arE] at e1
  have y63 : yF law md (w_ar w rc) n (7 * n) 63 = w_ar w rc 63 := by
    simp only [yF]
    rw [if_neg (by omega), if_neg (by omega)]
  refine ⟨x', upd (yF law md (w_ar w rc) n (7 * n)) 63 (w_ar w rc 63 + 1), ?_, yF_end h7, ?_, ?_⟩
  · simp -implicitDefEqProofs (disch := first | assumption | omega) [r_cons, r_nil, k_seq, k_blk, k_s0, k_s1, k_sr, k_sn, k_si, k_b0, k_b1, k_br, k_bn, k_bi, k_fr, k_fi, k_fn, k_l0, k_l1, k_l2, k_lr, k_ln, k_li, hv_nx, rc_none, hv_cmp, k_w0, k_wi, k_wr, k_wl, k_wn, k_wt, k_in0, k_ini, k_inr, k_inl, k_inn, k_int, k_nb0, k_nb1, k_nbi, k_ni, k_fi32, k_fb0, k_fb1, k_fbb, k_nbb, hv_st1, hv_st2, hv_k1, hv_ft, k_le, -Int32.not_lt, -Int32.not_le, gl_0, gl_1, gl_2, gl_3, gl_4, gl_5, gl_6, gl_7, gl_8, gl_9, gl_10, gl_11, gl_12, sl_0, sl_1, sl_2, sl_3, sl_4, sl_5, sl_6, sl_7, sl_8, sl_9, sl_10, sl_11, sl_12, st_iconst, st_bipush, st_ldc, st_aconst_null, st_iload, st_lload, st_aload, st_istore, st_astore, st_lstore, st_iinc, st_iadd, st_isub, st_imul, st_iand, st_ior, st_ishl, st_ishr, st_iushr, st_idiv, st_irem, st_ineg, st_ladd, st_lsub, st_lmul, st_ldiv, st_lrem, st_lcmp, st_i2l, st_l2i, st_i2b, st_dup, st_dup2, st_pop, st_goto, st_ifCond, st_if_icmp, st_ifnull, st_ifnonnull, st_tableswitch, st_iaload, st_baload, st_laload, st_aaload, st_iastore, st_bastore, st_lastore, st_aastore, st_arraylength, st_new, st_newarray, st_anewarray, st_invokespecial, st_invokestatic, st_swap, st_checkcast, st_invokeinterface, st_ireturn, st_lreturn, st_areturn, st_return_, nI_add, nI_1, nI_lits, nI_litr, nI_litm, nI_litn, pk_mul, a_clamp, a_subl, a_lsub, a_sub, a_lt, a_ltl, a_llt, a_eq, a_eql, a_leq, a_m1, a_m1r, a_neg, a_lt0, a_0lt, a_eq0, a_0eq, lg_cmp_gt, lg_cmp_lt, lg_cmp_eq, n_lt1, n_lt0, n_le1, n_le0, n_eq1, n_eq0, g_sc_sc, g_sc_ar, g_sc_sm, g_sc_rh, g_sc_rl, g_sc_la, g_sc_im, g_sc_dy, g_ar_sc, g_ar_ar, g_ar_sm, g_ar_rh, g_ar_rl, g_ar_la, g_ar_im, g_ar_dy, g_sm_sc, g_sm_ar, g_sm_sm, g_sm_rh, g_sm_rl, g_sm_la, g_sm_im, g_sm_dy, g_rh_sc, g_rh_ar, g_rh_sm, g_rh_rh, g_rh_rl, g_rh_la, g_rh_im, g_rh_dy, g_rl_sc, g_rl_ar, g_rl_sm, g_rl_rh, g_rl_rl, g_rl_la, g_rl_im, g_rl_dy, g_la_sc, g_la_ar, g_la_sm, g_la_rh, g_la_rl, g_la_la, g_la_im, g_la_dy, g_im_sc, g_im_ar, g_im_sm, g_im_rh, g_im_rl, g_im_la, g_im_im, g_im_dy, g_dy_sc, g_dy_ar, g_dy_sm, g_dy_rh, g_dy_rl, g_dy_la, g_dy_im, g_dy_dy, n_scsc, n_arar, n_scar, n_scS, n_arS, n_smsc, n_smar, n_smsm, n_rhsc, n_rhar, n_rhrh, n_rlsc, n_rlar, n_rlrl, n_lasc, n_laar, n_lala, n_imsc, n_imar, n_imim, n_dysc, n_dyar, n_dydy, sem_Rules_passYear, hb_Rules_passYear, cm_213, vk_213, cm_216, vk_216, cm_217, vk_217, cm_218, vk_218, cm_221, vk_221, cm_225, vk_225, cm_226, vk_226, cm_280, vk_280, cm_301, vk_301, cm_302, vk_302, rc_0, rc_1, rc_2, wr_3, wr_4, wr_5, wr_6, wr_7, rc_8, wr_9, rc_10, wr_11, rc_12, wr_13, wr_14, wr_15, wr_16, wr_17, rc_18, rc_19, wr_20, rc_21, wr_22, wr_23, rc_24, rc_25, wr_26, wr_27, rc_28, wr_29, wr_30, rc_31, wr_32, wr_33, wr_34, rc_35, rc_36, wr_37, wr_38, wr_39, gf_0, gf_1, gf_2, gf_3, gf_4, gf_5, gf_6, gf_7, gf_8, gf_9, gf_10, gf_11, pf_11, gf_12, pf_12, gf_13, pf_13, gf_14, pf_14, gf_100, gf_101, gf_102, gf_103, gf_104, pf_104, gf_105, pf_105, gf_106, pf_106, gf_200, ww_3, ww_4, ww_5, ww_6, ww_7, gf_800, gf_801, pf_801, gf_802, pf_802, ww_9, gf_1000, gf_1001, gf_1002, pf_rh, gf_1003, pf_rl, pf_rn, ww_11, gf_1200, gf_1201, gf_1202, gf_1203, gf_1204, gf_1205, pf_1205, gf_1206, pf_1206, ww_13, ww_14, ww_15, ww_16, ww_17, gf_1800, gf_1801, gf_1802, gf_1803, gf_1804, gf_1805, pf_1805, gf_1900, ww_20, gf_2100, ww_22, ww_23, gf_2400, gf_2401, gf_2402, gf_2403, gf_2404, gf_2405, gf_2406, gf_2407, gf_2408, pf_2408, gf_2409, pf_2409, gf_2410, pf_2410, gf_2500, gf_2501, gf_2502, pf_2502, ww_26, ww_27, gf_2800, gf_2801, gf_2802, pf_2802, ww_29, ww_30, gf_3100, ww_32, ww_33, ww_34, gf_3500, gf_3501, gf_3502, pf_3502, gf_3503, pf_3503, gf_3504, pf_3504, gf_3505, pf_3505, gf_3506, pf_3506, gf_3507, pf_3507, gf_3508, pf_3508, gf_3600, gf_3601, gf_3602, pf_3602, gf_3603, pf_3603, ww_37, ww_38, ww_39, tyX3, tyX7, zt_rh, h2, hs_rc h1, hs_year h1, hs_setYear h1, zt_ar, zt_oar, n9, n11, y63, e1]
  · simp only [upd, yF]
    rw [if_neg (by omega), if_neg (by omega), if_neg (by omega), h5]
  · simp only [upd, yF]
    rw [if_neg (by omega), if_neg (by omega), if_neg (by omega), h6]
end VY
