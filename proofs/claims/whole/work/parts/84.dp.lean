/-! Sets of vows as bits; the most that monks can be worth together. -/
def sIn (s v : Nat) : Bool := decide (s / 2 ^ v % 2 = 1)
def sAd (s v : Nat) : Nat := if sIn s v = true then s else s + 2 ^ v
def sPc (s : Nat) : Nat := s % 2 + s / 2 % 2 + s / 4 % 2 + s / 8 % 2 + s / 16 % 2 + s / 32 % 2 + s / 64 % 2
theorem sB_tab : (List.range 128).all (fun s => (List.range 7).all (fun v => decide ((nI s >>> (nI v &&& 31)) &&& 1 = (if sIn s v = true then 1 else 0) ∧ nI s ||| ((1 : Int32) <<< (nI v &&& 31)) = nI (sAd s v) ∧ sAd s v < 128 ∧ sIn (sAd s v) v = true ∧ (sIn s v = false → sPc (sAd s v) = sPc s + 1) ∧ ∀ u ∈ List.range 7, sIn (sAd s v) u = (sIn s u || decide (u = v))))) = true := by decide +kernel
theorem sB_at {s v : Nat} (hs : s < 128) (hv : v < 7) : (nI s >>> (nI v &&& 31)) &&& 1 = (if sIn s v = true then 1 else 0) ∧ nI s ||| ((1 : Int32) <<< (nI v &&& 31)) = nI (sAd s v) ∧ sAd s v < 128 ∧ sIn (sAd s v) v = true ∧ (sIn s v = false → sPc (sAd s v) = sPc s + 1) ∧ ∀ u ∈ List.range 7, sIn (sAd s v) u = (sIn s u || decide (u = v)) := of_decide_eq_true (List.all_eq_true.mp (List.all_eq_true.mp sB_tab s (List.mem_range.mpr hs)) v (List.mem_range.mpr hv))
theorem b_in1 {s v : Nat} (hs : s < 128) (hv : v < 7) (h : sIn s v = true) : (nI s >>> (nI v &&& 31)) &&& 1 = 1 := by rw [(sB_at hs hv).1, if_pos h]
theorem b_in0 {s v : Nat} (hs : s < 128) (hv : v < 7) (h : sIn s v = false) : (nI s >>> (nI v &&& 31)) &&& 1 = 0 := by rw [(sB_at hs hv).1, if_neg (by rw [h]; decide)]
theorem b_ad {s v : Nat} (hs : s < 128) (hv : v < 7) : nI s ||| ((1 : Int32) <<< (nI v &&& 31)) = nI (sAd s v) := (sB_at hs hv).2.1
theorem sAd_lt {s v : Nat} (hs : s < 128) (hv : v < 7) : sAd s v < 128 := (sB_at hs hv).2.2.1
theorem sAd_in {s v u : Nat} (hs : s < 128) (hv : v < 7) (hu : u < 7) : sIn (sAd s v) u = (sIn s u || decide (u = v)) := (sB_at hs hv).2.2.2.2.2 u (List.mem_range.mpr hu)
theorem sAd_pc {s v : Nat} (hs : s < 128) (hv : v < 7) (h : sIn s v = false) : sPc (sAd s v) = sPc s + 1 := (sB_at hs hv).2.2.2.2.1 h
def bcF (x : Int32) : Int32 :=
  let a := x - ((x.toUInt32 >>> ((1 : Int32).toUInt32 &&& Int32.toUInt32 31)).toInt32 &&& 1431655765)
  let b := (a &&& 858993459) + ((a.toUInt32 >>> ((2 : Int32).toUInt32 &&& Int32.toUInt32 31)).toInt32 &&& 858993459)
  let c := (b + (b.toUInt32 >>> ((4 : Int32).toUInt32 &&& Int32.toUInt32 31)).toInt32) &&& 252645135
  let e := c + (c.toUInt32 >>> ((8 : Int32).toUInt32 &&& Int32.toUInt32 31)).toInt32
  let g := e + (e.toUInt32 >>> ((16 : Int32).toUInt32 &&& Int32.toUInt32 31)).toInt32
  g &&& 63
theorem bc_tab : (List.range 128).all (fun s => decide (bcF (nI s) = nI (sPc s) ∧ sPc s ≤ 7)) = true := by decide +kernel
theorem bc_at {s : Nat} (hs : s < 128) : bcF (nI s) = nI (sPc s) ∧ sPc s ≤ 7 := of_decide_eq_true (List.all_eq_true.mp bc_tab s (List.mem_range.mpr hs))
theorem t_bits0 {d : Nat} {x : Int32} {h : hv_H} : hv_sem (d + 1) 300 [.int x] h = some (some (.int (bcF x)), h) := by
  simp -implicitDefEqProofs (disch := first | assumption | omega) [r_cons, r_nil, k_seq, k_blk, k_s0, k_s1, k_sr, k_sn, k_si, k_b0, k_b1, k_br, k_bn, k_bi, k_fr, k_fi, k_fn, k_l0, k_l1, k_l2, k_lr, k_ln, k_li, hv_nx, rc_none, hv_cmp, k_w0, k_wi, k_wr, k_wl, k_wn, k_wt, k_in0, k_ini, k_inr, k_inl, k_inn, k_int, k_nb0, k_nb1, k_nbi, k_ni, k_fi32, k_fb0, k_fb1, k_fbb, k_nbb, hv_st1, hv_st2, hv_k1, hv_ft, k_le, -Int32.not_lt, -Int32.not_le, gl_0, gl_1, gl_2, gl_3, gl_4, gl_5, gl_6, gl_7, gl_8, gl_9, gl_10, gl_11, gl_12, sl_0, sl_1, sl_2, sl_3, sl_4, sl_5, sl_6, sl_7, sl_8, sl_9, sl_10, sl_11, sl_12, st_iconst, st_bipush, st_ldc, st_aconst_null, st_iload, st_lload, st_aload, st_istore, st_astore, st_lstore, st_iinc, st_iadd, st_isub, st_imul, st_iand, st_ior, st_ishl, st_ishr, st_iushr, st_idiv, st_irem, st_ineg, st_ladd, st_lsub, st_lmul, st_ldiv, st_lrem, st_lcmp, st_i2l, st_l2i, st_i2b, st_dup, st_dup2, st_pop, st_goto, st_ifCond, st_if_icmp, st_ifnull, st_ifnonnull, st_tableswitch, st_iaload, st_baload, st_laload, st_aaload, st_iastore, st_bastore, st_lastore, st_aastore, st_arraylength, st_new, st_newarray, st_anewarray, st_invokespecial, st_invokestatic, st_swap, st_checkcast, st_invokeinterface, st_ireturn, st_lreturn, st_areturn, st_return_, nI_add, nI_1, nI_lits, nI_litr, nI_litm, nI_litn, pk_mul, a_clamp, a_subl, a_lsub, a_sub, a_lt, a_ltl, a_llt, a_eq, a_eql, a_leq, a_m1, a_m1r, a_neg, a_lt0, a_0lt, a_eq0, a_0eq, lg_cmp_gt, lg_cmp_lt, lg_cmp_eq, n_lt1, n_lt0, n_le1, n_le0, n_eq1, n_eq0, g_sc_sc, g_sc_ar, g_sc_sm, g_sc_rh, g_sc_rl, g_sc_la, g_sc_im, g_sc_dy, g_ar_sc, g_ar_ar, g_ar_sm, g_ar_rh, g_ar_rl, g_ar_la, g_ar_im, g_ar_dy, g_sm_sc, g_sm_ar, g_sm_sm, g_sm_rh, g_sm_rl, g_sm_la, g_sm_im, g_sm_dy, g_rh_sc, g_rh_ar, g_rh_sm, g_rh_rh, g_rh_rl, g_rh_la, g_rh_im, g_rh_dy, g_rl_sc, g_rl_ar, g_rl_sm, g_rl_rh, g_rl_rl, g_rl_la, g_rl_im, g_rl_dy, g_la_sc, g_la_ar, g_la_sm, g_la_rh, g_la_rl, g_la_la, g_la_im, g_la_dy, g_im_sc, g_im_ar, g_im_sm, g_im_rh, g_im_rl, g_im_la, g_im_im, g_im_dy, g_dy_sc, g_dy_ar, g_dy_sm, g_dy_rh, g_dy_rl, g_dy_la, g_dy_im, g_dy_dy, n_scsc, n_arar, n_scar, n_scS, n_arS, n_smsc, n_smar, n_smsm, n_rhsc, n_rhar, n_rhrh, n_rlsc, n_rlar, n_rlrl, n_lasc, n_laar, n_lala, n_imsc, n_imar, n_imim, n_dysc, n_dyar, n_dydy, sem_Integer_bitCount, hb_Integer_bitCount]
  rfl
theorem t_bits {d s : Nat} {h : hv_H} (hd : 1 ≤ d) (hs : s < 128) : hv_sem d 300 [.int (nI s)] h = some (some (.int (nI (sPc s))), h) := by
  obtain ⟨d, rfl⟩ : ∃ e, d = e + 1 := ⟨d - 1, by omega⟩
  rw [t_bits0, (bc_at hs).1]
def eO : Option Nat → Int32
  | none => -1
  | some k => nI k
def oMx : Option Nat → Option Nat → Option Nat
  | none, y => y
  | some a, none => some a
  | some a, some b => some (if a < b then b else a)
def gW (W : Nat → Nat → Option Nat) (lc : Bool) (r : Nat → Option Nat) (m s v : Nat) : Option Nat := if sIn s v = true then none else match W m v with
  | none => none
  | some a => match r (sAd s v) with
    | none => none
    | some b => some (if lc = true then (if b < a then b else a) else a + b)
def gV (W : Nat → Nat → Option Nat) (lc : Bool) (r : Nat → Option Nat) (m s : Nat) (a : Option Nat) : Nat → Option Nat
  | 0 => a
  | k + 1 => oMx (gV W lc r m s a k) (gW W lc r m s k)
/-- the most by the last j of n monks, when s is taken -/
def gM (W : Nat → Nat → Option Nat) (lc am : Bool) (n : Nat) : Nat → Nat → Option Nat
  | 0, _ => some (if lc = true then 99 else 0)
  | j + 1, s => gV W lc (gM W lc am n j) (n - 1 - j) s (if am = true then none else gM W lc am n j s) 7
def oB (b : Nat) (x : Option Nat) : Prop := ∀ k, x = some k → k ≤ b
section DP
variable {W : Nat → Nat → Option Nat} {lc am : Bool} {n : Nat}
theorem oB_none {b : Nat} : oB b none := fun _ h => by cases h
theorem oB_some {b k : Nat} (h : k ≤ b) : oB b (some k) := fun _ e => by cases e; exact h
theorem oB_mono {b c : Nat} {x : Option Nat} (h : oB b x) (hc : b ≤ c) : oB c x := fun k e => Nat.le_trans (h k e) hc
theorem eO_inj {x y : Option Nat} (hx : oB 100000 x) (hy : oB 100000 y) : (eO x = eO y) = (x = y) := by
  cases x with
  | none =>
    cases y with
    | none => simp
    | some b =>
      have := hy b rfl
      rw [eq_iff_iff]
      exact ⟨fun q => absurd q (m1_ne (by omega)), fun q => by cases q⟩
  | some a =>
    have ha := hx a rfl
    cases y with
    | none =>
      rw [eq_iff_iff]
      exact ⟨fun q => absurd q.symm (m1_ne (by omega)), fun q => by cases q⟩
    | some b =>
      have := hy b rfl
      rw [eO, eO, a_eq (by omega) (by omega)]
      simp
theorem eO_max {x y : Option Nat} (hx : oB 100000 x) (hy : oB 100000 y) : i_max (eO x) (eO y) = eO (oMx x y) := by
  have em : (-1 : Int32).toInt = -1 := rfl
  cases x with
  | none =>
    cases y with
    | none => rfl
    | some b =>
      have := hy b rfl
      show i_max (-1) (nI b) = nI b
      refine Int32.toInt_inj.mp ?_
      rw [imax_int, nI_toInt (by omega), em, if_pos (by omega)]
  | some a =>
    have ha := hx a rfl
    cases y with
    | none =>
      show i_max (nI a) (-1) = nI a
      refine Int32.toInt_inj.mp ?_
      rw [imax_int, nI_toInt (by omega), em, if_neg (by omega)]
    | some b =>
      have := hy b rfl
      have e : oMx (some a) (some b) = some (if a < b then b else a) := rfl
      rw [e]
      show i_max (nI a) (nI b) = nI (if a < b then b else a)
      by_cases q : a < b
      · have q' : nI a < nI b := by rw [a_lt (by omega) (by omega)]; exact q
        rw [i_max, if_pos q', if_pos q]
      · have q' : ¬ nI a < nI b := by rw [a_lt (by omega) (by omega)]; exact q
        rw [i_max, if_neg q', if_neg q]
theorem oMx_B {b : Nat} {x y : Option Nat} (hx : oB b x) (hy : oB b y) : oB b (oMx x y) := by
  cases x with
  | none => exact hy
  | some a =>
    cases y with
    | none => exact hx
    | some c =>
      simp only [oMx]
      split
      · exact hy
      · exact hx
theorem gW_B {r : Nat → Option Nat} {b m s v : Nat} (hW : ∀ m v, oB 99 (W m v)) (hr : ∀ s, oB b (r s)) : oB (b + 99) (gW W lc r m s v) := by
  rw [gW]
  split
  · exact oB_none
  · cases h : W m v with
    | none => exact oB_none
    | some a =>
      have ha := hW m v a h
      cases h2 : r (sAd s v) with
      | none => exact oB_none
      | some c =>
        have hc := hr _ c h2
        simp only []
        refine oB_some ?_
        split
        · split <;> omega
        · omega
theorem gV_B {r : Nat → Option Nat} {b m s : Nat} {a : Option Nat} (hW : ∀ m v, oB 99 (W m v)) (hr : ∀ s, oB b (r s)) (ha : oB (b + 99) a) : ∀ k, oB (b + 99) (gV W lc r m s a k)
  | 0 => ha
  | k + 1 => oMx_B (gV_B hW hr ha k) (gW_B hW hr)
theorem gM_B (hW : ∀ m v, oB 99 (W m v)) : ∀ j s, oB (99 * (j + 1)) (gM W lc am n j s)
  | 0, s => by
    rw [gM]
    refine oB_some ?_
    split <;> omega
  | j + 1, s => by
    have ih := gM_B hW j
    rw [gM, show 99 * (j + 1 + 1) = 99 * (j + 1) + 99 by omega]
    refine gV_B hW ih ?_ 7
    split
    · exact oB_none
    · exact oB_mono (ih s) (by omega)
theorem gV_some {r : Nat → Option Nat} {m s : Nat} {a : Option Nat} (ha : a ≠ none) : ∀ k, gV W lc r m s a k ≠ none
  | 0 => ha
  | k + 1 => by
    have ih := gV_some (r := r) (m := m) (s := s) ha k
    rw [gV]
    cases h : gV W lc r m s a k with
    | none => exact absurd h ih
    | some x =>
      cases gW W lc r m s k with
      | none => simp [oMx]
      | some y => simp [oMx]
theorem gM_some : ∀ j s, gM W lc false n j s ≠ none
  | 0, s => by simp [gM]
  | j + 1, s => by
    rw [gM]
    exact gV_some (by rw [if_neg (by decide)]; exact gM_some j s) 7
end DP
/-- the first vow by which the goal is reached; 7: none -/
def gC1 (f : Nat → Option Nat) (g : Option Nat) : Nat → Nat → Nat
  | 0, v => v
  | k + 1, v => if f v = g ∧ g ≠ none then v else gC1 f g k (v + 1)
def gC (W : Nat → Nat → Option Nat) (lc am : Bool) (n m s : Nat) : Nat := gC1 (gW W lc (gM W lc am n (n - 1 - m)) m s) (gM W lc am n (n - m) s) 7 0
def gS (W : Nat → Nat → Option Nat) (lc am : Bool) (n : Nat) : Nat → Nat
  | 0 => 0
  | m + 1 => if gC W lc am n m (gS W lc am n m) = 7 then gS W lc am n m else sAd (gS W lc am n m) (gC W lc am n m (gS W lc am n m))
/-- the row: which vow, 100 for none -/
def gR (W : Nat → Nat → Option Nat) (lc am : Bool) (n m : Nat) : Nat := if gC W lc am n m (gS W lc am n m) = 7 then 100 else gC W lc am n m (gS W lc am n m)
section DR
variable {W : Nat → Nat → Option Nat} {lc am : Bool} {n : Nat}
theorem gC1_le {f : Nat → Option Nat} {g : Option Nat} : ∀ k v, v ≤ gC1 f g k v ∧ gC1 f g k v ≤ v + k ∧ (gC1 f g k v < v + k → f (gC1 f g k v) = g ∧ g ≠ none)
  | 0, v => ⟨Nat.le_refl _, Nat.le_refl _, fun h => by rw [gC1] at h; omega⟩
  | k + 1, v => by
    rw [gC1]
    split
    · rename_i h
      exact ⟨Nat.le_refl _, by omega, fun _ => h⟩
    · have := gC1_le (f := f) (g := g) k (v + 1)
      exact ⟨by omega, by omega, fun h => this.2.2 (by omega)⟩
theorem gC_le (m s : Nat) : gC W lc am n m s ≤ 7 := by
  have := (gC1_le (f := gW W lc (gM W lc am n (n - 1 - m)) m s) (g := gM W lc am n (n - m) s) 7 0).2.1
  rw [gC]
  omega
theorem gC_free {m s : Nat} (h : ¬ gC W lc am n m s = 7) : sIn s (gC W lc am n m s) = false := by
  have h7 := gC_le (W := W) (lc := lc) (am := am) (n := n) m s
  have := (gC1_le (f := gW W lc (gM W lc am n (n - 1 - m)) m s) (g := gM W lc am n (n - m) s) 7 0).2.2 (by rw [gC] at h h7; omega)
  cases hs : sIn s (gC W lc am n m s)
  · rfl
  · exfalso
    rw [gC] at hs
    have h1 := this.1
    rw [gW, if_pos hs] at h1
    exact this.2 h1.symm
theorem gS_ok : ∀ m, gS W lc am n m < 128 ∧ sPc (gS W lc am n m) ≤ m
  | 0 => ⟨by rw [gS]; omega, by rw [gS]; decide⟩
  | m + 1 => by
    have ih := gS_ok m
    have h7 := gC_le (W := W) (lc := lc) (am := am) (n := n) m (gS W lc am n m)
    rw [gS]
    split
    · exact ⟨ih.1, by omega⟩
    · rename_i h
      refine ⟨sAd_lt ih.1 (by omega), ?_⟩
      rw [sAd_pc ih.1 (by omega) (gC_free h)]
      omega
end DR
