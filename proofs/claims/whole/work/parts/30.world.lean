/-! The cells behind both constructors, as one bundle: numbers by cell and slot, rows by cell, the rest. -/
abbrev wW : Type := (Nat → Int32) × (Nat → Nat → Int32) × (Nat → Int64) × Nat × Option Nat × (Nat → Option Nat) × (Nat → Option Nat) × hv_H
def w_sc (w : wW) : Nat → Int32 := w.1
def w_ar (w : wW) : Nat → Nat → Int32 := w.2.1
def w_sm (w : wW) : Nat → Int64 := w.2.2.1
def w_rh (w : wW) : Nat := w.2.2.2.1
def w_rl (w : wW) : Option Nat := w.2.2.2.2.1
def w_la (w : wW) : Nat → Option Nat := w.2.2.2.2.2.1
def w_im (w : wW) : Nat → Option Nat := w.2.2.2.2.2.2.1
def w_dy (w : wW) : hv_H := w.2.2.2.2.2.2.2
def wU {α : Type} (f : Nat → α) (k : Nat) (x : α) : Nat → α := fun j => if j = k then x else f j
def s_sc (w : wW) (k : Nat) (x : Int32) : wW := (wU (w_sc w) k x, w_ar w, w_sm w, w_rh w, w_rl w, w_la w, w_im w, w_dy w)
def s_ar (w : wW) (k : Nat) (f : Nat → Int32) : wW := (w_sc w, wU (w_ar w) k f, w_sm w, w_rh w, w_rl w, w_la w, w_im w, w_dy w)
def s_sm (w : wW) (x : Nat → Int64) : wW := (w_sc w, w_ar w, x, w_rh w, w_rl w, w_la w, w_im w, w_dy w)
def s_rh (w : wW) (x : Nat) : wW := (w_sc w, w_ar w, w_sm w, x, w_rl w, w_la w, w_im w, w_dy w)
def s_rl (w : wW) (x : Option Nat) : wW := (w_sc w, w_ar w, w_sm w, w_rh w, x, w_la w, w_im w, w_dy w)
def s_la (w : wW) (x : Nat → Option Nat) : wW := (w_sc w, w_ar w, w_sm w, w_rh w, w_rl w, x, w_im w, w_dy w)
def s_im (w : wW) (x : Nat → Option Nat) : wW := (w_sc w, w_ar w, w_sm w, w_rh w, w_rl w, w_la w, x, w_dy w)
def s_dy (w : wW) (x : hv_H) : wW := (w_sc w, w_ar w, w_sm w, w_rh w, w_rl w, w_la w, w_im w, x)
section WW
variable {w : wW} {k j : Nat} {x y : Int32} {f g : Nat → Int32}
theorem g_sc_sc : w_sc (s_sc w k x) j = if j = k then x else w_sc w j := rfl
theorem g_sc_ar : w_sc (s_ar w k f) = w_sc w := rfl
theorem g_sc_sm {z : Nat → Int64} : w_sc (s_sm w z) = w_sc w := rfl
theorem g_sc_rh {z : Nat} : w_sc (s_rh w z) = w_sc w := rfl
theorem g_sc_rl {z : Option Nat} : w_sc (s_rl w z) = w_sc w := rfl
theorem g_sc_la {z : Nat → Option Nat} : w_sc (s_la w z) = w_sc w := rfl
theorem g_sc_im {z : Nat → Option Nat} : w_sc (s_im w z) = w_sc w := rfl
theorem g_sc_dy {z : hv_H} : w_sc (s_dy w z) = w_sc w := rfl
theorem g_ar_sc : w_ar (s_sc w k x) = w_ar w := rfl
theorem g_ar_ar : w_ar (s_ar w k f) j = if j = k then f else w_ar w j := rfl
theorem g_ar_sm {z : Nat → Int64} : w_ar (s_sm w z) = w_ar w := rfl
theorem g_ar_rh {z : Nat} : w_ar (s_rh w z) = w_ar w := rfl
theorem g_ar_rl {z : Option Nat} : w_ar (s_rl w z) = w_ar w := rfl
theorem g_ar_la {z : Nat → Option Nat} : w_ar (s_la w z) = w_ar w := rfl
theorem g_ar_im {z : Nat → Option Nat} : w_ar (s_im w z) = w_ar w := rfl
theorem g_ar_dy {z : hv_H} : w_ar (s_dy w z) = w_ar w := rfl
theorem g_sm_sc : w_sm (s_sc w k x) = w_sm w := rfl
theorem g_sm_ar : w_sm (s_ar w k f) = w_sm w := rfl
theorem g_sm_sm {z : Nat → Int64} : w_sm (s_sm w z) = z := rfl
theorem g_sm_rh {z : Nat} : w_sm (s_rh w z) = w_sm w := rfl
theorem g_sm_rl {z : Option Nat} : w_sm (s_rl w z) = w_sm w := rfl
theorem g_sm_la {z : Nat → Option Nat} : w_sm (s_la w z) = w_sm w := rfl
theorem g_sm_im {z : Nat → Option Nat} : w_sm (s_im w z) = w_sm w := rfl
theorem g_sm_dy {z : hv_H} : w_sm (s_dy w z) = w_sm w := rfl
theorem g_rh_sc : w_rh (s_sc w k x) = w_rh w := rfl
theorem g_rh_ar : w_rh (s_ar w k f) = w_rh w := rfl
theorem g_rh_sm {z : Nat → Int64} : w_rh (s_sm w z) = w_rh w := rfl
theorem g_rh_rh {z : Nat} : w_rh (s_rh w z) = z := rfl
theorem g_rh_rl {z : Option Nat} : w_rh (s_rl w z) = w_rh w := rfl
theorem g_rh_la {z : Nat → Option Nat} : w_rh (s_la w z) = w_rh w := rfl
theorem g_rh_im {z : Nat → Option Nat} : w_rh (s_im w z) = w_rh w := rfl
theorem g_rh_dy {z : hv_H} : w_rh (s_dy w z) = w_rh w := rfl
theorem g_rl_sc : w_rl (s_sc w k x) = w_rl w := rfl
theorem g_rl_ar : w_rl (s_ar w k f) = w_rl w := rfl
theorem g_rl_sm {z : Nat → Int64} : w_rl (s_sm w z) = w_rl w := rfl
theorem g_rl_rh {z : Nat} : w_rl (s_rh w z) = w_rl w := rfl
theorem g_rl_rl {z : Option Nat} : w_rl (s_rl w z) = z := rfl
theorem g_rl_la {z : Nat → Option Nat} : w_rl (s_la w z) = w_rl w := rfl
theorem g_rl_im {z : Nat → Option Nat} : w_rl (s_im w z) = w_rl w := rfl
theorem g_rl_dy {z : hv_H} : w_rl (s_dy w z) = w_rl w := rfl
theorem g_la_sc : w_la (s_sc w k x) = w_la w := rfl
theorem g_la_ar : w_la (s_ar w k f) = w_la w := rfl
theorem g_la_sm {z : Nat → Int64} : w_la (s_sm w z) = w_la w := rfl
theorem g_la_rh {z : Nat} : w_la (s_rh w z) = w_la w := rfl
theorem g_la_rl {z : Option Nat} : w_la (s_rl w z) = w_la w := rfl
theorem g_la_la {z : Nat → Option Nat} : w_la (s_la w z) = z := rfl
theorem g_la_im {z : Nat → Option Nat} : w_la (s_im w z) = w_la w := rfl
theorem g_la_dy {z : hv_H} : w_la (s_dy w z) = w_la w := rfl
theorem g_im_sc : w_im (s_sc w k x) = w_im w := rfl
theorem g_im_ar : w_im (s_ar w k f) = w_im w := rfl
theorem g_im_sm {z : Nat → Int64} : w_im (s_sm w z) = w_im w := rfl
theorem g_im_rh {z : Nat} : w_im (s_rh w z) = w_im w := rfl
theorem g_im_rl {z : Option Nat} : w_im (s_rl w z) = w_im w := rfl
theorem g_im_la {z : Nat → Option Nat} : w_im (s_la w z) = w_im w := rfl
theorem g_im_im {z : Nat → Option Nat} : w_im (s_im w z) = z := rfl
theorem g_im_dy {z : hv_H} : w_im (s_dy w z) = w_im w := rfl
theorem g_dy_sc : w_dy (s_sc w k x) = w_dy w := rfl
theorem g_dy_ar : w_dy (s_ar w k f) = w_dy w := rfl
theorem g_dy_sm {z : Nat → Int64} : w_dy (s_sm w z) = w_dy w := rfl
theorem g_dy_rh {z : Nat} : w_dy (s_rh w z) = w_dy w := rfl
theorem g_dy_rl {z : Option Nat} : w_dy (s_rl w z) = w_dy w := rfl
theorem g_dy_la {z : Nat → Option Nat} : w_dy (s_la w z) = w_dy w := rfl
theorem g_dy_im {z : Nat → Option Nat} : w_dy (s_im w z) = w_dy w := rfl
theorem g_dy_dy {z : hv_H} : w_dy (s_dy w z) = z := rfl
theorem n_scsc : s_sc (s_sc w k x) k y = s_sc w k y := by
  simp only [s_sc, w_sc, w_ar, w_sm, w_rh, w_rl, w_la, w_im, w_dy]
  congr 1
  funext i
  simp only [wU]
  split <;> rfl
theorem n_arar : s_ar (s_ar w k f) k g = s_ar w k g := by
  simp only [s_ar, w_sc, w_ar, w_sm, w_rh, w_rl, w_la, w_im, w_dy]
  congr 2
  funext i
  simp only [wU]
  split <;> rfl
theorem n_scar : s_sc (s_ar w k f) j x = s_ar (s_sc w j x) k f := rfl
theorem n_scS (h : j < k) : s_sc (s_sc w k x) j y = s_sc (s_sc w j y) k x := by
  simp only [s_sc, w_sc, w_ar, w_sm, w_rh, w_rl, w_la, w_im, w_dy]
  congr 1
  funext i
  simp only [wU]
  by_cases h1 : i = j
  · by_cases h2 : i = k
    · omega
    · simp [h1]; intro h3; omega
  · simp [h1]
theorem n_arS (h : j < k) : s_ar (s_ar w k f) j g = s_ar (s_ar w j g) k f := by
  simp only [s_ar, w_sc, w_ar, w_sm, w_rh, w_rl, w_la, w_im, w_dy]
  congr 2
  funext i
  simp only [wU]
  by_cases h1 : i = j
  · by_cases h2 : i = k
    · omega
    · simp [h1]; intro h3; omega
  · simp [h1]
theorem n_arE : s_ar w k (w_ar w k) = w := by
  simp only [s_ar, w_sc, w_ar, w_sm, w_rh, w_rl, w_la, w_im, w_dy]
  have : wU w.2.1 k (w.2.1 k) = w.2.1 := by
    funext i
    simp only [wU]
    split
    · rename_i h; rw [h]
    · rfl
  rw [this]
theorem n_scE : s_sc w k (w_sc w k) = w := by
  simp only [s_sc, w_sc, w_ar, w_sm, w_rh, w_rl, w_la, w_im, w_dy]
  have : wU w.1 k (w.1 k) = w.1 := by
    funext i
    simp only [wU]
    split
    · rename_i h; rw [h]
    · rfl
  rw [this]
theorem n_smsc {z : Nat → Int64} : s_sm (s_sc w k x) z = s_sc (s_sm w z) k x := rfl
theorem n_smar {z : Nat → Int64} : s_sm (s_ar w k f) z = s_ar (s_sm w z) k f := rfl
theorem n_smsm {z z2 : Nat → Int64} : s_sm (s_sm w z) z2 = s_sm w z2 := rfl
theorem n_rhsc {z : Nat} : s_rh (s_sc w k x) z = s_sc (s_rh w z) k x := rfl
theorem n_rhar {z : Nat} : s_rh (s_ar w k f) z = s_ar (s_rh w z) k f := rfl
theorem n_rhrh {z z2 : Nat} : s_rh (s_rh w z) z2 = s_rh w z2 := rfl
theorem n_rlsc {z : Option Nat} : s_rl (s_sc w k x) z = s_sc (s_rl w z) k x := rfl
theorem n_rlar {z : Option Nat} : s_rl (s_ar w k f) z = s_ar (s_rl w z) k f := rfl
theorem n_rlrl {z z2 : Option Nat} : s_rl (s_rl w z) z2 = s_rl w z2 := rfl
theorem n_lasc {z : Nat → Option Nat} : s_la (s_sc w k x) z = s_sc (s_la w z) k x := rfl
theorem n_laar {z : Nat → Option Nat} : s_la (s_ar w k f) z = s_ar (s_la w z) k f := rfl
theorem n_lala {z z2 : Nat → Option Nat} : s_la (s_la w z) z2 = s_la w z2 := rfl
theorem n_imsc {z : Nat → Option Nat} : s_im (s_sc w k x) z = s_sc (s_im w z) k x := rfl
theorem n_imar {z : Nat → Option Nat} : s_im (s_ar w k f) z = s_ar (s_im w z) k f := rfl
theorem n_imim {z z2 : Nat → Option Nat} : s_im (s_im w z) z2 = s_im w z2 := rfl
theorem n_dysc {z : hv_H} : s_dy (s_sc w k x) z = s_sc (s_dy w z) k x := rfl
theorem n_dyar {z : hv_H} : s_dy (s_ar w k f) z = s_ar (s_dy w z) k f := rfl
theorem n_dydy {z z2 : hv_H} : s_dy (s_dy w z) z2 = s_dy w z2 := rfl
end WW
def wB (w : wW) : hv_H := ([.inr (10, [.ref 1, .ref 2, .ref 7, .ref 8, .ref 10, .ref 12, .ref 18, .ref 24, .ref 34, .ref 35, .ref 39, .int (w_sc w 11), .int (w_sc w 12), .int (w_sc w 13), .int (w_sc w 14)]),
  .inr (9, [.ref 2, .ref 4, .ref 5, .ref 6, .int (w_sc w 104), .int (w_sc w 105), .int (w_sc w 106)]),
  .inr (3, [.ref 3]),
  .inl (0, 66, .inl (w_ar w 3)),
  .inl (5, 6, .inr (.inr (.inr (.inr (w_la w))))),
  .inl (0, 8, .inl (w_ar w 5)),
  .inl (0, 8, .inl (w_ar w 6)),
  .inl (4, 2, .inr (.inr (.inr (.inr (w_im w))))),
  .inr (4, [.ref 9, .int (w_sc w 801), .int (w_sc w 802)]),
  .inl (0, 50, .inl (w_ar w 9)),
  .inr (7, [.ref 8, .ref 11, .ref (w_rh w), va_rf (w_rl w)]),
  .inl (0, 7, .inl (w_ar w 11)),
  .inr (0, [.ref 13, .ref 14, .ref 15, .ref 16, .ref 17, .int (w_sc w 1205), .int (w_sc w 1206)]),
  .inl (0, 49, .inl (w_ar w 13)),
  .inl (0, 1024, .inl (w_ar w 14)),
  .inl (0, 7, .inl (w_ar w 15)),
  .inl (0, 7, .inl (w_ar w 16)),
  .inl (0, 7, .inl (w_ar w 17)),
  .inr (5, [.ref 10, .ref 12, .ref 19, .ref 21, .ref 23, .int (w_sc w 1805)]),
  .inr (3, [.ref 20]),
  .inl (0, 66, .inl (w_ar w 20)),
  .inr (3, [.ref 22]),
  .inl (0, 66, .inl (w_ar w 22)),
  .inl (0, 7, .inl (w_ar w 23)),
  .inr (2, [.ref 1, .ref 2, .ref 10, .ref 8, .ref 25, .ref 28, .ref 31, .ref 33, .int (w_sc w 2408), .int (w_sc w 2409), .int (w_sc w 2410)]),
  .inr (8, [.ref 26, .ref 27, .int (w_sc w 2502)]),
  .inl (0, 16, .inl (w_ar w 26)),
  .inl (0, 1056, .inl (w_ar w 27)),
  .inr (8, [.ref 29, .ref 30, .int (w_sc w 2802)]),
  .inl (0, 16, .inl (w_ar w 29)),
  .inl (0, 1056, .inl (w_ar w 30)),
  .inr (3, [.ref 32]),
  .inl (0, 66, .inl (w_ar w 32)),
  .inl (0, 19, .inl (w_ar w 33)),
  .inl (0, 400, .inl (w_ar w 34)),
  .inr (6, [.ref 34, .ref 36, .int (w_sc w 3502), .int (w_sc w 3503), .int (w_sc w 3504), .int (w_sc w 3505), .int (w_sc w 3506), .int (w_sc w 3507), .int (w_sc w 3508)]),
  .inr (1, [.ref 37, .ref 38, .int (w_sc w 3602), .int (w_sc w 3603)]),
  .inl (0, 60, .inl (w_ar w 37)),
  .inl (0, 400, .inl (w_ar w 38)),
  .inl (0, 5, .inl (w_ar w 39)),
  .inr (11, [.int (w_sc w 4000), .ref 41, .ref 42, .ref 43, .ref 44, .ref 45, .int (w_sc w 4006), .ref 46, .int (w_sc w 4008), .int (w_sc w 4009), .int (w_sc w 4010), .ref 47, .ref 48, .int (w_sc w 4013), .int (w_sc w 4014), .ref 49, .ref 50, .ref 51, .int (w_sc w 4018), .int (w_sc w 4019), .int (w_sc w 4020), .int (w_sc w 4021), .int (w_sc w 4022), .int (w_sc w 4023), .int (w_sc w 4024), .int (w_sc w 4025), .ref 52, .int (w_sc w 4027), .int (w_sc w 4028), .ref 53, .ref 54, .ref 55, .int (w_sc w 4032), .ref 56, .ref 57, .ref 58, .ref 59, .ref 60, .ref 61, .int (w_sc w 4039), .int (w_sc w 4040), .ref 62, .ref 63, .int (w_sc w 4043), .int (w_sc w 4044), .int (w_sc w 4045), .int (w_sc w 4046), .int (w_sc w 4047), .int (w_sc w 4048), .ref 64, .ref 65, .int (w_sc w 4051), .int (w_sc w 4052)]),
  .inl (0, 7, .inl (w_ar w 41)),
  .inl (0, 5692, .inl (w_ar w 42)),
  .inl (0, 11384, .inl (w_ar w 43)),
  .inl (2, 2, .inl (w_ar w 44)),
  .inl (0, 128, .inl (w_ar w 45)),
  .inl (1, 132, .inl (w_ar w 46)),
  .inl (1, 400, .inl (w_ar w 47)),
  .inl (0, 5, .inl (w_ar w 48)),
  .inl (0, 401, .inl (w_ar w 49)),
  .inl (0, 401, .inl (w_ar w 50)),
  .inl (0, 401, .inl (w_ar w 51)),
  .inl (0, 7, .inl (w_ar w 52)),
  .inl (0, 49, .inl (w_ar w 53)),
  .inl (0, 1040, .inl (w_ar w 54)),
  .inl (0, 1040, .inl (w_ar w 55)),
  .inl (0, 49, .inl (w_ar w 56)),
  .inl (2, 49, .inl (w_ar w 57)),
  .inl (0, 1024, .inl (w_ar w 58)),
  .inl (0, 7, .inl (w_ar w 59)),
  .inl (0, 7, .inl (w_ar w 60)),
  .inl (0, 7, .inl (w_ar w 61)),
  .inl (0, 7, .inl (w_ar w 62)),
  .inl (2, 49, .inl (w_ar w 63)),
  .inl (3, 2, .inr (.inl (w_sm w))),
  .inl (0, 64, .inl (w_ar w 65))] : hv_H) ++ w_dy w
section WB
variable {w : wW}
theorem wr_0 : (wB w)[0]? = some (.inr (10, [.ref 1, .ref 2, .ref 7, .ref 8, .ref 10, .ref 12, .ref 18, .ref 24, .ref 34, .ref 35, .ref 39, .int (w_sc w 11), .int (w_sc w 12), .int (w_sc w 13), .int (w_sc w 14)])) := rfl
theorem wr_1 : (wB w)[1]? = some (.inr (9, [.ref 2, .ref 4, .ref 5, .ref 6, .int (w_sc w 104), .int (w_sc w 105), .int (w_sc w 106)])) := rfl
theorem wr_2 : (wB w)[2]? = some (.inr (3, [.ref 3])) := rfl
theorem wr_3 : (wB w)[3]? = some (.inl (0, 66, .inl (w_ar w 3))) := rfl
theorem wr_4 : (wB w)[4]? = some (.inl (5, 6, .inr (.inr (.inr (.inr (w_la w)))))) := rfl
theorem wr_5 : (wB w)[5]? = some (.inl (0, 8, .inl (w_ar w 5))) := rfl
theorem wr_6 : (wB w)[6]? = some (.inl (0, 8, .inl (w_ar w 6))) := rfl
theorem wr_7 : (wB w)[7]? = some (.inl (4, 2, .inr (.inr (.inr (.inr (w_im w)))))) := rfl
theorem wr_8 : (wB w)[8]? = some (.inr (4, [.ref 9, .int (w_sc w 801), .int (w_sc w 802)])) := rfl
theorem wr_9 : (wB w)[9]? = some (.inl (0, 50, .inl (w_ar w 9))) := rfl
theorem wr_10 : (wB w)[10]? = some (.inr (7, [.ref 8, .ref 11, .ref (w_rh w), va_rf (w_rl w)])) := rfl
theorem wr_11 : (wB w)[11]? = some (.inl (0, 7, .inl (w_ar w 11))) := rfl
theorem wr_12 : (wB w)[12]? = some (.inr (0, [.ref 13, .ref 14, .ref 15, .ref 16, .ref 17, .int (w_sc w 1205), .int (w_sc w 1206)])) := rfl
theorem wr_13 : (wB w)[13]? = some (.inl (0, 49, .inl (w_ar w 13))) := rfl
theorem wr_14 : (wB w)[14]? = some (.inl (0, 1024, .inl (w_ar w 14))) := rfl
theorem wr_15 : (wB w)[15]? = some (.inl (0, 7, .inl (w_ar w 15))) := rfl
theorem wr_16 : (wB w)[16]? = some (.inl (0, 7, .inl (w_ar w 16))) := rfl
theorem wr_17 : (wB w)[17]? = some (.inl (0, 7, .inl (w_ar w 17))) := rfl
theorem wr_18 : (wB w)[18]? = some (.inr (5, [.ref 10, .ref 12, .ref 19, .ref 21, .ref 23, .int (w_sc w 1805)])) := rfl
theorem wr_19 : (wB w)[19]? = some (.inr (3, [.ref 20])) := rfl
theorem wr_20 : (wB w)[20]? = some (.inl (0, 66, .inl (w_ar w 20))) := rfl
theorem wr_21 : (wB w)[21]? = some (.inr (3, [.ref 22])) := rfl
theorem wr_22 : (wB w)[22]? = some (.inl (0, 66, .inl (w_ar w 22))) := rfl
theorem wr_23 : (wB w)[23]? = some (.inl (0, 7, .inl (w_ar w 23))) := rfl
theorem wr_24 : (wB w)[24]? = some (.inr (2, [.ref 1, .ref 2, .ref 10, .ref 8, .ref 25, .ref 28, .ref 31, .ref 33, .int (w_sc w 2408), .int (w_sc w 2409), .int (w_sc w 2410)])) := rfl
theorem wr_25 : (wB w)[25]? = some (.inr (8, [.ref 26, .ref 27, .int (w_sc w 2502)])) := rfl
theorem wr_26 : (wB w)[26]? = some (.inl (0, 16, .inl (w_ar w 26))) := rfl
theorem wr_27 : (wB w)[27]? = some (.inl (0, 1056, .inl (w_ar w 27))) := rfl
theorem wr_28 : (wB w)[28]? = some (.inr (8, [.ref 29, .ref 30, .int (w_sc w 2802)])) := rfl
theorem wr_29 : (wB w)[29]? = some (.inl (0, 16, .inl (w_ar w 29))) := rfl
theorem wr_30 : (wB w)[30]? = some (.inl (0, 1056, .inl (w_ar w 30))) := rfl
theorem wr_31 : (wB w)[31]? = some (.inr (3, [.ref 32])) := rfl
theorem wr_32 : (wB w)[32]? = some (.inl (0, 66, .inl (w_ar w 32))) := rfl
theorem wr_33 : (wB w)[33]? = some (.inl (0, 19, .inl (w_ar w 33))) := rfl
theorem wr_34 : (wB w)[34]? = some (.inl (0, 400, .inl (w_ar w 34))) := rfl
theorem wr_35 : (wB w)[35]? = some (.inr (6, [.ref 34, .ref 36, .int (w_sc w 3502), .int (w_sc w 3503), .int (w_sc w 3504), .int (w_sc w 3505), .int (w_sc w 3506), .int (w_sc w 3507), .int (w_sc w 3508)])) := rfl
theorem wr_36 : (wB w)[36]? = some (.inr (1, [.ref 37, .ref 38, .int (w_sc w 3602), .int (w_sc w 3603)])) := rfl
theorem wr_37 : (wB w)[37]? = some (.inl (0, 60, .inl (w_ar w 37))) := rfl
theorem wr_38 : (wB w)[38]? = some (.inl (0, 400, .inl (w_ar w 38))) := rfl
theorem wr_39 : (wB w)[39]? = some (.inl (0, 5, .inl (w_ar w 39))) := rfl
theorem wr_40 : (wB w)[40]? = some (.inr (11, [.int (w_sc w 4000), .ref 41, .ref 42, .ref 43, .ref 44, .ref 45, .int (w_sc w 4006), .ref 46, .int (w_sc w 4008), .int (w_sc w 4009), .int (w_sc w 4010), .ref 47, .ref 48, .int (w_sc w 4013), .int (w_sc w 4014), .ref 49, .ref 50, .ref 51, .int (w_sc w 4018), .int (w_sc w 4019), .int (w_sc w 4020), .int (w_sc w 4021), .int (w_sc w 4022), .int (w_sc w 4023), .int (w_sc w 4024), .int (w_sc w 4025), .ref 52, .int (w_sc w 4027), .int (w_sc w 4028), .ref 53, .ref 54, .ref 55, .int (w_sc w 4032), .ref 56, .ref 57, .ref 58, .ref 59, .ref 60, .ref 61, .int (w_sc w 4039), .int (w_sc w 4040), .ref 62, .ref 63, .int (w_sc w 4043), .int (w_sc w 4044), .int (w_sc w 4045), .int (w_sc w 4046), .int (w_sc w 4047), .int (w_sc w 4048), .ref 64, .ref 65, .int (w_sc w 4051), .int (w_sc w 4052)])) := rfl
theorem wr_41 : (wB w)[41]? = some (.inl (0, 7, .inl (w_ar w 41))) := rfl
theorem wr_42 : (wB w)[42]? = some (.inl (0, 5692, .inl (w_ar w 42))) := rfl
theorem wr_43 : (wB w)[43]? = some (.inl (0, 11384, .inl (w_ar w 43))) := rfl
theorem wr_44 : (wB w)[44]? = some (.inl (2, 2, .inl (w_ar w 44))) := rfl
theorem wr_45 : (wB w)[45]? = some (.inl (0, 128, .inl (w_ar w 45))) := rfl
theorem wr_46 : (wB w)[46]? = some (.inl (1, 132, .inl (w_ar w 46))) := rfl
theorem wr_47 : (wB w)[47]? = some (.inl (1, 400, .inl (w_ar w 47))) := rfl
theorem wr_48 : (wB w)[48]? = some (.inl (0, 5, .inl (w_ar w 48))) := rfl
theorem wr_49 : (wB w)[49]? = some (.inl (0, 401, .inl (w_ar w 49))) := rfl
theorem wr_50 : (wB w)[50]? = some (.inl (0, 401, .inl (w_ar w 50))) := rfl
theorem wr_51 : (wB w)[51]? = some (.inl (0, 401, .inl (w_ar w 51))) := rfl
theorem wr_52 : (wB w)[52]? = some (.inl (0, 7, .inl (w_ar w 52))) := rfl
theorem wr_53 : (wB w)[53]? = some (.inl (0, 49, .inl (w_ar w 53))) := rfl
theorem wr_54 : (wB w)[54]? = some (.inl (0, 1040, .inl (w_ar w 54))) := rfl
theorem wr_55 : (wB w)[55]? = some (.inl (0, 1040, .inl (w_ar w 55))) := rfl
theorem wr_56 : (wB w)[56]? = some (.inl (0, 49, .inl (w_ar w 56))) := rfl
theorem wr_57 : (wB w)[57]? = some (.inl (2, 49, .inl (w_ar w 57))) := rfl
theorem wr_58 : (wB w)[58]? = some (.inl (0, 1024, .inl (w_ar w 58))) := rfl
theorem wr_59 : (wB w)[59]? = some (.inl (0, 7, .inl (w_ar w 59))) := rfl
theorem wr_60 : (wB w)[60]? = some (.inl (0, 7, .inl (w_ar w 60))) := rfl
theorem wr_61 : (wB w)[61]? = some (.inl (0, 7, .inl (w_ar w 61))) := rfl
theorem wr_62 : (wB w)[62]? = some (.inl (0, 7, .inl (w_ar w 62))) := rfl
theorem wr_63 : (wB w)[63]? = some (.inl (2, 49, .inl (w_ar w 63))) := rfl
theorem wr_64 : (wB w)[64]? = some (.inl (3, 2, .inr (.inl (w_sm w)))) := rfl
theorem wr_65 : (wB w)[65]? = some (.inl (0, 64, .inl (w_ar w 65))) := rfl
theorem ww_3 {f : Nat → Int32} : (wB w).set 3 (.inl (0, 66, .inl f)) = wB (s_ar w 3 f) := rfl
theorem ww_5 {f : Nat → Int32} : (wB w).set 5 (.inl (0, 8, .inl f)) = wB (s_ar w 5 f) := rfl
theorem ww_6 {f : Nat → Int32} : (wB w).set 6 (.inl (0, 8, .inl f)) = wB (s_ar w 6 f) := rfl
theorem ww_9 {f : Nat → Int32} : (wB w).set 9 (.inl (0, 50, .inl f)) = wB (s_ar w 9 f) := rfl
theorem ww_11 {f : Nat → Int32} : (wB w).set 11 (.inl (0, 7, .inl f)) = wB (s_ar w 11 f) := rfl
theorem ww_13 {f : Nat → Int32} : (wB w).set 13 (.inl (0, 49, .inl f)) = wB (s_ar w 13 f) := rfl
theorem ww_14 {f : Nat → Int32} : (wB w).set 14 (.inl (0, 1024, .inl f)) = wB (s_ar w 14 f) := rfl
theorem ww_15 {f : Nat → Int32} : (wB w).set 15 (.inl (0, 7, .inl f)) = wB (s_ar w 15 f) := rfl
theorem ww_16 {f : Nat → Int32} : (wB w).set 16 (.inl (0, 7, .inl f)) = wB (s_ar w 16 f) := rfl
theorem ww_17 {f : Nat → Int32} : (wB w).set 17 (.inl (0, 7, .inl f)) = wB (s_ar w 17 f) := rfl
theorem ww_20 {f : Nat → Int32} : (wB w).set 20 (.inl (0, 66, .inl f)) = wB (s_ar w 20 f) := rfl
theorem ww_22 {f : Nat → Int32} : (wB w).set 22 (.inl (0, 66, .inl f)) = wB (s_ar w 22 f) := rfl
theorem ww_23 {f : Nat → Int32} : (wB w).set 23 (.inl (0, 7, .inl f)) = wB (s_ar w 23 f) := rfl
theorem ww_26 {f : Nat → Int32} : (wB w).set 26 (.inl (0, 16, .inl f)) = wB (s_ar w 26 f) := rfl
theorem ww_27 {f : Nat → Int32} : (wB w).set 27 (.inl (0, 1056, .inl f)) = wB (s_ar w 27 f) := rfl
theorem ww_29 {f : Nat → Int32} : (wB w).set 29 (.inl (0, 16, .inl f)) = wB (s_ar w 29 f) := rfl
theorem ww_30 {f : Nat → Int32} : (wB w).set 30 (.inl (0, 1056, .inl f)) = wB (s_ar w 30 f) := rfl
theorem ww_32 {f : Nat → Int32} : (wB w).set 32 (.inl (0, 66, .inl f)) = wB (s_ar w 32 f) := rfl
theorem ww_33 {f : Nat → Int32} : (wB w).set 33 (.inl (0, 19, .inl f)) = wB (s_ar w 33 f) := rfl
theorem ww_34 {f : Nat → Int32} : (wB w).set 34 (.inl (0, 400, .inl f)) = wB (s_ar w 34 f) := rfl
theorem ww_37 {f : Nat → Int32} : (wB w).set 37 (.inl (0, 60, .inl f)) = wB (s_ar w 37 f) := rfl
theorem ww_38 {f : Nat → Int32} : (wB w).set 38 (.inl (0, 400, .inl f)) = wB (s_ar w 38 f) := rfl
theorem ww_39 {f : Nat → Int32} : (wB w).set 39 (.inl (0, 5, .inl f)) = wB (s_ar w 39 f) := rfl
theorem ww_41 {f : Nat → Int32} : (wB w).set 41 (.inl (0, 7, .inl f)) = wB (s_ar w 41 f) := rfl
theorem ww_42 {f : Nat → Int32} : (wB w).set 42 (.inl (0, 5692, .inl f)) = wB (s_ar w 42 f) := rfl
theorem ww_43 {f : Nat → Int32} : (wB w).set 43 (.inl (0, 11384, .inl f)) = wB (s_ar w 43 f) := rfl
theorem ww_44 {f : Nat → Int32} : (wB w).set 44 (.inl (2, 2, .inl f)) = wB (s_ar w 44 f) := rfl
theorem ww_45 {f : Nat → Int32} : (wB w).set 45 (.inl (0, 128, .inl f)) = wB (s_ar w 45 f) := rfl
theorem ww_46 {f : Nat → Int32} : (wB w).set 46 (.inl (1, 132, .inl f)) = wB (s_ar w 46 f) := rfl
theorem ww_47 {f : Nat → Int32} : (wB w).set 47 (.inl (1, 400, .inl f)) = wB (s_ar w 47 f) := rfl
theorem ww_48 {f : Nat → Int32} : (wB w).set 48 (.inl (0, 5, .inl f)) = wB (s_ar w 48 f) := rfl
theorem ww_49 {f : Nat → Int32} : (wB w).set 49 (.inl (0, 401, .inl f)) = wB (s_ar w 49 f) := rfl
theorem ww_50 {f : Nat → Int32} : (wB w).set 50 (.inl (0, 401, .inl f)) = wB (s_ar w 50 f) := rfl
theorem ww_51 {f : Nat → Int32} : (wB w).set 51 (.inl (0, 401, .inl f)) = wB (s_ar w 51 f) := rfl
theorem ww_52 {f : Nat → Int32} : (wB w).set 52 (.inl (0, 7, .inl f)) = wB (s_ar w 52 f) := rfl
theorem ww_53 {f : Nat → Int32} : (wB w).set 53 (.inl (0, 49, .inl f)) = wB (s_ar w 53 f) := rfl
theorem ww_54 {f : Nat → Int32} : (wB w).set 54 (.inl (0, 1040, .inl f)) = wB (s_ar w 54 f) := rfl
theorem ww_55 {f : Nat → Int32} : (wB w).set 55 (.inl (0, 1040, .inl f)) = wB (s_ar w 55 f) := rfl
theorem ww_56 {f : Nat → Int32} : (wB w).set 56 (.inl (0, 49, .inl f)) = wB (s_ar w 56 f) := rfl
theorem ww_57 {f : Nat → Int32} : (wB w).set 57 (.inl (2, 49, .inl f)) = wB (s_ar w 57 f) := rfl
theorem ww_58 {f : Nat → Int32} : (wB w).set 58 (.inl (0, 1024, .inl f)) = wB (s_ar w 58 f) := rfl
theorem ww_59 {f : Nat → Int32} : (wB w).set 59 (.inl (0, 7, .inl f)) = wB (s_ar w 59 f) := rfl
theorem ww_60 {f : Nat → Int32} : (wB w).set 60 (.inl (0, 7, .inl f)) = wB (s_ar w 60 f) := rfl
theorem ww_61 {f : Nat → Int32} : (wB w).set 61 (.inl (0, 7, .inl f)) = wB (s_ar w 61 f) := rfl
theorem ww_62 {f : Nat → Int32} : (wB w).set 62 (.inl (0, 7, .inl f)) = wB (s_ar w 62 f) := rfl
theorem ww_63 {f : Nat → Int32} : (wB w).set 63 (.inl (2, 49, .inl f)) = wB (s_ar w 63 f) := rfl
theorem ww_65 {f : Nat → Int32} : (wB w).set 65 (.inl (0, 64, .inl f)) = wB (s_ar w 65 f) := rfl
theorem ww_64 {f : Nat → Int64} : (wB w).set 64 (.inl (3, 2, .inr (.inl f))) = wB (s_sm w f) := rfl
theorem ww_4 {f : Nat → Option Nat} : (wB w).set 4 (.inl (5, 6, .inr (.inr (.inr (.inr f))))) = wB (s_la w f) := rfl
theorem ww_7 {f : Nat → Option Nat} : (wB w).set 7 (.inl (4, 2, .inr (.inr (.inr (.inr f))))) = wB (s_im w f) := rfl
theorem wp_11 {x : Int32} : (wB w).set 0 (.inr (10, [.ref 1, .ref 2, .ref 7, .ref 8, .ref 10, .ref 12, .ref 18, .ref 24, .ref 34, .ref 35, .ref 39, .int x, .int (w_sc w 12), .int (w_sc w 13), .int (w_sc w 14)])) = wB (s_sc w 11 x) := rfl
theorem wp_12 {x : Int32} : (wB w).set 0 (.inr (10, [.ref 1, .ref 2, .ref 7, .ref 8, .ref 10, .ref 12, .ref 18, .ref 24, .ref 34, .ref 35, .ref 39, .int (w_sc w 11), .int x, .int (w_sc w 13), .int (w_sc w 14)])) = wB (s_sc w 12 x) := rfl
theorem wp_13 {x : Int32} : (wB w).set 0 (.inr (10, [.ref 1, .ref 2, .ref 7, .ref 8, .ref 10, .ref 12, .ref 18, .ref 24, .ref 34, .ref 35, .ref 39, .int (w_sc w 11), .int (w_sc w 12), .int x, .int (w_sc w 14)])) = wB (s_sc w 13 x) := rfl
theorem wp_14 {x : Int32} : (wB w).set 0 (.inr (10, [.ref 1, .ref 2, .ref 7, .ref 8, .ref 10, .ref 12, .ref 18, .ref 24, .ref 34, .ref 35, .ref 39, .int (w_sc w 11), .int (w_sc w 12), .int (w_sc w 13), .int x])) = wB (s_sc w 14 x) := rfl
theorem wp_104 {x : Int32} : (wB w).set 1 (.inr (9, [.ref 2, .ref 4, .ref 5, .ref 6, .int x, .int (w_sc w 105), .int (w_sc w 106)])) = wB (s_sc w 104 x) := rfl
theorem wp_105 {x : Int32} : (wB w).set 1 (.inr (9, [.ref 2, .ref 4, .ref 5, .ref 6, .int (w_sc w 104), .int x, .int (w_sc w 106)])) = wB (s_sc w 105 x) := rfl
theorem wp_106 {x : Int32} : (wB w).set 1 (.inr (9, [.ref 2, .ref 4, .ref 5, .ref 6, .int (w_sc w 104), .int (w_sc w 105), .int x])) = wB (s_sc w 106 x) := rfl
theorem wp_801 {x : Int32} : (wB w).set 8 (.inr (4, [.ref 9, .int x, .int (w_sc w 802)])) = wB (s_sc w 801 x) := rfl
theorem wp_802 {x : Int32} : (wB w).set 8 (.inr (4, [.ref 9, .int (w_sc w 801), .int x])) = wB (s_sc w 802 x) := rfl
theorem wp_rh {x : Nat} : (wB w).set 10 (.inr (7, [.ref 8, .ref 11, .ref x, va_rf (w_rl w)])) = wB (s_rh w x) := rfl
theorem wp_rl {x : Nat} : (wB w).set 10 (.inr (7, [.ref 8, .ref 11, .ref (w_rh w), .ref x])) = wB (s_rl w (some x)) := rfl
theorem wp_rn : (wB w).set 10 (.inr (7, [.ref 8, .ref 11, .ref (w_rh w), .null])) = wB (s_rl w none) := rfl
theorem wp_1205 {x : Int32} : (wB w).set 12 (.inr (0, [.ref 13, .ref 14, .ref 15, .ref 16, .ref 17, .int x, .int (w_sc w 1206)])) = wB (s_sc w 1205 x) := rfl
theorem wp_1206 {x : Int32} : (wB w).set 12 (.inr (0, [.ref 13, .ref 14, .ref 15, .ref 16, .ref 17, .int (w_sc w 1205), .int x])) = wB (s_sc w 1206 x) := rfl
theorem wp_1805 {x : Int32} : (wB w).set 18 (.inr (5, [.ref 10, .ref 12, .ref 19, .ref 21, .ref 23, .int x])) = wB (s_sc w 1805 x) := rfl
theorem wp_2408 {x : Int32} : (wB w).set 24 (.inr (2, [.ref 1, .ref 2, .ref 10, .ref 8, .ref 25, .ref 28, .ref 31, .ref 33, .int x, .int (w_sc w 2409), .int (w_sc w 2410)])) = wB (s_sc w 2408 x) := rfl
theorem wp_2409 {x : Int32} : (wB w).set 24 (.inr (2, [.ref 1, .ref 2, .ref 10, .ref 8, .ref 25, .ref 28, .ref 31, .ref 33, .int (w_sc w 2408), .int x, .int (w_sc w 2410)])) = wB (s_sc w 2409 x) := rfl
theorem wp_2410 {x : Int32} : (wB w).set 24 (.inr (2, [.ref 1, .ref 2, .ref 10, .ref 8, .ref 25, .ref 28, .ref 31, .ref 33, .int (w_sc w 2408), .int (w_sc w 2409), .int x])) = wB (s_sc w 2410 x) := rfl
theorem wp_2502 {x : Int32} : (wB w).set 25 (.inr (8, [.ref 26, .ref 27, .int x])) = wB (s_sc w 2502 x) := rfl
theorem wp_2802 {x : Int32} : (wB w).set 28 (.inr (8, [.ref 29, .ref 30, .int x])) = wB (s_sc w 2802 x) := rfl
theorem wp_3502 {x : Int32} : (wB w).set 35 (.inr (6, [.ref 34, .ref 36, .int x, .int (w_sc w 3503), .int (w_sc w 3504), .int (w_sc w 3505), .int (w_sc w 3506), .int (w_sc w 3507), .int (w_sc w 3508)])) = wB (s_sc w 3502 x) := rfl
theorem wp_3503 {x : Int32} : (wB w).set 35 (.inr (6, [.ref 34, .ref 36, .int (w_sc w 3502), .int x, .int (w_sc w 3504), .int (w_sc w 3505), .int (w_sc w 3506), .int (w_sc w 3507), .int (w_sc w 3508)])) = wB (s_sc w 3503 x) := rfl
theorem wp_3504 {x : Int32} : (wB w).set 35 (.inr (6, [.ref 34, .ref 36, .int (w_sc w 3502), .int (w_sc w 3503), .int x, .int (w_sc w 3505), .int (w_sc w 3506), .int (w_sc w 3507), .int (w_sc w 3508)])) = wB (s_sc w 3504 x) := rfl
theorem wp_3505 {x : Int32} : (wB w).set 35 (.inr (6, [.ref 34, .ref 36, .int (w_sc w 3502), .int (w_sc w 3503), .int (w_sc w 3504), .int x, .int (w_sc w 3506), .int (w_sc w 3507), .int (w_sc w 3508)])) = wB (s_sc w 3505 x) := rfl
theorem wp_3506 {x : Int32} : (wB w).set 35 (.inr (6, [.ref 34, .ref 36, .int (w_sc w 3502), .int (w_sc w 3503), .int (w_sc w 3504), .int (w_sc w 3505), .int x, .int (w_sc w 3507), .int (w_sc w 3508)])) = wB (s_sc w 3506 x) := rfl
theorem wp_3507 {x : Int32} : (wB w).set 35 (.inr (6, [.ref 34, .ref 36, .int (w_sc w 3502), .int (w_sc w 3503), .int (w_sc w 3504), .int (w_sc w 3505), .int (w_sc w 3506), .int x, .int (w_sc w 3508)])) = wB (s_sc w 3507 x) := rfl
theorem wp_3508 {x : Int32} : (wB w).set 35 (.inr (6, [.ref 34, .ref 36, .int (w_sc w 3502), .int (w_sc w 3503), .int (w_sc w 3504), .int (w_sc w 3505), .int (w_sc w 3506), .int (w_sc w 3507), .int x])) = wB (s_sc w 3508 x) := rfl
theorem wp_3602 {x : Int32} : (wB w).set 36 (.inr (1, [.ref 37, .ref 38, .int x, .int (w_sc w 3603)])) = wB (s_sc w 3602 x) := rfl
theorem wp_3603 {x : Int32} : (wB w).set 36 (.inr (1, [.ref 37, .ref 38, .int (w_sc w 3602), .int x])) = wB (s_sc w 3603 x) := rfl
theorem wp_4000 {x : Int32} : (wB w).set 40 (.inr (11, [.int x, .ref 41, .ref 42, .ref 43, .ref 44, .ref 45, .int (w_sc w 4006), .ref 46, .int (w_sc w 4008), .int (w_sc w 4009), .int (w_sc w 4010), .ref 47, .ref 48, .int (w_sc w 4013), .int (w_sc w 4014), .ref 49, .ref 50, .ref 51, .int (w_sc w 4018), .int (w_sc w 4019), .int (w_sc w 4020), .int (w_sc w 4021), .int (w_sc w 4022), .int (w_sc w 4023), .int (w_sc w 4024), .int (w_sc w 4025), .ref 52, .int (w_sc w 4027), .int (w_sc w 4028), .ref 53, .ref 54, .ref 55, .int (w_sc w 4032), .ref 56, .ref 57, .ref 58, .ref 59, .ref 60, .ref 61, .int (w_sc w 4039), .int (w_sc w 4040), .ref 62, .ref 63, .int (w_sc w 4043), .int (w_sc w 4044), .int (w_sc w 4045), .int (w_sc w 4046), .int (w_sc w 4047), .int (w_sc w 4048), .ref 64, .ref 65, .int (w_sc w 4051), .int (w_sc w 4052)])) = wB (s_sc w 4000 x) := rfl
theorem wp_4006 {x : Int32} : (wB w).set 40 (.inr (11, [.int (w_sc w 4000), .ref 41, .ref 42, .ref 43, .ref 44, .ref 45, .int x, .ref 46, .int (w_sc w 4008), .int (w_sc w 4009), .int (w_sc w 4010), .ref 47, .ref 48, .int (w_sc w 4013), .int (w_sc w 4014), .ref 49, .ref 50, .ref 51, .int (w_sc w 4018), .int (w_sc w 4019), .int (w_sc w 4020), .int (w_sc w 4021), .int (w_sc w 4022), .int (w_sc w 4023), .int (w_sc w 4024), .int (w_sc w 4025), .ref 52, .int (w_sc w 4027), .int (w_sc w 4028), .ref 53, .ref 54, .ref 55, .int (w_sc w 4032), .ref 56, .ref 57, .ref 58, .ref 59, .ref 60, .ref 61, .int (w_sc w 4039), .int (w_sc w 4040), .ref 62, .ref 63, .int (w_sc w 4043), .int (w_sc w 4044), .int (w_sc w 4045), .int (w_sc w 4046), .int (w_sc w 4047), .int (w_sc w 4048), .ref 64, .ref 65, .int (w_sc w 4051), .int (w_sc w 4052)])) = wB (s_sc w 4006 x) := rfl
theorem wp_4008 {x : Int32} : (wB w).set 40 (.inr (11, [.int (w_sc w 4000), .ref 41, .ref 42, .ref 43, .ref 44, .ref 45, .int (w_sc w 4006), .ref 46, .int x, .int (w_sc w 4009), .int (w_sc w 4010), .ref 47, .ref 48, .int (w_sc w 4013), .int (w_sc w 4014), .ref 49, .ref 50, .ref 51, .int (w_sc w 4018), .int (w_sc w 4019), .int (w_sc w 4020), .int (w_sc w 4021), .int (w_sc w 4022), .int (w_sc w 4023), .int (w_sc w 4024), .int (w_sc w 4025), .ref 52, .int (w_sc w 4027), .int (w_sc w 4028), .ref 53, .ref 54, .ref 55, .int (w_sc w 4032), .ref 56, .ref 57, .ref 58, .ref 59, .ref 60, .ref 61, .int (w_sc w 4039), .int (w_sc w 4040), .ref 62, .ref 63, .int (w_sc w 4043), .int (w_sc w 4044), .int (w_sc w 4045), .int (w_sc w 4046), .int (w_sc w 4047), .int (w_sc w 4048), .ref 64, .ref 65, .int (w_sc w 4051), .int (w_sc w 4052)])) = wB (s_sc w 4008 x) := rfl
theorem wp_4009 {x : Int32} : (wB w).set 40 (.inr (11, [.int (w_sc w 4000), .ref 41, .ref 42, .ref 43, .ref 44, .ref 45, .int (w_sc w 4006), .ref 46, .int (w_sc w 4008), .int x, .int (w_sc w 4010), .ref 47, .ref 48, .int (w_sc w 4013), .int (w_sc w 4014), .ref 49, .ref 50, .ref 51, .int (w_sc w 4018), .int (w_sc w 4019), .int (w_sc w 4020), .int (w_sc w 4021), .int (w_sc w 4022), .int (w_sc w 4023), .int (w_sc w 4024), .int (w_sc w 4025), .ref 52, .int (w_sc w 4027), .int (w_sc w 4028), .ref 53, .ref 54, .ref 55, .int (w_sc w 4032), .ref 56, .ref 57, .ref 58, .ref 59, .ref 60, .ref 61, .int (w_sc w 4039), .int (w_sc w 4040), .ref 62, .ref 63, .int (w_sc w 4043), .int (w_sc w 4044), .int (w_sc w 4045), .int (w_sc w 4046), .int (w_sc w 4047), .int (w_sc w 4048), .ref 64, .ref 65, .int (w_sc w 4051), .int (w_sc w 4052)])) = wB (s_sc w 4009 x) := rfl
theorem wp_4010 {x : Int32} : (wB w).set 40 (.inr (11, [.int (w_sc w 4000), .ref 41, .ref 42, .ref 43, .ref 44, .ref 45, .int (w_sc w 4006), .ref 46, .int (w_sc w 4008), .int (w_sc w 4009), .int x, .ref 47, .ref 48, .int (w_sc w 4013), .int (w_sc w 4014), .ref 49, .ref 50, .ref 51, .int (w_sc w 4018), .int (w_sc w 4019), .int (w_sc w 4020), .int (w_sc w 4021), .int (w_sc w 4022), .int (w_sc w 4023), .int (w_sc w 4024), .int (w_sc w 4025), .ref 52, .int (w_sc w 4027), .int (w_sc w 4028), .ref 53, .ref 54, .ref 55, .int (w_sc w 4032), .ref 56, .ref 57, .ref 58, .ref 59, .ref 60, .ref 61, .int (w_sc w 4039), .int (w_sc w 4040), .ref 62, .ref 63, .int (w_sc w 4043), .int (w_sc w 4044), .int (w_sc w 4045), .int (w_sc w 4046), .int (w_sc w 4047), .int (w_sc w 4048), .ref 64, .ref 65, .int (w_sc w 4051), .int (w_sc w 4052)])) = wB (s_sc w 4010 x) := rfl
theorem wp_4013 {x : Int32} : (wB w).set 40 (.inr (11, [.int (w_sc w 4000), .ref 41, .ref 42, .ref 43, .ref 44, .ref 45, .int (w_sc w 4006), .ref 46, .int (w_sc w 4008), .int (w_sc w 4009), .int (w_sc w 4010), .ref 47, .ref 48, .int x, .int (w_sc w 4014), .ref 49, .ref 50, .ref 51, .int (w_sc w 4018), .int (w_sc w 4019), .int (w_sc w 4020), .int (w_sc w 4021), .int (w_sc w 4022), .int (w_sc w 4023), .int (w_sc w 4024), .int (w_sc w 4025), .ref 52, .int (w_sc w 4027), .int (w_sc w 4028), .ref 53, .ref 54, .ref 55, .int (w_sc w 4032), .ref 56, .ref 57, .ref 58, .ref 59, .ref 60, .ref 61, .int (w_sc w 4039), .int (w_sc w 4040), .ref 62, .ref 63, .int (w_sc w 4043), .int (w_sc w 4044), .int (w_sc w 4045), .int (w_sc w 4046), .int (w_sc w 4047), .int (w_sc w 4048), .ref 64, .ref 65, .int (w_sc w 4051), .int (w_sc w 4052)])) = wB (s_sc w 4013 x) := rfl
theorem wp_4014 {x : Int32} : (wB w).set 40 (.inr (11, [.int (w_sc w 4000), .ref 41, .ref 42, .ref 43, .ref 44, .ref 45, .int (w_sc w 4006), .ref 46, .int (w_sc w 4008), .int (w_sc w 4009), .int (w_sc w 4010), .ref 47, .ref 48, .int (w_sc w 4013), .int x, .ref 49, .ref 50, .ref 51, .int (w_sc w 4018), .int (w_sc w 4019), .int (w_sc w 4020), .int (w_sc w 4021), .int (w_sc w 4022), .int (w_sc w 4023), .int (w_sc w 4024), .int (w_sc w 4025), .ref 52, .int (w_sc w 4027), .int (w_sc w 4028), .ref 53, .ref 54, .ref 55, .int (w_sc w 4032), .ref 56, .ref 57, .ref 58, .ref 59, .ref 60, .ref 61, .int (w_sc w 4039), .int (w_sc w 4040), .ref 62, .ref 63, .int (w_sc w 4043), .int (w_sc w 4044), .int (w_sc w 4045), .int (w_sc w 4046), .int (w_sc w 4047), .int (w_sc w 4048), .ref 64, .ref 65, .int (w_sc w 4051), .int (w_sc w 4052)])) = wB (s_sc w 4014 x) := rfl
theorem wp_4018 {x : Int32} : (wB w).set 40 (.inr (11, [.int (w_sc w 4000), .ref 41, .ref 42, .ref 43, .ref 44, .ref 45, .int (w_sc w 4006), .ref 46, .int (w_sc w 4008), .int (w_sc w 4009), .int (w_sc w 4010), .ref 47, .ref 48, .int (w_sc w 4013), .int (w_sc w 4014), .ref 49, .ref 50, .ref 51, .int x, .int (w_sc w 4019), .int (w_sc w 4020), .int (w_sc w 4021), .int (w_sc w 4022), .int (w_sc w 4023), .int (w_sc w 4024), .int (w_sc w 4025), .ref 52, .int (w_sc w 4027), .int (w_sc w 4028), .ref 53, .ref 54, .ref 55, .int (w_sc w 4032), .ref 56, .ref 57, .ref 58, .ref 59, .ref 60, .ref 61, .int (w_sc w 4039), .int (w_sc w 4040), .ref 62, .ref 63, .int (w_sc w 4043), .int (w_sc w 4044), .int (w_sc w 4045), .int (w_sc w 4046), .int (w_sc w 4047), .int (w_sc w 4048), .ref 64, .ref 65, .int (w_sc w 4051), .int (w_sc w 4052)])) = wB (s_sc w 4018 x) := rfl
theorem wp_4019 {x : Int32} : (wB w).set 40 (.inr (11, [.int (w_sc w 4000), .ref 41, .ref 42, .ref 43, .ref 44, .ref 45, .int (w_sc w 4006), .ref 46, .int (w_sc w 4008), .int (w_sc w 4009), .int (w_sc w 4010), .ref 47, .ref 48, .int (w_sc w 4013), .int (w_sc w 4014), .ref 49, .ref 50, .ref 51, .int (w_sc w 4018), .int x, .int (w_sc w 4020), .int (w_sc w 4021), .int (w_sc w 4022), .int (w_sc w 4023), .int (w_sc w 4024), .int (w_sc w 4025), .ref 52, .int (w_sc w 4027), .int (w_sc w 4028), .ref 53, .ref 54, .ref 55, .int (w_sc w 4032), .ref 56, .ref 57, .ref 58, .ref 59, .ref 60, .ref 61, .int (w_sc w 4039), .int (w_sc w 4040), .ref 62, .ref 63, .int (w_sc w 4043), .int (w_sc w 4044), .int (w_sc w 4045), .int (w_sc w 4046), .int (w_sc w 4047), .int (w_sc w 4048), .ref 64, .ref 65, .int (w_sc w 4051), .int (w_sc w 4052)])) = wB (s_sc w 4019 x) := rfl
theorem wp_4020 {x : Int32} : (wB w).set 40 (.inr (11, [.int (w_sc w 4000), .ref 41, .ref 42, .ref 43, .ref 44, .ref 45, .int (w_sc w 4006), .ref 46, .int (w_sc w 4008), .int (w_sc w 4009), .int (w_sc w 4010), .ref 47, .ref 48, .int (w_sc w 4013), .int (w_sc w 4014), .ref 49, .ref 50, .ref 51, .int (w_sc w 4018), .int (w_sc w 4019), .int x, .int (w_sc w 4021), .int (w_sc w 4022), .int (w_sc w 4023), .int (w_sc w 4024), .int (w_sc w 4025), .ref 52, .int (w_sc w 4027), .int (w_sc w 4028), .ref 53, .ref 54, .ref 55, .int (w_sc w 4032), .ref 56, .ref 57, .ref 58, .ref 59, .ref 60, .ref 61, .int (w_sc w 4039), .int (w_sc w 4040), .ref 62, .ref 63, .int (w_sc w 4043), .int (w_sc w 4044), .int (w_sc w 4045), .int (w_sc w 4046), .int (w_sc w 4047), .int (w_sc w 4048), .ref 64, .ref 65, .int (w_sc w 4051), .int (w_sc w 4052)])) = wB (s_sc w 4020 x) := rfl
theorem wp_4021 {x : Int32} : (wB w).set 40 (.inr (11, [.int (w_sc w 4000), .ref 41, .ref 42, .ref 43, .ref 44, .ref 45, .int (w_sc w 4006), .ref 46, .int (w_sc w 4008), .int (w_sc w 4009), .int (w_sc w 4010), .ref 47, .ref 48, .int (w_sc w 4013), .int (w_sc w 4014), .ref 49, .ref 50, .ref 51, .int (w_sc w 4018), .int (w_sc w 4019), .int (w_sc w 4020), .int x, .int (w_sc w 4022), .int (w_sc w 4023), .int (w_sc w 4024), .int (w_sc w 4025), .ref 52, .int (w_sc w 4027), .int (w_sc w 4028), .ref 53, .ref 54, .ref 55, .int (w_sc w 4032), .ref 56, .ref 57, .ref 58, .ref 59, .ref 60, .ref 61, .int (w_sc w 4039), .int (w_sc w 4040), .ref 62, .ref 63, .int (w_sc w 4043), .int (w_sc w 4044), .int (w_sc w 4045), .int (w_sc w 4046), .int (w_sc w 4047), .int (w_sc w 4048), .ref 64, .ref 65, .int (w_sc w 4051), .int (w_sc w 4052)])) = wB (s_sc w 4021 x) := rfl
theorem wp_4022 {x : Int32} : (wB w).set 40 (.inr (11, [.int (w_sc w 4000), .ref 41, .ref 42, .ref 43, .ref 44, .ref 45, .int (w_sc w 4006), .ref 46, .int (w_sc w 4008), .int (w_sc w 4009), .int (w_sc w 4010), .ref 47, .ref 48, .int (w_sc w 4013), .int (w_sc w 4014), .ref 49, .ref 50, .ref 51, .int (w_sc w 4018), .int (w_sc w 4019), .int (w_sc w 4020), .int (w_sc w 4021), .int x, .int (w_sc w 4023), .int (w_sc w 4024), .int (w_sc w 4025), .ref 52, .int (w_sc w 4027), .int (w_sc w 4028), .ref 53, .ref 54, .ref 55, .int (w_sc w 4032), .ref 56, .ref 57, .ref 58, .ref 59, .ref 60, .ref 61, .int (w_sc w 4039), .int (w_sc w 4040), .ref 62, .ref 63, .int (w_sc w 4043), .int (w_sc w 4044), .int (w_sc w 4045), .int (w_sc w 4046), .int (w_sc w 4047), .int (w_sc w 4048), .ref 64, .ref 65, .int (w_sc w 4051), .int (w_sc w 4052)])) = wB (s_sc w 4022 x) := rfl
theorem wp_4023 {x : Int32} : (wB w).set 40 (.inr (11, [.int (w_sc w 4000), .ref 41, .ref 42, .ref 43, .ref 44, .ref 45, .int (w_sc w 4006), .ref 46, .int (w_sc w 4008), .int (w_sc w 4009), .int (w_sc w 4010), .ref 47, .ref 48, .int (w_sc w 4013), .int (w_sc w 4014), .ref 49, .ref 50, .ref 51, .int (w_sc w 4018), .int (w_sc w 4019), .int (w_sc w 4020), .int (w_sc w 4021), .int (w_sc w 4022), .int x, .int (w_sc w 4024), .int (w_sc w 4025), .ref 52, .int (w_sc w 4027), .int (w_sc w 4028), .ref 53, .ref 54, .ref 55, .int (w_sc w 4032), .ref 56, .ref 57, .ref 58, .ref 59, .ref 60, .ref 61, .int (w_sc w 4039), .int (w_sc w 4040), .ref 62, .ref 63, .int (w_sc w 4043), .int (w_sc w 4044), .int (w_sc w 4045), .int (w_sc w 4046), .int (w_sc w 4047), .int (w_sc w 4048), .ref 64, .ref 65, .int (w_sc w 4051), .int (w_sc w 4052)])) = wB (s_sc w 4023 x) := rfl
theorem wp_4024 {x : Int32} : (wB w).set 40 (.inr (11, [.int (w_sc w 4000), .ref 41, .ref 42, .ref 43, .ref 44, .ref 45, .int (w_sc w 4006), .ref 46, .int (w_sc w 4008), .int (w_sc w 4009), .int (w_sc w 4010), .ref 47, .ref 48, .int (w_sc w 4013), .int (w_sc w 4014), .ref 49, .ref 50, .ref 51, .int (w_sc w 4018), .int (w_sc w 4019), .int (w_sc w 4020), .int (w_sc w 4021), .int (w_sc w 4022), .int (w_sc w 4023), .int x, .int (w_sc w 4025), .ref 52, .int (w_sc w 4027), .int (w_sc w 4028), .ref 53, .ref 54, .ref 55, .int (w_sc w 4032), .ref 56, .ref 57, .ref 58, .ref 59, .ref 60, .ref 61, .int (w_sc w 4039), .int (w_sc w 4040), .ref 62, .ref 63, .int (w_sc w 4043), .int (w_sc w 4044), .int (w_sc w 4045), .int (w_sc w 4046), .int (w_sc w 4047), .int (w_sc w 4048), .ref 64, .ref 65, .int (w_sc w 4051), .int (w_sc w 4052)])) = wB (s_sc w 4024 x) := rfl
theorem wp_4025 {x : Int32} : (wB w).set 40 (.inr (11, [.int (w_sc w 4000), .ref 41, .ref 42, .ref 43, .ref 44, .ref 45, .int (w_sc w 4006), .ref 46, .int (w_sc w 4008), .int (w_sc w 4009), .int (w_sc w 4010), .ref 47, .ref 48, .int (w_sc w 4013), .int (w_sc w 4014), .ref 49, .ref 50, .ref 51, .int (w_sc w 4018), .int (w_sc w 4019), .int (w_sc w 4020), .int (w_sc w 4021), .int (w_sc w 4022), .int (w_sc w 4023), .int (w_sc w 4024), .int x, .ref 52, .int (w_sc w 4027), .int (w_sc w 4028), .ref 53, .ref 54, .ref 55, .int (w_sc w 4032), .ref 56, .ref 57, .ref 58, .ref 59, .ref 60, .ref 61, .int (w_sc w 4039), .int (w_sc w 4040), .ref 62, .ref 63, .int (w_sc w 4043), .int (w_sc w 4044), .int (w_sc w 4045), .int (w_sc w 4046), .int (w_sc w 4047), .int (w_sc w 4048), .ref 64, .ref 65, .int (w_sc w 4051), .int (w_sc w 4052)])) = wB (s_sc w 4025 x) := rfl
theorem wp_4027 {x : Int32} : (wB w).set 40 (.inr (11, [.int (w_sc w 4000), .ref 41, .ref 42, .ref 43, .ref 44, .ref 45, .int (w_sc w 4006), .ref 46, .int (w_sc w 4008), .int (w_sc w 4009), .int (w_sc w 4010), .ref 47, .ref 48, .int (w_sc w 4013), .int (w_sc w 4014), .ref 49, .ref 50, .ref 51, .int (w_sc w 4018), .int (w_sc w 4019), .int (w_sc w 4020), .int (w_sc w 4021), .int (w_sc w 4022), .int (w_sc w 4023), .int (w_sc w 4024), .int (w_sc w 4025), .ref 52, .int x, .int (w_sc w 4028), .ref 53, .ref 54, .ref 55, .int (w_sc w 4032), .ref 56, .ref 57, .ref 58, .ref 59, .ref 60, .ref 61, .int (w_sc w 4039), .int (w_sc w 4040), .ref 62, .ref 63, .int (w_sc w 4043), .int (w_sc w 4044), .int (w_sc w 4045), .int (w_sc w 4046), .int (w_sc w 4047), .int (w_sc w 4048), .ref 64, .ref 65, .int (w_sc w 4051), .int (w_sc w 4052)])) = wB (s_sc w 4027 x) := rfl
theorem wp_4028 {x : Int32} : (wB w).set 40 (.inr (11, [.int (w_sc w 4000), .ref 41, .ref 42, .ref 43, .ref 44, .ref 45, .int (w_sc w 4006), .ref 46, .int (w_sc w 4008), .int (w_sc w 4009), .int (w_sc w 4010), .ref 47, .ref 48, .int (w_sc w 4013), .int (w_sc w 4014), .ref 49, .ref 50, .ref 51, .int (w_sc w 4018), .int (w_sc w 4019), .int (w_sc w 4020), .int (w_sc w 4021), .int (w_sc w 4022), .int (w_sc w 4023), .int (w_sc w 4024), .int (w_sc w 4025), .ref 52, .int (w_sc w 4027), .int x, .ref 53, .ref 54, .ref 55, .int (w_sc w 4032), .ref 56, .ref 57, .ref 58, .ref 59, .ref 60, .ref 61, .int (w_sc w 4039), .int (w_sc w 4040), .ref 62, .ref 63, .int (w_sc w 4043), .int (w_sc w 4044), .int (w_sc w 4045), .int (w_sc w 4046), .int (w_sc w 4047), .int (w_sc w 4048), .ref 64, .ref 65, .int (w_sc w 4051), .int (w_sc w 4052)])) = wB (s_sc w 4028 x) := rfl
theorem wp_4032 {x : Int32} : (wB w).set 40 (.inr (11, [.int (w_sc w 4000), .ref 41, .ref 42, .ref 43, .ref 44, .ref 45, .int (w_sc w 4006), .ref 46, .int (w_sc w 4008), .int (w_sc w 4009), .int (w_sc w 4010), .ref 47, .ref 48, .int (w_sc w 4013), .int (w_sc w 4014), .ref 49, .ref 50, .ref 51, .int (w_sc w 4018), .int (w_sc w 4019), .int (w_sc w 4020), .int (w_sc w 4021), .int (w_sc w 4022), .int (w_sc w 4023), .int (w_sc w 4024), .int (w_sc w 4025), .ref 52, .int (w_sc w 4027), .int (w_sc w 4028), .ref 53, .ref 54, .ref 55, .int x, .ref 56, .ref 57, .ref 58, .ref 59, .ref 60, .ref 61, .int (w_sc w 4039), .int (w_sc w 4040), .ref 62, .ref 63, .int (w_sc w 4043), .int (w_sc w 4044), .int (w_sc w 4045), .int (w_sc w 4046), .int (w_sc w 4047), .int (w_sc w 4048), .ref 64, .ref 65, .int (w_sc w 4051), .int (w_sc w 4052)])) = wB (s_sc w 4032 x) := rfl
theorem wp_4039 {x : Int32} : (wB w).set 40 (.inr (11, [.int (w_sc w 4000), .ref 41, .ref 42, .ref 43, .ref 44, .ref 45, .int (w_sc w 4006), .ref 46, .int (w_sc w 4008), .int (w_sc w 4009), .int (w_sc w 4010), .ref 47, .ref 48, .int (w_sc w 4013), .int (w_sc w 4014), .ref 49, .ref 50, .ref 51, .int (w_sc w 4018), .int (w_sc w 4019), .int (w_sc w 4020), .int (w_sc w 4021), .int (w_sc w 4022), .int (w_sc w 4023), .int (w_sc w 4024), .int (w_sc w 4025), .ref 52, .int (w_sc w 4027), .int (w_sc w 4028), .ref 53, .ref 54, .ref 55, .int (w_sc w 4032), .ref 56, .ref 57, .ref 58, .ref 59, .ref 60, .ref 61, .int x, .int (w_sc w 4040), .ref 62, .ref 63, .int (w_sc w 4043), .int (w_sc w 4044), .int (w_sc w 4045), .int (w_sc w 4046), .int (w_sc w 4047), .int (w_sc w 4048), .ref 64, .ref 65, .int (w_sc w 4051), .int (w_sc w 4052)])) = wB (s_sc w 4039 x) := rfl
theorem wp_4040 {x : Int32} : (wB w).set 40 (.inr (11, [.int (w_sc w 4000), .ref 41, .ref 42, .ref 43, .ref 44, .ref 45, .int (w_sc w 4006), .ref 46, .int (w_sc w 4008), .int (w_sc w 4009), .int (w_sc w 4010), .ref 47, .ref 48, .int (w_sc w 4013), .int (w_sc w 4014), .ref 49, .ref 50, .ref 51, .int (w_sc w 4018), .int (w_sc w 4019), .int (w_sc w 4020), .int (w_sc w 4021), .int (w_sc w 4022), .int (w_sc w 4023), .int (w_sc w 4024), .int (w_sc w 4025), .ref 52, .int (w_sc w 4027), .int (w_sc w 4028), .ref 53, .ref 54, .ref 55, .int (w_sc w 4032), .ref 56, .ref 57, .ref 58, .ref 59, .ref 60, .ref 61, .int (w_sc w 4039), .int x, .ref 62, .ref 63, .int (w_sc w 4043), .int (w_sc w 4044), .int (w_sc w 4045), .int (w_sc w 4046), .int (w_sc w 4047), .int (w_sc w 4048), .ref 64, .ref 65, .int (w_sc w 4051), .int (w_sc w 4052)])) = wB (s_sc w 4040 x) := rfl
theorem wp_4043 {x : Int32} : (wB w).set 40 (.inr (11, [.int (w_sc w 4000), .ref 41, .ref 42, .ref 43, .ref 44, .ref 45, .int (w_sc w 4006), .ref 46, .int (w_sc w 4008), .int (w_sc w 4009), .int (w_sc w 4010), .ref 47, .ref 48, .int (w_sc w 4013), .int (w_sc w 4014), .ref 49, .ref 50, .ref 51, .int (w_sc w 4018), .int (w_sc w 4019), .int (w_sc w 4020), .int (w_sc w 4021), .int (w_sc w 4022), .int (w_sc w 4023), .int (w_sc w 4024), .int (w_sc w 4025), .ref 52, .int (w_sc w 4027), .int (w_sc w 4028), .ref 53, .ref 54, .ref 55, .int (w_sc w 4032), .ref 56, .ref 57, .ref 58, .ref 59, .ref 60, .ref 61, .int (w_sc w 4039), .int (w_sc w 4040), .ref 62, .ref 63, .int x, .int (w_sc w 4044), .int (w_sc w 4045), .int (w_sc w 4046), .int (w_sc w 4047), .int (w_sc w 4048), .ref 64, .ref 65, .int (w_sc w 4051), .int (w_sc w 4052)])) = wB (s_sc w 4043 x) := rfl
theorem wp_4044 {x : Int32} : (wB w).set 40 (.inr (11, [.int (w_sc w 4000), .ref 41, .ref 42, .ref 43, .ref 44, .ref 45, .int (w_sc w 4006), .ref 46, .int (w_sc w 4008), .int (w_sc w 4009), .int (w_sc w 4010), .ref 47, .ref 48, .int (w_sc w 4013), .int (w_sc w 4014), .ref 49, .ref 50, .ref 51, .int (w_sc w 4018), .int (w_sc w 4019), .int (w_sc w 4020), .int (w_sc w 4021), .int (w_sc w 4022), .int (w_sc w 4023), .int (w_sc w 4024), .int (w_sc w 4025), .ref 52, .int (w_sc w 4027), .int (w_sc w 4028), .ref 53, .ref 54, .ref 55, .int (w_sc w 4032), .ref 56, .ref 57, .ref 58, .ref 59, .ref 60, .ref 61, .int (w_sc w 4039), .int (w_sc w 4040), .ref 62, .ref 63, .int (w_sc w 4043), .int x, .int (w_sc w 4045), .int (w_sc w 4046), .int (w_sc w 4047), .int (w_sc w 4048), .ref 64, .ref 65, .int (w_sc w 4051), .int (w_sc w 4052)])) = wB (s_sc w 4044 x) := rfl
theorem wp_4045 {x : Int32} : (wB w).set 40 (.inr (11, [.int (w_sc w 4000), .ref 41, .ref 42, .ref 43, .ref 44, .ref 45, .int (w_sc w 4006), .ref 46, .int (w_sc w 4008), .int (w_sc w 4009), .int (w_sc w 4010), .ref 47, .ref 48, .int (w_sc w 4013), .int (w_sc w 4014), .ref 49, .ref 50, .ref 51, .int (w_sc w 4018), .int (w_sc w 4019), .int (w_sc w 4020), .int (w_sc w 4021), .int (w_sc w 4022), .int (w_sc w 4023), .int (w_sc w 4024), .int (w_sc w 4025), .ref 52, .int (w_sc w 4027), .int (w_sc w 4028), .ref 53, .ref 54, .ref 55, .int (w_sc w 4032), .ref 56, .ref 57, .ref 58, .ref 59, .ref 60, .ref 61, .int (w_sc w 4039), .int (w_sc w 4040), .ref 62, .ref 63, .int (w_sc w 4043), .int (w_sc w 4044), .int x, .int (w_sc w 4046), .int (w_sc w 4047), .int (w_sc w 4048), .ref 64, .ref 65, .int (w_sc w 4051), .int (w_sc w 4052)])) = wB (s_sc w 4045 x) := rfl
theorem wp_4046 {x : Int32} : (wB w).set 40 (.inr (11, [.int (w_sc w 4000), .ref 41, .ref 42, .ref 43, .ref 44, .ref 45, .int (w_sc w 4006), .ref 46, .int (w_sc w 4008), .int (w_sc w 4009), .int (w_sc w 4010), .ref 47, .ref 48, .int (w_sc w 4013), .int (w_sc w 4014), .ref 49, .ref 50, .ref 51, .int (w_sc w 4018), .int (w_sc w 4019), .int (w_sc w 4020), .int (w_sc w 4021), .int (w_sc w 4022), .int (w_sc w 4023), .int (w_sc w 4024), .int (w_sc w 4025), .ref 52, .int (w_sc w 4027), .int (w_sc w 4028), .ref 53, .ref 54, .ref 55, .int (w_sc w 4032), .ref 56, .ref 57, .ref 58, .ref 59, .ref 60, .ref 61, .int (w_sc w 4039), .int (w_sc w 4040), .ref 62, .ref 63, .int (w_sc w 4043), .int (w_sc w 4044), .int (w_sc w 4045), .int x, .int (w_sc w 4047), .int (w_sc w 4048), .ref 64, .ref 65, .int (w_sc w 4051), .int (w_sc w 4052)])) = wB (s_sc w 4046 x) := rfl
theorem wp_4047 {x : Int32} : (wB w).set 40 (.inr (11, [.int (w_sc w 4000), .ref 41, .ref 42, .ref 43, .ref 44, .ref 45, .int (w_sc w 4006), .ref 46, .int (w_sc w 4008), .int (w_sc w 4009), .int (w_sc w 4010), .ref 47, .ref 48, .int (w_sc w 4013), .int (w_sc w 4014), .ref 49, .ref 50, .ref 51, .int (w_sc w 4018), .int (w_sc w 4019), .int (w_sc w 4020), .int (w_sc w 4021), .int (w_sc w 4022), .int (w_sc w 4023), .int (w_sc w 4024), .int (w_sc w 4025), .ref 52, .int (w_sc w 4027), .int (w_sc w 4028), .ref 53, .ref 54, .ref 55, .int (w_sc w 4032), .ref 56, .ref 57, .ref 58, .ref 59, .ref 60, .ref 61, .int (w_sc w 4039), .int (w_sc w 4040), .ref 62, .ref 63, .int (w_sc w 4043), .int (w_sc w 4044), .int (w_sc w 4045), .int (w_sc w 4046), .int x, .int (w_sc w 4048), .ref 64, .ref 65, .int (w_sc w 4051), .int (w_sc w 4052)])) = wB (s_sc w 4047 x) := rfl
theorem wp_4048 {x : Int32} : (wB w).set 40 (.inr (11, [.int (w_sc w 4000), .ref 41, .ref 42, .ref 43, .ref 44, .ref 45, .int (w_sc w 4006), .ref 46, .int (w_sc w 4008), .int (w_sc w 4009), .int (w_sc w 4010), .ref 47, .ref 48, .int (w_sc w 4013), .int (w_sc w 4014), .ref 49, .ref 50, .ref 51, .int (w_sc w 4018), .int (w_sc w 4019), .int (w_sc w 4020), .int (w_sc w 4021), .int (w_sc w 4022), .int (w_sc w 4023), .int (w_sc w 4024), .int (w_sc w 4025), .ref 52, .int (w_sc w 4027), .int (w_sc w 4028), .ref 53, .ref 54, .ref 55, .int (w_sc w 4032), .ref 56, .ref 57, .ref 58, .ref 59, .ref 60, .ref 61, .int (w_sc w 4039), .int (w_sc w 4040), .ref 62, .ref 63, .int (w_sc w 4043), .int (w_sc w 4044), .int (w_sc w 4045), .int (w_sc w 4046), .int (w_sc w 4047), .int x, .ref 64, .ref 65, .int (w_sc w 4051), .int (w_sc w 4052)])) = wB (s_sc w 4048 x) := rfl
theorem wp_4051 {x : Int32} : (wB w).set 40 (.inr (11, [.int (w_sc w 4000), .ref 41, .ref 42, .ref 43, .ref 44, .ref 45, .int (w_sc w 4006), .ref 46, .int (w_sc w 4008), .int (w_sc w 4009), .int (w_sc w 4010), .ref 47, .ref 48, .int (w_sc w 4013), .int (w_sc w 4014), .ref 49, .ref 50, .ref 51, .int (w_sc w 4018), .int (w_sc w 4019), .int (w_sc w 4020), .int (w_sc w 4021), .int (w_sc w 4022), .int (w_sc w 4023), .int (w_sc w 4024), .int (w_sc w 4025), .ref 52, .int (w_sc w 4027), .int (w_sc w 4028), .ref 53, .ref 54, .ref 55, .int (w_sc w 4032), .ref 56, .ref 57, .ref 58, .ref 59, .ref 60, .ref 61, .int (w_sc w 4039), .int (w_sc w 4040), .ref 62, .ref 63, .int (w_sc w 4043), .int (w_sc w 4044), .int (w_sc w 4045), .int (w_sc w 4046), .int (w_sc w 4047), .int (w_sc w 4048), .ref 64, .ref 65, .int x, .int (w_sc w 4052)])) = wB (s_sc w 4051 x) := rfl
theorem wp_4052 {x : Int32} : (wB w).set 40 (.inr (11, [.int (w_sc w 4000), .ref 41, .ref 42, .ref 43, .ref 44, .ref 45, .int (w_sc w 4006), .ref 46, .int (w_sc w 4008), .int (w_sc w 4009), .int (w_sc w 4010), .ref 47, .ref 48, .int (w_sc w 4013), .int (w_sc w 4014), .ref 49, .ref 50, .ref 51, .int (w_sc w 4018), .int (w_sc w 4019), .int (w_sc w 4020), .int (w_sc w 4021), .int (w_sc w 4022), .int (w_sc w 4023), .int (w_sc w 4024), .int (w_sc w 4025), .ref 52, .int (w_sc w 4027), .int (w_sc w 4028), .ref 53, .ref 54, .ref 55, .int (w_sc w 4032), .ref 56, .ref 57, .ref 58, .ref 59, .ref 60, .ref 61, .int (w_sc w 4039), .int (w_sc w 4040), .ref 62, .ref 63, .int (w_sc w 4043), .int (w_sc w 4044), .int (w_sc w 4045), .int (w_sc w 4046), .int (w_sc w 4047), .int (w_sc w 4048), .ref 64, .ref 65, .int (w_sc w 4051), .int x])) = wB (s_sc w 4052 x) := rfl
theorem wB_len : (wB w).length = 66 + (w_dy w).length := by simp [wB]; omega
theorem wr_dy {i : Nat} (h : 66 ≤ i) : (wB w)[i]? = (w_dy w)[i - 66]? := by rw [wB, List.getElem?_append_right (by simpa using h)]; rfl
theorem ww_dy {i : Nat} {x : va_E} (h : 66 ≤ i) : (wB w).set i x = wB (s_dy w ((w_dy w).set (i - 66) x)) := by rw [wB, List.set_append_right _ _ (by simpa using h)]; rfl
theorem wa_dy {x : va_E} : wB w ++ [x] = wB (s_dy w (w_dy w ++ [x])) := by rw [wB, List.append_assoc]; rfl
end WB
