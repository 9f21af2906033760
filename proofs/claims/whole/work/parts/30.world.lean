/-! The cells behind both constructors: numbers by cell and slot, rows by cell. -/
def wH (sc : Nat → Int32) (ar : Nat → Nat → Int32) (sm : Nat → Int64) (rh : Nat) (rl : Option Nat) (la im : Nat → Option Nat) (dy : hv_H) : hv_H := ([.inr (10, [.ref 1, .ref 2, .ref 7, .ref 8, .ref 10, .ref 12, .ref 18, .ref 24, .ref 34, .ref 35, .ref 39, .int (sc 11), .int (sc 12), .int (sc 13), .int (sc 14)]),
  .inr (9, [.ref 2, .ref 4, .ref 5, .ref 6, .int (sc 104), .int (sc 105), .int (sc 106)]),
  .inr (3, [.ref 3]),
  .inl (0, 66, .inl (ar 3)),
  .inl (5, 6, .inr (.inr (.inr (.inr la)))),
  .inl (0, 8, .inl (ar 5)),
  .inl (0, 8, .inl (ar 6)),
  .inl (4, 2, .inr (.inr (.inr (.inr im)))),
  .inr (4, [.ref 9, .int (sc 801), .int (sc 802)]),
  .inl (0, 50, .inl (ar 9)),
  .inr (7, [.ref 8, .ref 11, .ref rh, va_rf rl]),
  .inl (0, 7, .inl (ar 11)),
  .inr (0, [.ref 13, .ref 14, .ref 15, .ref 16, .ref 17, .int (sc 1205), .int (sc 1206)]),
  .inl (0, 49, .inl (ar 13)),
  .inl (0, 1024, .inl (ar 14)),
  .inl (0, 7, .inl (ar 15)),
  .inl (0, 7, .inl (ar 16)),
  .inl (0, 7, .inl (ar 17)),
  .inr (5, [.ref 10, .ref 12, .ref 19, .ref 21, .ref 23, .int (sc 1805)]),
  .inr (3, [.ref 20]),
  .inl (0, 66, .inl (ar 20)),
  .inr (3, [.ref 22]),
  .inl (0, 66, .inl (ar 22)),
  .inl (0, 7, .inl (ar 23)),
  .inr (2, [.ref 1, .ref 2, .ref 10, .ref 8, .ref 25, .ref 28, .ref 31, .ref 33, .int (sc 2408), .int (sc 2409), .int (sc 2410)]),
  .inr (8, [.ref 26, .ref 27, .int (sc 2502)]),
  .inl (0, 16, .inl (ar 26)),
  .inl (0, 1056, .inl (ar 27)),
  .inr (8, [.ref 29, .ref 30, .int (sc 2802)]),
  .inl (0, 16, .inl (ar 29)),
  .inl (0, 1056, .inl (ar 30)),
  .inr (3, [.ref 32]),
  .inl (0, 66, .inl (ar 32)),
  .inl (0, 19, .inl (ar 33)),
  .inl (0, 400, .inl (ar 34)),
  .inr (6, [.ref 34, .ref 36, .int (sc 3502), .int (sc 3503), .int (sc 3504), .int (sc 3505), .int (sc 3506), .int (sc 3507), .int (sc 3508)]),
  .inr (1, [.ref 37, .ref 38, .int (sc 3602), .int (sc 3603)]),
  .inl (0, 60, .inl (ar 37)),
  .inl (0, 400, .inl (ar 38)),
  .inl (0, 5, .inl (ar 39)),
  .inr (11, [.int (sc 4000), .ref 41, .ref 42, .ref 43, .ref 44, .ref 45, .int (sc 4006), .ref 46, .int (sc 4008), .int (sc 4009), .int (sc 4010), .ref 47, .ref 48, .int (sc 4013), .int (sc 4014), .ref 49, .ref 50, .ref 51, .int (sc 4018), .int (sc 4019), .int (sc 4020), .int (sc 4021), .int (sc 4022), .int (sc 4023), .int (sc 4024), .int (sc 4025), .ref 52, .int (sc 4027), .int (sc 4028), .ref 53, .ref 54, .ref 55, .int (sc 4032), .ref 56, .ref 57, .ref 58, .ref 59, .ref 60, .ref 61, .int (sc 4039), .int (sc 4040), .ref 62, .ref 63, .int (sc 4043), .int (sc 4044), .int (sc 4045), .int (sc 4046), .int (sc 4047), .int (sc 4048), .ref 64, .ref 65, .int (sc 4051), .int (sc 4052)]),
  .inl (0, 7, .inl (ar 41)),
  .inl (0, 5692, .inl (ar 42)),
  .inl (0, 11384, .inl (ar 43)),
  .inl (2, 2, .inl (ar 44)),
  .inl (0, 128, .inl (ar 45)),
  .inl (1, 132, .inl (ar 46)),
  .inl (1, 400, .inl (ar 47)),
  .inl (0, 5, .inl (ar 48)),
  .inl (0, 401, .inl (ar 49)),
  .inl (0, 401, .inl (ar 50)),
  .inl (0, 401, .inl (ar 51)),
  .inl (0, 7, .inl (ar 52)),
  .inl (0, 49, .inl (ar 53)),
  .inl (0, 1040, .inl (ar 54)),
  .inl (0, 1040, .inl (ar 55)),
  .inl (0, 49, .inl (ar 56)),
  .inl (2, 49, .inl (ar 57)),
  .inl (0, 1024, .inl (ar 58)),
  .inl (0, 7, .inl (ar 59)),
  .inl (0, 7, .inl (ar 60)),
  .inl (0, 7, .inl (ar 61)),
  .inl (0, 7, .inl (ar 62)),
  .inl (2, 49, .inl (ar 63)),
  .inl (3, 2, .inr (.inl sm)),
  .inl (0, 64, .inl (ar 65))] : hv_H) ++ dy
section WH
variable {sc : Nat → Int32} {ar : Nat → Nat → Int32} {sm : Nat → Int64} {rh : Nat} {rl : Option Nat} {la im : Nat → Option Nat} {dy : hv_H}
theorem wr_0 : (wH sc ar sm rh rl la im dy)[0]? = some (.inr (10, [.ref 1, .ref 2, .ref 7, .ref 8, .ref 10, .ref 12, .ref 18, .ref 24, .ref 34, .ref 35, .ref 39, .int (sc 11), .int (sc 12), .int (sc 13), .int (sc 14)])) := rfl
theorem wr_1 : (wH sc ar sm rh rl la im dy)[1]? = some (.inr (9, [.ref 2, .ref 4, .ref 5, .ref 6, .int (sc 104), .int (sc 105), .int (sc 106)])) := rfl
theorem wr_2 : (wH sc ar sm rh rl la im dy)[2]? = some (.inr (3, [.ref 3])) := rfl
theorem wr_3 : (wH sc ar sm rh rl la im dy)[3]? = some (.inl (0, 66, .inl (ar 3))) := rfl
theorem wr_4 : (wH sc ar sm rh rl la im dy)[4]? = some (.inl (5, 6, .inr (.inr (.inr (.inr la))))) := rfl
theorem wr_5 : (wH sc ar sm rh rl la im dy)[5]? = some (.inl (0, 8, .inl (ar 5))) := rfl
theorem wr_6 : (wH sc ar sm rh rl la im dy)[6]? = some (.inl (0, 8, .inl (ar 6))) := rfl
theorem wr_7 : (wH sc ar sm rh rl la im dy)[7]? = some (.inl (4, 2, .inr (.inr (.inr (.inr im))))) := rfl
theorem wr_8 : (wH sc ar sm rh rl la im dy)[8]? = some (.inr (4, [.ref 9, .int (sc 801), .int (sc 802)])) := rfl
theorem wr_9 : (wH sc ar sm rh rl la im dy)[9]? = some (.inl (0, 50, .inl (ar 9))) := rfl
theorem wr_10 : (wH sc ar sm rh rl la im dy)[10]? = some (.inr (7, [.ref 8, .ref 11, .ref rh, va_rf rl])) := rfl
theorem wr_11 : (wH sc ar sm rh rl la im dy)[11]? = some (.inl (0, 7, .inl (ar 11))) := rfl
theorem wr_12 : (wH sc ar sm rh rl la im dy)[12]? = some (.inr (0, [.ref 13, .ref 14, .ref 15, .ref 16, .ref 17, .int (sc 1205), .int (sc 1206)])) := rfl
theorem wr_13 : (wH sc ar sm rh rl la im dy)[13]? = some (.inl (0, 49, .inl (ar 13))) := rfl
theorem wr_14 : (wH sc ar sm rh rl la im dy)[14]? = some (.inl (0, 1024, .inl (ar 14))) := rfl
theorem wr_15 : (wH sc ar sm rh rl la im dy)[15]? = some (.inl (0, 7, .inl (ar 15))) := rfl
theorem wr_16 : (wH sc ar sm rh rl la im dy)[16]? = some (.inl (0, 7, .inl (ar 16))) := rfl
theorem wr_17 : (wH sc ar sm rh rl la im dy)[17]? = some (.inl (0, 7, .inl (ar 17))) := rfl
theorem wr_18 : (wH sc ar sm rh rl la im dy)[18]? = some (.inr (5, [.ref 10, .ref 12, .ref 19, .ref 21, .ref 23, .int (sc 1805)])) := rfl
theorem wr_19 : (wH sc ar sm rh rl la im dy)[19]? = some (.inr (3, [.ref 20])) := rfl
theorem wr_20 : (wH sc ar sm rh rl la im dy)[20]? = some (.inl (0, 66, .inl (ar 20))) := rfl
theorem wr_21 : (wH sc ar sm rh rl la im dy)[21]? = some (.inr (3, [.ref 22])) := rfl
theorem wr_22 : (wH sc ar sm rh rl la im dy)[22]? = some (.inl (0, 66, .inl (ar 22))) := rfl
theorem wr_23 : (wH sc ar sm rh rl la im dy)[23]? = some (.inl (0, 7, .inl (ar 23))) := rfl
theorem wr_24 : (wH sc ar sm rh rl la im dy)[24]? = some (.inr (2, [.ref 1, .ref 2, .ref 10, .ref 8, .ref 25, .ref 28, .ref 31, .ref 33, .int (sc 2408), .int (sc 2409), .int (sc 2410)])) := rfl
theorem wr_25 : (wH sc ar sm rh rl la im dy)[25]? = some (.inr (8, [.ref 26, .ref 27, .int (sc 2502)])) := rfl
theorem wr_26 : (wH sc ar sm rh rl la im dy)[26]? = some (.inl (0, 16, .inl (ar 26))) := rfl
theorem wr_27 : (wH sc ar sm rh rl la im dy)[27]? = some (.inl (0, 1056, .inl (ar 27))) := rfl
theorem wr_28 : (wH sc ar sm rh rl la im dy)[28]? = some (.inr (8, [.ref 29, .ref 30, .int (sc 2802)])) := rfl
theorem wr_29 : (wH sc ar sm rh rl la im dy)[29]? = some (.inl (0, 16, .inl (ar 29))) := rfl
theorem wr_30 : (wH sc ar sm rh rl la im dy)[30]? = some (.inl (0, 1056, .inl (ar 30))) := rfl
theorem wr_31 : (wH sc ar sm rh rl la im dy)[31]? = some (.inr (3, [.ref 32])) := rfl
theorem wr_32 : (wH sc ar sm rh rl la im dy)[32]? = some (.inl (0, 66, .inl (ar 32))) := rfl
theorem wr_33 : (wH sc ar sm rh rl la im dy)[33]? = some (.inl (0, 19, .inl (ar 33))) := rfl
theorem wr_34 : (wH sc ar sm rh rl la im dy)[34]? = some (.inl (0, 400, .inl (ar 34))) := rfl
theorem wr_35 : (wH sc ar sm rh rl la im dy)[35]? = some (.inr (6, [.ref 34, .ref 36, .int (sc 3502), .int (sc 3503), .int (sc 3504), .int (sc 3505), .int (sc 3506), .int (sc 3507), .int (sc 3508)])) := rfl
theorem wr_36 : (wH sc ar sm rh rl la im dy)[36]? = some (.inr (1, [.ref 37, .ref 38, .int (sc 3602), .int (sc 3603)])) := rfl
theorem wr_37 : (wH sc ar sm rh rl la im dy)[37]? = some (.inl (0, 60, .inl (ar 37))) := rfl
theorem wr_38 : (wH sc ar sm rh rl la im dy)[38]? = some (.inl (0, 400, .inl (ar 38))) := rfl
theorem wr_39 : (wH sc ar sm rh rl la im dy)[39]? = some (.inl (0, 5, .inl (ar 39))) := rfl
theorem wr_40 : (wH sc ar sm rh rl la im dy)[40]? = some (.inr (11, [.int (sc 4000), .ref 41, .ref 42, .ref 43, .ref 44, .ref 45, .int (sc 4006), .ref 46, .int (sc 4008), .int (sc 4009), .int (sc 4010), .ref 47, .ref 48, .int (sc 4013), .int (sc 4014), .ref 49, .ref 50, .ref 51, .int (sc 4018), .int (sc 4019), .int (sc 4020), .int (sc 4021), .int (sc 4022), .int (sc 4023), .int (sc 4024), .int (sc 4025), .ref 52, .int (sc 4027), .int (sc 4028), .ref 53, .ref 54, .ref 55, .int (sc 4032), .ref 56, .ref 57, .ref 58, .ref 59, .ref 60, .ref 61, .int (sc 4039), .int (sc 4040), .ref 62, .ref 63, .int (sc 4043), .int (sc 4044), .int (sc 4045), .int (sc 4046), .int (sc 4047), .int (sc 4048), .ref 64, .ref 65, .int (sc 4051), .int (sc 4052)])) := rfl
theorem wr_41 : (wH sc ar sm rh rl la im dy)[41]? = some (.inl (0, 7, .inl (ar 41))) := rfl
theorem wr_42 : (wH sc ar sm rh rl la im dy)[42]? = some (.inl (0, 5692, .inl (ar 42))) := rfl
theorem wr_43 : (wH sc ar sm rh rl la im dy)[43]? = some (.inl (0, 11384, .inl (ar 43))) := rfl
theorem wr_44 : (wH sc ar sm rh rl la im dy)[44]? = some (.inl (2, 2, .inl (ar 44))) := rfl
theorem wr_45 : (wH sc ar sm rh rl la im dy)[45]? = some (.inl (0, 128, .inl (ar 45))) := rfl
theorem wr_46 : (wH sc ar sm rh rl la im dy)[46]? = some (.inl (1, 132, .inl (ar 46))) := rfl
theorem wr_47 : (wH sc ar sm rh rl la im dy)[47]? = some (.inl (1, 400, .inl (ar 47))) := rfl
theorem wr_48 : (wH sc ar sm rh rl la im dy)[48]? = some (.inl (0, 5, .inl (ar 48))) := rfl
theorem wr_49 : (wH sc ar sm rh rl la im dy)[49]? = some (.inl (0, 401, .inl (ar 49))) := rfl
theorem wr_50 : (wH sc ar sm rh rl la im dy)[50]? = some (.inl (0, 401, .inl (ar 50))) := rfl
theorem wr_51 : (wH sc ar sm rh rl la im dy)[51]? = some (.inl (0, 401, .inl (ar 51))) := rfl
theorem wr_52 : (wH sc ar sm rh rl la im dy)[52]? = some (.inl (0, 7, .inl (ar 52))) := rfl
theorem wr_53 : (wH sc ar sm rh rl la im dy)[53]? = some (.inl (0, 49, .inl (ar 53))) := rfl
theorem wr_54 : (wH sc ar sm rh rl la im dy)[54]? = some (.inl (0, 1040, .inl (ar 54))) := rfl
theorem wr_55 : (wH sc ar sm rh rl la im dy)[55]? = some (.inl (0, 1040, .inl (ar 55))) := rfl
theorem wr_56 : (wH sc ar sm rh rl la im dy)[56]? = some (.inl (0, 49, .inl (ar 56))) := rfl
theorem wr_57 : (wH sc ar sm rh rl la im dy)[57]? = some (.inl (2, 49, .inl (ar 57))) := rfl
theorem wr_58 : (wH sc ar sm rh rl la im dy)[58]? = some (.inl (0, 1024, .inl (ar 58))) := rfl
theorem wr_59 : (wH sc ar sm rh rl la im dy)[59]? = some (.inl (0, 7, .inl (ar 59))) := rfl
theorem wr_60 : (wH sc ar sm rh rl la im dy)[60]? = some (.inl (0, 7, .inl (ar 60))) := rfl
theorem wr_61 : (wH sc ar sm rh rl la im dy)[61]? = some (.inl (0, 7, .inl (ar 61))) := rfl
theorem wr_62 : (wH sc ar sm rh rl la im dy)[62]? = some (.inl (0, 7, .inl (ar 62))) := rfl
theorem wr_63 : (wH sc ar sm rh rl la im dy)[63]? = some (.inl (2, 49, .inl (ar 63))) := rfl
theorem wr_64 : (wH sc ar sm rh rl la im dy)[64]? = some (.inl (3, 2, .inr (.inl sm))) := rfl
theorem wr_65 : (wH sc ar sm rh rl la im dy)[65]? = some (.inl (0, 64, .inl (ar 65))) := rfl
def wU {α : Type} (f : Nat → α) (k : Nat) (x : α) : Nat → α := fun j => if j = k then x else f j
theorem ww_3 {f : Nat → Int32} : (wH sc ar sm rh rl la im dy).set 3 (.inl (0, 66, .inl f)) = wH sc (wU ar 3 f) sm rh rl la im dy := rfl
theorem ww_5 {f : Nat → Int32} : (wH sc ar sm rh rl la im dy).set 5 (.inl (0, 8, .inl f)) = wH sc (wU ar 5 f) sm rh rl la im dy := rfl
theorem ww_6 {f : Nat → Int32} : (wH sc ar sm rh rl la im dy).set 6 (.inl (0, 8, .inl f)) = wH sc (wU ar 6 f) sm rh rl la im dy := rfl
theorem ww_9 {f : Nat → Int32} : (wH sc ar sm rh rl la im dy).set 9 (.inl (0, 50, .inl f)) = wH sc (wU ar 9 f) sm rh rl la im dy := rfl
theorem ww_11 {f : Nat → Int32} : (wH sc ar sm rh rl la im dy).set 11 (.inl (0, 7, .inl f)) = wH sc (wU ar 11 f) sm rh rl la im dy := rfl
theorem ww_13 {f : Nat → Int32} : (wH sc ar sm rh rl la im dy).set 13 (.inl (0, 49, .inl f)) = wH sc (wU ar 13 f) sm rh rl la im dy := rfl
theorem ww_14 {f : Nat → Int32} : (wH sc ar sm rh rl la im dy).set 14 (.inl (0, 1024, .inl f)) = wH sc (wU ar 14 f) sm rh rl la im dy := rfl
theorem ww_15 {f : Nat → Int32} : (wH sc ar sm rh rl la im dy).set 15 (.inl (0, 7, .inl f)) = wH sc (wU ar 15 f) sm rh rl la im dy := rfl
theorem ww_16 {f : Nat → Int32} : (wH sc ar sm rh rl la im dy).set 16 (.inl (0, 7, .inl f)) = wH sc (wU ar 16 f) sm rh rl la im dy := rfl
theorem ww_17 {f : Nat → Int32} : (wH sc ar sm rh rl la im dy).set 17 (.inl (0, 7, .inl f)) = wH sc (wU ar 17 f) sm rh rl la im dy := rfl
theorem ww_20 {f : Nat → Int32} : (wH sc ar sm rh rl la im dy).set 20 (.inl (0, 66, .inl f)) = wH sc (wU ar 20 f) sm rh rl la im dy := rfl
theorem ww_22 {f : Nat → Int32} : (wH sc ar sm rh rl la im dy).set 22 (.inl (0, 66, .inl f)) = wH sc (wU ar 22 f) sm rh rl la im dy := rfl
theorem ww_23 {f : Nat → Int32} : (wH sc ar sm rh rl la im dy).set 23 (.inl (0, 7, .inl f)) = wH sc (wU ar 23 f) sm rh rl la im dy := rfl
theorem ww_26 {f : Nat → Int32} : (wH sc ar sm rh rl la im dy).set 26 (.inl (0, 16, .inl f)) = wH sc (wU ar 26 f) sm rh rl la im dy := rfl
theorem ww_27 {f : Nat → Int32} : (wH sc ar sm rh rl la im dy).set 27 (.inl (0, 1056, .inl f)) = wH sc (wU ar 27 f) sm rh rl la im dy := rfl
theorem ww_29 {f : Nat → Int32} : (wH sc ar sm rh rl la im dy).set 29 (.inl (0, 16, .inl f)) = wH sc (wU ar 29 f) sm rh rl la im dy := rfl
theorem ww_30 {f : Nat → Int32} : (wH sc ar sm rh rl la im dy).set 30 (.inl (0, 1056, .inl f)) = wH sc (wU ar 30 f) sm rh rl la im dy := rfl
theorem ww_32 {f : Nat → Int32} : (wH sc ar sm rh rl la im dy).set 32 (.inl (0, 66, .inl f)) = wH sc (wU ar 32 f) sm rh rl la im dy := rfl
theorem ww_33 {f : Nat → Int32} : (wH sc ar sm rh rl la im dy).set 33 (.inl (0, 19, .inl f)) = wH sc (wU ar 33 f) sm rh rl la im dy := rfl
theorem ww_34 {f : Nat → Int32} : (wH sc ar sm rh rl la im dy).set 34 (.inl (0, 400, .inl f)) = wH sc (wU ar 34 f) sm rh rl la im dy := rfl
theorem ww_37 {f : Nat → Int32} : (wH sc ar sm rh rl la im dy).set 37 (.inl (0, 60, .inl f)) = wH sc (wU ar 37 f) sm rh rl la im dy := rfl
theorem ww_38 {f : Nat → Int32} : (wH sc ar sm rh rl la im dy).set 38 (.inl (0, 400, .inl f)) = wH sc (wU ar 38 f) sm rh rl la im dy := rfl
theorem ww_39 {f : Nat → Int32} : (wH sc ar sm rh rl la im dy).set 39 (.inl (0, 5, .inl f)) = wH sc (wU ar 39 f) sm rh rl la im dy := rfl
theorem ww_41 {f : Nat → Int32} : (wH sc ar sm rh rl la im dy).set 41 (.inl (0, 7, .inl f)) = wH sc (wU ar 41 f) sm rh rl la im dy := rfl
theorem ww_42 {f : Nat → Int32} : (wH sc ar sm rh rl la im dy).set 42 (.inl (0, 5692, .inl f)) = wH sc (wU ar 42 f) sm rh rl la im dy := rfl
theorem ww_43 {f : Nat → Int32} : (wH sc ar sm rh rl la im dy).set 43 (.inl (0, 11384, .inl f)) = wH sc (wU ar 43 f) sm rh rl la im dy := rfl
theorem ww_44 {f : Nat → Int32} : (wH sc ar sm rh rl la im dy).set 44 (.inl (2, 2, .inl f)) = wH sc (wU ar 44 f) sm rh rl la im dy := rfl
theorem ww_45 {f : Nat → Int32} : (wH sc ar sm rh rl la im dy).set 45 (.inl (0, 128, .inl f)) = wH sc (wU ar 45 f) sm rh rl la im dy := rfl
theorem ww_46 {f : Nat → Int32} : (wH sc ar sm rh rl la im dy).set 46 (.inl (1, 132, .inl f)) = wH sc (wU ar 46 f) sm rh rl la im dy := rfl
theorem ww_47 {f : Nat → Int32} : (wH sc ar sm rh rl la im dy).set 47 (.inl (1, 400, .inl f)) = wH sc (wU ar 47 f) sm rh rl la im dy := rfl
theorem ww_48 {f : Nat → Int32} : (wH sc ar sm rh rl la im dy).set 48 (.inl (0, 5, .inl f)) = wH sc (wU ar 48 f) sm rh rl la im dy := rfl
theorem ww_49 {f : Nat → Int32} : (wH sc ar sm rh rl la im dy).set 49 (.inl (0, 401, .inl f)) = wH sc (wU ar 49 f) sm rh rl la im dy := rfl
theorem ww_50 {f : Nat → Int32} : (wH sc ar sm rh rl la im dy).set 50 (.inl (0, 401, .inl f)) = wH sc (wU ar 50 f) sm rh rl la im dy := rfl
theorem ww_51 {f : Nat → Int32} : (wH sc ar sm rh rl la im dy).set 51 (.inl (0, 401, .inl f)) = wH sc (wU ar 51 f) sm rh rl la im dy := rfl
theorem ww_52 {f : Nat → Int32} : (wH sc ar sm rh rl la im dy).set 52 (.inl (0, 7, .inl f)) = wH sc (wU ar 52 f) sm rh rl la im dy := rfl
theorem ww_53 {f : Nat → Int32} : (wH sc ar sm rh rl la im dy).set 53 (.inl (0, 49, .inl f)) = wH sc (wU ar 53 f) sm rh rl la im dy := rfl
theorem ww_54 {f : Nat → Int32} : (wH sc ar sm rh rl la im dy).set 54 (.inl (0, 1040, .inl f)) = wH sc (wU ar 54 f) sm rh rl la im dy := rfl
theorem ww_55 {f : Nat → Int32} : (wH sc ar sm rh rl la im dy).set 55 (.inl (0, 1040, .inl f)) = wH sc (wU ar 55 f) sm rh rl la im dy := rfl
theorem ww_56 {f : Nat → Int32} : (wH sc ar sm rh rl la im dy).set 56 (.inl (0, 49, .inl f)) = wH sc (wU ar 56 f) sm rh rl la im dy := rfl
theorem ww_57 {f : Nat → Int32} : (wH sc ar sm rh rl la im dy).set 57 (.inl (2, 49, .inl f)) = wH sc (wU ar 57 f) sm rh rl la im dy := rfl
theorem ww_58 {f : Nat → Int32} : (wH sc ar sm rh rl la im dy).set 58 (.inl (0, 1024, .inl f)) = wH sc (wU ar 58 f) sm rh rl la im dy := rfl
theorem ww_59 {f : Nat → Int32} : (wH sc ar sm rh rl la im dy).set 59 (.inl (0, 7, .inl f)) = wH sc (wU ar 59 f) sm rh rl la im dy := rfl
theorem ww_60 {f : Nat → Int32} : (wH sc ar sm rh rl la im dy).set 60 (.inl (0, 7, .inl f)) = wH sc (wU ar 60 f) sm rh rl la im dy := rfl
theorem ww_61 {f : Nat → Int32} : (wH sc ar sm rh rl la im dy).set 61 (.inl (0, 7, .inl f)) = wH sc (wU ar 61 f) sm rh rl la im dy := rfl
theorem ww_62 {f : Nat → Int32} : (wH sc ar sm rh rl la im dy).set 62 (.inl (0, 7, .inl f)) = wH sc (wU ar 62 f) sm rh rl la im dy := rfl
theorem ww_63 {f : Nat → Int32} : (wH sc ar sm rh rl la im dy).set 63 (.inl (2, 49, .inl f)) = wH sc (wU ar 63 f) sm rh rl la im dy := rfl
theorem ww_65 {f : Nat → Int32} : (wH sc ar sm rh rl la im dy).set 65 (.inl (0, 64, .inl f)) = wH sc (wU ar 65 f) sm rh rl la im dy := rfl
theorem wp_11 {x : Int32} : (wH sc ar sm rh rl la im dy).set 0 (.inr (10, [.ref 1, .ref 2, .ref 7, .ref 8, .ref 10, .ref 12, .ref 18, .ref 24, .ref 34, .ref 35, .ref 39, .int x, .int (sc 12), .int (sc 13), .int (sc 14)])) = wH (wU sc 11 x) ar sm rh rl la im dy := rfl
theorem wp_12 {x : Int32} : (wH sc ar sm rh rl la im dy).set 0 (.inr (10, [.ref 1, .ref 2, .ref 7, .ref 8, .ref 10, .ref 12, .ref 18, .ref 24, .ref 34, .ref 35, .ref 39, .int (sc 11), .int x, .int (sc 13), .int (sc 14)])) = wH (wU sc 12 x) ar sm rh rl la im dy := rfl
theorem wp_13 {x : Int32} : (wH sc ar sm rh rl la im dy).set 0 (.inr (10, [.ref 1, .ref 2, .ref 7, .ref 8, .ref 10, .ref 12, .ref 18, .ref 24, .ref 34, .ref 35, .ref 39, .int (sc 11), .int (sc 12), .int x, .int (sc 14)])) = wH (wU sc 13 x) ar sm rh rl la im dy := rfl
theorem wp_14 {x : Int32} : (wH sc ar sm rh rl la im dy).set 0 (.inr (10, [.ref 1, .ref 2, .ref 7, .ref 8, .ref 10, .ref 12, .ref 18, .ref 24, .ref 34, .ref 35, .ref 39, .int (sc 11), .int (sc 12), .int (sc 13), .int x])) = wH (wU sc 14 x) ar sm rh rl la im dy := rfl
theorem wp_104 {x : Int32} : (wH sc ar sm rh rl la im dy).set 1 (.inr (9, [.ref 2, .ref 4, .ref 5, .ref 6, .int x, .int (sc 105), .int (sc 106)])) = wH (wU sc 104 x) ar sm rh rl la im dy := rfl
theorem wp_105 {x : Int32} : (wH sc ar sm rh rl la im dy).set 1 (.inr (9, [.ref 2, .ref 4, .ref 5, .ref 6, .int (sc 104), .int x, .int (sc 106)])) = wH (wU sc 105 x) ar sm rh rl la im dy := rfl
theorem wp_106 {x : Int32} : (wH sc ar sm rh rl la im dy).set 1 (.inr (9, [.ref 2, .ref 4, .ref 5, .ref 6, .int (sc 104), .int (sc 105), .int x])) = wH (wU sc 106 x) ar sm rh rl la im dy := rfl
theorem wp_801 {x : Int32} : (wH sc ar sm rh rl la im dy).set 8 (.inr (4, [.ref 9, .int x, .int (sc 802)])) = wH (wU sc 801 x) ar sm rh rl la im dy := rfl
theorem wp_802 {x : Int32} : (wH sc ar sm rh rl la im dy).set 8 (.inr (4, [.ref 9, .int (sc 801), .int x])) = wH (wU sc 802 x) ar sm rh rl la im dy := rfl
theorem wp_1205 {x : Int32} : (wH sc ar sm rh rl la im dy).set 12 (.inr (0, [.ref 13, .ref 14, .ref 15, .ref 16, .ref 17, .int x, .int (sc 1206)])) = wH (wU sc 1205 x) ar sm rh rl la im dy := rfl
theorem wp_1206 {x : Int32} : (wH sc ar sm rh rl la im dy).set 12 (.inr (0, [.ref 13, .ref 14, .ref 15, .ref 16, .ref 17, .int (sc 1205), .int x])) = wH (wU sc 1206 x) ar sm rh rl la im dy := rfl
theorem wp_1805 {x : Int32} : (wH sc ar sm rh rl la im dy).set 18 (.inr (5, [.ref 10, .ref 12, .ref 19, .ref 21, .ref 23, .int x])) = wH (wU sc 1805 x) ar sm rh rl la im dy := rfl
theorem wp_2408 {x : Int32} : (wH sc ar sm rh rl la im dy).set 24 (.inr (2, [.ref 1, .ref 2, .ref 10, .ref 8, .ref 25, .ref 28, .ref 31, .ref 33, .int x, .int (sc 2409), .int (sc 2410)])) = wH (wU sc 2408 x) ar sm rh rl la im dy := rfl
theorem wp_2409 {x : Int32} : (wH sc ar sm rh rl la im dy).set 24 (.inr (2, [.ref 1, .ref 2, .ref 10, .ref 8, .ref 25, .ref 28, .ref 31, .ref 33, .int (sc 2408), .int x, .int (sc 2410)])) = wH (wU sc 2409 x) ar sm rh rl la im dy := rfl
theorem wp_2410 {x : Int32} : (wH sc ar sm rh rl la im dy).set 24 (.inr (2, [.ref 1, .ref 2, .ref 10, .ref 8, .ref 25, .ref 28, .ref 31, .ref 33, .int (sc 2408), .int (sc 2409), .int x])) = wH (wU sc 2410 x) ar sm rh rl la im dy := rfl
theorem wp_2502 {x : Int32} : (wH sc ar sm rh rl la im dy).set 25 (.inr (8, [.ref 26, .ref 27, .int x])) = wH (wU sc 2502 x) ar sm rh rl la im dy := rfl
theorem wp_2802 {x : Int32} : (wH sc ar sm rh rl la im dy).set 28 (.inr (8, [.ref 29, .ref 30, .int x])) = wH (wU sc 2802 x) ar sm rh rl la im dy := rfl
theorem wp_3502 {x : Int32} : (wH sc ar sm rh rl la im dy).set 35 (.inr (6, [.ref 34, .ref 36, .int x, .int (sc 3503), .int (sc 3504), .int (sc 3505), .int (sc 3506), .int (sc 3507), .int (sc 3508)])) = wH (wU sc 3502 x) ar sm rh rl la im dy := rfl
theorem wp_3503 {x : Int32} : (wH sc ar sm rh rl la im dy).set 35 (.inr (6, [.ref 34, .ref 36, .int (sc 3502), .int x, .int (sc 3504), .int (sc 3505), .int (sc 3506), .int (sc 3507), .int (sc 3508)])) = wH (wU sc 3503 x) ar sm rh rl la im dy := rfl
theorem wp_3504 {x : Int32} : (wH sc ar sm rh rl la im dy).set 35 (.inr (6, [.ref 34, .ref 36, .int (sc 3502), .int (sc 3503), .int x, .int (sc 3505), .int (sc 3506), .int (sc 3507), .int (sc 3508)])) = wH (wU sc 3504 x) ar sm rh rl la im dy := rfl
theorem wp_3505 {x : Int32} : (wH sc ar sm rh rl la im dy).set 35 (.inr (6, [.ref 34, .ref 36, .int (sc 3502), .int (sc 3503), .int (sc 3504), .int x, .int (sc 3506), .int (sc 3507), .int (sc 3508)])) = wH (wU sc 3505 x) ar sm rh rl la im dy := rfl
theorem wp_3506 {x : Int32} : (wH sc ar sm rh rl la im dy).set 35 (.inr (6, [.ref 34, .ref 36, .int (sc 3502), .int (sc 3503), .int (sc 3504), .int (sc 3505), .int x, .int (sc 3507), .int (sc 3508)])) = wH (wU sc 3506 x) ar sm rh rl la im dy := rfl
theorem wp_3507 {x : Int32} : (wH sc ar sm rh rl la im dy).set 35 (.inr (6, [.ref 34, .ref 36, .int (sc 3502), .int (sc 3503), .int (sc 3504), .int (sc 3505), .int (sc 3506), .int x, .int (sc 3508)])) = wH (wU sc 3507 x) ar sm rh rl la im dy := rfl
theorem wp_3508 {x : Int32} : (wH sc ar sm rh rl la im dy).set 35 (.inr (6, [.ref 34, .ref 36, .int (sc 3502), .int (sc 3503), .int (sc 3504), .int (sc 3505), .int (sc 3506), .int (sc 3507), .int x])) = wH (wU sc 3508 x) ar sm rh rl la im dy := rfl
theorem wp_3602 {x : Int32} : (wH sc ar sm rh rl la im dy).set 36 (.inr (1, [.ref 37, .ref 38, .int x, .int (sc 3603)])) = wH (wU sc 3602 x) ar sm rh rl la im dy := rfl
theorem wp_3603 {x : Int32} : (wH sc ar sm rh rl la im dy).set 36 (.inr (1, [.ref 37, .ref 38, .int (sc 3602), .int x])) = wH (wU sc 3603 x) ar sm rh rl la im dy := rfl
theorem wp_4000 {x : Int32} : (wH sc ar sm rh rl la im dy).set 40 (.inr (11, [.int x, .ref 41, .ref 42, .ref 43, .ref 44, .ref 45, .int (sc 4006), .ref 46, .int (sc 4008), .int (sc 4009), .int (sc 4010), .ref 47, .ref 48, .int (sc 4013), .int (sc 4014), .ref 49, .ref 50, .ref 51, .int (sc 4018), .int (sc 4019), .int (sc 4020), .int (sc 4021), .int (sc 4022), .int (sc 4023), .int (sc 4024), .int (sc 4025), .ref 52, .int (sc 4027), .int (sc 4028), .ref 53, .ref 54, .ref 55, .int (sc 4032), .ref 56, .ref 57, .ref 58, .ref 59, .ref 60, .ref 61, .int (sc 4039), .int (sc 4040), .ref 62, .ref 63, .int (sc 4043), .int (sc 4044), .int (sc 4045), .int (sc 4046), .int (sc 4047), .int (sc 4048), .ref 64, .ref 65, .int (sc 4051), .int (sc 4052)])) = wH (wU sc 4000 x) ar sm rh rl la im dy := rfl
theorem wp_4006 {x : Int32} : (wH sc ar sm rh rl la im dy).set 40 (.inr (11, [.int (sc 4000), .ref 41, .ref 42, .ref 43, .ref 44, .ref 45, .int x, .ref 46, .int (sc 4008), .int (sc 4009), .int (sc 4010), .ref 47, .ref 48, .int (sc 4013), .int (sc 4014), .ref 49, .ref 50, .ref 51, .int (sc 4018), .int (sc 4019), .int (sc 4020), .int (sc 4021), .int (sc 4022), .int (sc 4023), .int (sc 4024), .int (sc 4025), .ref 52, .int (sc 4027), .int (sc 4028), .ref 53, .ref 54, .ref 55, .int (sc 4032), .ref 56, .ref 57, .ref 58, .ref 59, .ref 60, .ref 61, .int (sc 4039), .int (sc 4040), .ref 62, .ref 63, .int (sc 4043), .int (sc 4044), .int (sc 4045), .int (sc 4046), .int (sc 4047), .int (sc 4048), .ref 64, .ref 65, .int (sc 4051), .int (sc 4052)])) = wH (wU sc 4006 x) ar sm rh rl la im dy := rfl
theorem wp_4008 {x : Int32} : (wH sc ar sm rh rl la im dy).set 40 (.inr (11, [.int (sc 4000), .ref 41, .ref 42, .ref 43, .ref 44, .ref 45, .int (sc 4006), .ref 46, .int x, .int (sc 4009), .int (sc 4010), .ref 47, .ref 48, .int (sc 4013), .int (sc 4014), .ref 49, .ref 50, .ref 51, .int (sc 4018), .int (sc 4019), .int (sc 4020), .int (sc 4021), .int (sc 4022), .int (sc 4023), .int (sc 4024), .int (sc 4025), .ref 52, .int (sc 4027), .int (sc 4028), .ref 53, .ref 54, .ref 55, .int (sc 4032), .ref 56, .ref 57, .ref 58, .ref 59, .ref 60, .ref 61, .int (sc 4039), .int (sc 4040), .ref 62, .ref 63, .int (sc 4043), .int (sc 4044), .int (sc 4045), .int (sc 4046), .int (sc 4047), .int (sc 4048), .ref 64, .ref 65, .int (sc 4051), .int (sc 4052)])) = wH (wU sc 4008 x) ar sm rh rl la im dy := rfl
theorem wp_4009 {x : Int32} : (wH sc ar sm rh rl la im dy).set 40 (.inr (11, [.int (sc 4000), .ref 41, .ref 42, .ref 43, .ref 44, .ref 45, .int (sc 4006), .ref 46, .int (sc 4008), .int x, .int (sc 4010), .ref 47, .ref 48, .int (sc 4013), .int (sc 4014), .ref 49, .ref 50, .ref 51, .int (sc 4018), .int (sc 4019), .int (sc 4020), .int (sc 4021), .int (sc 4022), .int (sc 4023), .int (sc 4024), .int (sc 4025), .ref 52, .int (sc 4027), .int (sc 4028), .ref 53, .ref 54, .ref 55, .int (sc 4032), .ref 56, .ref 57, .ref 58, .ref 59, .ref 60, .ref 61, .int (sc 4039), .int (sc 4040), .ref 62, .ref 63, .int (sc 4043), .int (sc 4044), .int (sc 4045), .int (sc 4046), .int (sc 4047), .int (sc 4048), .ref 64, .ref 65, .int (sc 4051), .int (sc 4052)])) = wH (wU sc 4009 x) ar sm rh rl la im dy := rfl
theorem wp_4010 {x : Int32} : (wH sc ar sm rh rl la im dy).set 40 (.inr (11, [.int (sc 4000), .ref 41, .ref 42, .ref 43, .ref 44, .ref 45, .int (sc 4006), .ref 46, .int (sc 4008), .int (sc 4009), .int x, .ref 47, .ref 48, .int (sc 4013), .int (sc 4014), .ref 49, .ref 50, .ref 51, .int (sc 4018), .int (sc 4019), .int (sc 4020), .int (sc 4021), .int (sc 4022), .int (sc 4023), .int (sc 4024), .int (sc 4025), .ref 52, .int (sc 4027), .int (sc 4028), .ref 53, .ref 54, .ref 55, .int (sc 4032), .ref 56, .ref 57, .ref 58, .ref 59, .ref 60, .ref 61, .int (sc 4039), .int (sc 4040), .ref 62, .ref 63, .int (sc 4043), .int (sc 4044), .int (sc 4045), .int (sc 4046), .int (sc 4047), .int (sc 4048), .ref 64, .ref 65, .int (sc 4051), .int (sc 4052)])) = wH (wU sc 4010 x) ar sm rh rl la im dy := rfl
theorem wp_4013 {x : Int32} : (wH sc ar sm rh rl la im dy).set 40 (.inr (11, [.int (sc 4000), .ref 41, .ref 42, .ref 43, .ref 44, .ref 45, .int (sc 4006), .ref 46, .int (sc 4008), .int (sc 4009), .int (sc 4010), .ref 47, .ref 48, .int x, .int (sc 4014), .ref 49, .ref 50, .ref 51, .int (sc 4018), .int (sc 4019), .int (sc 4020), .int (sc 4021), .int (sc 4022), .int (sc 4023), .int (sc 4024), .int (sc 4025), .ref 52, .int (sc 4027), .int (sc 4028), .ref 53, .ref 54, .ref 55, .int (sc 4032), .ref 56, .ref 57, .ref 58, .ref 59, .ref 60, .ref 61, .int (sc 4039), .int (sc 4040), .ref 62, .ref 63, .int (sc 4043), .int (sc 4044), .int (sc 4045), .int (sc 4046), .int (sc 4047), .int (sc 4048), .ref 64, .ref 65, .int (sc 4051), .int (sc 4052)])) = wH (wU sc 4013 x) ar sm rh rl la im dy := rfl
theorem wp_4014 {x : Int32} : (wH sc ar sm rh rl la im dy).set 40 (.inr (11, [.int (sc 4000), .ref 41, .ref 42, .ref 43, .ref 44, .ref 45, .int (sc 4006), .ref 46, .int (sc 4008), .int (sc 4009), .int (sc 4010), .ref 47, .ref 48, .int (sc 4013), .int x, .ref 49, .ref 50, .ref 51, .int (sc 4018), .int (sc 4019), .int (sc 4020), .int (sc 4021), .int (sc 4022), .int (sc 4023), .int (sc 4024), .int (sc 4025), .ref 52, .int (sc 4027), .int (sc 4028), .ref 53, .ref 54, .ref 55, .int (sc 4032), .ref 56, .ref 57, .ref 58, .ref 59, .ref 60, .ref 61, .int (sc 4039), .int (sc 4040), .ref 62, .ref 63, .int (sc 4043), .int (sc 4044), .int (sc 4045), .int (sc 4046), .int (sc 4047), .int (sc 4048), .ref 64, .ref 65, .int (sc 4051), .int (sc 4052)])) = wH (wU sc 4014 x) ar sm rh rl la im dy := rfl
theorem wp_4018 {x : Int32} : (wH sc ar sm rh rl la im dy).set 40 (.inr (11, [.int (sc 4000), .ref 41, .ref 42, .ref 43, .ref 44, .ref 45, .int (sc 4006), .ref 46, .int (sc 4008), .int (sc 4009), .int (sc 4010), .ref 47, .ref 48, .int (sc 4013), .int (sc 4014), .ref 49, .ref 50, .ref 51, .int x, .int (sc 4019), .int (sc 4020), .int (sc 4021), .int (sc 4022), .int (sc 4023), .int (sc 4024), .int (sc 4025), .ref 52, .int (sc 4027), .int (sc 4028), .ref 53, .ref 54, .ref 55, .int (sc 4032), .ref 56, .ref 57, .ref 58, .ref 59, .ref 60, .ref 61, .int (sc 4039), .int (sc 4040), .ref 62, .ref 63, .int (sc 4043), .int (sc 4044), .int (sc 4045), .int (sc 4046), .int (sc 4047), .int (sc 4048), .ref 64, .ref 65, .int (sc 4051), .int (sc 4052)])) = wH (wU sc 4018 x) ar sm rh rl la im dy := rfl
theorem wp_4019 {x : Int32} : (wH sc ar sm rh rl la im dy).set 40 (.inr (11, [.int (sc 4000), .ref 41, .ref 42, .ref 43, .ref 44, .ref 45, .int (sc 4006), .ref 46, .int (sc 4008), .int (sc 4009), .int (sc 4010), .ref 47, .ref 48, .int (sc 4013), .int (sc 4014), .ref 49, .ref 50, .ref 51, .int (sc 4018), .int x, .int (sc 4020), .int (sc 4021), .int (sc 4022), .int (sc 4023), .int (sc 4024), .int (sc 4025), .ref 52, .int (sc 4027), .int (sc 4028), .ref 53, .ref 54, .ref 55, .int (sc 4032), .ref 56, .ref 57, .ref 58, .ref 59, .ref 60, .ref 61, .int (sc 4039), .int (sc 4040), .ref 62, .ref 63, .int (sc 4043), .int (sc 4044), .int (sc 4045), .int (sc 4046), .int (sc 4047), .int (sc 4048), .ref 64, .ref 65, .int (sc 4051), .int (sc 4052)])) = wH (wU sc 4019 x) ar sm rh rl la im dy := rfl
theorem wp_4020 {x : Int32} : (wH sc ar sm rh rl la im dy).set 40 (.inr (11, [.int (sc 4000), .ref 41, .ref 42, .ref 43, .ref 44, .ref 45, .int (sc 4006), .ref 46, .int (sc 4008), .int (sc 4009), .int (sc 4010), .ref 47, .ref 48, .int (sc 4013), .int (sc 4014), .ref 49, .ref 50, .ref 51, .int (sc 4018), .int (sc 4019), .int x, .int (sc 4021), .int (sc 4022), .int (sc 4023), .int (sc 4024), .int (sc 4025), .ref 52, .int (sc 4027), .int (sc 4028), .ref 53, .ref 54, .ref 55, .int (sc 4032), .ref 56, .ref 57, .ref 58, .ref 59, .ref 60, .ref 61, .int (sc 4039), .int (sc 4040), .ref 62, .ref 63, .int (sc 4043), .int (sc 4044), .int (sc 4045), .int (sc 4046), .int (sc 4047), .int (sc 4048), .ref 64, .ref 65, .int (sc 4051), .int (sc 4052)])) = wH (wU sc 4020 x) ar sm rh rl la im dy := rfl
theorem wp_4021 {x : Int32} : (wH sc ar sm rh rl la im dy).set 40 (.inr (11, [.int (sc 4000), .ref 41, .ref 42, .ref 43, .ref 44, .ref 45, .int (sc 4006), .ref 46, .int (sc 4008), .int (sc 4009), .int (sc 4010), .ref 47, .ref 48, .int (sc 4013), .int (sc 4014), .ref 49, .ref 50, .ref 51, .int (sc 4018), .int (sc 4019), .int (sc 4020), .int x, .int (sc 4022), .int (sc 4023), .int (sc 4024), .int (sc 4025), .ref 52, .int (sc 4027), .int (sc 4028), .ref 53, .ref 54, .ref 55, .int (sc 4032), .ref 56, .ref 57, .ref 58, .ref 59, .ref 60, .ref 61, .int (sc 4039), .int (sc 4040), .ref 62, .ref 63, .int (sc 4043), .int (sc 4044), .int (sc 4045), .int (sc 4046), .int (sc 4047), .int (sc 4048), .ref 64, .ref 65, .int (sc 4051), .int (sc 4052)])) = wH (wU sc 4021 x) ar sm rh rl la im dy := rfl
theorem wp_4022 {x : Int32} : (wH sc ar sm rh rl la im dy).set 40 (.inr (11, [.int (sc 4000), .ref 41, .ref 42, .ref 43, .ref 44, .ref 45, .int (sc 4006), .ref 46, .int (sc 4008), .int (sc 4009), .int (sc 4010), .ref 47, .ref 48, .int (sc 4013), .int (sc 4014), .ref 49, .ref 50, .ref 51, .int (sc 4018), .int (sc 4019), .int (sc 4020), .int (sc 4021), .int x, .int (sc 4023), .int (sc 4024), .int (sc 4025), .ref 52, .int (sc 4027), .int (sc 4028), .ref 53, .ref 54, .ref 55, .int (sc 4032), .ref 56, .ref 57, .ref 58, .ref 59, .ref 60, .ref 61, .int (sc 4039), .int (sc 4040), .ref 62, .ref 63, .int (sc 4043), .int (sc 4044), .int (sc 4045), .int (sc 4046), .int (sc 4047), .int (sc 4048), .ref 64, .ref 65, .int (sc 4051), .int (sc 4052)])) = wH (wU sc 4022 x) ar sm rh rl la im dy := rfl
theorem wp_4023 {x : Int32} : (wH sc ar sm rh rl la im dy).set 40 (.inr (11, [.int (sc 4000), .ref 41, .ref 42, .ref 43, .ref 44, .ref 45, .int (sc 4006), .ref 46, .int (sc 4008), .int (sc 4009), .int (sc 4010), .ref 47, .ref 48, .int (sc 4013), .int (sc 4014), .ref 49, .ref 50, .ref 51, .int (sc 4018), .int (sc 4019), .int (sc 4020), .int (sc 4021), .int (sc 4022), .int x, .int (sc 4024), .int (sc 4025), .ref 52, .int (sc 4027), .int (sc 4028), .ref 53, .ref 54, .ref 55, .int (sc 4032), .ref 56, .ref 57, .ref 58, .ref 59, .ref 60, .ref 61, .int (sc 4039), .int (sc 4040), .ref 62, .ref 63, .int (sc 4043), .int (sc 4044), .int (sc 4045), .int (sc 4046), .int (sc 4047), .int (sc 4048), .ref 64, .ref 65, .int (sc 4051), .int (sc 4052)])) = wH (wU sc 4023 x) ar sm rh rl la im dy := rfl
theorem wp_4024 {x : Int32} : (wH sc ar sm rh rl la im dy).set 40 (.inr (11, [.int (sc 4000), .ref 41, .ref 42, .ref 43, .ref 44, .ref 45, .int (sc 4006), .ref 46, .int (sc 4008), .int (sc 4009), .int (sc 4010), .ref 47, .ref 48, .int (sc 4013), .int (sc 4014), .ref 49, .ref 50, .ref 51, .int (sc 4018), .int (sc 4019), .int (sc 4020), .int (sc 4021), .int (sc 4022), .int (sc 4023), .int x, .int (sc 4025), .ref 52, .int (sc 4027), .int (sc 4028), .ref 53, .ref 54, .ref 55, .int (sc 4032), .ref 56, .ref 57, .ref 58, .ref 59, .ref 60, .ref 61, .int (sc 4039), .int (sc 4040), .ref 62, .ref 63, .int (sc 4043), .int (sc 4044), .int (sc 4045), .int (sc 4046), .int (sc 4047), .int (sc 4048), .ref 64, .ref 65, .int (sc 4051), .int (sc 4052)])) = wH (wU sc 4024 x) ar sm rh rl la im dy := rfl
theorem wp_4025 {x : Int32} : (wH sc ar sm rh rl la im dy).set 40 (.inr (11, [.int (sc 4000), .ref 41, .ref 42, .ref 43, .ref 44, .ref 45, .int (sc 4006), .ref 46, .int (sc 4008), .int (sc 4009), .int (sc 4010), .ref 47, .ref 48, .int (sc 4013), .int (sc 4014), .ref 49, .ref 50, .ref 51, .int (sc 4018), .int (sc 4019), .int (sc 4020), .int (sc 4021), .int (sc 4022), .int (sc 4023), .int (sc 4024), .int x, .ref 52, .int (sc 4027), .int (sc 4028), .ref 53, .ref 54, .ref 55, .int (sc 4032), .ref 56, .ref 57, .ref 58, .ref 59, .ref 60, .ref 61, .int (sc 4039), .int (sc 4040), .ref 62, .ref 63, .int (sc 4043), .int (sc 4044), .int (sc 4045), .int (sc 4046), .int (sc 4047), .int (sc 4048), .ref 64, .ref 65, .int (sc 4051), .int (sc 4052)])) = wH (wU sc 4025 x) ar sm rh rl la im dy := rfl
theorem wp_4027 {x : Int32} : (wH sc ar sm rh rl la im dy).set 40 (.inr (11, [.int (sc 4000), .ref 41, .ref 42, .ref 43, .ref 44, .ref 45, .int (sc 4006), .ref 46, .int (sc 4008), .int (sc 4009), .int (sc 4010), .ref 47, .ref 48, .int (sc 4013), .int (sc 4014), .ref 49, .ref 50, .ref 51, .int (sc 4018), .int (sc 4019), .int (sc 4020), .int (sc 4021), .int (sc 4022), .int (sc 4023), .int (sc 4024), .int (sc 4025), .ref 52, .int x, .int (sc 4028), .ref 53, .ref 54, .ref 55, .int (sc 4032), .ref 56, .ref 57, .ref 58, .ref 59, .ref 60, .ref 61, .int (sc 4039), .int (sc 4040), .ref 62, .ref 63, .int (sc 4043), .int (sc 4044), .int (sc 4045), .int (sc 4046), .int (sc 4047), .int (sc 4048), .ref 64, .ref 65, .int (sc 4051), .int (sc 4052)])) = wH (wU sc 4027 x) ar sm rh rl la im dy := rfl
theorem wp_4028 {x : Int32} : (wH sc ar sm rh rl la im dy).set 40 (.inr (11, [.int (sc 4000), .ref 41, .ref 42, .ref 43, .ref 44, .ref 45, .int (sc 4006), .ref 46, .int (sc 4008), .int (sc 4009), .int (sc 4010), .ref 47, .ref 48, .int (sc 4013), .int (sc 4014), .ref 49, .ref 50, .ref 51, .int (sc 4018), .int (sc 4019), .int (sc 4020), .int (sc 4021), .int (sc 4022), .int (sc 4023), .int (sc 4024), .int (sc 4025), .ref 52, .int (sc 4027), .int x, .ref 53, .ref 54, .ref 55, .int (sc 4032), .ref 56, .ref 57, .ref 58, .ref 59, .ref 60, .ref 61, .int (sc 4039), .int (sc 4040), .ref 62, .ref 63, .int (sc 4043), .int (sc 4044), .int (sc 4045), .int (sc 4046), .int (sc 4047), .int (sc 4048), .ref 64, .ref 65, .int (sc 4051), .int (sc 4052)])) = wH (wU sc 4028 x) ar sm rh rl la im dy := rfl
theorem wp_4032 {x : Int32} : (wH sc ar sm rh rl la im dy).set 40 (.inr (11, [.int (sc 4000), .ref 41, .ref 42, .ref 43, .ref 44, .ref 45, .int (sc 4006), .ref 46, .int (sc 4008), .int (sc 4009), .int (sc 4010), .ref 47, .ref 48, .int (sc 4013), .int (sc 4014), .ref 49, .ref 50, .ref 51, .int (sc 4018), .int (sc 4019), .int (sc 4020), .int (sc 4021), .int (sc 4022), .int (sc 4023), .int (sc 4024), .int (sc 4025), .ref 52, .int (sc 4027), .int (sc 4028), .ref 53, .ref 54, .ref 55, .int x, .ref 56, .ref 57, .ref 58, .ref 59, .ref 60, .ref 61, .int (sc 4039), .int (sc 4040), .ref 62, .ref 63, .int (sc 4043), .int (sc 4044), .int (sc 4045), .int (sc 4046), .int (sc 4047), .int (sc 4048), .ref 64, .ref 65, .int (sc 4051), .int (sc 4052)])) = wH (wU sc 4032 x) ar sm rh rl la im dy := rfl
theorem wp_4039 {x : Int32} : (wH sc ar sm rh rl la im dy).set 40 (.inr (11, [.int (sc 4000), .ref 41, .ref 42, .ref 43, .ref 44, .ref 45, .int (sc 4006), .ref 46, .int (sc 4008), .int (sc 4009), .int (sc 4010), .ref 47, .ref 48, .int (sc 4013), .int (sc 4014), .ref 49, .ref 50, .ref 51, .int (sc 4018), .int (sc 4019), .int (sc 4020), .int (sc 4021), .int (sc 4022), .int (sc 4023), .int (sc 4024), .int (sc 4025), .ref 52, .int (sc 4027), .int (sc 4028), .ref 53, .ref 54, .ref 55, .int (sc 4032), .ref 56, .ref 57, .ref 58, .ref 59, .ref 60, .ref 61, .int x, .int (sc 4040), .ref 62, .ref 63, .int (sc 4043), .int (sc 4044), .int (sc 4045), .int (sc 4046), .int (sc 4047), .int (sc 4048), .ref 64, .ref 65, .int (sc 4051), .int (sc 4052)])) = wH (wU sc 4039 x) ar sm rh rl la im dy := rfl
theorem wp_4040 {x : Int32} : (wH sc ar sm rh rl la im dy).set 40 (.inr (11, [.int (sc 4000), .ref 41, .ref 42, .ref 43, .ref 44, .ref 45, .int (sc 4006), .ref 46, .int (sc 4008), .int (sc 4009), .int (sc 4010), .ref 47, .ref 48, .int (sc 4013), .int (sc 4014), .ref 49, .ref 50, .ref 51, .int (sc 4018), .int (sc 4019), .int (sc 4020), .int (sc 4021), .int (sc 4022), .int (sc 4023), .int (sc 4024), .int (sc 4025), .ref 52, .int (sc 4027), .int (sc 4028), .ref 53, .ref 54, .ref 55, .int (sc 4032), .ref 56, .ref 57, .ref 58, .ref 59, .ref 60, .ref 61, .int (sc 4039), .int x, .ref 62, .ref 63, .int (sc 4043), .int (sc 4044), .int (sc 4045), .int (sc 4046), .int (sc 4047), .int (sc 4048), .ref 64, .ref 65, .int (sc 4051), .int (sc 4052)])) = wH (wU sc 4040 x) ar sm rh rl la im dy := rfl
theorem wp_4043 {x : Int32} : (wH sc ar sm rh rl la im dy).set 40 (.inr (11, [.int (sc 4000), .ref 41, .ref 42, .ref 43, .ref 44, .ref 45, .int (sc 4006), .ref 46, .int (sc 4008), .int (sc 4009), .int (sc 4010), .ref 47, .ref 48, .int (sc 4013), .int (sc 4014), .ref 49, .ref 50, .ref 51, .int (sc 4018), .int (sc 4019), .int (sc 4020), .int (sc 4021), .int (sc 4022), .int (sc 4023), .int (sc 4024), .int (sc 4025), .ref 52, .int (sc 4027), .int (sc 4028), .ref 53, .ref 54, .ref 55, .int (sc 4032), .ref 56, .ref 57, .ref 58, .ref 59, .ref 60, .ref 61, .int (sc 4039), .int (sc 4040), .ref 62, .ref 63, .int x, .int (sc 4044), .int (sc 4045), .int (sc 4046), .int (sc 4047), .int (sc 4048), .ref 64, .ref 65, .int (sc 4051), .int (sc 4052)])) = wH (wU sc 4043 x) ar sm rh rl la im dy := rfl
theorem wp_4044 {x : Int32} : (wH sc ar sm rh rl la im dy).set 40 (.inr (11, [.int (sc 4000), .ref 41, .ref 42, .ref 43, .ref 44, .ref 45, .int (sc 4006), .ref 46, .int (sc 4008), .int (sc 4009), .int (sc 4010), .ref 47, .ref 48, .int (sc 4013), .int (sc 4014), .ref 49, .ref 50, .ref 51, .int (sc 4018), .int (sc 4019), .int (sc 4020), .int (sc 4021), .int (sc 4022), .int (sc 4023), .int (sc 4024), .int (sc 4025), .ref 52, .int (sc 4027), .int (sc 4028), .ref 53, .ref 54, .ref 55, .int (sc 4032), .ref 56, .ref 57, .ref 58, .ref 59, .ref 60, .ref 61, .int (sc 4039), .int (sc 4040), .ref 62, .ref 63, .int (sc 4043), .int x, .int (sc 4045), .int (sc 4046), .int (sc 4047), .int (sc 4048), .ref 64, .ref 65, .int (sc 4051), .int (sc 4052)])) = wH (wU sc 4044 x) ar sm rh rl la im dy := rfl
theorem wp_4045 {x : Int32} : (wH sc ar sm rh rl la im dy).set 40 (.inr (11, [.int (sc 4000), .ref 41, .ref 42, .ref 43, .ref 44, .ref 45, .int (sc 4006), .ref 46, .int (sc 4008), .int (sc 4009), .int (sc 4010), .ref 47, .ref 48, .int (sc 4013), .int (sc 4014), .ref 49, .ref 50, .ref 51, .int (sc 4018), .int (sc 4019), .int (sc 4020), .int (sc 4021), .int (sc 4022), .int (sc 4023), .int (sc 4024), .int (sc 4025), .ref 52, .int (sc 4027), .int (sc 4028), .ref 53, .ref 54, .ref 55, .int (sc 4032), .ref 56, .ref 57, .ref 58, .ref 59, .ref 60, .ref 61, .int (sc 4039), .int (sc 4040), .ref 62, .ref 63, .int (sc 4043), .int (sc 4044), .int x, .int (sc 4046), .int (sc 4047), .int (sc 4048), .ref 64, .ref 65, .int (sc 4051), .int (sc 4052)])) = wH (wU sc 4045 x) ar sm rh rl la im dy := rfl
theorem wp_4046 {x : Int32} : (wH sc ar sm rh rl la im dy).set 40 (.inr (11, [.int (sc 4000), .ref 41, .ref 42, .ref 43, .ref 44, .ref 45, .int (sc 4006), .ref 46, .int (sc 4008), .int (sc 4009), .int (sc 4010), .ref 47, .ref 48, .int (sc 4013), .int (sc 4014), .ref 49, .ref 50, .ref 51, .int (sc 4018), .int (sc 4019), .int (sc 4020), .int (sc 4021), .int (sc 4022), .int (sc 4023), .int (sc 4024), .int (sc 4025), .ref 52, .int (sc 4027), .int (sc 4028), .ref 53, .ref 54, .ref 55, .int (sc 4032), .ref 56, .ref 57, .ref 58, .ref 59, .ref 60, .ref 61, .int (sc 4039), .int (sc 4040), .ref 62, .ref 63, .int (sc 4043), .int (sc 4044), .int (sc 4045), .int x, .int (sc 4047), .int (sc 4048), .ref 64, .ref 65, .int (sc 4051), .int (sc 4052)])) = wH (wU sc 4046 x) ar sm rh rl la im dy := rfl
theorem wp_4047 {x : Int32} : (wH sc ar sm rh rl la im dy).set 40 (.inr (11, [.int (sc 4000), .ref 41, .ref 42, .ref 43, .ref 44, .ref 45, .int (sc 4006), .ref 46, .int (sc 4008), .int (sc 4009), .int (sc 4010), .ref 47, .ref 48, .int (sc 4013), .int (sc 4014), .ref 49, .ref 50, .ref 51, .int (sc 4018), .int (sc 4019), .int (sc 4020), .int (sc 4021), .int (sc 4022), .int (sc 4023), .int (sc 4024), .int (sc 4025), .ref 52, .int (sc 4027), .int (sc 4028), .ref 53, .ref 54, .ref 55, .int (sc 4032), .ref 56, .ref 57, .ref 58, .ref 59, .ref 60, .ref 61, .int (sc 4039), .int (sc 4040), .ref 62, .ref 63, .int (sc 4043), .int (sc 4044), .int (sc 4045), .int (sc 4046), .int x, .int (sc 4048), .ref 64, .ref 65, .int (sc 4051), .int (sc 4052)])) = wH (wU sc 4047 x) ar sm rh rl la im dy := rfl
theorem wp_4048 {x : Int32} : (wH sc ar sm rh rl la im dy).set 40 (.inr (11, [.int (sc 4000), .ref 41, .ref 42, .ref 43, .ref 44, .ref 45, .int (sc 4006), .ref 46, .int (sc 4008), .int (sc 4009), .int (sc 4010), .ref 47, .ref 48, .int (sc 4013), .int (sc 4014), .ref 49, .ref 50, .ref 51, .int (sc 4018), .int (sc 4019), .int (sc 4020), .int (sc 4021), .int (sc 4022), .int (sc 4023), .int (sc 4024), .int (sc 4025), .ref 52, .int (sc 4027), .int (sc 4028), .ref 53, .ref 54, .ref 55, .int (sc 4032), .ref 56, .ref 57, .ref 58, .ref 59, .ref 60, .ref 61, .int (sc 4039), .int (sc 4040), .ref 62, .ref 63, .int (sc 4043), .int (sc 4044), .int (sc 4045), .int (sc 4046), .int (sc 4047), .int x, .ref 64, .ref 65, .int (sc 4051), .int (sc 4052)])) = wH (wU sc 4048 x) ar sm rh rl la im dy := rfl
theorem wp_4051 {x : Int32} : (wH sc ar sm rh rl la im dy).set 40 (.inr (11, [.int (sc 4000), .ref 41, .ref 42, .ref 43, .ref 44, .ref 45, .int (sc 4006), .ref 46, .int (sc 4008), .int (sc 4009), .int (sc 4010), .ref 47, .ref 48, .int (sc 4013), .int (sc 4014), .ref 49, .ref 50, .ref 51, .int (sc 4018), .int (sc 4019), .int (sc 4020), .int (sc 4021), .int (sc 4022), .int (sc 4023), .int (sc 4024), .int (sc 4025), .ref 52, .int (sc 4027), .int (sc 4028), .ref 53, .ref 54, .ref 55, .int (sc 4032), .ref 56, .ref 57, .ref 58, .ref 59, .ref 60, .ref 61, .int (sc 4039), .int (sc 4040), .ref 62, .ref 63, .int (sc 4043), .int (sc 4044), .int (sc 4045), .int (sc 4046), .int (sc 4047), .int (sc 4048), .ref 64, .ref 65, .int x, .int (sc 4052)])) = wH (wU sc 4051 x) ar sm rh rl la im dy := rfl
theorem wp_4052 {x : Int32} : (wH sc ar sm rh rl la im dy).set 40 (.inr (11, [.int (sc 4000), .ref 41, .ref 42, .ref 43, .ref 44, .ref 45, .int (sc 4006), .ref 46, .int (sc 4008), .int (sc 4009), .int (sc 4010), .ref 47, .ref 48, .int (sc 4013), .int (sc 4014), .ref 49, .ref 50, .ref 51, .int (sc 4018), .int (sc 4019), .int (sc 4020), .int (sc 4021), .int (sc 4022), .int (sc 4023), .int (sc 4024), .int (sc 4025), .ref 52, .int (sc 4027), .int (sc 4028), .ref 53, .ref 54, .ref 55, .int (sc 4032), .ref 56, .ref 57, .ref 58, .ref 59, .ref 60, .ref 61, .int (sc 4039), .int (sc 4040), .ref 62, .ref 63, .int (sc 4043), .int (sc 4044), .int (sc 4045), .int (sc 4046), .int (sc 4047), .int (sc 4048), .ref 64, .ref 65, .int (sc 4051), .int x])) = wH (wU sc 4052 x) ar sm rh rl la im dy := rfl
end WH
