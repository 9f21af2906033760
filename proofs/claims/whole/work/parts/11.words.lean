/-! The words of the tables that a method may use, and what of them is true wherever the machine stands. -/
def hv_G : List Jvm.Cond := lw_tbl.filter goodWord
def hv_inT (c : Jvm.Cond) (k : Nat) : Bool := decide (lw_tbl[k]? = some c)
theorem hv_inT_mem {c : Jvm.Cond} {k : Nat} (h : hv_inT c k = true) : c ∈ lw_tbl := List.mem_of_getElem? (of_decide_eq_true h)
theorem hv_inG {c : Jvm.Cond} {k : Nat} (h : hv_inT c k = true) (hg : goodWord c = true) : c ∈ hv_G := List.mem_filter.mpr ⟨hv_inT_mem h, hg⟩
def hv_y (j : Nat) : MethodName := (hv_MT.getD j ((⟨"", "", ""⟩, ⟨#[]⟩), (0, none), (0, false))).1.1
def hv_cc (j : Nat) : ByteArray := (hv_MT.getD j ((⟨"", "", ""⟩, ⟨#[]⟩), (0, none), (0, false))).1.2
def hv_nL (j : Nat) : Nat := (hv_MT.getD j ((⟨"", "", ""⟩, ⟨#[]⟩), (0, none), (0, false))).2.1.1
def hv_rt (j : Nat) : Option FieldType := (hv_MT.getD j ((⟨"", "", ""⟩, ⟨#[]⟩), (0, none), (0, false))).2.1.2
def hv_ow (j : Nat) : Nat := (hv_MT.getD j ((⟨"", "", ""⟩, ⟨#[]⟩), (0, none), (0, false))).2.2.1
def hv_ii (j : Nat) : Bool := (hv_MT.getD j ((⟨"", "", ""⟩, ⟨#[]⟩), (0, none), (0, false))).2.2.2
def hv_ws (j : Nat) : List Jvm.Cond := .code (hv_y j) (hv_cc j) (hv_nL j) (hv_rt j) :: hv_G
def hv_fl (x : Nat × Nat × Nat × Nat) : Jvm.Cond := .fieldLink (hv_on x.1) x.2.1 (hv_T (x.2.2.1 / 100) (x.2.2.1 % 100)).1 (hv_T (x.2.2.1 / 100) (x.2.2.1 % 100)).2.1 (hv_T (x.2.2.1 / 100) (x.2.2.1 % 100)).2.2.1
def hv_fln (x : Nat × Nat × Nat × Nat) : Jvm.Cond := .fieldLinkNest (hv_on x.1) x.2.1 (hv_T (x.2.2.1 / 100) (x.2.2.1 % 100)).1 (hv_T (x.2.2.1 / 100) (x.2.2.1 % 100)).2.1 (hv_T (x.2.2.1 / 100) (x.2.2.1 % 100)).2.2.1 "HardestVows"
def hv_cln : MethodName := ⟨"[I", "clone", "()Ljava/lang/Object;"⟩
set_option maxRecDepth 100000 in
theorem hv_FT_ok : hv_FT.all (fun x => hv_inT (hv_fl x) x.2.2.2 && decide (x.2.2.1 / 100 < 12) && decide (x.2.2.1 % 100 < hv_N (x.2.2.1 / 100))) = true := by decide +kernel
set_option maxRecDepth 100000 in
theorem hv_FN_ok : hv_FN.all (fun x => hv_inT (hv_fln x) x.2.2.2 && decide (x.2.2.1 / 100 < 12) && decide (x.2.2.1 % 100 < hv_N (x.2.2.1 / 100))) = true := by decide +kernel
set_option maxRecDepth 100000 in
theorem hv_KT_ok : hv_KT.all (fun x => hv_inT (.constant (hv_on x.1) x.2.1 (Int32.ofInt x.2.2.1)) x.2.2.2) = true := by decide +kernel
set_option maxRecDepth 100000 in
theorem hv_LT_ok : hv_LT.all (fun x => hv_inT (.constantLong (hv_on x.1) x.2.1 (Int64.ofInt x.2.2.1)) x.2.2.2) = true := by decide +kernel
set_option maxRecDepth 100000 in
theorem hv_CT_ok : hv_CT.all (fun x => hv_inT (.classLink (hv_on x.1) x.2.1 (hv_on x.2.2.1)) x.2.2.2 && decide (x.2.2.1 < 12)) = true := by decide +kernel
set_option maxRecDepth 100000 in
theorem hv_AT_ok : hv_AT.all (fun x => (x.2.2.1 == 4 && hv_inT (.classLink (hv_on x.1) x.2.1 "HardestVows$Whole") x.2.2.2) || (x.2.2.1 == 5 && hv_inT (.classLink (hv_on x.1) x.2.1 "HardestVows$Code") x.2.2.2)) = true := by decide +kernel
set_option maxRecDepth 100000 in
theorem hv_OT_ok : hv_OT.all (fun x => hv_inT (.methodLink (hv_on x.1) x.2.1 Lib.objectInit) x.2.2) = true := by decide +kernel
set_option maxRecDepth 100000 in
theorem hv_YT_ok : hv_YT.all (fun x => hv_inT (.methodLink (hv_on x.1) x.2.1 arraycopyName) x.2.2) = true := by decide +kernel
set_option maxRecDepth 100000 in
theorem hv_MV_ok : hv_MV.all (fun x => hv_inT (.methodLink (hv_on x.1) x.2.1 (hv_y x.2.2.1)) x.2.2.2.2) = true := by decide +kernel
set_option maxRecDepth 100000 in
theorem hv_MS_ok : hv_MS.all (fun x => hv_inT (.methodLink (hv_on x.1) x.2.1 (hv_y x.2.2.1)) x.2.2.2.2) = true := by decide +kernel
set_option maxRecDepth 100000 in
theorem hv_MI_ok : hv_MI.all (fun x => hv_inT (.methodLink (hv_on x.1) x.2.1 (hv_y x.2.2.1)) x.2.2.2.2) = true := by decide +kernel
set_option maxRecDepth 100000 in
theorem hv_MSN_ok : hv_MSN.all (fun x => hv_inT (.methodLinkNest (hv_on x.1) x.2.1 (hv_y x.2.2.1) "HardestVows") x.2.2.2.2) = true := by decide +kernel
set_option maxRecDepth 100000 in
theorem hv_MIN_ok : hv_MIN.all (fun x => hv_inT (.methodLinkNest (hv_on x.1) x.2.1 (hv_y x.2.2.1) "HardestVows") x.2.2.2.2) = true := by decide +kernel
set_option maxRecDepth 100000 in
theorem hv_ST_ok : hv_ST.all (fun x => hv_inT (.stringRef (hv_on x.1) x.2.1 (hv_STR.getD x.2.2.1 "")) x.2.2.2 && decide (x.2.2.1 < 11)) = true := by decide +kernel
set_option maxRecDepth 100000 in
theorem hv_XI_ok : (List.range 12).all (fun ci => hv_inT (.instantiable (hv_on ci) (hv_N ci)) (hv_XI.getD ci (0, 0)).1 && hv_inT (.initialized (hv_on ci)) (hv_XI.getD ci (0, 0)).2) = true := by decide +kernel
