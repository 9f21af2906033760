/-! The two methods of texts. -/
abbrev hv_s1 : Nat := 711
abbrev hv_s2 : Nat := 721
abbrev hv_s3 : Nat := 712
abbrev hv_s4 : Nat := 722
abbrev hv_s5 : Nat := 145
theorem hv_code_305 : Jvm.Cond.code (hv_y 305) (hv_cc 305) (hv_nL 305) (hv_rt 305) ∈ lw_tbl := hv_sub3 (List.mem_of_getElem? (i := 102) rfl)
theorem hv_code_306 : Jvm.Cond.code (hv_y 306) (hv_cc 306) (hv_nL 306) (hv_rt 306) ∈ lw_tbl := hv_sub3 (List.mem_of_getElem? (i := 112) rfl)
set_option maxRecDepth 100000 in
theorem hv_MX_ok : hv_MX.all (fun x => hv_inT (.methodLink (hv_on x.1) x.2.1 (hv_y x.2.2.1)) x.2.2.2.2 && decide (305 ≤ x.2.2.1) && decide ((parseMethodDescriptor (hv_y x.2.2.1).desc).map (fun d => d.parameters.length) = some (x.2.2.2.1 - 1))) = true := by decide +kernel
