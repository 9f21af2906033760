/-! The code words of the methods stand among the tables' words. -/
theorem hv_sub1 {w : Jvm.Cond} (h : w ∈ tables_1_1) : w ∈ lw_tbl := List.mem_append_right _ (List.mem_append_left _ h)
theorem hv_sub2 {w : Jvm.Cond} (h : w ∈ tables_1_2) : w ∈ lw_tbl := List.mem_append_right _ (List.mem_append_right _ (List.mem_append_left _ h))
theorem hv_sub3 {w : Jvm.Cond} (h : w ∈ tables_1_3) : w ∈ lw_tbl := List.mem_append_right _ (List.mem_append_right _ (List.mem_append_right _ (List.mem_append_left _ h)))
theorem hv_sub4 {w : Jvm.Cond} (h : w ∈ tables_1_4) : w ∈ lw_tbl := List.mem_append_right _ (List.mem_append_right _ (List.mem_append_right _ (List.mem_append_right _ (List.mem_append_left _ h))))
theorem hv_sub5 {w : Jvm.Cond} (h : w ∈ tables_1_5) : w ∈ lw_tbl := List.mem_append_right _ (List.mem_append_right _ (List.mem_append_right _ (List.mem_append_right _ (List.mem_append_right _ (List.mem_append_left _ h)))))
theorem hv_sub6 {w : Jvm.Cond} (h : w ∈ tables_1_6) : w ∈ lw_tbl := List.mem_append_right _ (List.mem_append_right _ (List.mem_append_right _ (List.mem_append_right _ (List.mem_append_right _ (List.mem_append_right _ (List.mem_append_left _ h))))))
theorem hv_sub7 {w : Jvm.Cond} (h : w ∈ tables_1_7) : w ∈ lw_tbl := List.mem_append_right _ (List.mem_append_right _ (List.mem_append_right _ (List.mem_append_right _ (List.mem_append_right _ (List.mem_append_right _ (List.mem_append_right _ (List.mem_append_left _ h)))))))
theorem hv_sub8 {w : Jvm.Cond} (h : w ∈ tables_1_8) : w ∈ lw_tbl := List.mem_append_right _ (List.mem_append_right _ (List.mem_append_right _ (List.mem_append_right _ (List.mem_append_right _ (List.mem_append_right _ (List.mem_append_right _ (List.mem_append_right _ (h))))))))
theorem hv_code_0 : Jvm.Cond.code (hv_y 0) (hv_cc 0) (hv_nL 0) (hv_rt 0) ∈ lw_tbl := hv_sub1 (List.mem_of_getElem? (i := 25) (show tables_1_1[25]? = some (.code ⟨"HardestVows", "<init>", "()V"⟩ prog_1_method_1_code 1 none) from rfl))
theorem hv_code_1 : Jvm.Cond.code (hv_y 1) (hv_cc 1) (hv_nL 1) (hv_rt 1) ∈ lw_tbl := hv_sub2 (List.mem_of_getElem? (i := 102) (show tables_1_2[102]? = some (.code ⟨"HardestVows", "monk", "(I)I"⟩ prog_1_method_2_code 4 (some .int)) from rfl))
theorem hv_code_2 : Jvm.Cond.code (hv_y 2) (hv_cc 2) (hv_nL 2) (hv_rt 2) ∈ lw_tbl := hv_sub2 (List.mem_of_getElem? (i := 137) (show tables_1_2[137]? = some (.code ⟨"HardestVows", "put", "(III)I"⟩ prog_1_method_3_code 5 (some .int)) from rfl))
theorem hv_code_3 : Jvm.Cond.code (hv_y 3) (hv_cc 3) (hv_nL 3) (hv_rt 3) ∈ lw_tbl := hv_sub2 (List.mem_of_getElem? (i := 152) (show tables_1_2[152]? = some (.code ⟨"HardestVows", "of", "(III)I"⟩ prog_1_method_4_code 5 (some .int)) from rfl))
theorem hv_code_4 : Jvm.Cond.code (hv_y 4) (hv_cc 4) (hv_nL 4) (hv_rt 4) ∈ lw_tbl := hv_sub3 (List.mem_of_getElem? (i := 23) (show tables_1_3[23]? = some (.code ⟨"HardestVows", "has", "(I)I"⟩ prog_1_method_5_code 2 (some .int)) from rfl))
theorem hv_code_5 : Jvm.Cond.code (hv_y 5) (hv_cc 5) (hv_nL 5) (hv_rt 5) ∈ lw_tbl := hv_sub3 (List.mem_of_getElem? (i := 28) (show tables_1_3[28]? = some (.code ⟨"HardestVows", "terms", "(II)I"⟩ prog_1_method_6_code 6 (some .int)) from rfl))
theorem hv_code_6 : Jvm.Cond.code (hv_y 6) (hv_cc 6) (hv_nL 6) (hv_rt 6) ∈ lw_tbl := hv_sub3 (List.mem_of_getElem? (i := 42) (show tables_1_3[42]? = some (.code ⟨"HardestVows", "feed", "(IIIII)I"⟩ prog_1_method_7_code 6 (some .int)) from rfl))
theorem hv_code_7 : Jvm.Cond.code (hv_y 7) (hv_cc 7) (hv_nL 7) (hv_rt 7) ∈ lw_tbl := hv_sub3 (List.mem_of_getElem? (i := 46) (show tables_1_3[46]? = some (.code ⟨"HardestVows", "addBytes", "(I)V"⟩ prog_1_method_8_code 3 none) from rfl))
theorem hv_code_8 : Jvm.Cond.code (hv_y 8) (hv_cc 8) (hv_nL 8) (hv_rt 8) ∈ lw_tbl := hv_sub3 (List.mem_of_getElem? (i := 50) (show tables_1_3[50]? = some (.code ⟨"HardestVows", "end", "(I)I"⟩ prog_1_method_9_code 2 (some .int)) from rfl))
theorem hv_code_9 : Jvm.Cond.code (hv_y 9) (hv_cc 9) (hv_nL 9) (hv_rt 9) ∈ lw_tbl := hv_sub3 (List.mem_of_getElem? (i := 54) (show tables_1_3[54]? = some (.code ⟨"HardestVows", "row", "()I"⟩ prog_1_method_10_code 3 (some .int)) from rfl))
theorem hv_code_10 : Jvm.Cond.code (hv_y 10) (hv_cc 10) (hv_nL 10) (hv_rt 10) ∈ lw_tbl := hv_sub3 (List.mem_of_getElem? (i := 58) (show tables_1_3[58]? = some (.code ⟨"HardestVows", "isRow", "(I)Z"⟩ prog_1_method_11_code 3 (some .boolean)) from rfl))
theorem hv_code_11 : Jvm.Cond.code (hv_y 11) (hv_cc 11) (hv_nL 11) (hv_rt 11) ∈ lw_tbl := hv_sub3 (List.mem_of_getElem? (i := 62) (show tables_1_3[62]? = some (.code ⟨"HardestVows", "addMonkOfRow", "(I)V"⟩ prog_1_method_12_code 4 none) from rfl))
theorem hv_code_12 : Jvm.Cond.code (hv_y 12) (hv_cc 12) (hv_nL 12) (hv_rt 12) ∈ lw_tbl := hv_sub3 (List.mem_of_getElem? (i := 66) (show tables_1_3[66]? = some (.code ⟨"HardestVows", "crumbs", "()I"⟩ prog_1_method_13_code 1 (some .int)) from rfl))
theorem hv_code_13 : Jvm.Cond.code (hv_y 13) (hv_cc 13) (hv_nL 13) (hv_rt 13) ∈ lw_tbl := hv_sub3 (List.mem_of_getElem? (i := 70) (show tables_1_3[70]? = some (.code ⟨"HardestVows", "law", "()I"⟩ prog_1_method_14_code 2 (some .int)) from rfl))
theorem hv_code_14 : Jvm.Cond.code (hv_y 14) (hv_cc 14) (hv_nL 14) (hv_rt 14) ∈ lw_tbl := hv_sub4 (List.mem_of_getElem? (i := 20) (show tables_1_4[20]? = some (.code ⟨"HardestVows", "orders", "()I"⟩ prog_1_method_15_code 2 (some .int)) from rfl))
theorem hv_code_15 : Jvm.Cond.code (hv_y 15) (hv_cc 15) (hv_nL 15) (hv_rt 15) ∈ lw_tbl := hv_sub4 (List.mem_of_getElem? (i := 122) (show tables_1_4[122]? = some (.code ⟨"HardestVows", "fault", "()I"⟩ prog_1_method_16_code 1 (some .int)) from rfl))
theorem hv_code_16 : Jvm.Cond.code (hv_y 16) (hv_cc 16) (hv_nL 16) (hv_rt 16) ∈ lw_tbl := hv_sub4 (List.mem_of_getElem? (i := 126) (show tables_1_4[126]? = some (.code ⟨"HardestVows", "stopped", "()I"⟩ prog_1_method_17_code 1 (some .int)) from rfl))
theorem hv_code_17 : Jvm.Cond.code (hv_y 17) (hv_cc 17) (hv_nL 17) (hv_rt 17) ∈ lw_tbl := hv_sub4 (List.mem_of_getElem? (i := 130) (show tables_1_4[130]? = some (.code ⟨"HardestVows", "force", "(I)I"⟩ prog_1_method_18_code 3 (some .int)) from rfl))
theorem hv_code_18 : Jvm.Cond.code (hv_y 18) (hv_cc 18) (hv_nL 18) (hv_rt 18) ∈ lw_tbl := hv_sub4 (List.mem_of_getElem? (i := 135) (show tables_1_4[135]? = some (.code ⟨"HardestVows", "give", "(II)I"⟩ prog_1_method_19_code 3 (some .int)) from rfl))
theorem hv_code_19 : Jvm.Cond.code (hv_y 19) (hv_cc 19) (hv_nL 19) (hv_rt 19) ∈ lw_tbl := hv_sub4 (List.mem_of_getElem? (i := 140) (show tables_1_4[140]? = some (.code ⟨"HardestVows", "lay", "(I)I"⟩ prog_1_method_20_code 2 (some .int)) from rfl))
theorem hv_code_20 : Jvm.Cond.code (hv_y 20) (hv_cc 20) (hv_nL 20) (hv_rt 20) ∈ lw_tbl := hv_sub4 (List.mem_of_getElem? (i := 145) (show tables_1_4[145]? = some (.code ⟨"HardestVows", "swap", "(II)I"⟩ prog_1_method_21_code 3 (some .int)) from rfl))
theorem hv_code_21 : Jvm.Cond.code (hv_y 21) (hv_cc 21) (hv_nL 21) (hv_rt 21) ∈ lw_tbl := hv_sub4 (List.mem_of_getElem? (i := 150) (show tables_1_4[150]? = some (.code ⟨"HardestVows", "pass", "()I"⟩ prog_1_method_22_code 1 (some .int)) from rfl))
theorem hv_code_22 : Jvm.Cond.code (hv_y 22) (hv_cc 22) (hv_nL 22) (hv_rt 22) ∈ lw_tbl := hv_sub4 (List.mem_of_getElem? (i := 155) (show tables_1_4[155]? = some (.code ⟨"HardestVows", "undo", "()I"⟩ prog_1_method_23_code 1 (some .int)) from rfl))
theorem hv_code_23 : Jvm.Cond.code (hv_y 23) (hv_cc 23) (hv_nL 23) (hv_rt 23) ∈ lw_tbl := hv_sub4 (List.mem_of_getElem? (i := 171) (show tables_1_4[171]? = some (.code ⟨"HardestVows", "best", "(I)I"⟩ prog_1_method_24_code 2 (some .int)) from rfl))
theorem hv_code_24 : Jvm.Cond.code (hv_y 24) (hv_cc 24) (hv_nL 24) (hv_rt 24) ∈ lw_tbl := hv_sub4 (List.mem_of_getElem? (i := 214) (show tables_1_4[214]? = some (.code ⟨"HardestVows", "chosenOrTotal", "(II)I"⟩ prog_1_method_25_code 3 (some .int)) from rfl))
theorem hv_code_25 : Jvm.Cond.code (hv_y 25) (hv_cc 25) (hv_nL 25) (hv_rt 25) ∈ lw_tbl := hv_sub4 (List.mem_of_getElem? (i := 222) (show tables_1_4[222]? = some (.code ⟨"HardestVows", "fair", "(I)I"⟩ prog_1_method_26_code 3 (some .int)) from rfl))
theorem hv_code_26 : Jvm.Cond.code (hv_y 26) (hv_cc 26) (hv_nL 26) (hv_rt 26) ∈ lw_tbl := hv_sub4 (List.mem_of_getElem? (i := 239) (show tables_1_4[239]? = some (.code ⟨"HardestVows", "wished", "(I)I"⟩ prog_1_method_27_code 2 (some .int)) from rfl))
theorem hv_code_27 : Jvm.Cond.code (hv_y 27) (hv_cc 27) (hv_nL 27) (hv_rt 27) ∈ lw_tbl := hv_sub5 (List.mem_of_getElem? (i := 26) (show tables_1_5[26]? = some (.code ⟨"HardestVows", "swaps", "(I)I"⟩ prog_1_method_28_code 6 (some .int)) from rfl))
theorem hv_code_28 : Jvm.Cond.code (hv_y 28) (hv_cc 28) (hv_nL 28) (hv_rt 28) ∈ lw_tbl := hv_sub5 (List.mem_of_getElem? (i := 35) (show tables_1_5[35]? = some (.code ⟨"HardestVows", "hide", "(II)I"⟩ prog_1_method_29_code 3 (some .int)) from rfl))
theorem hv_code_29 : Jvm.Cond.code (hv_y 29) (hv_cc 29) (hv_nL 29) (hv_rt 29) ∈ lw_tbl := hv_sub5 (List.mem_of_getElem? (i := 60) (show tables_1_5[60]? = some (.code ⟨"HardestVows", "soft", "(I)I"⟩ prog_1_method_30_code 2 (some .int)) from rfl))
theorem hv_code_30 : Jvm.Cond.code (hv_y 30) (hv_cc 30) (hv_nL 30) (hv_rt 30) ∈ lw_tbl := hv_sub5 (List.mem_of_getElem? (i := 81) (show tables_1_5[81]? = some (.code ⟨"HardestVows", "kept", "(II)J"⟩ prog_1_method_31_code 3 (some .long)) from rfl))
theorem hv_code_31 : Jvm.Cond.code (hv_y 31) (hv_cc 31) (hv_nL 31) (hv_rt 31) ∈ lw_tbl := hv_sub5 (List.mem_of_getElem? (i := 97) (show tables_1_5[97]? = some (.code ⟨"HardestVows", "seen", "(II)I"⟩ prog_1_method_32_code 3 (some .int)) from rfl))
theorem hv_code_32 : Jvm.Cond.code (hv_y 32) (hv_cc 32) (hv_nL 32) (hv_rt 32) ∈ lw_tbl := hv_sub5 (List.mem_of_getElem? (i := 105) (show tables_1_5[105]? = some (.code ⟨"HardestVows", "forget", "()I"⟩ prog_1_method_33_code 2 (some .int)) from rfl))
theorem hv_code_33 : Jvm.Cond.code (hv_y 33) (hv_cc 33) (hv_nL 33) (hv_rt 33) ∈ lw_tbl := hv_sub5 (List.mem_of_getElem? (i := 109) (show tables_1_5[109]? = some (.code ⟨"HardestVows", "who", "()I"⟩ prog_1_method_34_code 1 (some .int)) from rfl))
theorem hv_code_34 : Jvm.Cond.code (hv_y 34) (hv_cc 34) (hv_nL 34) (hv_rt 34) ∈ lw_tbl := hv_sub5 (List.mem_of_getElem? (i := 122) (show tables_1_5[122]? = some (.code ⟨"HardestVows", "look", "(I)I"⟩ prog_1_method_35_code 2 (some .int)) from rfl))
theorem hv_code_35 : Jvm.Cond.code (hv_y 35) (hv_cc 35) (hv_nL 35) (hv_rt 35) ∈ lw_tbl := hv_sub5 (List.mem_of_getElem? (i := 136) (show tables_1_5[136]? = some (.code ⟨"HardestVows", "compare", "(I)I"⟩ prog_1_method_36_code 2 (some .int)) from rfl))
theorem hv_code_36 : Jvm.Cond.code (hv_y 36) (hv_cc 36) (hv_nL 36) (hv_rt 36) ∈ lw_tbl := hv_sub5 (List.mem_of_getElem? (i := 140) (show tables_1_5[140]? = some (.code ⟨"HardestVows", "years", "(II)I"⟩ prog_1_method_37_code 3 (some .int)) from rfl))
theorem hv_code_37 : Jvm.Cond.code (hv_y 37) (hv_cc 37) (hv_nL 37) (hv_rt 37) ∈ lw_tbl := hv_sub5 (List.mem_of_getElem? (i := 156) (show tables_1_5[156]? = some (.code ⟨"HardestVows", "drawn", "(II)I"⟩ prog_1_method_38_code 4 (some .int)) from rfl))
theorem hv_code_38 : Jvm.Cond.code (hv_y 38) (hv_cc 38) (hv_nL 38) (hv_rt 38) ∈ lw_tbl := hv_sub5 (List.mem_of_getElem? (i := 160) (show tables_1_5[160]? = some (.code ⟨"HardestVows", "image", "(I)I"⟩ prog_1_method_39_code 3 (some .int)) from rfl))
theorem hv_code_39 : Jvm.Cond.code (hv_y 39) (hv_cc 39) (hv_nL 39) (hv_rt 39) ∈ lw_tbl := hv_sub5 (List.mem_of_getElem? (i := 170) (show tables_1_5[170]? = some (.code ⟨"HardestVows", "back", "(I)I"⟩ prog_1_method_40_code 3 (some .int)) from rfl))
theorem hv_code_40 : Jvm.Cond.code (hv_y 40) (hv_cc 40) (hv_nL 40) (hv_rt 40) ∈ lw_tbl := hv_sub5 (List.mem_of_getElem? (i := 174) (show tables_1_5[174]? = some (.code ⟨"HardestVows", "count", "(I)I"⟩ prog_1_method_41_code 2 (some .int)) from rfl))
theorem hv_code_41 : Jvm.Cond.code (hv_y 41) (hv_cc 41) (hv_nL 41) (hv_rt 41) ∈ lw_tbl := hv_sub5 (List.mem_of_getElem? (i := 181) (show tables_1_5[181]? = some (.code ⟨"HardestVows", "status", "()I"⟩ prog_1_method_42_code 1 (some .int)) from rfl))
theorem hv_code_42 : Jvm.Cond.code (hv_y 42) (hv_cc 42) (hv_nL 42) (hv_rt 42) ∈ lw_tbl := hv_sub2 (List.mem_of_getElem? (i := 156) (show tables_1_2[156]? = some (.code ⟨"HardestVows", "rulesNow", "()LHardestVows$Rules;"⟩ prog_1_method_43_code 1 (some (.object "HardestVows$Rules"))) from rfl))
theorem hv_code_43 : Jvm.Cond.code (hv_y 43) (hv_cc 43) (hv_nL 43) (hv_rt 43) ∈ lw_tbl := hv_sub2 (List.mem_of_getElem? (i := 133) (show tables_1_2[133]? = some (.code ⟨"HardestVows", "accept", "(I)I"⟩ prog_1_method_44_code 2 (some .int)) from rfl))
theorem hv_code_44 : Jvm.Cond.code (hv_y 44) (hv_cc 44) (hv_nL 44) (hv_rt 44) ∈ lw_tbl := hv_sub4 (List.mem_of_getElem? (i := 118) (show tables_1_4[118]? = some (.code ⟨"HardestVows", "acceptDeed", "(I)I"⟩ prog_1_method_45_code 2 (some .int)) from rfl))
theorem hv_code_45 : Jvm.Cond.code (hv_y 45) (hv_cc 45) (hv_nL 45) (hv_rt 45) ∈ lw_tbl := hv_sub2 (List.mem_of_getElem? (i := 109) (show tables_1_2[109]? = some (.code ⟨"HardestVows", "refuse", "(I)I"⟩ prog_1_method_46_code 2 (some .int)) from rfl))
theorem hv_code_46 : Jvm.Cond.code (hv_y 46) (hv_cc 46) (hv_nL 46) (hv_rt 46) ∈ lw_tbl := hv_sub2 (List.mem_of_getElem? (i := 140) (show tables_1_2[140]? = some (.code ⟨"HardestVows", "isVow", "(I)Z"⟩ prog_1_method_47_code 1 (some .boolean)) from rfl))
theorem hv_code_47 : Jvm.Cond.code (hv_y 47) (hv_cc 47) (hv_nL 47) (hv_rt 47) ∈ lw_tbl := hv_sub2 (List.mem_of_getElem? (i := 105) (show tables_1_2[105]? = some (.code ⟨"HardestVows", "isHard", "(I)Z"⟩ prog_1_method_48_code 1 (some .boolean)) from rfl))
theorem hv_code_48 : Jvm.Cond.code (hv_y 48) (hv_cc 48) (hv_nL 48) (hv_rt 48) ∈ lw_tbl := hv_sub6 (List.mem_of_getElem? (i := 116) (show tables_1_6[116]? = some (.code ⟨"HardestVowsModel", "lies", "(III)Z"⟩ prog_13_method_1_code 3 (some .boolean)) from rfl))
theorem hv_code_49 : Jvm.Cond.code (hv_y 49) (hv_cc 49) (hv_nL 49) (hv_rt 49) ∈ lw_tbl := hv_sub7 (List.mem_of_getElem? (i := 213) (show tables_1_7[213]? = some (.code ⟨"HardestVowsModel", "lesser", "(II)I"⟩ prog_13_method_2_code 2 (some .int)) from rfl))
theorem hv_code_50 : Jvm.Cond.code (hv_y 50) (hv_cc 50) (hv_nL 50) (hv_rt 50) ∈ lw_tbl := hv_sub7 (List.mem_of_getElem? (i := 210) (show tables_1_7[210]? = some (.code ⟨"HardestVowsModel", "greater", "(II)I"⟩ prog_13_method_3_code 2 (some .int)) from rfl))
theorem hv_code_51 : Jvm.Cond.code (hv_y 51) (hv_cc 51) (hv_nL 51) (hv_rt 51) ∈ lw_tbl := hv_sub6 (List.mem_of_getElem? (i := 120) (show tables_1_6[120]? = some (.code ⟨"HardestVowsModel", "refuses", "(I)I"⟩ prog_13_method_4_code 2 (some .int)) from rfl))
theorem hv_code_52 : Jvm.Cond.code (hv_y 52) (hv_cc 52) (hv_nL 52) (hv_rt 52) ∈ lw_tbl := hv_sub6 (List.mem_of_getElem? (i := 124) (show tables_1_6[124]? = some (.code ⟨"HardestVowsModel", "good", "(I)I"⟩ prog_13_method_5_code 2 (some .int)) from rfl))
theorem hv_code_53 : Jvm.Cond.code (hv_y 53) (hv_cc 53) (hv_nL 53) (hv_rt 53) ∈ lw_tbl := hv_sub6 (List.mem_of_getElem? (i := 132) (show tables_1_6[132]? = some (.code ⟨"HardestVowsModel", "settled", "(I)I"⟩ prog_13_method_6_code 2 (some .int)) from rfl))
theorem hv_code_54 : Jvm.Cond.code (hv_y 54) (hv_cc 54) (hv_nL 54) (hv_rt 54) ∈ lw_tbl := hv_sub7 (List.mem_of_getElem? (i := 232) (show tables_1_7[232]? = some (.code ⟨"HardestVowsModel", "isIn", "(II)Z"⟩ prog_13_method_7_code 2 (some .boolean)) from rfl))
theorem hv_code_55 : Jvm.Cond.code (hv_y 55) (hv_cc 55) (hv_nL 55) (hv_rt 55) ∈ lw_tbl := hv_sub5 (List.mem_of_getElem? (i := 186) (show tables_1_5[186]? = some (.code ⟨"HardestVowsModel", "<init>", "()V"⟩ prog_13_method_8_code 2 none) from rfl))
theorem hv_code_56 : Jvm.Cond.code (hv_y 56) (hv_cc 56) (hv_nL 56) (hv_rt 56) ∈ lw_tbl := hv_sub8 (List.mem_of_getElem? (i := 12) (show tables_1_8[12]? = some (.code ⟨"HardestVowsModel", "laysAside", "(I)V"⟩ prog_13_method_9_code 3 none) from rfl))
theorem hv_code_57 : Jvm.Cond.code (hv_y 57) (hv_cc 57) (hv_nL 57) (hv_rt 57) ∈ lw_tbl := hv_sub8 (List.mem_of_getElem? (i := 24) (show tables_1_8[24]? = some (.code ⟨"HardestVowsModel", "takesBack", "(I)V"⟩ prog_13_method_10_code 3 none) from rfl))
theorem hv_code_58 : Jvm.Cond.code (hv_y 58) (hv_cc 58) (hv_nL 58) (hv_rt 58) ∈ lw_tbl := hv_sub6 (List.mem_of_getElem? (i := 113) (show tables_1_6[113]? = some (.code ⟨"HardestVowsModel", "image", "(I)I"⟩ prog_13_method_11_code 3 (some .int)) from rfl))
theorem hv_code_59 : Jvm.Cond.code (hv_y 59) (hv_cc 59) (hv_nL 59) (hv_rt 59) ∈ lw_tbl := hv_sub6 (List.mem_of_getElem? (i := 128) (show tables_1_6[128]? = some (.code ⟨"HardestVowsModel", "back", "(I)I"⟩ prog_13_method_12_code 3 (some .int)) from rfl))
theorem hv_code_60 : Jvm.Cond.code (hv_y 60) (hv_cc 60) (hv_nL 60) (hv_rt 60) ∈ lw_tbl := hv_sub6 (List.mem_of_getElem? (i := 154) (show tables_1_6[154]? = some (.code ⟨"HardestVowsModel", "isMonk", "(I)Z"⟩ prog_13_method_13_code 2 (some .boolean)) from rfl))
theorem hv_code_61 : Jvm.Cond.code (hv_y 61) (hv_cc 61) (hv_nL 61) (hv_rt 61) ∈ lw_tbl := hv_sub6 (List.mem_of_getElem? (i := 150) (show tables_1_6[150]? = some (.code ⟨"HardestVowsModel", "isVow", "(I)Z"⟩ prog_13_method_14_code 1 (some .boolean)) from rfl))
theorem hv_code_62 : Jvm.Cond.code (hv_y 62) (hv_cc 62) (hv_nL 62) (hv_rt 62) ∈ lw_tbl := hv_sub6 (List.mem_of_getElem? (i := 139) (show tables_1_6[139]? = some (.code ⟨"HardestVowsModel", "isHard", "(I)Z"⟩ prog_13_method_15_code 1 (some .boolean)) from rfl))
theorem hv_code_63 : Jvm.Cond.code (hv_y 63) (hv_cc 63) (hv_nL 63) (hv_rt 63) ∈ lw_tbl := hv_sub6 (List.mem_of_getElem? (i := 158) (show tables_1_6[158]? = some (.code ⟨"HardestVowsModel", "hardOf", "(II)I"⟩ prog_13_method_16_code 3 (some .int)) from rfl))
theorem hv_code_64 : Jvm.Cond.code (hv_y 64) (hv_cc 64) (hv_nL 64) (hv_rt 64) ∈ lw_tbl := hv_sub6 (List.mem_of_getElem? (i := 205) (show tables_1_6[205]? = some (.code ⟨"HardestVowsModel", "hasOne", "(I)Z"⟩ prog_13_method_17_code 2 (some .boolean)) from rfl))
theorem hv_code_65 : Jvm.Cond.code (hv_y 65) (hv_cc 65) (hv_nL 65) (hv_rt 65) ∈ lw_tbl := hv_sub6 (List.mem_of_getElem? (i := 166) (show tables_1_6[166]? = some (.code ⟨"HardestVowsModel", "heldOf", "(II)I"⟩ prog_13_method_18_code 3 (some .int)) from rfl))
theorem hv_code_66 : Jvm.Cond.code (hv_y 66) (hv_cc 66) (hv_nL 66) (hv_rt 66) ∈ lw_tbl := hv_sub7 (List.mem_of_getElem? (i := 163) (show tables_1_7[163]? = some (.code ⟨"HardestVowsModel", "holderOf", "(I)I"⟩ prog_13_method_19_code 4 (some .int)) from rfl))
theorem hv_code_67 : Jvm.Cond.code (hv_y 67) (hv_cc 67) (hv_nL 67) (hv_rt 67) ∈ lw_tbl := hv_sub6 (List.mem_of_getElem? (i := 143) (show tables_1_6[143]? = some (.code ⟨"HardestVowsModel", "adds", "()I"⟩ prog_13_method_20_code 2 (some .int)) from rfl))
theorem hv_code_68 : Jvm.Cond.code (hv_y 68) (hv_cc 68) (hv_nL 68) (hv_rt 68) ∈ lw_tbl := hv_sub6 (List.mem_of_getElem? (i := 136) (show tables_1_6[136]? = some (.code ⟨"HardestVowsModel", "monk", "(I)I"⟩ prog_13_method_21_code 4 (some .int)) from rfl))
theorem hv_code_69 : Jvm.Cond.code (hv_y 69) (hv_cc 69) (hv_nL 69) (hv_rt 69) ∈ lw_tbl := hv_sub6 (List.mem_of_getElem? (i := 147) (show tables_1_6[147]? = some (.code ⟨"HardestVowsModel", "put", "(III)I"⟩ prog_13_method_22_code 5 (some .int)) from rfl))
theorem hv_code_70 : Jvm.Cond.code (hv_y 70) (hv_cc 70) (hv_nL 70) (hv_rt 70) ∈ lw_tbl := hv_sub6 (List.mem_of_getElem? (i := 162) (show tables_1_6[162]? = some (.code ⟨"HardestVowsModel", "of", "(III)I"⟩ prog_13_method_23_code 4 (some .int)) from rfl))
theorem hv_code_71 : Jvm.Cond.code (hv_y 71) (hv_cc 71) (hv_nL 71) (hv_rt 71) ∈ lw_tbl := hv_sub6 (List.mem_of_getElem? (i := 209) (show tables_1_6[209]? = some (.code ⟨"HardestVowsModel", "has", "(I)I"⟩ prog_13_method_24_code 2 (some .int)) from rfl))
theorem hv_code_72 : Jvm.Cond.code (hv_y 72) (hv_cc 72) (hv_nL 72) (hv_rt 72) ∈ lw_tbl := hv_sub7 (List.mem_of_getElem? (i := 20) (show tables_1_7[20]? = some (.code ⟨"HardestVowsModel", "terms", "(II)I"⟩ prog_13_method_25_code 5 (some .int)) from rfl))
theorem hv_code_73 : Jvm.Cond.code (hv_y 73) (hv_cc 73) (hv_nL 73) (hv_rt 73) ∈ lw_tbl := hv_sub7 (List.mem_of_getElem? (i := 28) (show tables_1_7[28]? = some (.code ⟨"HardestVowsModel", "areHard", "(I)Z"⟩ prog_13_method_26_code 4 (some .boolean)) from rfl))
theorem hv_code_74 : Jvm.Cond.code (hv_y 74) (hv_cc 74) (hv_nL 74) (hv_rt 74) ∈ lw_tbl := hv_sub7 (List.mem_of_getElem? (i := 24) (show tables_1_7[24]? = some (.code ⟨"HardestVowsModel", "row", "()I"⟩ prog_13_method_27_code 6 (some .int)) from rfl))
theorem hv_code_75 : Jvm.Cond.code (hv_y 75) (hv_cc 75) (hv_nL 75) (hv_rt 75) ∈ lw_tbl := hv_sub7 (List.mem_of_getElem? (i := 32) (show tables_1_7[32]? = some (.code ⟨"HardestVowsModel", "crumbs", "()I"⟩ prog_13_method_28_code 1 (some .int)) from rfl))
theorem hv_code_76 : Jvm.Cond.code (hv_y 76) (hv_cc 76) (hv_nL 76) (hv_rt 76) ∈ lw_tbl := hv_sub7 (List.mem_of_getElem? (i := 36) (show tables_1_7[36]? = some (.code ⟨"HardestVowsModel", "feed", "(IIIII)I"⟩ prog_13_method_29_code 7 (some .int)) from rfl))
theorem hv_code_77 : Jvm.Cond.code (hv_y 77) (hv_cc 77) (hv_nL 77) (hv_rt 77) ∈ lw_tbl := hv_sub7 (List.mem_of_getElem? (i := 40) (show tables_1_7[40]? = some (.code ⟨"HardestVowsModel", "end", "(I)I"⟩ prog_13_method_30_code 2 (some .int)) from rfl))
theorem hv_code_78 : Jvm.Cond.code (hv_y 78) (hv_cc 78) (hv_nL 78) (hv_rt 78) ∈ lw_tbl := hv_sub7 (List.mem_of_getElem? (i := 59) (show tables_1_7[59]? = some (.code ⟨"HardestVowsModel", "isSmall", "(I)Z"⟩ prog_13_method_31_code 1 (some .boolean)) from rfl))
theorem hv_code_79 : Jvm.Cond.code (hv_y 79) (hv_cc 79) (hv_nL 79) (hv_rt 79) ∈ lw_tbl := hv_sub7 (List.mem_of_getElem? (i := 62) (show tables_1_7[62]? = some (.code ⟨"HardestVowsModel", "isDigit", "(I)Z"⟩ prog_13_method_32_code 1 (some .boolean)) from rfl))
theorem hv_code_80 : Jvm.Cond.code (hv_y 80) (hv_cc 80) (hv_nL 80) (hv_rt 80) ∈ lw_tbl := hv_sub7 (List.mem_of_getElem? (i := 66) (show tables_1_7[66]? = some (.code ⟨"HardestVowsModel", "wordOf", "(II)I"⟩ prog_13_method_33_code 8 (some .int)) from rfl))
theorem hv_code_81 : Jvm.Cond.code (hv_y 81) (hv_cc 81) (hv_nL 81) (hv_rt 81) ∈ lw_tbl := hv_sub7 (List.mem_of_getElem? (i := 56) (show tables_1_7[56]? = some (.code ⟨"HardestVowsModel", "splits", "(I)V"⟩ prog_13_method_34_code 6 none) from rfl))
theorem hv_code_82 : Jvm.Cond.code (hv_y 82) (hv_cc 82) (hv_nL 82) (hv_rt 82) ∈ lw_tbl := hv_sub7 (List.mem_of_getElem? (i := 83) (show tables_1_7[83]? = some (.code ⟨"HardestVowsModel", "fine", "()Z"⟩ prog_13_method_35_code 1 (some .boolean)) from rfl))
theorem hv_code_83 : Jvm.Cond.code (hv_y 83) (hv_cc 83) (hv_nL 83) (hv_rt 83) ∈ lw_tbl := hv_sub7 (List.mem_of_getElem? (i := 99) (show tables_1_7[99]? = some (.code ⟨"HardestVowsModel", "faults", "()V"⟩ prog_13_method_36_code 1 none) from rfl))
theorem hv_code_84 : Jvm.Cond.code (hv_y 84) (hv_cc 84) (hv_nL 84) (hv_rt 84) ∈ lw_tbl := hv_sub7 (List.mem_of_getElem? (i := 79) (show tables_1_7[79]? = some (.code ⟨"HardestVowsModel", "takes0", "(I)Z"⟩ prog_13_method_37_code 3 (some .boolean)) from rfl))
theorem hv_code_85 : Jvm.Cond.code (hv_y 85) (hv_cc 85) (hv_nL 85) (hv_rt 85) ∈ lw_tbl := hv_sub7 (List.mem_of_getElem? (i := 103) (show tables_1_7[103]? = some (.code ⟨"HardestVowsModel", "must", "(I)V"⟩ prog_13_method_38_code 2 none) from rfl))
theorem hv_code_86 : Jvm.Cond.code (hv_y 86) (hv_cc 86) (hv_nL 86) (hv_rt 86) ∈ lw_tbl := hv_sub7 (List.mem_of_getElem? (i := 107) (show tables_1_7[107]? = some (.code ⟨"HardestVowsModel", "leaf", "()V"⟩ prog_13_method_39_code 1 none) from rfl))
theorem hv_code_87 : Jvm.Cond.code (hv_y 87) (hv_cc 87) (hv_nL 87) (hv_rt 87) ∈ lw_tbl := hv_sub6 (List.mem_of_getElem? (i := 193) (show tables_1_6[193]? = some (.code ⟨"HardestVowsModel", "sign", "(C)I"⟩ prog_13_method_40_code 1 (some .int)) from rfl))
theorem hv_code_88 : Jvm.Cond.code (hv_y 88) (hv_cc 88) (hv_nL 88) (hv_rt 88) ∈ lw_tbl := hv_sub7 (List.mem_of_getElem? (i := 111) (show tables_1_7[111]? = some (.code ⟨"HardestVowsModel", "mustNumber", "(II)V"⟩ prog_13_method_41_code 3 none) from rfl))
theorem hv_code_89 : Jvm.Cond.code (hv_y 89) (hv_cc 89) (hv_nL 89) (hv_rt 89) ∈ lw_tbl := hv_sub7 (List.mem_of_getElem? (i := 127) (show tables_1_7[127]? = some (.code ⟨"HardestVowsModel", "readClause", "()V"⟩ prog_13_method_42_code 1 none) from rfl))
theorem hv_code_90 : Jvm.Cond.code (hv_y 90) (hv_cc 90) (hv_nL 90) (hv_rt 90) ∈ lw_tbl := hv_sub7 (List.mem_of_getElem? (i := 75) (show tables_1_7[75]? = some (.code ⟨"HardestVowsModel", "readOrder", "()V"⟩ prog_13_method_43_code 1 none) from rfl))
theorem hv_code_91 : Jvm.Cond.code (hv_y 91) (hv_cc 91) (hv_nL 91) (hv_rt 91) ∈ lw_tbl := hv_sub7 (List.mem_of_getElem? (i := 71) (show tables_1_7[71]? = some (.code ⟨"HardestVowsModel", "readOne", "()V"⟩ prog_13_method_44_code 1 none) from rfl))
theorem hv_code_92 : Jvm.Cond.code (hv_y 92) (hv_cc 92) (hv_nL 92) (hv_rt 92) ∈ lw_tbl := hv_sub7 (List.mem_of_getElem? (i := 115) (show tables_1_7[115]? = some (.code ⟨"HardestVowsModel", "readTest", "(I)V"⟩ prog_13_method_45_code 2 none) from rfl))
theorem hv_code_93 : Jvm.Cond.code (hv_y 93) (hv_cc 93) (hv_nL 93) (hv_rt 93) ∈ lw_tbl := hv_sub7 (List.mem_of_getElem? (i := 119) (show tables_1_7[119]? = some (.code ⟨"HardestVowsModel", "readBoth", "(I)V"⟩ prog_13_method_46_code 2 none) from rfl))
theorem hv_code_94 : Jvm.Cond.code (hv_y 94) (hv_cc 94) (hv_nL 94) (hv_rt 94) ∈ lw_tbl := hv_sub7 (List.mem_of_getElem? (i := 123) (show tables_1_7[123]? = some (.code ⟨"HardestVowsModel", "readPlain", "(I)V"⟩ prog_13_method_47_code 4 none) from rfl))
theorem hv_code_95 : Jvm.Cond.code (hv_y 95) (hv_cc 95) (hv_nL 95) (hv_rt 95) ∈ lw_tbl := hv_sub7 (List.mem_of_getElem? (i := 87) (show tables_1_7[87]? = some (.code ⟨"HardestVowsModel", "readSum", "(I)V"⟩ prog_13_method_48_code 2 none) from rfl))
theorem hv_code_96 : Jvm.Cond.code (hv_y 96) (hv_cc 96) (hv_nL 96) (hv_rt 96) ∈ lw_tbl := hv_sub7 (List.mem_of_getElem? (i := 91) (show tables_1_7[91]? = some (.code ⟨"HardestVowsModel", "readTerm", "(I)V"⟩ prog_13_method_49_code 2 none) from rfl))
theorem hv_code_97 : Jvm.Cond.code (hv_y 97) (hv_cc 97) (hv_nL 97) (hv_rt 97) ∈ lw_tbl := hv_sub7 (List.mem_of_getElem? (i := 95) (show tables_1_7[95]? = some (.code ⟨"HardestVowsModel", "readPart", "(I)V"⟩ prog_13_method_50_code 3 none) from rfl))
theorem hv_code_98 : Jvm.Cond.code (hv_y 98) (hv_cc 98) (hv_nL 98) (hv_rt 98) ∈ lw_tbl := hv_sub7 (List.mem_of_getElem? (i := 52) (show tables_1_7[52]? = some (.code ⟨"HardestVowsModel", "reads", "()Z"⟩ prog_13_method_51_code 2 (some .boolean)) from rfl))
theorem hv_code_99 : Jvm.Cond.code (hv_y 99) (hv_cc 99) (hv_nL 99) (hv_rt 99) ∈ lw_tbl := hv_sub7 (List.mem_of_getElem? (i := 48) (show tables_1_7[48]? = some (.code ⟨"HardestVowsModel", "readsAs", "(Z)Z"⟩ prog_13_method_52_code 2 (some .boolean)) from rfl))
theorem hv_code_100 : Jvm.Cond.code (hv_y 100) (hv_cc 100) (hv_nL 100) (hv_rt 100) ∈ lw_tbl := hv_sub7 (List.mem_of_getElem? (i := 131) (show tables_1_7[131]? = some (.code ⟨"HardestVowsModel", "lays", "(I)V"⟩ prog_13_method_53_code 3 none) from rfl))
theorem hv_code_101 : Jvm.Cond.code (hv_y 101) (hv_cc 101) (hv_nL 101) (hv_rt 101) ∈ lw_tbl := hv_sub7 (List.mem_of_getElem? (i := 44) (show tables_1_7[44]? = some (.code ⟨"HardestVowsModel", "law", "()I"⟩ prog_13_method_54_code 1 (some .int)) from rfl))
theorem hv_code_102 : Jvm.Cond.code (hv_y 102) (hv_cc 102) (hv_nL 102) (hv_rt 102) ∈ lw_tbl := hv_sub7 (List.mem_of_getElem? (i := 135) (show tables_1_7[135]? = some (.code ⟨"HardestVowsModel", "fault", "()I"⟩ prog_13_method_55_code 1 (some .int)) from rfl))
theorem hv_code_103 : Jvm.Cond.code (hv_y 103) (hv_cc 103) (hv_nL 103) (hv_rt 103) ∈ lw_tbl := hv_sub7 (List.mem_of_getElem? (i := 143) (show tables_1_7[143]? = some (.code ⟨"HardestVowsModel", "isLaw", "(I)Z"⟩ prog_13_method_56_code 2 (some .boolean)) from rfl))
theorem hv_code_104 : Jvm.Cond.code (hv_y 104) (hv_cc 104) (hv_nL 104) (hv_rt 104) ∈ lw_tbl := hv_sub7 (List.mem_of_getElem? (i := 139) (show tables_1_7[139]? = some (.code ⟨"HardestVowsModel", "force", "(I)I"⟩ prog_13_method_57_code 3 (some .int)) from rfl))
theorem hv_code_105 : Jvm.Cond.code (hv_y 105) (hv_cc 105) (hv_nL 105) (hv_rt 105) ∈ lw_tbl := hv_sub6 (List.mem_of_getElem? (i := 178) (show tables_1_6[178]? = some (.code ⟨"HardestVowsModel", "codeAt", "(I)I"⟩ prog_13_method_58_code 2 (some .int)) from rfl))
theorem hv_code_106 : Jvm.Cond.code (hv_y 106) (hv_cc 106) (hv_nL 106) (hv_rt 106) ∈ lw_tbl := hv_sub6 (List.mem_of_getElem? (i := 197) (show tables_1_6[197]? = some (.code ⟨"HardestVowsModel", "passes0", "(I)Z"⟩ prog_13_method_59_code 3 (some .boolean)) from rfl))
theorem hv_code_107 : Jvm.Cond.code (hv_y 107) (hv_cc 107) (hv_nL 107) (hv_rt 107) ∈ lw_tbl := hv_sub6 (List.mem_of_getElem? (i := 221) (show tables_1_6[221]? = some (.code ⟨"HardestVowsModel", "bounded", "(JZ)J"⟩ prog_13_method_60_code 4 (some .long)) from rfl))
theorem hv_code_108 : Jvm.Cond.code (hv_y 108) (hv_cc 108) (hv_nL 108) (hv_rt 108) ∈ lw_tbl := hv_sub6 (List.mem_of_getElem? (i := 182) (show tables_1_6[182]? = some (.code ⟨"HardestVowsModel", "sumOf", "(Z)J"⟩ prog_13_method_61_code 7 (some .long)) from rfl))
theorem hv_code_109 : Jvm.Cond.code (hv_y 109) (hv_cc 109) (hv_nL 109) (hv_rt 109) ∈ lw_tbl := hv_sub6 (List.mem_of_getElem? (i := 186) (show tables_1_6[186]? = some (.code ⟨"HardestVowsModel", "termOf", "(Z)J"⟩ prog_13_method_62_code 7 (some .long)) from rfl))
theorem hv_code_110 : Jvm.Cond.code (hv_y 110) (hv_cc 110) (hv_nL 110) (hv_rt 110) ∈ lw_tbl := hv_sub6 (List.mem_of_getElem? (i := 190) (show tables_1_6[190]? = some (.code ⟨"HardestVowsModel", "partOf", "(Z)J"⟩ prog_13_method_63_code 4 (some .long)) from rfl))
theorem hv_code_111 : Jvm.Cond.code (hv_y 111) (hv_cc 111) (hv_nL 111) (hv_rt 111) ∈ lw_tbl := hv_sub6 (List.mem_of_getElem? (i := 201) (show tables_1_6[201]? = some (.code ⟨"HardestVowsModel", "orderValue", "(II)I"⟩ prog_13_method_64_code 3 (some .int)) from rfl))
theorem hv_code_112 : Jvm.Cond.code (hv_y 112) (hv_cc 112) (hv_nL 112) (hv_rt 112) ∈ lw_tbl := hv_sub6 (List.mem_of_getElem? (i := 227) (show tables_1_6[227]? = some (.code ⟨"HardestVowsModel", "testOf", "(Z)Z"⟩ prog_13_method_65_code 4 (some .boolean)) from rfl))
theorem hv_code_113 : Jvm.Cond.code (hv_y 113) (hv_cc 113) (hv_nL 113) (hv_rt 113) ∈ lw_tbl := hv_sub6 (List.mem_of_getElem? (i := 231) (show tables_1_6[231]? = some (.code ⟨"HardestVowsModel", "bothOf", "(Z)Z"⟩ prog_13_method_66_code 4 (some .boolean)) from rfl))
theorem hv_code_114 : Jvm.Cond.code (hv_y 114) (hv_cc 114) (hv_nL 114) (hv_rt 114) ∈ lw_tbl := hv_sub6 (List.mem_of_getElem? (i := 235) (show tables_1_6[235]? = some (.code ⟨"HardestVowsModel", "plainOf", "(Z)Z"⟩ prog_13_method_67_code 3 (some .boolean)) from rfl))
theorem hv_code_115 : Jvm.Cond.code (hv_y 115) (hv_cc 115) (hv_nL 115) (hv_rt 115) ∈ lw_tbl := hv_sub6 (List.mem_of_getElem? (i := 239) (show tables_1_6[239]? = some (.code ⟨"HardestVowsModel", "positiveOf", "(Z)Z"⟩ prog_13_method_68_code 7 (some .boolean)) from rfl))
theorem hv_code_116 : Jvm.Cond.code (hv_y 116) (hv_cc 116) (hv_nL 116) (hv_rt 116) ∈ lw_tbl := hv_sub6 (List.mem_of_getElem? (i := 174) (show tables_1_6[174]? = some (.code ⟨"HardestVowsModel", "tells", "(IIIII)I"⟩ prog_13_method_69_code 13 (some .int)) from rfl))
theorem hv_code_117 : Jvm.Cond.code (hv_y 117) (hv_cc 117) (hv_nL 117) (hv_rt 117) ∈ lw_tbl := hv_sub7 (List.mem_of_getElem? (i := 11) (show tables_1_7[11]? = some (.code ⟨"HardestVowsModel", "fallsBy", "(II)I"⟩ prog_13_method_70_code 3 (some .int)) from rfl))
theorem hv_code_118 : Jvm.Cond.code (hv_y 118) (hv_cc 118) (hv_nL 118) (hv_rt 118) ∈ lw_tbl := hv_sub7 (List.mem_of_getElem? (i := 15) (show tables_1_7[15]? = some (.code ⟨"HardestVowsModel", "risesBy", "(II)I"⟩ prog_13_method_71_code 3 (some .int)) from rfl))
theorem hv_code_119 : Jvm.Cond.code (hv_y 119) (hv_cc 119) (hv_nL 119) (hv_rt 119) ∈ lw_tbl := hv_sub6 (List.mem_of_getElem? (i := 170) (show tables_1_6[170]? = some (.code ⟨"HardestVowsModel", "showsOf", "(II)I"⟩ prog_13_method_72_code 3 (some .int)) from rfl))
theorem hv_code_120 : Jvm.Cond.code (hv_y 120) (hv_cc 120) (hv_nL 120) (hv_rt 120) ∈ lw_tbl := hv_sub7 (List.mem_of_getElem? (i := 3) (show tables_1_7[3]? = some (.code ⟨"HardestVowsModel", "breaksIn", "(II)I"⟩ prog_13_method_73_code 3 (some .int)) from rfl))
theorem hv_code_121 : Jvm.Cond.code (hv_y 121) (hv_cc 121) (hv_nL 121) (hv_rt 121) ∈ lw_tbl := hv_sub7 (List.mem_of_getElem? (i := 7) (show tables_1_7[7]? = some (.code ⟨"HardestVowsModel", "isBarred", "(II)Z"⟩ prog_13_method_74_code 3 (some .boolean)) from rfl))
theorem hv_code_122 : Jvm.Cond.code (hv_y 122) (hv_cc 122) (hv_nL 122) (hv_rt 122) ∈ lw_tbl := hv_sub6 (List.mem_of_getElem? (i := 213) (show tables_1_6[213]? = some (.code ⟨"HardestVowsModel", "givenNow", "()I"⟩ prog_13_method_75_code 3 (some .int)) from rfl))
theorem hv_code_123 : Jvm.Cond.code (hv_y 123) (hv_cc 123) (hv_nL 123) (hv_rt 123) ∈ lw_tbl := hv_sub6 (List.mem_of_getElem? (i := 217) (show tables_1_6[217]? = some (.code ⟨"HardestVowsModel", "hardNow", "()I"⟩ prog_13_method_76_code 3 (some .int)) from rfl))
theorem hv_code_124 : Jvm.Cond.code (hv_y 124) (hv_cc 124) (hv_nL 124) (hv_rt 124) ∈ lw_tbl := hv_sub7 (List.mem_of_getElem? (i := 159) (show tables_1_7[159]? = some (.code ⟨"HardestVowsModel", "canGive", "(II)Z"⟩ prog_13_method_77_code 3 (some .boolean)) from rfl))
theorem hv_code_125 : Jvm.Cond.code (hv_y 125) (hv_cc 125) (hv_nL 125) (hv_rt 125) ∈ lw_tbl := hv_sub7 (List.mem_of_getElem? (i := 171) (show tables_1_7[171]? = some (.code ⟨"HardestVowsModel", "gives", "(II)V"⟩ prog_13_method_78_code 3 none) from rfl))
theorem hv_code_126 : Jvm.Cond.code (hv_y 126) (hv_cc 126) (hv_nL 126) (hv_rt 126) ∈ lw_tbl := hv_sub7 (List.mem_of_getElem? (i := 207) (show tables_1_7[207]? = some (.code ⟨"HardestVowsModel", "yearPasses", "()V"⟩ prog_13_method_79_code 4 none) from rfl))
theorem hv_code_127 : Jvm.Cond.code (hv_y 127) (hv_cc 127) (hv_nL 127) (hv_rt 127) ∈ lw_tbl := hv_sub7 (List.mem_of_getElem? (i := 167) (show tables_1_7[167]? = some (.code ⟨"HardestVowsModel", "keeps", "(I)V"⟩ prog_13_method_80_code 4 none) from rfl))
theorem hv_code_128 : Jvm.Cond.code (hv_y 128) (hv_cc 128) (hv_nL 128) (hv_rt 128) ∈ lw_tbl := hv_sub7 (List.mem_of_getElem? (i := 147) (show tables_1_7[147]? = some (.code ⟨"HardestVowsModel", "undo", "()I"⟩ prog_13_method_81_code 3 (some .int)) from rfl))
theorem hv_code_129 : Jvm.Cond.code (hv_y 129) (hv_cc 129) (hv_nL 129) (hv_rt 129) ∈ lw_tbl := hv_sub7 (List.mem_of_getElem? (i := 175) (show tables_1_7[175]? = some (.code ⟨"HardestVowsModel", "goodOr", "(I)I"⟩ prog_13_method_82_code 2 (some .int)) from rfl))
theorem hv_code_130 : Jvm.Cond.code (hv_y 130) (hv_cc 130) (hv_nL 130) (hv_rt 130) ∈ lw_tbl := hv_sub7 (List.mem_of_getElem? (i := 155) (show tables_1_7[155]? = some (.code ⟨"HardestVowsModel", "givesKept", "(II)I"⟩ prog_13_method_83_code 3 (some .int)) from rfl))
theorem hv_code_131 : Jvm.Cond.code (hv_y 131) (hv_cc 131) (hv_nL 131) (hv_rt 131) ∈ lw_tbl := hv_sub7 (List.mem_of_getElem? (i := 183) (show tables_1_7[183]? = some (.code ⟨"HardestVowsModel", "laysKept", "(I)I"⟩ prog_13_method_84_code 3 (some .int)) from rfl))
theorem hv_code_132 : Jvm.Cond.code (hv_y 132) (hv_cc 132) (hv_nL 132) (hv_rt 132) ∈ lw_tbl := hv_sub7 (List.mem_of_getElem? (i := 195) (show tables_1_7[195]? = some (.code ⟨"HardestVowsModel", "canSwap", "(II)Z"⟩ prog_13_method_85_code 3 (some .boolean)) from rfl))
theorem hv_code_133 : Jvm.Cond.code (hv_y 133) (hv_cc 133) (hv_nL 133) (hv_rt 133) ∈ lw_tbl := hv_sub7 (List.mem_of_getElem? (i := 191) (show tables_1_7[191]? = some (.code ⟨"HardestVowsModel", "swapsKept", "(II)I"⟩ prog_13_method_86_code 4 (some .int)) from rfl))
theorem hv_code_134 : Jvm.Cond.code (hv_y 134) (hv_cc 134) (hv_nL 134) (hv_rt 134) ∈ lw_tbl := hv_sub7 (List.mem_of_getElem? (i := 203) (show tables_1_7[203]? = some (.code ⟨"HardestVowsModel", "passesKept", "()I"⟩ prog_13_method_87_code 1 (some .int)) from rfl))
theorem hv_code_135 : Jvm.Cond.code (hv_y 135) (hv_cc 135) (hv_nL 135) (hv_rt 135) ∈ lw_tbl := hv_sub7 (List.mem_of_getElem? (i := 151) (show tables_1_7[151]? = some (.code ⟨"HardestVowsModel", "give", "(II)I"⟩ prog_13_method_88_code 3 (some .int)) from rfl))
theorem hv_code_136 : Jvm.Cond.code (hv_y 136) (hv_cc 136) (hv_nL 136) (hv_rt 136) ∈ lw_tbl := hv_sub7 (List.mem_of_getElem? (i := 179) (show tables_1_7[179]? = some (.code ⟨"HardestVowsModel", "lay", "(I)I"⟩ prog_13_method_89_code 2 (some .int)) from rfl))
theorem hv_code_137 : Jvm.Cond.code (hv_y 137) (hv_cc 137) (hv_nL 137) (hv_rt 137) ∈ lw_tbl := hv_sub7 (List.mem_of_getElem? (i := 187) (show tables_1_7[187]? = some (.code ⟨"HardestVowsModel", "swap", "(II)I"⟩ prog_13_method_90_code 3 (some .int)) from rfl))
theorem hv_code_138 : Jvm.Cond.code (hv_y 138) (hv_cc 138) (hv_nL 138) (hv_rt 138) ∈ lw_tbl := hv_sub7 (List.mem_of_getElem? (i := 199) (show tables_1_7[199]? = some (.code ⟨"HardestVowsModel", "pass", "()I"⟩ prog_13_method_91_code 1 (some .int)) from rfl))
theorem hv_code_139 : Jvm.Cond.code (hv_y 139) (hv_cc 139) (hv_nL 139) (hv_rt 139) ∈ lw_tbl := hv_sub7 (List.mem_of_getElem? (i := 221) (show tables_1_7[221]? = some (.code ⟨"HardestVowsModel", "laysShown", "()V"⟩ prog_13_method_92_code 3 none) from rfl))
theorem hv_code_140 : Jvm.Cond.code (hv_y 140) (hv_cc 140) (hv_nL 140) (hv_rt 140) ∈ lw_tbl := hv_sub7 (List.mem_of_getElem? (i := 229) (show tables_1_7[229]? = some (.code ⟨"HardestVowsModel", "shownBy", "(III)I"⟩ prog_13_method_93_code 4 (some .int)) from rfl))
theorem hv_code_141 : Jvm.Cond.code (hv_y 141) (hv_cc 141) (hv_nL 141) (hv_rt 141) ∈ lw_tbl := hv_sub7 (List.mem_of_getElem? (i := 225) (show tables_1_7[225]? = some (.code ⟨"HardestVowsModel", "laysBest", "()I"⟩ prog_13_method_94_code 5 (some .int)) from rfl))
theorem hv_code_142 : Jvm.Cond.code (hv_y 142) (hv_cc 142) (hv_nL 142) (hv_rt 142) ∈ lw_tbl := hv_sub7 (List.mem_of_getElem? (i := 217) (show tables_1_7[217]? = some (.code ⟨"HardestVowsModel", "best", "(I)I"⟩ prog_13_method_95_code 3 (some .int)) from rfl))
theorem hv_code_143 : Jvm.Cond.code (hv_y 143) (hv_cc 143) (hv_nL 143) (hv_rt 143) ∈ lw_tbl := hv_sub7 (List.mem_of_getElem? (i := 236) (show tables_1_7[236]? = some (.code ⟨"HardestVowsModel", "compare", "(I)I"⟩ prog_13_method_96_code 3 (some .int)) from rfl))
theorem hv_code_144 : Jvm.Cond.code (hv_y 144) (hv_cc 144) (hv_nL 144) (hv_rt 144) ∈ lw_tbl := hv_sub8 (List.mem_of_getElem? (i := 4) (show tables_1_8[4]? = some (.code ⟨"HardestVowsModel", "hardByBest", "(I)I"⟩ prog_13_method_97_code 2 (some .int)) from rfl))
theorem hv_code_145 : Jvm.Cond.code (hv_y 145) (hv_cc 145) (hv_nL 145) (hv_rt 145) ∈ lw_tbl := hv_sub8 (List.mem_of_getElem? (i := 0) (show tables_1_8[0]? = some (.code ⟨"HardestVowsModel", "hide", "(II)I"⟩ prog_13_method_98_code 8 (some .int)) from rfl))
theorem hv_code_146 : Jvm.Cond.code (hv_y 146) (hv_cc 146) (hv_nL 146) (hv_rt 146) ∈ lw_tbl := hv_sub8 (List.mem_of_getElem? (i := 16) (show tables_1_8[16]? = some (.code ⟨"HardestVowsModel", "sumByBest", "()I"⟩ prog_13_method_99_code 3 (some .int)) from rfl))
theorem hv_code_147 : Jvm.Cond.code (hv_y 147) (hv_cc 147) (hv_nL 147) (hv_rt 147) ∈ lw_tbl := hv_sub8 (List.mem_of_getElem? (i := 20) (show tables_1_8[20]? = some (.code ⟨"HardestVowsModel", "obeysBest", "()V"⟩ prog_13_method_100_code 3 none) from rfl))
theorem hv_code_148 : Jvm.Cond.code (hv_y 148) (hv_cc 148) (hv_nL 148) (hv_rt 148) ∈ lw_tbl := hv_sub8 (List.mem_of_getElem? (i := 8) (show tables_1_8[8]? = some (.code ⟨"HardestVowsModel", "soft", "(I)I"⟩ prog_13_method_101_code 4 (some .int)) from rfl))
theorem hv_code_149 : Jvm.Cond.code (hv_y 149) (hv_cc 149) (hv_nL 149) (hv_rt 149) ∈ lw_tbl := hv_sub8 (List.mem_of_getElem? (i := 32) (show tables_1_8[32]? = some (.code ⟨"HardestVowsModel", "triesFair", "(IIII)V"⟩ prog_13_method_102_code 6 none) from rfl))
theorem hv_code_150 : Jvm.Cond.code (hv_y 150) (hv_cc 150) (hv_nL 150) (hv_rt 150) ∈ lw_tbl := hv_sub8 (List.mem_of_getElem? (i := 28) (show tables_1_8[28]? = some (.code ⟨"HardestVowsModel", "fair", "(I)I"⟩ prog_13_method_103_code 2 (some .int)) from rfl))
theorem hv_code_151 : Jvm.Cond.code (hv_y 151) (hv_cc 151) (hv_nL 151) (hv_rt 151) ∈ lw_tbl := hv_sub8 (List.mem_of_getElem? (i := 44) (show tables_1_8[44]? = some (.code ⟨"HardestVowsModel", "isKept", "(I)Z"⟩ prog_13_method_104_code 4 (some .boolean)) from rfl))
theorem hv_code_152 : Jvm.Cond.code (hv_y 152) (hv_cc 152) (hv_nL 152) (hv_rt 152) ∈ lw_tbl := hv_sub8 (List.mem_of_getElem? (i := 48) (show tables_1_8[48]? = some (.code ⟨"HardestVowsModel", "wishOf", "(I)I"⟩ prog_13_method_105_code 4 (some .int)) from rfl))
theorem hv_code_153 : Jvm.Cond.code (hv_y 153) (hv_cc 153) (hv_nL 153) (hv_rt 153) ∈ lw_tbl := hv_sub8 (List.mem_of_getElem? (i := 40) (show tables_1_8[40]? = some (.code ⟨"HardestVowsModel", "nextAsker", "()I"⟩ prog_13_method_106_code 2 (some .int)) from rfl))
theorem hv_code_154 : Jvm.Cond.code (hv_y 154) (hv_cc 154) (hv_nL 154) (hv_rt 154) ∈ lw_tbl := hv_sub8 (List.mem_of_getElem? (i := 36) (show tables_1_8[36]? = some (.code ⟨"HardestVowsModel", "wished", "(I)I"⟩ prog_13_method_107_code 6 (some .int)) from rfl))
theorem hv_code_155 : Jvm.Cond.code (hv_y 155) (hv_cc 155) (hv_nL 155) (hv_rt 155) ∈ lw_tbl := hv_sub8 (List.mem_of_getElem? (i := 56) (show tables_1_8[56]? = some (.code ⟨"HardestVowsModel", "isHarder", "(II)Z"⟩ prog_13_method_108_code 5 (some .boolean)) from rfl))
theorem hv_code_156 : Jvm.Cond.code (hv_y 156) (hv_cc 156) (hv_nL 156) (hv_rt 156) ∈ lw_tbl := hv_sub8 (List.mem_of_getElem? (i := 52) (show tables_1_8[52]? = some (.code ⟨"HardestVowsModel", "swaps", "(I)I"⟩ prog_13_method_109_code 5 (some .int)) from rfl))
theorem hv_code_157 : Jvm.Cond.code (hv_y 157) (hv_cc 157) (hv_nL 157) (hv_rt 157) ∈ lw_tbl := hv_sub8 (List.mem_of_getElem? (i := 60) (show tables_1_8[60]? = some (.code ⟨"HardestVowsModel", "kept", "(II)J"⟩ prog_13_method_110_code 7 (some .long)) from rfl))
theorem hv_code_158 : Jvm.Cond.code (hv_y 158) (hv_cc 158) (hv_nL 158) (hv_rt 158) ∈ lw_tbl := hv_sub8 (List.mem_of_getElem? (i := 67) (show tables_1_8[67]? = some (.code ⟨"HardestVowsModel", "seen", "(II)I"⟩ prog_13_method_111_code 4 (some .int)) from rfl))
theorem hv_code_159 : Jvm.Cond.code (hv_y 159) (hv_cc 159) (hv_nL 159) (hv_rt 159) ∈ lw_tbl := hv_sub8 (List.mem_of_getElem? (i := 71) (show tables_1_8[71]? = some (.code ⟨"HardestVowsModel", "forget", "()I"⟩ prog_13_method_112_code 2 (some .int)) from rfl))
theorem hv_code_160 : Jvm.Cond.code (hv_y 160) (hv_cc 160) (hv_nL 160) (hv_rt 160) ∈ lw_tbl := hv_sub8 (List.mem_of_getElem? (i := 79) (show tables_1_8[79]? = some (.code ⟨"HardestVowsModel", "canBe", "(I)Z"⟩ prog_13_method_113_code 4 (some .boolean)) from rfl))
theorem hv_code_161 : Jvm.Cond.code (hv_y 161) (hv_cc 161) (hv_nL 161) (hv_rt 161) ∈ lw_tbl := hv_sub8 (List.mem_of_getElem? (i := 75) (show tables_1_8[75]? = some (.code ⟨"HardestVowsModel", "who", "()I"⟩ prog_13_method_114_code 3 (some .int)) from rfl))
theorem hv_code_162 : Jvm.Cond.code (hv_y 162) (hv_cc 162) (hv_nL 162) (hv_rt 162) ∈ lw_tbl := hv_sub8 (List.mem_of_getElem? (i := 88) (show tables_1_8[88]? = some (.code ⟨"HardestVowsModel", "mostAlike", "(II)I"⟩ prog_13_method_115_code 7 (some .int)) from rfl))
theorem hv_code_163 : Jvm.Cond.code (hv_y 163) (hv_cc 163) (hv_nL 163) (hv_rt 163) ∈ lw_tbl := hv_sub8 (List.mem_of_getElem? (i := 83) (show tables_1_8[83]? = some (.code ⟨"HardestVowsModel", "look", "(I)I"⟩ prog_13_method_116_code 7 (some .int)) from rfl))
theorem hv_code_164 : Jvm.Cond.code (hv_y 164) (hv_cc 164) (hv_nL 164) (hv_rt 164) ∈ lw_tbl := hv_sub8 (List.mem_of_getElem? (i := 92) (show tables_1_8[92]? = some (.code ⟨"HardestVowsModel", "stopped", "()I"⟩ prog_13_method_117_code 1 (some .int)) from rfl))
theorem hv_code_165 : Jvm.Cond.code (hv_y 165) (hv_cc 165) (hv_nL 165) (hv_rt 165) ∈ lw_tbl := hv_sub8 (List.mem_of_getElem? (i := 96) (show tables_1_8[96]? = some (.code ⟨"HardestVowsModel", "orders", "()I"⟩ prog_13_method_118_code 5 (some .int)) from rfl))
theorem hv_code_166 : Jvm.Cond.code (hv_y 166) (hv_cc 166) (hv_nL 166) (hv_rt 166) ∈ lw_tbl := hv_sub8 (List.mem_of_getElem? (i := 104) (show tables_1_8[104]? = some (.code ⟨"HardestVowsModel", "goesAlong", "(IZ)V"⟩ prog_13_method_119_code 5 none) from rfl))
theorem hv_code_167 : Jvm.Cond.code (hv_y 167) (hv_cc 167) (hv_nL 167) (hv_rt 167) ∈ lw_tbl := hv_sub8 (List.mem_of_getElem? (i := 111) (show tables_1_8[111]? = some (.code ⟨"HardestVowsModel", "small", "(J)I"⟩ prog_13_method_120_code 2 (some .int)) from rfl))
theorem hv_code_168 : Jvm.Cond.code (hv_y 168) (hv_cc 168) (hv_nL 168) (hv_rt 168) ∈ lw_tbl := hv_sub8 (List.mem_of_getElem? (i := 108) (show tables_1_8[108]? = some (.code ⟨"HardestVowsModel", "obeys", "()I"⟩ prog_13_method_121_code 3 (some .int)) from rfl))
theorem hv_code_169 : Jvm.Cond.code (hv_y 169) (hv_cc 169) (hv_nL 169) (hv_rt 169) ∈ lw_tbl := hv_sub8 (List.mem_of_getElem? (i := 100) (show tables_1_8[100]? = some (.code ⟨"HardestVowsModel", "runs", "(I)Z"⟩ prog_13_method_122_code 5 (some .boolean)) from rfl))
theorem hv_code_170 : Jvm.Cond.code (hv_y 170) (hv_cc 170) (hv_nL 170) (hv_rt 170) ∈ lw_tbl := hv_sub8 (List.mem_of_getElem? (i := 124) (show tables_1_8[124]? = some (.code ⟨"HardestVowsModel", "draws", "(I)I"⟩ prog_13_method_123_code 2 (some .int)) from rfl))
theorem hv_code_171 : Jvm.Cond.code (hv_y 171) (hv_cc 171) (hv_nL 171) (hv_rt 171) ∈ lw_tbl := hv_sub8 (List.mem_of_getElem? (i := 120) (show tables_1_8[120]? = some (.code ⟨"HardestVowsModel", "yearIsDrawn", "()Z"⟩ prog_13_method_124_code 4 (some .boolean)) from rfl))
theorem hv_code_172 : Jvm.Cond.code (hv_y 172) (hv_cc 172) (hv_nL 172) (hv_rt 172) ∈ lw_tbl := hv_sub8 (List.mem_of_getElem? (i := 116) (show tables_1_8[116]? = some (.code ⟨"HardestVowsModel", "years", "(II)I"⟩ prog_13_method_125_code 5 (some .int)) from rfl))
theorem hv_code_173 : Jvm.Cond.code (hv_y 173) (hv_cc 173) (hv_nL 173) (hv_rt 173) ∈ lw_tbl := hv_sub8 (List.mem_of_getElem? (i := 131) (show tables_1_8[131]? = some (.code ⟨"HardestVowsModel", "drawn", "(II)I"⟩ prog_13_method_126_code 3 (some .int)) from rfl))
theorem hv_code_174 : Jvm.Cond.code (hv_y 174) (hv_cc 174) (hv_nL 174) (hv_rt 174) ∈ lw_tbl := hv_sub8 (List.mem_of_getElem? (i := 135) (show tables_1_8[135]? = some (.code ⟨"HardestVowsModel", "count", "(I)I"⟩ prog_13_method_127_code 2 (some .int)) from rfl))
theorem hv_code_175 : Jvm.Cond.code (hv_y 175) (hv_cc 175) (hv_nL 175) (hv_rt 175) ∈ lw_tbl := hv_sub8 (List.mem_of_getElem? (i := 139) (show tables_1_8[139]? = some (.code ⟨"HardestVowsModel", "status", "()I"⟩ prog_13_method_128_code 1 (some .int)) from rfl))
theorem hv_code_176 : Jvm.Cond.code (hv_y 176) (hv_cc 176) (hv_nL 176) (hv_rt 176) ∈ lw_tbl := hv_sub1 (List.mem_of_getElem? (i := 122) (show tables_1_1[122]? = some (.code ⟨"HardestVows$Chooser", "<init>", "()V"⟩ prog_2_method_1_code 1 none) from rfl))
theorem hv_code_177 : Jvm.Cond.code (hv_y 177) (hv_cc 177) (hv_nL 177) (hv_rt 177) ∈ lw_tbl := hv_sub4 (List.mem_of_getElem? (i := 218) (show tables_1_4[218]? = some (.code ⟨"HardestVows$Chooser", "chosen", "(I)I"⟩ prog_2_method_2_code 2 (some .int)) from rfl))
theorem hv_code_178 : Jvm.Cond.code (hv_y 178) (hv_cc 178) (hv_nL 178) (hv_rt 178) ∈ lw_tbl := hv_sub4 (List.mem_of_getElem? (i := 235) (show tables_1_4[235]? = some (.code ⟨"HardestVows$Chooser", "total", "()I"⟩ prog_2_method_3_code 1 (some .int)) from rfl))
theorem hv_code_179 : Jvm.Cond.code (hv_y 179) (hv_cc 179) (hv_nL 179) (hv_rt 179) ∈ lw_tbl := hv_sub4 (List.mem_of_getElem? (i := 175) (show tables_1_4[175]? = some (.code ⟨"HardestVows$Chooser", "chooseBest", "(LHardestVows$Rules;LHardestVows$House;)I"⟩ prog_2_method_4_code 3 (some .int)) from rfl))
theorem hv_code_180 : Jvm.Cond.code (hv_y 180) (hv_cc 180) (hv_nL 180) (hv_rt 180) ∈ lw_tbl := hv_sub4 (List.mem_of_getElem? (i := 186) (show tables_1_4[186]? = some (.code ⟨"HardestVows$Chooser", "chooseWeighed", "(I)I"⟩ prog_2_method_5_code 2 (some .int)) from rfl))
theorem hv_code_181 : Jvm.Cond.code (hv_y 181) (hv_cc 181) (hv_nL 181) (hv_rt 181) ∈ lw_tbl := hv_sub4 (List.mem_of_getElem? (i := 179) (show tables_1_4[179]? = some (.code ⟨"HardestVows$Chooser", "weighShown", "(LHardestVows$Rules;LHardestVows$House;)V"⟩ prog_2_method_6_code 6 none) from rfl))
theorem hv_code_182 : Jvm.Cond.code (hv_y 182) (hv_cc 182) (hv_nL 182) (hv_rt 182) ∈ lw_tbl := hv_sub5 (List.mem_of_getElem? (i := 18) (show tables_1_5[18]? = some (.code ⟨"HardestVows$Chooser", "worthOf", "(II)I"⟩ prog_2_method_7_code 3 (some .int)) from rfl))
theorem hv_code_183 : Jvm.Cond.code (hv_y 183) (hv_cc 183) (hv_nL 183) (hv_rt 183) ∈ lw_tbl := hv_sub5 (List.mem_of_getElem? (i := 54) (show tables_1_5[54]? = some (.code ⟨"HardestVows$Chooser", "setWorth", "(III)V"⟩ prog_2_method_8_code 4 none) from rfl))
theorem hv_code_184 : Jvm.Cond.code (hv_y 184) (hv_cc 184) (hv_nL 184) (hv_rt 184) ∈ lw_tbl := hv_sub4 (List.mem_of_getElem? (i := 226) (show tables_1_4[226]? = some (.code ⟨"HardestVows$Chooser", "chooseFair", "(LHardestVows$Rules;LHardestVows$House;)I"⟩ prog_2_method_9_code 5 (some .int)) from rfl))
theorem hv_code_185 : Jvm.Cond.code (hv_y 185) (hv_cc 185) (hv_nL 185) (hv_rt 185) ∈ lw_tbl := hv_sub4 (List.mem_of_getElem? (i := 230) (show tables_1_4[230]? = some (.code ⟨"HardestVows$Chooser", "weighHard", "(LHardestVows$Rules;LHardestVows$House;)V"⟩ prog_2_method_10_code 6 none) from rfl))
theorem hv_code_186 : Jvm.Cond.code (hv_y 186) (hv_cc 186) (hv_nL 186) (hv_rt 186) ∈ lw_tbl := hv_sub4 (List.mem_of_getElem? (i := 190) (show tables_1_4[190]? = some (.code ⟨"HardestVows$Chooser", "fillMost", "(I)V"⟩ prog_2_method_11_code 5 none) from rfl))
theorem hv_code_187 : Jvm.Cond.code (hv_y 187) (hv_cc 187) (hv_nL 187) (hv_rt 187) ∈ lw_tbl := hv_sub4 (List.mem_of_getElem? (i := 200) (show tables_1_4[200]? = some (.code ⟨"HardestVows$Chooser", "mostFrom", "(II)I"⟩ prog_2_method_12_code 5 (some .int)) from rfl))
theorem hv_code_188 : Jvm.Cond.code (hv_y 188) (hv_cc 188) (hv_nL 188) (hv_rt 188) ∈ lw_tbl := hv_sub4 (List.mem_of_getElem? (i := 204) (show tables_1_4[204]? = some (.code ⟨"HardestVows$Chooser", "mostWith", "(III)I"⟩ prog_2_method_13_code 6 (some .int)) from rfl))
theorem hv_code_189 : Jvm.Cond.code (hv_y 189) (hv_cc 189) (hv_nL 189) (hv_rt 189) ∈ lw_tbl := hv_sub4 (List.mem_of_getElem? (i := 210) (show tables_1_4[210]? = some (.code ⟨"HardestVows$Chooser", "fillRow", "(I)V"⟩ prog_2_method_14_code 6 none) from rfl))
theorem hv_code_190 : Jvm.Cond.code (hv_y 190) (hv_cc 190) (hv_nL 190) (hv_rt 190) ∈ lw_tbl := hv_sub5 (List.mem_of_getElem? (i := 3) (show tables_1_5[3]? = some (.code ⟨"HardestVows$Chooser", "chooseWished", "(LHardestVows$Rules;LHardestVows$House;)I"⟩ prog_2_method_15_code 5 (some .int)) from rfl))
theorem hv_code_191 : Jvm.Cond.code (hv_y 191) (hv_cc 191) (hv_nL 191) (hv_rt 191) ∈ lw_tbl := hv_sub5 (List.mem_of_getElem? (i := 10) (show tables_1_5[10]? = some (.code ⟨"HardestVows$Chooser", "lowestToAsk", "(LHardestVows$House;)I"⟩ prog_2_method_16_code 3 (some .int)) from rfl))
theorem hv_code_192 : Jvm.Cond.code (hv_y 192) (hv_cc 192) (hv_nL 192) (hv_rt 192) ∈ lw_tbl := hv_sub5 (List.mem_of_getElem? (i := 14) (show tables_1_5[14]? = some (.code ⟨"HardestVows$Chooser", "nextWish", "(LHardestVows$House;I)I"⟩ prog_2_method_17_code 5 (some .int)) from rfl))
theorem hv_code_193 : Jvm.Cond.code (hv_y 193) (hv_cc 193) (hv_nL 193) (hv_rt 193) ∈ lw_tbl := hv_sub5 (List.mem_of_getElem? (i := 22) (show tables_1_5[22]? = some (.code ⟨"HardestVows$Chooser", "askFor", "(II)V"⟩ prog_2_method_18_code 4 none) from rfl))
theorem hv_code_194 : Jvm.Cond.code (hv_y 194) (hv_cc 194) (hv_nL 194) (hv_rt 194) ∈ lw_tbl := hv_sub2 (List.mem_of_getElem? (i := 4) (show tables_1_2[4]? = some (.code ⟨"HardestVows$Code", "<init>", "()V"⟩ prog_3_method_1_code 1 none) from rfl))
theorem hv_code_195 : Jvm.Cond.code (hv_y 195) (hv_cc 195) (hv_nL 195) (hv_rt 195) ∈ lw_tbl := hv_sub3 (List.mem_of_getElem? (i := 237) (show tables_1_3[237]? = some (.code ⟨"HardestVows$Code", "<init>", "(LHardestVows$Code;)V"⟩ prog_3_method_2_code 2 none) from rfl))
theorem hv_code_196 : Jvm.Cond.code (hv_y 196) (hv_cc 196) (hv_nL 196) (hv_rt 196) ∈ lw_tbl := hv_sub3 (List.mem_of_getElem? (i := 79) (show tables_1_3[79]? = some (.code ⟨"HardestVows$Code", "clear", "()V"⟩ prog_3_method_3_code 1 none) from rfl))
theorem hv_code_197 : Jvm.Cond.code (hv_y 197) (hv_cc 197) (hv_nL 197) (hv_rt 197) ∈ lw_tbl := hv_sub3 (List.mem_of_getElem? (i := 150) (show tables_1_3[150]? = some (.code ⟨"HardestVows$Code", "addClause", "(I)V"⟩ prog_3_method_4_code 2 none) from rfl))
theorem hv_code_198 : Jvm.Cond.code (hv_y 198) (hv_cc 198) (hv_nL 198) (hv_rt 198) ∈ lw_tbl := hv_sub3 (List.mem_of_getElem? (i := 154) (show tables_1_3[154]? = some (.code ⟨"HardestVows$Code", "mark", "(II)V"⟩ prog_3_method_5_code 3 none) from rfl))
theorem hv_code_199 : Jvm.Cond.code (hv_y 199) (hv_cc 199) (hv_nL 199) (hv_rt 199) ∈ lw_tbl := hv_sub2 (List.mem_of_getElem? (i := 206) (show tables_1_2[206]? = some (.code ⟨"HardestVows$Code", "marked", "(II)I"⟩ prog_3_method_6_code 3 (some .int)) from rfl))
theorem hv_code_200 : Jvm.Cond.code (hv_y 200) (hv_cc 200) (hv_nL 200) (hv_rt 200) ∈ lw_tbl := hv_sub3 (List.mem_of_getElem? (i := 200) (show tables_1_3[200]? = some (.code ⟨"HardestVows$Code", "addStep", "(II)I"⟩ prog_3_method_7_code 3 (some .int)) from rfl))
theorem hv_code_201 : Jvm.Cond.code (hv_y 201) (hv_cc 201) (hv_nL 201) (hv_rt 201) ∈ lw_tbl := hv_sub3 (List.mem_of_getElem? (i := 205) (show tables_1_3[205]? = some (.code ⟨"HardestVows$Code", "leadHere", "(I)V"⟩ prog_3_method_8_code 2 none) from rfl))
theorem hv_code_202 : Jvm.Cond.code (hv_y 202) (hv_cc 202) (hv_nL 202) (hv_rt 202) ∈ lw_tbl := hv_sub1 (List.mem_of_getElem? (i := 178) (show tables_1_1[178]? = some (.code ⟨"HardestVows$Deeds", "<init>", "(LHardestVows$Whole;LHardestVows$Rules;LHardestVows$Machine;)V"⟩ prog_4_method_1_code 4 none) from rfl))
theorem hv_code_203 : Jvm.Cond.code (hv_y 203) (hv_cc 203) (hv_nL 203) (hv_rt 203) ∈ lw_tbl := hv_sub4 (List.mem_of_getElem? (i := 68) (show tables_1_4[68]? = some (.code ⟨"HardestVows$Deeds", "giveVow", "(II)I"⟩ prog_4_method_2_code 4 (some .int)) from rfl))
theorem hv_code_204 : Jvm.Cond.code (hv_y 204) (hv_cc 204) (hv_nL 204) (hv_rt 204) ∈ lw_tbl := hv_sub4 (List.mem_of_getElem? (i := 90) (show tables_1_4[90]? = some (.code ⟨"HardestVows$Deeds", "layDown", "(I)I"⟩ prog_4_method_3_code 3 (some .int)) from rfl))
theorem hv_code_205 : Jvm.Cond.code (hv_y 205) (hv_cc 205) (hv_nL 205) (hv_rt 205) ∈ lw_tbl := hv_sub4 (List.mem_of_getElem? (i := 94) (show tables_1_4[94]? = some (.code ⟨"HardestVows$Deeds", "swapVows", "(II)I"⟩ prog_4_method_4_code 6 (some .int)) from rfl))
theorem hv_code_206 : Jvm.Cond.code (hv_y 206) (hv_cc 206) (hv_nL 206) (hv_rt 206) ∈ lw_tbl := hv_sub4 (List.mem_of_getElem? (i := 102) (show tables_1_4[102]? = some (.code ⟨"HardestVows$Deeds", "passYear", "()I"⟩ prog_4_method_5_code 1 (some .int)) from rfl))
theorem hv_code_207 : Jvm.Cond.code (hv_y 207) (hv_cc 207) (hv_nL 207) (hv_rt 207) ∈ lw_tbl := hv_sub4 (List.mem_of_getElem? (i := 159) (show tables_1_4[159]? = some (.code ⟨"HardestVows$Deeds", "takeBack", "()I"⟩ prog_4_method_6_code 1 (some .int)) from rfl))
theorem hv_code_208 : Jvm.Cond.code (hv_y 208) (hv_cc 208) (hv_nL 208) (hv_rt 208) ∈ lw_tbl := hv_sub4 (List.mem_of_getElem? (i := 24) (show tables_1_4[24]? = some (.code ⟨"HardestVows$Deeds", "run", "(LHardestVows$Code;)I"⟩ prog_4_method_7_code 5 (some .int)) from rfl))
theorem hv_code_209 : Jvm.Cond.code (hv_y 209) (hv_cc 209) (hv_nL 209) (hv_rt 209) ∈ lw_tbl := hv_sub4 (List.mem_of_getElem? (i := 58) (show tables_1_4[58]? = some (.code ⟨"HardestVows$Deeds", "isWanted", "(LHardestVows$Code;I)Z"⟩ prog_4_method_8_code 4 (some .boolean)) from rfl))
theorem hv_code_210 : Jvm.Cond.code (hv_y 210) (hv_cc 210) (hv_nL 210) (hv_rt 210) ∈ lw_tbl := hv_sub4 (List.mem_of_getElem? (i := 64) (show tables_1_4[64]? = some (.code ⟨"HardestVows$Deeds", "carryOut", "(LHardestVows$Code;I)I"⟩ prog_4_method_9_code 7 (some .int)) from rfl))
theorem hv_code_211 : Jvm.Cond.code (hv_y 211) (hv_cc 211) (hv_nL 211) (hv_rt 211) ∈ lw_tbl := hv_sub4 (List.mem_of_getElem? (i := 39) (show tables_1_4[39]? = some (.code ⟨"HardestVows$Deeds", "setWords", "()V"⟩ prog_4_method_10_code 3 none) from rfl))
theorem hv_code_212 : Jvm.Cond.code (hv_y 212) (hv_cc 212) (hv_nL 212) (hv_rt 212) ∈ lw_tbl := hv_sub1 (List.mem_of_getElem? (i := 39) (show tables_1_1[39]? = some (.code ⟨"HardestVows$House", "<init>", "()V"⟩ prog_5_method_1_code 1 none) from rfl))
theorem hv_code_213 : Jvm.Cond.code (hv_y 213) (hv_cc 213) (hv_nL 213) (hv_rt 213) ∈ lw_tbl := hv_sub2 (List.mem_of_getElem? (i := 113) (show tables_1_2[113]? = some (.code ⟨"HardestVows$House", "monks", "()I"⟩ prog_5_method_2_code 1 (some .int)) from rfl))
theorem hv_code_214 : Jvm.Cond.code (hv_y 214) (hv_cc 214) (hv_nL 214) (hv_rt 214) ∈ lw_tbl := hv_sub2 (List.mem_of_getElem? (i := 144) (show tables_1_2[144]? = some (.code ⟨"HardestVows$House", "isMonk", "(I)Z"⟩ prog_5_method_3_code 2 (some .boolean)) from rfl))
theorem hv_code_215 : Jvm.Cond.code (hv_y 215) (hv_cc 215) (hv_nL 215) (hv_rt 215) ∈ lw_tbl := hv_sub2 (List.mem_of_getElem? (i := 117) (show tables_1_2[117]? = some (.code ⟨"HardestVows$House", "addMonk", "()I"⟩ prog_5_method_4_code 2 (some .int)) from rfl))
theorem hv_code_216 : Jvm.Cond.code (hv_y 216) (hv_cc 216) (hv_nL 216) (hv_rt 216) ∈ lw_tbl := hv_sub2 (List.mem_of_getElem? (i := 148) (show tables_1_2[148]? = some (.code ⟨"HardestVows$House", "hardOf", "(II)I"⟩ prog_5_method_5_code 3 (some .int)) from rfl))
theorem hv_code_217 : Jvm.Cond.code (hv_y 217) (hv_cc 217) (hv_nL 217) (hv_rt 217) ∈ lw_tbl := hv_sub2 (List.mem_of_getElem? (i := 125) (show tables_1_2[125]? = some (.code ⟨"HardestVows$House", "setHard", "(III)V"⟩ prog_5_method_6_code 4 none) from rfl))
theorem hv_code_218 : Jvm.Cond.code (hv_y 218) (hv_cc 218) (hv_nL 218) (hv_rt 218) ∈ lw_tbl := hv_sub2 (List.mem_of_getElem? (i := 194) (show tables_1_2[194]? = some (.code ⟨"HardestVows$House", "vowOf", "(I)I"⟩ prog_5_method_7_code 2 (some .int)) from rfl))
theorem hv_code_219 : Jvm.Cond.code (hv_y 219) (hv_cc 219) (hv_nL 219) (hv_rt 219) ∈ lw_tbl := hv_sub2 (List.mem_of_getElem? (i := 121) (show tables_1_2[121]? = some (.code ⟨"HardestVows$House", "setVow", "(II)V"⟩ prog_5_method_8_code 3 none) from rfl))
theorem hv_code_220 : Jvm.Cond.code (hv_y 220) (hv_cc 220) (hv_nL 220) (hv_rt 220) ∈ lw_tbl := hv_sub2 (List.mem_of_getElem? (i := 172) (show tables_1_2[172]? = some (.code ⟨"HardestVows$House", "heldOf", "(II)I"⟩ prog_5_method_9_code 3 (some .int)) from rfl))
theorem hv_code_221 : Jvm.Cond.code (hv_y 221) (hv_cc 221) (hv_nL 221) (hv_rt 221) ∈ lw_tbl := hv_sub4 (List.mem_of_getElem? (i := 112) (show tables_1_4[112]? = some (.code ⟨"HardestVows$House", "holdOneMore", "(I)V"⟩ prog_5_method_10_code 3 none) from rfl))
theorem hv_code_222 : Jvm.Cond.code (hv_y 222) (hv_cc 222) (hv_nL 222) (hv_rt 222) ∈ lw_tbl := hv_sub4 (List.mem_of_getElem? (i := 80) (show tables_1_4[80]? = some (.code ⟨"HardestVows$House", "isHad", "(I)Z"⟩ prog_5_method_11_code 3 (some .boolean)) from rfl))
theorem hv_code_223 : Jvm.Cond.code (hv_y 223) (hv_cc 223) (hv_nL 223) (hv_rt 223) ∈ lw_tbl := hv_sub4 (List.mem_of_getElem? (i := 44) (show tables_1_4[44]? = some (.code ⟨"HardestVows$House", "given", "()I"⟩ prog_5_method_12_code 3 (some .int)) from rfl))
theorem hv_code_224 : Jvm.Cond.code (hv_y 224) (hv_cc 224) (hv_nL 224) (hv_rt 224) ∈ lw_tbl := hv_sub4 (List.mem_of_getElem? (i := 50) (show tables_1_4[50]? = some (.code ⟨"HardestVows$House", "hardOfAllHad", "()I"⟩ prog_5_method_13_code 3 (some .int)) from rfl))
theorem hv_code_225 : Jvm.Cond.code (hv_y 225) (hv_cc 225) (hv_nL 225) (hv_rt 225) ∈ lw_tbl := hv_sub2 (List.mem_of_getElem? (i := 198) (show tables_1_2[198]? = some (.code ⟨"HardestVows$House", "year", "()I"⟩ prog_5_method_14_code 1 (some .int)) from rfl))
theorem hv_code_226 : Jvm.Cond.code (hv_y 226) (hv_cc 226) (hv_nL 226) (hv_rt 226) ∈ lw_tbl := hv_sub3 (List.mem_of_getElem? (i := 34) (show tables_1_3[34]? = some (.code ⟨"HardestVows$House", "setYear", "(I)V"⟩ prog_5_method_15_code 2 none) from rfl))
theorem hv_code_227 : Jvm.Cond.code (hv_y 227) (hv_cc 227) (hv_nL 227) (hv_rt 227) ∈ lw_tbl := hv_sub2 (List.mem_of_getElem? (i := 202) (show tables_1_2[202]? = some (.code ⟨"HardestVows$House", "mood", "()I"⟩ prog_5_method_16_code 1 (some .int)) from rfl))
theorem hv_code_228 : Jvm.Cond.code (hv_y 228) (hv_cc 228) (hv_nL 228) (hv_rt 228) ∈ lw_tbl := hv_sub3 (List.mem_of_getElem? (i := 38) (show tables_1_3[38]? = some (.code ⟨"HardestVows$House", "setMood", "(I)V"⟩ prog_5_method_17_code 2 none) from rfl))
theorem hv_code_229 : Jvm.Cond.code (hv_y 229) (hv_cc 229) (hv_nL 229) (hv_rt 229) ∈ lw_tbl := hv_sub4 (List.mem_of_getElem? (i := 28) (show tables_1_4[28]? = some (.code ⟨"HardestVows$House", "copyFrom", "(LHardestVows$House;)V"⟩ prog_5_method_18_code 2 none) from rfl))
theorem hv_code_230 : Jvm.Cond.code (hv_y 230) (hv_cc 230) (hv_nL 230) (hv_rt 230) ∈ lw_tbl := hv_sub1 (List.mem_of_getElem? (i := 87) (show tables_1_1[87]? = some (.code ⟨"HardestVows$Machine", "<init>", "()V"⟩ prog_6_method_1_code 1 none) from rfl))
theorem hv_code_231 : Jvm.Cond.code (hv_y 231) (hv_cc 231) (hv_nL 231) (hv_rt 231) ∈ lw_tbl := hv_sub2 (List.mem_of_getElem? (i := 239) (show tables_1_2[239]? = some (.code ⟨"HardestVows$Machine", "told", "()I"⟩ prog_6_method_2_code 1 (some .int)) from rfl))
theorem hv_code_232 : Jvm.Cond.code (hv_y 232) (hv_cc 232) (hv_nL 232) (hv_rt 232) ∈ lw_tbl := hv_sub2 (List.mem_of_getElem? (i := 210) (show tables_1_2[210]? = some (.code ⟨"HardestVows$Machine", "works", "(LHardestVows$Code;I[I)Z"⟩ prog_6_method_3_code 7 (some .boolean)) from rfl))
theorem hv_code_233 : Jvm.Cond.code (hv_y 233) (hv_cc 233) (hv_nL 233) (hv_rt 233) ∈ lw_tbl := hv_sub2 (List.mem_of_getElem? (i := 217) (show tables_1_2[217]? = some (.code ⟨"HardestVows$Machine", "endsWell", "()Z"⟩ prog_6_method_4_code 1 (some .boolean)) from rfl))
theorem hv_code_234 : Jvm.Cond.code (hv_y 234) (hv_cc 234) (hv_nL 234) (hv_rt 234) ∈ lw_tbl := hv_sub2 (List.mem_of_getElem? (i := 221) (show tables_1_2[221]? = some (.code ⟨"HardestVows$Machine", "push", "(I)V"⟩ prog_6_method_5_code 2 none) from rfl))
theorem hv_code_235 : Jvm.Cond.code (hv_y 235) (hv_cc 235) (hv_nL 235) (hv_rt 235) ∈ lw_tbl := hv_sub2 (List.mem_of_getElem? (i := 225) (show tables_1_2[225]? = some (.code ⟨"HardestVows$Machine", "turn", "()V"⟩ prog_6_method_6_code 1 none) from rfl))
theorem hv_code_236 : Jvm.Cond.code (hv_y 236) (hv_cc 236) (hv_nL 236) (hv_rt 236) ∈ lw_tbl := hv_sub2 (List.mem_of_getElem? (i := 235) (show tables_1_2[235]? = some (.code ⟨"HardestVows$Machine", "isSettled", "(I)Z"⟩ prog_6_method_7_code 3 (some .boolean)) from rfl))
theorem hv_code_237 : Jvm.Cond.code (hv_y 237) (hv_cc 237) (hv_nL 237) (hv_rt 237) ∈ lw_tbl := hv_sub2 (List.mem_of_getElem? (i := 229) (show tables_1_2[229]? = some (.code ⟨"HardestVows$Machine", "combines", "(I)Z"⟩ prog_6_method_8_code 8 (some .boolean)) from rfl))
theorem hv_code_238 : Jvm.Cond.code (hv_y 238) (hv_cc 238) (hv_nL 238) (hv_rt 238) ∈ lw_tbl := hv_sub1 (List.mem_of_getElem? (i := 150) (show tables_1_1[150]? = some (.code ⟨"HardestVows$Paper", "<init>", "(LHardestVows$Rules;LHardestVows$Chooser;)V"⟩ prog_7_method_1_code 3 none) from rfl))
theorem hv_code_239 : Jvm.Cond.code (hv_y 239) (hv_cc 239) (hv_nL 239) (hv_rt 239) ∈ lw_tbl := hv_sub5 (List.mem_of_getElem? (i := 39) (show tables_1_5[39]? = some (.code ⟨"HardestVows$Paper", "hidden", "(LHardestVows$Whole;II)I"⟩ prog_7_method_2_code 12 (some .int)) from rfl))
theorem hv_code_240 : Jvm.Cond.code (hv_y 240) (hv_cc 240) (hv_nL 240) (hv_rt 240) ∈ lw_tbl := hv_sub5 (List.mem_of_getElem? (i := 46) (show tables_1_5[46]? = some (.code ⟨"HardestVows$Paper", "hardOfChosen", "(LHardestVows$House;I)I"⟩ prog_7_method_3_code 4 (some .int)) from rfl))
theorem hv_code_241 : Jvm.Cond.code (hv_y 241) (hv_cc 241) (hv_nL 241) (hv_rt 241) ∈ lw_tbl := hv_sub5 (List.mem_of_getElem? (i := 64) (show tables_1_5[64]? = some (.code ⟨"HardestVows$Paper", "firstSoftYear", "(LHardestVows$Whole;I)I"⟩ prog_7_method_4_code 5 (some .int)) from rfl))
theorem hv_code_242 : Jvm.Cond.code (hv_y 242) (hv_cc 242) (hv_nL 242) (hv_rt 242) ∈ lw_tbl := hv_sub5 (List.mem_of_getElem? (i := 68) (show tables_1_5[68]? = some (.code ⟨"HardestVows$Paper", "takeSheet", "(LHardestVows$Whole;)V"⟩ prog_7_method_5_code 2 none) from rfl))
theorem hv_code_243 : Jvm.Cond.code (hv_y 243) (hv_cc 243) (hv_nL 243) (hv_rt 243) ∈ lw_tbl := hv_sub5 (List.mem_of_getElem? (i := 73) (show tables_1_5[73]? = some (.code ⟨"HardestVows$Paper", "takeChosen", "(I)V"⟩ prog_7_method_6_code 4 none) from rfl))
theorem hv_code_244 : Jvm.Cond.code (hv_y 244) (hv_cc 244) (hv_nL 244) (hv_rt 244) ∈ lw_tbl := hv_sub5 (List.mem_of_getElem? (i := 86) (show tables_1_5[86]? = some (.code ⟨"HardestVows$Paper", "chanceKept", "(LHardestVows$Whole;II)J"⟩ prog_7_method_7_code 8 (some .long)) from rfl))
theorem hv_code_245 : Jvm.Cond.code (hv_y 245) (hv_cc 245) (hv_nL 245) (hv_rt 245) ∈ lw_tbl := hv_sub5 (List.mem_of_getElem? (i := 113) (show tables_1_5[113]? = some (.code ⟨"HardestVows$Paper", "possibleMonks", "(LHardestVows$Whole;)I"⟩ prog_7_method_8_code 4 (some .int)) from rfl))
theorem hv_code_246 : Jvm.Cond.code (hv_y 246) (hv_cc 246) (hv_nL 246) (hv_rt 246) ∈ lw_tbl := hv_sub5 (List.mem_of_getElem? (i := 117) (show tables_1_5[117]? = some (.code ⟨"HardestVows$Paper", "showsAllSeen", "(LHardestVows$Whole;I)Z"⟩ prog_7_method_9_code 4 (some .boolean)) from rfl))
theorem hv_code_247 : Jvm.Cond.code (hv_y 247) (hv_cc 247) (hv_nL 247) (hv_rt 247) ∈ lw_tbl := hv_sub5 (List.mem_of_getElem? (i := 126) (show tables_1_5[126]? = some (.code ⟨"HardestVows$Paper", "nextToSee", "(LHardestVows$Whole;I)I"⟩ prog_7_method_10_code 8 (some .int)) from rfl))
theorem hv_code_248 : Jvm.Cond.code (hv_y 248) (hv_cc 248) (hv_nL 248) (hv_rt 248) ∈ lw_tbl := hv_sub5 (List.mem_of_getElem? (i := 131) (show tables_1_5[131]? = some (.code ⟨"HardestVows$Paper", "mostAlike", "(II)I"⟩ prog_7_method_11_code 7 (some .int)) from rfl))
theorem hv_code_249 : Jvm.Cond.code (hv_y 249) (hv_cc 249) (hv_nL 249) (hv_rt 249) ∈ lw_tbl := hv_sub5 (List.mem_of_getElem? (i := 145) (show tables_1_5[145]? = some (.code ⟨"HardestVows$Paper", "drawYears", "(LHardestVows$Whole;II)I"⟩ prog_7_method_12_code 8 (some .int)) from rfl))
theorem hv_code_250 : Jvm.Cond.code (hv_y 250) (hv_cc 250) (hv_nL 250) (hv_rt 250) ∈ lw_tbl := hv_sub5 (List.mem_of_getElem? (i := 150) (show tables_1_5[150]? = some (.code ⟨"HardestVows$Paper", "draw", "(I)I"⟩ prog_7_method_13_code 2 (some .int)) from rfl))
theorem hv_code_251 : Jvm.Cond.code (hv_y 251) (hv_cc 251) (hv_nL 251) (hv_rt 251) ∈ lw_tbl := hv_sub1 (List.mem_of_getElem? (i := 238) (show tables_1_1[238]? = some (.code ⟨"HardestVows$Reader", "<init>", "([I)V"⟩ prog_8_method_1_code 2 none) from rfl))
theorem hv_code_252 : Jvm.Cond.code (hv_y 252) (hv_cc 252) (hv_nL 252) (hv_rt 252) ∈ lw_tbl := hv_sub3 (List.mem_of_getElem? (i := 74) (show tables_1_3[74]? = some (.code ⟨"HardestVows$Reader", "faultOf", "(IZ)I"⟩ prog_8_method_2_code 4 (some .int)) from rfl))
theorem hv_code_253 : Jvm.Cond.code (hv_y 253) (hv_cc 253) (hv_nL 253) (hv_rt 253) ∈ lw_tbl := hv_sub3 (List.mem_of_getElem? (i := 232) (show tables_1_3[232]? = some (.code ⟨"HardestVows$Reader", "readsRule", "()Z"⟩ prog_8_method_3_code 2 (some .boolean)) from rfl))
theorem hv_code_254 : Jvm.Cond.code (hv_y 254) (hv_cc 254) (hv_nL 254) (hv_rt 254) ∈ lw_tbl := hv_sub3 (List.mem_of_getElem? (i := 93) (show tables_1_3[93]? = some (.code ⟨"HardestVows$Reader", "readsOrder", "()Z"⟩ prog_8_method_4_code 3 (some .boolean)) from rfl))
theorem hv_code_255 : Jvm.Cond.code (hv_y 255) (hv_cc 255) (hv_nL 255) (hv_rt 255) ∈ lw_tbl := hv_sub3 (List.mem_of_getElem? (i := 158) (show tables_1_3[158]? = some (.code ⟨"HardestVows$Reader", "readsMarkedSum", "(I)Z"⟩ prog_8_method_5_code 2 (some .boolean)) from rfl))
theorem hv_code_256 : Jvm.Cond.code (hv_y 256) (hv_cc 256) (hv_nL 256) (hv_rt 256) ∈ lw_tbl := hv_sub3 (List.mem_of_getElem? (i := 222) (show tables_1_3[222]? = some (.code ⟨"HardestVows$Reader", "readsTimes", "()Z"⟩ prog_8_method_6_code 1 (some .boolean)) from rfl))
theorem hv_code_257 : Jvm.Cond.code (hv_y 257) (hv_cc 257) (hv_nL 257) (hv_rt 257) ∈ lw_tbl := hv_sub3 (List.mem_of_getElem? (i := 227) (show tables_1_3[227]? = some (.code ⟨"HardestVows$Reader", "readsCondition", "()Z"⟩ prog_8_method_7_code 1 (some .boolean)) from rfl))
theorem hv_code_258 : Jvm.Cond.code (hv_y 258) (hv_cc 258) (hv_nL 258) (hv_rt 258) ∈ lw_tbl := hv_sub3 (List.mem_of_getElem? (i := 179) (show tables_1_3[179]? = some (.code ⟨"HardestVows$Reader", "readsTest", "(I)Z"⟩ prog_8_method_8_code 5 (some .boolean)) from rfl))
theorem hv_code_259 : Jvm.Cond.code (hv_y 259) (hv_cc 259) (hv_nL 259) (hv_rt 259) ∈ lw_tbl := hv_sub3 (List.mem_of_getElem? (i := 183) (show tables_1_3[183]? = some (.code ⟨"HardestVows$Reader", "readsBoth", "(I)Z"⟩ prog_8_method_9_code 5 (some .boolean)) from rfl))
theorem hv_code_260 : Jvm.Cond.code (hv_y 260) (hv_cc 260) (hv_nL 260) (hv_rt 260) ∈ lw_tbl := hv_sub3 (List.mem_of_getElem? (i := 187) (show tables_1_3[187]? = some (.code ⟨"HardestVows$Reader", "readsPlain", "(I)Z"⟩ prog_8_method_10_code 4 (some .boolean)) from rfl))
theorem hv_code_261 : Jvm.Cond.code (hv_y 261) (hv_cc 261) (hv_nL 261) (hv_rt 261) ∈ lw_tbl := hv_sub3 (List.mem_of_getElem? (i := 175) (show tables_1_3[175]? = some (.code ⟨"HardestVows$Reader", "readsInner", "(II)Z"⟩ prog_8_method_11_code 4 (some .boolean)) from rfl))
theorem hv_code_262 : Jvm.Cond.code (hv_y 262) (hv_cc 262) (hv_nL 262) (hv_rt 262) ∈ lw_tbl := hv_sub3 (List.mem_of_getElem? (i := 196) (show tables_1_3[196]? = some (.code ⟨"HardestVows$Reader", "readsComparison", "(I)Z"⟩ prog_8_method_12_code 3 (some .boolean)) from rfl))
theorem hv_code_263 : Jvm.Cond.code (hv_y 263) (hv_cc 263) (hv_nL 263) (hv_rt 263) ∈ lw_tbl := hv_sub3 (List.mem_of_getElem? (i := 163) (show tables_1_3[163]? = some (.code ⟨"HardestVows$Reader", "readsSum", "(I)Z"⟩ prog_8_method_13_code 5 (some .boolean)) from rfl))
theorem hv_code_264 : Jvm.Cond.code (hv_y 264) (hv_cc 264) (hv_nL 264) (hv_rt 264) ∈ lw_tbl := hv_sub3 (List.mem_of_getElem? (i := 167) (show tables_1_3[167]? = some (.code ⟨"HardestVows$Reader", "readsTerm", "(I)Z"⟩ prog_8_method_14_code 5 (some .boolean)) from rfl))
theorem hv_code_265 : Jvm.Cond.code (hv_y 265) (hv_cc 265) (hv_nL 265) (hv_rt 265) ∈ lw_tbl := hv_sub3 (List.mem_of_getElem? (i := 171) (show tables_1_3[171]? = some (.code ⟨"HardestVows$Reader", "readsPart", "(I)Z"⟩ prog_8_method_15_code 2 (some .boolean)) from rfl))
theorem hv_code_266 : Jvm.Cond.code (hv_y 266) (hv_cc 266) (hv_nL 266) (hv_rt 266) ∈ lw_tbl := hv_sub3 (List.mem_of_getElem? (i := 214) (show tables_1_3[214]? = some (.code ⟨"HardestVows$Reader", "readsWord", "()Z"⟩ prog_8_method_16_code 2 (some .boolean)) from rfl))
theorem hv_code_267 : Jvm.Cond.code (hv_y 267) (hv_cc 267) (hv_nL 267) (hv_rt 267) ∈ lw_tbl := hv_sub3 (List.mem_of_getElem? (i := 210) (show tables_1_3[210]? = some (.code ⟨"HardestVows$Reader", "takes", "(I)Z"⟩ prog_8_method_17_code 2 (some .boolean)) from rfl))
theorem hv_code_268 : Jvm.Cond.code (hv_y 268) (hv_cc 268) (hv_nL 268) (hv_rt 268) ∈ lw_tbl := hv_sub3 (List.mem_of_getElem? (i := 192) (show tables_1_3[192]? = some (.code ⟨"HardestVows$Reader", "takesWord", "(Ljava/lang/String;)Z"⟩ prog_8_method_18_code 2 (some .boolean)) from rfl))
theorem hv_code_269 : Jvm.Cond.code (hv_y 269) (hv_cc 269) (hv_nL 269) (hv_rt 269) ∈ lw_tbl := hv_sub3 (List.mem_of_getElem? (i := 98) (show tables_1_3[98]? = some (.code ⟨"HardestVows$Reader", "placeIn", "(Ljava/lang/String;)I"⟩ prog_8_method_19_code 6 (some .int)) from rfl))
theorem hv_code_270 : Jvm.Cond.code (hv_y 270) (hv_cc 270) (hv_nL 270) (hv_rt 270) ∈ lw_tbl := hv_sub3 (List.mem_of_getElem? (i := 83) (show tables_1_3[83]? = some (.code ⟨"HardestVows$Reader", "step", "()V"⟩ prog_8_method_20_code 1 none) from rfl))
theorem hv_code_271 : Jvm.Cond.code (hv_y 271) (hv_cc 271) (hv_nL 271) (hv_rt 271) ∈ lw_tbl := hv_sub3 (List.mem_of_getElem? (i := 86) (show tables_1_3[86]? = some (.code ⟨"HardestVows$Reader", "isLetter", "(I)Z"⟩ prog_8_method_21_code 1 (some .boolean)) from rfl))
theorem hv_code_272 : Jvm.Cond.code (hv_y 272) (hv_cc 272) (hv_nL 272) (hv_rt 272) ∈ lw_tbl := hv_sub3 (List.mem_of_getElem? (i := 89) (show tables_1_3[89]? = some (.code ⟨"HardestVows$Reader", "isDigit", "(I)Z"⟩ prog_8_method_22_code 1 (some .boolean)) from rfl))
theorem hv_code_273 : Jvm.Cond.code (hv_y 273) (hv_cc 273) (hv_nL 273) (hv_rt 273) ∈ lw_tbl := hv_sub1 (List.mem_of_getElem? (i := 103) (show tables_1_1[103]? = some (.code ⟨"HardestVows$Rules", "<init>", "(LHardestVows$Machine;LHardestVows$House;)V"⟩ prog_9_method_1_code 3 none) from rfl))
theorem hv_code_274 : Jvm.Cond.code (hv_y 274) (hv_cc 274) (hv_nL 274) (hv_rt 274) ∈ lw_tbl := hv_sub2 (List.mem_of_getElem? (i := 168) (show tables_1_2[168]? = some (.code ⟨"HardestVows$Rules", "take", "(LHardestVows$House;LHardestVows$Code;)V"⟩ prog_9_method_2_code 3 none) from rfl))
theorem hv_code_275 : Jvm.Cond.code (hv_y 275) (hv_cc 275) (hv_nL 275) (hv_rt 275) ∈ lw_tbl := hv_sub2 (List.mem_of_getElem? (i := 176) (show tables_1_2[176]? = some (.code ⟨"HardestVows$Rules", "shownBy", "(II)I"⟩ prog_9_method_3_code 3 (some .int)) from rfl))
theorem hv_code_276 : Jvm.Cond.code (hv_y 276) (hv_cc 276) (hv_nL 276) (hv_rt 276) ∈ lw_tbl := hv_sub3 (List.mem_of_getElem? (i := 7) (show tables_1_3[7]? = some (.code ⟨"HardestVows$Rules", "breaksOf", "(II)I"⟩ prog_9_method_4_code 3 (some .int)) from rfl))
theorem hv_code_277 : Jvm.Cond.code (hv_y 277) (hv_cc 277) (hv_nL 277) (hv_rt 277) ∈ lw_tbl := hv_sub3 (List.mem_of_getElem? (i := 15) (show tables_1_3[15]? = some (.code ⟨"HardestVows$Rules", "fallOf", "(II)I"⟩ prog_9_method_5_code 3 (some .int)) from rfl))
theorem hv_code_278 : Jvm.Cond.code (hv_y 278) (hv_cc 278) (hv_nL 278) (hv_rt 278) ∈ lw_tbl := hv_sub3 (List.mem_of_getElem? (i := 19) (show tables_1_3[19]? = some (.code ⟨"HardestVows$Rules", "riseOf", "(II)I"⟩ prog_9_method_6_code 3 (some .int)) from rfl))
theorem hv_code_279 : Jvm.Cond.code (hv_y 279) (hv_cc 279) (hv_nL 279) (hv_rt 279) ∈ lw_tbl := hv_sub3 (List.mem_of_getElem? (i := 11) (show tables_1_3[11]? = some (.code ⟨"HardestVows$Rules", "isBarred", "(II)Z"⟩ prog_9_method_7_code 3 (some .boolean)) from rfl))
theorem hv_code_280 : Jvm.Cond.code (hv_y 280) (hv_cc 280) (hv_nL 280) (hv_rt 280) ∈ lw_tbl := hv_sub2 (List.mem_of_getElem? (i := 180) (show tables_1_2[180]? = some (.code ⟨"HardestVows$Rules", "told", "(III)I"⟩ prog_9_method_8_code 7 (some .int)) from rfl))
theorem hv_code_281 : Jvm.Cond.code (hv_y 281) (hv_cc 281) (hv_nL 281) (hv_rt 281) ∈ lw_tbl := hv_sub2 (List.mem_of_getElem? (i := 184) (show tables_1_2[184]? = some (.code ⟨"HardestVows$Rules", "toldWithout", "(III)I"⟩ prog_9_method_9_code 4 (some .int)) from rfl))
theorem hv_code_282 : Jvm.Cond.code (hv_y 282) (hv_cc 282) (hv_nL 282) (hv_rt 282) ∈ lw_tbl := hv_sub2 (List.mem_of_getElem? (i := 189) (show tables_1_2[189]? = some (.code ⟨"HardestVows$Rules", "setWords", "(II)V"⟩ prog_9_method_10_code 3 none) from rfl))
theorem hv_code_283 : Jvm.Cond.code (hv_y 283) (hv_cc 283) (hv_nL 283) (hv_rt 283) ∈ lw_tbl := hv_sub4 (List.mem_of_getElem? (i := 74) (show tables_1_4[74]? = some (.code ⟨"HardestVows$Rules", "refusalToGive", "(II)I"⟩ prog_9_method_11_code 3 (some .int)) from rfl))
theorem hv_code_284 : Jvm.Cond.code (hv_y 284) (hv_cc 284) (hv_nL 284) (hv_rt 284) ∈ lw_tbl := hv_sub4 (List.mem_of_getElem? (i := 98) (show tables_1_4[98]? = some (.code ⟨"HardestVows$Rules", "refusalToSwap", "(II)I"⟩ prog_9_method_12_code 6 (some .int)) from rfl))
theorem hv_code_285 : Jvm.Cond.code (hv_y 285) (hv_cc 285) (hv_nL 285) (hv_rt 285) ∈ lw_tbl := hv_sub5 (List.mem_of_getElem? (i := 30) (show tables_1_5[30]? = some (.code ⟨"HardestVows$Rules", "isHarderSwapped", "(II)Z"⟩ prog_9_method_13_code 6 (some .boolean)) from rfl))
theorem hv_code_286 : Jvm.Cond.code (hv_y 286) (hv_cc 286) (hv_nL 286) (hv_rt 286) ∈ lw_tbl := hv_sub4 (List.mem_of_getElem? (i := 106) (show tables_1_4[106]? = some (.code ⟨"HardestVows$Rules", "passYear", "()V"⟩ prog_9_method_14_code 5 none) from rfl))
theorem hv_code_287 : Jvm.Cond.code (hv_y 287) (hv_cc 287) (hv_nL 287) (hv_rt 287) ∈ lw_tbl := hv_sub5 (List.mem_of_getElem? (i := 93) (show tables_1_5[93]? = some (.code ⟨"HardestVows$Rules", "passYearOf", "(II)V"⟩ prog_9_method_15_code 4 none) from rfl))
theorem hv_code_288 : Jvm.Cond.code (hv_y 288) (hv_cc 288) (hv_nL 288) (hv_rt 288) ∈ lw_tbl := hv_sub1 (List.mem_of_getElem? (i := 184) (show tables_1_1[184]? = some (.code ⟨"HardestVows$Trail", "<init>", "()V"⟩ prog_10_method_1_code 1 none) from rfl))
theorem hv_code_289 : Jvm.Cond.code (hv_y 289) (hv_cc 289) (hv_nL 289) (hv_rt 289) ∈ lw_tbl := hv_sub4 (List.mem_of_getElem? (i := 163) (show tables_1_4[163]? = some (.code ⟨"HardestVows$Trail", "length", "()I"⟩ prog_10_method_2_code 1 (some .int)) from rfl))
theorem hv_code_290 : Jvm.Cond.code (hv_y 290) (hv_cc 290) (hv_nL 290) (hv_rt 290) ∈ lw_tbl := hv_sub2 (List.mem_of_getElem? (i := 129) (show tables_1_2[129]? = some (.code ⟨"HardestVows$Trail", "clear", "()V"⟩ prog_10_method_3_code 1 none) from rfl))
theorem hv_code_291 : Jvm.Cond.code (hv_y 291) (hv_cc 291) (hv_nL 291) (hv_rt 291) ∈ lw_tbl := hv_sub4 (List.mem_of_getElem? (i := 84) (show tables_1_4[84]? = some (.code ⟨"HardestVows$Trail", "keep", "(ILHardestVows$House;)V"⟩ prog_10_method_4_code 3 none) from rfl))
theorem hv_code_292 : Jvm.Cond.code (hv_y 292) (hv_cc 292) (hv_nL 292) (hv_rt 292) ∈ lw_tbl := hv_sub4 (List.mem_of_getElem? (i := 167) (show tables_1_4[167]? = some (.code ⟨"HardestVows$Trail", "takeBack", "(LHardestVows$House;)I"⟩ prog_10_method_5_code 2 (some .int)) from rfl))
theorem hv_code_293 : Jvm.Cond.code (hv_y 293) (hv_cc 293) (hv_nL 293) (hv_rt 293) ∈ lw_tbl := hv_sub4 (List.mem_of_getElem? (i := 33) (show tables_1_4[33]? = some (.code ⟨"HardestVows$Trail", "copyFrom", "(LHardestVows$Trail;)V"⟩ prog_10_method_6_code 2 none) from rfl))
theorem hv_code_294 : Jvm.Cond.code (hv_y 294) (hv_cc 294) (hv_nL 294) (hv_rt 294) ∈ lw_tbl := hv_sub1 (List.mem_of_getElem? (i := 33) (show tables_1_1[33]? = some (.code ⟨"HardestVows$Whole", "<init>", "()V"⟩ prog_11_method_1_code 1 none) from rfl))
theorem hv_code_295 : Jvm.Cond.code (hv_y 295) (hv_cc 295) (hv_nL 295) (hv_rt 295) ∈ lw_tbl := hv_sub2 (List.mem_of_getElem? (i := 164) (show tables_1_2[164]? = some (.code ⟨"HardestVows$Whole", "isLaw", "(I)Z"⟩ prog_11_method_2_code 2 (some .boolean)) from rfl))
theorem hv_code_296 : Jvm.Cond.code (hv_y 296) (hv_cc 296) (hv_nL 296) (hv_rt 296) ∈ lw_tbl := hv_sub2 (List.mem_of_getElem? (i := 160) (show tables_1_2[160]? = some (.code ⟨"HardestVows$Whole", "lawOf", "(I)LHardestVows$Code;"⟩ prog_11_method_3_code 2 (some (.object "HardestVows$Code"))) from rfl))
theorem hv_code_297 : Jvm.Cond.code (hv_y 297) (hv_cc 297) (hv_nL 297) (hv_rt 297) ∈ lw_tbl := hv_sub4 (List.mem_of_getElem? (i := 15) (show tables_1_4[15]? = some (.code ⟨"HardestVows$Whole", "addLaw", "(LHardestVows$Code;)I"⟩ prog_11_method_4_code 2 (some .int)) from rfl))
theorem hv_code_298 : Jvm.Cond.code (hv_y 298) (hv_cc 298) (hv_nL 298) (hv_rt 298) ∈ lw_tbl := hv_sub5 (List.mem_of_getElem? (i := 101) (show tables_1_5[101]? = some (.code ⟨"HardestVows$Whole", "addSeen", "(II)V"⟩ prog_11_method_5_code 3 none) from rfl))
theorem hv_code_299 : Jvm.Cond.code (hv_y 299) (hv_cc 299) (hv_nL 299) (hv_rt 299) ∈ lw_tbl := hv_sub5 (List.mem_of_getElem? (i := 164) (show tables_1_5[164]? = some (.code ⟨"HardestVows$Whole", "copyFrom", "(LHardestVows$Whole;)V"⟩ prog_11_method_6_code 3 none) from rfl))
theorem hv_code_300 : Jvm.Cond.code (hv_y 300) (hv_cc 300) (hv_nL 300) (hv_rt 300) ∈ lw_tbl := hv_sub4 (List.mem_of_getElem? (i := 193) (show tables_1_4[193]? = some (.code ⟨"java/lang/Integer", "bitCount", "(I)I"⟩ prog_15_method_49_code 1 (some .int)) from rfl))
theorem hv_code_301 : Jvm.Cond.code (hv_y 301) (hv_cc 301) (hv_nL 301) (hv_rt 301) ∈ lw_tbl := hv_sub2 (List.mem_of_getElem? (i := 213) (show tables_1_2[213]? = some (.code ⟨"java/lang/Math", "max", "(II)I"⟩ prog_16_method_65_code 2 (some .int)) from rfl))
theorem hv_code_302 : Jvm.Cond.code (hv_y 302) (hv_cc 302) (hv_nL 302) (hv_rt 302) ∈ lw_tbl := hv_sub3 (List.mem_of_getElem? (i := 2) (show tables_1_3[2]? = some (.code ⟨"java/lang/Math", "min", "(II)I"⟩ prog_16_method_69_code 2 (some .int)) from rfl))
theorem hv_code_303 : Jvm.Cond.code (hv_y 303) (hv_cc 303) (hv_nL 303) (hv_rt 303) ∈ lw_tbl := hv_sub4 (List.mem_of_getElem? (i := 0) (show tables_1_4[0]? = some (.code ⟨"java/util/Arrays", "copyOf", "([II)[I"⟩ prog_21_method_123_code 3 (some (.array .int))) from rfl))
theorem hv_code_304 : Jvm.Cond.code (hv_y 304) (hv_cc 304) (hv_nL 304) (hv_rt 304) ∈ lw_tbl := hv_sub5 (List.mem_of_getElem? (i := 6) (show tables_1_5[6]? = some (.code ⟨"java/util/Arrays", "fill", "([II)V"⟩ prog_21_method_103_code 4 none) from rfl))
theorem hv_code {j : Nat} (h : j < 305) : Jvm.Cond.code (hv_y j) (hv_cc j) (hv_nL j) (hv_rt j) ∈ lw_tbl := by
  by_cases h0_305 : j < 152
  ·
    by_cases h0_152 : j < 76
    ·
      by_cases h0_76 : j < 38
      ·
        by_cases h0_38 : j < 19
        ·
          by_cases h0_19 : j < 9
          ·
            by_cases h0_9 : j < 4
            ·
              by_cases h0_4 : j < 2
              ·
                by_cases h0_2 : j < 1
                ·
                  have : j = 0 := by omega
                  subst this
                  exact hv_code_0
                ·
                  have : j = 1 := by omega
                  subst this
                  exact hv_code_1
              ·
                by_cases h2_4 : j < 3
                ·
                  have : j = 2 := by omega
                  subst this
                  exact hv_code_2
                ·
                  have : j = 3 := by omega
                  subst this
                  exact hv_code_3
            ·
              by_cases h4_9 : j < 6
              ·
                by_cases h4_6 : j < 5
                ·
                  have : j = 4 := by omega
                  subst this
                  exact hv_code_4
                ·
                  have : j = 5 := by omega
                  subst this
                  exact hv_code_5
              ·
                by_cases h6_9 : j < 7
                ·
                  have : j = 6 := by omega
                  subst this
                  exact hv_code_6
                ·
                  by_cases h7_9 : j < 8
                  ·
                    have : j = 7 := by omega
                    subst this
                    exact hv_code_7
                  ·
                    have : j = 8 := by omega
                    subst this
                    exact hv_code_8
          ·
            by_cases h9_19 : j < 14
            ·
              by_cases h9_14 : j < 11
              ·
                by_cases h9_11 : j < 10
                ·
                  have : j = 9 := by omega
                  subst this
                  exact hv_code_9
                ·
                  have : j = 10 := by omega
                  subst this
                  exact hv_code_10
              ·
                by_cases h11_14 : j < 12
                ·
                  have : j = 11 := by omega
                  subst this
                  exact hv_code_11
                ·
                  by_cases h12_14 : j < 13
                  ·
                    have : j = 12 := by omega
                    subst this
                    exact hv_code_12
                  ·
                    have : j = 13 := by omega
                    subst this
                    exact hv_code_13
            ·
              by_cases h14_19 : j < 16
              ·
                by_cases h14_16 : j < 15
                ·
                  have : j = 14 := by omega
                  subst this
                  exact hv_code_14
                ·
                  have : j = 15 := by omega
                  subst this
                  exact hv_code_15
              ·
                by_cases h16_19 : j < 17
                ·
                  have : j = 16 := by omega
                  subst this
                  exact hv_code_16
                ·
                  by_cases h17_19 : j < 18
                  ·
                    have : j = 17 := by omega
                    subst this
                    exact hv_code_17
                  ·
                    have : j = 18 := by omega
                    subst this
                    exact hv_code_18
        ·
          by_cases h19_38 : j < 28
          ·
            by_cases h19_28 : j < 23
            ·
              by_cases h19_23 : j < 21
              ·
                by_cases h19_21 : j < 20
                ·
                  have : j = 19 := by omega
                  subst this
                  exact hv_code_19
                ·
                  have : j = 20 := by omega
                  subst this
                  exact hv_code_20
              ·
                by_cases h21_23 : j < 22
                ·
                  have : j = 21 := by omega
                  subst this
                  exact hv_code_21
                ·
                  have : j = 22 := by omega
                  subst this
                  exact hv_code_22
            ·
              by_cases h23_28 : j < 25
              ·
                by_cases h23_25 : j < 24
                ·
                  have : j = 23 := by omega
                  subst this
                  exact hv_code_23
                ·
                  have : j = 24 := by omega
                  subst this
                  exact hv_code_24
              ·
                by_cases h25_28 : j < 26
                ·
                  have : j = 25 := by omega
                  subst this
                  exact hv_code_25
                ·
                  by_cases h26_28 : j < 27
                  ·
                    have : j = 26 := by omega
                    subst this
                    exact hv_code_26
                  ·
                    have : j = 27 := by omega
                    subst this
                    exact hv_code_27
          ·
            by_cases h28_38 : j < 33
            ·
              by_cases h28_33 : j < 30
              ·
                by_cases h28_30 : j < 29
                ·
                  have : j = 28 := by omega
                  subst this
                  exact hv_code_28
                ·
                  have : j = 29 := by omega
                  subst this
                  exact hv_code_29
              ·
                by_cases h30_33 : j < 31
                ·
                  have : j = 30 := by omega
                  subst this
                  exact hv_code_30
                ·
                  by_cases h31_33 : j < 32
                  ·
                    have : j = 31 := by omega
                    subst this
                    exact hv_code_31
                  ·
                    have : j = 32 := by omega
                    subst this
                    exact hv_code_32
            ·
              by_cases h33_38 : j < 35
              ·
                by_cases h33_35 : j < 34
                ·
                  have : j = 33 := by omega
                  subst this
                  exact hv_code_33
                ·
                  have : j = 34 := by omega
                  subst this
                  exact hv_code_34
              ·
                by_cases h35_38 : j < 36
                ·
                  have : j = 35 := by omega
                  subst this
                  exact hv_code_35
                ·
                  by_cases h36_38 : j < 37
                  ·
                    have : j = 36 := by omega
                    subst this
                    exact hv_code_36
                  ·
                    have : j = 37 := by omega
                    subst this
                    exact hv_code_37
      ·
        by_cases h38_76 : j < 57
        ·
          by_cases h38_57 : j < 47
          ·
            by_cases h38_47 : j < 42
            ·
              by_cases h38_42 : j < 40
              ·
                by_cases h38_40 : j < 39
                ·
                  have : j = 38 := by omega
                  subst this
                  exact hv_code_38
                ·
                  have : j = 39 := by omega
                  subst this
                  exact hv_code_39
              ·
                by_cases h40_42 : j < 41
                ·
                  have : j = 40 := by omega
                  subst this
                  exact hv_code_40
                ·
                  have : j = 41 := by omega
                  subst this
                  exact hv_code_41
            ·
              by_cases h42_47 : j < 44
              ·
                by_cases h42_44 : j < 43
                ·
                  have : j = 42 := by omega
                  subst this
                  exact hv_code_42
                ·
                  have : j = 43 := by omega
                  subst this
                  exact hv_code_43
              ·
                by_cases h44_47 : j < 45
                ·
                  have : j = 44 := by omega
                  subst this
                  exact hv_code_44
                ·
                  by_cases h45_47 : j < 46
                  ·
                    have : j = 45 := by omega
                    subst this
                    exact hv_code_45
                  ·
                    have : j = 46 := by omega
                    subst this
                    exact hv_code_46
          ·
            by_cases h47_57 : j < 52
            ·
              by_cases h47_52 : j < 49
              ·
                by_cases h47_49 : j < 48
                ·
                  have : j = 47 := by omega
                  subst this
                  exact hv_code_47
                ·
                  have : j = 48 := by omega
                  subst this
                  exact hv_code_48
              ·
                by_cases h49_52 : j < 50
                ·
                  have : j = 49 := by omega
                  subst this
                  exact hv_code_49
                ·
                  by_cases h50_52 : j < 51
                  ·
                    have : j = 50 := by omega
                    subst this
                    exact hv_code_50
                  ·
                    have : j = 51 := by omega
                    subst this
                    exact hv_code_51
            ·
              by_cases h52_57 : j < 54
              ·
                by_cases h52_54 : j < 53
                ·
                  have : j = 52 := by omega
                  subst this
                  exact hv_code_52
                ·
                  have : j = 53 := by omega
                  subst this
                  exact hv_code_53
              ·
                by_cases h54_57 : j < 55
                ·
                  have : j = 54 := by omega
                  subst this
                  exact hv_code_54
                ·
                  by_cases h55_57 : j < 56
                  ·
                    have : j = 55 := by omega
                    subst this
                    exact hv_code_55
                  ·
                    have : j = 56 := by omega
                    subst this
                    exact hv_code_56
        ·
          by_cases h57_76 : j < 66
          ·
            by_cases h57_66 : j < 61
            ·
              by_cases h57_61 : j < 59
              ·
                by_cases h57_59 : j < 58
                ·
                  have : j = 57 := by omega
                  subst this
                  exact hv_code_57
                ·
                  have : j = 58 := by omega
                  subst this
                  exact hv_code_58
              ·
                by_cases h59_61 : j < 60
                ·
                  have : j = 59 := by omega
                  subst this
                  exact hv_code_59
                ·
                  have : j = 60 := by omega
                  subst this
                  exact hv_code_60
            ·
              by_cases h61_66 : j < 63
              ·
                by_cases h61_63 : j < 62
                ·
                  have : j = 61 := by omega
                  subst this
                  exact hv_code_61
                ·
                  have : j = 62 := by omega
                  subst this
                  exact hv_code_62
              ·
                by_cases h63_66 : j < 64
                ·
                  have : j = 63 := by omega
                  subst this
                  exact hv_code_63
                ·
                  by_cases h64_66 : j < 65
                  ·
                    have : j = 64 := by omega
                    subst this
                    exact hv_code_64
                  ·
                    have : j = 65 := by omega
                    subst this
                    exact hv_code_65
          ·
            by_cases h66_76 : j < 71
            ·
              by_cases h66_71 : j < 68
              ·
                by_cases h66_68 : j < 67
                ·
                  have : j = 66 := by omega
                  subst this
                  exact hv_code_66
                ·
                  have : j = 67 := by omega
                  subst this
                  exact hv_code_67
              ·
                by_cases h68_71 : j < 69
                ·
                  have : j = 68 := by omega
                  subst this
                  exact hv_code_68
                ·
                  by_cases h69_71 : j < 70
                  ·
                    have : j = 69 := by omega
                    subst this
                    exact hv_code_69
                  ·
                    have : j = 70 := by omega
                    subst this
                    exact hv_code_70
            ·
              by_cases h71_76 : j < 73
              ·
                by_cases h71_73 : j < 72
                ·
                  have : j = 71 := by omega
                  subst this
                  exact hv_code_71
                ·
                  have : j = 72 := by omega
                  subst this
                  exact hv_code_72
              ·
                by_cases h73_76 : j < 74
                ·
                  have : j = 73 := by omega
                  subst this
                  exact hv_code_73
                ·
                  by_cases h74_76 : j < 75
                  ·
                    have : j = 74 := by omega
                    subst this
                    exact hv_code_74
                  ·
                    have : j = 75 := by omega
                    subst this
                    exact hv_code_75
    ·
      by_cases h76_152 : j < 114
      ·
        by_cases h76_114 : j < 95
        ·
          by_cases h76_95 : j < 85
          ·
            by_cases h76_85 : j < 80
            ·
              by_cases h76_80 : j < 78
              ·
                by_cases h76_78 : j < 77
                ·
                  have : j = 76 := by omega
                  subst this
                  exact hv_code_76
                ·
                  have : j = 77 := by omega
                  subst this
                  exact hv_code_77
              ·
                by_cases h78_80 : j < 79
                ·
                  have : j = 78 := by omega
                  subst this
                  exact hv_code_78
                ·
                  have : j = 79 := by omega
                  subst this
                  exact hv_code_79
            ·
              by_cases h80_85 : j < 82
              ·
                by_cases h80_82 : j < 81
                ·
                  have : j = 80 := by omega
                  subst this
                  exact hv_code_80
                ·
                  have : j = 81 := by omega
                  subst this
                  exact hv_code_81
              ·
                by_cases h82_85 : j < 83
                ·
                  have : j = 82 := by omega
                  subst this
                  exact hv_code_82
                ·
                  by_cases h83_85 : j < 84
                  ·
                    have : j = 83 := by omega
                    subst this
                    exact hv_code_83
                  ·
                    have : j = 84 := by omega
                    subst this
                    exact hv_code_84
          ·
            by_cases h85_95 : j < 90
            ·
              by_cases h85_90 : j < 87
              ·
                by_cases h85_87 : j < 86
                ·
                  have : j = 85 := by omega
                  subst this
                  exact hv_code_85
                ·
                  have : j = 86 := by omega
                  subst this
                  exact hv_code_86
              ·
                by_cases h87_90 : j < 88
                ·
                  have : j = 87 := by omega
                  subst this
                  exact hv_code_87
                ·
                  by_cases h88_90 : j < 89
                  ·
                    have : j = 88 := by omega
                    subst this
                    exact hv_code_88
                  ·
                    have : j = 89 := by omega
                    subst this
                    exact hv_code_89
            ·
              by_cases h90_95 : j < 92
              ·
                by_cases h90_92 : j < 91
                ·
                  have : j = 90 := by omega
                  subst this
                  exact hv_code_90
                ·
                  have : j = 91 := by omega
                  subst this
                  exact hv_code_91
              ·
                by_cases h92_95 : j < 93
                ·
                  have : j = 92 := by omega
                  subst this
                  exact hv_code_92
                ·
                  by_cases h93_95 : j < 94
                  ·
                    have : j = 93 := by omega
                    subst this
                    exact hv_code_93
                  ·
                    have : j = 94 := by omega
                    subst this
                    exact hv_code_94
        ·
          by_cases h95_114 : j < 104
          ·
            by_cases h95_104 : j < 99
            ·
              by_cases h95_99 : j < 97
              ·
                by_cases h95_97 : j < 96
                ·
                  have : j = 95 := by omega
                  subst this
                  exact hv_code_95
                ·
                  have : j = 96 := by omega
                  subst this
                  exact hv_code_96
              ·
                by_cases h97_99 : j < 98
                ·
                  have : j = 97 := by omega
                  subst this
                  exact hv_code_97
                ·
                  have : j = 98 := by omega
                  subst this
                  exact hv_code_98
            ·
              by_cases h99_104 : j < 101
              ·
                by_cases h99_101 : j < 100
                ·
                  have : j = 99 := by omega
                  subst this
                  exact hv_code_99
                ·
                  have : j = 100 := by omega
                  subst this
                  exact hv_code_100
              ·
                by_cases h101_104 : j < 102
                ·
                  have : j = 101 := by omega
                  subst this
                  exact hv_code_101
                ·
                  by_cases h102_104 : j < 103
                  ·
                    have : j = 102 := by omega
                    subst this
                    exact hv_code_102
                  ·
                    have : j = 103 := by omega
                    subst this
                    exact hv_code_103
          ·
            by_cases h104_114 : j < 109
            ·
              by_cases h104_109 : j < 106
              ·
                by_cases h104_106 : j < 105
                ·
                  have : j = 104 := by omega
                  subst this
                  exact hv_code_104
                ·
                  have : j = 105 := by omega
                  subst this
                  exact hv_code_105
              ·
                by_cases h106_109 : j < 107
                ·
                  have : j = 106 := by omega
                  subst this
                  exact hv_code_106
                ·
                  by_cases h107_109 : j < 108
                  ·
                    have : j = 107 := by omega
                    subst this
                    exact hv_code_107
                  ·
                    have : j = 108 := by omega
                    subst this
                    exact hv_code_108
            ·
              by_cases h109_114 : j < 111
              ·
                by_cases h109_111 : j < 110
                ·
                  have : j = 109 := by omega
                  subst this
                  exact hv_code_109
                ·
                  have : j = 110 := by omega
                  subst this
                  exact hv_code_110
              ·
                by_cases h111_114 : j < 112
                ·
                  have : j = 111 := by omega
                  subst this
                  exact hv_code_111
                ·
                  by_cases h112_114 : j < 113
                  ·
                    have : j = 112 := by omega
                    subst this
                    exact hv_code_112
                  ·
                    have : j = 113 := by omega
                    subst this
                    exact hv_code_113
      ·
        by_cases h114_152 : j < 133
        ·
          by_cases h114_133 : j < 123
          ·
            by_cases h114_123 : j < 118
            ·
              by_cases h114_118 : j < 116
              ·
                by_cases h114_116 : j < 115
                ·
                  have : j = 114 := by omega
                  subst this
                  exact hv_code_114
                ·
                  have : j = 115 := by omega
                  subst this
                  exact hv_code_115
              ·
                by_cases h116_118 : j < 117
                ·
                  have : j = 116 := by omega
                  subst this
                  exact hv_code_116
                ·
                  have : j = 117 := by omega
                  subst this
                  exact hv_code_117
            ·
              by_cases h118_123 : j < 120
              ·
                by_cases h118_120 : j < 119
                ·
                  have : j = 118 := by omega
                  subst this
                  exact hv_code_118
                ·
                  have : j = 119 := by omega
                  subst this
                  exact hv_code_119
              ·
                by_cases h120_123 : j < 121
                ·
                  have : j = 120 := by omega
                  subst this
                  exact hv_code_120
                ·
                  by_cases h121_123 : j < 122
                  ·
                    have : j = 121 := by omega
                    subst this
                    exact hv_code_121
                  ·
                    have : j = 122 := by omega
                    subst this
                    exact hv_code_122
          ·
            by_cases h123_133 : j < 128
            ·
              by_cases h123_128 : j < 125
              ·
                by_cases h123_125 : j < 124
                ·
                  have : j = 123 := by omega
                  subst this
                  exact hv_code_123
                ·
                  have : j = 124 := by omega
                  subst this
                  exact hv_code_124
              ·
                by_cases h125_128 : j < 126
                ·
                  have : j = 125 := by omega
                  subst this
                  exact hv_code_125
                ·
                  by_cases h126_128 : j < 127
                  ·
                    have : j = 126 := by omega
                    subst this
                    exact hv_code_126
                  ·
                    have : j = 127 := by omega
                    subst this
                    exact hv_code_127
            ·
              by_cases h128_133 : j < 130
              ·
                by_cases h128_130 : j < 129
                ·
                  have : j = 128 := by omega
                  subst this
                  exact hv_code_128
                ·
                  have : j = 129 := by omega
                  subst this
                  exact hv_code_129
              ·
                by_cases h130_133 : j < 131
                ·
                  have : j = 130 := by omega
                  subst this
                  exact hv_code_130
                ·
                  by_cases h131_133 : j < 132
                  ·
                    have : j = 131 := by omega
                    subst this
                    exact hv_code_131
                  ·
                    have : j = 132 := by omega
                    subst this
                    exact hv_code_132
        ·
          by_cases h133_152 : j < 142
          ·
            by_cases h133_142 : j < 137
            ·
              by_cases h133_137 : j < 135
              ·
                by_cases h133_135 : j < 134
                ·
                  have : j = 133 := by omega
                  subst this
                  exact hv_code_133
                ·
                  have : j = 134 := by omega
                  subst this
                  exact hv_code_134
              ·
                by_cases h135_137 : j < 136
                ·
                  have : j = 135 := by omega
                  subst this
                  exact hv_code_135
                ·
                  have : j = 136 := by omega
                  subst this
                  exact hv_code_136
            ·
              by_cases h137_142 : j < 139
              ·
                by_cases h137_139 : j < 138
                ·
                  have : j = 137 := by omega
                  subst this
                  exact hv_code_137
                ·
                  have : j = 138 := by omega
                  subst this
                  exact hv_code_138
              ·
                by_cases h139_142 : j < 140
                ·
                  have : j = 139 := by omega
                  subst this
                  exact hv_code_139
                ·
                  by_cases h140_142 : j < 141
                  ·
                    have : j = 140 := by omega
                    subst this
                    exact hv_code_140
                  ·
                    have : j = 141 := by omega
                    subst this
                    exact hv_code_141
          ·
            by_cases h142_152 : j < 147
            ·
              by_cases h142_147 : j < 144
              ·
                by_cases h142_144 : j < 143
                ·
                  have : j = 142 := by omega
                  subst this
                  exact hv_code_142
                ·
                  have : j = 143 := by omega
                  subst this
                  exact hv_code_143
              ·
                by_cases h144_147 : j < 145
                ·
                  have : j = 144 := by omega
                  subst this
                  exact hv_code_144
                ·
                  by_cases h145_147 : j < 146
                  ·
                    have : j = 145 := by omega
                    subst this
                    exact hv_code_145
                  ·
                    have : j = 146 := by omega
                    subst this
                    exact hv_code_146
            ·
              by_cases h147_152 : j < 149
              ·
                by_cases h147_149 : j < 148
                ·
                  have : j = 147 := by omega
                  subst this
                  exact hv_code_147
                ·
                  have : j = 148 := by omega
                  subst this
                  exact hv_code_148
              ·
                by_cases h149_152 : j < 150
                ·
                  have : j = 149 := by omega
                  subst this
                  exact hv_code_149
                ·
                  by_cases h150_152 : j < 151
                  ·
                    have : j = 150 := by omega
                    subst this
                    exact hv_code_150
                  ·
                    have : j = 151 := by omega
                    subst this
                    exact hv_code_151
  ·
    by_cases h152_305 : j < 228
    ·
      by_cases h152_228 : j < 190
      ·
        by_cases h152_190 : j < 171
        ·
          by_cases h152_171 : j < 161
          ·
            by_cases h152_161 : j < 156
            ·
              by_cases h152_156 : j < 154
              ·
                by_cases h152_154 : j < 153
                ·
                  have : j = 152 := by omega
                  subst this
                  exact hv_code_152
                ·
                  have : j = 153 := by omega
                  subst this
                  exact hv_code_153
              ·
                by_cases h154_156 : j < 155
                ·
                  have : j = 154 := by omega
                  subst this
                  exact hv_code_154
                ·
                  have : j = 155 := by omega
                  subst this
                  exact hv_code_155
            ·
              by_cases h156_161 : j < 158
              ·
                by_cases h156_158 : j < 157
                ·
                  have : j = 156 := by omega
                  subst this
                  exact hv_code_156
                ·
                  have : j = 157 := by omega
                  subst this
                  exact hv_code_157
              ·
                by_cases h158_161 : j < 159
                ·
                  have : j = 158 := by omega
                  subst this
                  exact hv_code_158
                ·
                  by_cases h159_161 : j < 160
                  ·
                    have : j = 159 := by omega
                    subst this
                    exact hv_code_159
                  ·
                    have : j = 160 := by omega
                    subst this
                    exact hv_code_160
          ·
            by_cases h161_171 : j < 166
            ·
              by_cases h161_166 : j < 163
              ·
                by_cases h161_163 : j < 162
                ·
                  have : j = 161 := by omega
                  subst this
                  exact hv_code_161
                ·
                  have : j = 162 := by omega
                  subst this
                  exact hv_code_162
              ·
                by_cases h163_166 : j < 164
                ·
                  have : j = 163 := by omega
                  subst this
                  exact hv_code_163
                ·
                  by_cases h164_166 : j < 165
                  ·
                    have : j = 164 := by omega
                    subst this
                    exact hv_code_164
                  ·
                    have : j = 165 := by omega
                    subst this
                    exact hv_code_165
            ·
              by_cases h166_171 : j < 168
              ·
                by_cases h166_168 : j < 167
                ·
                  have : j = 166 := by omega
                  subst this
                  exact hv_code_166
                ·
                  have : j = 167 := by omega
                  subst this
                  exact hv_code_167
              ·
                by_cases h168_171 : j < 169
                ·
                  have : j = 168 := by omega
                  subst this
                  exact hv_code_168
                ·
                  by_cases h169_171 : j < 170
                  ·
                    have : j = 169 := by omega
                    subst this
                    exact hv_code_169
                  ·
                    have : j = 170 := by omega
                    subst this
                    exact hv_code_170
        ·
          by_cases h171_190 : j < 180
          ·
            by_cases h171_180 : j < 175
            ·
              by_cases h171_175 : j < 173
              ·
                by_cases h171_173 : j < 172
                ·
                  have : j = 171 := by omega
                  subst this
                  exact hv_code_171
                ·
                  have : j = 172 := by omega
                  subst this
                  exact hv_code_172
              ·
                by_cases h173_175 : j < 174
                ·
                  have : j = 173 := by omega
                  subst this
                  exact hv_code_173
                ·
                  have : j = 174 := by omega
                  subst this
                  exact hv_code_174
            ·
              by_cases h175_180 : j < 177
              ·
                by_cases h175_177 : j < 176
                ·
                  have : j = 175 := by omega
                  subst this
                  exact hv_code_175
                ·
                  have : j = 176 := by omega
                  subst this
                  exact hv_code_176
              ·
                by_cases h177_180 : j < 178
                ·
                  have : j = 177 := by omega
                  subst this
                  exact hv_code_177
                ·
                  by_cases h178_180 : j < 179
                  ·
                    have : j = 178 := by omega
                    subst this
                    exact hv_code_178
                  ·
                    have : j = 179 := by omega
                    subst this
                    exact hv_code_179
          ·
            by_cases h180_190 : j < 185
            ·
              by_cases h180_185 : j < 182
              ·
                by_cases h180_182 : j < 181
                ·
                  have : j = 180 := by omega
                  subst this
                  exact hv_code_180
                ·
                  have : j = 181 := by omega
                  subst this
                  exact hv_code_181
              ·
                by_cases h182_185 : j < 183
                ·
                  have : j = 182 := by omega
                  subst this
                  exact hv_code_182
                ·
                  by_cases h183_185 : j < 184
                  ·
                    have : j = 183 := by omega
                    subst this
                    exact hv_code_183
                  ·
                    have : j = 184 := by omega
                    subst this
                    exact hv_code_184
            ·
              by_cases h185_190 : j < 187
              ·
                by_cases h185_187 : j < 186
                ·
                  have : j = 185 := by omega
                  subst this
                  exact hv_code_185
                ·
                  have : j = 186 := by omega
                  subst this
                  exact hv_code_186
              ·
                by_cases h187_190 : j < 188
                ·
                  have : j = 187 := by omega
                  subst this
                  exact hv_code_187
                ·
                  by_cases h188_190 : j < 189
                  ·
                    have : j = 188 := by omega
                    subst this
                    exact hv_code_188
                  ·
                    have : j = 189 := by omega
                    subst this
                    exact hv_code_189
      ·
        by_cases h190_228 : j < 209
        ·
          by_cases h190_209 : j < 199
          ·
            by_cases h190_199 : j < 194
            ·
              by_cases h190_194 : j < 192
              ·
                by_cases h190_192 : j < 191
                ·
                  have : j = 190 := by omega
                  subst this
                  exact hv_code_190
                ·
                  have : j = 191 := by omega
                  subst this
                  exact hv_code_191
              ·
                by_cases h192_194 : j < 193
                ·
                  have : j = 192 := by omega
                  subst this
                  exact hv_code_192
                ·
                  have : j = 193 := by omega
                  subst this
                  exact hv_code_193
            ·
              by_cases h194_199 : j < 196
              ·
                by_cases h194_196 : j < 195
                ·
                  have : j = 194 := by omega
                  subst this
                  exact hv_code_194
                ·
                  have : j = 195 := by omega
                  subst this
                  exact hv_code_195
              ·
                by_cases h196_199 : j < 197
                ·
                  have : j = 196 := by omega
                  subst this
                  exact hv_code_196
                ·
                  by_cases h197_199 : j < 198
                  ·
                    have : j = 197 := by omega
                    subst this
                    exact hv_code_197
                  ·
                    have : j = 198 := by omega
                    subst this
                    exact hv_code_198
          ·
            by_cases h199_209 : j < 204
            ·
              by_cases h199_204 : j < 201
              ·
                by_cases h199_201 : j < 200
                ·
                  have : j = 199 := by omega
                  subst this
                  exact hv_code_199
                ·
                  have : j = 200 := by omega
                  subst this
                  exact hv_code_200
              ·
                by_cases h201_204 : j < 202
                ·
                  have : j = 201 := by omega
                  subst this
                  exact hv_code_201
                ·
                  by_cases h202_204 : j < 203
                  ·
                    have : j = 202 := by omega
                    subst this
                    exact hv_code_202
                  ·
                    have : j = 203 := by omega
                    subst this
                    exact hv_code_203
            ·
              by_cases h204_209 : j < 206
              ·
                by_cases h204_206 : j < 205
                ·
                  have : j = 204 := by omega
                  subst this
                  exact hv_code_204
                ·
                  have : j = 205 := by omega
                  subst this
                  exact hv_code_205
              ·
                by_cases h206_209 : j < 207
                ·
                  have : j = 206 := by omega
                  subst this
                  exact hv_code_206
                ·
                  by_cases h207_209 : j < 208
                  ·
                    have : j = 207 := by omega
                    subst this
                    exact hv_code_207
                  ·
                    have : j = 208 := by omega
                    subst this
                    exact hv_code_208
        ·
          by_cases h209_228 : j < 218
          ·
            by_cases h209_218 : j < 213
            ·
              by_cases h209_213 : j < 211
              ·
                by_cases h209_211 : j < 210
                ·
                  have : j = 209 := by omega
                  subst this
                  exact hv_code_209
                ·
                  have : j = 210 := by omega
                  subst this
                  exact hv_code_210
              ·
                by_cases h211_213 : j < 212
                ·
                  have : j = 211 := by omega
                  subst this
                  exact hv_code_211
                ·
                  have : j = 212 := by omega
                  subst this
                  exact hv_code_212
            ·
              by_cases h213_218 : j < 215
              ·
                by_cases h213_215 : j < 214
                ·
                  have : j = 213 := by omega
                  subst this
                  exact hv_code_213
                ·
                  have : j = 214 := by omega
                  subst this
                  exact hv_code_214
              ·
                by_cases h215_218 : j < 216
                ·
                  have : j = 215 := by omega
                  subst this
                  exact hv_code_215
                ·
                  by_cases h216_218 : j < 217
                  ·
                    have : j = 216 := by omega
                    subst this
                    exact hv_code_216
                  ·
                    have : j = 217 := by omega
                    subst this
                    exact hv_code_217
          ·
            by_cases h218_228 : j < 223
            ·
              by_cases h218_223 : j < 220
              ·
                by_cases h218_220 : j < 219
                ·
                  have : j = 218 := by omega
                  subst this
                  exact hv_code_218
                ·
                  have : j = 219 := by omega
                  subst this
                  exact hv_code_219
              ·
                by_cases h220_223 : j < 221
                ·
                  have : j = 220 := by omega
                  subst this
                  exact hv_code_220
                ·
                  by_cases h221_223 : j < 222
                  ·
                    have : j = 221 := by omega
                    subst this
                    exact hv_code_221
                  ·
                    have : j = 222 := by omega
                    subst this
                    exact hv_code_222
            ·
              by_cases h223_228 : j < 225
              ·
                by_cases h223_225 : j < 224
                ·
                  have : j = 223 := by omega
                  subst this
                  exact hv_code_223
                ·
                  have : j = 224 := by omega
                  subst this
                  exact hv_code_224
              ·
                by_cases h225_228 : j < 226
                ·
                  have : j = 225 := by omega
                  subst this
                  exact hv_code_225
                ·
                  by_cases h226_228 : j < 227
                  ·
                    have : j = 226 := by omega
                    subst this
                    exact hv_code_226
                  ·
                    have : j = 227 := by omega
                    subst this
                    exact hv_code_227
    ·
      by_cases h228_305 : j < 266
      ·
        by_cases h228_266 : j < 247
        ·
          by_cases h228_247 : j < 237
          ·
            by_cases h228_237 : j < 232
            ·
              by_cases h228_232 : j < 230
              ·
                by_cases h228_230 : j < 229
                ·
                  have : j = 228 := by omega
                  subst this
                  exact hv_code_228
                ·
                  have : j = 229 := by omega
                  subst this
                  exact hv_code_229
              ·
                by_cases h230_232 : j < 231
                ·
                  have : j = 230 := by omega
                  subst this
                  exact hv_code_230
                ·
                  have : j = 231 := by omega
                  subst this
                  exact hv_code_231
            ·
              by_cases h232_237 : j < 234
              ·
                by_cases h232_234 : j < 233
                ·
                  have : j = 232 := by omega
                  subst this
                  exact hv_code_232
                ·
                  have : j = 233 := by omega
                  subst this
                  exact hv_code_233
              ·
                by_cases h234_237 : j < 235
                ·
                  have : j = 234 := by omega
                  subst this
                  exact hv_code_234
                ·
                  by_cases h235_237 : j < 236
                  ·
                    have : j = 235 := by omega
                    subst this
                    exact hv_code_235
                  ·
                    have : j = 236 := by omega
                    subst this
                    exact hv_code_236
          ·
            by_cases h237_247 : j < 242
            ·
              by_cases h237_242 : j < 239
              ·
                by_cases h237_239 : j < 238
                ·
                  have : j = 237 := by omega
                  subst this
                  exact hv_code_237
                ·
                  have : j = 238 := by omega
                  subst this
                  exact hv_code_238
              ·
                by_cases h239_242 : j < 240
                ·
                  have : j = 239 := by omega
                  subst this
                  exact hv_code_239
                ·
                  by_cases h240_242 : j < 241
                  ·
                    have : j = 240 := by omega
                    subst this
                    exact hv_code_240
                  ·
                    have : j = 241 := by omega
                    subst this
                    exact hv_code_241
            ·
              by_cases h242_247 : j < 244
              ·
                by_cases h242_244 : j < 243
                ·
                  have : j = 242 := by omega
                  subst this
                  exact hv_code_242
                ·
                  have : j = 243 := by omega
                  subst this
                  exact hv_code_243
              ·
                by_cases h244_247 : j < 245
                ·
                  have : j = 244 := by omega
                  subst this
                  exact hv_code_244
                ·
                  by_cases h245_247 : j < 246
                  ·
                    have : j = 245 := by omega
                    subst this
                    exact hv_code_245
                  ·
                    have : j = 246 := by omega
                    subst this
                    exact hv_code_246
        ·
          by_cases h247_266 : j < 256
          ·
            by_cases h247_256 : j < 251
            ·
              by_cases h247_251 : j < 249
              ·
                by_cases h247_249 : j < 248
                ·
                  have : j = 247 := by omega
                  subst this
                  exact hv_code_247
                ·
                  have : j = 248 := by omega
                  subst this
                  exact hv_code_248
              ·
                by_cases h249_251 : j < 250
                ·
                  have : j = 249 := by omega
                  subst this
                  exact hv_code_249
                ·
                  have : j = 250 := by omega
                  subst this
                  exact hv_code_250
            ·
              by_cases h251_256 : j < 253
              ·
                by_cases h251_253 : j < 252
                ·
                  have : j = 251 := by omega
                  subst this
                  exact hv_code_251
                ·
                  have : j = 252 := by omega
                  subst this
                  exact hv_code_252
              ·
                by_cases h253_256 : j < 254
                ·
                  have : j = 253 := by omega
                  subst this
                  exact hv_code_253
                ·
                  by_cases h254_256 : j < 255
                  ·
                    have : j = 254 := by omega
                    subst this
                    exact hv_code_254
                  ·
                    have : j = 255 := by omega
                    subst this
                    exact hv_code_255
          ·
            by_cases h256_266 : j < 261
            ·
              by_cases h256_261 : j < 258
              ·
                by_cases h256_258 : j < 257
                ·
                  have : j = 256 := by omega
                  subst this
                  exact hv_code_256
                ·
                  have : j = 257 := by omega
                  subst this
                  exact hv_code_257
              ·
                by_cases h258_261 : j < 259
                ·
                  have : j = 258 := by omega
                  subst this
                  exact hv_code_258
                ·
                  by_cases h259_261 : j < 260
                  ·
                    have : j = 259 := by omega
                    subst this
                    exact hv_code_259
                  ·
                    have : j = 260 := by omega
                    subst this
                    exact hv_code_260
            ·
              by_cases h261_266 : j < 263
              ·
                by_cases h261_263 : j < 262
                ·
                  have : j = 261 := by omega
                  subst this
                  exact hv_code_261
                ·
                  have : j = 262 := by omega
                  subst this
                  exact hv_code_262
              ·
                by_cases h263_266 : j < 264
                ·
                  have : j = 263 := by omega
                  subst this
                  exact hv_code_263
                ·
                  by_cases h264_266 : j < 265
                  ·
                    have : j = 264 := by omega
                    subst this
                    exact hv_code_264
                  ·
                    have : j = 265 := by omega
                    subst this
                    exact hv_code_265
      ·
        by_cases h266_305 : j < 285
        ·
          by_cases h266_285 : j < 275
          ·
            by_cases h266_275 : j < 270
            ·
              by_cases h266_270 : j < 268
              ·
                by_cases h266_268 : j < 267
                ·
                  have : j = 266 := by omega
                  subst this
                  exact hv_code_266
                ·
                  have : j = 267 := by omega
                  subst this
                  exact hv_code_267
              ·
                by_cases h268_270 : j < 269
                ·
                  have : j = 268 := by omega
                  subst this
                  exact hv_code_268
                ·
                  have : j = 269 := by omega
                  subst this
                  exact hv_code_269
            ·
              by_cases h270_275 : j < 272
              ·
                by_cases h270_272 : j < 271
                ·
                  have : j = 270 := by omega
                  subst this
                  exact hv_code_270
                ·
                  have : j = 271 := by omega
                  subst this
                  exact hv_code_271
              ·
                by_cases h272_275 : j < 273
                ·
                  have : j = 272 := by omega
                  subst this
                  exact hv_code_272
                ·
                  by_cases h273_275 : j < 274
                  ·
                    have : j = 273 := by omega
                    subst this
                    exact hv_code_273
                  ·
                    have : j = 274 := by omega
                    subst this
                    exact hv_code_274
          ·
            by_cases h275_285 : j < 280
            ·
              by_cases h275_280 : j < 277
              ·
                by_cases h275_277 : j < 276
                ·
                  have : j = 275 := by omega
                  subst this
                  exact hv_code_275
                ·
                  have : j = 276 := by omega
                  subst this
                  exact hv_code_276
              ·
                by_cases h277_280 : j < 278
                ·
                  have : j = 277 := by omega
                  subst this
                  exact hv_code_277
                ·
                  by_cases h278_280 : j < 279
                  ·
                    have : j = 278 := by omega
                    subst this
                    exact hv_code_278
                  ·
                    have : j = 279 := by omega
                    subst this
                    exact hv_code_279
            ·
              by_cases h280_285 : j < 282
              ·
                by_cases h280_282 : j < 281
                ·
                  have : j = 280 := by omega
                  subst this
                  exact hv_code_280
                ·
                  have : j = 281 := by omega
                  subst this
                  exact hv_code_281
              ·
                by_cases h282_285 : j < 283
                ·
                  have : j = 282 := by omega
                  subst this
                  exact hv_code_282
                ·
                  by_cases h283_285 : j < 284
                  ·
                    have : j = 283 := by omega
                    subst this
                    exact hv_code_283
                  ·
                    have : j = 284 := by omega
                    subst this
                    exact hv_code_284
        ·
          by_cases h285_305 : j < 295
          ·
            by_cases h285_295 : j < 290
            ·
              by_cases h285_290 : j < 287
              ·
                by_cases h285_287 : j < 286
                ·
                  have : j = 285 := by omega
                  subst this
                  exact hv_code_285
                ·
                  have : j = 286 := by omega
                  subst this
                  exact hv_code_286
              ·
                by_cases h287_290 : j < 288
                ·
                  have : j = 287 := by omega
                  subst this
                  exact hv_code_287
                ·
                  by_cases h288_290 : j < 289
                  ·
                    have : j = 288 := by omega
                    subst this
                    exact hv_code_288
                  ·
                    have : j = 289 := by omega
                    subst this
                    exact hv_code_289
            ·
              by_cases h290_295 : j < 292
              ·
                by_cases h290_292 : j < 291
                ·
                  have : j = 290 := by omega
                  subst this
                  exact hv_code_290
                ·
                  have : j = 291 := by omega
                  subst this
                  exact hv_code_291
              ·
                by_cases h292_295 : j < 293
                ·
                  have : j = 292 := by omega
                  subst this
                  exact hv_code_292
                ·
                  by_cases h293_295 : j < 294
                  ·
                    have : j = 293 := by omega
                    subst this
                    exact hv_code_293
                  ·
                    have : j = 294 := by omega
                    subst this
                    exact hv_code_294
          ·
            by_cases h295_305 : j < 300
            ·
              by_cases h295_300 : j < 297
              ·
                by_cases h295_297 : j < 296
                ·
                  have : j = 295 := by omega
                  subst this
                  exact hv_code_295
                ·
                  have : j = 296 := by omega
                  subst this
                  exact hv_code_296
              ·
                by_cases h297_300 : j < 298
                ·
                  have : j = 297 := by omega
                  subst this
                  exact hv_code_297
                ·
                  by_cases h298_300 : j < 299
                  ·
                    have : j = 298 := by omega
                    subst this
                    exact hv_code_298
                  ·
                    have : j = 299 := by omega
                    subst this
                    exact hv_code_299
            ·
              by_cases h300_305 : j < 302
              ·
                by_cases h300_302 : j < 301
                ·
                  have : j = 300 := by omega
                  subst this
                  exact hv_code_300
                ·
                  have : j = 301 := by omega
                  subst this
                  exact hv_code_301
              ·
                by_cases h302_305 : j < 303
                ·
                  have : j = 302 := by omega
                  subst this
                  exact hv_code_302
                ·
                  by_cases h303_305 : j < 304
                  ·
                    have : j = 303 := by omega
                    subst this
                    exact hv_code_303
                  ·
                    have : j = 304 := by omega
                    subst this
                    exact hv_code_304
