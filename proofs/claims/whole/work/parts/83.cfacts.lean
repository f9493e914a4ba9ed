/-! FACTS OF THE CONSTRUCTORS -/
theorem ok_F_init : mCodeOk 0 0 := ⟨List.mem_of_getElem? (i := 129) (by decide +kernel), (List.mem_of_getElem? (i := 70) (by decide +kernel)), by decide +kernel, ⟨by decide +kernel, by decide +kernel⟩, by decide +kernel, by decide +kernel⟩
theorem hn_F_init : (mY 0).name = "<init>" := by decide +kernel
theorem hp_F_init : plainName (mY 0).cls = true := by decide +kernel
theorem hi_F_init : Cond.instanceMethod (mY 0) ∈ lw_tbl := (List.mem_of_getElem? (i := 128) (by decide +kernel))
theorem ok_T_init : mCodeOk 52 0 := ⟨List.mem_of_getElem? (i := 100) (by decide +kernel), (List.mem_of_getElem? (i := 69) (by decide +kernel)), by decide +kernel, ⟨by decide +kernel, by decide +kernel⟩, by decide +kernel, by decide +kernel⟩
theorem hn_T_init : (mY 52).name = "<init>" := by decide +kernel
theorem hp_T_init : plainName (mY 52).cls = true := by decide +kernel
theorem hi_T_init : Cond.instanceMethod (mY 52) ∈ lw_tbl := (List.mem_of_getElem? (i := 99) (by decide +kernel))
theorem ok_O_init : mCodeOk 28 0 := ⟨List.mem_of_getElem? (i := 180) (by decide +kernel), (List.mem_of_getElem? (i := 72) (by decide +kernel)), by decide +kernel, ⟨by decide +kernel, by decide +kernel⟩, by decide +kernel, by decide +kernel⟩
theorem hn_O_init : (mY 28).name = "<init>" := by decide +kernel
theorem hp_O_init : plainName (mY 28).cls = true := by decide +kernel
theorem hi_O_init : Cond.instanceMethod (mY 28) ∈ lw_tbl := (List.mem_of_getElem? (i := 179) (by decide +kernel))
theorem ok_M_init : mCodeOk 112 0 := ⟨List.mem_of_getElem? (i := 903) (by decide +kernel), (List.mem_of_getElem? (i := 73) (by decide +kernel)), by decide +kernel, ⟨by decide +kernel, by decide +kernel⟩, by decide +kernel, by decide +kernel⟩
theorem hn_M_init : (mY 112).name = "<init>" := by decide +kernel
theorem hp_M_init : plainName (mY 112).cls = true := by decide +kernel
theorem hi_M_init : Cond.instanceMethod (mY 112) ∈ lw_tbl := (List.mem_of_getElem? (i := 902) (by decide +kernel))
theorem ok_S_init : mCodeOk 45 0 := ⟨List.mem_of_getElem? (i := 94) (by decide +kernel), (List.mem_of_getElem? (i := 68) (by decide +kernel)), by decide +kernel, ⟨by decide +kernel, by decide +kernel⟩, by decide +kernel, by decide +kernel⟩
theorem hn_S_init : (mY 45).name = "<init>" := by decide +kernel
theorem hp_S_init : plainName (mY 45).cls = true := by decide +kernel
theorem hi_S_init : Cond.instanceMethod (mY 45) ∈ lw_tbl := (List.mem_of_getElem? (i := 93) (by decide +kernel))
theorem ok_H_init : mCodeOk 25 0 := ⟨List.mem_of_getElem? (i := 160) (by decide +kernel), (List.mem_of_getElem? (i := 71) (by decide +kernel)), by decide +kernel, ⟨by decide +kernel, by decide +kernel⟩, by decide +kernel, by decide +kernel⟩
theorem hn_H_init : (mY 25).name = "<init>" := by decide +kernel
theorem hp_H_init : plainName (mY 25).cls = true := by decide +kernel
theorem hi_H_init : Cond.instanceMethod (mY 25) ∈ lw_tbl := (List.mem_of_getElem? (i := 159) (by decide +kernel))
theorem ok_A_init : mCodeOk 66 0 := ⟨List.mem_of_getElem? (i := 86) (by decide +kernel), (List.mem_of_getElem? (i := 67) (by decide +kernel)), by decide +kernel, ⟨by decide +kernel, by decide +kernel⟩, by decide +kernel, by decide +kernel⟩
theorem hn_A_init : (mY 66).name = "<init>" := by decide +kernel
theorem hp_A_init : plainName (mY 66).cls = true := by decide +kernel
theorem hi_A_init : Cond.instanceMethod (mY 66) ∈ lw_tbl := (List.mem_of_getElem? (i := 85) (by decide +kernel))
theorem oi_in : Cond.instanceMethod Lib.objectInit ∈ lw_tbl := (List.mem_of_getElem? (i := 88) (by decide +kernel))
theorem oi_co : Cond.code Lib.objectInit ⟨#[0xb1]⟩ 1 none ∈ lw_tbl := List.mem_of_getElem? (i := 89) (by decide +kernel)
theorem oi_F_init : Cond.methodLink "AcreOffice$Field" 3 Lib.objectInit ∈ lw_tbl := (List.mem_of_getElem? (i := 130) (by decide +kernel))
theorem fl_F_9 : Cond.fieldLink "AcreOffice$Field" 9 ([RX0, RX1, RX2, RX3, RX4, RX5, RX6].getD 0 "") (([TX0, TX1, TX2, TX3, TX4, TX5, TX6].getD 0 mTE) 0).2.1 (([TX0, TX1, TX2, TX3, TX4, TX5, TX6].getD 0 mTE) 0).2.2.1 ∈ lw_tbl := (List.mem_of_getElem? (i := 131) (by decide +kernel))
theorem fl_F_15 : Cond.fieldLink "AcreOffice$Field" 15 ([RX0, RX1, RX2, RX3, RX4, RX5, RX6].getD 0 "") (([TX0, TX1, TX2, TX3, TX4, TX5, TX6].getD 0 mTE) 1).2.1 (([TX0, TX1, TX2, TX3, TX4, TX5, TX6].getD 0 mTE) 1).2.2.1 ∈ lw_tbl := (List.mem_of_getElem? (i := 132) (by decide +kernel))
theorem oi_T_init : Cond.methodLink "AcreOffice$Traverse" 3 Lib.objectInit ∈ lw_tbl := (List.mem_of_getElem? (i := 101) (by decide +kernel))
theorem fl_T_9 : Cond.fieldLink "AcreOffice$Traverse" 9 ([RX0, RX1, RX2, RX3, RX4, RX5, RX6].getD 4 "") (([TX0, TX1, TX2, TX3, TX4, TX5, TX6].getD 4 mTE) 0).2.1 (([TX0, TX1, TX2, TX3, TX4, TX5, TX6].getD 4 mTE) 0).2.2.1 ∈ lw_tbl := (List.mem_of_getElem? (i := 102) (by decide +kernel))
theorem fl_T_15 : Cond.fieldLink "AcreOffice$Traverse" 15 ([RX0, RX1, RX2, RX3, RX4, RX5, RX6].getD 4 "") (([TX0, TX1, TX2, TX3, TX4, TX5, TX6].getD 4 mTE) 1).2.1 (([TX0, TX1, TX2, TX3, TX4, TX5, TX6].getD 4 mTE) 1).2.2.1 ∈ lw_tbl := (List.mem_of_getElem? (i := 103) (by decide +kernel))
theorem fl_T_18 : Cond.fieldLink "AcreOffice$Traverse" 18 ([RX0, RX1, RX2, RX3, RX4, RX5, RX6].getD 4 "") (([TX0, TX1, TX2, TX3, TX4, TX5, TX6].getD 4 mTE) 2).2.1 (([TX0, TX1, TX2, TX3, TX4, TX5, TX6].getD 4 mTE) 2).2.2.1 ∈ lw_tbl := (List.mem_of_getElem? (i := 104) (by decide +kernel))
theorem oi_O_init : Cond.methodLink "AcreOffice$Orders" 3 Lib.objectInit ∈ lw_tbl := (List.mem_of_getElem? (i := 181) (by decide +kernel))
theorem fl_O_9 : Cond.fieldLink "AcreOffice$Orders" 9 ([RX0, RX1, RX2, RX3, RX4, RX5, RX6].getD 2 "") (([TX0, TX1, TX2, TX3, TX4, TX5, TX6].getD 2 mTE) 0).2.1 (([TX0, TX1, TX2, TX3, TX4, TX5, TX6].getD 2 mTE) 0).2.2.1 ∈ lw_tbl := (List.mem_of_getElem? (i := 182) (by decide +kernel))
theorem fl_O_15 : Cond.fieldLink "AcreOffice$Orders" 15 ([RX0, RX1, RX2, RX3, RX4, RX5, RX6].getD 2 "") (([TX0, TX1, TX2, TX3, TX4, TX5, TX6].getD 2 mTE) 2).2.1 (([TX0, TX1, TX2, TX3, TX4, TX5, TX6].getD 2 mTE) 2).2.2.1 ∈ lw_tbl := (List.mem_of_getElem? (i := 185) (by decide +kernel))
theorem fl_O_19 : Cond.fieldLink "AcreOffice$Orders" 19 ([RX0, RX1, RX2, RX3, RX4, RX5, RX6].getD 2 "") (([TX0, TX1, TX2, TX3, TX4, TX5, TX6].getD 2 mTE) 3).2.1 (([TX0, TX1, TX2, TX3, TX4, TX5, TX6].getD 2 mTE) 3).2.2.1 ∈ lw_tbl := (List.mem_of_getElem? (i := 186) (by decide +kernel))
theorem fl_O_22 : Cond.fieldLink "AcreOffice$Orders" 22 ([RX0, RX1, RX2, RX3, RX4, RX5, RX6].getD 2 "") (([TX0, TX1, TX2, TX3, TX4, TX5, TX6].getD 2 mTE) 4).2.1 (([TX0, TX1, TX2, TX3, TX4, TX5, TX6].getD 2 mTE) 4).2.2.1 ∈ lw_tbl := (List.mem_of_getElem? (i := 187) (by decide +kernel))
theorem fl_O_25 : Cond.fieldLink "AcreOffice$Orders" 25 ([RX0, RX1, RX2, RX3, RX4, RX5, RX6].getD 2 "") (([TX0, TX1, TX2, TX3, TX4, TX5, TX6].getD 2 mTE) 5).2.1 (([TX0, TX1, TX2, TX3, TX4, TX5, TX6].getD 2 mTE) 5).2.2.1 ∈ lw_tbl := (List.mem_of_getElem? (i := 188) (by decide +kernel))
theorem fl_O_28 : Cond.fieldLink "AcreOffice$Orders" 28 ([RX0, RX1, RX2, RX3, RX4, RX5, RX6].getD 2 "") (([TX0, TX1, TX2, TX3, TX4, TX5, TX6].getD 2 mTE) 6).2.1 (([TX0, TX1, TX2, TX3, TX4, TX5, TX6].getD 2 mTE) 6).2.2.1 ∈ lw_tbl := (List.mem_of_getElem? (i := 189) (by decide +kernel))
theorem oi_M_init : Cond.methodLink "AcreOfficeModel" 1 Lib.objectInit ∈ lw_tbl := (List.mem_of_getElem? (i := 904) (by decide +kernel))
theorem fl_M_7 : Cond.fieldLink "AcreOfficeModel" 7 ([RX0, RX1, RX2, RX3, RX4, RX5, RX6].getD 6 "") (([TX0, TX1, TX2, TX3, TX4, TX5, TX6].getD 6 mTE) 1).2.1 (([TX0, TX1, TX2, TX3, TX4, TX5, TX6].getD 6 mTE) 1).2.2.1 ∈ lw_tbl := (List.mem_of_getElem? (i := 906) (by decide +kernel))
theorem fl_M_13 : Cond.fieldLink "AcreOfficeModel" 13 ([RX0, RX1, RX2, RX3, RX4, RX5, RX6].getD 6 "") (([TX0, TX1, TX2, TX3, TX4, TX5, TX6].getD 6 mTE) 2).2.1 (([TX0, TX1, TX2, TX3, TX4, TX5, TX6].getD 6 mTE) 2).2.2.1 ∈ lw_tbl := (List.mem_of_getElem? (i := 907) (by decide +kernel))
theorem fl_M_16 : Cond.fieldLink "AcreOfficeModel" 16 ([RX0, RX1, RX2, RX3, RX4, RX5, RX6].getD 6 "") (([TX0, TX1, TX2, TX3, TX4, TX5, TX6].getD 6 mTE) 3).2.1 (([TX0, TX1, TX2, TX3, TX4, TX5, TX6].getD 6 mTE) 3).2.2.1 ∈ lw_tbl := (List.mem_of_getElem? (i := 908) (by decide +kernel))
theorem fl_M_19 : Cond.fieldLink "AcreOfficeModel" 19 ([RX0, RX1, RX2, RX3, RX4, RX5, RX6].getD 6 "") (([TX0, TX1, TX2, TX3, TX4, TX5, TX6].getD 6 mTE) 5).2.1 (([TX0, TX1, TX2, TX3, TX4, TX5, TX6].getD 6 mTE) 5).2.2.1 ∈ lw_tbl := (List.mem_of_getElem? (i := 910) (by decide +kernel))
theorem fl_M_22 : Cond.fieldLink "AcreOfficeModel" 22 ([RX0, RX1, RX2, RX3, RX4, RX5, RX6].getD 6 "") (([TX0, TX1, TX2, TX3, TX4, TX5, TX6].getD 6 mTE) 7).2.1 (([TX0, TX1, TX2, TX3, TX4, TX5, TX6].getD 6 mTE) 7).2.2.1 ∈ lw_tbl := (List.mem_of_getElem? (i := 912) (by decide +kernel))
theorem oi_S_init : Cond.methodLink "AcreOffice$State" 3 Lib.objectInit ∈ lw_tbl := (List.mem_of_getElem? (i := 95) (by decide +kernel))
theorem cl9_S_9 : Cond.classLink "AcreOffice$State" 9 "AcreOffice$Traverse" ∈ lw_tbl := (List.mem_of_getElem? (i := 96) (by decide +kernel))
theorem il_S_11 : Cond.methodLinkNest "AcreOffice$State" 11 (mY 52) "AcreOffice" ∈ lw_tbl := (List.mem_of_getElem? (i := 98) (by decide +kernel))
theorem fl_S_12 : Cond.fieldLink "AcreOffice$State" 12 ([RX0, RX1, RX2, RX3, RX4, RX5, RX6].getD 3 "") (([TX0, TX1, TX2, TX3, TX4, TX5, TX6].getD 3 mTE) 0).2.1 (([TX0, TX1, TX2, TX3, TX4, TX5, TX6].getD 3 mTE) 0).2.2.1 ∈ lw_tbl := (List.mem_of_getElem? (i := 142) (by decide +kernel))
theorem cl9_S_18 : Cond.classLink "AcreOffice$State" 18 "AcreOffice$Field" ∈ lw_tbl := (List.mem_of_getElem? (i := 124) (by decide +kernel))
theorem fl_S_20 : Cond.fieldLink "AcreOffice$State" 20 ([RX0, RX1, RX2, RX3, RX4, RX5, RX6].getD 3 "") (([TX0, TX1, TX2, TX3, TX4, TX5, TX6].getD 3 mTE) 1).2.1 (([TX0, TX1, TX2, TX3, TX4, TX5, TX6].getD 3 mTE) 1).2.2.1 ∈ lw_tbl := (List.mem_of_getElem? (i := 145) (by decide +kernel))
theorem il_S_24 : Cond.methodLinkNest "AcreOffice$State" 24 (mY 0) "AcreOffice" ∈ lw_tbl := (List.mem_of_getElem? (i := 127) (by decide +kernel))
theorem fl_S_25 : Cond.fieldLink "AcreOffice$State" 25 ([RX0, RX1, RX2, RX3, RX4, RX5, RX6].getD 3 "") (([TX0, TX1, TX2, TX3, TX4, TX5, TX6].getD 3 mTE) 2).2.1 (([TX0, TX1, TX2, TX3, TX4, TX5, TX6].getD 3 mTE) 2).2.2.1 ∈ lw_tbl := (List.mem_of_getElem? (i := 147) (by decide +kernel))
theorem oi_H_init : Cond.methodLink "AcreOffice$History" 3 Lib.objectInit ∈ lw_tbl := (List.mem_of_getElem? (i := 161) (by decide +kernel))
theorem cl9_H_9 : Cond.classLink "AcreOffice$History" 9 "AcreOffice$State" ∈ lw_tbl := (List.mem_of_getElem? (i := 162) (by decide +kernel))
theorem fl_H_11 : Cond.fieldLink "AcreOffice$History" 11 ([RX0, RX1, RX2, RX3, RX4, RX5, RX6].getD 1 "") (([TX0, TX1, TX2, TX3, TX4, TX5, TX6].getD 1 mTE) 0).2.1 (([TX0, TX1, TX2, TX3, TX4, TX5, TX6].getD 1 mTE) 0).2.2.1 ∈ lw_tbl := (List.mem_of_getElem? (i := 165) (by decide +kernel))
theorem il_H_17 : Cond.methodLink "AcreOffice$History" 17 (mY 45) ∈ lw_tbl := (List.mem_of_getElem? (i := 164) (by decide +kernel))
theorem fl_H_18 : Cond.fieldLink "AcreOffice$History" 18 ([RX0, RX1, RX2, RX3, RX4, RX5, RX6].getD 1 "") (([TX0, TX1, TX2, TX3, TX4, TX5, TX6].getD 1 mTE) 1).2.1 (([TX0, TX1, TX2, TX3, TX4, TX5, TX6].getD 1 mTE) 1).2.2.1 ∈ lw_tbl := (List.mem_of_getElem? (i := 166) (by decide +kernel))
theorem fl_H_22 : Cond.fieldLink "AcreOffice$History" 22 ([RX0, RX1, RX2, RX3, RX4, RX5, RX6].getD 1 "") (([TX0, TX1, TX2, TX3, TX4, TX5, TX6].getD 1 mTE) 2).2.1 (([TX0, TX1, TX2, TX3, TX4, TX5, TX6].getD 1 mTE) 2).2.2.1 ∈ lw_tbl := (List.mem_of_getElem? (i := 167) (by decide +kernel))
theorem oi_A_init : Cond.methodLink "AcreOffice" 1 Lib.objectInit ∈ lw_tbl := (List.mem_of_getElem? (i := 87) (by decide +kernel))
theorem cl9_A_7 : Cond.classLink "AcreOffice" 7 "AcreOffice$State" ∈ lw_tbl := (List.mem_of_getElem? (i := 90) (by decide +kernel))
theorem il_A_9 : Cond.methodLink "AcreOffice" 9 (mY 45) ∈ lw_tbl := (List.mem_of_getElem? (i := 92) (by decide +kernel))
theorem fl_A_10 : Cond.fieldLink "AcreOffice" 10 ([RX0, RX1, RX2, RX3, RX4, RX5, RX6].getD 5 "") (([TX0, TX1, TX2, TX3, TX4, TX5, TX6].getD 5 mTE) 0).2.1 (([TX0, TX1, TX2, TX3, TX4, TX5, TX6].getD 5 mTE) 0).2.2.1 ∈ lw_tbl := (List.mem_of_getElem? (i := 219) (by decide +kernel))
theorem fl_A_16 : Cond.fieldLink "AcreOffice" 16 ([RX0, RX1, RX2, RX3, RX4, RX5, RX6].getD 5 "") (([TX0, TX1, TX2, TX3, TX4, TX5, TX6].getD 5 mTE) 1).2.1 (([TX0, TX1, TX2, TX3, TX4, TX5, TX6].getD 5 mTE) 1).2.2.1 ∈ lw_tbl := (List.mem_of_getElem? (i := 220) (by decide +kernel))
theorem fl_A_19 : Cond.fieldLink "AcreOffice" 19 ([RX0, RX1, RX2, RX3, RX4, RX5, RX6].getD 5 "") (([TX0, TX1, TX2, TX3, TX4, TX5, TX6].getD 5 mTE) 2).2.1 (([TX0, TX1, TX2, TX3, TX4, TX5, TX6].getD 5 mTE) 2).2.2.1 ∈ lw_tbl := (List.mem_of_getElem? (i := 221) (by decide +kernel))
theorem cl9_A_22 : Cond.classLink "AcreOffice" 22 "AcreOffice$History" ∈ lw_tbl := (List.mem_of_getElem? (i := 156) (by decide +kernel))
theorem il_A_24 : Cond.methodLink "AcreOffice" 24 (mY 25) ∈ lw_tbl := (List.mem_of_getElem? (i := 158) (by decide +kernel))
theorem fl_A_25 : Cond.fieldLink "AcreOffice" 25 ([RX0, RX1, RX2, RX3, RX4, RX5, RX6].getD 5 "") (([TX0, TX1, TX2, TX3, TX4, TX5, TX6].getD 5 mTE) 3).2.1 (([TX0, TX1, TX2, TX3, TX4, TX5, TX6].getD 5 mTE) 3).2.2.1 ∈ lw_tbl := (List.mem_of_getElem? (i := 222) (by decide +kernel))
theorem cl9_A_29 : Cond.classLink "AcreOffice" 29 "AcreOffice$Orders" ∈ lw_tbl := (List.mem_of_getElem? (i := 176) (by decide +kernel))
theorem il_A_31 : Cond.methodLinkNest "AcreOffice" 31 (mY 28) "AcreOffice" ∈ lw_tbl := (List.mem_of_getElem? (i := 178) (by decide +kernel))
theorem fl_A_32 : Cond.fieldLink "AcreOffice" 32 ([RX0, RX1, RX2, RX3, RX4, RX5, RX6].getD 5 "") (([TX0, TX1, TX2, TX3, TX4, TX5, TX6].getD 5 mTE) 4).2.1 (([TX0, TX1, TX2, TX3, TX4, TX5, TX6].getD 5 mTE) 4).2.2.1 ∈ lw_tbl := (List.mem_of_getElem? (i := 223) (by decide +kernel))
theorem fl_A_36 : Cond.fieldLink "AcreOffice" 36 ([RX0, RX1, RX2, RX3, RX4, RX5, RX6].getD 5 "") (([TX0, TX1, TX2, TX3, TX4, TX5, TX6].getD 5 mTE) 5).2.1 (([TX0, TX1, TX2, TX3, TX4, TX5, TX6].getD 5 mTE) 5).2.2.1 ∈ lw_tbl := (List.mem_of_getElem? (i := 224) (by decide +kernel))
theorem cl9_L_8 : Cond.classLink "AcreOfficeLaw" 8 "AcreOffice" ∈ lw_tbl := (List.mem_of_getElem? (i := 82) (by decide +kernel))
theorem il_L_100 : Cond.methodLink "AcreOfficeLaw" 100 (mY 66) ∈ lw_tbl := (List.mem_of_getElem? (i := 84) (by decide +kernel))
theorem cl9_L_101 : Cond.classLink "AcreOfficeLaw" 101 "AcreOfficeModel" ∈ lw_tbl := (List.mem_of_getElem? (i := 899) (by decide +kernel))
theorem il_L_103 : Cond.methodLink "AcreOfficeLaw" 103 (mY 112) ∈ lw_tbl := (List.mem_of_getElem? (i := 901) (by decide +kernel))
theorem ac9_int : Cond.arrayClass (newarray.typeOf .int) ∈ lw_tbl := (List.mem_of_getElem? (i := 123) (by decide +kernel))
theorem ac9_char : Cond.arrayClass (newarray.typeOf .char) ∈ lw_tbl := (List.mem_of_getElem? (i := 218) (by decide +kernel))
theorem ac9_long : Cond.arrayClass (newarray.typeOf .long) ∈ lw_tbl := (List.mem_of_getElem? (i := 1267) (by decide +kernel))
theorem in9_0 : Cond.instantiable RX0 3 ∈ lw_tbl := (List.mem_of_getElem? (i := 126) (by decide +kernel))
theorem ini9_0 : Cond.initialized RX0 ∈ lw_tbl := (List.mem_of_getElem? (i := 70) (by decide +kernel))
theorem in9_1 : Cond.instantiable RX1 3 ∈ lw_tbl := (List.mem_of_getElem? (i := 157) (by decide +kernel))
theorem ini9_1 : Cond.initialized RX1 ∈ lw_tbl := (List.mem_of_getElem? (i := 71) (by decide +kernel))
theorem in9_2 : Cond.instantiable RX2 11 ∈ lw_tbl := (List.mem_of_getElem? (i := 177) (by decide +kernel))
theorem ini9_2 : Cond.initialized RX2 ∈ lw_tbl := (List.mem_of_getElem? (i := 72) (by decide +kernel))
theorem in9_3 : Cond.instantiable RX3 3 ∈ lw_tbl := (List.mem_of_getElem? (i := 91) (by decide +kernel))
theorem ini9_3 : Cond.initialized RX3 ∈ lw_tbl := (List.mem_of_getElem? (i := 68) (by decide +kernel))
theorem in9_4 : Cond.instantiable RX4 6 ∈ lw_tbl := (List.mem_of_getElem? (i := 97) (by decide +kernel))
theorem ini9_4 : Cond.initialized RX4 ∈ lw_tbl := (List.mem_of_getElem? (i := 69) (by decide +kernel))
theorem in9_5 : Cond.instantiable RX5 6 ∈ lw_tbl := (List.mem_of_getElem? (i := 83) (by decide +kernel))
theorem ini9_5 : Cond.initialized RX5 ∈ lw_tbl := (List.mem_of_getElem? (i := 67) (by decide +kernel))
theorem in9_6 : Cond.instantiable RX6 9 ∈ lw_tbl := (List.mem_of_getElem? (i := 900) (by decide +kernel))
theorem ini9_6 : Cond.initialized RX6 ∈ lw_tbl := (List.mem_of_getElem? (i := 73) (by decide +kernel))
