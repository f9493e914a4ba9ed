/-! FACTS OF THE CONSTRUCTORS -/
theorem ok_F_init : mCodeOk 0 0 := ⟨List.mem_of_getElem? (i := 77) (by decide +kernel), (List.mem_of_getElem? (i := 19) (by decide +kernel)), by decide +kernel, ⟨by decide +kernel, by decide +kernel⟩, by decide +kernel, by decide +kernel⟩
theorem hn_F_init : (mY 0).name = "<init>" := by decide +kernel
theorem hp_F_init : plainName (mY 0).cls = true := by decide +kernel
theorem hi_F_init : Cond.instanceMethod (mY 0) ∈ lw_tbl := (List.mem_of_getElem? (i := 76) (by decide +kernel))
theorem ok_T_init : mCodeOk 36 0 := ⟨List.mem_of_getElem? (i := 48) (by decide +kernel), (List.mem_of_getElem? (i := 18) (by decide +kernel)), by decide +kernel, ⟨by decide +kernel, by decide +kernel⟩, by decide +kernel, by decide +kernel⟩
theorem hn_T_init : (mY 36).name = "<init>" := by decide +kernel
theorem hp_T_init : plainName (mY 36).cls = true := by decide +kernel
theorem hi_T_init : Cond.instanceMethod (mY 36) ∈ lw_tbl := (List.mem_of_getElem? (i := 47) (by decide +kernel))
theorem ok_O_init : mCodeOk 28 0 := ⟨List.mem_of_getElem? (i := 127) (by decide +kernel), (List.mem_of_getElem? (i := 21) (by decide +kernel)), by decide +kernel, ⟨by decide +kernel, by decide +kernel⟩, by decide +kernel, by decide +kernel⟩
theorem hn_O_init : (mY 28).name = "<init>" := by decide +kernel
theorem hp_O_init : plainName (mY 28).cls = true := by decide +kernel
theorem hi_O_init : Cond.instanceMethod (mY 28) ∈ lw_tbl := (List.mem_of_getElem? (i := 126) (by decide +kernel))
theorem ok_S_init : mCodeOk 29 0 := ⟨List.mem_of_getElem? (i := 42) (by decide +kernel), (List.mem_of_getElem? (i := 17) (by decide +kernel)), by decide +kernel, ⟨by decide +kernel, by decide +kernel⟩, by decide +kernel, by decide +kernel⟩
theorem hn_S_init : (mY 29).name = "<init>" := by decide +kernel
theorem hp_S_init : plainName (mY 29).cls = true := by decide +kernel
theorem hi_S_init : Cond.instanceMethod (mY 29) ∈ lw_tbl := (List.mem_of_getElem? (i := 41) (by decide +kernel))
theorem ok_H_init : mCodeOk 25 0 := ⟨List.mem_of_getElem? (i := 107) (by decide +kernel), (List.mem_of_getElem? (i := 20) (by decide +kernel)), by decide +kernel, ⟨by decide +kernel, by decide +kernel⟩, by decide +kernel, by decide +kernel⟩
theorem hn_H_init : (mY 25).name = "<init>" := by decide +kernel
theorem hp_H_init : plainName (mY 25).cls = true := by decide +kernel
theorem hi_H_init : Cond.instanceMethod (mY 25) ∈ lw_tbl := (List.mem_of_getElem? (i := 106) (by decide +kernel))
theorem ok_A_init : mCodeOk 50 0 := ⟨List.mem_of_getElem? (i := 34) (by decide +kernel), (List.mem_of_getElem? (i := 16) (by decide +kernel)), by decide +kernel, ⟨by decide +kernel, by decide +kernel⟩, by decide +kernel, by decide +kernel⟩
theorem hn_A_init : (mY 50).name = "<init>" := by decide +kernel
theorem hp_A_init : plainName (mY 50).cls = true := by decide +kernel
theorem hi_A_init : Cond.instanceMethod (mY 50) ∈ lw_tbl := (List.mem_of_getElem? (i := 33) (by decide +kernel))
theorem oi_in : Cond.instanceMethod Lib.objectInit ∈ lw_tbl := (List.mem_of_getElem? (i := 36) (by decide +kernel))
theorem oi_co : Cond.code Lib.objectInit ⟨#[0xb1]⟩ 1 none ∈ lw_tbl := List.mem_of_getElem? (i := 37) (by decide +kernel)
theorem oi_F_init : Cond.methodLink "AcreOffice$Field" 3 Lib.objectInit ∈ lw_tbl := (List.mem_of_getElem? (i := 78) (by decide +kernel))
theorem fl_F_9 : Cond.fieldLink "AcreOffice$Field" 9 ([RX0, RX1, RX2, RX3, RX4, RX5, RX6].getD 0 "") (([TX0, TX1, TX2, TX3, TX4, TX5, TX6].getD 0 mTE) 0).2.1 (([TX0, TX1, TX2, TX3, TX4, TX5, TX6].getD 0 mTE) 0).2.2.1 ∈ lw_tbl := (List.mem_of_getElem? (i := 79) (by decide +kernel))
theorem fl_F_15 : Cond.fieldLink "AcreOffice$Field" 15 ([RX0, RX1, RX2, RX3, RX4, RX5, RX6].getD 0 "") (([TX0, TX1, TX2, TX3, TX4, TX5, TX6].getD 0 mTE) 1).2.1 (([TX0, TX1, TX2, TX3, TX4, TX5, TX6].getD 0 mTE) 1).2.2.1 ∈ lw_tbl := (List.mem_of_getElem? (i := 80) (by decide +kernel))
theorem oi_T_init : Cond.methodLink "AcreOffice$Traverse" 3 Lib.objectInit ∈ lw_tbl := (List.mem_of_getElem? (i := 49) (by decide +kernel))
theorem fl_T_9 : Cond.fieldLink "AcreOffice$Traverse" 9 ([RX0, RX1, RX2, RX3, RX4, RX5, RX6].getD 4 "") (([TX0, TX1, TX2, TX3, TX4, TX5, TX6].getD 4 mTE) 0).2.1 (([TX0, TX1, TX2, TX3, TX4, TX5, TX6].getD 4 mTE) 0).2.2.1 ∈ lw_tbl := (List.mem_of_getElem? (i := 50) (by decide +kernel))
theorem fl_T_15 : Cond.fieldLink "AcreOffice$Traverse" 15 ([RX0, RX1, RX2, RX3, RX4, RX5, RX6].getD 4 "") (([TX0, TX1, TX2, TX3, TX4, TX5, TX6].getD 4 mTE) 1).2.1 (([TX0, TX1, TX2, TX3, TX4, TX5, TX6].getD 4 mTE) 1).2.2.1 ∈ lw_tbl := (List.mem_of_getElem? (i := 51) (by decide +kernel))
theorem fl_T_18 : Cond.fieldLink "AcreOffice$Traverse" 18 ([RX0, RX1, RX2, RX3, RX4, RX5, RX6].getD 4 "") (([TX0, TX1, TX2, TX3, TX4, TX5, TX6].getD 4 mTE) 2).2.1 (([TX0, TX1, TX2, TX3, TX4, TX5, TX6].getD 4 mTE) 2).2.2.1 ∈ lw_tbl := (List.mem_of_getElem? (i := 52) (by decide +kernel))
theorem oi_O_init : Cond.methodLink "AcreOffice$Orders" 3 Lib.objectInit ∈ lw_tbl := (List.mem_of_getElem? (i := 128) (by decide +kernel))
theorem fl_O_9 : Cond.fieldLink "AcreOffice$Orders" 9 ([RX0, RX1, RX2, RX3, RX4, RX5, RX6].getD 2 "") (([TX0, TX1, TX2, TX3, TX4, TX5, TX6].getD 2 mTE) 0).2.1 (([TX0, TX1, TX2, TX3, TX4, TX5, TX6].getD 2 mTE) 0).2.2.1 ∈ lw_tbl := (List.mem_of_getElem? (i := 129) (by decide +kernel))
theorem fl_O_15 : Cond.fieldLink "AcreOffice$Orders" 15 ([RX0, RX1, RX2, RX3, RX4, RX5, RX6].getD 2 "") (([TX0, TX1, TX2, TX3, TX4, TX5, TX6].getD 2 mTE) 2).2.1 (([TX0, TX1, TX2, TX3, TX4, TX5, TX6].getD 2 mTE) 2).2.2.1 ∈ lw_tbl := (List.mem_of_getElem? (i := 130) (by decide +kernel))
theorem fl_O_19 : Cond.fieldLink "AcreOffice$Orders" 19 ([RX0, RX1, RX2, RX3, RX4, RX5, RX6].getD 2 "") (([TX0, TX1, TX2, TX3, TX4, TX5, TX6].getD 2 mTE) 3).2.1 (([TX0, TX1, TX2, TX3, TX4, TX5, TX6].getD 2 mTE) 3).2.2.1 ∈ lw_tbl := (List.mem_of_getElem? (i := 131) (by decide +kernel))
theorem fl_O_22 : Cond.fieldLink "AcreOffice$Orders" 22 ([RX0, RX1, RX2, RX3, RX4, RX5, RX6].getD 2 "") (([TX0, TX1, TX2, TX3, TX4, TX5, TX6].getD 2 mTE) 4).2.1 (([TX0, TX1, TX2, TX3, TX4, TX5, TX6].getD 2 mTE) 4).2.2.1 ∈ lw_tbl := (List.mem_of_getElem? (i := 132) (by decide +kernel))
theorem fl_O_25 : Cond.fieldLink "AcreOffice$Orders" 25 ([RX0, RX1, RX2, RX3, RX4, RX5, RX6].getD 2 "") (([TX0, TX1, TX2, TX3, TX4, TX5, TX6].getD 2 mTE) 5).2.1 (([TX0, TX1, TX2, TX3, TX4, TX5, TX6].getD 2 mTE) 5).2.2.1 ∈ lw_tbl := (List.mem_of_getElem? (i := 133) (by decide +kernel))
theorem fl_O_28 : Cond.fieldLink "AcreOffice$Orders" 28 ([RX0, RX1, RX2, RX3, RX4, RX5, RX6].getD 2 "") (([TX0, TX1, TX2, TX3, TX4, TX5, TX6].getD 2 mTE) 6).2.1 (([TX0, TX1, TX2, TX3, TX4, TX5, TX6].getD 2 mTE) 6).2.2.1 ∈ lw_tbl := (List.mem_of_getElem? (i := 134) (by decide +kernel))
theorem oi_S_init : Cond.methodLink "AcreOffice$State" 3 Lib.objectInit ∈ lw_tbl := (List.mem_of_getElem? (i := 43) (by decide +kernel))
theorem cl9_S_9 : Cond.classLink "AcreOffice$State" 9 "AcreOffice$Traverse" ∈ lw_tbl := (List.mem_of_getElem? (i := 44) (by decide +kernel))
theorem il_S_11 : Cond.methodLinkNest "AcreOffice$State" 11 (mY 36) "AcreOffice" ∈ lw_tbl := (List.mem_of_getElem? (i := 46) (by decide +kernel))
theorem fl_S_12 : Cond.fieldLink "AcreOffice$State" 12 ([RX0, RX1, RX2, RX3, RX4, RX5, RX6].getD 3 "") (([TX0, TX1, TX2, TX3, TX4, TX5, TX6].getD 3 mTE) 0).2.1 (([TX0, TX1, TX2, TX3, TX4, TX5, TX6].getD 3 mTE) 0).2.2.1 ∈ lw_tbl := (List.mem_of_getElem? (i := 90) (by decide +kernel))
theorem cl9_S_18 : Cond.classLink "AcreOffice$State" 18 "AcreOffice$Field" ∈ lw_tbl := (List.mem_of_getElem? (i := 72) (by decide +kernel))
theorem fl_S_20 : Cond.fieldLink "AcreOffice$State" 20 ([RX0, RX1, RX2, RX3, RX4, RX5, RX6].getD 3 "") (([TX0, TX1, TX2, TX3, TX4, TX5, TX6].getD 3 mTE) 1).2.1 (([TX0, TX1, TX2, TX3, TX4, TX5, TX6].getD 3 mTE) 1).2.2.1 ∈ lw_tbl := (List.mem_of_getElem? (i := 92) (by decide +kernel))
theorem il_S_24 : Cond.methodLinkNest "AcreOffice$State" 24 (mY 0) "AcreOffice" ∈ lw_tbl := (List.mem_of_getElem? (i := 75) (by decide +kernel))
theorem fl_S_25 : Cond.fieldLink "AcreOffice$State" 25 ([RX0, RX1, RX2, RX3, RX4, RX5, RX6].getD 3 "") (([TX0, TX1, TX2, TX3, TX4, TX5, TX6].getD 3 mTE) 2).2.1 (([TX0, TX1, TX2, TX3, TX4, TX5, TX6].getD 3 mTE) 2).2.2.1 ∈ lw_tbl := (List.mem_of_getElem? (i := 94) (by decide +kernel))
theorem oi_H_init : Cond.methodLink "AcreOffice$History" 3 Lib.objectInit ∈ lw_tbl := (List.mem_of_getElem? (i := 108) (by decide +kernel))
theorem cl9_H_9 : Cond.classLink "AcreOffice$History" 9 "AcreOffice$State" ∈ lw_tbl := (List.mem_of_getElem? (i := 109) (by decide +kernel))
theorem fl_H_11 : Cond.fieldLink "AcreOffice$History" 11 ([RX0, RX1, RX2, RX3, RX4, RX5, RX6].getD 1 "") (([TX0, TX1, TX2, TX3, TX4, TX5, TX6].getD 1 mTE) 0).2.1 (([TX0, TX1, TX2, TX3, TX4, TX5, TX6].getD 1 mTE) 0).2.2.1 ∈ lw_tbl := (List.mem_of_getElem? (i := 112) (by decide +kernel))
theorem il_H_17 : Cond.methodLink "AcreOffice$History" 17 (mY 29) ∈ lw_tbl := (List.mem_of_getElem? (i := 111) (by decide +kernel))
theorem fl_H_18 : Cond.fieldLink "AcreOffice$History" 18 ([RX0, RX1, RX2, RX3, RX4, RX5, RX6].getD 1 "") (([TX0, TX1, TX2, TX3, TX4, TX5, TX6].getD 1 mTE) 1).2.1 (([TX0, TX1, TX2, TX3, TX4, TX5, TX6].getD 1 mTE) 1).2.2.1 ∈ lw_tbl := (List.mem_of_getElem? (i := 113) (by decide +kernel))
theorem fl_H_22 : Cond.fieldLink "AcreOffice$History" 22 ([RX0, RX1, RX2, RX3, RX4, RX5, RX6].getD 1 "") (([TX0, TX1, TX2, TX3, TX4, TX5, TX6].getD 1 mTE) 2).2.1 (([TX0, TX1, TX2, TX3, TX4, TX5, TX6].getD 1 mTE) 2).2.2.1 ∈ lw_tbl := (List.mem_of_getElem? (i := 114) (by decide +kernel))
theorem oi_A_init : Cond.methodLink "AcreOffice" 1 Lib.objectInit ∈ lw_tbl := (List.mem_of_getElem? (i := 35) (by decide +kernel))
theorem cl9_A_7 : Cond.classLink "AcreOffice" 7 "AcreOffice$State" ∈ lw_tbl := (List.mem_of_getElem? (i := 38) (by decide +kernel))
theorem il_A_9 : Cond.methodLink "AcreOffice" 9 (mY 29) ∈ lw_tbl := (List.mem_of_getElem? (i := 40) (by decide +kernel))
theorem fl_A_10 : Cond.fieldLink "AcreOffice" 10 ([RX0, RX1, RX2, RX3, RX4, RX5, RX6].getD 5 "") (([TX0, TX1, TX2, TX3, TX4, TX5, TX6].getD 5 mTE) 0).2.1 (([TX0, TX1, TX2, TX3, TX4, TX5, TX6].getD 5 mTE) 0).2.2.1 ∈ lw_tbl := (List.mem_of_getElem? (i := 159) (by decide +kernel))
theorem fl_A_16 : Cond.fieldLink "AcreOffice" 16 ([RX0, RX1, RX2, RX3, RX4, RX5, RX6].getD 5 "") (([TX0, TX1, TX2, TX3, TX4, TX5, TX6].getD 5 mTE) 1).2.1 (([TX0, TX1, TX2, TX3, TX4, TX5, TX6].getD 5 mTE) 1).2.2.1 ∈ lw_tbl := (List.mem_of_getElem? (i := 160) (by decide +kernel))
theorem fl_A_19 : Cond.fieldLink "AcreOffice" 19 ([RX0, RX1, RX2, RX3, RX4, RX5, RX6].getD 5 "") (([TX0, TX1, TX2, TX3, TX4, TX5, TX6].getD 5 mTE) 2).2.1 (([TX0, TX1, TX2, TX3, TX4, TX5, TX6].getD 5 mTE) 2).2.2.1 ∈ lw_tbl := (List.mem_of_getElem? (i := 161) (by decide +kernel))
theorem cl9_A_22 : Cond.classLink "AcreOffice" 22 "AcreOffice$History" ∈ lw_tbl := (List.mem_of_getElem? (i := 103) (by decide +kernel))
theorem il_A_24 : Cond.methodLink "AcreOffice" 24 (mY 25) ∈ lw_tbl := (List.mem_of_getElem? (i := 105) (by decide +kernel))
theorem fl_A_25 : Cond.fieldLink "AcreOffice" 25 ([RX0, RX1, RX2, RX3, RX4, RX5, RX6].getD 5 "") (([TX0, TX1, TX2, TX3, TX4, TX5, TX6].getD 5 mTE) 3).2.1 (([TX0, TX1, TX2, TX3, TX4, TX5, TX6].getD 5 mTE) 3).2.2.1 ∈ lw_tbl := (List.mem_of_getElem? (i := 162) (by decide +kernel))
theorem cl9_A_29 : Cond.classLink "AcreOffice" 29 "AcreOffice$Orders" ∈ lw_tbl := (List.mem_of_getElem? (i := 123) (by decide +kernel))
theorem il_A_31 : Cond.methodLinkNest "AcreOffice" 31 (mY 28) "AcreOffice" ∈ lw_tbl := (List.mem_of_getElem? (i := 125) (by decide +kernel))
theorem fl_A_32 : Cond.fieldLink "AcreOffice" 32 ([RX0, RX1, RX2, RX3, RX4, RX5, RX6].getD 5 "") (([TX0, TX1, TX2, TX3, TX4, TX5, TX6].getD 5 mTE) 4).2.1 (([TX0, TX1, TX2, TX3, TX4, TX5, TX6].getD 5 mTE) 4).2.2.1 ∈ lw_tbl := (List.mem_of_getElem? (i := 163) (by decide +kernel))
theorem fl_A_36 : Cond.fieldLink "AcreOffice" 36 ([RX0, RX1, RX2, RX3, RX4, RX5, RX6].getD 5 "") (([TX0, TX1, TX2, TX3, TX4, TX5, TX6].getD 5 mTE) 5).2.1 (([TX0, TX1, TX2, TX3, TX4, TX5, TX6].getD 5 mTE) 5).2.2.1 ∈ lw_tbl := (List.mem_of_getElem? (i := 164) (by decide +kernel))
theorem cl9_L_16 : Cond.classLink "AcreOfficeLaw" 16 "AcreOffice" ∈ lw_tbl := (List.mem_of_getElem? (i := 30) (by decide +kernel))
theorem il_L_143 : Cond.methodLink "AcreOfficeLaw" 143 (mY 50) ∈ lw_tbl := (List.mem_of_getElem? (i := 32) (by decide +kernel))
theorem ac9_int : Cond.arrayClass (newarray.typeOf .int) ∈ lw_tbl := (List.mem_of_getElem? (i := 71) (by decide +kernel))
theorem ac9_char : Cond.arrayClass (newarray.typeOf .char) ∈ lw_tbl := (List.mem_of_getElem? (i := 158) (by decide +kernel))
theorem in9_0 : Cond.instantiable RX0 3 ∈ lw_tbl := (List.mem_of_getElem? (i := 74) (by decide +kernel))
theorem ini9_0 : Cond.initialized RX0 ∈ lw_tbl := (List.mem_of_getElem? (i := 19) (by decide +kernel))
theorem in9_1 : Cond.instantiable RX1 3 ∈ lw_tbl := (List.mem_of_getElem? (i := 104) (by decide +kernel))
theorem ini9_1 : Cond.initialized RX1 ∈ lw_tbl := (List.mem_of_getElem? (i := 20) (by decide +kernel))
theorem in9_2 : Cond.instantiable RX2 11 ∈ lw_tbl := (List.mem_of_getElem? (i := 124) (by decide +kernel))
theorem ini9_2 : Cond.initialized RX2 ∈ lw_tbl := (List.mem_of_getElem? (i := 21) (by decide +kernel))
theorem in9_3 : Cond.instantiable RX3 3 ∈ lw_tbl := (List.mem_of_getElem? (i := 39) (by decide +kernel))
theorem ini9_3 : Cond.initialized RX3 ∈ lw_tbl := (List.mem_of_getElem? (i := 17) (by decide +kernel))
theorem in9_4 : Cond.instantiable RX4 6 ∈ lw_tbl := (List.mem_of_getElem? (i := 45) (by decide +kernel))
theorem ini9_4 : Cond.initialized RX4 ∈ lw_tbl := (List.mem_of_getElem? (i := 18) (by decide +kernel))
theorem in9_5 : Cond.instantiable RX5 6 ∈ lw_tbl := (List.mem_of_getElem? (i := 31) (by decide +kernel))
theorem ini9_5 : Cond.initialized RX5 ∈ lw_tbl := (List.mem_of_getElem? (i := 16) (by decide +kernel))
theorem in9_6 : Cond.instantiable RX6 3 ∈ lw_tbl := (List.mem_of_getElem? (i := 74) (by decide +kernel))
theorem ini9_6 : Cond.initialized RX6 ∈ lw_tbl := (List.mem_of_getElem? (i := 19) (by decide +kernel))
