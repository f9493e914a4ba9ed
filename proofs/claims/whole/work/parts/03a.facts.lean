theorem hC_F_init : mC 0 = "AcreOffice$Field" := by decide +kernel
theorem hL_F_init : mL 0 = 1 := by decide +kernel
theorem hR_F_init : mR 0 = (Option.none : Option Jvm.ClassFile.FieldType) := by decide +kernel
theorem hH_F_init : mHH 0 = [] := by decide +kernel
theorem hC_F_copyFrom : mC 1 = "AcreOffice$Field" := by decide +kernel
theorem hL_F_copyFrom : mL 1 = 2 := by decide +kernel
theorem hR_F_copyFrom : mR 1 = (Option.none : Option Jvm.ClassFile.FieldType) := by decide +kernel
theorem hH_F_copyFrom : mHH 1 = [] := by decide +kernel
theorem hC_F_dropCorners : mC 2 = "AcreOffice$Field" := by decide +kernel
theorem hL_F_dropCorners : mL 2 = 1 := by decide +kernel
theorem hR_F_dropCorners : mR 2 = (Option.none : Option Jvm.ClassFile.FieldType) := by decide +kernel
theorem hH_F_dropCorners : mHH 2 = [] := by decide +kernel
theorem hC_F_appendCorner : mC 3 = "AcreOffice$Field" := by decide +kernel
theorem hL_F_appendCorner : mL 3 = 3 := by decide +kernel
theorem hR_F_appendCorner : mR 3 = (Option.none : Option Jvm.ClassFile.FieldType) := by decide +kernel
theorem hH_F_appendCorner : mHH 3 = [] := by decide +kernel
theorem hC_F_hasCorner : mC 4 = "AcreOffice$Field" := by decide +kernel
theorem hL_F_hasCorner : mL 4 = 2 := by decide +kernel
theorem hR_F_hasCorner : mR 4 = (Option.some Jvm.ClassFile.FieldType.boolean) := by decide +kernel
theorem hH_F_hasCorner : mHH 4 = [] := by decide +kernel
theorem hC_F_eastAt : mC 5 = "AcreOffice$Field" := by decide +kernel
theorem hL_F_eastAt : mL 5 = 2 := by decide +kernel
theorem hR_F_eastAt : mR 5 = (Option.some Jvm.ClassFile.FieldType.int) := by decide +kernel
theorem hH_F_eastAt : mHH 5 = [] := by decide +kernel
theorem hC_F_northAt : mC 6 = "AcreOffice$Field" := by decide +kernel
theorem hL_F_northAt : mL 6 = 2 := by decide +kernel
theorem hR_F_northAt : mR 6 = (Option.some Jvm.ClassFile.FieldType.int) := by decide +kernel
theorem hH_F_northAt : mHH 6 = [] := by decide +kernel
theorem hC_F_cornerAfter : mC 7 = "AcreOffice$Field" := by decide +kernel
theorem hL_F_cornerAfter : mL 7 = 2 := by decide +kernel
theorem hR_F_cornerAfter : mR 7 = (Option.some Jvm.ClassFile.FieldType.int) := by decide +kernel
theorem hH_F_cornerAfter : mHH 7 = [] := by decide +kernel
theorem hC_F_cornerBefore : mC 8 = "AcreOffice$Field" := by decide +kernel
theorem hL_F_cornerBefore : mL 8 = 2 := by decide +kernel
theorem hR_F_cornerBefore : mR 8 = (Option.some Jvm.ClassFile.FieldType.int) := by decide +kernel
theorem hH_F_cornerBefore : mHH 8 = [] := by decide +kernel
theorem hC_F_sideEast : mC 9 = "AcreOffice$Field" := by decide +kernel
theorem hL_F_sideEast : mL 9 = 2 := by decide +kernel
theorem hR_F_sideEast : mR 9 = (Option.some Jvm.ClassFile.FieldType.long) := by decide +kernel
theorem hH_F_sideEast : mHH 9 = [] := by decide +kernel
theorem hC_F_sideNorth : mC 10 = "AcreOffice$Field" := by decide +kernel
theorem hL_F_sideNorth : mL 10 = 2 := by decide +kernel
theorem hR_F_sideNorth : mR 10 = (Option.some Jvm.ClassFile.FieldType.long) := by decide +kernel
theorem hH_F_sideNorth : mHH 10 = [] := by decide +kernel
theorem hC_F_turnAt : mC 11 = "AcreOffice$Field" := by decide +kernel
theorem hL_F_turnAt : mL 11 = 3 := by decide +kernel
theorem hR_F_turnAt : mR 11 = (Option.some Jvm.ClassFile.FieldType.long) := by decide +kernel
theorem hH_F_turnAt : mHH 11 = [] := by decide +kernel
theorem hC_F_turnsToTheLeft : mC 12 = "AcreOffice$Field" := by decide +kernel
theorem hL_F_turnsToTheLeft : mL 12 = 3 := by decide +kernel
theorem hR_F_turnsToTheLeft : mR 12 = (Option.some Jvm.ClassFile.FieldType.int) := by decide +kernel
theorem hH_F_turnsToTheLeft : mHH 12 = [] := by decide +kernel
theorem hC_F_turnsToTheRight : mC 13 = "AcreOffice$Field" := by decide +kernel
theorem hL_F_turnsToTheRight : mL 13 = 3 := by decide +kernel
theorem hR_F_turnsToTheRight : mR 13 = (Option.some Jvm.ClassFile.FieldType.int) := by decide +kernel
theorem hH_F_turnsToTheRight : mHH 13 = [] := by decide +kernel
theorem hC_F_sidesMetFrom : mC 14 = "AcreOffice$Field" := by decide +kernel
theorem hL_F_sidesMetFrom : mL 14 = 5 := by decide +kernel
theorem hR_F_sidesMetFrom : mR 14 = (Option.some Jvm.ClassFile.FieldType.int) := by decide +kernel
theorem hH_F_sidesMetFrom : mHH 14 = [] := by decide +kernel
theorem hC_F_isMetFrom : mC 15 = "AcreOffice$Field" := by decide +kernel
theorem hL_F_isMetFrom : mL 15 = 15 := by decide +kernel
theorem hR_F_isMetFrom : mR 15 = (Option.some Jvm.ClassFile.FieldType.boolean) := by decide +kernel
theorem hH_F_isMetFrom : mHH 15 = [] := by decide +kernel
theorem hC_F_sidesAlsoOf : mC 16 = "AcreOffice$Field" := by decide +kernel
theorem hL_F_sidesAlsoOf : mL 16 = 4 := by decide +kernel
theorem hR_F_sidesAlsoOf : mR 16 = (Option.some Jvm.ClassFile.FieldType.int) := by decide +kernel
theorem hH_F_sidesAlsoOf : mHH 16 = [] := by decide +kernel
theorem hC_F_hasSide : mC 17 = "AcreOffice$Field" := by decide +kernel
theorem hL_F_hasSide : mL 17 = 6 := by decide +kernel
theorem hR_F_hasSide : mR 17 = (Option.some Jvm.ClassFile.FieldType.boolean) := by decide +kernel
theorem hH_F_hasSide : mHH 17 = [] := by decide +kernel
theorem hC_F_isSamePoint : mC 18 = "AcreOffice$Field" := by decide +kernel
theorem hL_F_isSamePoint : mL 18 = 4 := by decide +kernel
theorem hR_F_isSamePoint : mR 18 = (Option.some Jvm.ClassFile.FieldType.boolean) := by decide +kernel
theorem hH_F_isSamePoint : mHH 18 = [] := by decide +kernel
theorem hC_F_twiceByCorners : mC 19 = "AcreOffice$Field" := by decide +kernel
theorem hL_F_twiceByCorners : mL 19 = 5 := by decide +kernel
theorem hR_F_twiceByCorners : mR 19 = (Option.some Jvm.ClassFile.FieldType.long) := by decide +kernel
theorem hH_F_twiceByCorners : mHH 19 = [] := by decide +kernel
theorem hC_F_twiceByStrips : mC 20 = "AcreOffice$Field" := by decide +kernel
theorem hL_F_twiceByStrips : mL 20 = 6 := by decide +kernel
theorem hR_F_twiceByStrips : mR 20 = (Option.some Jvm.ClassFile.FieldType.long) := by decide +kernel
theorem hH_F_twiceByStrips : mHH 20 = [] := by decide +kernel
theorem hC_F_area : mC 21 = "AcreOffice$Field" := by decide +kernel
theorem hL_F_area : mL 21 = 1 := by decide +kernel
theorem hR_F_area : mR 21 = (Option.some Jvm.ClassFile.FieldType.long) := by decide +kernel
theorem hH_F_area : mHH 21 = [] := by decide +kernel
theorem hC_F_extentEast : mC 22 = "AcreOffice$Field" := by decide +kernel
theorem hL_F_extentEast : mL 22 = 1 := by decide +kernel
theorem hR_F_extentEast : mR 22 = (Option.some Jvm.ClassFile.FieldType.int) := by decide +kernel
theorem hH_F_extentEast : mHH 22 = [] := by decide +kernel
theorem hC_F_extentNorth : mC 23 = "AcreOffice$Field" := by decide +kernel
theorem hL_F_extentNorth : mL 23 = 1 := by decide +kernel
theorem hR_F_extentNorth : mR 23 = (Option.some Jvm.ClassFile.FieldType.int) := by decide +kernel
theorem hH_F_extentNorth : mHH 23 = [] := by decide +kernel
theorem hC_F_extentOf : mC 24 = "AcreOffice$Field" := by decide +kernel
theorem hL_F_extentOf : mL 24 = 5 := by decide +kernel
theorem hR_F_extentOf : mR 24 = (Option.some Jvm.ClassFile.FieldType.int) := by decide +kernel
theorem hH_F_extentOf : mHH 24 = [] := by decide +kernel
theorem hC_H_init : mC 25 = "AcreOffice$History" := by decide +kernel
theorem hL_H_init : mL 25 = 2 := by decide +kernel
theorem hR_H_init : mR 25 = (Option.none : Option Jvm.ClassFile.FieldType) := by decide +kernel
theorem hH_H_init : mHH 25 = [] := by decide +kernel
theorem hC_H_remember : mC 26 = "AcreOffice$History" := by decide +kernel
theorem hL_H_remember : mL 26 = 2 := by decide +kernel
theorem hR_H_remember : mR 26 = (Option.none : Option Jvm.ClassFile.FieldType) := by decide +kernel
theorem hH_H_remember : mHH 26 = [] := by decide +kernel
theorem hC_H_giveBack : mC 27 = "AcreOffice$History" := by decide +kernel
theorem hL_H_giveBack : mL 27 = 2 := by decide +kernel
theorem hR_H_giveBack : mR 27 = (Option.some Jvm.ClassFile.FieldType.boolean) := by decide +kernel
theorem hH_H_giveBack : mHH 27 = [] := by decide +kernel
theorem hC_O_init : mC 28 = "AcreOffice$Orders" := by decide +kernel
theorem hL_O_init : mL 28 = 1 := by decide +kernel
theorem hR_O_init : mR 28 = (Option.none : Option Jvm.ClassFile.FieldType) := by decide +kernel
theorem hH_O_init : mHH 28 = [] := by decide +kernel
theorem hC_O_append : mC 29 = "AcreOffice$Orders" := by decide +kernel
theorem hL_O_append : mL 29 = 2 := by decide +kernel
theorem hR_O_append : mR 29 = (Option.some Jvm.ClassFile.FieldType.boolean) := by decide +kernel
theorem hH_O_append : mHH 29 = [] := by decide +kernel
theorem hC_O_dropText : mC 30 = "AcreOffice$Orders" := by decide +kernel
theorem hL_O_dropText : mL 30 = 2 := by decide +kernel
theorem hR_O_dropText : mR 30 = (Option.some Jvm.ClassFile.FieldType.int) := by decide +kernel
theorem hH_O_dropText : mHH 30 = [] := by decide +kernel
theorem hC_O_firstError : mC 31 = "AcreOffice$Orders" := by decide +kernel
theorem hL_O_firstError : mL 31 = 2 := by decide +kernel
theorem hR_O_firstError : mR 31 = (Option.some Jvm.ClassFile.FieldType.int) := by decide +kernel
theorem hH_O_firstError : mHH 31 = [] := by decide +kernel
theorem hC_O_accepts : mC 32 = "AcreOffice$Orders" := by decide +kernel
theorem hL_O_accepts : mL 32 = 2 := by decide +kernel
theorem hR_O_accepts : mR 32 = (Option.some Jvm.ClassFile.FieldType.boolean) := by decide +kernel
theorem hH_O_accepts : mHH 32 = [] := by decide +kernel
theorem hC_O_beginOrder : mC 33 = "AcreOffice$Orders" := by decide +kernel
theorem hL_O_beginOrder : mL 33 = 2 := by decide +kernel
theorem hR_O_beginOrder : mR 33 = (Option.some Jvm.ClassFile.FieldType.boolean) := by decide +kernel
theorem hH_O_beginOrder : mHH 33 = [] := by decide +kernel
theorem hC_O_noteKind : mC 34 = "AcreOffice$Orders" := by decide +kernel
theorem hL_O_noteKind : mL 34 = 3 := by decide +kernel
theorem hR_O_noteKind : mR 34 = (Option.some Jvm.ClassFile.FieldType.boolean) := by decide +kernel
theorem hH_O_noteKind : mHH 34 = [] := by decide +kernel
theorem hC_O_endOrder : mC 35 = "AcreOffice$Orders" := by decide +kernel
theorem hL_O_endOrder : mL 35 = 2 := by decide +kernel
theorem hR_O_endOrder : mR 35 = (Option.some Jvm.ClassFile.FieldType.boolean) := by decide +kernel
theorem hH_O_endOrder : mHH 35 = [] := by decide +kernel
theorem hC_O_readField : mC 36 = "AcreOffice$Orders" := by decide +kernel
theorem hL_O_readField : mL 36 = 2 := by decide +kernel
theorem hR_O_readField : mR 36 = (Option.some Jvm.ClassFile.FieldType.boolean) := by decide +kernel
theorem hH_O_readField : mHH 36 = [] := by decide +kernel
theorem hC_O_beginNumber : mC 37 = "AcreOffice$Orders" := by decide +kernel
theorem hL_O_beginNumber : mL 37 = 4 := by decide +kernel
theorem hR_O_beginNumber : mR 37 = (Option.some Jvm.ClassFile.FieldType.boolean) := by decide +kernel
theorem hH_O_beginNumber : mHH 37 = [] := by decide +kernel
theorem hC_O_growNumber : mC 38 = "AcreOffice$Orders" := by decide +kernel
theorem hL_O_growNumber : mL 38 = 4 := by decide +kernel
theorem hR_O_growNumber : mR 38 = (Option.some Jvm.ClassFile.FieldType.boolean) := by decide +kernel
theorem hH_O_growNumber : mHH 38 = [] := by decide +kernel
theorem hC_O_endEast : mC 39 = "AcreOffice$Orders" := by decide +kernel
theorem hL_O_endEast : mL 39 = 2 := by decide +kernel
theorem hR_O_endEast : mR 39 = (Option.some Jvm.ClassFile.FieldType.boolean) := by decide +kernel
theorem hH_O_endEast : mHH 39 = [] := by decide +kernel
theorem hC_O_endNorth : mC 40 = "AcreOffice$Orders" := by decide +kernel
theorem hL_O_endNorth : mL 40 = 2 := by decide +kernel
theorem hR_O_endNorth : mR 40 = (Option.some Jvm.ClassFile.FieldType.boolean) := by decide +kernel
theorem hH_O_endNorth : mHH 40 = [] := by decide +kernel
theorem hC_O_noteLength : mC 41 = "AcreOffice$Orders" := by decide +kernel
theorem hL_O_noteLength : mL 41 = 1 := by decide +kernel
theorem hR_O_noteLength : mR 41 = (Option.some Jvm.ClassFile.FieldType.boolean) := by decide +kernel
theorem hH_O_noteLength : mHH 41 = [] := by decide +kernel
theorem hC_O_note : mC 42 = "AcreOffice$Orders" := by decide +kernel
theorem hL_O_note : mL 42 = 4 := by decide +kernel
theorem hR_O_note : mR 42 = (Option.none : Option Jvm.ClassFile.FieldType) := by decide +kernel
theorem hH_O_note : mHH 42 = [] := by decide +kernel
theorem hC_O_firstFailureOn : mC 43 = "AcreOffice$Orders" := by decide +kernel
theorem hL_O_firstFailureOn : mL 43 = 3 := by decide +kernel
theorem hR_O_firstFailureOn : mR 43 = (Option.some Jvm.ClassFile.FieldType.int) := by decide +kernel
theorem hH_O_firstFailureOn : mHH 43 = [] := by decide +kernel
theorem hC_O_isCarriedOut : mC 44 = "AcreOffice$Orders" := by decide +kernel
theorem hL_O_isCarriedOut : mL 44 = 3 := by decide +kernel
theorem hR_O_isCarriedOut : mR 44 = (Option.some Jvm.ClassFile.FieldType.boolean) := by decide +kernel
theorem hH_O_isCarriedOut : mHH 44 = [] := by decide +kernel
theorem hC_S_init : mC 45 = "AcreOffice$State" := by decide +kernel
theorem hL_S_init : mL 45 = 2 := by decide +kernel
theorem hR_S_init : mR 45 = (Option.none : Option Jvm.ClassFile.FieldType) := by decide +kernel
theorem hH_S_init : mHH 45 = [] := by decide +kernel
theorem hC_S_copyFrom : mC 46 = "AcreOffice$State" := by decide +kernel
theorem hL_S_copyFrom : mL 46 = 3 := by decide +kernel
theorem hR_S_copyFrom : mR 46 = (Option.none : Option Jvm.ClassFile.FieldType) := by decide +kernel
theorem hH_S_copyFrom : mHH 46 = [] := by decide +kernel
theorem hC_S_hasField : mC 47 = "AcreOffice$State" := by decide +kernel
theorem hL_S_hasField : mL 47 = 2 := by decide +kernel
theorem hR_S_hasField : mR 47 = (Option.some Jvm.ClassFile.FieldType.boolean) := by decide +kernel
theorem hH_S_hasField : mHH 47 = [] := by decide +kernel
theorem hC_S_keepTraverse : mC 48 = "AcreOffice$State" := by decide +kernel
theorem hL_S_keepTraverse : mL 48 = 3 := by decide +kernel
theorem hR_S_keepTraverse : mR 48 = (Option.some Jvm.ClassFile.FieldType.boolean) := by decide +kernel
theorem hH_S_keepTraverse : mHH 48 = [] := by decide +kernel
theorem hC_S_dropField : mC 49 = "AcreOffice$State" := by decide +kernel
theorem hL_S_dropField : mL 49 = 3 := by decide +kernel
theorem hR_S_dropField : mR 49 = (Option.some Jvm.ClassFile.FieldType.boolean) := by decide +kernel
theorem hH_S_dropField : mHH 49 = [] := by decide +kernel
theorem hC_S_fieldOfGreatestArea : mC 50 = "AcreOffice$State" := by decide +kernel
theorem hL_S_fieldOfGreatestArea : mL 50 = 7 := by decide +kernel
theorem hR_S_fieldOfGreatestArea : mR 50 = (Option.some Jvm.ClassFile.FieldType.int) := by decide +kernel
theorem hH_S_fieldOfGreatestArea : mHH 50 = [] := by decide +kernel
theorem hC_S_sumOfTwiceAreas : mC 51 = "AcreOffice$State" := by decide +kernel
theorem hL_S_sumOfTwiceAreas : mL 51 = 4 := by decide +kernel
theorem hR_S_sumOfTwiceAreas : mR 51 = (Option.some Jvm.ClassFile.FieldType.long) := by decide +kernel
theorem hH_S_sumOfTwiceAreas : mHH 51 = [] := by decide +kernel
theorem hC_T_init : mC 52 = "AcreOffice$Traverse" := by decide +kernel
theorem hL_T_init : mL 52 = 1 := by decide +kernel
theorem hR_T_init : mR 52 = (Option.none : Option Jvm.ClassFile.FieldType) := by decide +kernel
theorem hH_T_init : mHH 52 = [] := by decide +kernel
theorem hC_T_copyFrom : mC 53 = "AcreOffice$Traverse" := by decide +kernel
theorem hL_T_copyFrom : mL 53 = 2 := by decide +kernel
theorem hR_T_copyFrom : mR 53 = (Option.none : Option Jvm.ClassFile.FieldType) := by decide +kernel
theorem hH_T_copyFrom : mHH 53 = [] := by decide +kernel
theorem hC_T_append : mC 54 = "AcreOffice$Traverse" := by decide +kernel
theorem hL_T_append : mL 54 = 4 := by decide +kernel
theorem hR_T_append : mR 54 = (Option.some Jvm.ClassFile.FieldType.boolean) := by decide +kernel
theorem hH_T_append : mHH 54 = [] := by decide +kernel
theorem hC_T_dropLast : mC 55 = "AcreOffice$Traverse" := by decide +kernel
theorem hL_T_dropLast : mL 55 = 1 := by decide +kernel
theorem hR_T_dropLast : mR 55 = (Option.some Jvm.ClassFile.FieldType.boolean) := by decide +kernel
theorem hH_T_dropLast : mHH 55 = [] := by decide +kernel
theorem hC_T_dropAllLegs : mC 56 = "AcreOffice$Traverse" := by decide +kernel
theorem hL_T_dropAllLegs : mL 56 = 1 := by decide +kernel
theorem hR_T_dropAllLegs : mR 56 = (Option.none : Option Jvm.ClassFile.FieldType) := by decide +kernel
theorem hH_T_dropAllLegs : mHH 56 = [] := by decide +kernel
theorem hC_T_moveOrigin : mC 57 = "AcreOffice$Traverse" := by decide +kernel
theorem hL_T_moveOrigin : mL 57 = 3 := by decide +kernel
theorem hR_T_moveOrigin : mR 57 = (Option.none : Option Jvm.ClassFile.FieldType) := by decide +kernel
theorem hH_T_moveOrigin : mHH 57 = [] := by decide +kernel
theorem hC_T_hasCorner : mC 58 = "AcreOffice$Traverse" := by decide +kernel
theorem hL_T_hasCorner : mL 58 = 2 := by decide +kernel
theorem hR_T_hasCorner : mR 58 = (Option.some Jvm.ClassFile.FieldType.boolean) := by decide +kernel
theorem hH_T_hasCorner : mHH 58 = [] := by decide +kernel
theorem hC_T_measuredLength : mC 59 = "AcreOffice$Traverse" := by decide +kernel
theorem hL_T_measuredLength : mL 59 = 1 := by decide +kernel
theorem hR_T_measuredLength : mR 59 = (Option.some Jvm.ClassFile.FieldType.int) := by decide +kernel
theorem hH_T_measuredLength : mHH 59 = [] := by decide +kernel
theorem hC_T_closingEast : mC 60 = "AcreOffice$Traverse" := by decide +kernel
theorem hL_T_closingEast : mL 60 = 1 := by decide +kernel
theorem hR_T_closingEast : mR 60 = (Option.some Jvm.ClassFile.FieldType.int) := by decide +kernel
theorem hH_T_closingEast : mHH 60 = [] := by decide +kernel
theorem hC_T_closingNorth : mC 61 = "AcreOffice$Traverse" := by decide +kernel
theorem hL_T_closingNorth : mL 61 = 1 := by decide +kernel
theorem hR_T_closingNorth : mR 61 = (Option.some Jvm.ClassFile.FieldType.int) := by decide +kernel
theorem hH_T_closingNorth : mHH 61 = [] := by decide +kernel
theorem hC_T_closesWell : mC 62 = "AcreOffice$Traverse" := by decide +kernel
theorem hL_T_closesWell : mL 62 = 2 := by decide +kernel
theorem hR_T_closesWell : mR 62 = (Option.some Jvm.ClassFile.FieldType.boolean) := by decide +kernel
theorem hH_T_closesWell : mHH 62 = [] := by decide +kernel
theorem hC_T_adjustedEastAt : mC 63 = "AcreOffice$Traverse" := by decide +kernel
theorem hL_T_adjustedEastAt : mL 63 = 2 := by decide +kernel
theorem hR_T_adjustedEastAt : mR 63 = (Option.some Jvm.ClassFile.FieldType.int) := by decide +kernel
theorem hH_T_adjustedEastAt : mHH 63 = [] := by decide +kernel
theorem hC_T_adjustedNorthAt : mC 64 = "AcreOffice$Traverse" := by decide +kernel
theorem hL_T_adjustedNorthAt : mL 64 = 2 := by decide +kernel
theorem hR_T_adjustedNorthAt : mR 64 = (Option.some Jvm.ClassFile.FieldType.int) := by decide +kernel
theorem hH_T_adjustedNorthAt : mHH 64 = [] := by decide +kernel
theorem hC_T_shareOf : mC 65 = "AcreOffice$Traverse" := by decide +kernel
theorem hL_T_shareOf : mL 65 = 7 := by decide +kernel
theorem hR_T_shareOf : mR 65 = (Option.some Jvm.ClassFile.FieldType.int) := by decide +kernel
theorem hH_T_shareOf : mHH 65 = [] := by decide +kernel
theorem hC_A_init : mC 66 = "AcreOffice" := by decide +kernel
theorem hL_A_init : mL 66 = 1 := by decide +kernel
theorem hR_A_init : mR 66 = (Option.none : Option Jvm.ClassFile.FieldType) := by decide +kernel
theorem hH_A_init : mHH 66 = [] := by decide +kernel
theorem hC_A_addLeg : mC 67 = "AcreOffice" := by decide +kernel
theorem hL_A_addLeg : mL 67 = 4 := by decide +kernel
theorem hR_A_addLeg : mR 67 = (Option.some Jvm.ClassFile.FieldType.int) := by decide +kernel
theorem hH_A_addLeg : mHH 67 = [] := by decide +kernel
theorem hC_A_takeBack : mC 68 = "AcreOffice" := by decide +kernel
theorem hL_A_takeBack : mL 68 = 1 := by decide +kernel
theorem hR_A_takeBack : mR 68 = (Option.some Jvm.ClassFile.FieldType.int) := by decide +kernel
theorem hH_A_takeBack : mHH 68 = [] := by decide +kernel
theorem hC_A_setOrigin : mC 69 = "AcreOffice" := by decide +kernel
theorem hL_A_setOrigin : mL 69 = 3 := by decide +kernel
theorem hR_A_setOrigin : mR 69 = (Option.some Jvm.ClassFile.FieldType.int) := by decide +kernel
theorem hH_A_setOrigin : mHH 69 = [] := by decide +kernel
theorem hC_A_keep : mC 70 = "AcreOffice" := by decide +kernel
theorem hL_A_keep : mL 70 = 1 := by decide +kernel
theorem hR_A_keep : mR 70 = (Option.some Jvm.ClassFile.FieldType.int) := by decide +kernel
theorem hH_A_keep : mHH 70 = [] := by decide +kernel
theorem hC_A_giveUp : mC 71 = "AcreOffice" := by decide +kernel
theorem hL_A_giveUp : mL 71 = 2 := by decide +kernel
theorem hR_A_giveUp : mR 71 = (Option.some Jvm.ClassFile.FieldType.int) := by decide +kernel
theorem hH_A_giveUp : mHH 71 = [] := by decide +kernel
theorem hC_A_type : mC 72 = "AcreOffice" := by decide +kernel
theorem hL_A_type : mL 72 = 2 := by decide +kernel
theorem hR_A_type : mR 72 = (Option.some Jvm.ClassFile.FieldType.int) := by decide +kernel
theorem hH_A_type : mHH 72 = [] := by decide +kernel
theorem hC_A_clearText : mC 73 = "AcreOffice" := by decide +kernel
theorem hL_A_clearText : mL 73 = 1 := by decide +kernel
theorem hR_A_clearText : mR 73 = (Option.some Jvm.ClassFile.FieldType.int) := by decide +kernel
theorem hH_A_clearText : mHH 73 = [] := by decide +kernel
theorem hC_A_textError : mC 74 = "AcreOffice" := by decide +kernel
theorem hL_A_textError : mL 74 = 1 := by decide +kernel
theorem hR_A_textError : mR 74 = (Option.some Jvm.ClassFile.FieldType.int) := by decide +kernel
theorem hH_A_textError : mHH 74 = [] := by decide +kernel
theorem hC_A_impossibleOrder : mC 75 = "AcreOffice" := by decide +kernel
theorem hL_A_impossibleOrder : mL 75 = 1 := by decide +kernel
theorem hR_A_impossibleOrder : mR 75 = (Option.some Jvm.ClassFile.FieldType.int) := by decide +kernel
theorem hH_A_impossibleOrder : mHH 75 = [] := by decide +kernel
theorem hC_A_carryOut : mC 76 = "AcreOffice" := by decide +kernel
theorem hL_A_carryOut : mL 76 = 1 := by decide +kernel
theorem hR_A_carryOut : mR 76 = (Option.some Jvm.ClassFile.FieldType.int) := by decide +kernel
theorem hH_A_carryOut : mHH 76 = [] := by decide +kernel
theorem hC_A_undo : mC 77 = "AcreOffice" := by decide +kernel
theorem hL_A_undo : mL 77 = 1 := by decide +kernel
theorem hR_A_undo : mR 77 = (Option.some Jvm.ClassFile.FieldType.int) := by decide +kernel
theorem hH_A_undo : mHH 77 = [] := by decide +kernel
theorem hC_A_takeSnapshot : mC 78 = "AcreOffice" := by decide +kernel
theorem hL_A_takeSnapshot : mL 78 = 1 := by decide +kernel
theorem hR_A_takeSnapshot : mR 78 = (Option.some Jvm.ClassFile.FieldType.int) := by decide +kernel
theorem hH_A_takeSnapshot : mHH 78 = [] := by decide +kernel
theorem hC_A_restoreSnapshot : mC 79 = "AcreOffice" := by decide +kernel
theorem hL_A_restoreSnapshot : mL 79 = 1 := by decide +kernel
theorem hR_A_restoreSnapshot : mR 79 = (Option.some Jvm.ClassFile.FieldType.int) := by decide +kernel
theorem hH_A_restoreSnapshot : mHH 79 = [] := by decide +kernel
theorem hC_A_legs : mC 80 = "AcreOffice" := by decide +kernel
theorem hL_A_legs : mL 80 = 1 := by decide +kernel
theorem hR_A_legs : mR 80 = (Option.some Jvm.ClassFile.FieldType.int) := by decide +kernel
theorem hH_A_legs : mHH 80 = [] := by decide +kernel
theorem hC_A_traverseLength : mC 81 = "AcreOffice" := by decide +kernel
theorem hL_A_traverseLength : mL 81 = 1 := by decide +kernel
theorem hR_A_traverseLength : mR 81 = (Option.some Jvm.ClassFile.FieldType.int) := by decide +kernel
theorem hH_A_traverseLength : mHH 81 = [] := by decide +kernel
theorem hC_A_errorEast : mC 82 = "AcreOffice" := by decide +kernel
theorem hL_A_errorEast : mL 82 = 1 := by decide +kernel
theorem hR_A_errorEast : mR 82 = (Option.some Jvm.ClassFile.FieldType.int) := by decide +kernel
theorem hH_A_errorEast : mHH 82 = [] := by decide +kernel
theorem hC_A_errorNorth : mC 83 = "AcreOffice" := by decide +kernel
theorem hL_A_errorNorth : mL 83 = 1 := by decide +kernel
theorem hR_A_errorNorth : mR 83 = (Option.some Jvm.ClassFile.FieldType.int) := by decide +kernel
theorem hH_A_errorNorth : mHH 83 = [] := by decide +kernel
theorem hC_A_isClose : mC 84 = "AcreOffice" := by decide +kernel
theorem hL_A_isClose : mL 84 = 1 := by decide +kernel
theorem hR_A_isClose : mR 84 = (Option.some Jvm.ClassFile.FieldType.boolean) := by decide +kernel
theorem hH_A_isClose : mHH 84 = [] := by decide +kernel
theorem hC_A_adjustedEast : mC 85 = "AcreOffice" := by decide +kernel
theorem hL_A_adjustedEast : mL 85 = 2 := by decide +kernel
theorem hR_A_adjustedEast : mR 85 = (Option.some Jvm.ClassFile.FieldType.int) := by decide +kernel
theorem hH_A_adjustedEast : mHH 85 = [] := by decide +kernel
theorem hC_A_adjustedNorth : mC 86 = "AcreOffice" := by decide +kernel
theorem hL_A_adjustedNorth : mL 86 = 2 := by decide +kernel
theorem hR_A_adjustedNorth : mR 86 = (Option.some Jvm.ClassFile.FieldType.int) := by decide +kernel
theorem hH_A_adjustedNorth : mHH 86 = [] := by decide +kernel
theorem hC_A_fields : mC 87 = "AcreOffice" := by decide +kernel
theorem hL_A_fields : mL 87 = 1 := by decide +kernel
theorem hR_A_fields : mR 87 = (Option.some Jvm.ClassFile.FieldType.int) := by decide +kernel
theorem hH_A_fields : mHH 87 = [] := by decide +kernel
theorem hC_A_cornersOf : mC 88 = "AcreOffice" := by decide +kernel
theorem hL_A_cornersOf : mL 88 = 2 := by decide +kernel
theorem hR_A_cornersOf : mR 88 = (Option.some Jvm.ClassFile.FieldType.int) := by decide +kernel
theorem hH_A_cornersOf : mHH 88 = [] := by decide +kernel
theorem hC_A_cornerEast : mC 89 = "AcreOffice" := by decide +kernel
theorem hL_A_cornerEast : mL 89 = 3 := by decide +kernel
theorem hR_A_cornerEast : mR 89 = (Option.some Jvm.ClassFile.FieldType.int) := by decide +kernel
theorem hH_A_cornerEast : mHH 89 = [] := by decide +kernel
theorem hC_A_cornerNorth : mC 90 = "AcreOffice" := by decide +kernel
theorem hL_A_cornerNorth : mL 90 = 3 := by decide +kernel
theorem hR_A_cornerNorth : mR 90 = (Option.some Jvm.ClassFile.FieldType.int) := by decide +kernel
theorem hH_A_cornerNorth : mHH 90 = [] := by decide +kernel
theorem hC_A_leftTurns : mC 91 = "AcreOffice" := by decide +kernel
theorem hL_A_leftTurns : mL 91 = 2 := by decide +kernel
theorem hR_A_leftTurns : mR 91 = (Option.some Jvm.ClassFile.FieldType.int) := by decide +kernel
theorem hH_A_leftTurns : mHH 91 = [] := by decide +kernel
theorem hC_A_turnsOneWay : mC 92 = "AcreOffice" := by decide +kernel
theorem hL_A_turnsOneWay : mL 92 = 3 := by decide +kernel
theorem hR_A_turnsOneWay : mR 92 = (Option.some Jvm.ClassFile.FieldType.boolean) := by decide +kernel
theorem hH_A_turnsOneWay : mHH 92 = [] := by decide +kernel
theorem hC_A_sidesEastOf : mC 93 = "AcreOffice" := by decide +kernel
theorem hL_A_sidesEastOf : mL 93 = 5 := by decide +kernel
theorem hR_A_sidesEastOf : mR 93 = (Option.some Jvm.ClassFile.FieldType.int) := by decide +kernel
theorem hH_A_sidesEastOf : mHH 93 = [] := by decide +kernel
theorem hC_A_sharedSides : mC 94 = "AcreOffice" := by decide +kernel
theorem hL_A_sharedSides : mL 94 = 5 := by decide +kernel
theorem hR_A_sharedSides : mR 94 = (Option.some Jvm.ClassFile.FieldType.int) := by decide +kernel
theorem hH_A_sharedSides : mHH 94 = [] := by decide +kernel
theorem hC_A_twiceAreaByCorners : mC 95 = "AcreOffice" := by decide +kernel
theorem hL_A_twiceAreaByCorners : mL 95 = 2 := by decide +kernel
theorem hR_A_twiceAreaByCorners : mR 95 = (Option.some Jvm.ClassFile.FieldType.long) := by decide +kernel
theorem hH_A_twiceAreaByCorners : mHH 95 = [] := by decide +kernel
theorem hC_A_twiceAreaByStrips : mC 96 = "AcreOffice" := by decide +kernel
theorem hL_A_twiceAreaByStrips : mL 96 = 2 := by decide +kernel
theorem hR_A_twiceAreaByStrips : mR 96 = (Option.some Jvm.ClassFile.FieldType.long) := by decide +kernel
theorem hH_A_twiceAreaByStrips : mHH 96 = [] := by decide +kernel
theorem hC_A_acresOf : mC 97 = "AcreOffice" := by decide +kernel
theorem hL_A_acresOf : mL 97 = 2 := by decide +kernel
theorem hR_A_acresOf : mR 97 = (Option.some Jvm.ClassFile.FieldType.int) := by decide +kernel
theorem hH_A_acresOf : mHH 97 = [] := by decide +kernel
theorem hC_A_roodsOf : mC 98 = "AcreOffice" := by decide +kernel
theorem hL_A_roodsOf : mL 98 = 2 := by decide +kernel
theorem hR_A_roodsOf : mR 98 = (Option.some Jvm.ClassFile.FieldType.int) := by decide +kernel
theorem hH_A_roodsOf : mHH 98 = [] := by decide +kernel
theorem hC_A_perchesOf : mC 99 = "AcreOffice" := by decide +kernel
theorem hL_A_perchesOf : mL 99 = 2 := by decide +kernel
theorem hR_A_perchesOf : mR 99 = (Option.some Jvm.ClassFile.FieldType.int) := by decide +kernel
theorem hH_A_perchesOf : mHH 99 = [] := by decide +kernel
theorem hC_A_largestField : mC 100 = "AcreOffice" := by decide +kernel
theorem hL_A_largestField : mL 100 = 1 := by decide +kernel
theorem hR_A_largestField : mR 100 = (Option.some Jvm.ClassFile.FieldType.int) := by decide +kernel
theorem hH_A_largestField : mHH 100 = [] := by decide +kernel
theorem hC_A_twiceAreaOfAll : mC 101 = "AcreOffice" := by decide +kernel
theorem hL_A_twiceAreaOfAll : mL 101 = 1 := by decide +kernel
theorem hR_A_twiceAreaOfAll : mR 101 = (Option.some Jvm.ClassFile.FieldType.long) := by decide +kernel
theorem hH_A_twiceAreaOfAll : mHH 101 = [] := by decide +kernel
theorem hC_A_sheetsFor : mC 102 = "AcreOffice" := by decide +kernel
theorem hL_A_sheetsFor : mL 102 = 5 := by decide +kernel
theorem hR_A_sheetsFor : mR 102 = (Option.some Jvm.ClassFile.FieldType.int) := by decide +kernel
theorem hH_A_sheetsFor : mHH 102 = [] := by decide +kernel
theorem hC_A_scaleFor : mC 103 = "AcreOffice" := by decide +kernel
theorem hL_A_scaleFor : mL 103 = 5 := by decide +kernel
theorem hR_A_scaleFor : mR 103 = (Option.some Jvm.ClassFile.FieldType.int) := by decide +kernel
theorem hH_A_scaleFor : mHH 103 = [] := by decide +kernel
theorem hC_A_recordedStates : mC 104 = "AcreOffice" := by decide +kernel
theorem hL_A_recordedStates : mL 104 = 1 := by decide +kernel
theorem hR_A_recordedStates : mR 104 = (Option.some Jvm.ClassFile.FieldType.int) := by decide +kernel
theorem hH_A_recordedStates : mHH 104 = [] := by decide +kernel
theorem hC_A_beginTrial : mC 105 = "AcreOffice" := by decide +kernel
theorem hL_A_beginTrial : mL 105 = 1 := by decide +kernel
theorem hR_A_beginTrial : mR 105 = (Option.none : Option Jvm.ClassFile.FieldType) := by decide +kernel
theorem hH_A_beginTrial : mHH 105 = [] := by decide +kernel
theorem hC_A_settleTrial : mC 106 = "AcreOffice" := by decide +kernel
theorem hL_A_settleTrial : mL 106 = 1 := by decide +kernel
theorem hR_A_settleTrial : mR 106 = (Option.none : Option Jvm.ClassFile.FieldType) := by decide +kernel
theorem hH_A_settleTrial : mHH 106 = [] := by decide +kernel
theorem hC_A_knownField : mC 107 = "AcreOffice" := by decide +kernel
theorem hL_A_knownField : mL 107 = 2 := by decide +kernel
theorem hR_A_knownField : mR 107 = (Option.some (Jvm.ClassFile.FieldType.object "AcreOffice$Field")) := by decide +kernel
theorem hH_A_knownField : mHH 107 = [] := by decide +kernel
theorem hC_A_fieldWithCorner : mC 108 = "AcreOffice" := by decide +kernel
theorem hL_A_fieldWithCorner : mL 108 = 4 := by decide +kernel
theorem hR_A_fieldWithCorner : mR 108 = (Option.some (Jvm.ClassFile.FieldType.object "AcreOffice$Field")) := by decide +kernel
theorem hH_A_fieldWithCorner : mHH 108 = [] := by decide +kernel
theorem hC_A_isWithin : mC 109 = "AcreOffice" := by decide +kernel
theorem hL_A_isWithin : mL 109 = 2 := by decide +kernel
theorem hR_A_isWithin : mR 109 = (Option.some Jvm.ClassFile.FieldType.boolean) := by decide +kernel
theorem hH_A_isWithin : mHH 109 = [] := by decide +kernel
theorem hC_A_cellOf : mC 110 = "AcreOffice" := by decide +kernel
theorem hL_A_cellOf : mL 110 = 2 := by decide +kernel
theorem hR_A_cellOf : mR 110 = (Option.some Jvm.ClassFile.FieldType.int) := by decide +kernel
theorem hH_A_cellOf : mHH 110 = [] := by decide +kernel
theorem hC_A_piecesNeeded : mC 111 = "AcreOffice" := by decide +kernel
theorem hL_A_piecesNeeded : mL 111 = 2 := by decide +kernel
theorem hR_A_piecesNeeded : mR 111 = (Option.some Jvm.ClassFile.FieldType.int) := by decide +kernel
theorem hH_A_piecesNeeded : mHH 111 = [] := by decide +kernel
theorem hC_M_init : mC 112 = "AcreOfficeModel" := by decide +kernel
theorem hL_M_init : mL 112 = 1 := by decide +kernel
theorem hR_M_init : mR 112 = (Option.none : Option Jvm.ClassFile.FieldType) := by decide +kernel
theorem hH_M_init : mHH 112 = [] := by decide +kernel
theorem hC_M_thrown : mC 113 = "AcreOfficeModel" := by decide +kernel
theorem hL_M_thrown : mL 113 = 1 := by decide +kernel
theorem hR_M_thrown : mR 113 = (Option.some Jvm.ClassFile.FieldType.int) := by decide +kernel
theorem hH_M_thrown : mHH 113 = [] := by decide +kernel
theorem hC_M_in : mC 114 = "AcreOfficeModel" := by decide +kernel
theorem hL_M_in : mL 114 = 3 := by decide +kernel
theorem hR_M_in : mR 114 = (Option.some Jvm.ClassFile.FieldType.boolean) := by decide +kernel
theorem hH_M_in : mHH 114 = [] := by decide +kernel
theorem hC_M_holds : mC 115 = "AcreOfficeModel" := by decide +kernel
theorem hL_M_holds : mL 115 = 2 := by decide +kernel
theorem hR_M_holds : mR 115 = (Option.some Jvm.ClassFile.FieldType.boolean) := by decide +kernel
theorem hH_M_holds : mHH 115 = [] := by decide +kernel
theorem hC_M_isField : mC 116 = "AcreOfficeModel" := by decide +kernel
theorem hL_M_isField : mL 116 = 2 := by decide +kernel
theorem hR_M_isField : mR 116 = (Option.some Jvm.ClassFile.FieldType.boolean) := by decide +kernel
theorem hH_M_isField : mHH 116 = [] := by decide +kernel
theorem hC_M_corners : mC 117 = "AcreOfficeModel" := by decide +kernel
theorem hL_M_corners : mL 117 = 2 := by decide +kernel
theorem hR_M_corners : mR 117 = (Option.some Jvm.ClassFile.FieldType.int) := by decide +kernel
theorem hH_M_corners : mHH 117 = [] := by decide +kernel
theorem hC_M_isCorner : mC 118 = "AcreOfficeModel" := by decide +kernel
theorem hL_M_isCorner : mL 118 = 3 := by decide +kernel
theorem hR_M_isCorner : mR 118 = (Option.some Jvm.ClassFile.FieldType.boolean) := by decide +kernel
theorem hH_M_isCorner : mHH 118 = [] := by decide +kernel
theorem hC_M_part : mC 119 = "AcreOfficeModel" := by decide +kernel
theorem hL_M_part : mL 119 = 5 := by decide +kernel
theorem hR_M_part : mR 119 = (Option.some Jvm.ClassFile.FieldType.int) := by decide +kernel
theorem hH_M_part : mHH 119 = [] := by decide +kernel
theorem hC_M_records : mC 120 = "AcreOfficeModel" := by decide +kernel
theorem hL_M_records : mL 120 = 2 := by decide +kernel
theorem hR_M_records : mR 120 = (Option.none : Option Jvm.ClassFile.FieldType) := by decide +kernel
theorem hH_M_records : mHH 120 = [] := by decide +kernel
theorem hC_M_putAside : mC 121 = "AcreOfficeModel" := by decide +kernel
theorem hL_M_putAside : mL 121 = 2 := by decide +kernel
theorem hR_M_putAside : mR 121 = (Option.none : Option Jvm.ClassFile.FieldType) := by decide +kernel
theorem hH_M_putAside : mHH 121 = [] := by decide +kernel
theorem hC_M_putBack : mC 122 = "AcreOfficeModel" := by decide +kernel
theorem hL_M_putBack : mL 122 = 2 := by decide +kernel
theorem hR_M_putBack : mR 122 = (Option.none : Option Jvm.ClassFile.FieldType) := by decide +kernel
theorem hH_M_putBack : mHH 122 = [] := by decide +kernel
theorem hC_M_sizeOf : mC 123 = "AcreOfficeModel" := by decide +kernel
theorem hL_M_sizeOf : mL 123 = 2 := by decide +kernel
theorem hR_M_sizeOf : mR 123 = (Option.some Jvm.ClassFile.FieldType.long) := by decide +kernel
theorem hH_M_sizeOf : mHH 123 = [] := by decide +kernel
theorem hC_M_before : mC 124 = "AcreOfficeModel" := by decide +kernel
theorem hL_M_before : mL 124 = 5 := by decide +kernel
theorem hR_M_before : mR 124 = (Option.some Jvm.ClassFile.FieldType.int) := by decide +kernel
theorem hH_M_before : mHH 124 = [] := by decide +kernel
theorem hC_M_error : mC 125 = "AcreOfficeModel" := by decide +kernel
theorem hL_M_error : mL 125 = 2 := by decide +kernel
theorem hR_M_error : mR 125 = (Option.some Jvm.ClassFile.FieldType.int) := by decide +kernel
theorem hH_M_error : mHH 125 = [] := by decide +kernel
theorem hC_M_close : mC 126 = "AcreOfficeModel" := by decide +kernel
theorem hL_M_close : mL 126 = 1 := by decide +kernel
theorem hR_M_close : mR 126 = (Option.some Jvm.ClassFile.FieldType.boolean) := by decide +kernel
theorem hH_M_close : mHH 126 = [] := by decide +kernel
theorem hC_M_floor : mC 127 = "AcreOfficeModel" := by decide +kernel
theorem hL_M_floor : mL 127 = 6 := by decide +kernel
theorem hR_M_floor : mR 127 = (Option.some Jvm.ClassFile.FieldType.long) := by decide +kernel
theorem hH_M_floor : mHH 127 = [] := by decide +kernel
theorem hC_M_adjusted : mC 128 = "AcreOfficeModel" := by decide +kernel
theorem hL_M_adjusted : mL 128 = 4 := by decide +kernel
theorem hR_M_adjusted : mR 128 = (Option.some Jvm.ClassFile.FieldType.int) := by decide +kernel
theorem hH_M_adjusted : mHH 128 = [] := by decide +kernel
theorem hC_M_change : mC 129 = "AcreOfficeModel" := by decide +kernel
theorem hL_M_change : mL 129 = 4 := by decide +kernel
theorem hR_M_change : mR 129 = (Option.some Jvm.ClassFile.FieldType.long) := by decide +kernel
theorem hH_M_change : mHH 129 = [] := by decide +kernel
theorem hC_M_twice : mC 130 = "AcreOfficeModel" := by decide +kernel
theorem hL_M_twice : mL 130 = 9 := by decide +kernel
theorem hR_M_twice : mR 130 = (Option.some Jvm.ClassFile.FieldType.long) := by decide +kernel
theorem hH_M_twice : mHH 130 = [] := by decide +kernel
theorem hC_M_turn : mC 131 = "AcreOfficeModel" := by decide +kernel
theorem hL_M_turn : mL 131 = 4 := by decide +kernel
theorem hR_M_turn : mR 131 = (Option.some Jvm.ClassFile.FieldType.long) := by decide +kernel
theorem hH_M_turn : mHH 131 = [] := by decide +kernel
theorem hC_M_turns : mC 132 = "AcreOfficeModel" := by decide +kernel
theorem hL_M_turns : mL 132 = 7 := by decide +kernel
theorem hR_M_turns : mR 132 = (Option.some Jvm.ClassFile.FieldType.int) := by decide +kernel
theorem hH_M_turns : mHH 132 = [] := by decide +kernel
theorem hC_M_isEast : mC 133 = "AcreOfficeModel" := by decide +kernel
theorem hL_M_isEast : mL 133 = 11 := by decide +kernel
theorem hR_M_isEast : mR 133 = (Option.some Jvm.ClassFile.FieldType.boolean) := by decide +kernel
theorem hH_M_isEast : mHH 133 = [] := by decide +kernel
theorem hC_M_isSame : mC 134 = "AcreOfficeModel" := by decide +kernel
theorem hL_M_isSame : mL 134 = 5 := by decide +kernel
theorem hR_M_isSame : mR 134 = (Option.some Jvm.ClassFile.FieldType.boolean) := by decide +kernel
theorem hH_M_isSame : mHH 134 = [] := by decide +kernel
theorem hC_M_isShared : mC 135 = "AcreOfficeModel" := by decide +kernel
theorem hL_M_isShared : mL 135 = 6 := by decide +kernel
theorem hR_M_isShared : mR 135 = (Option.some Jvm.ClassFile.FieldType.boolean) := by decide +kernel
theorem hH_M_isShared : mHH 135 = [] := by decide +kernel
theorem hC_M_extent : mC 136 = "AcreOfficeModel" := by decide +kernel
theorem hL_M_extent : mL 136 = 7 := by decide +kernel
theorem hR_M_extent : mR 136 = (Option.some Jvm.ClassFile.FieldType.int) := by decide +kernel
theorem hH_M_extent : mHH 136 = [] := by decide +kernel
theorem hC_M_wrongLeg : mC 137 = "AcreOfficeModel" := by decide +kernel
theorem hL_M_wrongLeg : mL 137 = 5 := by decide +kernel
theorem hR_M_wrongLeg : mR 137 = (Option.some Jvm.ClassFile.FieldType.int) := by decide +kernel
theorem hH_M_wrongLeg : mHH 137 = [] := by decide +kernel
theorem hC_M_adds : mC 138 = "AcreOfficeModel" := by decide +kernel
theorem hL_M_adds : mL 138 = 5 := by decide +kernel
theorem hR_M_adds : mR 138 = (Option.some Jvm.ClassFile.FieldType.int) := by decide +kernel
theorem hH_M_adds : mHH 138 = [] := by decide +kernel
theorem hC_M_takes : mC 139 = "AcreOfficeModel" := by decide +kernel
theorem hL_M_takes : mL 139 = 2 := by decide +kernel
theorem hR_M_takes : mR 139 = (Option.some Jvm.ClassFile.FieldType.int) := by decide +kernel
theorem hH_M_takes : mHH 139 = [] := by decide +kernel
theorem hC_M_lays : mC 140 = "AcreOfficeModel" := by decide +kernel
theorem hL_M_lays : mL 140 = 3 := by decide +kernel
theorem hR_M_lays : mR 140 = (Option.none : Option Jvm.ClassFile.FieldType) := by decide +kernel
theorem hH_M_lays : mHH 140 = [] := by decide +kernel
theorem hC_M_empties : mC 141 = "AcreOfficeModel" := by decide +kernel
theorem hL_M_empties : mL 141 = 3 := by decide +kernel
theorem hR_M_empties : mR 141 = (Option.none : Option Jvm.ClassFile.FieldType) := by decide +kernel
theorem hH_M_empties : mHH 141 = [] := by decide +kernel
theorem hC_M_canKeep : mC 142 = "AcreOfficeModel" := by decide +kernel
theorem hL_M_canKeep : mL 142 = 2 := by decide +kernel
theorem hR_M_canKeep : mR 142 = (Option.some Jvm.ClassFile.FieldType.boolean) := by decide +kernel
theorem hH_M_canKeep : mHH 142 = [] := by decide +kernel
theorem hC_M_keeps : mC 143 = "AcreOfficeModel" := by decide +kernel
theorem hL_M_keeps : mL 143 = 2 := by decide +kernel
theorem hR_M_keeps : mR 143 = (Option.some Jvm.ClassFile.FieldType.int) := by decide +kernel
theorem hH_M_keeps : mHH 143 = [] := by decide +kernel
theorem hC_M_gives : mC 144 = "AcreOfficeModel" := by decide +kernel
theorem hL_M_gives : mL 144 = 3 := by decide +kernel
theorem hR_M_gives : mR 144 = (Option.some Jvm.ClassFile.FieldType.int) := by decide +kernel
theorem hH_M_gives : mHH 144 = [] := by decide +kernel
theorem hC_M_addLeg : mC 145 = "AcreOfficeModel" := by decide +kernel
theorem hL_M_addLeg : mL 145 = 4 := by decide +kernel
theorem hR_M_addLeg : mR 145 = (Option.some Jvm.ClassFile.FieldType.int) := by decide +kernel
theorem hH_M_addLeg : mHH 145 = [] := by decide +kernel
theorem hC_M_takeBack : mC 146 = "AcreOfficeModel" := by decide +kernel
theorem hL_M_takeBack : mL 146 = 1 := by decide +kernel
theorem hR_M_takeBack : mR 146 = (Option.some Jvm.ClassFile.FieldType.int) := by decide +kernel
theorem hH_M_takeBack : mHH 146 = [] := by decide +kernel
theorem hC_M_setOrigin : mC 147 = "AcreOfficeModel" := by decide +kernel
theorem hL_M_setOrigin : mL 147 = 3 := by decide +kernel
theorem hR_M_setOrigin : mR 147 = (Option.some Jvm.ClassFile.FieldType.int) := by decide +kernel
theorem hH_M_setOrigin : mHH 147 = [] := by decide +kernel
theorem hC_M_keep : mC 148 = "AcreOfficeModel" := by decide +kernel
theorem hL_M_keep : mL 148 = 1 := by decide +kernel
theorem hR_M_keep : mR 148 = (Option.some Jvm.ClassFile.FieldType.int) := by decide +kernel
theorem hH_M_keep : mHH 148 = [] := by decide +kernel
theorem hC_M_giveUp : mC 149 = "AcreOfficeModel" := by decide +kernel
theorem hL_M_giveUp : mL 149 = 2 := by decide +kernel
theorem hR_M_giveUp : mR 149 = (Option.some Jvm.ClassFile.FieldType.int) := by decide +kernel
theorem hH_M_giveUp : mHH 149 = [] := by decide +kernel
theorem hC_M_type : mC 150 = "AcreOfficeModel" := by decide +kernel
theorem hL_M_type : mL 150 = 2 := by decide +kernel
theorem hR_M_type : mR 150 = (Option.some Jvm.ClassFile.FieldType.int) := by decide +kernel
theorem hH_M_type : mHH 150 = [] := by decide +kernel
theorem hC_M_clearText : mC 151 = "AcreOfficeModel" := by decide +kernel
theorem hL_M_clearText : mL 151 = 2 := by decide +kernel
theorem hR_M_clearText : mR 151 = (Option.some Jvm.ClassFile.FieldType.int) := by decide +kernel
theorem hH_M_clearText : mHH 151 = [] := by decide +kernel
theorem hC_M_charAt : mC 152 = "AcreOfficeModel" := by decide +kernel
theorem hL_M_charAt : mL 152 = 2 := by decide +kernel
theorem hR_M_charAt : mR 152 = (Option.some Jvm.ClassFile.FieldType.int) := by decide +kernel
theorem hH_M_charAt : mHH 152 = [] := by decide +kernel
theorem hC_M_behindNumber : mC 153 = "AcreOfficeModel" := by decide +kernel
theorem hL_M_behindNumber : mL 153 = 6 := by decide +kernel
theorem hR_M_behindNumber : mR 153 = (Option.some Jvm.ClassFile.FieldType.int) := by decide +kernel
theorem hH_M_behindNumber : mHH 153 = [] := by decide +kernel
theorem hC_M_numberIn : mC 154 = "AcreOfficeModel" := by decide +kernel
theorem hL_M_numberIn : mL 154 = 5 := by decide +kernel
theorem hR_M_numberIn : mR 154 = (Option.some Jvm.ClassFile.FieldType.int) := by decide +kernel
theorem hH_M_numberIn : mHH 154 = [] := by decide +kernel
theorem hC_M_behindLeg : mC 155 = "AcreOfficeModel" := by decide +kernel
theorem hL_M_behindLeg : mL 155 = 5 := by decide +kernel
theorem hR_M_behindLeg : mR 155 = (Option.some Jvm.ClassFile.FieldType.int) := by decide +kernel
theorem hH_M_behindLeg : mHH 155 = [] := by decide +kernel
theorem hC_M_behindOrder : mC 156 = "AcreOfficeModel" := by decide +kernel
theorem hL_M_behindOrder : mL 156 = 3 := by decide +kernel
theorem hR_M_behindOrder : mR 156 = (Option.some Jvm.ClassFile.FieldType.int) := by decide +kernel
theorem hH_M_behindOrder : mHH 156 = [] := by decide +kernel
theorem hC_M_wrong : mC 157 = "AcreOfficeModel" := by decide +kernel
theorem hL_M_wrong : mL 157 = 3 := by decide +kernel
theorem hR_M_wrong : mR 157 = (Option.some Jvm.ClassFile.FieldType.int) := by decide +kernel
theorem hH_M_wrong : mHH 157 = [] := by decide +kernel
theorem hC_M_textError : mC 158 = "AcreOfficeModel" := by decide +kernel
theorem hL_M_textError : mL 158 = 1 := by decide +kernel
theorem hR_M_textError : mR 158 = (Option.some Jvm.ClassFile.FieldType.int) := by decide +kernel
theorem hH_M_textError : mHH 158 = [] := by decide +kernel
theorem hC_M_doesLeg : mC 159 = "AcreOfficeModel" := by decide +kernel
theorem hL_M_doesLeg : mL 159 = 9 := by decide +kernel
theorem hR_M_doesLeg : mR 159 = (Option.some Jvm.ClassFile.FieldType.boolean) := by decide +kernel
theorem hH_M_doesLeg : mHH 159 = [] := by decide +kernel
theorem hC_M_does : mC 160 = "AcreOfficeModel" := by decide +kernel
theorem hL_M_does : mL 160 = 6 := by decide +kernel
theorem hR_M_does : mR 160 = (Option.some Jvm.ClassFile.FieldType.boolean) := by decide +kernel
theorem hH_M_does : mHH 160 = [] := by decide +kernel
theorem hC_M_doesAll : mC 161 = "AcreOfficeModel" := by decide +kernel
theorem hL_M_doesAll : mL 161 = 3 := by decide +kernel
theorem hR_M_doesAll : mR 161 = (Option.some Jvm.ClassFile.FieldType.int) := by decide +kernel
theorem hH_M_doesAll : mHH 161 = [] := by decide +kernel
theorem hC_M_stops : mC 162 = "AcreOfficeModel" := by decide +kernel
theorem hL_M_stops : mL 162 = 2 := by decide +kernel
theorem hR_M_stops : mR 162 = (Option.some Jvm.ClassFile.FieldType.int) := by decide +kernel
theorem hH_M_stops : mHH 162 = [] := by decide +kernel
theorem hC_M_impossibleOrder : mC 163 = "AcreOfficeModel" := by decide +kernel
theorem hL_M_impossibleOrder : mL 163 = 1 := by decide +kernel
theorem hR_M_impossibleOrder : mR 163 = (Option.some Jvm.ClassFile.FieldType.int) := by decide +kernel
theorem hH_M_impossibleOrder : mHH 163 = [] := by decide +kernel
theorem hC_M_carryOut : mC 164 = "AcreOfficeModel" := by decide +kernel
theorem hL_M_carryOut : mL 164 = 4 := by decide +kernel
theorem hR_M_carryOut : mR 164 = (Option.some Jvm.ClassFile.FieldType.int) := by decide +kernel
theorem hH_M_carryOut : mHH 164 = [] := by decide +kernel
theorem hC_M_undo : mC 165 = "AcreOfficeModel" := by decide +kernel
theorem hL_M_undo : mL 165 = 2 := by decide +kernel
theorem hR_M_undo : mR 165 = (Option.some Jvm.ClassFile.FieldType.int) := by decide +kernel
theorem hH_M_undo : mHH 165 = [] := by decide +kernel
theorem hC_M_takeSnapshot : mC 166 = "AcreOfficeModel" := by decide +kernel
theorem hL_M_takeSnapshot : mL 166 = 2 := by decide +kernel
theorem hR_M_takeSnapshot : mR 166 = (Option.some Jvm.ClassFile.FieldType.int) := by decide +kernel
theorem hH_M_takeSnapshot : mHH 166 = [] := by decide +kernel
theorem hC_M_restoreSnapshot : mC 167 = "AcreOfficeModel" := by decide +kernel
theorem hL_M_restoreSnapshot : mL 167 = 2 := by decide +kernel
theorem hR_M_restoreSnapshot : mR 167 = (Option.some Jvm.ClassFile.FieldType.int) := by decide +kernel
theorem hH_M_restoreSnapshot : mHH 167 = [] := by decide +kernel
theorem hC_M_legs : mC 168 = "AcreOfficeModel" := by decide +kernel
theorem hL_M_legs : mL 168 = 1 := by decide +kernel
theorem hR_M_legs : mR 168 = (Option.some Jvm.ClassFile.FieldType.int) := by decide +kernel
theorem hH_M_legs : mHH 168 = [] := by decide +kernel
theorem hC_M_traverseLength : mC 169 = "AcreOfficeModel" := by decide +kernel
theorem hL_M_traverseLength : mL 169 = 1 := by decide +kernel
theorem hR_M_traverseLength : mR 169 = (Option.some Jvm.ClassFile.FieldType.int) := by decide +kernel
theorem hH_M_traverseLength : mHH 169 = [] := by decide +kernel
theorem hC_M_errorEast : mC 170 = "AcreOfficeModel" := by decide +kernel
theorem hL_M_errorEast : mL 170 = 1 := by decide +kernel
theorem hR_M_errorEast : mR 170 = (Option.some Jvm.ClassFile.FieldType.int) := by decide +kernel
theorem hH_M_errorEast : mHH 170 = [] := by decide +kernel
theorem hC_M_errorNorth : mC 171 = "AcreOfficeModel" := by decide +kernel
theorem hL_M_errorNorth : mL 171 = 1 := by decide +kernel
theorem hR_M_errorNorth : mR 171 = (Option.some Jvm.ClassFile.FieldType.int) := by decide +kernel
theorem hH_M_errorNorth : mHH 171 = [] := by decide +kernel
theorem hC_M_isClose : mC 172 = "AcreOfficeModel" := by decide +kernel
theorem hL_M_isClose : mL 172 = 1 := by decide +kernel
theorem hR_M_isClose : mR 172 = (Option.some Jvm.ClassFile.FieldType.boolean) := by decide +kernel
theorem hH_M_isClose : mHH 172 = [] := by decide +kernel
theorem hC_M_adjustedEast : mC 173 = "AcreOfficeModel" := by decide +kernel
theorem hL_M_adjustedEast : mL 173 = 2 := by decide +kernel
theorem hR_M_adjustedEast : mR 173 = (Option.some Jvm.ClassFile.FieldType.int) := by decide +kernel
theorem hH_M_adjustedEast : mHH 173 = [] := by decide +kernel
theorem hC_M_adjustedNorth : mC 174 = "AcreOfficeModel" := by decide +kernel
theorem hL_M_adjustedNorth : mL 174 = 2 := by decide +kernel
theorem hR_M_adjustedNorth : mR 174 = (Option.some Jvm.ClassFile.FieldType.int) := by decide +kernel
theorem hH_M_adjustedNorth : mHH 174 = [] := by decide +kernel
theorem hC_M_fields : mC 175 = "AcreOfficeModel" := by decide +kernel
theorem hL_M_fields : mL 175 = 1 := by decide +kernel
theorem hR_M_fields : mR 175 = (Option.some Jvm.ClassFile.FieldType.int) := by decide +kernel
theorem hH_M_fields : mHH 175 = [] := by decide +kernel
theorem hC_M_cornersOf : mC 176 = "AcreOfficeModel" := by decide +kernel
theorem hL_M_cornersOf : mL 176 = 2 := by decide +kernel
theorem hR_M_cornersOf : mR 176 = (Option.some Jvm.ClassFile.FieldType.int) := by decide +kernel
theorem hH_M_cornersOf : mHH 176 = [] := by decide +kernel
theorem hC_M_cornerEast : mC 177 = "AcreOfficeModel" := by decide +kernel
theorem hL_M_cornerEast : mL 177 = 3 := by decide +kernel
theorem hR_M_cornerEast : mR 177 = (Option.some Jvm.ClassFile.FieldType.int) := by decide +kernel
theorem hH_M_cornerEast : mHH 177 = [] := by decide +kernel
theorem hC_M_cornerNorth : mC 178 = "AcreOfficeModel" := by decide +kernel
theorem hL_M_cornerNorth : mL 178 = 3 := by decide +kernel
theorem hR_M_cornerNorth : mR 178 = (Option.some Jvm.ClassFile.FieldType.int) := by decide +kernel
theorem hH_M_cornerNorth : mHH 178 = [] := by decide +kernel
theorem hC_M_leftTurns : mC 179 = "AcreOfficeModel" := by decide +kernel
theorem hL_M_leftTurns : mL 179 = 2 := by decide +kernel
theorem hR_M_leftTurns : mR 179 = (Option.some Jvm.ClassFile.FieldType.int) := by decide +kernel
theorem hH_M_leftTurns : mHH 179 = [] := by decide +kernel
theorem hC_M_turnsOneWay : mC 180 = "AcreOfficeModel" := by decide +kernel
theorem hL_M_turnsOneWay : mL 180 = 2 := by decide +kernel
theorem hR_M_turnsOneWay : mR 180 = (Option.some Jvm.ClassFile.FieldType.boolean) := by decide +kernel
theorem hH_M_turnsOneWay : mHH 180 = [] := by decide +kernel
theorem hC_M_sidesEastOf : mC 181 = "AcreOfficeModel" := by decide +kernel
theorem hL_M_sidesEastOf : mL 181 = 6 := by decide +kernel
theorem hR_M_sidesEastOf : mR 181 = (Option.some Jvm.ClassFile.FieldType.int) := by decide +kernel
theorem hH_M_sidesEastOf : mHH 181 = [] := by decide +kernel
theorem hC_M_sharedSides : mC 182 = "AcreOfficeModel" := by decide +kernel
theorem hL_M_sharedSides : mL 182 = 5 := by decide +kernel
theorem hR_M_sharedSides : mR 182 = (Option.some Jvm.ClassFile.FieldType.int) := by decide +kernel
theorem hH_M_sharedSides : mHH 182 = [] := by decide +kernel
theorem hC_M_twiceAreaByCorners : mC 183 = "AcreOfficeModel" := by decide +kernel
theorem hL_M_twiceAreaByCorners : mL 183 = 2 := by decide +kernel
theorem hR_M_twiceAreaByCorners : mR 183 = (Option.some Jvm.ClassFile.FieldType.long) := by decide +kernel
theorem hH_M_twiceAreaByCorners : mHH 183 = [] := by decide +kernel
theorem hC_M_twiceAreaByStrips : mC 184 = "AcreOfficeModel" := by decide +kernel
theorem hL_M_twiceAreaByStrips : mL 184 = 2 := by decide +kernel
theorem hR_M_twiceAreaByStrips : mR 184 = (Option.some Jvm.ClassFile.FieldType.long) := by decide +kernel
theorem hH_M_twiceAreaByStrips : mHH 184 = [] := by decide +kernel
theorem hC_M_area : mC 185 = "AcreOfficeModel" := by decide +kernel
theorem hL_M_area : mL 185 = 2 := by decide +kernel
theorem hR_M_area : mR 185 = (Option.some Jvm.ClassFile.FieldType.long) := by decide +kernel
theorem hH_M_area : mHH 185 = [] := by decide +kernel
theorem hC_M_acresOf : mC 186 = "AcreOfficeModel" := by decide +kernel
theorem hL_M_acresOf : mL 186 = 2 := by decide +kernel
theorem hR_M_acresOf : mR 186 = (Option.some Jvm.ClassFile.FieldType.int) := by decide +kernel
theorem hH_M_acresOf : mHH 186 = [] := by decide +kernel
theorem hC_M_roodsOf : mC 187 = "AcreOfficeModel" := by decide +kernel
theorem hL_M_roodsOf : mL 187 = 2 := by decide +kernel
theorem hR_M_roodsOf : mR 187 = (Option.some Jvm.ClassFile.FieldType.int) := by decide +kernel
theorem hH_M_roodsOf : mHH 187 = [] := by decide +kernel
theorem hC_M_perchesOf : mC 188 = "AcreOfficeModel" := by decide +kernel
theorem hL_M_perchesOf : mL 188 = 2 := by decide +kernel
theorem hR_M_perchesOf : mR 188 = (Option.some Jvm.ClassFile.FieldType.int) := by decide +kernel
theorem hH_M_perchesOf : mHH 188 = [] := by decide +kernel
theorem hC_M_largestField : mC 189 = "AcreOfficeModel" := by decide +kernel
theorem hL_M_largestField : mL 189 = 3 := by decide +kernel
theorem hR_M_largestField : mR 189 = (Option.some Jvm.ClassFile.FieldType.int) := by decide +kernel
theorem hH_M_largestField : mHH 189 = [] := by decide +kernel
theorem hC_M_twiceAreaOfAll : mC 190 = "AcreOfficeModel" := by decide +kernel
theorem hL_M_twiceAreaOfAll : mL 190 = 4 := by decide +kernel
theorem hR_M_twiceAreaOfAll : mR 190 = (Option.some Jvm.ClassFile.FieldType.long) := by decide +kernel
theorem hH_M_twiceAreaOfAll : mHH 190 = [] := by decide +kernel
theorem hC_M_up : mC 191 = "AcreOfficeModel" := by decide +kernel
theorem hL_M_up : mL 191 = 3 := by decide +kernel
theorem hR_M_up : mR 191 = (Option.some Jvm.ClassFile.FieldType.int) := by decide +kernel
theorem hH_M_up : mHH 191 = [] := by decide +kernel
theorem hC_M_sheetsFor : mC 192 = "AcreOfficeModel" := by decide +kernel
theorem hL_M_sheetsFor : mL 192 = 3 := by decide +kernel
theorem hR_M_sheetsFor : mR 192 = (Option.some Jvm.ClassFile.FieldType.int) := by decide +kernel
theorem hH_M_sheetsFor : mHH 192 = [] := by decide +kernel
theorem hC_M_scaleFor : mC 193 = "AcreOfficeModel" := by decide +kernel
theorem hL_M_scaleFor : mL 193 = 5 := by decide +kernel
theorem hR_M_scaleFor : mR 193 = (Option.some Jvm.ClassFile.FieldType.int) := by decide +kernel
theorem hH_M_scaleFor : mHH 193 = [] := by decide +kernel
theorem hC_M_recordedStates : mC 194 = "AcreOfficeModel" := by decide +kernel
theorem hL_M_recordedStates : mL 194 = 1 := by decide +kernel
theorem hR_M_recordedStates : mR 194 = (Option.some Jvm.ClassFile.FieldType.int) := by decide +kernel
theorem hH_M_recordedStates : mHH 194 = [] := by decide +kernel
theorem hC_J_floorDiv : mC 195 = "java/lang/Math" := by decide +kernel
theorem hL_J_floorDiv : mL 195 = 6 := by decide +kernel
theorem hR_J_floorDiv : mR 195 = (Option.some Jvm.ClassFile.FieldType.long) := by decide +kernel
theorem hH_J_floorDiv : mHH 195 = [] := by decide +kernel
theorem hC_J_absI : mC 196 = "java/lang/Math" := by decide +kernel
theorem hL_J_absI : mL 196 = 1 := by decide +kernel
theorem hR_J_absI : mR 196 = (Option.some Jvm.ClassFile.FieldType.int) := by decide +kernel
theorem hH_J_absI : mHH 196 = [] := by decide +kernel
theorem hC_J_absL : mC 197 = "java/lang/Math" := by decide +kernel
theorem hL_J_absL : mL 197 = 2 := by decide +kernel
theorem hR_J_absL : mR 197 = (Option.some Jvm.ClassFile.FieldType.long) := by decide +kernel
theorem hH_J_absL : mHH 197 = [] := by decide +kernel
theorem hC_J_max : mC 198 = "java/lang/Math" := by decide +kernel
theorem hL_J_max : mL 198 = 2 := by decide +kernel
theorem hR_J_max : mR 198 = (Option.some Jvm.ClassFile.FieldType.int) := by decide +kernel
theorem hH_J_max : mHH 198 = [] := by decide +kernel
theorem hC_J_min : mC 199 = "java/lang/Math" := by decide +kernel
theorem hL_J_min : mL 199 = 2 := by decide +kernel
theorem hR_J_min : mR 199 = (Option.some Jvm.ClassFile.FieldType.int) := by decide +kernel
theorem hH_J_min : mHH 199 = [] := by decide +kernel
theorem hC_L_addLeg : mC 200 = "AcreOfficeLaw" := by decide +kernel
theorem hL_L_addLeg : mL 200 = 6 := by decide +kernel
theorem hR_L_addLeg : mR 200 = (Option.some Jvm.ClassFile.FieldType.int) := by decide +kernel
theorem hH_L_addLeg : mHH 200 = [(0, 12, 15, 13), (0, 12, 19, 15)] := by decide +kernel
theorem hC_L_takeBack : mC 201 = "AcreOfficeLaw" := by decide +kernel
theorem hL_L_takeBack : mL 201 = 3 := by decide +kernel
theorem hR_L_takeBack : mR 201 = (Option.some Jvm.ClassFile.FieldType.int) := by decide +kernel
theorem hH_L_takeBack : mHH 201 = [(0, 8, 11, 15)] := by decide +kernel
theorem hC_L_setOrigin : mC 202 = "AcreOfficeLaw" := by decide +kernel
theorem hL_L_setOrigin : mL 202 = 5 := by decide +kernel
theorem hR_L_setOrigin : mR 202 = (Option.some Jvm.ClassFile.FieldType.int) := by decide +kernel
theorem hH_L_setOrigin : mHH 202 = [(0, 10, 13, 13)] := by decide +kernel
theorem hC_L_keep : mC 203 = "AcreOfficeLaw" := by decide +kernel
theorem hL_L_keep : mL 203 = 3 := by decide +kernel
theorem hR_L_keep : mR 203 = (Option.some Jvm.ClassFile.FieldType.int) := by decide +kernel
theorem hH_L_keep : mHH 203 = [(0, 8, 11, 15)] := by decide +kernel
theorem hC_L_giveUp : mC 204 = "AcreOfficeLaw" := by decide +kernel
theorem hL_L_giveUp : mL 204 = 4 := by decide +kernel
theorem hR_L_giveUp : mR 204 = (Option.some Jvm.ClassFile.FieldType.int) := by decide +kernel
theorem hH_L_giveUp : mHH 204 = [(0, 9, 12, 32)] := by decide +kernel
theorem hC_L_type : mC 205 = "AcreOfficeLaw" := by decide +kernel
theorem hL_L_type : mL 205 = 4 := by decide +kernel
theorem hR_L_type : mR 205 = (Option.some Jvm.ClassFile.FieldType.int) := by decide +kernel
theorem hH_L_type : mHH 205 = [(0, 9, 12, 15)] := by decide +kernel
theorem hC_L_impossibleOrder : mC 206 = "AcreOfficeLaw" := by decide +kernel
theorem hL_L_impossibleOrder : mL 206 = 3 := by decide +kernel
theorem hR_L_impossibleOrder : mR 206 = (Option.some Jvm.ClassFile.FieldType.int) := by decide +kernel
theorem hH_L_impossibleOrder : mHH 206 = [(0, 8, 11, 15)] := by decide +kernel
theorem hC_L_carryOut : mC 207 = "AcreOfficeLaw" := by decide +kernel
theorem hL_L_carryOut : mL 207 = 3 := by decide +kernel
theorem hR_L_carryOut : mR 207 = (Option.some Jvm.ClassFile.FieldType.int) := by decide +kernel
theorem hH_L_carryOut : mHH 207 = [(0, 8, 11, 15)] := by decide +kernel
theorem hC_L_undo : mC 208 = "AcreOfficeLaw" := by decide +kernel
theorem hL_L_undo : mL 208 = 3 := by decide +kernel
theorem hR_L_undo : mR 208 = (Option.some Jvm.ClassFile.FieldType.int) := by decide +kernel
theorem hH_L_undo : mHH 208 = [(0, 8, 11, 15)] := by decide +kernel
theorem hC_L_restoreSnapshot : mC 209 = "AcreOfficeLaw" := by decide +kernel
theorem hL_L_restoreSnapshot : mL 209 = 3 := by decide +kernel
theorem hR_L_restoreSnapshot : mR 209 = (Option.some Jvm.ClassFile.FieldType.int) := by decide +kernel
theorem hH_L_restoreSnapshot : mHH 209 = [(0, 8, 11, 15)] := by decide +kernel
theorem hC_L_adjustedEast : mC 210 = "AcreOfficeLaw" := by decide +kernel
theorem hL_L_adjustedEast : mL 210 = 4 := by decide +kernel
theorem hR_L_adjustedEast : mR 210 = (Option.some Jvm.ClassFile.FieldType.int) := by decide +kernel
theorem hH_L_adjustedEast : mHH 210 = [(0, 9, 12, 32)] := by decide +kernel
theorem hC_L_adjustedNorth : mC 211 = "AcreOfficeLaw" := by decide +kernel
theorem hL_L_adjustedNorth : mL 211 = 4 := by decide +kernel
theorem hR_L_adjustedNorth : mR 211 = (Option.some Jvm.ClassFile.FieldType.int) := by decide +kernel
theorem hH_L_adjustedNorth : mHH 211 = [(0, 9, 12, 32)] := by decide +kernel
theorem hC_L_cornersOf : mC 212 = "AcreOfficeLaw" := by decide +kernel
theorem hL_L_cornersOf : mL 212 = 4 := by decide +kernel
theorem hR_L_cornersOf : mR 212 = (Option.some Jvm.ClassFile.FieldType.int) := by decide +kernel
theorem hH_L_cornersOf : mHH 212 = [(0, 9, 12, 32)] := by decide +kernel
theorem hC_L_cornerEast : mC 213 = "AcreOfficeLaw" := by decide +kernel
theorem hL_L_cornerEast : mL 213 = 5 := by decide +kernel
theorem hR_L_cornerEast : mR 213 = (Option.some Jvm.ClassFile.FieldType.int) := by decide +kernel
theorem hH_L_cornerEast : mHH 213 = [(0, 10, 13, 32)] := by decide +kernel
theorem hC_L_cornerNorth : mC 214 = "AcreOfficeLaw" := by decide +kernel
theorem hL_L_cornerNorth : mL 214 = 5 := by decide +kernel
theorem hR_L_cornerNorth : mR 214 = (Option.some Jvm.ClassFile.FieldType.int) := by decide +kernel
theorem hH_L_cornerNorth : mHH 214 = [(0, 10, 13, 32)] := by decide +kernel
theorem hC_L_leftTurns : mC 215 = "AcreOfficeLaw" := by decide +kernel
theorem hL_L_leftTurns : mL 215 = 4 := by decide +kernel
theorem hR_L_leftTurns : mR 215 = (Option.some Jvm.ClassFile.FieldType.int) := by decide +kernel
theorem hH_L_leftTurns : mHH 215 = [(0, 9, 12, 32)] := by decide +kernel
theorem hC_L_turnsOneWay : mC 216 = "AcreOfficeLaw" := by decide +kernel
theorem hL_L_turnsOneWay : mL 216 = 4 := by decide +kernel
theorem hR_L_turnsOneWay : mR 216 = (Option.some Jvm.ClassFile.FieldType.int) := by decide +kernel
theorem hH_L_turnsOneWay : mHH 216 = [(0, 16, 19, 32)] := by decide +kernel
theorem hC_L_sidesEastOf : mC 217 = "AcreOfficeLaw" := by decide +kernel
theorem hL_L_sidesEastOf : mL 217 = 6 := by decide +kernel
theorem hR_L_sidesEastOf : mR 217 = (Option.some Jvm.ClassFile.FieldType.int) := by decide +kernel
theorem hH_L_sidesEastOf : mHH 217 = [(0, 12, 15, 32), (0, 12, 19, 13)] := by decide +kernel
theorem hC_L_sharedSides : mC 218 = "AcreOfficeLaw" := by decide +kernel
theorem hL_L_sharedSides : mL 218 = 5 := by decide +kernel
theorem hR_L_sharedSides : mR 218 = (Option.some Jvm.ClassFile.FieldType.int) := by decide +kernel
theorem hH_L_sharedSides : mHH 218 = [(0, 10, 13, 32)] := by decide +kernel
theorem hC_L_twiceAreaByCorners : mC 219 = "AcreOfficeLaw" := by decide +kernel
theorem hL_L_twiceAreaByCorners : mL 219 = 4 := by decide +kernel
theorem hR_L_twiceAreaByCorners : mR 219 = (Option.some Jvm.ClassFile.FieldType.int) := by decide +kernel
theorem hH_L_twiceAreaByCorners : mHH 219 = [(0, 8, 11, 32)] := by decide +kernel
theorem hC_L_twiceAreaByStrips : mC 220 = "AcreOfficeLaw" := by decide +kernel
theorem hL_L_twiceAreaByStrips : mL 220 = 4 := by decide +kernel
theorem hR_L_twiceAreaByStrips : mR 220 = (Option.some Jvm.ClassFile.FieldType.int) := by decide +kernel
theorem hH_L_twiceAreaByStrips : mHH 220 = [(0, 8, 11, 32)] := by decide +kernel
theorem hC_L_acresOf : mC 221 = "AcreOfficeLaw" := by decide +kernel
theorem hL_L_acresOf : mL 221 = 4 := by decide +kernel
theorem hR_L_acresOf : mR 221 = (Option.some Jvm.ClassFile.FieldType.int) := by decide +kernel
theorem hH_L_acresOf : mHH 221 = [(0, 9, 12, 32)] := by decide +kernel
theorem hC_L_roodsOf : mC 222 = "AcreOfficeLaw" := by decide +kernel
theorem hL_L_roodsOf : mL 222 = 4 := by decide +kernel
theorem hR_L_roodsOf : mR 222 = (Option.some Jvm.ClassFile.FieldType.int) := by decide +kernel
theorem hH_L_roodsOf : mHH 222 = [(0, 9, 12, 32)] := by decide +kernel
theorem hC_L_perchesOf : mC 223 = "AcreOfficeLaw" := by decide +kernel
theorem hL_L_perchesOf : mL 223 = 4 := by decide +kernel
theorem hR_L_perchesOf : mR 223 = (Option.some Jvm.ClassFile.FieldType.int) := by decide +kernel
theorem hH_L_perchesOf : mHH 223 = [(0, 9, 12, 32)] := by decide +kernel
theorem hC_L_sheetsFor : mC 224 = "AcreOfficeLaw" := by decide +kernel
theorem hL_L_sheetsFor : mL 224 = 5 := by decide +kernel
theorem hR_L_sheetsFor : mR 224 = (Option.some Jvm.ClassFile.FieldType.int) := by decide +kernel
theorem hH_L_sheetsFor : mHH 224 = [(0, 10, 13, 32), (0, 10, 17, 13)] := by decide +kernel
theorem hC_L_scaleFor : mC 225 = "AcreOfficeLaw" := by decide +kernel
theorem hL_L_scaleFor : mL 225 = 4 := by decide +kernel
theorem hR_L_scaleFor : mR 225 = (Option.some Jvm.ClassFile.FieldType.int) := by decide +kernel
theorem hH_L_scaleFor : mHH 225 = [(0, 9, 12, 32)] := by decide +kernel
theorem hC_L_law : mC 226 = "AcreOfficeLaw" := by decide +kernel
theorem hL_L_law : mL 226 = 8 := by decide +kernel
theorem hH_L_law : mHH 226 = [] := by decide +kernel
