theorem hC_F_init : mC 0 = "AcreOffice$Field" := by decide +kernel
theorem hL_F_init : mL 0 = 1 := by decide +kernel
theorem hR_F_init : mR 0 = (Option.none : Option Jvm.ClassFile.FieldType) := by decide +kernel
theorem hH_F_init : mHH 0 = [] := by decide +kernel
theorem hC_F_copyFrom : mC 1 = "AcreOffice$Field" := by decide +kernel
theorem hL_F_copyFrom : mL 1 = 2 := by decide +kernel
theorem hR_F_copyFrom : mR 1 = (Option.none : Option Jvm.ClassFile.FieldType) := by decide +kernel
theorem hH_F_copyFrom : mHH 1 = [] := by decide +kernel
theorem hC_F_dropCorners : mC 2 = "AcreOffice$Field" := by decide +kernel
theorem hL_F_dropCorners : mL 2 = 1 := by decide +kernel
theorem hR_F_dropCorners : mR 2 = (Option.none : Option Jvm.ClassFile.FieldType) := by decide +kernel
theorem hH_F_dropCorners : mHH 2 = [] := by decide +kernel
theorem hC_F_appendCorner : mC 3 = "AcreOffice$Field" := by decide +kernel
theorem hL_F_appendCorner : mL 3 = 3 := by decide +kernel
theorem hR_F_appendCorner : mR 3 = (Option.none : Option Jvm.ClassFile.FieldType) := by decide +kernel
theorem hH_F_appendCorner : mHH 3 = [] := by decide +kernel
theorem hC_F_hasCorner : mC 4 = "AcreOffice$Field" := by decide +kernel
theorem hL_F_hasCorner : mL 4 = 2 := by decide +kernel
theorem hR_F_hasCorner : mR 4 = (Option.some Jvm.ClassFile.FieldType.boolean) := by decide +kernel
theorem hH_F_hasCorner : mHH 4 = [] := by decide +kernel
theorem hC_F_eastAt : mC 5 = "AcreOffice$Field" := by decide +kernel
theorem hL_F_eastAt : mL 5 = 2 := by decide +kernel
theorem hR_F_eastAt : mR 5 = (Option.some Jvm.ClassFile.FieldType.int) := by decide +kernel
theorem hH_F_eastAt : mHH 5 = [] := by decide +kernel
theorem hC_F_northAt : mC 6 = "AcreOffice$Field" := by decide +kernel
theorem hL_F_northAt : mL 6 = 2 := by decide +kernel
theorem hR_F_northAt : mR 6 = (Option.some Jvm.ClassFile.FieldType.int) := by decide +kernel
theorem hH_F_northAt : mHH 6 = [] := by decide +kernel
theorem hC_F_cornerAfter : mC 7 = "AcreOffice$Field" := by decide +kernel
theorem hL_F_cornerAfter : mL 7 = 2 := by decide +kernel
theorem hR_F_cornerAfter : mR 7 = (Option.some Jvm.ClassFile.FieldType.int) := by decide +kernel
theorem hH_F_cornerAfter : mHH 7 = [] := by decide +kernel
theorem hC_F_cornerBefore : mC 8 = "AcreOffice$Field" := by decide +kernel
theorem hL_F_cornerBefore : mL 8 = 2 := by decide +kernel
theorem hR_F_cornerBefore : mR 8 = (Option.some Jvm.ClassFile.FieldType.int) := by decide +kernel
theorem hH_F_cornerBefore : mHH 8 = [] := by decide +kernel
theorem hC_F_sideEast : mC 9 = "AcreOffice$Field" := by decide +kernel
theorem hL_F_sideEast : mL 9 = 2 := by decide +kernel
theorem hR_F_sideEast : mR 9 = (Option.some Jvm.ClassFile.FieldType.long) := by decide +kernel
theorem hH_F_sideEast : mHH 9 = [] := by decide +kernel
theorem hC_F_sideNorth : mC 10 = "AcreOffice$Field" := by decide +kernel
theorem hL_F_sideNorth : mL 10 = 2 := by decide +kernel
theorem hR_F_sideNorth : mR 10 = (Option.some Jvm.ClassFile.FieldType.long) := by decide +kernel
theorem hH_F_sideNorth : mHH 10 = [] := by decide +kernel
theorem hC_F_turnAt : mC 11 = "AcreOffice$Field" := by decide +kernel
theorem hL_F_turnAt : mL 11 = 3 := by decide +kernel
theorem hR_F_turnAt : mR 11 = (Option.some Jvm.ClassFile.FieldType.long) := by decide +kernel
theorem hH_F_turnAt : mHH 11 = [] := by decide +kernel
theorem hC_F_turnsToTheLeft : mC 12 = "AcreOffice$Field" := by decide +kernel
theorem hL_F_turnsToTheLeft : mL 12 = 3 := by decide +kernel
theorem hR_F_turnsToTheLeft : mR 12 = (Option.some Jvm.ClassFile.FieldType.int) := by decide +kernel
theorem hH_F_turnsToTheLeft : mHH 12 = [] := by decide +kernel
theorem hC_F_turnsToTheRight : mC 13 = "AcreOffice$Field" := by decide +kernel
theorem hL_F_turnsToTheRight : mL 13 = 3 := by decide +kernel
theorem hR_F_turnsToTheRight : mR 13 = (Option.some Jvm.ClassFile.FieldType.int) := by decide +kernel
theorem hH_F_turnsToTheRight : mHH 13 = [] := by decide +kernel
theorem hC_F_sidesMetFrom : mC 14 = "AcreOffice$Field" := by decide +kernel
theorem hL_F_sidesMetFrom : mL 14 = 5 := by decide +kernel
theorem hR_F_sidesMetFrom : mR 14 = (Option.some Jvm.ClassFile.FieldType.int) := by decide +kernel
theorem hH_F_sidesMetFrom : mHH 14 = [] := by decide +kernel
theorem hC_F_isMetFrom : mC 15 = "AcreOffice$Field" := by decide +kernel
theorem hL_F_isMetFrom : mL 15 = 15 := by decide +kernel
theorem hR_F_isMetFrom : mR 15 = (Option.some Jvm.ClassFile.FieldType.boolean) := by decide +kernel
theorem hH_F_isMetFrom : mHH 15 = [] := by decide +kernel
theorem hC_F_sidesAlsoOf : mC 16 = "AcreOffice$Field" := by decide +kernel
theorem hL_F_sidesAlsoOf : mL 16 = 4 := by decide +kernel
theorem hR_F_sidesAlsoOf : mR 16 = (Option.some Jvm.ClassFile.FieldType.int) := by decide +kernel
theorem hH_F_sidesAlsoOf : mHH 16 = [] := by decide +kernel
theorem hC_F_hasSide : mC 17 = "AcreOffice$Field" := by decide +kernel
theorem hL_F_hasSide : mL 17 = 6 := by decide +kernel
theorem hR_F_hasSide : mR 17 = (Option.some Jvm.ClassFile.FieldType.boolean) := by decide +kernel
theorem hH_F_hasSide : mHH 17 = [] := by decide +kernel
theorem hC_F_isSamePoint : mC 18 = "AcreOffice$Field" := by decide +kernel
theorem hL_F_isSamePoint : mL 18 = 4 := by decide +kernel
theorem hR_F_isSamePoint : mR 18 = (Option.some Jvm.ClassFile.FieldType.boolean) := by decide +kernel
theorem hH_F_isSamePoint : mHH 18 = [] := by decide +kernel
theorem hC_F_twiceByCorners : mC 19 = "AcreOffice$Field" := by decide +kernel
theorem hL_F_twiceByCorners : mL 19 = 5 := by decide +kernel
theorem hR_F_twiceByCorners : mR 19 = (Option.some Jvm.ClassFile.FieldType.long) := by decide +kernel
theorem hH_F_twiceByCorners : mHH 19 = [] := by decide +kernel
theorem hC_F_twiceByStrips : mC 20 = "AcreOffice$Field" := by decide +kernel
theorem hL_F_twiceByStrips : mL 20 = 6 := by decide +kernel
theorem hR_F_twiceByStrips : mR 20 = (Option.some Jvm.ClassFile.FieldType.long) := by decide +kernel
theorem hH_F_twiceByStrips : mHH 20 = [] := by decide +kernel
theorem hC_F_area : mC 21 = "AcreOffice$Field" := by decide +kernel
theorem hL_F_area : mL 21 = 1 := by decide +kernel
theorem hR_F_area : mR 21 = (Option.some Jvm.ClassFile.FieldType.long) := by decide +kernel
theorem hH_F_area : mHH 21 = [] := by decide +kernel
theorem hC_F_extentEast : mC 22 = "AcreOffice$Field" := by decide +kernel
theorem hL_F_extentEast : mL 22 = 1 := by decide +kernel
theorem hR_F_extentEast : mR 22 = (Option.some Jvm.ClassFile.FieldType.int) := by decide +kernel
theorem hH_F_extentEast : mHH 22 = [] := by decide +kernel
theorem hC_F_extentNorth : mC 23 = "AcreOffice$Field" := by decide +kernel
theorem hL_F_extentNorth : mL 23 = 1 := by decide +kernel
theorem hR_F_extentNorth : mR 23 = (Option.some Jvm.ClassFile.FieldType.int) := by decide +kernel
theorem hH_F_extentNorth : mHH 23 = [] := by decide +kernel
theorem hC_F_extentOf : mC 24 = "AcreOffice$Field" := by decide +kernel
theorem hL_F_extentOf : mL 24 = 5 := by decide +kernel
theorem hR_F_extentOf : mR 24 = (Option.some Jvm.ClassFile.FieldType.int) := by decide +kernel
theorem hH_F_extentOf : mHH 24 = [] := by decide +kernel
theorem hC_H_init : mC 25 = "AcreOffice$History" := by decide +kernel
theorem hL_H_init : mL 25 = 2 := by decide +kernel
theorem hR_H_init : mR 25 = (Option.none : Option Jvm.ClassFile.FieldType) := by decide +kernel
theorem hH_H_init : mHH 25 = [] := by decide +kernel
theorem hC_H_remember : mC 26 = "AcreOffice$History" := by decide +kernel
theorem hL_H_remember : mL 26 = 2 := by decide +kernel
theorem hR_H_remember : mR 26 = (Option.none : Option Jvm.ClassFile.FieldType) := by decide +kernel
theorem hH_H_remember : mHH 26 = [] := by decide +kernel
theorem hC_H_giveBack : mC 27 = "AcreOffice$History" := by decide +kernel
theorem hL_H_giveBack : mL 27 = 2 := by decide +kernel
theorem hR_H_giveBack : mR 27 = (Option.some Jvm.ClassFile.FieldType.boolean) := by decide +kernel
theorem hH_H_giveBack : mHH 27 = [] := by decide +kernel
theorem hC_O_init : mC 28 = "AcreOffice$Orders" := by decide +kernel
theorem hL_O_init : mL 28 = 1 := by decide +kernel
theorem hR_O_init : mR 28 = (Option.none : Option Jvm.ClassFile.FieldType) := by decide +kernel
theorem hH_O_init : mHH 28 = [] := by decide +kernel
theorem hC_S_init : mC 29 = "AcreOffice$State" := by decide +kernel
theorem hL_S_init : mL 29 = 2 := by decide +kernel
theorem hR_S_init : mR 29 = (Option.none : Option Jvm.ClassFile.FieldType) := by decide +kernel
theorem hH_S_init : mHH 29 = [] := by decide +kernel
theorem hC_S_copyFrom : mC 30 = "AcreOffice$State" := by decide +kernel
theorem hL_S_copyFrom : mL 30 = 3 := by decide +kernel
theorem hR_S_copyFrom : mR 30 = (Option.none : Option Jvm.ClassFile.FieldType) := by decide +kernel
theorem hH_S_copyFrom : mHH 30 = [] := by decide +kernel
theorem hC_S_hasField : mC 31 = "AcreOffice$State" := by decide +kernel
theorem hL_S_hasField : mL 31 = 2 := by decide +kernel
theorem hR_S_hasField : mR 31 = (Option.some Jvm.ClassFile.FieldType.boolean) := by decide +kernel
theorem hH_S_hasField : mHH 31 = [] := by decide +kernel
theorem hC_S_keepTraverse : mC 32 = "AcreOffice$State" := by decide +kernel
theorem hL_S_keepTraverse : mL 32 = 3 := by decide +kernel
theorem hR_S_keepTraverse : mR 32 = (Option.some Jvm.ClassFile.FieldType.boolean) := by decide +kernel
theorem hH_S_keepTraverse : mHH 32 = [] := by decide +kernel
theorem hC_S_dropField : mC 33 = "AcreOffice$State" := by decide +kernel
theorem hL_S_dropField : mL 33 = 3 := by decide +kernel
theorem hR_S_dropField : mR 33 = (Option.some Jvm.ClassFile.FieldType.boolean) := by decide +kernel
theorem hH_S_dropField : mHH 33 = [] := by decide +kernel
theorem hC_S_fieldOfGreatestArea : mC 34 = "AcreOffice$State" := by decide +kernel
theorem hL_S_fieldOfGreatestArea : mL 34 = 7 := by decide +kernel
theorem hR_S_fieldOfGreatestArea : mR 34 = (Option.some Jvm.ClassFile.FieldType.int) := by decide +kernel
theorem hH_S_fieldOfGreatestArea : mHH 34 = [] := by decide +kernel
theorem hC_S_sumOfTwiceAreas : mC 35 = "AcreOffice$State" := by decide +kernel
theorem hL_S_sumOfTwiceAreas : mL 35 = 4 := by decide +kernel
theorem hR_S_sumOfTwiceAreas : mR 35 = (Option.some Jvm.ClassFile.FieldType.long) := by decide +kernel
theorem hH_S_sumOfTwiceAreas : mHH 35 = [] := by decide +kernel
theorem hC_T_init : mC 36 = "AcreOffice$Traverse" := by decide +kernel
theorem hL_T_init : mL 36 = 1 := by decide +kernel
theorem hR_T_init : mR 36 = (Option.none : Option Jvm.ClassFile.FieldType) := by decide +kernel
theorem hH_T_init : mHH 36 = [] := by decide +kernel
theorem hC_T_copyFrom : mC 37 = "AcreOffice$Traverse" := by decide +kernel
theorem hL_T_copyFrom : mL 37 = 2 := by decide +kernel
theorem hR_T_copyFrom : mR 37 = (Option.none : Option Jvm.ClassFile.FieldType) := by decide +kernel
theorem hH_T_copyFrom : mHH 37 = [] := by decide +kernel
theorem hC_T_append : mC 38 = "AcreOffice$Traverse" := by decide +kernel
theorem hL_T_append : mL 38 = 4 := by decide +kernel
theorem hR_T_append : mR 38 = (Option.some Jvm.ClassFile.FieldType.boolean) := by decide +kernel
theorem hH_T_append : mHH 38 = [] := by decide +kernel
theorem hC_T_dropLast : mC 39 = "AcreOffice$Traverse" := by decide +kernel
theorem hL_T_dropLast : mL 39 = 1 := by decide +kernel
theorem hR_T_dropLast : mR 39 = (Option.some Jvm.ClassFile.FieldType.boolean) := by decide +kernel
theorem hH_T_dropLast : mHH 39 = [] := by decide +kernel
theorem hC_T_dropAllLegs : mC 40 = "AcreOffice$Traverse" := by decide +kernel
theorem hL_T_dropAllLegs : mL 40 = 1 := by decide +kernel
theorem hR_T_dropAllLegs : mR 40 = (Option.none : Option Jvm.ClassFile.FieldType) := by decide +kernel
theorem hH_T_dropAllLegs : mHH 40 = [] := by decide +kernel
theorem hC_T_moveOrigin : mC 41 = "AcreOffice$Traverse" := by decide +kernel
theorem hL_T_moveOrigin : mL 41 = 3 := by decide +kernel
theorem hR_T_moveOrigin : mR 41 = (Option.none : Option Jvm.ClassFile.FieldType) := by decide +kernel
theorem hH_T_moveOrigin : mHH 41 = [] := by decide +kernel
theorem hC_T_hasCorner : mC 42 = "AcreOffice$Traverse" := by decide +kernel
theorem hL_T_hasCorner : mL 42 = 2 := by decide +kernel
theorem hR_T_hasCorner : mR 42 = (Option.some Jvm.ClassFile.FieldType.boolean) := by decide +kernel
theorem hH_T_hasCorner : mHH 42 = [] := by decide +kernel
theorem hC_T_measuredLength : mC 43 = "AcreOffice$Traverse" := by decide +kernel
theorem hL_T_measuredLength : mL 43 = 1 := by decide +kernel
theorem hR_T_measuredLength : mR 43 = (Option.some Jvm.ClassFile.FieldType.int) := by decide +kernel
theorem hH_T_measuredLength : mHH 43 = [] := by decide +kernel
theorem hC_T_closingEast : mC 44 = "AcreOffice$Traverse" := by decide +kernel
theorem hL_T_closingEast : mL 44 = 1 := by decide +kernel
theorem hR_T_closingEast : mR 44 = (Option.some Jvm.ClassFile.FieldType.int) := by decide +kernel
theorem hH_T_closingEast : mHH 44 = [] := by decide +kernel
theorem hC_T_closingNorth : mC 45 = "AcreOffice$Traverse" := by decide +kernel
theorem hL_T_closingNorth : mL 45 = 1 := by decide +kernel
theorem hR_T_closingNorth : mR 45 = (Option.some Jvm.ClassFile.FieldType.int) := by decide +kernel
theorem hH_T_closingNorth : mHH 45 = [] := by decide +kernel
theorem hC_T_closesWell : mC 46 = "AcreOffice$Traverse" := by decide +kernel
theorem hL_T_closesWell : mL 46 = 2 := by decide +kernel
theorem hR_T_closesWell : mR 46 = (Option.some Jvm.ClassFile.FieldType.boolean) := by decide +kernel
theorem hH_T_closesWell : mHH 46 = [] := by decide +kernel
theorem hC_T_adjustedEastAt : mC 47 = "AcreOffice$Traverse" := by decide +kernel
theorem hL_T_adjustedEastAt : mL 47 = 2 := by decide +kernel
theorem hR_T_adjustedEastAt : mR 47 = (Option.some Jvm.ClassFile.FieldType.int) := by decide +kernel
theorem hH_T_adjustedEastAt : mHH 47 = [] := by decide +kernel
theorem hC_T_adjustedNorthAt : mC 48 = "AcreOffice$Traverse" := by decide +kernel
theorem hL_T_adjustedNorthAt : mL 48 = 2 := by decide +kernel
theorem hR_T_adjustedNorthAt : mR 48 = (Option.some Jvm.ClassFile.FieldType.int) := by decide +kernel
theorem hH_T_adjustedNorthAt : mHH 48 = [] := by decide +kernel
theorem hC_T_shareOf : mC 49 = "AcreOffice$Traverse" := by decide +kernel
theorem hL_T_shareOf : mL 49 = 7 := by decide +kernel
theorem hR_T_shareOf : mR 49 = (Option.some Jvm.ClassFile.FieldType.int) := by decide +kernel
theorem hH_T_shareOf : mHH 49 = [] := by decide +kernel
theorem hC_A_init : mC 50 = "AcreOffice" := by decide +kernel
theorem hL_A_init : mL 50 = 1 := by decide +kernel
theorem hR_A_init : mR 50 = (Option.none : Option Jvm.ClassFile.FieldType) := by decide +kernel
theorem hH_A_init : mHH 50 = [] := by decide +kernel
theorem hC_A_addLeg : mC 51 = "AcreOffice" := by decide +kernel
theorem hL_A_addLeg : mL 51 = 4 := by decide +kernel
theorem hR_A_addLeg : mR 51 = (Option.some Jvm.ClassFile.FieldType.int) := by decide +kernel
theorem hH_A_addLeg : mHH 51 = [] := by decide +kernel
theorem hC_A_takeBack : mC 52 = "AcreOffice" := by decide +kernel
theorem hL_A_takeBack : mL 52 = 1 := by decide +kernel
theorem hR_A_takeBack : mR 52 = (Option.some Jvm.ClassFile.FieldType.int) := by decide +kernel
theorem hH_A_takeBack : mHH 52 = [] := by decide +kernel
theorem hC_A_setOrigin : mC 53 = "AcreOffice" := by decide +kernel
theorem hL_A_setOrigin : mL 53 = 3 := by decide +kernel
theorem hR_A_setOrigin : mR 53 = (Option.some Jvm.ClassFile.FieldType.int) := by decide +kernel
theorem hH_A_setOrigin : mHH 53 = [] := by decide +kernel
theorem hC_A_keep : mC 54 = "AcreOffice" := by decide +kernel
theorem hL_A_keep : mL 54 = 1 := by decide +kernel
theorem hR_A_keep : mR 54 = (Option.some Jvm.ClassFile.FieldType.int) := by decide +kernel
theorem hH_A_keep : mHH 54 = [] := by decide +kernel
theorem hC_A_giveUp : mC 55 = "AcreOffice" := by decide +kernel
theorem hL_A_giveUp : mL 55 = 2 := by decide +kernel
theorem hR_A_giveUp : mR 55 = (Option.some Jvm.ClassFile.FieldType.int) := by decide +kernel
theorem hH_A_giveUp : mHH 55 = [] := by decide +kernel
theorem hC_A_undo : mC 56 = "AcreOffice" := by decide +kernel
theorem hL_A_undo : mL 56 = 1 := by decide +kernel
theorem hR_A_undo : mR 56 = (Option.some Jvm.ClassFile.FieldType.int) := by decide +kernel
theorem hH_A_undo : mHH 56 = [] := by decide +kernel
theorem hC_A_takeSnapshot : mC 57 = "AcreOffice" := by decide +kernel
theorem hL_A_takeSnapshot : mL 57 = 1 := by decide +kernel
theorem hR_A_takeSnapshot : mR 57 = (Option.some Jvm.ClassFile.FieldType.int) := by decide +kernel
theorem hH_A_takeSnapshot : mHH 57 = [] := by decide +kernel
theorem hC_A_restoreSnapshot : mC 58 = "AcreOffice" := by decide +kernel
theorem hL_A_restoreSnapshot : mL 58 = 1 := by decide +kernel
theorem hR_A_restoreSnapshot : mR 58 = (Option.some Jvm.ClassFile.FieldType.int) := by decide +kernel
theorem hH_A_restoreSnapshot : mHH 58 = [] := by decide +kernel
theorem hC_A_legs : mC 59 = "AcreOffice" := by decide +kernel
theorem hL_A_legs : mL 59 = 1 := by decide +kernel
theorem hR_A_legs : mR 59 = (Option.some Jvm.ClassFile.FieldType.int) := by decide +kernel
theorem hH_A_legs : mHH 59 = [] := by decide +kernel
theorem hC_A_traverseLength : mC 60 = "AcreOffice" := by decide +kernel
theorem hL_A_traverseLength : mL 60 = 1 := by decide +kernel
theorem hR_A_traverseLength : mR 60 = (Option.some Jvm.ClassFile.FieldType.int) := by decide +kernel
theorem hH_A_traverseLength : mHH 60 = [] := by decide +kernel
theorem hC_A_errorEast : mC 61 = "AcreOffice" := by decide +kernel
theorem hL_A_errorEast : mL 61 = 1 := by decide +kernel
theorem hR_A_errorEast : mR 61 = (Option.some Jvm.ClassFile.FieldType.int) := by decide +kernel
theorem hH_A_errorEast : mHH 61 = [] := by decide +kernel
theorem hC_A_errorNorth : mC 62 = "AcreOffice" := by decide +kernel
theorem hL_A_errorNorth : mL 62 = 1 := by decide +kernel
theorem hR_A_errorNorth : mR 62 = (Option.some Jvm.ClassFile.FieldType.int) := by decide +kernel
theorem hH_A_errorNorth : mHH 62 = [] := by decide +kernel
theorem hC_A_isClose : mC 63 = "AcreOffice" := by decide +kernel
theorem hL_A_isClose : mL 63 = 1 := by decide +kernel
theorem hR_A_isClose : mR 63 = (Option.some Jvm.ClassFile.FieldType.boolean) := by decide +kernel
theorem hH_A_isClose : mHH 63 = [] := by decide +kernel
theorem hC_A_adjustedEast : mC 64 = "AcreOffice" := by decide +kernel
theorem hL_A_adjustedEast : mL 64 = 2 := by decide +kernel
theorem hR_A_adjustedEast : mR 64 = (Option.some Jvm.ClassFile.FieldType.int) := by decide +kernel
theorem hH_A_adjustedEast : mHH 64 = [] := by decide +kernel
theorem hC_A_adjustedNorth : mC 65 = "AcreOffice" := by decide +kernel
theorem hL_A_adjustedNorth : mL 65 = 2 := by decide +kernel
theorem hR_A_adjustedNorth : mR 65 = (Option.some Jvm.ClassFile.FieldType.int) := by decide +kernel
theorem hH_A_adjustedNorth : mHH 65 = [] := by decide +kernel
theorem hC_A_fields : mC 66 = "AcreOffice" := by decide +kernel
theorem hL_A_fields : mL 66 = 1 := by decide +kernel
theorem hR_A_fields : mR 66 = (Option.some Jvm.ClassFile.FieldType.int) := by decide +kernel
theorem hH_A_fields : mHH 66 = [] := by decide +kernel
theorem hC_A_cornersOf : mC 67 = "AcreOffice" := by decide +kernel
theorem hL_A_cornersOf : mL 67 = 2 := by decide +kernel
theorem hR_A_cornersOf : mR 67 = (Option.some Jvm.ClassFile.FieldType.int) := by decide +kernel
theorem hH_A_cornersOf : mHH 67 = [] := by decide +kernel
theorem hC_A_cornerEast : mC 68 = "AcreOffice" := by decide +kernel
theorem hL_A_cornerEast : mL 68 = 3 := by decide +kernel
theorem hR_A_cornerEast : mR 68 = (Option.some Jvm.ClassFile.FieldType.int) := by decide +kernel
theorem hH_A_cornerEast : mHH 68 = [] := by decide +kernel
theorem hC_A_cornerNorth : mC 69 = "AcreOffice" := by decide +kernel
theorem hL_A_cornerNorth : mL 69 = 3 := by decide +kernel
theorem hR_A_cornerNorth : mR 69 = (Option.some Jvm.ClassFile.FieldType.int) := by decide +kernel
theorem hH_A_cornerNorth : mHH 69 = [] := by decide +kernel
theorem hC_A_leftTurns : mC 70 = "AcreOffice" := by decide +kernel
theorem hL_A_leftTurns : mL 70 = 2 := by decide +kernel
theorem hR_A_leftTurns : mR 70 = (Option.some Jvm.ClassFile.FieldType.int) := by decide +kernel
theorem hH_A_leftTurns : mHH 70 = [] := by decide +kernel
theorem hC_A_turnsOneWay : mC 71 = "AcreOffice" := by decide +kernel
theorem hL_A_turnsOneWay : mL 71 = 3 := by decide +kernel
theorem hR_A_turnsOneWay : mR 71 = (Option.some Jvm.ClassFile.FieldType.boolean) := by decide +kernel
theorem hH_A_turnsOneWay : mHH 71 = [] := by decide +kernel
theorem hC_A_sidesEastOf : mC 72 = "AcreOffice" := by decide +kernel
theorem hL_A_sidesEastOf : mL 72 = 5 := by decide +kernel
theorem hR_A_sidesEastOf : mR 72 = (Option.some Jvm.ClassFile.FieldType.int) := by decide +kernel
theorem hH_A_sidesEastOf : mHH 72 = [] := by decide +kernel
theorem hC_A_sharedSides : mC 73 = "AcreOffice" := by decide +kernel
theorem hL_A_sharedSides : mL 73 = 5 := by decide +kernel
theorem hR_A_sharedSides : mR 73 = (Option.some Jvm.ClassFile.FieldType.int) := by decide +kernel
theorem hH_A_sharedSides : mHH 73 = [] := by decide +kernel
theorem hC_A_twiceAreaByCorners : mC 74 = "AcreOffice" := by decide +kernel
theorem hL_A_twiceAreaByCorners : mL 74 = 2 := by decide +kernel
theorem hR_A_twiceAreaByCorners : mR 74 = (Option.some Jvm.ClassFile.FieldType.long) := by decide +kernel
theorem hH_A_twiceAreaByCorners : mHH 74 = [] := by decide +kernel
theorem hC_A_twiceAreaByStrips : mC 75 = "AcreOffice" := by decide +kernel
theorem hL_A_twiceAreaByStrips : mL 75 = 2 := by decide +kernel
theorem hR_A_twiceAreaByStrips : mR 75 = (Option.some Jvm.ClassFile.FieldType.long) := by decide +kernel
theorem hH_A_twiceAreaByStrips : mHH 75 = [] := by decide +kernel
theorem hC_A_acresOf : mC 76 = "AcreOffice" := by decide +kernel
theorem hL_A_acresOf : mL 76 = 2 := by decide +kernel
theorem hR_A_acresOf : mR 76 = (Option.some Jvm.ClassFile.FieldType.int) := by decide +kernel
theorem hH_A_acresOf : mHH 76 = [] := by decide +kernel
theorem hC_A_roodsOf : mC 77 = "AcreOffice" := by decide +kernel
theorem hL_A_roodsOf : mL 77 = 2 := by decide +kernel
theorem hR_A_roodsOf : mR 77 = (Option.some Jvm.ClassFile.FieldType.int) := by decide +kernel
theorem hH_A_roodsOf : mHH 77 = [] := by decide +kernel
theorem hC_A_perchesOf : mC 78 = "AcreOffice" := by decide +kernel
theorem hL_A_perchesOf : mL 78 = 2 := by decide +kernel
theorem hR_A_perchesOf : mR 78 = (Option.some Jvm.ClassFile.FieldType.int) := by decide +kernel
theorem hH_A_perchesOf : mHH 78 = [] := by decide +kernel
theorem hC_A_largestField : mC 79 = "AcreOffice" := by decide +kernel
theorem hL_A_largestField : mL 79 = 1 := by decide +kernel
theorem hR_A_largestField : mR 79 = (Option.some Jvm.ClassFile.FieldType.int) := by decide +kernel
theorem hH_A_largestField : mHH 79 = [] := by decide +kernel
theorem hC_A_twiceAreaOfAll : mC 80 = "AcreOffice" := by decide +kernel
theorem hL_A_twiceAreaOfAll : mL 80 = 1 := by decide +kernel
theorem hR_A_twiceAreaOfAll : mR 80 = (Option.some Jvm.ClassFile.FieldType.long) := by decide +kernel
theorem hH_A_twiceAreaOfAll : mHH 80 = [] := by decide +kernel
theorem hC_A_sheetsFor : mC 81 = "AcreOffice" := by decide +kernel
theorem hL_A_sheetsFor : mL 81 = 5 := by decide +kernel
theorem hR_A_sheetsFor : mR 81 = (Option.some Jvm.ClassFile.FieldType.int) := by decide +kernel
theorem hH_A_sheetsFor : mHH 81 = [] := by decide +kernel
theorem hC_A_scaleFor : mC 82 = "AcreOffice" := by decide +kernel
theorem hL_A_scaleFor : mL 82 = 5 := by decide +kernel
theorem hR_A_scaleFor : mR 82 = (Option.some Jvm.ClassFile.FieldType.int) := by decide +kernel
theorem hH_A_scaleFor : mHH 82 = [] := by decide +kernel
theorem hC_A_recordedStates : mC 83 = "AcreOffice" := by decide +kernel
theorem hL_A_recordedStates : mL 83 = 1 := by decide +kernel
theorem hR_A_recordedStates : mR 83 = (Option.some Jvm.ClassFile.FieldType.int) := by decide +kernel
theorem hH_A_recordedStates : mHH 83 = [] := by decide +kernel
theorem hC_A_beginTrial : mC 84 = "AcreOffice" := by decide +kernel
theorem hL_A_beginTrial : mL 84 = 1 := by decide +kernel
theorem hR_A_beginTrial : mR 84 = (Option.none : Option Jvm.ClassFile.FieldType) := by decide +kernel
theorem hH_A_beginTrial : mHH 84 = [] := by decide +kernel
theorem hC_A_settleTrial : mC 85 = "AcreOffice" := by decide +kernel
theorem hL_A_settleTrial : mL 85 = 1 := by decide +kernel
theorem hR_A_settleTrial : mR 85 = (Option.none : Option Jvm.ClassFile.FieldType) := by decide +kernel
theorem hH_A_settleTrial : mHH 85 = [] := by decide +kernel
theorem hC_A_knownField : mC 86 = "AcreOffice" := by decide +kernel
theorem hL_A_knownField : mL 86 = 2 := by decide +kernel
theorem hR_A_knownField : mR 86 = (Option.some (Jvm.ClassFile.FieldType.object "AcreOffice$Field")) := by decide +kernel
theorem hH_A_knownField : mHH 86 = [] := by decide +kernel
theorem hC_A_fieldWithCorner : mC 87 = "AcreOffice" := by decide +kernel
theorem hL_A_fieldWithCorner : mL 87 = 4 := by decide +kernel
theorem hR_A_fieldWithCorner : mR 87 = (Option.some (Jvm.ClassFile.FieldType.object "AcreOffice$Field")) := by decide +kernel
theorem hH_A_fieldWithCorner : mHH 87 = [] := by decide +kernel
theorem hC_A_isWithin : mC 88 = "AcreOffice" := by decide +kernel
theorem hL_A_isWithin : mL 88 = 2 := by decide +kernel
theorem hR_A_isWithin : mR 88 = (Option.some Jvm.ClassFile.FieldType.boolean) := by decide +kernel
theorem hH_A_isWithin : mHH 88 = [] := by decide +kernel
theorem hC_A_cellOf : mC 89 = "AcreOffice" := by decide +kernel
theorem hL_A_cellOf : mL 89 = 2 := by decide +kernel
theorem hR_A_cellOf : mR 89 = (Option.some Jvm.ClassFile.FieldType.int) := by decide +kernel
theorem hH_A_cellOf : mHH 89 = [] := by decide +kernel
theorem hC_A_piecesNeeded : mC 90 = "AcreOffice" := by decide +kernel
theorem hL_A_piecesNeeded : mL 90 = 2 := by decide +kernel
theorem hR_A_piecesNeeded : mR 90 = (Option.some Jvm.ClassFile.FieldType.int) := by decide +kernel
theorem hH_A_piecesNeeded : mHH 90 = [] := by decide +kernel
theorem hC_J_floorDiv : mC 91 = "java/lang/Math" := by decide +kernel
theorem hL_J_floorDiv : mL 91 = 6 := by decide +kernel
theorem hR_J_floorDiv : mR 91 = (Option.some Jvm.ClassFile.FieldType.long) := by decide +kernel
theorem hH_J_floorDiv : mHH 91 = [] := by decide +kernel
theorem hC_J_absI : mC 92 = "java/lang/Math" := by decide +kernel
theorem hL_J_absI : mL 92 = 1 := by decide +kernel
theorem hR_J_absI : mR 92 = (Option.some Jvm.ClassFile.FieldType.int) := by decide +kernel
theorem hH_J_absI : mHH 92 = [] := by decide +kernel
theorem hC_J_absL : mC 93 = "java/lang/Math" := by decide +kernel
theorem hL_J_absL : mL 93 = 2 := by decide +kernel
theorem hR_J_absL : mR 93 = (Option.some Jvm.ClassFile.FieldType.long) := by decide +kernel
theorem hH_J_absL : mHH 93 = [] := by decide +kernel
theorem hC_J_max : mC 94 = "java/lang/Math" := by decide +kernel
theorem hL_J_max : mL 94 = 2 := by decide +kernel
theorem hR_J_max : mR 94 = (Option.some Jvm.ClassFile.FieldType.int) := by decide +kernel
theorem hH_J_max : mHH 94 = [] := by decide +kernel
theorem hC_J_min : mC 95 = "java/lang/Math" := by decide +kernel
theorem hL_J_min : mL 95 = 2 := by decide +kernel
theorem hR_J_min : mR 95 = (Option.some Jvm.ClassFile.FieldType.int) := by decide +kernel
theorem hH_J_min : mHH 95 = [] := by decide +kernel
theorem hC_L_cell : mC 96 = "AcreOfficeLaw" := by decide +kernel
theorem hL_L_cell : mL 96 = 2 := by decide +kernel
theorem hR_L_cell : mR 96 = (Option.some Jvm.ClassFile.FieldType.int) := by decide +kernel
theorem hH_L_cell : mHH 96 = [] := by decide +kernel
theorem hC_L_low : mC 97 = "AcreOfficeLaw" := by decide +kernel
theorem hL_L_low : mL 97 = 2 := by decide +kernel
theorem hR_L_low : mR 97 = (Option.some Jvm.ClassFile.FieldType.int) := by decide +kernel
theorem hH_L_low : mHH 97 = [] := by decide +kernel
theorem hC_L_span : mC 98 = "AcreOfficeLaw" := by decide +kernel
theorem hL_L_span : mL 98 = 2 := by decide +kernel
theorem hR_L_span : mR 98 = (Option.some Jvm.ClassFile.FieldType.int) := by decide +kernel
theorem hH_L_span : mHH 98 = [] := by decide +kernel
theorem hC_L_change : mC 99 = "AcreOfficeLaw" := by decide +kernel
theorem hL_L_change : mL 99 = 19 := by decide +kernel
theorem hR_L_change : mR 99 = (Option.some Jvm.ClassFile.FieldType.boolean) := by decide +kernel
theorem hH_L_change : mHH 99 = [] := by decide +kernel
theorem hC_L_rounds : mC 100 = "AcreOfficeLaw" := by decide +kernel
theorem hL_L_rounds : mL 100 = 15 := by decide +kernel
theorem hR_L_rounds : mR 100 = (Option.some Jvm.ClassFile.FieldType.boolean) := by decide +kernel
theorem hH_L_rounds : mHH 100 = [] := by decide +kernel
theorem hC_L_least : mC 101 = "AcreOfficeLaw" := by decide +kernel
theorem hL_L_least : mL 101 = 2 := by decide +kernel
theorem hR_L_least : mR 101 = (Option.some Jvm.ClassFile.FieldType.int) := by decide +kernel
theorem hH_L_least : mHH 101 = [] := by decide +kernel
theorem hC_L_most : mC 102 = "AcreOfficeLaw" := by decide +kernel
theorem hL_L_most : mL 102 = 2 := by decide +kernel
theorem hR_L_most : mR 102 = (Option.some Jvm.ClassFile.FieldType.int) := by decide +kernel
theorem hH_L_most : mHH 102 = [] := by decide +kernel
theorem hC_L_fits : mC 103 = "AcreOfficeLaw" := by decide +kernel
theorem hL_L_fits : mL 103 = 14 := by decide +kernel
theorem hR_L_fits : mR 103 = (Option.some Jvm.ClassFile.FieldType.boolean) := by decide +kernel
theorem hH_L_fits : mHH 103 = [] := by decide +kernel
theorem hC_L_holds : mC 104 = "AcreOfficeLaw" := by decide +kernel
theorem hL_L_holds : mL 104 = 19 := by decide +kernel
theorem hR_L_holds : mR 104 = (Option.some Jvm.ClassFile.FieldType.boolean) := by decide +kernel
theorem hH_L_holds : mHH 104 = [] := by decide +kernel
theorem hC_L_law : mC 105 = "AcreOfficeLaw" := by decide +kernel
theorem hL_L_law : mL 105 = 12 := by decide +kernel
theorem hH_L_law : mHH 105 = [] := by decide +kernel
