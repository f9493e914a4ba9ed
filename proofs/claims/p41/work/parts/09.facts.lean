def mRX (a : Nat) : String := [RX0, RX1, RX2, RX3, RX4, RX5, RX6].getD a ""
theorem hN_F_init : [RX0, RX1, RX2, RX3, RX4, RX5, RX6].getD 0 "" = (mY 0).cls := by decide +kernel
theorem hN_F_copyFrom : [RX0, RX1, RX2, RX3, RX4, RX5, RX6].getD 0 "" = (mY 1).cls := by decide +kernel
theorem hN_F_dropCorners : [RX0, RX1, RX2, RX3, RX4, RX5, RX6].getD 0 "" = (mY 2).cls := by decide +kernel
theorem hN_F_appendCorner : [RX0, RX1, RX2, RX3, RX4, RX5, RX6].getD 0 "" = (mY 3).cls := by decide +kernel
theorem hN_F_hasCorner : [RX0, RX1, RX2, RX3, RX4, RX5, RX6].getD 0 "" = (mY 4).cls := by decide +kernel
theorem hN_F_eastAt : [RX0, RX1, RX2, RX3, RX4, RX5, RX6].getD 0 "" = (mY 5).cls := by decide +kernel
theorem hN_F_northAt : [RX0, RX1, RX2, RX3, RX4, RX5, RX6].getD 0 "" = (mY 6).cls := by decide +kernel
theorem hN_F_cornerAfter : [RX0, RX1, RX2, RX3, RX4, RX5, RX6].getD 0 "" = (mY 7).cls := by decide +kernel
theorem hN_F_cornerBefore : [RX0, RX1, RX2, RX3, RX4, RX5, RX6].getD 0 "" = (mY 8).cls := by decide +kernel
theorem hN_F_sideEast : [RX0, RX1, RX2, RX3, RX4, RX5, RX6].getD 0 "" = (mY 9).cls := by decide +kernel
theorem hN_F_sideNorth : [RX0, RX1, RX2, RX3, RX4, RX5, RX6].getD 0 "" = (mY 10).cls := by decide +kernel
theorem hN_F_turnAt : [RX0, RX1, RX2, RX3, RX4, RX5, RX6].getD 0 "" = (mY 11).cls := by decide +kernel
theorem hN_F_turnsToTheLeft : [RX0, RX1, RX2, RX3, RX4, RX5, RX6].getD 0 "" = (mY 12).cls := by decide +kernel
theorem hN_F_turnsToTheRight : [RX0, RX1, RX2, RX3, RX4, RX5, RX6].getD 0 "" = (mY 13).cls := by decide +kernel
theorem hN_F_sidesMetFrom : [RX0, RX1, RX2, RX3, RX4, RX5, RX6].getD 0 "" = (mY 14).cls := by decide +kernel
theorem hN_F_isMetFrom : [RX0, RX1, RX2, RX3, RX4, RX5, RX6].getD 0 "" = (mY 15).cls := by decide +kernel
theorem hN_F_sidesAlsoOf : [RX0, RX1, RX2, RX3, RX4, RX5, RX6].getD 0 "" = (mY 16).cls := by decide +kernel
theorem hN_F_hasSide : [RX0, RX1, RX2, RX3, RX4, RX5, RX6].getD 0 "" = (mY 17).cls := by decide +kernel
theorem hN_F_isSamePoint : [RX0, RX1, RX2, RX3, RX4, RX5, RX6].getD 0 "" = (mY 18).cls := by decide +kernel
theorem hN_F_twiceByCorners : [RX0, RX1, RX2, RX3, RX4, RX5, RX6].getD 0 "" = (mY 19).cls := by decide +kernel
theorem hN_F_twiceByStrips : [RX0, RX1, RX2, RX3, RX4, RX5, RX6].getD 0 "" = (mY 20).cls := by decide +kernel
theorem hN_F_area : [RX0, RX1, RX2, RX3, RX4, RX5, RX6].getD 0 "" = (mY 21).cls := by decide +kernel
theorem hN_F_extentEast : [RX0, RX1, RX2, RX3, RX4, RX5, RX6].getD 0 "" = (mY 22).cls := by decide +kernel
theorem hN_F_extentNorth : [RX0, RX1, RX2, RX3, RX4, RX5, RX6].getD 0 "" = (mY 23).cls := by decide +kernel
theorem hN_F_extentOf : [RX0, RX1, RX2, RX3, RX4, RX5, RX6].getD 0 "" = (mY 24).cls := by decide +kernel
theorem hN_H_init : [RX0, RX1, RX2, RX3, RX4, RX5, RX6].getD 1 "" = (mY 25).cls := by decide +kernel
theorem hN_H_remember : [RX0, RX1, RX2, RX3, RX4, RX5, RX6].getD 1 "" = (mY 26).cls := by decide +kernel
theorem hN_H_giveBack : [RX0, RX1, RX2, RX3, RX4, RX5, RX6].getD 1 "" = (mY 27).cls := by decide +kernel
theorem hN_O_init : [RX0, RX1, RX2, RX3, RX4, RX5, RX6].getD 2 "" = (mY 28).cls := by decide +kernel
theorem hN_S_init : [RX0, RX1, RX2, RX3, RX4, RX5, RX6].getD 3 "" = (mY 29).cls := by decide +kernel
theorem hN_S_copyFrom : [RX0, RX1, RX2, RX3, RX4, RX5, RX6].getD 3 "" = (mY 30).cls := by decide +kernel
theorem hN_S_hasField : [RX0, RX1, RX2, RX3, RX4, RX5, RX6].getD 3 "" = (mY 31).cls := by decide +kernel
theorem hN_S_keepTraverse : [RX0, RX1, RX2, RX3, RX4, RX5, RX6].getD 3 "" = (mY 32).cls := by decide +kernel
theorem hN_S_dropField : [RX0, RX1, RX2, RX3, RX4, RX5, RX6].getD 3 "" = (mY 33).cls := by decide +kernel
theorem hN_S_fieldOfGreatestArea : [RX0, RX1, RX2, RX3, RX4, RX5, RX6].getD 3 "" = (mY 34).cls := by decide +kernel
theorem hN_S_sumOfTwiceAreas : [RX0, RX1, RX2, RX3, RX4, RX5, RX6].getD 3 "" = (mY 35).cls := by decide +kernel
theorem hN_T_init : [RX0, RX1, RX2, RX3, RX4, RX5, RX6].getD 4 "" = (mY 36).cls := by decide +kernel
theorem hN_T_copyFrom : [RX0, RX1, RX2, RX3, RX4, RX5, RX6].getD 4 "" = (mY 37).cls := by decide +kernel
theorem hN_T_append : [RX0, RX1, RX2, RX3, RX4, RX5, RX6].getD 4 "" = (mY 38).cls := by decide +kernel
theorem hN_T_dropLast : [RX0, RX1, RX2, RX3, RX4, RX5, RX6].getD 4 "" = (mY 39).cls := by decide +kernel
theorem hN_T_dropAllLegs : [RX0, RX1, RX2, RX3, RX4, RX5, RX6].getD 4 "" = (mY 40).cls := by decide +kernel
theorem hN_T_moveOrigin : [RX0, RX1, RX2, RX3, RX4, RX5, RX6].getD 4 "" = (mY 41).cls := by decide +kernel
theorem hN_T_hasCorner : [RX0, RX1, RX2, RX3, RX4, RX5, RX6].getD 4 "" = (mY 42).cls := by decide +kernel
theorem hN_T_measuredLength : [RX0, RX1, RX2, RX3, RX4, RX5, RX6].getD 4 "" = (mY 43).cls := by decide +kernel
theorem hN_T_closingEast : [RX0, RX1, RX2, RX3, RX4, RX5, RX6].getD 4 "" = (mY 44).cls := by decide +kernel
theorem hN_T_closingNorth : [RX0, RX1, RX2, RX3, RX4, RX5, RX6].getD 4 "" = (mY 45).cls := by decide +kernel
theorem hN_T_closesWell : [RX0, RX1, RX2, RX3, RX4, RX5, RX6].getD 4 "" = (mY 46).cls := by decide +kernel
theorem hN_T_adjustedEastAt : [RX0, RX1, RX2, RX3, RX4, RX5, RX6].getD 4 "" = (mY 47).cls := by decide +kernel
theorem hN_T_adjustedNorthAt : [RX0, RX1, RX2, RX3, RX4, RX5, RX6].getD 4 "" = (mY 48).cls := by decide +kernel
theorem hN_T_shareOf : [RX0, RX1, RX2, RX3, RX4, RX5, RX6].getD 4 "" = (mY 49).cls := by decide +kernel
theorem hN_A_init : [RX0, RX1, RX2, RX3, RX4, RX5, RX6].getD 5 "" = (mY 50).cls := by decide +kernel
theorem hN_A_addLeg : [RX0, RX1, RX2, RX3, RX4, RX5, RX6].getD 5 "" = (mY 51).cls := by decide +kernel
theorem hN_A_takeBack : [RX0, RX1, RX2, RX3, RX4, RX5, RX6].getD 5 "" = (mY 52).cls := by decide +kernel
theorem hN_A_setOrigin : [RX0, RX1, RX2, RX3, RX4, RX5, RX6].getD 5 "" = (mY 53).cls := by decide +kernel
theorem hN_A_keep : [RX0, RX1, RX2, RX3, RX4, RX5, RX6].getD 5 "" = (mY 54).cls := by decide +kernel
theorem hN_A_giveUp : [RX0, RX1, RX2, RX3, RX4, RX5, RX6].getD 5 "" = (mY 55).cls := by decide +kernel
theorem hN_A_undo : [RX0, RX1, RX2, RX3, RX4, RX5, RX6].getD 5 "" = (mY 56).cls := by decide +kernel
theorem hN_A_takeSnapshot : [RX0, RX1, RX2, RX3, RX4, RX5, RX6].getD 5 "" = (mY 57).cls := by decide +kernel
theorem hN_A_restoreSnapshot : [RX0, RX1, RX2, RX3, RX4, RX5, RX6].getD 5 "" = (mY 58).cls := by decide +kernel
theorem hN_A_legs : [RX0, RX1, RX2, RX3, RX4, RX5, RX6].getD 5 "" = (mY 59).cls := by decide +kernel
theorem hN_A_traverseLength : [RX0, RX1, RX2, RX3, RX4, RX5, RX6].getD 5 "" = (mY 60).cls := by decide +kernel
theorem hN_A_errorEast : [RX0, RX1, RX2, RX3, RX4, RX5, RX6].getD 5 "" = (mY 61).cls := by decide +kernel
theorem hN_A_errorNorth : [RX0, RX1, RX2, RX3, RX4, RX5, RX6].getD 5 "" = (mY 62).cls := by decide +kernel
theorem hN_A_isClose : [RX0, RX1, RX2, RX3, RX4, RX5, RX6].getD 5 "" = (mY 63).cls := by decide +kernel
theorem hN_A_adjustedEast : [RX0, RX1, RX2, RX3, RX4, RX5, RX6].getD 5 "" = (mY 64).cls := by decide +kernel
theorem hN_A_adjustedNorth : [RX0, RX1, RX2, RX3, RX4, RX5, RX6].getD 5 "" = (mY 65).cls := by decide +kernel
theorem hN_A_fields : [RX0, RX1, RX2, RX3, RX4, RX5, RX6].getD 5 "" = (mY 66).cls := by decide +kernel
theorem hN_A_cornersOf : [RX0, RX1, RX2, RX3, RX4, RX5, RX6].getD 5 "" = (mY 67).cls := by decide +kernel
theorem hN_A_cornerEast : [RX0, RX1, RX2, RX3, RX4, RX5, RX6].getD 5 "" = (mY 68).cls := by decide +kernel
theorem hN_A_cornerNorth : [RX0, RX1, RX2, RX3, RX4, RX5, RX6].getD 5 "" = (mY 69).cls := by decide +kernel
theorem hN_A_leftTurns : [RX0, RX1, RX2, RX3, RX4, RX5, RX6].getD 5 "" = (mY 70).cls := by decide +kernel
theorem hN_A_turnsOneWay : [RX0, RX1, RX2, RX3, RX4, RX5, RX6].getD 5 "" = (mY 71).cls := by decide +kernel
theorem hN_A_sidesEastOf : [RX0, RX1, RX2, RX3, RX4, RX5, RX6].getD 5 "" = (mY 72).cls := by decide +kernel
theorem hN_A_sharedSides : [RX0, RX1, RX2, RX3, RX4, RX5, RX6].getD 5 "" = (mY 73).cls := by decide +kernel
theorem hN_A_twiceAreaByCorners : [RX0, RX1, RX2, RX3, RX4, RX5, RX6].getD 5 "" = (mY 74).cls := by decide +kernel
theorem hN_A_twiceAreaByStrips : [RX0, RX1, RX2, RX3, RX4, RX5, RX6].getD 5 "" = (mY 75).cls := by decide +kernel
theorem hN_A_acresOf : [RX0, RX1, RX2, RX3, RX4, RX5, RX6].getD 5 "" = (mY 76).cls := by decide +kernel
theorem hN_A_roodsOf : [RX0, RX1, RX2, RX3, RX4, RX5, RX6].getD 5 "" = (mY 77).cls := by decide +kernel
theorem hN_A_perchesOf : [RX0, RX1, RX2, RX3, RX4, RX5, RX6].getD 5 "" = (mY 78).cls := by decide +kernel
theorem hN_A_largestField : [RX0, RX1, RX2, RX3, RX4, RX5, RX6].getD 5 "" = (mY 79).cls := by decide +kernel
theorem hN_A_twiceAreaOfAll : [RX0, RX1, RX2, RX3, RX4, RX5, RX6].getD 5 "" = (mY 80).cls := by decide +kernel
theorem hN_A_sheetsFor : [RX0, RX1, RX2, RX3, RX4, RX5, RX6].getD 5 "" = (mY 81).cls := by decide +kernel
theorem hN_A_scaleFor : [RX0, RX1, RX2, RX3, RX4, RX5, RX6].getD 5 "" = (mY 82).cls := by decide +kernel
theorem hN_A_recordedStates : [RX0, RX1, RX2, RX3, RX4, RX5, RX6].getD 5 "" = (mY 83).cls := by decide +kernel
theorem hN_A_beginTrial : [RX0, RX1, RX2, RX3, RX4, RX5, RX6].getD 5 "" = (mY 84).cls := by decide +kernel
theorem hN_A_settleTrial : [RX0, RX1, RX2, RX3, RX4, RX5, RX6].getD 5 "" = (mY 85).cls := by decide +kernel
theorem hN_A_knownField : [RX0, RX1, RX2, RX3, RX4, RX5, RX6].getD 5 "" = (mY 86).cls := by decide +kernel
theorem hN_A_fieldWithCorner : [RX0, RX1, RX2, RX3, RX4, RX5, RX6].getD 5 "" = (mY 87).cls := by decide +kernel
theorem hN_A_isWithin : [RX0, RX1, RX2, RX3, RX4, RX5, RX6].getD 5 "" = (mY 88).cls := by decide +kernel
theorem hN_A_cellOf : [RX0, RX1, RX2, RX3, RX4, RX5, RX6].getD 5 "" = (mY 89).cls := by decide +kernel
theorem hN_A_piecesNeeded : [RX0, RX1, RX2, RX3, RX4, RX5, RX6].getD 5 "" = (mY 90).cls := by decide +kernel
theorem po_0_2 : mPo 0 2 .int := ⟨_, rfl, rfl, by decide +kernel⟩
theorem po_1_1 : mPo 1 1 .int := ⟨_, rfl, rfl, by decide +kernel⟩
theorem po_1_2 : mPo 1 2 .int := ⟨_, rfl, rfl, by decide +kernel⟩
theorem po_2_1 : mPo 2 1 .int := ⟨_, rfl, rfl, by decide +kernel⟩
theorem po_2_7 : mPo 2 7 .int := ⟨_, rfl, rfl, by decide +kernel⟩
theorem po_2_8 : mPo 2 8 .int := ⟨_, rfl, rfl, by decide +kernel⟩
theorem po_2_9 : mPo 2 9 .int := ⟨_, rfl, rfl, by decide +kernel⟩
theorem po_2_10 : mPo 2 10 .int := ⟨_, rfl, rfl, by decide +kernel⟩
theorem po_3_2 : mPo 3 2 .int := ⟨_, rfl, rfl, by decide +kernel⟩
theorem po_4_3 : mPo 4 3 .int := ⟨_, rfl, rfl, by decide +kernel⟩
theorem po_4_4 : mPo 4 4 .int := ⟨_, rfl, rfl, by decide +kernel⟩
theorem po_4_5 : mPo 4 5 .int := ⟨_, rfl, rfl, by decide +kernel⟩
theorem po_5_5 : mPo 5 5 .boolean := ⟨_, rfl, rfl, by decide +kernel⟩
theorem po_6_2 : mPo 6 2 .int := ⟨_, rfl, rfl, by decide +kernel⟩
theorem hAC : Cond.native arraycopyName ∈ lw_tbl ∧ Cond.static arraycopyName ∈ lw_tbl ∧ Cond.initialized "java/lang/System" ∈ lw_tbl := ⟨by decide +kernel, by decide +kernel, by decide +kernel⟩
theorem ac_T_21 : Cond.methodLink "AcreOffice$Traverse" 21 arraycopyName ∈ lw_tbl := List.mem_of_getElem? (i := 194) (by decide +kernel)
theorem ac_F_18 : Cond.methodLink "AcreOffice$Field" 18 arraycopyName ∈ lw_tbl := List.mem_of_getElem? (i := 201) (by decide +kernel)
