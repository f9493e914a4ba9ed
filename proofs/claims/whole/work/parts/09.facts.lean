def mRX (a : Nat) : String := [RX0, RX1, RX2, RX3, RX4, RX5, RX6].getD a ""
theorem hN_F_init : [RX0, RX1, RX2, RX3, RX4, RX5, RX6].getD 0 "" = (mY 0).cls := by decide +kernel
theorem hN_F_copyFrom : [RX0, RX1, RX2, RX3, RX4, RX5, RX6].getD 0 "" = (mY 1).cls := by decide +kernel
theorem hN_F_dropCorners : [RX0, RX1, RX2, RX3, RX4, RX5, RX6].getD 0 "" = (mY 2).cls := by decide +kernel
theorem hN_F_appendCorner : [RX0, RX1, RX2, RX3, RX4, RX5, RX6].getD 0 "" = (mY 3).cls := by decide +kernel
theorem hN_F_hasCorner : [RX0, RX1, RX2, RX3, RX4, RX5, RX6].getD 0 "" = (mY 4).cls := by decide +kernel
theorem hN_F_eastAt : [RX0, RX1, RX2, RX3, RX4, RX5, RX6].getD 0 "" = (mY 5).cls := by decide +kernel
theorem hN_F_northAt : [RX0, RX1, RX2, RX3, RX4, RX5, RX6].getD 0 "" = (mY 6).cls := by decide +kernel
theorem hN_F_cornerAfter : [RX0, RX1, RX2, RX3, RX4, RX5, RX6].getD 0 "" = (mY 7).cls := by decide +kernel
theorem hN_F_cornerBefore : [RX0, RX1, RX2, RX3, RX4, RX5, RX6].getD 0 "" = (mY 8).cls := by decide +kernel
theorem hN_F_sideEast : [RX0, RX1, RX2, RX3, RX4, RX5, RX6].getD 0 "" = (mY 9).cls := by decide +kernel
theorem hN_F_sideNorth : [RX0, RX1, RX2, RX3, RX4, RX5, RX6].getD 0 "" = (mY 10).cls := by decide +kernel
theorem hN_F_turnAt : [RX0, RX1, RX2, RX3, RX4, RX5, RX6].getD 0 "" = (mY 11).cls := by decide +kernel
theorem hN_F_turnsToTheLeft : [RX0, RX1, RX2, RX3, RX4, RX5, RX6].getD 0 "" = (mY 12).cls := by decide +kernel
theorem hN_F_turnsToTheRight : [RX0, RX1, RX2, RX3, RX4, RX5, RX6].getD 0 "" = (mY 13).cls := by decide +kernel
theorem hN_F_sidesMetFrom : [RX0, RX1, RX2, RX3, RX4, RX5, RX6].getD 0 "" = (mY 14).cls := by decide +kernel
theorem hN_F_isMetFrom : [RX0, RX1, RX2, RX3, RX4, RX5, RX6].getD 0 "" = (mY 15).cls := by decide +kernel
theorem hN_F_sidesAlsoOf : [RX0, RX1, RX2, RX3, RX4, RX5, RX6].getD 0 "" = (mY 16).cls := by decide +kernel
theorem hN_F_hasSide : [RX0, RX1, RX2, RX3, RX4, RX5, RX6].getD 0 "" = (mY 17).cls := by decide +kernel
theorem hN_F_isSamePoint : [RX0, RX1, RX2, RX3, RX4, RX5, RX6].getD 0 "" = (mY 18).cls := by decide +kernel
theorem hN_F_twiceByCorners : [RX0, RX1, RX2, RX3, RX4, RX5, RX6].getD 0 "" = (mY 19).cls := by decide +kernel
theorem hN_F_twiceByStrips : [RX0, RX1, RX2, RX3, RX4, RX5, RX6].getD 0 "" = (mY 20).cls := by decide +kernel
theorem hN_F_area : [RX0, RX1, RX2, RX3, RX4, RX5, RX6].getD 0 "" = (mY 21).cls := by decide +kernel
theorem hN_F_extentEast : [RX0, RX1, RX2, RX3, RX4, RX5, RX6].getD 0 "" = (mY 22).cls := by decide +kernel
theorem hN_F_extentNorth : [RX0, RX1, RX2, RX3, RX4, RX5, RX6].getD 0 "" = (mY 23).cls := by decide +kernel
theorem hN_F_extentOf : [RX0, RX1, RX2, RX3, RX4, RX5, RX6].getD 0 "" = (mY 24).cls := by decide +kernel
theorem hN_H_init : [RX0, RX1, RX2, RX3, RX4, RX5, RX6].getD 1 "" = (mY 25).cls := by decide +kernel
theorem hN_H_remember : [RX0, RX1, RX2, RX3, RX4, RX5, RX6].getD 1 "" = (mY 26).cls := by decide +kernel
theorem hN_H_giveBack : [RX0, RX1, RX2, RX3, RX4, RX5, RX6].getD 1 "" = (mY 27).cls := by decide +kernel
theorem hN_O_init : [RX0, RX1, RX2, RX3, RX4, RX5, RX6].getD 2 "" = (mY 28).cls := by decide +kernel
theorem hN_O_append : [RX0, RX1, RX2, RX3, RX4, RX5, RX6].getD 2 "" = (mY 29).cls := by decide +kernel
theorem hN_O_dropText : [RX0, RX1, RX2, RX3, RX4, RX5, RX6].getD 2 "" = (mY 30).cls := by decide +kernel
theorem hN_O_firstError : [RX0, RX1, RX2, RX3, RX4, RX5, RX6].getD 2 "" = (mY 31).cls := by decide +kernel
theorem hN_O_accepts : [RX0, RX1, RX2, RX3, RX4, RX5, RX6].getD 2 "" = (mY 32).cls := by decide +kernel
theorem hN_O_beginOrder : [RX0, RX1, RX2, RX3, RX4, RX5, RX6].getD 2 "" = (mY 33).cls := by decide +kernel
theorem hN_O_noteKind : [RX0, RX1, RX2, RX3, RX4, RX5, RX6].getD 2 "" = (mY 34).cls := by decide +kernel
theorem hN_O_endOrder : [RX0, RX1, RX2, RX3, RX4, RX5, RX6].getD 2 "" = (mY 35).cls := by decide +kernel
theorem hN_O_readField : [RX0, RX1, RX2, RX3, RX4, RX5, RX6].getD 2 "" = (mY 36).cls := by decide +kernel
theorem hN_O_beginNumber : [RX0, RX1, RX2, RX3, RX4, RX5, RX6].getD 2 "" = (mY 37).cls := by decide +kernel
theorem hN_O_growNumber : [RX0, RX1, RX2, RX3, RX4, RX5, RX6].getD 2 "" = (mY 38).cls := by decide +kernel
theorem hN_O_endEast : [RX0, RX1, RX2, RX3, RX4, RX5, RX6].getD 2 "" = (mY 39).cls := by decide +kernel
theorem hN_O_endNorth : [RX0, RX1, RX2, RX3, RX4, RX5, RX6].getD 2 "" = (mY 40).cls := by decide +kernel
theorem hN_O_noteLength : [RX0, RX1, RX2, RX3, RX4, RX5, RX6].getD 2 "" = (mY 41).cls := by decide +kernel
theorem hN_O_note : [RX0, RX1, RX2, RX3, RX4, RX5, RX6].getD 2 "" = (mY 42).cls := by decide +kernel
theorem hN_O_firstFailureOn : [RX0, RX1, RX2, RX3, RX4, RX5, RX6].getD 2 "" = (mY 43).cls := by decide +kernel
theorem hN_O_isCarriedOut : [RX0, RX1, RX2, RX3, RX4, RX5, RX6].getD 2 "" = (mY 44).cls := by decide +kernel
theorem hN_S_init : [RX0, RX1, RX2, RX3, RX4, RX5, RX6].getD 3 "" = (mY 45).cls := by decide +kernel
theorem hN_S_copyFrom : [RX0, RX1, RX2, RX3, RX4, RX5, RX6].getD 3 "" = (mY 46).cls := by decide +kernel
theorem hN_S_hasField : [RX0, RX1, RX2, RX3, RX4, RX5, RX6].getD 3 "" = (mY 47).cls := by decide +kernel
theorem hN_S_keepTraverse : [RX0, RX1, RX2, RX3, RX4, RX5, RX6].getD 3 "" = (mY 48).cls := by decide +kernel
theorem hN_S_dropField : [RX0, RX1, RX2, RX3, RX4, RX5, RX6].getD 3 "" = (mY 49).cls := by decide +kernel
theorem hN_S_fieldOfGreatestArea : [RX0, RX1, RX2, RX3, RX4, RX5, RX6].getD 3 "" = (mY 50).cls := by decide +kernel
theorem hN_S_sumOfTwiceAreas : [RX0, RX1, RX2, RX3, RX4, RX5, RX6].getD 3 "" = (mY 51).cls := by decide +kernel
theorem hN_T_init : [RX0, RX1, RX2, RX3, RX4, RX5, RX6].getD 4 "" = (mY 52).cls := by decide +kernel
theorem hN_T_copyFrom : [RX0, RX1, RX2, RX3, RX4, RX5, RX6].getD 4 "" = (mY 53).cls := by decide +kernel
theorem hN_T_append : [RX0, RX1, RX2, RX3, RX4, RX5, RX6].getD 4 "" = (mY 54).cls := by decide +kernel
theorem hN_T_dropLast : [RX0, RX1, RX2, RX3, RX4, RX5, RX6].getD 4 "" = (mY 55).cls := by decide +kernel
theorem hN_T_dropAllLegs : [RX0, RX1, RX2, RX3, RX4, RX5, RX6].getD 4 "" = (mY 56).cls := by decide +kernel
theorem hN_T_moveOrigin : [RX0, RX1, RX2, RX3, RX4, RX5, RX6].getD 4 "" = (mY 57).cls := by decide +kernel
theorem hN_T_hasCorner : [RX0, RX1, RX2, RX3, RX4, RX5, RX6].getD 4 "" = (mY 58).cls := by decide +kernel
theorem hN_T_measuredLength : [RX0, RX1, RX2, RX3, RX4, RX5, RX6].getD 4 "" = (mY 59).cls := by decide +kernel
theorem hN_T_closingEast : [RX0, RX1, RX2, RX3, RX4, RX5, RX6].getD 4 "" = (mY 60).cls := by decide +kernel
theorem hN_T_closingNorth : [RX0, RX1, RX2, RX3, RX4, RX5, RX6].getD 4 "" = (mY 61).cls := by decide +kernel
theorem hN_T_closesWell : [RX0, RX1, RX2, RX3, RX4, RX5, RX6].getD 4 "" = (mY 62).cls := by decide +kernel
theorem hN_T_adjustedEastAt : [RX0, RX1, RX2, RX3, RX4, RX5, RX6].getD 4 "" = (mY 63).cls := by decide +kernel
theorem hN_T_adjustedNorthAt : [RX0, RX1, RX2, RX3, RX4, RX5, RX6].getD 4 "" = (mY 64).cls := by decide +kernel
theorem hN_T_shareOf : [RX0, RX1, RX2, RX3, RX4, RX5, RX6].getD 4 "" = (mY 65).cls := by decide +kernel
theorem hN_A_init : [RX0, RX1, RX2, RX3, RX4, RX5, RX6].getD 5 "" = (mY 66).cls := by decide +kernel
theorem hN_A_addLeg : [RX0, RX1, RX2, RX3, RX4, RX5, RX6].getD 5 "" = (mY 67).cls := by decide +kernel
theorem hN_A_takeBack : [RX0, RX1, RX2, RX3, RX4, RX5, RX6].getD 5 "" = (mY 68).cls := by decide +kernel
theorem hN_A_setOrigin : [RX0, RX1, RX2, RX3, RX4, RX5, RX6].getD 5 "" = (mY 69).cls := by decide +kernel
theorem hN_A_keep : [RX0, RX1, RX2, RX3, RX4, RX5, RX6].getD 5 "" = (mY 70).cls := by decide +kernel
theorem hN_A_giveUp : [RX0, RX1, RX2, RX3, RX4, RX5, RX6].getD 5 "" = (mY 71).cls := by decide +kernel
theorem hN_A_type : [RX0, RX1, RX2, RX3, RX4, RX5, RX6].getD 5 "" = (mY 72).cls := by decide +kernel
theorem hN_A_clearText : [RX0, RX1, RX2, RX3, RX4, RX5, RX6].getD 5 "" = (mY 73).cls := by decide +kernel
theorem hN_A_textError : [RX0, RX1, RX2, RX3, RX4, RX5, RX6].getD 5 "" = (mY 74).cls := by decide +kernel
theorem hN_A_impossibleOrder : [RX0, RX1, RX2, RX3, RX4, RX5, RX6].getD 5 "" = (mY 75).cls := by decide +kernel
theorem hN_A_carryOut : [RX0, RX1, RX2, RX3, RX4, RX5, RX6].getD 5 "" = (mY 76).cls := by decide +kernel
theorem hN_A_undo : [RX0, RX1, RX2, RX3, RX4, RX5, RX6].getD 5 "" = (mY 77).cls := by decide +kernel
theorem hN_A_takeSnapshot : [RX0, RX1, RX2, RX3, RX4, RX5, RX6].getD 5 "" = (mY 78).cls := by decide +kernel
theorem hN_A_restoreSnapshot : [RX0, RX1, RX2, RX3, RX4, RX5, RX6].getD 5 "" = (mY 79).cls := by decide +kernel
theorem hN_A_legs : [RX0, RX1, RX2, RX3, RX4, RX5, RX6].getD 5 "" = (mY 80).cls := by decide +kernel
theorem hN_A_traverseLength : [RX0, RX1, RX2, RX3, RX4, RX5, RX6].getD 5 "" = (mY 81).cls := by decide +kernel
theorem hN_A_errorEast : [RX0, RX1, RX2, RX3, RX4, RX5, RX6].getD 5 "" = (mY 82).cls := by decide +kernel
theorem hN_A_errorNorth : [RX0, RX1, RX2, RX3, RX4, RX5, RX6].getD 5 "" = (mY 83).cls := by decide +kernel
theorem hN_A_isClose : [RX0, RX1, RX2, RX3, RX4, RX5, RX6].getD 5 "" = (mY 84).cls := by decide +kernel
theorem hN_A_adjustedEast : [RX0, RX1, RX2, RX3, RX4, RX5, RX6].getD 5 "" = (mY 85).cls := by decide +kernel
theorem hN_A_adjustedNorth : [RX0, RX1, RX2, RX3, RX4, RX5, RX6].getD 5 "" = (mY 86).cls := by decide +kernel
theorem hN_A_fields : [RX0, RX1, RX2, RX3, RX4, RX5, RX6].getD 5 "" = (mY 87).cls := by decide +kernel
theorem hN_A_cornersOf : [RX0, RX1, RX2, RX3, RX4, RX5, RX6].getD 5 "" = (mY 88).cls := by decide +kernel
theorem hN_A_cornerEast : [RX0, RX1, RX2, RX3, RX4, RX5, RX6].getD 5 "" = (mY 89).cls := by decide +kernel
theorem hN_A_cornerNorth : [RX0, RX1, RX2, RX3, RX4, RX5, RX6].getD 5 "" = (mY 90).cls := by decide +kernel
theorem hN_A_leftTurns : [RX0, RX1, RX2, RX3, RX4, RX5, RX6].getD 5 "" = (mY 91).cls := by decide +kernel
theorem hN_A_turnsOneWay : [RX0, RX1, RX2, RX3, RX4, RX5, RX6].getD 5 "" = (mY 92).cls := by decide +kernel
theorem hN_A_sidesEastOf : [RX0, RX1, RX2, RX3, RX4, RX5, RX6].getD 5 "" = (mY 93).cls := by decide +kernel
theorem hN_A_sharedSides : [RX0, RX1, RX2, RX3, RX4, RX5, RX6].getD 5 "" = (mY 94).cls := by decide +kernel
theorem hN_A_twiceAreaByCorners : [RX0, RX1, RX2, RX3, RX4, RX5, RX6].getD 5 "" = (mY 95).cls := by decide +kernel
theorem hN_A_twiceAreaByStrips : [RX0, RX1, RX2, RX3, RX4, RX5, RX6].getD 5 "" = (mY 96).cls := by decide +kernel
theorem hN_A_acresOf : [RX0, RX1, RX2, RX3, RX4, RX5, RX6].getD 5 "" = (mY 97).cls := by decide +kernel
theorem hN_A_roodsOf : [RX0, RX1, RX2, RX3, RX4, RX5, RX6].getD 5 "" = (mY 98).cls := by decide +kernel
theorem hN_A_perchesOf : [RX0, RX1, RX2, RX3, RX4, RX5, RX6].getD 5 "" = (mY 99).cls := by decide +kernel
theorem hN_A_largestField : [RX0, RX1, RX2, RX3, RX4, RX5, RX6].getD 5 "" = (mY 100).cls := by decide +kernel
theorem hN_A_twiceAreaOfAll : [RX0, RX1, RX2, RX3, RX4, RX5, RX6].getD 5 "" = (mY 101).cls := by decide +kernel
theorem hN_A_sheetsFor : [RX0, RX1, RX2, RX3, RX4, RX5, RX6].getD 5 "" = (mY 102).cls := by decide +kernel
theorem hN_A_scaleFor : [RX0, RX1, RX2, RX3, RX4, RX5, RX6].getD 5 "" = (mY 103).cls := by decide +kernel
theorem hN_A_recordedStates : [RX0, RX1, RX2, RX3, RX4, RX5, RX6].getD 5 "" = (mY 104).cls := by decide +kernel
theorem hN_A_beginTrial : [RX0, RX1, RX2, RX3, RX4, RX5, RX6].getD 5 "" = (mY 105).cls := by decide +kernel
theorem hN_A_settleTrial : [RX0, RX1, RX2, RX3, RX4, RX5, RX6].getD 5 "" = (mY 106).cls := by decide +kernel
theorem hN_A_knownField : [RX0, RX1, RX2, RX3, RX4, RX5, RX6].getD 5 "" = (mY 107).cls := by decide +kernel
theorem hN_A_fieldWithCorner : [RX0, RX1, RX2, RX3, RX4, RX5, RX6].getD 5 "" = (mY 108).cls := by decide +kernel
theorem hN_A_isWithin : [RX0, RX1, RX2, RX3, RX4, RX5, RX6].getD 5 "" = (mY 109).cls := by decide +kernel
theorem hN_A_cellOf : [RX0, RX1, RX2, RX3, RX4, RX5, RX6].getD 5 "" = (mY 110).cls := by decide +kernel
theorem hN_A_piecesNeeded : [RX0, RX1, RX2, RX3, RX4, RX5, RX6].getD 5 "" = (mY 111).cls := by decide +kernel
theorem hN_M_init : [RX0, RX1, RX2, RX3, RX4, RX5, RX6].getD 6 "" = (mY 112).cls := by decide +kernel
theorem hN_M_thrown : [RX0, RX1, RX2, RX3, RX4, RX5, RX6].getD 6 "" = (mY 113).cls := by decide +kernel
theorem hN_M_in : [RX0, RX1, RX2, RX3, RX4, RX5, RX6].getD 6 "" = (mY 114).cls := by decide +kernel
theorem hN_M_holds : [RX0, RX1, RX2, RX3, RX4, RX5, RX6].getD 6 "" = (mY 115).cls := by decide +kernel
theorem hN_M_isField : [RX0, RX1, RX2, RX3, RX4, RX5, RX6].getD 6 "" = (mY 116).cls := by decide +kernel
theorem hN_M_corners : [RX0, RX1, RX2, RX3, RX4, RX5, RX6].getD 6 "" = (mY 117).cls := by decide +kernel
theorem hN_M_isCorner : [RX0, RX1, RX2, RX3, RX4, RX5, RX6].getD 6 "" = (mY 118).cls := by decide +kernel
theorem hN_M_part : [RX0, RX1, RX2, RX3, RX4, RX5, RX6].getD 6 "" = (mY 119).cls := by decide +kernel
theorem hN_M_records : [RX0, RX1, RX2, RX3, RX4, RX5, RX6].getD 6 "" = (mY 120).cls := by decide +kernel
theorem hN_M_putAside : [RX0, RX1, RX2, RX3, RX4, RX5, RX6].getD 6 "" = (mY 121).cls := by decide +kernel
theorem hN_M_putBack : [RX0, RX1, RX2, RX3, RX4, RX5, RX6].getD 6 "" = (mY 122).cls := by decide +kernel
theorem hN_M_sizeOf : [RX0, RX1, RX2, RX3, RX4, RX5, RX6].getD 6 "" = (mY 123).cls := by decide +kernel
theorem hN_M_before : [RX0, RX1, RX2, RX3, RX4, RX5, RX6].getD 6 "" = (mY 124).cls := by decide +kernel
theorem hN_M_error : [RX0, RX1, RX2, RX3, RX4, RX5, RX6].getD 6 "" = (mY 125).cls := by decide +kernel
theorem hN_M_close : [RX0, RX1, RX2, RX3, RX4, RX5, RX6].getD 6 "" = (mY 126).cls := by decide +kernel
theorem hN_M_floor : [RX0, RX1, RX2, RX3, RX4, RX5, RX6].getD 6 "" = (mY 127).cls := by decide +kernel
theorem hN_M_adjusted : [RX0, RX1, RX2, RX3, RX4, RX5, RX6].getD 6 "" = (mY 128).cls := by decide +kernel
theorem hN_M_change : [RX0, RX1, RX2, RX3, RX4, RX5, RX6].getD 6 "" = (mY 129).cls := by decide +kernel
theorem hN_M_twice : [RX0, RX1, RX2, RX3, RX4, RX5, RX6].getD 6 "" = (mY 130).cls := by decide +kernel
theorem hN_M_turn : [RX0, RX1, RX2, RX3, RX4, RX5, RX6].getD 6 "" = (mY 131).cls := by decide +kernel
theorem hN_M_turns : [RX0, RX1, RX2, RX3, RX4, RX5, RX6].getD 6 "" = (mY 132).cls := by decide +kernel
theorem hN_M_isEast : [RX0, RX1, RX2, RX3, RX4, RX5, RX6].getD 6 "" = (mY 133).cls := by decide +kernel
theorem hN_M_isSame : [RX0, RX1, RX2, RX3, RX4, RX5, RX6].getD 6 "" = (mY 134).cls := by decide +kernel
theorem hN_M_isShared : [RX0, RX1, RX2, RX3, RX4, RX5, RX6].getD 6 "" = (mY 135).cls := by decide +kernel
theorem hN_M_extent : [RX0, RX1, RX2, RX3, RX4, RX5, RX6].getD 6 "" = (mY 136).cls := by decide +kernel
theorem hN_M_wrongLeg : [RX0, RX1, RX2, RX3, RX4, RX5, RX6].getD 6 "" = (mY 137).cls := by decide +kernel
theorem hN_M_adds : [RX0, RX1, RX2, RX3, RX4, RX5, RX6].getD 6 "" = (mY 138).cls := by decide +kernel
theorem hN_M_takes : [RX0, RX1, RX2, RX3, RX4, RX5, RX6].getD 6 "" = (mY 139).cls := by decide +kernel
theorem hN_M_lays : [RX0, RX1, RX2, RX3, RX4, RX5, RX6].getD 6 "" = (mY 140).cls := by decide +kernel
theorem hN_M_empties : [RX0, RX1, RX2, RX3, RX4, RX5, RX6].getD 6 "" = (mY 141).cls := by decide +kernel
theorem hN_M_canKeep : [RX0, RX1, RX2, RX3, RX4, RX5, RX6].getD 6 "" = (mY 142).cls := by decide +kernel
theorem hN_M_keeps : [RX0, RX1, RX2, RX3, RX4, RX5, RX6].getD 6 "" = (mY 143).cls := by decide +kernel
theorem hN_M_gives : [RX0, RX1, RX2, RX3, RX4, RX5, RX6].getD 6 "" = (mY 144).cls := by decide +kernel
theorem hN_M_addLeg : [RX0, RX1, RX2, RX3, RX4, RX5, RX6].getD 6 "" = (mY 145).cls := by decide +kernel
theorem hN_M_takeBack : [RX0, RX1, RX2, RX3, RX4, RX5, RX6].getD 6 "" = (mY 146).cls := by decide +kernel
theorem hN_M_setOrigin : [RX0, RX1, RX2, RX3, RX4, RX5, RX6].getD 6 "" = (mY 147).cls := by decide +kernel
theorem hN_M_keep : [RX0, RX1, RX2, RX3, RX4, RX5, RX6].getD 6 "" = (mY 148).cls := by decide +kernel
theorem hN_M_giveUp : [RX0, RX1, RX2, RX3, RX4, RX5, RX6].getD 6 "" = (mY 149).cls := by decide +kernel
theorem hN_M_type : [RX0, RX1, RX2, RX3, RX4, RX5, RX6].getD 6 "" = (mY 150).cls := by decide +kernel
theorem hN_M_clearText : [RX0, RX1, RX2, RX3, RX4, RX5, RX6].getD 6 "" = (mY 151).cls := by decide +kernel
theorem hN_M_charAt : [RX0, RX1, RX2, RX3, RX4, RX5, RX6].getD 6 "" = (mY 152).cls := by decide +kernel
theorem hN_M_behindNumber : [RX0, RX1, RX2, RX3, RX4, RX5, RX6].getD 6 "" = (mY 153).cls := by decide +kernel
theorem hN_M_numberIn : [RX0, RX1, RX2, RX3, RX4, RX5, RX6].getD 6 "" = (mY 154).cls := by decide +kernel
theorem hN_M_behindLeg : [RX0, RX1, RX2, RX3, RX4, RX5, RX6].getD 6 "" = (mY 155).cls := by decide +kernel
theorem hN_M_behindOrder : [RX0, RX1, RX2, RX3, RX4, RX5, RX6].getD 6 "" = (mY 156).cls := by decide +kernel
theorem hN_M_wrong : [RX0, RX1, RX2, RX3, RX4, RX5, RX6].getD 6 "" = (mY 157).cls := by decide +kernel
theorem hN_M_textError : [RX0, RX1, RX2, RX3, RX4, RX5, RX6].getD 6 "" = (mY 158).cls := by decide +kernel
theorem hN_M_doesLeg : [RX0, RX1, RX2, RX3, RX4, RX5, RX6].getD 6 "" = (mY 159).cls := by decide +kernel
theorem hN_M_does : [RX0, RX1, RX2, RX3, RX4, RX5, RX6].getD 6 "" = (mY 160).cls := by decide +kernel
theorem hN_M_doesAll : [RX0, RX1, RX2, RX3, RX4, RX5, RX6].getD 6 "" = (mY 161).cls := by decide +kernel
theorem hN_M_stops : [RX0, RX1, RX2, RX3, RX4, RX5, RX6].getD 6 "" = (mY 162).cls := by decide +kernel
theorem hN_M_impossibleOrder : [RX0, RX1, RX2, RX3, RX4, RX5, RX6].getD 6 "" = (mY 163).cls := by decide +kernel
theorem hN_M_carryOut : [RX0, RX1, RX2, RX3, RX4, RX5, RX6].getD 6 "" = (mY 164).cls := by decide +kernel
theorem hN_M_undo : [RX0, RX1, RX2, RX3, RX4, RX5, RX6].getD 6 "" = (mY 165).cls := by decide +kernel
theorem hN_M_takeSnapshot : [RX0, RX1, RX2, RX3, RX4, RX5, RX6].getD 6 "" = (mY 166).cls := by decide +kernel
theorem hN_M_restoreSnapshot : [RX0, RX1, RX2, RX3, RX4, RX5, RX6].getD 6 "" = (mY 167).cls := by decide +kernel
theorem hN_M_legs : [RX0, RX1, RX2, RX3, RX4, RX5, RX6].getD 6 "" = (mY 168).cls := by decide +kernel
theorem hN_M_traverseLength : [RX0, RX1, RX2, RX3, RX4, RX5, RX6].getD 6 "" = (mY 169).cls := by decide +kernel
theorem hN_M_errorEast : [RX0, RX1, RX2, RX3, RX4, RX5, RX6].getD 6 "" = (mY 170).cls := by decide +kernel
theorem hN_M_errorNorth : [RX0, RX1, RX2, RX3, RX4, RX5, RX6].getD 6 "" = (mY 171).cls := by decide +kernel
theorem hN_M_isClose : [RX0, RX1, RX2, RX3, RX4, RX5, RX6].getD 6 "" = (mY 172).cls := by decide +kernel
theorem hN_M_adjustedEast : [RX0, RX1, RX2, RX3, RX4, RX5, RX6].getD 6 "" = (mY 173).cls := by decide +kernel
theorem hN_M_adjustedNorth : [RX0, RX1, RX2, RX3, RX4, RX5, RX6].getD 6 "" = (mY 174).cls := by decide +kernel
theorem hN_M_fields : [RX0, RX1, RX2, RX3, RX4, RX5, RX6].getD 6 "" = (mY 175).cls := by decide +kernel
theorem hN_M_cornersOf : [RX0, RX1, RX2, RX3, RX4, RX5, RX6].getD 6 "" = (mY 176).cls := by decide +kernel
theorem hN_M_cornerEast : [RX0, RX1, RX2, RX3, RX4, RX5, RX6].getD 6 "" = (mY 177).cls := by decide +kernel
theorem hN_M_cornerNorth : [RX0, RX1, RX2, RX3, RX4, RX5, RX6].getD 6 "" = (mY 178).cls := by decide +kernel
theorem hN_M_leftTurns : [RX0, RX1, RX2, RX3, RX4, RX5, RX6].getD 6 "" = (mY 179).cls := by decide +kernel
theorem hN_M_turnsOneWay : [RX0, RX1, RX2, RX3, RX4, RX5, RX6].getD 6 "" = (mY 180).cls := by decide +kernel
theorem hN_M_sidesEastOf : [RX0, RX1, RX2, RX3, RX4, RX5, RX6].getD 6 "" = (mY 181).cls := by decide +kernel
theorem hN_M_sharedSides : [RX0, RX1, RX2, RX3, RX4, RX5, RX6].getD 6 "" = (mY 182).cls := by decide +kernel
theorem hN_M_twiceAreaByCorners : [RX0, RX1, RX2, RX3, RX4, RX5, RX6].getD 6 "" = (mY 183).cls := by decide +kernel
theorem hN_M_twiceAreaByStrips : [RX0, RX1, RX2, RX3, RX4, RX5, RX6].getD 6 "" = (mY 184).cls := by decide +kernel
theorem hN_M_area : [RX0, RX1, RX2, RX3, RX4, RX5, RX6].getD 6 "" = (mY 185).cls := by decide +kernel
theorem hN_M_acresOf : [RX0, RX1, RX2, RX3, RX4, RX5, RX6].getD 6 "" = (mY 186).cls := by decide +kernel
theorem hN_M_roodsOf : [RX0, RX1, RX2, RX3, RX4, RX5, RX6].getD 6 "" = (mY 187).cls := by decide +kernel
theorem hN_M_perchesOf : [RX0, RX1, RX2, RX3, RX4, RX5, RX6].getD 6 "" = (mY 188).cls := by decide +kernel
theorem hN_M_largestField : [RX0, RX1, RX2, RX3, RX4, RX5, RX6].getD 6 "" = (mY 189).cls := by decide +kernel
theorem hN_M_twiceAreaOfAll : [RX0, RX1, RX2, RX3, RX4, RX5, RX6].getD 6 "" = (mY 190).cls := by decide +kernel
theorem hN_M_up : [RX0, RX1, RX2, RX3, RX4, RX5, RX6].getD 6 "" = (mY 191).cls := by decide +kernel
theorem hN_M_sheetsFor : [RX0, RX1, RX2, RX3, RX4, RX5, RX6].getD 6 "" = (mY 192).cls := by decide +kernel
theorem hN_M_scaleFor : [RX0, RX1, RX2, RX3, RX4, RX5, RX6].getD 6 "" = (mY 193).cls := by decide +kernel
theorem hN_M_recordedStates : [RX0, RX1, RX2, RX3, RX4, RX5, RX6].getD 6 "" = (mY 194).cls := by decide +kernel
theorem po_0_2 : mPo 0 2 .int := ⟨_, rfl, rfl, by decide +kernel⟩
theorem po_1_1 : mPo 1 1 .int := ⟨_, rfl, rfl, by decide +kernel⟩
theorem po_1_2 : mPo 1 2 .int := ⟨_, rfl, rfl, by decide +kernel⟩
theorem po_2_1 : mPo 2 1 .int := ⟨_, rfl, rfl, by decide +kernel⟩
theorem po_2_7 : mPo 2 7 .int := ⟨_, rfl, rfl, by decide +kernel⟩
theorem po_2_8 : mPo 2 8 .int := ⟨_, rfl, rfl, by decide +kernel⟩
theorem po_2_9 : mPo 2 9 .int := ⟨_, rfl, rfl, by decide +kernel⟩
theorem po_2_10 : mPo 2 10 .int := ⟨_, rfl, rfl, by decide +kernel⟩
theorem po_3_2 : mPo 3 2 .int := ⟨_, rfl, rfl, by decide +kernel⟩
theorem po_4_3 : mPo 4 3 .int := ⟨_, rfl, rfl, by decide +kernel⟩
theorem po_4_4 : mPo 4 4 .int := ⟨_, rfl, rfl, by decide +kernel⟩
theorem po_4_5 : mPo 4 5 .int := ⟨_, rfl, rfl, by decide +kernel⟩
theorem po_5_5 : mPo 5 5 .boolean := ⟨_, rfl, rfl, by decide +kernel⟩
theorem po_6_0 : mPo 6 0 .int := ⟨_, rfl, rfl, by decide +kernel⟩
theorem po_6_4 : mPo 6 4 .boolean := ⟨_, rfl, rfl, by decide +kernel⟩
theorem po_6_6 : mPo 6 6 .int := ⟨_, rfl, rfl, by decide +kernel⟩
theorem po_6_8 : mPo 6 8 .int := ⟨_, rfl, rfl, by decide +kernel⟩
theorem hAC : Cond.native arraycopyName ∈ lw_tbl ∧ Cond.static arraycopyName ∈ lw_tbl ∧ Cond.initialized "java/lang/System" ∈ lw_tbl := ⟨by decide +kernel, by decide +kernel, by decide +kernel⟩
theorem ac_T_21 : Cond.methodLink "AcreOffice$Traverse" 21 arraycopyName ∈ lw_tbl := List.mem_of_getElem? (i := 310) (by decide +kernel)
theorem ac_F_18 : Cond.methodLink "AcreOffice$Field" 18 arraycopyName ∈ lw_tbl := List.mem_of_getElem? (i := 317) (by decide +kernel)
