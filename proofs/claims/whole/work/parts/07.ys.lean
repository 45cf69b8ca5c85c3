abbrev rm_X0_init : Room := { frames := 2, cells := 0, slots := 0, locals := 67 }
abbrev rm_X0_clear : Room := { frames := 0, cells := 0, slots := 0, locals := 0 }
abbrev rm_X0_take : Room := { frames := 2, cells := 0, slots := 0, locals := 67 }
abbrev rm_X0_hasCube : Room := { frames := 0, cells := 0, slots := 0, locals := 0 }
abbrev rm_X0_hasSide : Room := { frames := 1, cells := 0, slots := 0, locals := 21 }
abbrev rm_X0_hasDay : Room := { frames := 0, cells := 0, slots := 0, locals := 0 }
abbrev rm_X0_dayCount : Room := { frames := 0, cells := 0, slots := 0, locals := 0 }
abbrev rm_X0_hasTwoPlaces : Room := { frames := 0, cells := 0, slots := 0, locals := 0 }
abbrev rm_X0_bothWays : Room := { frames := 0, cells := 0, slots := 0, locals := 0 }
abbrev rm_X0_mostOften : Room := { frames := 1, cells := 0, slots := 0, locals := 21 }
abbrev rm_X1_init : Room := { frames := 2, cells := 0, slots := 0, locals := 67 }
abbrev rm_X1_clear : Room := { frames := 0, cells := 0, slots := 0, locals := 0 }
abbrev rm_X1_addWrong : Room := { frames := 0, cells := 0, slots := 0, locals := 0 }
abbrev rm_X1_addEntry : Room := { frames := 0, cells := 0, slots := 0, locals := 0 }
abbrev rm_X1_firstEntryNot : Room := { frames := 0, cells := 0, slots := 0, locals := 0 }
abbrev rm_X2_init : Room := { frames := 2, cells := 0, slots := 0, locals := 67 }
abbrev rm_X2_forget : Room := { frames := 0, cells := 0, slots := 0, locals := 0 }
abbrev rm_X2_know : Room := { frames := 4, cells := 0, slots := 0, locals := 93 }
abbrev rm_X2_lesser : Room := { frames := 1, cells := 0, slots := 0, locals := 21 }
abbrev rm_X2_countDays : Room := { frames := 2, cells := 0, slots := 0, locals := 42 }
abbrev rm_X2_countDoubled : Room := { frames := 2, cells := 0, slots := 0, locals := 40 }
abbrev rm_X2_listSets : Room := { frames := 2, cells := 0, slots := 0, locals := 42 }
abbrev rm_X2_weighAll : Room := { frames := 3, cells := 0, slots := 0, locals := 65 }
abbrev rm_X2_weighFirst : Room := { frames := 2, cells := 0, slots := 0, locals := 40 }
abbrev rm_X3_init : Room := { frames := 3, cells := 0, slots := 0, locals := 87 }
abbrev rm_X3_clear : Room := { frames := 0, cells := 0, slots := 0, locals := 0 }
abbrev rm_X3_remember : Room := { frames := 3, cells := 0, slots := 0, locals := 88 }
abbrev rm_X3_bringBack : Room := { frames := 3, cells := 0, slots := 0, locals := 88 }
abbrev rm_X4_init : Room := { frames := 2, cells := 0, slots := 0, locals := 67 }
abbrev rm_X4_begin : Room := { frames := 2, cells := 0, slots := 0, locals := 67 }
abbrev rm_X4_takeDone : Room := { frames := 2, cells := 0, slots := 0, locals := 67 }
abbrev rm_X4_takeAll : Room := { frames := 3, cells := 0, slots := 0, locals := 88 }
abbrev rm_X4_isLost : Room := { frames := 0, cells := 0, slots := 0, locals := 0 }
abbrev rm_X4_putOn : Room := { frames := 2, cells := 0, slots := 0, locals := 43 }
abbrev rm_X4_draw : Room := { frames := 0, cells := 0, slots := 0, locals := 0 }
abbrev rm_X4_figuresSeen : Room := { frames := 1, cells := 0, slots := 0, locals := 21 }
abbrev rm_X5_init : Room := { frames := 2, cells := 0, slots := 0, locals := 67 }
abbrev rm_X5_isFull : Room := { frames := 0, cells := 0, slots := 0, locals := 0 }
abbrev rm_X5_add : Room := { frames := 1, cells := 0, slots := 0, locals := 20 }
abbrev rm_X5_readInto : Room := { frames := 5, cells := 0, slots := 0, locals := 106 }
abbrev rm_X5_hasMore : Room := { frames := 1, cells := 0, slots := 0, locals := 20 }
abbrev rm_X5_skipBlanks : Room := { frames := 0, cells := 0, slots := 0, locals := 0 }
abbrev rm_X5_isNext : Room := { frames := 1, cells := 0, slots := 0, locals := 20 }
abbrev rm_X5_blame : Room := { frames := 0, cells := 0, slots := 0, locals := 0 }
abbrev rm_X5_readClause : Room := { frames := 4, cells := 0, slots := 0, locals := 85 }
abbrev rm_X5_readWord : Room := { frames := 1, cells := 0, slots := 0, locals := 22 }
abbrev rm_X5_readNumber : Room := { frames := 1, cells := 0, slots := 0, locals := 22 }
abbrev rm_X5_readEnd : Room := { frames := 2, cells := 0, slots := 0, locals := 41 }
abbrev rm_X5_readDays : Room := { frames := 3, cells := 0, slots := 0, locals := 61 }
abbrev rm_X5_readCube : Room := { frames := 3, cells := 0, slots := 0, locals := 61 }
abbrev rm_X5_readTurn : Room := { frames := 3, cells := 0, slots := 0, locals := 61 }
abbrev rm_X5_readPrice : Room := { frames := 3, cells := 0, slots := 0, locals := 61 }
abbrev rm_X6_init : Room := { frames := 3, cells := 0, slots := 0, locals := 87 }
abbrev rm_X6_begin : Room := { frames := 3, cells := 0, slots := 0, locals := 67 }
abbrev rm_X6_see : Room := { frames := 1, cells := 0, slots := 0, locals := 21 }
abbrev rm_X6_restore : Room := { frames := 2, cells := 0, slots := 0, locals := 46 }
abbrev rm_X6_repaint : Room := { frames := 2, cells := 0, slots := 0, locals := 46 }
abbrev rm_X6_canShow : Room := { frames := 1, cells := 0, slots := 0, locals := 21 }
abbrev rm_X6_cubeFor : Room := { frames := 2, cells := 0, slots := 0, locals := 40 }
abbrev rm_X6_countShown : Room := { frames := 2, cells := 0, slots := 0, locals := 45 }
abbrev rm_X6_countShownWithout : Room := { frames := 3, cells := 0, slots := 0, locals := 67 }
abbrev rm_X6_firstGap : Room := { frames := 2, cells := 0, slots := 0, locals := 45 }
abbrev rm_X6_addSightings : Room := { frames := 2, cells := 0, slots := 0, locals := 45 }
abbrev rm_X7_init : Room := { frames := 4, cells := 0, slots := 0, locals := 108 }
abbrev rm_X7_feed : Room := { frames := 2, cells := 0, slots := 0, locals := 41 }
abbrev rm_X7_desk : Room := { frames := 6, cells := 0, slots := 0, locals := 128 }
abbrev rm_X7_fault : Room := { frames := 0, cells := 0, slots := 0, locals := 0 }
abbrev rm_X7_told : Room := { frames := 0, cells := 0, slots := 0, locals := 0 }
abbrev rm_X7_side : Room := { frames := 2, cells := 0, slots := 0, locals := 43 }
abbrev rm_X7_turned : Room := { frames := 1, cells := 0, slots := 0, locals := 20 }
abbrev rm_X7_shows : Room := { frames := 2, cells := 0, slots := 0, locals := 46 }
abbrev rm_X7_paint : Room := { frames := 4, cells := 0, slots := 0, locals := 109 }
abbrev rm_X7_lose : Room := { frames := 4, cells := 0, slots := 0, locals := 109 }
abbrev rm_X7_drift : Room := { frames := 4, cells := 0, slots := 0, locals := 109 }
abbrev rm_X7_undo : Room := { frames := 4, cells := 0, slots := 0, locals := 109 }
abbrev rm_X7_shown : Room := { frames := 4, cells := 0, slots := 0, locals := 88 }
abbrev rm_X7_days : Room := { frames := 4, cells := 0, slots := 0, locals := 88 }
abbrev rm_X7_gap : Room := { frames := 4, cells := 0, slots := 0, locals := 88 }
abbrev rm_X7_must : Room := { frames := 2, cells := 0, slots := 0, locals := 46 }
abbrev rm_X7_search : Room := { frames := 5, cells := 0, slots := 0, locals := 115 }
abbrev rm_X7_most : Room := { frames := 5, cells := 0, slots := 0, locals := 115 }
abbrev rm_X7_gone : Room := { frames := 4, cells := 0, slots := 0, locals := 90 }
abbrev rm_X7_worst : Room := { frames := 4, cells := 0, slots := 0, locals := 90 }
abbrev rm_X7_instead : Room := { frames := 4, cells := 0, slots := 0, locals := 88 }
abbrev rm_X7_board : Room := { frames := 2, cells := 0, slots := 0, locals := 46 }
abbrev rm_X7_sums : Room := { frames := 9, cells := 0, slots := 0, locals := 625 }
abbrev rm_X7_price : Room := { frames := 0, cells := 0, slots := 0, locals := 0 }
abbrev rm_X7_cheapest : Room := { frames := 4, cells := 0, slots := 0, locals := 94 }
abbrev rm_X7_wrong : Room := { frames := 1, cells := 0, slots := 0, locals := 22 }
abbrev rm_X7_paintedOver : Room := { frames := 4, cells := 0, slots := 0, locals := 94 }
abbrev rm_X7_lookOn : Room := { frames := 4, cells := 0, slots := 0, locals := 94 }
abbrev rm_X7_write : Room := { frames := 1, cells := 0, slots := 0, locals := 21 }
abbrev rm_X7_tear : Room := { frames := 1, cells := 0, slots := 0, locals := 20 }
abbrev rm_X7_judge : Room := { frames := 4, cells := 0, slots := 0, locals := 88 }
abbrev rm_X7_seed : Room := { frames := 0, cells := 0, slots := 0, locals := 0 }
abbrev rm_X7_keep : Room := { frames := 4, cells := 0, slots := 0, locals := 109 }
abbrev rm_X7_goBack : Room := { frames := 4, cells := 0, slots := 0, locals := 109 }
abbrev rm_X7_isFigure : Room := { frames := 0, cells := 0, slots := 0, locals := 0 }
abbrev rm_X7_place : Room := { frames := 0, cells := 0, slots := 0, locals := 0 }
abbrev rm_X7_leastOf : Room := { frames := 1, cells := 0, slots := 0, locals := 20 }
abbrev rm_X7_cubeOf : Room := { frames := 0, cells := 0, slots := 0, locals := 0 }
abbrev rm_X7_sideOf : Room := { frames := 0, cells := 0, slots := 0, locals := 0 }
abbrev rm_X7_figureOf : Room := { frames := 0, cells := 0, slots := 0, locals := 0 }
abbrev rm_X7_fitsWhatIsTold : Room := { frames := 3, cells := 0, slots := 0, locals := 69 }
abbrev rm_X7_firstSideFor : Room := { frames := 3, cells := 0, slots := 0, locals := 69 }
abbrev rm_X7_waysToSum : Room := { frames := 8, cells := 0, slots := 0, locals := 600 }
abbrev rm_X8_init : Room := { frames := 2, cells := 0, slots := 0, locals := 67 }
abbrev rm_X8_in : Room := { frames := 0, cells := 0, slots := 0, locals := 0 }
abbrev rm_X8_has : Room := { frames := 0, cells := 0, slots := 0, locals := 0 }
abbrev rm_X8_bits : Room := { frames := 0, cells := 0, slots := 0, locals := 0 }
abbrev rm_X8_isCube : Room := { frames := 1, cells := 0, slots := 0, locals := 25 }
abbrev rm_X8_isSide : Room := { frames := 1, cells := 0, slots := 0, locals := 25 }
abbrev rm_X8_isThere : Room := { frames := 1, cells := 0, slots := 0, locals := 21 }
abbrev rm_X8_isFigure : Room := { frames := 1, cells := 0, slots := 0, locals := 25 }
abbrev rm_X8_isDay : Room := { frames := 1, cells := 0, slots := 0, locals := 25 }
abbrev rm_X8_feed : Room := { frames := 1, cells := 0, slots := 0, locals := 25 }
abbrev rm_X8_here : Room := { frames := 0, cells := 0, slots := 0, locals := 0 }
abbrev rm_X8_fails : Room := { frames := 0, cells := 0, slots := 0, locals := 0 }
abbrev rm_X8_takeNumber : Room := { frames := 1, cells := 0, slots := 0, locals := 25 }
abbrev rm_X8_into : Room := { frames := 2, cells := 0, slots := 0, locals := 48 }
abbrev rm_X8_takeDays : Room := { frames := 3, cells := 0, slots := 0, locals := 73 }
abbrev rm_X8_takeCube : Room := { frames := 3, cells := 0, slots := 0, locals := 73 }
abbrev rm_X8_takePair : Room := { frames := 2, cells := 0, slots := 0, locals := 48 }
abbrev rm_X8_takePrice : Room := { frames := 3, cells := 0, slots := 0, locals := 73 }
abbrev rm_X8_takeClause : Room := { frames := 4, cells := 0, slots := 0, locals := 95 }
abbrev rm_X8_takeRead : Room := { frames := 1, cells := 0, slots := 0, locals := 22 }
abbrev rm_X8_desk : Room := { frames := 5, cells := 0, slots := 0, locals := 119 }
abbrev rm_X8_fault : Room := { frames := 0, cells := 0, slots := 0, locals := 0 }
abbrev rm_X8_told : Room := { frames := 0, cells := 0, slots := 0, locals := 0 }
abbrev rm_X8_side : Room := { frames := 2, cells := 0, slots := 0, locals := 47 }
abbrev rm_X8_turned : Room := { frames := 2, cells := 0, slots := 0, locals := 45 }
abbrev rm_X8_stands : Room := { frames := 0, cells := 0, slots := 0, locals := 0 }
abbrev rm_X8_findPlaces : Room := { frames := 0, cells := 0, slots := 0, locals := 0 }
abbrev rm_X8_figuresOf : Room := { frames := 0, cells := 0, slots := 0, locals := 0 }
abbrev rm_X8_shows : Room := { frames := 2, cells := 0, slots := 0, locals := 46 }
abbrev rm_X8_findShown : Room := { frames := 2, cells := 0, slots := 0, locals := 42 }
abbrev rm_X8_howShown : Room := { frames := 1, cells := 0, slots := 0, locals := 21 }
abbrev rm_X8_shown : Room := { frames := 3, cells := 0, slots := 0, locals := 63 }
abbrev rm_X8_daysNow : Room := { frames := 3, cells := 0, slots := 0, locals := 63 }
abbrev rm_X8_days : Room := { frames := 4, cells := 0, slots := 0, locals := 85 }
abbrev rm_X8_gapNow : Room := { frames := 3, cells := 0, slots := 0, locals := 63 }
abbrev rm_X8_gap : Room := { frames := 4, cells := 0, slots := 0, locals := 84 }
abbrev rm_X8_remember : Room := { frames := 0, cells := 0, slots := 0, locals := 0 }
abbrev rm_X8_paintNow : Room := { frames := 0, cells := 0, slots := 0, locals := 0 }
abbrev rm_X8_paint : Room := { frames := 2, cells := 0, slots := 0, locals := 47 }
abbrev rm_X8_lose : Room := { frames := 2, cells := 0, slots := 0, locals := 46 }
abbrev rm_X8_draw : Room := { frames := 0, cells := 0, slots := 0, locals := 0 }
abbrev rm_X8_drift : Room := { frames := 1, cells := 0, slots := 0, locals := 25 }
abbrev rm_X8_undo : Room := { frames := 0, cells := 0, slots := 0, locals := 0 }
abbrev rm_X8_needed : Room := { frames := 1, cells := 0, slots := 0, locals := 21 }
abbrev rm_X8_must : Room := { frames := 2, cells := 0, slots := 0, locals := 45 }
abbrev rm_X8_findChoices : Room := { frames := 1, cells := 0, slots := 0, locals := 22 }
abbrev rm_X8_findWanted : Room := { frames := 1, cells := 0, slots := 0, locals := 21 }
abbrev rm_X8_shownBy : Room := { frames := 1, cells := 0, slots := 0, locals := 21 }
abbrev rm_X8_allDays : Room := { frames := 0, cells := 0, slots := 0, locals := 0 }
abbrev rm_X8_findPairs : Room := { frames := 2, cells := 0, slots := 0, locals := 48 }
abbrev rm_X8_search : Room := { frames := 3, cells := 0, slots := 0, locals := 73 }
abbrev rm_X8_most : Room := { frames := 3, cells := 0, slots := 0, locals := 73 }
abbrev rm_X8_daysBy : Room := { frames := 4, cells := 0, slots := 0, locals := 85 }
abbrev rm_X8_gone : Room := { frames := 5, cells := 0, slots := 0, locals := 110 }
abbrev rm_X8_worst : Room := { frames := 5, cells := 0, slots := 0, locals := 110 }
abbrev rm_X8_instead : Room := { frames := 5, cells := 0, slots := 0, locals := 110 }
abbrev rm_X8_board : Room := { frames := 2, cells := 0, slots := 0, locals := 45 }
abbrev rm_X8_sums : Room := { frames := 2, cells := 0, slots := 0, locals := 42 }
abbrev rm_X8_price : Room := { frames := 1, cells := 0, slots := 0, locals := 25 }
abbrev rm_X8_isShownBy : Room := { frames := 3, cells := 0, slots := 0, locals := 63 }
abbrev rm_X8_cheapest : Room := { frames := 4, cells := 0, slots := 0, locals := 89 }
abbrev rm_X8_wrong : Room := { frames := 2, cells := 0, slots := 0, locals := 46 }
abbrev rm_X8_findOvers : Room := { frames := 4, cells := 0, slots := 0, locals := 89 }
abbrev rm_X8_paintedOver : Room := { frames := 5, cells := 0, slots := 0, locals := 114 }
abbrev rm_X8_lookOn : Room := { frames := 5, cells := 0, slots := 0, locals := 114 }
abbrev rm_X8_write : Room := { frames := 1, cells := 0, slots := 0, locals := 25 }
abbrev rm_X8_tear : Room := { frames := 0, cells := 0, slots := 0, locals := 0 }
abbrev rm_X8_judge : Room := { frames := 4, cells := 0, slots := 0, locals := 85 }
abbrev rm_X8_seed : Room := { frames := 0, cells := 0, slots := 0, locals := 0 }
abbrev rm_X8_keep : Room := { frames := 1, cells := 0, slots := 0, locals := 25 }
abbrev rm_X8_goBack : Room := { frames := 1, cells := 0, slots := 0, locals := 25 }
abbrev rm_J6_bitCount_0f7a4 : Room := { frames := 0, cells := 0, slots := 0, locals := 0 }
abbrev rm_J7_fill_53178 : Room := { frames := 0, cells := 0, slots := 0, locals := 0 }
theorem yv_X0_clear : yV yX0_clear cX0_clear 2 none 0 := ⟨⟨wC_yX0_clear, wi_CubeDays_Desk, by decide +kernel, by decide +kernel, by decide +kernel⟩, wI_yX0_clear, wV_yX0_clear⟩
theorem yv_X0_take : yV yX0_take cX0_take 2 none 1 := ⟨⟨wC_yX0_take, wi_CubeDays_Desk, by decide +kernel, by decide +kernel, by decide +kernel⟩, wI_yX0_take, wV_yX0_take⟩
theorem yv_X0_hasCube : yV yX0_hasCube cX0_hasCube 2 (some .boolean) 1 := ⟨⟨wC_yX0_hasCube, wi_CubeDays_Desk, by decide +kernel, by decide +kernel, by decide +kernel⟩, wI_yX0_hasCube, wV_yX0_hasCube⟩
theorem yv_X0_hasSide : yV yX0_hasSide cX0_hasSide 3 (some .boolean) 2 := ⟨⟨wC_yX0_hasSide, wi_CubeDays_Desk, by decide +kernel, by decide +kernel, by decide +kernel⟩, wI_yX0_hasSide, wV_yX0_hasSide⟩
theorem yv_X0_hasDay : yV yX0_hasDay cX0_hasDay 2 (some .boolean) 1 := ⟨⟨wC_yX0_hasDay, wi_CubeDays_Desk, by decide +kernel, by decide +kernel, by decide +kernel⟩, wI_yX0_hasDay, wV_yX0_hasDay⟩
theorem yv_X0_dayCount : yV yX0_dayCount cX0_dayCount 1 (some .int) 0 := ⟨⟨wC_yX0_dayCount, wi_CubeDays_Desk, by decide +kernel, by decide +kernel, by decide +kernel⟩, wI_yX0_dayCount, wV_yX0_dayCount⟩
theorem yv_X0_hasTwoPlaces : yV yX0_hasTwoPlaces cX0_hasTwoPlaces 2 (some .boolean) 1 := ⟨⟨wC_yX0_hasTwoPlaces, wi_CubeDays_Desk, by decide +kernel, by decide +kernel, by decide +kernel⟩, wI_yX0_hasTwoPlaces, wV_yX0_hasTwoPlaces⟩
theorem yv_X0_bothWays : yV yX0_bothWays cX0_bothWays 2 (some .int) 1 := ⟨⟨wC_yX0_bothWays, wi_CubeDays_Desk, by decide +kernel, by decide +kernel, by decide +kernel⟩, wI_yX0_bothWays, wV_yX0_bothWays⟩
theorem yv_X0_mostOften : yV yX0_mostOften cX0_mostOften 6 (some .int) 1 := ⟨⟨wC_yX0_mostOften, wi_CubeDays_Desk, by decide +kernel, by decide +kernel, by decide +kernel⟩, wI_yX0_mostOften, wV_yX0_mostOften⟩
theorem yv_X1_clear : yV yX1_clear cX1_clear 1 none 0 := ⟨⟨wC_yX1_clear, wi_CubeDays_Notes, by decide +kernel, by decide +kernel, by decide +kernel⟩, wI_yX1_clear, wV_yX1_clear⟩
theorem yv_X1_addWrong : yV yX1_addWrong cX1_addWrong 3 none 2 := ⟨⟨wC_yX1_addWrong, wi_CubeDays_Notes, by decide +kernel, by decide +kernel, by decide +kernel⟩, wI_yX1_addWrong, wV_yX1_addWrong⟩
theorem yv_X1_addEntry : yV yX1_addEntry cX1_addEntry 2 none 1 := ⟨⟨wC_yX1_addEntry, wi_CubeDays_Notes, by decide +kernel, by decide +kernel, by decide +kernel⟩, wI_yX1_addEntry, wV_yX1_addEntry⟩
theorem yv_X1_firstEntryNot : yV yX1_firstEntryNot cX1_firstEntryNot 3 (some .int) 1 := ⟨⟨wC_yX1_firstEntryNot, wi_CubeDays_Notes, by decide +kernel, by decide +kernel, by decide +kernel⟩, wI_yX1_firstEntryNot, wV_yX1_firstEntryNot⟩
theorem yv_X2_forget : yV yX2_forget cX2_forget 2 none 0 := ⟨⟨wC_yX2_forget, wi_CubeDays_Pairs, by decide +kernel, by decide +kernel, by decide +kernel⟩, wI_yX2_forget, wV_yX2_forget⟩
theorem yv_X2_know : yV yX2_know cX2_know 3 none 2 := ⟨⟨wC_yX2_know, wi_CubeDays_Pairs, by decide +kernel, by decide +kernel, by decide +kernel⟩, wI_yX2_know, wV_yX2_know⟩
theorem yv_X2_lesser : yS yX2_lesser cX2_lesser 2 (some .int) 2 := ⟨⟨wC_yX2_lesser, wi_CubeDays_Pairs, by decide +kernel, by decide +kernel, by decide +kernel⟩, wS_yX2_lesser⟩
theorem yv_X2_countDays : yV yX2_countDays cX2_countDays 5 none 1 := ⟨⟨wC_yX2_countDays, wi_CubeDays_Pairs, by decide +kernel, by decide +kernel, by decide +kernel⟩, wI_yX2_countDays, wV_yX2_countDays⟩
theorem yv_X2_countDoubled : yV yX2_countDoubled cX2_countDoubled 6 none 0 := ⟨⟨wC_yX2_countDoubled, wi_CubeDays_Pairs, by decide +kernel, by decide +kernel, by decide +kernel⟩, wI_yX2_countDoubled, wV_yX2_countDoubled⟩
theorem yv_X2_listSets : yV yX2_listSets cX2_listSets 6 none 2 := ⟨⟨wC_yX2_listSets, wi_CubeDays_Pairs, by decide +kernel, by decide +kernel, by decide +kernel⟩, wI_yX2_listSets, wV_yX2_listSets⟩
theorem yv_X2_weighAll : yV yX2_weighAll cX2_weighAll 9 none 2 := ⟨⟨wC_yX2_weighAll, wi_CubeDays_Pairs, by decide +kernel, by decide +kernel, by decide +kernel⟩, wI_yX2_weighAll, wV_yX2_weighAll⟩
theorem yv_X2_weighFirst : yV yX2_weighFirst cX2_weighFirst 6 (some .int) 1 := ⟨⟨wC_yX2_weighFirst, wi_CubeDays_Pairs, by decide +kernel, by decide +kernel, by decide +kernel⟩, wI_yX2_weighFirst, wV_yX2_weighFirst⟩
theorem yv_X3_clear : yV yX3_clear cX3_clear 1 none 0 := ⟨⟨wC_yX3_clear, wi_CubeDays_Past, by decide +kernel, by decide +kernel, by decide +kernel⟩, wI_yX3_clear, wV_yX3_clear⟩
theorem yv_X3_remember : yV yX3_remember cX3_remember 2 none 1 := ⟨⟨wC_yX3_remember, wi_CubeDays_Past, by decide +kernel, by decide +kernel, by decide +kernel⟩, wI_yX3_remember, wV_yX3_remember⟩
theorem yv_X3_bringBack : yV yX3_bringBack cX3_bringBack 2 none 1 := ⟨⟨wC_yX3_bringBack, wi_CubeDays_Past, by decide +kernel, by decide +kernel, by decide +kernel⟩, wI_yX3_bringBack, wV_yX3_bringBack⟩
theorem yv_X4_begin : yV yX4_begin cX4_begin 2 none 1 := ⟨⟨wC_yX4_begin, wi_CubeDays_State, by decide +kernel, by decide +kernel, by decide +kernel⟩, wI_yX4_begin, wV_yX4_begin⟩
theorem yv_X4_takeDone : yV yX4_takeDone cX4_takeDone 2 none 1 := ⟨⟨wC_yX4_takeDone, wi_CubeDays_State, by decide +kernel, by decide +kernel, by decide +kernel⟩, wI_yX4_takeDone, wV_yX4_takeDone⟩
theorem yv_X4_takeAll : yV yX4_takeAll cX4_takeAll 2 none 1 := ⟨⟨wC_yX4_takeAll, wi_CubeDays_State, by decide +kernel, by decide +kernel, by decide +kernel⟩, wI_yX4_takeAll, wV_yX4_takeAll⟩
theorem yv_X4_isLost : yV yX4_isLost cX4_isLost 2 (some .boolean) 1 := ⟨⟨wC_yX4_isLost, wi_CubeDays_State, by decide +kernel, by decide +kernel, by decide +kernel⟩, wI_yX4_isLost, wV_yX4_isLost⟩
theorem yv_X4_putOn : yV yX4_putOn cX4_putOn 5 none 4 := ⟨⟨wC_yX4_putOn, wi_CubeDays_State, by decide +kernel, by decide +kernel, by decide +kernel⟩, wI_yX4_putOn, wV_yX4_putOn⟩
theorem yv_X4_draw : yV yX4_draw cX4_draw 2 (some .int) 1 := ⟨⟨wC_yX4_draw, wi_CubeDays_State, by decide +kernel, by decide +kernel, by decide +kernel⟩, wI_yX4_draw, wV_yX4_draw⟩
theorem yv_X4_figuresSeen : yV yX4_figuresSeen cX4_figuresSeen 6 (some .int) 3 := ⟨⟨wC_yX4_figuresSeen, wi_CubeDays_State, by decide +kernel, by decide +kernel, by decide +kernel⟩, wI_yX4_figuresSeen, wV_yX4_figuresSeen⟩
theorem yv_X5_isFull : yV yX5_isFull cX5_isFull 1 (some .boolean) 0 := ⟨⟨wC_yX5_isFull, wi_CubeDays_Text, by decide +kernel, by decide +kernel, by decide +kernel⟩, wI_yX5_isFull, wV_yX5_isFull⟩
theorem yv_X5_add : yV yX5_add cX5_add 2 none 1 := ⟨⟨wC_yX5_add, wi_CubeDays_Text, by decide +kernel, by decide +kernel, by decide +kernel⟩, wI_yX5_add, wV_yX5_add⟩
theorem yv_X5_readInto : yV yX5_readInto cX5_readInto 3 (some .int) 1 := ⟨⟨wC_yX5_readInto, wi_CubeDays_Text, by decide +kernel, by decide +kernel, by decide +kernel⟩, wI_yX5_readInto, wV_yX5_readInto⟩
theorem yv_X5_hasMore : yV yX5_hasMore cX5_hasMore 1 (some .boolean) 0 := ⟨⟨wC_yX5_hasMore, wi_CubeDays_Text, by decide +kernel, by decide +kernel, by decide +kernel⟩, wI_yX5_hasMore, wV_yX5_hasMore⟩
theorem yv_X5_skipBlanks : yV yX5_skipBlanks cX5_skipBlanks 1 none 0 := ⟨⟨wC_yX5_skipBlanks, wi_CubeDays_Text, by decide +kernel, by decide +kernel, by decide +kernel⟩, wI_yX5_skipBlanks, wV_yX5_skipBlanks⟩
theorem yv_X5_isNext : yV yX5_isNext cX5_isNext 2 (some .boolean) 1 := ⟨⟨wC_yX5_isNext, wi_CubeDays_Text, by decide +kernel, by decide +kernel, by decide +kernel⟩, wI_yX5_isNext, wV_yX5_isNext⟩
theorem yv_X5_blame : yV yX5_blame cX5_blame 3 none 2 := ⟨⟨wC_yX5_blame, wi_CubeDays_Text, by decide +kernel, by decide +kernel, by decide +kernel⟩, wI_yX5_blame, wV_yX5_blame⟩
theorem yv_X5_readClause : yV yX5_readClause cX5_readClause 2 none 1 := ⟨⟨wC_yX5_readClause, wi_CubeDays_Text, by decide +kernel, by decide +kernel, by decide +kernel⟩, wI_yX5_readClause, wV_yX5_readClause⟩
theorem yv_X5_readWord : yV yX5_readWord cX5_readWord 2 none 1 := ⟨⟨wC_yX5_readWord, wi_CubeDays_Text, by decide +kernel, by decide +kernel, by decide +kernel⟩, wI_yX5_readWord, wV_yX5_readWord⟩
theorem yv_X5_readNumber : yV yX5_readNumber cX5_readNumber 3 (some .int) 1 := ⟨⟨wC_yX5_readNumber, wi_CubeDays_Text, by decide +kernel, by decide +kernel, by decide +kernel⟩, wI_yX5_readNumber, wV_yX5_readNumber⟩
theorem yv_X5_readEnd : yV yX5_readEnd cX5_readEnd 1 none 0 := ⟨⟨wC_yX5_readEnd, wi_CubeDays_Text, by decide +kernel, by decide +kernel, by decide +kernel⟩, wI_yX5_readEnd, wV_yX5_readEnd⟩
theorem yv_X5_readDays : yV yX5_readDays cX5_readDays 5 none 1 := ⟨⟨wC_yX5_readDays, wi_CubeDays_Text, by decide +kernel, by decide +kernel, by decide +kernel⟩, wI_yX5_readDays, wV_yX5_readDays⟩
theorem yv_X5_readCube : yV yX5_readCube cX5_readCube 5 none 1 := ⟨⟨wC_yX5_readCube, wi_CubeDays_Text, by decide +kernel, by decide +kernel, by decide +kernel⟩, wI_yX5_readCube, wV_yX5_readCube⟩
theorem yv_X5_readTurn : yV yX5_readTurn cX5_readTurn 4 none 1 := ⟨⟨wC_yX5_readTurn, wi_CubeDays_Text, by decide +kernel, by decide +kernel, by decide +kernel⟩, wI_yX5_readTurn, wV_yX5_readTurn⟩
theorem yv_X5_readPrice : yV yX5_readPrice cX5_readPrice 4 none 1 := ⟨⟨wC_yX5_readPrice, wi_CubeDays_Text, by decide +kernel, by decide +kernel, by decide +kernel⟩, wI_yX5_readPrice, wV_yX5_readPrice⟩
theorem yv_X6_begin : yV yX6_begin cX6_begin 2 none 0 := ⟨⟨wC_yX6_begin, wi_CubeDays_Trial, by decide +kernel, by decide +kernel, by decide +kernel⟩, wI_yX6_begin, wV_yX6_begin⟩
theorem yv_X6_see : yV yX6_see cX6_see 5 none 2 := ⟨⟨wC_yX6_see, wi_CubeDays_Trial, by decide +kernel, by decide +kernel, by decide +kernel⟩, wI_yX6_see, wV_yX6_see⟩
theorem yv_X6_restore : yV yX6_restore cX6_restore 2 none 1 := ⟨⟨wC_yX6_restore, wi_CubeDays_Trial, by decide +kernel, by decide +kernel, by decide +kernel⟩, wI_yX6_restore, wV_yX6_restore⟩
theorem yv_X6_repaint : yV yX6_repaint cX6_repaint 4 none 3 := ⟨⟨wC_yX6_repaint, wi_CubeDays_Trial, by decide +kernel, by decide +kernel, by decide +kernel⟩, wI_yX6_repaint, wV_yX6_repaint⟩
theorem yv_X6_canShow : yV yX6_canShow cX6_canShow 5 (some .boolean) 1 := ⟨⟨wC_yX6_canShow, wi_CubeDays_Trial, by decide +kernel, by decide +kernel, by decide +kernel⟩, wI_yX6_canShow, wV_yX6_canShow⟩
theorem yv_X6_cubeFor : yV yX6_cubeFor cX6_cubeFor 6 (some .int) 2 := ⟨⟨wC_yX6_cubeFor, wi_CubeDays_Trial, by decide +kernel, by decide +kernel, by decide +kernel⟩, wI_yX6_cubeFor, wV_yX6_cubeFor⟩
theorem yv_X6_countShown : yV yX6_countShown cX6_countShown 3 (some .int) 0 := ⟨⟨wC_yX6_countShown, wi_CubeDays_Trial, by decide +kernel, by decide +kernel, by decide +kernel⟩, wI_yX6_countShown, wV_yX6_countShown⟩
theorem yv_X6_countShownWithout : yV yX6_countShownWithout cX6_countShownWithout 4 (some .int) 2 := ⟨⟨wC_yX6_countShownWithout, wi_CubeDays_Trial, by decide +kernel, by decide +kernel, by decide +kernel⟩, wI_yX6_countShownWithout, wV_yX6_countShownWithout⟩
theorem yv_X6_firstGap : yV yX6_firstGap cX6_firstGap 2 (some .int) 0 := ⟨⟨wC_yX6_firstGap, wi_CubeDays_Trial, by decide +kernel, by decide +kernel, by decide +kernel⟩, wI_yX6_firstGap, wV_yX6_firstGap⟩
theorem yv_X6_addSightings : yV yX6_addSightings cX6_addSightings 3 none 1 := ⟨⟨wC_yX6_addSightings, wi_CubeDays_Trial, by decide +kernel, by decide +kernel, by decide +kernel⟩, wI_yX6_addSightings, wV_yX6_addSightings⟩
theorem yv_X7_feed : yV yX7_feed cX7_feed 2 (some .int) 1 := ⟨⟨wC_yX7_feed, wi_CubeDays, by decide +kernel, by decide +kernel, by decide +kernel⟩, wI_yX7_feed, wV_yX7_feed⟩
theorem yv_X7_desk : yV yX7_desk cX7_desk 3 (some .int) 0 := ⟨⟨wC_yX7_desk, wi_CubeDays, by decide +kernel, by decide +kernel, by decide +kernel⟩, wI_yX7_desk, wV_yX7_desk⟩
theorem yv_X7_fault : yV yX7_fault cX7_fault 1 (some .int) 0 := ⟨⟨wC_yX7_fault, wi_CubeDays, by decide +kernel, by decide +kernel, by decide +kernel⟩, wI_yX7_fault, wV_yX7_fault⟩
theorem yv_X7_told : yV yX7_told cX7_told 2 (some .int) 1 := ⟨⟨wC_yX7_told, wi_CubeDays, by decide +kernel, by decide +kernel, by decide +kernel⟩, wI_yX7_told, wV_yX7_told⟩
theorem yv_X7_side : yV yX7_side cX7_side 3 (some .int) 2 := ⟨⟨wC_yX7_side, wi_CubeDays, by decide +kernel, by decide +kernel, by decide +kernel⟩, wI_yX7_side, wV_yX7_side⟩
theorem yv_X7_turned : yV yX7_turned cX7_turned 2 (some .int) 1 := ⟨⟨wC_yX7_turned, wi_CubeDays, by decide +kernel, by decide +kernel, by decide +kernel⟩, wI_yX7_turned, wV_yX7_turned⟩
theorem yv_X7_shows : yV yX7_shows cX7_shows 2 (some .int) 1 := ⟨⟨wC_yX7_shows, wi_CubeDays, by decide +kernel, by decide +kernel, by decide +kernel⟩, wI_yX7_shows, wV_yX7_shows⟩
theorem yv_X7_paint : yV yX7_paint cX7_paint 4 (some .int) 3 := ⟨⟨wC_yX7_paint, wi_CubeDays, by decide +kernel, by decide +kernel, by decide +kernel⟩, wI_yX7_paint, wV_yX7_paint⟩
theorem yv_X7_lose : yV yX7_lose cX7_lose 4 (some .int) 2 := ⟨⟨wC_yX7_lose, wi_CubeDays, by decide +kernel, by decide +kernel, by decide +kernel⟩, wI_yX7_lose, wV_yX7_lose⟩
theorem yv_X7_drift : yV yX7_drift cX7_drift 6 (some .int) 1 := ⟨⟨wC_yX7_drift, wi_CubeDays, by decide +kernel, by decide +kernel, by decide +kernel⟩, wI_yX7_drift, wV_yX7_drift⟩
theorem yv_X7_undo : yV yX7_undo cX7_undo 1 (some .int) 0 := ⟨⟨wC_yX7_undo, wi_CubeDays, by decide +kernel, by decide +kernel, by decide +kernel⟩, wI_yX7_undo, wV_yX7_undo⟩
theorem yv_X7_shown : yV yX7_shown cX7_shown 3 (some .int) 2 := ⟨⟨wC_yX7_shown, wi_CubeDays, by decide +kernel, by decide +kernel, by decide +kernel⟩, wI_yX7_shown, wV_yX7_shown⟩
theorem yv_X7_days : yV yX7_days cX7_days 1 (some .int) 0 := ⟨⟨wC_yX7_days, wi_CubeDays, by decide +kernel, by decide +kernel, by decide +kernel⟩, wI_yX7_days, wV_yX7_days⟩
theorem yv_X7_gap : yV yX7_gap cX7_gap 1 (some .int) 0 := ⟨⟨wC_yX7_gap, wi_CubeDays, by decide +kernel, by decide +kernel, by decide +kernel⟩, wI_yX7_gap, wV_yX7_gap⟩
theorem yv_X7_must : yV yX7_must cX7_must 2 (some .int) 1 := ⟨⟨wC_yX7_must, wi_CubeDays, by decide +kernel, by decide +kernel, by decide +kernel⟩, wI_yX7_must, wV_yX7_must⟩
theorem yv_X7_search : yV yX7_search cX7_search 3 (some .int) 2 := ⟨⟨wC_yX7_search, wi_CubeDays, by decide +kernel, by decide +kernel, by decide +kernel⟩, wI_yX7_search, wV_yX7_search⟩
theorem yv_X7_most : yV yX7_most cX7_most 2 (some .int) 1 := ⟨⟨wC_yX7_most, wi_CubeDays, by decide +kernel, by decide +kernel, by decide +kernel⟩, wI_yX7_most, wV_yX7_most⟩
theorem yv_X7_gone : yV yX7_gone cX7_gone 3 (some .int) 2 := ⟨⟨wC_yX7_gone, wi_CubeDays, by decide +kernel, by decide +kernel, by decide +kernel⟩, wI_yX7_gone, wV_yX7_gone⟩
theorem yv_X7_worst : yV yX7_worst cX7_worst 6 (some .int) 0 := ⟨⟨wC_yX7_worst, wi_CubeDays, by decide +kernel, by decide +kernel, by decide +kernel⟩, wI_yX7_worst, wV_yX7_worst⟩
theorem yv_X7_instead : yV yX7_instead cX7_instead 7 (some .int) 2 := ⟨⟨wC_yX7_instead, wi_CubeDays, by decide +kernel, by decide +kernel, by decide +kernel⟩, wI_yX7_instead, wV_yX7_instead⟩
theorem yv_X7_board : yV yX7_board cX7_board 3 (some .int) 2 := ⟨⟨wC_yX7_board, wi_CubeDays, by decide +kernel, by decide +kernel, by decide +kernel⟩, wI_yX7_board, wV_yX7_board⟩
theorem yv_X7_sums : yV yX7_sums cX7_sums 2 (some .int) 1 := ⟨⟨wC_yX7_sums, wi_CubeDays, by decide +kernel, by decide +kernel, by decide +kernel⟩, wI_yX7_sums, wV_yX7_sums⟩
theorem yv_X7_price : yV yX7_price cX7_price 4 (some .int) 1 := ⟨⟨wC_yX7_price, wi_CubeDays, by decide +kernel, by decide +kernel, by decide +kernel⟩, wI_yX7_price, wV_yX7_price⟩
theorem yv_X7_cheapest : yV yX7_cheapest cX7_cheapest 7 (some .int) 1 := ⟨⟨wC_yX7_cheapest, wi_CubeDays, by decide +kernel, by decide +kernel, by decide +kernel⟩, wI_yX7_cheapest, wV_yX7_cheapest⟩
theorem yv_X7_wrong : yV yX7_wrong cX7_wrong 3 (some .int) 2 := ⟨⟨wC_yX7_wrong, wi_CubeDays, by decide +kernel, by decide +kernel, by decide +kernel⟩, wI_yX7_wrong, wV_yX7_wrong⟩
theorem yv_X7_paintedOver : yV yX7_paintedOver cX7_paintedOver 4 (some .int) 1 := ⟨⟨wC_yX7_paintedOver, wi_CubeDays, by decide +kernel, by decide +kernel, by decide +kernel⟩, wI_yX7_paintedOver, wV_yX7_paintedOver⟩
theorem yv_X7_lookOn : yV yX7_lookOn cX7_lookOn 6 (some .int) 0 := ⟨⟨wC_yX7_lookOn, wi_CubeDays, by decide +kernel, by decide +kernel, by decide +kernel⟩, wI_yX7_lookOn, wV_yX7_lookOn⟩
theorem yv_X7_write : yV yX7_write cX7_write 2 (some .int) 1 := ⟨⟨wC_yX7_write, wi_CubeDays, by decide +kernel, by decide +kernel, by decide +kernel⟩, wI_yX7_write, wV_yX7_write⟩
theorem yv_X7_tear : yV yX7_tear cX7_tear 2 (some .int) 0 := ⟨⟨wC_yX7_tear, wi_CubeDays, by decide +kernel, by decide +kernel, by decide +kernel⟩, wI_yX7_tear, wV_yX7_tear⟩
theorem yv_X7_judge : yV yX7_judge cX7_judge 1 (some .int) 0 := ⟨⟨wC_yX7_judge, wi_CubeDays, by decide +kernel, by decide +kernel, by decide +kernel⟩, wI_yX7_judge, wV_yX7_judge⟩
theorem yv_X7_seed : yV yX7_seed cX7_seed 3 (some .int) 1 := ⟨⟨wC_yX7_seed, wi_CubeDays, by decide +kernel, by decide +kernel, by decide +kernel⟩, wI_yX7_seed, wV_yX7_seed⟩
theorem yv_X7_keep : yV yX7_keep cX7_keep 2 (some .int) 1 := ⟨⟨wC_yX7_keep, wi_CubeDays, by decide +kernel, by decide +kernel, by decide +kernel⟩, wI_yX7_keep, wV_yX7_keep⟩
theorem yv_X7_goBack : yV yX7_goBack cX7_goBack 2 (some .int) 1 := ⟨⟨wC_yX7_goBack, wi_CubeDays, by decide +kernel, by decide +kernel, by decide +kernel⟩, wI_yX7_goBack, wV_yX7_goBack⟩
theorem yv_X7_isFigure : yS yX7_isFigure cX7_isFigure 1 (some .boolean) 1 := ⟨⟨wC_yX7_isFigure, wi_CubeDays, by decide +kernel, by decide +kernel, by decide +kernel⟩, wS_yX7_isFigure⟩
theorem yv_X7_place : yS yX7_place cX7_place 2 (some .int) 2 := ⟨⟨wC_yX7_place, wi_CubeDays, by decide +kernel, by decide +kernel, by decide +kernel⟩, wS_yX7_place⟩
theorem yv_X7_leastOf : yS yX7_leastOf cX7_leastOf 1 (some .int) 1 := ⟨⟨wC_yX7_leastOf, wi_CubeDays, by decide +kernel, by decide +kernel, by decide +kernel⟩, wS_yX7_leastOf⟩
theorem yv_X7_cubeOf : yS yX7_cubeOf cX7_cubeOf 1 (some .int) 1 := ⟨⟨wC_yX7_cubeOf, wi_CubeDays, by decide +kernel, by decide +kernel, by decide +kernel⟩, wS_yX7_cubeOf⟩
theorem yv_X7_sideOf : yS yX7_sideOf cX7_sideOf 1 (some .int) 1 := ⟨⟨wC_yX7_sideOf, wi_CubeDays, by decide +kernel, by decide +kernel, by decide +kernel⟩, wS_yX7_sideOf⟩
theorem yv_X7_figureOf : yS yX7_figureOf cX7_figureOf 1 (some .int) 1 := ⟨⟨wC_yX7_figureOf, wi_CubeDays, by decide +kernel, by decide +kernel, by decide +kernel⟩, wS_yX7_figureOf⟩
theorem yv_X7_fitsWhatIsTold : yV yX7_fitsWhatIsTold cX7_fitsWhatIsTold 6 (some .boolean) 1 := ⟨⟨wC_yX7_fitsWhatIsTold, wi_CubeDays, by decide +kernel, by decide +kernel, by decide +kernel⟩, wI_yX7_fitsWhatIsTold, wV_yX7_fitsWhatIsTold⟩
theorem yv_X7_firstSideFor : yV yX7_firstSideFor cX7_firstSideFor 6 (some .int) 2 := ⟨⟨wC_yX7_firstSideFor, wi_CubeDays, by decide +kernel, by decide +kernel, by decide +kernel⟩, wI_yX7_firstSideFor, wV_yX7_firstSideFor⟩
theorem yv_X7_waysToSum : yS yX7_waysToSum cX7_waysToSum 6 (some .int) 4 := ⟨⟨wC_yX7_waysToSum, wi_CubeDays, by decide +kernel, by decide +kernel, by decide +kernel⟩, wS_yX7_waysToSum⟩
theorem yv_X8_in : yS yX8_in cX8_in 6 (some .boolean) 3 := ⟨⟨wC_yX8_in, wi_CubeDaysModel, by decide +kernel, by decide +kernel, by decide +kernel⟩, wS_yX8_in⟩
theorem yv_X8_has : yS yX8_has cX8_has 2 (some .boolean) 2 := ⟨⟨wC_yX8_has, wi_CubeDaysModel, by decide +kernel, by decide +kernel, by decide +kernel⟩, wS_yX8_has⟩
theorem yv_X8_bits : yS yX8_bits cX8_bits 3 (some .int) 1 := ⟨⟨wC_yX8_bits, wi_CubeDaysModel, by decide +kernel, by decide +kernel, by decide +kernel⟩, wS_yX8_bits⟩
theorem yv_X8_isCube : yV yX8_isCube cX8_isCube 2 (some .boolean) 1 := ⟨⟨wC_yX8_isCube, wi_CubeDaysModel, by decide +kernel, by decide +kernel, by decide +kernel⟩, wI_yX8_isCube, wV_yX8_isCube⟩
theorem yv_X8_isSide : yV yX8_isSide cX8_isSide 3 (some .boolean) 2 := ⟨⟨wC_yX8_isSide, wi_CubeDaysModel, by decide +kernel, by decide +kernel, by decide +kernel⟩, wI_yX8_isSide, wV_yX8_isSide⟩
theorem yv_X8_isThere : yV yX8_isThere cX8_isThere 2 (some .boolean) 1 := ⟨⟨wC_yX8_isThere, wi_CubeDaysModel, by decide +kernel, by decide +kernel, by decide +kernel⟩, wI_yX8_isThere, wV_yX8_isThere⟩
theorem yv_X8_isFigure : yS yX8_isFigure cX8_isFigure 1 (some .boolean) 1 := ⟨⟨wC_yX8_isFigure, wi_CubeDaysModel, by decide +kernel, by decide +kernel, by decide +kernel⟩, wS_yX8_isFigure⟩
theorem yv_X8_isDay : yV yX8_isDay cX8_isDay 2 (some .boolean) 1 := ⟨⟨wC_yX8_isDay, wi_CubeDaysModel, by decide +kernel, by decide +kernel, by decide +kernel⟩, wI_yX8_isDay, wV_yX8_isDay⟩
theorem yv_X8_feed : yV yX8_feed cX8_feed 2 (some .int) 1 := ⟨⟨wC_yX8_feed, wi_CubeDaysModel, by decide +kernel, by decide +kernel, by decide +kernel⟩, wI_yX8_feed, wV_yX8_feed⟩
theorem yv_X8_here : yV yX8_here cX8_here 1 (some .int) 0 := ⟨⟨wC_yX8_here, wi_CubeDaysModel, by decide +kernel, by decide +kernel, by decide +kernel⟩, wI_yX8_here, wV_yX8_here⟩
theorem yv_X8_fails : yV yX8_fails cX8_fails 3 (some .int) 2 := ⟨⟨wC_yX8_fails, wi_CubeDaysModel, by decide +kernel, by decide +kernel, by decide +kernel⟩, wI_yX8_fails, wV_yX8_fails⟩
theorem yv_X8_takeNumber : yV yX8_takeNumber cX8_takeNumber 4 (some .int) 2 := ⟨⟨wC_yX8_takeNumber, wi_CubeDaysModel, by decide +kernel, by decide +kernel, by decide +kernel⟩, wI_yX8_takeNumber, wV_yX8_takeNumber⟩
theorem yv_X8_into : yV yX8_into cX8_into 6 (some .int) 4 := ⟨⟨wC_yX8_into, wi_CubeDaysModel, by decide +kernel, by decide +kernel, by decide +kernel⟩, wI_yX8_into, wV_yX8_into⟩
theorem yv_X8_takeDays : yV yX8_takeDays cX8_takeDays 2 (some .int) 0 := ⟨⟨wC_yX8_takeDays, wi_CubeDaysModel, by decide +kernel, by decide +kernel, by decide +kernel⟩, wI_yX8_takeDays, wV_yX8_takeDays⟩
theorem yv_X8_takeCube : yV yX8_takeCube cX8_takeCube 3 (some .int) 0 := ⟨⟨wC_yX8_takeCube, wi_CubeDaysModel, by decide +kernel, by decide +kernel, by decide +kernel⟩, wI_yX8_takeCube, wV_yX8_takeCube⟩
theorem yv_X8_takePair : yV yX8_takePair cX8_takePair 4 (some .int) 0 := ⟨⟨wC_yX8_takePair, wi_CubeDaysModel, by decide +kernel, by decide +kernel, by decide +kernel⟩, wI_yX8_takePair, wV_yX8_takePair⟩
theorem yv_X8_takePrice : yV yX8_takePrice cX8_takePrice 3 (some .int) 0 := ⟨⟨wC_yX8_takePrice, wi_CubeDaysModel, by decide +kernel, by decide +kernel, by decide +kernel⟩, wI_yX8_takePrice, wV_yX8_takePrice⟩
theorem yv_X8_takeClause : yV yX8_takeClause cX8_takeClause 5 (some .int) 0 := ⟨⟨wC_yX8_takeClause, wi_CubeDaysModel, by decide +kernel, by decide +kernel, by decide +kernel⟩, wI_yX8_takeClause, wV_yX8_takeClause⟩
theorem yv_X8_takeRead : yV yX8_takeRead cX8_takeRead 2 none 0 := ⟨⟨wC_yX8_takeRead, wi_CubeDaysModel, by decide +kernel, by decide +kernel, by decide +kernel⟩, wI_yX8_takeRead, wV_yX8_takeRead⟩
theorem yv_X8_desk : yV yX8_desk cX8_desk 2 (some .int) 0 := ⟨⟨wC_yX8_desk, wi_CubeDaysModel, by decide +kernel, by decide +kernel, by decide +kernel⟩, wI_yX8_desk, wV_yX8_desk⟩
theorem yv_X8_fault : yV yX8_fault cX8_fault 1 (some .int) 0 := ⟨⟨wC_yX8_fault, wi_CubeDaysModel, by decide +kernel, by decide +kernel, by decide +kernel⟩, wI_yX8_fault, wV_yX8_fault⟩
theorem yv_X8_told : yV yX8_told cX8_told 2 (some .int) 1 := ⟨⟨wC_yX8_told, wi_CubeDaysModel, by decide +kernel, by decide +kernel, by decide +kernel⟩, wI_yX8_told, wV_yX8_told⟩
theorem yv_X8_side : yV yX8_side cX8_side 3 (some .int) 2 := ⟨⟨wC_yX8_side, wi_CubeDaysModel, by decide +kernel, by decide +kernel, by decide +kernel⟩, wI_yX8_side, wV_yX8_side⟩
theorem yv_X8_turned : yV yX8_turned cX8_turned 2 (some .int) 1 := ⟨⟨wC_yX8_turned, wi_CubeDaysModel, by decide +kernel, by decide +kernel, by decide +kernel⟩, wI_yX8_turned, wV_yX8_turned⟩
theorem yv_X8_stands : yV yX8_stands cX8_stands 2 (some .int) 1 := ⟨⟨wC_yX8_stands, wi_CubeDaysModel, by decide +kernel, by decide +kernel, by decide +kernel⟩, wI_yX8_stands, wV_yX8_stands⟩
theorem yv_X8_findPlaces : yV yX8_findPlaces cX8_findPlaces 3 none 0 := ⟨⟨wC_yX8_findPlaces, wi_CubeDaysModel, by decide +kernel, by decide +kernel, by decide +kernel⟩, wI_yX8_findPlaces, wV_yX8_findPlaces⟩
theorem yv_X8_figuresOf : yV yX8_figuresOf cX8_figuresOf 5 (some .int) 1 := ⟨⟨wC_yX8_figuresOf, wi_CubeDaysModel, by decide +kernel, by decide +kernel, by decide +kernel⟩, wI_yX8_figuresOf, wV_yX8_figuresOf⟩
theorem yv_X8_shows : yV yX8_shows cX8_shows 2 (some .int) 1 := ⟨⟨wC_yX8_shows, wi_CubeDaysModel, by decide +kernel, by decide +kernel, by decide +kernel⟩, wI_yX8_shows, wV_yX8_shows⟩
theorem yv_X8_findShown : yV yX8_findShown cX8_findShown 2 none 0 := ⟨⟨wC_yX8_findShown, wi_CubeDaysModel, by decide +kernel, by decide +kernel, by decide +kernel⟩, wI_yX8_findShown, wV_yX8_findShown⟩
theorem yv_X8_howShown : yV yX8_howShown cX8_howShown 7 (some .int) 1 := ⟨⟨wC_yX8_howShown, wi_CubeDaysModel, by decide +kernel, by decide +kernel, by decide +kernel⟩, wI_yX8_howShown, wV_yX8_howShown⟩
theorem yv_X8_shown : yV yX8_shown cX8_shown 4 (some .int) 2 := ⟨⟨wC_yX8_shown, wi_CubeDaysModel, by decide +kernel, by decide +kernel, by decide +kernel⟩, wI_yX8_shown, wV_yX8_shown⟩
theorem yv_X8_daysNow : yV yX8_daysNow cX8_daysNow 3 (some .int) 0 := ⟨⟨wC_yX8_daysNow, wi_CubeDaysModel, by decide +kernel, by decide +kernel, by decide +kernel⟩, wI_yX8_daysNow, wV_yX8_daysNow⟩
theorem yv_X8_days : yV yX8_days cX8_days 1 (some .int) 0 := ⟨⟨wC_yX8_days, wi_CubeDaysModel, by decide +kernel, by decide +kernel, by decide +kernel⟩, wI_yX8_days, wV_yX8_days⟩
theorem yv_X8_gapNow : yV yX8_gapNow cX8_gapNow 2 (some .int) 0 := ⟨⟨wC_yX8_gapNow, wi_CubeDaysModel, by decide +kernel, by decide +kernel, by decide +kernel⟩, wI_yX8_gapNow, wV_yX8_gapNow⟩
theorem yv_X8_gap : yV yX8_gap cX8_gap 1 (some .int) 0 := ⟨⟨wC_yX8_gap, wi_CubeDaysModel, by decide +kernel, by decide +kernel, by decide +kernel⟩, wI_yX8_gap, wV_yX8_gap⟩
theorem yv_X8_remember : yV yX8_remember cX8_remember 2 none 0 := ⟨⟨wC_yX8_remember, wi_CubeDaysModel, by decide +kernel, by decide +kernel, by decide +kernel⟩, wI_yX8_remember, wV_yX8_remember⟩
theorem yv_X8_paintNow : yV yX8_paintNow cX8_paintNow 4 none 3 := ⟨⟨wC_yX8_paintNow, wi_CubeDaysModel, by decide +kernel, by decide +kernel, by decide +kernel⟩, wI_yX8_paintNow, wV_yX8_paintNow⟩
theorem yv_X8_paint : yV yX8_paint cX8_paint 4 (some .int) 3 := ⟨⟨wC_yX8_paint, wi_CubeDaysModel, by decide +kernel, by decide +kernel, by decide +kernel⟩, wI_yX8_paint, wV_yX8_paint⟩
theorem yv_X8_lose : yV yX8_lose cX8_lose 4 (some .int) 2 := ⟨⟨wC_yX8_lose, wi_CubeDaysModel, by decide +kernel, by decide +kernel, by decide +kernel⟩, wI_yX8_lose, wV_yX8_lose⟩
theorem yv_X8_draw : yV yX8_draw cX8_draw 2 (some .int) 1 := ⟨⟨wC_yX8_draw, wi_CubeDaysModel, by decide +kernel, by decide +kernel, by decide +kernel⟩, wI_yX8_draw, wV_yX8_draw⟩
theorem yv_X8_drift : yV yX8_drift cX8_drift 5 (some .int) 1 := ⟨⟨wC_yX8_drift, wi_CubeDaysModel, by decide +kernel, by decide +kernel, by decide +kernel⟩, wI_yX8_drift, wV_yX8_drift⟩
theorem yv_X8_undo : yV yX8_undo cX8_undo 2 (some .int) 0 := ⟨⟨wC_yX8_undo, wi_CubeDaysModel, by decide +kernel, by decide +kernel, by decide +kernel⟩, wI_yX8_undo, wV_yX8_undo⟩
theorem yv_X8_needed : yV yX8_needed cX8_needed 5 (some .int) 1 := ⟨⟨wC_yX8_needed, wi_CubeDaysModel, by decide +kernel, by decide +kernel, by decide +kernel⟩, wI_yX8_needed, wV_yX8_needed⟩
theorem yv_X8_must : yV yX8_must cX8_must 2 (some .int) 1 := ⟨⟨wC_yX8_must, wi_CubeDaysModel, by decide +kernel, by decide +kernel, by decide +kernel⟩, wI_yX8_must, wV_yX8_must⟩
theorem yv_X8_findChoices : yV yX8_findChoices cX8_findChoices 5 none 1 := ⟨⟨wC_yX8_findChoices, wi_CubeDaysModel, by decide +kernel, by decide +kernel, by decide +kernel⟩, wI_yX8_findChoices, wV_yX8_findChoices⟩
theorem yv_X8_findWanted : yV yX8_findWanted cX8_findWanted 4 none 0 := ⟨⟨wC_yX8_findWanted, wi_CubeDaysModel, by decide +kernel, by decide +kernel, by decide +kernel⟩, wI_yX8_findWanted, wV_yX8_findWanted⟩
theorem yv_X8_shownBy : yV yX8_shownBy cX8_shownBy 8 (some .int) 2 := ⟨⟨wC_yX8_shownBy, wi_CubeDaysModel, by decide +kernel, by decide +kernel, by decide +kernel⟩, wI_yX8_shownBy, wV_yX8_shownBy⟩
theorem yv_X8_allDays : yV yX8_allDays cX8_allDays 1 (some .int) 0 := ⟨⟨wC_yX8_allDays, wi_CubeDaysModel, by decide +kernel, by decide +kernel, by decide +kernel⟩, wI_yX8_allDays, wV_yX8_allDays⟩
theorem yv_X8_findPairs : yV yX8_findPairs cX8_findPairs 6 none 1 := ⟨⟨wC_yX8_findPairs, wi_CubeDaysModel, by decide +kernel, by decide +kernel, by decide +kernel⟩, wI_yX8_findPairs, wV_yX8_findPairs⟩
theorem yv_X8_search : yV yX8_search cX8_search 3 (some .int) 2 := ⟨⟨wC_yX8_search, wi_CubeDaysModel, by decide +kernel, by decide +kernel, by decide +kernel⟩, wI_yX8_search, wV_yX8_search⟩
theorem yv_X8_most : yV yX8_most cX8_most 2 (some .int) 1 := ⟨⟨wC_yX8_most, wi_CubeDaysModel, by decide +kernel, by decide +kernel, by decide +kernel⟩, wI_yX8_most, wV_yX8_most⟩
theorem yv_X8_daysBy : yV yX8_daysBy cX8_daysBy 6 (some .int) 3 := ⟨⟨wC_yX8_daysBy, wi_CubeDaysModel, by decide +kernel, by decide +kernel, by decide +kernel⟩, wI_yX8_daysBy, wV_yX8_daysBy⟩
theorem yv_X8_gone : yV yX8_gone cX8_gone 3 (some .int) 2 := ⟨⟨wC_yX8_gone, wi_CubeDaysModel, by decide +kernel, by decide +kernel, by decide +kernel⟩, wI_yX8_gone, wV_yX8_gone⟩
theorem yv_X8_worst : yV yX8_worst cX8_worst 8 (some .int) 0 := ⟨⟨wC_yX8_worst, wi_CubeDaysModel, by decide +kernel, by decide +kernel, by decide +kernel⟩, wI_yX8_worst, wV_yX8_worst⟩
theorem yv_X8_instead : yV yX8_instead cX8_instead 8 (some .int) 2 := ⟨⟨wC_yX8_instead, wi_CubeDaysModel, by decide +kernel, by decide +kernel, by decide +kernel⟩, wI_yX8_instead, wV_yX8_instead⟩
theorem yv_X8_board : yV yX8_board cX8_board 3 (some .int) 2 := ⟨⟨wC_yX8_board, wi_CubeDaysModel, by decide +kernel, by decide +kernel, by decide +kernel⟩, wI_yX8_board, wV_yX8_board⟩
theorem yv_X8_sums : yV yX8_sums cX8_sums 5 (some .int) 1 := ⟨⟨wC_yX8_sums, wi_CubeDaysModel, by decide +kernel, by decide +kernel, by decide +kernel⟩, wI_yX8_sums, wV_yX8_sums⟩
theorem yv_X8_price : yV yX8_price cX8_price 4 (some .int) 1 := ⟨⟨wC_yX8_price, wi_CubeDaysModel, by decide +kernel, by decide +kernel, by decide +kernel⟩, wI_yX8_price, wV_yX8_price⟩
theorem yv_X8_isShownBy : yV yX8_isShownBy cX8_isShownBy 7 (some .boolean) 4 := ⟨⟨wC_yX8_isShownBy, wi_CubeDaysModel, by decide +kernel, by decide +kernel, by decide +kernel⟩, wI_yX8_isShownBy, wV_yX8_isShownBy⟩
theorem yv_X8_cheapest : yV yX8_cheapest cX8_cheapest 10 (some .int) 1 := ⟨⟨wC_yX8_cheapest, wi_CubeDaysModel, by decide +kernel, by decide +kernel, by decide +kernel⟩, wI_yX8_cheapest, wV_yX8_cheapest⟩
theorem yv_X8_wrong : yV yX8_wrong cX8_wrong 3 (some .int) 2 := ⟨⟨wC_yX8_wrong, wi_CubeDaysModel, by decide +kernel, by decide +kernel, by decide +kernel⟩, wI_yX8_wrong, wV_yX8_wrong⟩
theorem yv_X8_findOvers : yV yX8_findOvers cX8_findOvers 6 (some .int) 0 := ⟨⟨wC_yX8_findOvers, wi_CubeDaysModel, by decide +kernel, by decide +kernel, by decide +kernel⟩, wI_yX8_findOvers, wV_yX8_findOvers⟩
theorem yv_X8_paintedOver : yV yX8_paintedOver cX8_paintedOver 5 (some .int) 1 := ⟨⟨wC_yX8_paintedOver, wi_CubeDaysModel, by decide +kernel, by decide +kernel, by decide +kernel⟩, wI_yX8_paintedOver, wV_yX8_paintedOver⟩
theorem yv_X8_lookOn : yV yX8_lookOn cX8_lookOn 6 (some .int) 0 := ⟨⟨wC_yX8_lookOn, wi_CubeDaysModel, by decide +kernel, by decide +kernel, by decide +kernel⟩, wI_yX8_lookOn, wV_yX8_lookOn⟩
theorem yv_X8_write : yV yX8_write cX8_write 2 (some .int) 1 := ⟨⟨wC_yX8_write, wi_CubeDaysModel, by decide +kernel, by decide +kernel, by decide +kernel⟩, wI_yX8_write, wV_yX8_write⟩
theorem yv_X8_tear : yV yX8_tear cX8_tear 2 (some .int) 0 := ⟨⟨wC_yX8_tear, wi_CubeDaysModel, by decide +kernel, by decide +kernel, by decide +kernel⟩, wI_yX8_tear, wV_yX8_tear⟩
theorem yv_X8_judge : yV yX8_judge cX8_judge 3 (some .int) 0 := ⟨⟨wC_yX8_judge, wi_CubeDaysModel, by decide +kernel, by decide +kernel, by decide +kernel⟩, wI_yX8_judge, wV_yX8_judge⟩
theorem yv_X8_seed : yV yX8_seed cX8_seed 3 (some .int) 1 := ⟨⟨wC_yX8_seed, wi_CubeDaysModel, by decide +kernel, by decide +kernel, by decide +kernel⟩, wI_yX8_seed, wV_yX8_seed⟩
theorem yv_X8_keep : yV yX8_keep cX8_keep 3 (some .int) 1 := ⟨⟨wC_yX8_keep, wi_CubeDaysModel, by decide +kernel, by decide +kernel, by decide +kernel⟩, wI_yX8_keep, wV_yX8_keep⟩
theorem yv_X8_goBack : yV yX8_goBack cX8_goBack 3 (some .int) 1 := ⟨⟨wC_yX8_goBack, wi_CubeDaysModel, by decide +kernel, by decide +kernel, by decide +kernel⟩, wI_yX8_goBack, wV_yX8_goBack⟩
theorem yv_J6_bitCount_0f7a4 : yS yJ6_bitCount_0f7a4 cJ6_bitCount_0f7a4 1 (some .int) 1 := ⟨⟨wC_yJ6_bitCount_0f7a4, wi_java_lang_Integer, by decide +kernel, by decide +kernel, by decide +kernel⟩, wS_yJ6_bitCount_0f7a4⟩
theorem yv_J7_fill_53178 : yS yJ7_fill_53178 cJ7_fill_53178 4 none 2 := ⟨⟨wC_yJ7_fill_53178, wi_java_util_Arrays, by decide +kernel, by decide +kernel, by decide +kernel⟩, wS_yJ7_fill_53178⟩
