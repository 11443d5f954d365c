theorem ok_X0_ofDouble : xs_MOK M_X0_ofDouble := ⟨by decide +kernel, wt_2 (List.mem_of_getElem? (i := 185) rfl) rfl, by decide +kernel, wt_1 (List.mem_of_getElem? (i := 10) rfl) rfl⟩
theorem ok_X0_ofFloat : xs_MOK M_X0_ofFloat := ⟨by decide +kernel, wt_2 (List.mem_of_getElem? (i := 200) rfl) rfl, by decide +kernel, wt_1 (List.mem_of_getElem? (i := 10) rfl) rfl⟩
theorem ok_X1_init : xs_MOK M_X1_init := ⟨by decide +kernel, wt_1 (List.mem_of_getElem? (i := 25) rfl) rfl, by decide +kernel, wt_1 (List.mem_of_getElem? (i := 2) rfl) rfl⟩
theorem ok_X1_copy : xs_MOK M_X1_copy := ⟨by decide +kernel, wt_1 (List.mem_of_getElem? (i := 187) rfl) rfl, by decide +kernel, wt_1 (List.mem_of_getElem? (i := 2) rfl) rfl⟩
theorem ok_X1_now : xs_MOK M_X1_now := ⟨by decide +kernel, wt_2 (List.mem_of_getElem? (i := 18) rfl) rfl, by decide +kernel, wt_1 (List.mem_of_getElem? (i := 2) rfl) rfl⟩
theorem ok_X1_dials : xs_MOK M_X1_dials := ⟨by decide +kernel, wt_3 (List.mem_of_getElem? (i := 113) rfl) rfl, by decide +kernel, wt_1 (List.mem_of_getElem? (i := 2) rfl) rfl⟩
theorem ok_X1_hasDial : xs_MOK M_X1_hasDial := ⟨by decide +kernel, wt_1 (List.mem_of_getElem? (i := 221) rfl) rfl, by decide +kernel, wt_1 (List.mem_of_getElem? (i := 2) rfl) rfl⟩
theorem ok_X1_hasReading : xs_MOK M_X1_hasReading := ⟨by decide +kernel, wt_1 (List.mem_of_getElem? (i := 229) rfl) rfl, by decide +kernel, wt_1 (List.mem_of_getElem? (i := 2) rfl) rfl⟩
theorem ok_X1_isStruck : xs_MOK M_X1_isStruck := ⟨by decide +kernel, wt_1 (List.mem_of_getElem? (i := 225) rfl) rfl, by decide +kernel, wt_1 (List.mem_of_getElem? (i := 2) rfl) rfl⟩
theorem ok_X1_dialsWithSpans : xs_MOK M_X1_dialsWithSpans := ⟨by decide +kernel, wt_2 (List.mem_of_getElem? (i := 30) rfl) rfl, by decide +kernel, wt_1 (List.mem_of_getElem? (i := 2) rfl) rfl⟩
theorem ok_X1_hasSpan : xs_MOK M_X1_hasSpan := ⟨by decide +kernel, wt_2 (List.mem_of_getElem? (i := 26) rfl) rfl, by decide +kernel, wt_1 (List.mem_of_getElem? (i := 2) rfl) rfl⟩
theorem ok_X1_lowEnd : xs_MOK M_X1_lowEnd := ⟨by decide +kernel, wt_2 (List.mem_of_getElem? (i := 34) rfl) rfl, by decide +kernel, wt_1 (List.mem_of_getElem? (i := 2) rfl) rfl⟩
theorem ok_X1_highEnd : xs_MOK M_X1_highEnd := ⟨by decide +kernel, wt_2 (List.mem_of_getElem? (i := 42) rfl) rfl, by decide +kernel, wt_1 (List.mem_of_getElem? (i := 2) rfl) rfl⟩
theorem ok_X1_ageAt : xs_MOK M_X1_ageAt := ⟨by decide +kernel, wt_1 (List.mem_of_getElem? (i := 233) rfl) rfl, by decide +kernel, wt_1 (List.mem_of_getElem? (i := 2) rfl) rfl⟩
theorem ok_X1_reach : xs_MOK M_X1_reach := ⟨by decide +kernel, wt_2 (List.mem_of_getElem? (i := 38) rfl) rfl, by decide +kernel, wt_1 (List.mem_of_getElem? (i := 2) rfl) rfl⟩
theorem ok_X1_changeSetting : xs_MOK M_X1_changeSetting := ⟨by decide +kernel, wt_1 (List.mem_of_getElem? (i := 194) rfl) rfl, by decide +kernel, wt_1 (List.mem_of_getElem? (i := 2) rfl) rfl⟩
theorem ok_X1_addDial : xs_MOK M_X1_addDial := ⟨by decide +kernel, wt_1 (List.mem_of_getElem? (i := 209) rfl) rfl, by decide +kernel, wt_1 (List.mem_of_getElem? (i := 2) rfl) rfl⟩
theorem ok_X1_takeReading : xs_MOK M_X1_takeReading := ⟨by decide +kernel, wt_1 (List.mem_of_getElem? (i := 217) rfl) rfl, by decide +kernel, wt_1 (List.mem_of_getElem? (i := 2) rfl) rfl⟩
theorem ok_X1_letPass : xs_MOK M_X1_letPass := ⟨by decide +kernel, wt_2 (List.mem_of_getElem? (i := 1) rfl) rfl, by decide +kernel, wt_1 (List.mem_of_getElem? (i := 2) rfl) rfl⟩
theorem ok_X1_judge : xs_MOK M_X1_judge := ⟨by decide +kernel, wt_2 (List.mem_of_getElem? (i := 85) rfl) rfl, by decide +kernel, wt_1 (List.mem_of_getElem? (i := 2) rfl) rfl⟩
theorem ok_X1_countLie : xs_MOK M_X1_countLie := ⟨by decide +kernel, wt_2 (List.mem_of_getElem? (i := 89) rfl) rfl, by decide +kernel, wt_1 (List.mem_of_getElem? (i := 2) rfl) rfl⟩
theorem ok_X1_about : xs_MOK M_X1_about := ⟨by decide +kernel, wt_2 (List.mem_of_getElem? (i := 99) rfl) rfl, by decide +kernel, wt_1 (List.mem_of_getElem? (i := 2) rfl) rfl⟩
theorem ok_X1_number : xs_MOK M_X1_number := ⟨by decide +kernel, wt_2 (List.mem_of_getElem? (i := 173) rfl) rfl, by decide +kernel, wt_1 (List.mem_of_getElem? (i := 2) rfl) rfl⟩
theorem ok_X2_init : xs_MOK M_X2_init := ⟨by decide +kernel, wt_1 (List.mem_of_getElem? (i := 91) rfl) rfl, by decide +kernel, wt_1 (List.mem_of_getElem? (i := 4) rfl) rfl⟩
theorem ok_X2_size : xs_MOK M_X2_size := ⟨by decide +kernel, wt_2 (List.mem_of_getElem? (i := 169) rfl) rfl, by decide +kernel, wt_1 (List.mem_of_getElem? (i := 4) rfl) rfl⟩
theorem ok_X2_placeOf : xs_MOK M_X2_placeOf := ⟨by decide +kernel, wt_1 (List.mem_of_getElem? (i := 181) rfl) rfl, by decide +kernel, wt_1 (List.mem_of_getElem? (i := 4) rfl) rfl⟩
theorem ok_X2_draft : xs_MOK M_X2_draft := ⟨by decide +kernel, wt_1 (List.mem_of_getElem? (i := 177) rfl) rfl, by decide +kernel, wt_1 (List.mem_of_getElem? (i := 4) rfl) rfl⟩
theorem ok_X2_keep : xs_MOK M_X2_keep := ⟨by decide +kernel, wt_1 (List.mem_of_getElem? (i := 198) rfl) rfl, by decide +kernel, wt_1 (List.mem_of_getElem? (i := 4) rfl) rfl⟩
theorem ok_X2_takeBack : xs_MOK M_X2_takeBack := ⟨by decide +kernel, wt_3 (List.mem_of_getElem? (i := 97) rfl) rfl, by decide +kernel, wt_1 (List.mem_of_getElem? (i := 4) rfl) rfl⟩
theorem ok_X3_init : xs_MOK M_X3_init := ⟨by decide +kernel, wt_1 (List.mem_of_getElem? (i := 126) rfl) rfl, by decide +kernel, wt_1 (List.mem_of_getElem? (i := 6) rfl) rfl⟩
theorem ok_X3_signsIn : xs_MOK M_X3_signsIn := ⟨by decide +kernel, wt_2 (List.mem_of_getElem? (i := 237) rfl) rfl, by decide +kernel, wt_1 (List.mem_of_getElem? (i := 6) rfl) rfl⟩
theorem ok_X3_isSign : xs_MOK M_X3_isSign := ⟨by decide +kernel, wt_3 (List.mem_of_getElem? (i := 1) rfl) rfl, by decide +kernel, wt_1 (List.mem_of_getElem? (i := 6) rfl) rfl⟩
theorem ok_X3_append : xs_MOK M_X3_append := ⟨by decide +kernel, wt_3 (List.mem_of_getElem? (i := 7) rfl) rfl, by decide +kernel, wt_1 (List.mem_of_getElem? (i := 6) rfl) rfl⟩
theorem ok_X3_clear : xs_MOK M_X3_clear := ⟨by decide +kernel, wt_3 (List.mem_of_getElem? (i := 15) rfl) rfl, by decide +kernel, wt_1 (List.mem_of_getElem? (i := 6) rfl) rfl⟩
theorem ok_X3_length : xs_MOK M_X3_length := ⟨by decide +kernel, wt_2 (List.mem_of_getElem? (i := 165) rfl) rfl, by decide +kernel, wt_1 (List.mem_of_getElem? (i := 6) rfl) rfl⟩
theorem ok_X3_kind : xs_MOK M_X3_kind := ⟨by decide +kernel, wt_3 (List.mem_of_getElem? (i := 76) rfl) rfl, by decide +kernel, wt_1 (List.mem_of_getElem? (i := 6) rfl) rfl⟩
theorem ok_X3_first : xs_MOK M_X3_first := ⟨by decide +kernel, wt_3 (List.mem_of_getElem? (i := 80) rfl) rfl, by decide +kernel, wt_1 (List.mem_of_getElem? (i := 6) rfl) rfl⟩
theorem ok_X3_second : xs_MOK M_X3_second := ⟨by decide +kernel, wt_3 (List.mem_of_getElem? (i := 84) rfl) rfl, by decide +kernel, wt_1 (List.mem_of_getElem? (i := 6) rfl) rfl⟩
theorem ok_X3_third : xs_MOK M_X3_third := ⟨by decide +kernel, wt_3 (List.mem_of_getElem? (i := 88) rfl) rfl, by decide +kernel, wt_1 (List.mem_of_getElem? (i := 6) rfl) rfl⟩
theorem ok_X3_firstFault : xs_MOK M_X3_firstFault := ⟨by decide +kernel, wt_3 (List.mem_of_getElem? (i := 23) rfl) rfl, by decide +kernel, wt_1 (List.mem_of_getElem? (i := 6) rfl) rfl⟩
theorem ok_X3_startReading : xs_MOK M_X3_startReading := ⟨by decide +kernel, wt_3 (List.mem_of_getElem? (i := 27) rfl) rfl, by decide +kernel, wt_1 (List.mem_of_getElem? (i := 6) rfl) rfl⟩
theorem ok_X3_nextOrder : xs_MOK M_X3_nextOrder := ⟨by decide +kernel, wt_3 (List.mem_of_getElem? (i := 31) rfl) rfl, by decide +kernel, wt_1 (List.mem_of_getElem? (i := 6) rfl) rfl⟩
theorem ok_X3_takeFirst : xs_MOK M_X3_takeFirst := ⟨by decide +kernel, wt_3 (List.mem_of_getElem? (i := 43) rfl) rfl, by decide +kernel, wt_1 (List.mem_of_getElem? (i := 6) rfl) rfl⟩
theorem ok_X3_takeSecond : xs_MOK M_X3_takeSecond := ⟨by decide +kernel, wt_3 (List.mem_of_getElem? (i := 58) rfl) rfl, by decide +kernel, wt_1 (List.mem_of_getElem? (i := 6) rfl) rfl⟩
theorem ok_X3_takeThird : xs_MOK M_X3_takeThird := ⟨by decide +kernel, wt_3 (List.mem_of_getElem? (i := 62) rfl) rfl, by decide +kernel, wt_1 (List.mem_of_getElem? (i := 6) rfl) rfl⟩
theorem ok_X3_takeNumber : xs_MOK M_X3_takeNumber := ⟨by decide +kernel, wt_3 (List.mem_of_getElem? (i := 47) rfl) rfl, by decide +kernel, wt_1 (List.mem_of_getElem? (i := 6) rfl) rfl⟩
theorem ok_X3_withDigit : xs_MOK M_X3_withDigit := ⟨by decide +kernel, wt_3 (List.mem_of_getElem? (i := 54) rfl) rfl, by decide +kernel, wt_1 (List.mem_of_getElem? (i := 6) rfl) rfl⟩
theorem ok_X3_isDigit : xs_MOK M_X3_isDigit := ⟨by decide +kernel, wt_3 (List.mem_of_getElem? (i := 50) rfl) rfl, by decide +kernel, wt_1 (List.mem_of_getElem? (i := 6) rfl) rfl⟩
theorem ok_X3_take : xs_MOK M_X3_take := ⟨by decide +kernel, wt_3 (List.mem_of_getElem? (i := 35) rfl) rfl, by decide +kernel, wt_1 (List.mem_of_getElem? (i := 6) rfl) rfl⟩
theorem ok_X3_sign : xs_MOK M_X3_sign := ⟨by decide +kernel, wt_3 (List.mem_of_getElem? (i := 39) rfl) rfl, by decide +kernel, wt_1 (List.mem_of_getElem? (i := 6) rfl) rfl⟩
theorem ok_X4_init : xs_MOK M_X4_init := ⟨by decide +kernel, wt_1 (List.mem_of_getElem? (i := 110) rfl) rfl, by decide +kernel, wt_1 (List.mem_of_getElem? (i := 5) rfl) rfl⟩
theorem ok_X4_hasSlot : xs_MOK M_X4_hasSlot := ⟨by decide +kernel, wt_3 (List.mem_of_getElem? (i := 104) rfl) rfl, by decide +kernel, wt_1 (List.mem_of_getElem? (i := 5) rfl) rfl⟩
theorem ok_X4_isFilled : xs_MOK M_X4_isFilled := ⟨by decide +kernel, wt_3 (List.mem_of_getElem? (i := 121) rfl) rfl, by decide +kernel, wt_1 (List.mem_of_getElem? (i := 5) rfl) rfl⟩
theorem ok_X4_keepIn : xs_MOK M_X4_keepIn := ⟨by decide +kernel, wt_3 (List.mem_of_getElem? (i := 108) rfl) rfl, by decide +kernel, wt_1 (List.mem_of_getElem? (i := 5) rfl) rfl⟩
theorem ok_X4_giveBack : xs_MOK M_X4_giveBack := ⟨by decide +kernel, wt_3 (List.mem_of_getElem? (i := 125) rfl) rfl, by decide +kernel, wt_1 (List.mem_of_getElem? (i := 5) rfl) rfl⟩
theorem ok_X5_init : xs_MOK M_X5_init := ⟨by decide +kernel, wt_1 (List.mem_of_getElem? (i := 72) rfl) rfl, by decide +kernel, wt_1 (List.mem_of_getElem? (i := 3) rfl) rfl⟩
theorem ok_X5_gather : xs_MOK M_X5_gather := ⟨by decide +kernel, wt_2 (List.mem_of_getElem? (i := 22) rfl) rfl, by decide +kernel, wt_1 (List.mem_of_getElem? (i := 3) rfl) rfl⟩
theorem ok_X5_size : xs_MOK M_X5_size := ⟨by decide +kernel, wt_2 (List.mem_of_getElem? (i := 210) rfl) rfl, by decide +kernel, wt_1 (List.mem_of_getElem? (i := 3) rfl) rfl⟩
theorem ok_X5_isEmpty : xs_MOK M_X5_isEmpty := ⟨by decide +kernel, wt_2 (List.mem_of_getElem? (i := 46) rfl) rfl, by decide +kernel, wt_1 (List.mem_of_getElem? (i := 3) rfl) rfl⟩
theorem ok_X5_has : xs_MOK M_X5_has := ⟨by decide +kernel, wt_2 (List.mem_of_getElem? (i := 62) rfl) rfl, by decide +kernel, wt_1 (List.mem_of_getElem? (i := 3) rfl) rfl⟩
theorem ok_X5_howManyAt : xs_MOK M_X5_howManyAt := ⟨by decide +kernel, wt_2 (List.mem_of_getElem? (i := 58) rfl) rfl, by decide +kernel, wt_1 (List.mem_of_getElem? (i := 3) rfl) rfl⟩
theorem ok_X5_dialsAt : xs_MOK M_X5_dialsAt := ⟨by decide +kernel, wt_2 (List.mem_of_getElem? (i := 81) rfl) rfl, by decide +kernel, wt_1 (List.mem_of_getElem? (i := 3) rfl) rfl⟩
theorem ok_X5_most : xs_MOK M_X5_most := ⟨by decide +kernel, wt_2 (List.mem_of_getElem? (i := 54) rfl) rfl, by decide +kernel, wt_1 (List.mem_of_getElem? (i := 3) rfl) rfl⟩
theorem ok_X5_firstTimeOf : xs_MOK M_X5_firstTimeOf := ⟨by decide +kernel, wt_2 (List.mem_of_getElem? (i := 69) rfl) rfl, by decide +kernel, wt_1 (List.mem_of_getElem? (i := 3) rfl) rfl⟩
theorem ok_X5_lastTimeOf : xs_MOK M_X5_lastTimeOf := ⟨by decide +kernel, wt_2 (List.mem_of_getElem? (i := 74) rfl) rfl, by decide +kernel, wt_1 (List.mem_of_getElem? (i := 3) rfl) rfl⟩
theorem ok_X5_bestLow : xs_MOK M_X5_bestLow := ⟨by decide +kernel, wt_2 (List.mem_of_getElem? (i := 112) rfl) rfl, by decide +kernel, wt_1 (List.mem_of_getElem? (i := 3) rfl) rfl⟩
theorem ok_X5_bestHigh : xs_MOK M_X5_bestHigh := ⟨by decide +kernel, wt_2 (List.mem_of_getElem? (i := 116) rfl) rfl, by decide +kernel, wt_1 (List.mem_of_getElem? (i := 3) rfl) rfl⟩
theorem ok_X5_hour : xs_MOK M_X5_hour := ⟨by decide +kernel, wt_2 (List.mem_of_getElem? (i := 50) rfl) rfl, by decide +kernel, wt_1 (List.mem_of_getElem? (i := 3) rfl) rfl⟩
theorem ok_X5_ends : xs_MOK M_X5_ends := ⟨by decide +kernel, wt_2 (List.mem_of_getElem? (i := 124) rfl) rfl, by decide +kernel, wt_1 (List.mem_of_getElem? (i := 3) rfl) rfl⟩
theorem ok_X5_endKey : xs_MOK M_X5_endKey := ⟨by decide +kernel, wt_2 (List.mem_of_getElem? (i := 128) rfl) rfl, by decide +kernel, wt_1 (List.mem_of_getElem? (i := 3) rfl) rfl⟩
theorem ok_X5_keysBelow : xs_MOK M_X5_keysBelow := ⟨by decide +kernel, wt_2 (List.mem_of_getElem? (i := 140) rfl) rfl, by decide +kernel, wt_1 (List.mem_of_getElem? (i := 3) rfl) rfl⟩
theorem ok_X5_keyAt : xs_MOK M_X5_keyAt := ⟨by decide +kernel, wt_2 (List.mem_of_getElem? (i := 133) rfl) rfl, by decide +kernel, wt_1 (List.mem_of_getElem? (i := 3) rfl) rfl⟩
theorem ok_X5_keyOf : xs_MOK M_X5_keyOf := ⟨by decide +kernel, wt_2 (List.mem_of_getElem? (i := 136) rfl) rfl, by decide +kernel, wt_1 (List.mem_of_getElem? (i := 3) rfl) rfl⟩
theorem ok_X5_timeOfKey : xs_MOK M_X5_timeOfKey := ⟨by decide +kernel, wt_2 (List.mem_of_getElem? (i := 143) rfl) rfl, by decide +kernel, wt_1 (List.mem_of_getElem? (i := 3) rfl) rfl⟩
theorem ok_X5_sideOfKey : xs_MOK M_X5_sideOfKey := ⟨by decide +kernel, wt_2 (List.mem_of_getElem? (i := 150) rfl) rfl, by decide +kernel, wt_1 (List.mem_of_getElem? (i := 3) rfl) rfl⟩
theorem ok_X5_dialOfKey : xs_MOK M_X5_dialOfKey := ⟨by decide +kernel, wt_2 (List.mem_of_getElem? (i := 146) rfl) rfl, by decide +kernel, wt_1 (List.mem_of_getElem? (i := 3) rfl) rfl⟩
theorem ok_X5_weightedMean : xs_MOK M_X5_weightedMean := ⟨by decide +kernel, wt_2 (List.mem_of_getElem? (i := 181) rfl) rfl, by decide +kernel, wt_1 (List.mem_of_getElem? (i := 3) rfl) rfl⟩
theorem ok_X5_honestShare : xs_MOK M_X5_honestShare := ⟨by decide +kernel, wt_2 (List.mem_of_getElem? (i := 197) rfl) rfl, by decide +kernel, wt_1 (List.mem_of_getElem? (i := 3) rfl) rfl⟩
theorem ok_X6_init : xs_MOK M_X6_init := ⟨by decide +kernel, wt_1 (List.mem_of_getElem? (i := 17) rfl) rfl, by decide +kernel, wt_1 (List.mem_of_getElem? (i := 1) rfl) rfl⟩
theorem ok_X6_set : xs_MOK M_X6_set := ⟨by decide +kernel, wt_1 (List.mem_of_getElem? (i := 173) rfl) rfl, by decide +kernel, wt_1 (List.mem_of_getElem? (i := 1) rfl) rfl⟩
theorem ok_X6_dial : xs_MOK M_X6_dial := ⟨by decide +kernel, wt_1 (List.mem_of_getElem? (i := 205) rfl) rfl, by decide +kernel, wt_1 (List.mem_of_getElem? (i := 1) rfl) rfl⟩
theorem ok_X6_read : xs_MOK M_X6_read := ⟨by decide +kernel, wt_1 (List.mem_of_getElem? (i := 213) rfl) rfl, by decide +kernel, wt_1 (List.mem_of_getElem? (i := 1) rfl) rfl⟩
theorem ok_X6_pass : xs_MOK M_X6_pass := ⟨by decide +kernel, wt_1 (List.mem_of_getElem? (i := 237) rfl) rfl, by decide +kernel, wt_1 (List.mem_of_getElem? (i := 1) rfl) rfl⟩
theorem ok_X6_agree : xs_MOK M_X6_agree := ⟨by decide +kernel, wt_2 (List.mem_of_getElem? (i := 6) rfl) rfl, by decide +kernel, wt_1 (List.mem_of_getElem? (i := 1) rfl) rfl⟩
theorem ok_X6_findHour : xs_MOK M_X6_findHour := ⟨by decide +kernel, wt_2 (List.mem_of_getElem? (i := 10) rfl) rfl, by decide +kernel, wt_1 (List.mem_of_getElem? (i := 1) rfl) rfl⟩
theorem ok_X6_gatherNow : xs_MOK M_X6_gatherNow := ⟨by decide +kernel, wt_2 (List.mem_of_getElem? (i := 14) rfl) rfl, by decide +kernel, wt_1 (List.mem_of_getElem? (i := 1) rfl) rfl⟩
theorem ok_X6_isError : xs_MOK M_X6_isError := ⟨by decide +kernel, wt_1 (List.mem_of_getElem? (i := 201) rfl) rfl, by decide +kernel, wt_1 (List.mem_of_getElem? (i := 1) rfl) rfl⟩
theorem ok_X6_of : xs_MOK M_X6_of := ⟨by decide +kernel, wt_2 (List.mem_of_getElem? (i := 94) rfl) rfl, by decide +kernel, wt_1 (List.mem_of_getElem? (i := 1) rfl) rfl⟩
theorem ok_X6_best : xs_MOK M_X6_best := ⟨by decide +kernel, wt_2 (List.mem_of_getElem? (i := 107) rfl) rfl, by decide +kernel, wt_1 (List.mem_of_getElem? (i := 1) rfl) rfl⟩
theorem ok_X6_end : xs_MOK M_X6_end := ⟨by decide +kernel, wt_2 (List.mem_of_getElem? (i := 120) rfl) rfl, by decide +kernel, wt_1 (List.mem_of_getElem? (i := 1) rfl) rfl⟩
theorem ok_X6_overlap : xs_MOK M_X6_overlap := ⟨by decide +kernel, wt_2 (List.mem_of_getElem? (i := 154) rfl) rfl, by decide +kernel, wt_1 (List.mem_of_getElem? (i := 1) rfl) rfl⟩
theorem ok_X6_count : xs_MOK M_X6_count := ⟨by decide +kernel, wt_2 (List.mem_of_getElem? (i := 161) rfl) rfl, by decide +kernel, wt_1 (List.mem_of_getElem? (i := 1) rfl) rfl⟩
theorem ok_X6_mean : xs_MOK M_X6_mean := ⟨by decide +kernel, wt_2 (List.mem_of_getElem? (i := 177) rfl) rfl, by decide +kernel, wt_1 (List.mem_of_getElem? (i := 1) rfl) rfl⟩
theorem ok_X6_share : xs_MOK M_X6_share := ⟨by decide +kernel, wt_2 (List.mem_of_getElem? (i := 193) rfl) rfl, by decide +kernel, wt_1 (List.mem_of_getElem? (i := 1) rfl) rfl⟩
theorem ok_X6_allowing : xs_MOK M_X6_allowing := ⟨by decide +kernel, wt_2 (List.mem_of_getElem? (i := 206) rfl) rfl, by decide +kernel, wt_1 (List.mem_of_getElem? (i := 1) rfl) rfl⟩
theorem ok_X6_fewest : xs_MOK M_X6_fewest := ⟨by decide +kernel, wt_2 (List.mem_of_getElem? (i := 218) rfl) rfl, by decide +kernel, wt_1 (List.mem_of_getElem? (i := 1) rfl) rfl⟩
theorem ok_X6_widerIn : xs_MOK M_X6_widerIn := ⟨by decide +kernel, wt_2 (List.mem_of_getElem? (i := 222) rfl) rfl, by decide +kernel, wt_1 (List.mem_of_getElem? (i := 1) rfl) rfl⟩
theorem ok_X6_hoursTooEarly : xs_MOK M_X6_hoursTooEarly := ⟨by decide +kernel, wt_2 (List.mem_of_getElem? (i := 226) rfl) rfl, by decide +kernel, wt_1 (List.mem_of_getElem? (i := 1) rfl) rfl⟩
theorem ok_X6_without : xs_MOK M_X6_without := ⟨by decide +kernel, wt_2 (List.mem_of_getElem? (i := 230) rfl) rfl, by decide +kernel, wt_1 (List.mem_of_getElem? (i := 1) rfl) rfl⟩
theorem ok_X6_put : xs_MOK M_X6_put := ⟨by decide +kernel, wt_2 (List.mem_of_getElem? (i := 234) rfl) rfl, by decide +kernel, wt_1 (List.mem_of_getElem? (i := 1) rfl) rfl⟩
theorem ok_X6_wipe : xs_MOK M_X6_wipe := ⟨by decide +kernel, wt_3 (List.mem_of_getElem? (i := 11) rfl) rfl, by decide +kernel, wt_1 (List.mem_of_getElem? (i := 1) rfl) rfl⟩
theorem ok_X6_fault : xs_MOK M_X6_fault := ⟨by decide +kernel, wt_3 (List.mem_of_getElem? (i := 19) rfl) rfl, by decide +kernel, wt_1 (List.mem_of_getElem? (i := 1) rfl) rfl⟩
theorem ok_X6_carryOut : xs_MOK M_X6_carryOut := ⟨by decide +kernel, wt_3 (List.mem_of_getElem? (i := 66) rfl) rfl, by decide +kernel, wt_1 (List.mem_of_getElem? (i := 1) rfl) rfl⟩
theorem ok_X6_carryOrder : xs_MOK M_X6_carryOrder := ⟨by decide +kernel, wt_3 (List.mem_of_getElem? (i := 72) rfl) rfl, by decide +kernel, wt_1 (List.mem_of_getElem? (i := 1) rfl) rfl⟩
theorem ok_X6_undo : xs_MOK M_X6_undo := ⟨by decide +kernel, wt_3 (List.mem_of_getElem? (i := 93) rfl) rfl, by decide +kernel, wt_1 (List.mem_of_getElem? (i := 1) rfl) rfl⟩
theorem ok_X6_save : xs_MOK M_X6_save := ⟨by decide +kernel, wt_3 (List.mem_of_getElem? (i := 101) rfl) rfl, by decide +kernel, wt_1 (List.mem_of_getElem? (i := 1) rfl) rfl⟩
theorem ok_X6_restore : xs_MOK M_X6_restore := ⟨by decide +kernel, wt_3 (List.mem_of_getElem? (i := 117) rfl) rfl, by decide +kernel, wt_1 (List.mem_of_getElem? (i := 1) rfl) rfl⟩
theorem ok_X7_init : xs_MOK M_X7_init := ⟨by decide +kernel, wt_3 (List.mem_of_getElem? (i := 130) rfl) rfl, by decide +kernel, wt_1 (List.mem_of_getElem? (i := 7) rfl) rfl⟩
theorem ok_X7_in : xs_MOK M_X7_in := ⟨by decide +kernel, wt_3 (List.mem_of_getElem? (i := 194) rfl) rfl, by decide +kernel, wt_1 (List.mem_of_getElem? (i := 7) rfl) rfl⟩
theorem ok_X7_isDial : xs_MOK M_X7_isDial := ⟨by decide +kernel, wt_3 (List.mem_of_getElem? (i := 230) rfl) rfl, by decide +kernel, wt_1 (List.mem_of_getElem? (i := 7) rfl) rfl⟩
theorem ok_X7_its : xs_MOK M_X7_its := ⟨by decide +kernel, wt_3 (List.mem_of_getElem? (i := 234) rfl) rfl, by decide +kernel, wt_1 (List.mem_of_getElem? (i := 7) rfl) rfl⟩
theorem ok_X7_lay : xs_MOK M_X7_lay := ⟨by decide +kernel, wt_3 (List.mem_of_getElem? (i := 238) rfl) rfl, by decide +kernel, wt_1 (List.mem_of_getElem? (i := 7) rfl) rfl⟩
theorem ok_X7_size : xs_MOK M_X7_size := ⟨by decide +kernel, wt_4 (List.mem_of_getElem? (i := 111) rfl) rfl, by decide +kernel, wt_1 (List.mem_of_getElem? (i := 7) rfl) rfl⟩
theorem ok_X7_remember : xs_MOK M_X7_remember := ⟨by decide +kernel, wt_3 (List.mem_of_getElem? (i := 202) rfl) rfl, by decide +kernel, wt_1 (List.mem_of_getElem? (i := 7) rfl) rfl⟩
theorem ok_X7_record : xs_MOK M_X7_record := ⟨by decide +kernel, wt_3 (List.mem_of_getElem? (i := 206) rfl) rfl, by decide +kernel, wt_1 (List.mem_of_getElem? (i := 7) rfl) rfl⟩
theorem ok_X7_undo : xs_MOK M_X7_undo := ⟨by decide +kernel, wt_3 (List.mem_of_getElem? (i := 187) rfl) rfl, by decide +kernel, wt_1 (List.mem_of_getElem? (i := 7) rfl) rfl⟩
theorem ok_X7_save : xs_MOK M_X7_save := ⟨by decide +kernel, wt_3 (List.mem_of_getElem? (i := 191) rfl) rfl, by decide +kernel, wt_1 (List.mem_of_getElem? (i := 7) rfl) rfl⟩
theorem ok_X7_restore : xs_MOK M_X7_restore := ⟨by decide +kernel, wt_3 (List.mem_of_getElem? (i := 198) rfl) rfl, by decide +kernel, wt_1 (List.mem_of_getElem? (i := 7) rfl) rfl⟩
theorem ok_X7_layOut : xs_MOK M_X7_layOut := ⟨by decide +kernel, wt_4 (List.mem_of_getElem? (i := 19) rfl) rfl, by decide +kernel, wt_1 (List.mem_of_getElem? (i := 7) rfl) rfl⟩
theorem ok_X7_has : xs_MOK M_X7_has := ⟨by decide +kernel, wt_4 (List.mem_of_getElem? (i := 31) rfl) rfl, by decide +kernel, wt_1 (List.mem_of_getElem? (i := 7) rfl) rfl⟩
theorem ok_X7_overlapAt : xs_MOK M_X7_overlapAt := ⟨by decide +kernel, wt_4 (List.mem_of_getElem? (i := 27) rfl) rfl, by decide +kernel, wt_1 (List.mem_of_getElem? (i := 7) rfl) rfl⟩
theorem ok_X7_lastFrom : xs_MOK M_X7_lastFrom := ⟨by decide +kernel, wt_4 (List.mem_of_getElem? (i := 39) rfl) rfl, by decide +kernel, wt_1 (List.mem_of_getElem? (i := 7) rfl) rfl⟩
theorem ok_X7_high : xs_MOK M_X7_high := ⟨by decide +kernel, wt_4 (List.mem_of_getElem? (i := 43) rfl) rfl, by decide +kernel, wt_1 (List.mem_of_getElem? (i := 7) rfl) rfl⟩
theorem ok_X7_find : xs_MOK M_X7_find := ⟨by decide +kernel, wt_4 (List.mem_of_getElem? (i := 35) rfl) rfl, by decide +kernel, wt_1 (List.mem_of_getElem? (i := 7) rfl) rfl⟩
theorem ok_X7_seek : xs_MOK M_X7_seek := ⟨by decide +kernel, wt_4 (List.mem_of_getElem? (i := 23) rfl) rfl, by decide +kernel, wt_1 (List.mem_of_getElem? (i := 7) rfl) rfl⟩
theorem ok_X7_half : xs_MOK M_X7_half := ⟨by decide +kernel, wt_4 (List.mem_of_getElem? (i := 50) rfl) rfl, by decide +kernel, wt_1 (List.mem_of_getElem? (i := 7) rfl) rfl⟩
theorem ok_X7_hour : xs_MOK M_X7_hour := ⟨by decide +kernel, wt_4 (List.mem_of_getElem? (i := 47) rfl) rfl, by decide +kernel, wt_1 (List.mem_of_getElem? (i := 7) rfl) rfl⟩
theorem ok_X7_comes : xs_MOK M_X7_comes := ⟨by decide +kernel, wt_3 (List.mem_of_getElem? (i := 218) rfl) rfl, by decide +kernel, wt_1 (List.mem_of_getElem? (i := 7) rfl) rfl⟩
theorem ok_X7_reads : xs_MOK M_X7_reads := ⟨by decide +kernel, wt_3 (List.mem_of_getElem? (i := 226) rfl) rfl, by decide +kernel, wt_1 (List.mem_of_getElem? (i := 7) rfl) rfl⟩
theorem ok_X7_waits : xs_MOK M_X7_waits := ⟨by decide +kernel, wt_4 (List.mem_of_getElem? (i := 6) rfl) rfl, by decide +kernel, wt_1 (List.mem_of_getElem? (i := 7) rfl) rfl⟩
theorem ok_X7_agrees : xs_MOK M_X7_agrees := ⟨by decide +kernel, wt_4 (List.mem_of_getElem? (i := 15) rfl) rfl, by decide +kernel, wt_1 (List.mem_of_getElem? (i := 7) rfl) rfl⟩
theorem ok_X7_set : xs_MOK M_X7_set := ⟨by decide +kernel, wt_3 (List.mem_of_getElem? (i := 210) rfl) rfl, by decide +kernel, wt_1 (List.mem_of_getElem? (i := 7) rfl) rfl⟩
theorem ok_X7_dial : xs_MOK M_X7_dial := ⟨by decide +kernel, wt_3 (List.mem_of_getElem? (i := 214) rfl) rfl, by decide +kernel, wt_1 (List.mem_of_getElem? (i := 7) rfl) rfl⟩
theorem ok_X7_read : xs_MOK M_X7_read := ⟨by decide +kernel, wt_3 (List.mem_of_getElem? (i := 222) rfl) rfl, by decide +kernel, wt_1 (List.mem_of_getElem? (i := 7) rfl) rfl⟩
theorem ok_X7_pass : xs_MOK M_X7_pass := ⟨by decide +kernel, wt_4 (List.mem_of_getElem? (i := 2) rfl) rfl, by decide +kernel, wt_1 (List.mem_of_getElem? (i := 7) rfl) rfl⟩
theorem ok_X7_agree : xs_MOK M_X7_agree := ⟨by decide +kernel, wt_4 (List.mem_of_getElem? (i := 11) rfl) rfl, by decide +kernel, wt_1 (List.mem_of_getElem? (i := 7) rfl) rfl⟩
theorem ok_X7_of : xs_MOK M_X7_of := ⟨by decide +kernel, wt_4 (List.mem_of_getElem? (i := 55) rfl) rfl, by decide +kernel, wt_1 (List.mem_of_getElem? (i := 7) rfl) rfl⟩
theorem ok_X7_honest : xs_MOK M_X7_honest := ⟨by decide +kernel, wt_4 (List.mem_of_getElem? (i := 63) rfl) rfl, by decide +kernel, wt_1 (List.mem_of_getElem? (i := 7) rfl) rfl⟩
theorem ok_X7_best : xs_MOK M_X7_best := ⟨by decide +kernel, wt_4 (List.mem_of_getElem? (i := 59) rfl) rfl, by decide +kernel, wt_1 (List.mem_of_getElem? (i := 7) rfl) rfl⟩
theorem ok_X7_timeOf : xs_MOK M_X7_timeOf := ⟨by decide +kernel, wt_4 (List.mem_of_getElem? (i := 75) rfl) rfl, by decide +kernel, wt_1 (List.mem_of_getElem? (i := 7) rfl) rfl⟩
theorem ok_X7_ahead : xs_MOK M_X7_ahead := ⟨by decide +kernel, wt_4 (List.mem_of_getElem? (i := 71) rfl) rfl, by decide +kernel, wt_1 (List.mem_of_getElem? (i := 7) rfl) rfl⟩
theorem ok_X7_end : xs_MOK M_X7_end := ⟨by decide +kernel, wt_4 (List.mem_of_getElem? (i := 67) rfl) rfl, by decide +kernel, wt_1 (List.mem_of_getElem? (i := 7) rfl) rfl⟩
theorem ok_X7_overlap : xs_MOK M_X7_overlap := ⟨by decide +kernel, wt_4 (List.mem_of_getElem? (i := 79) rfl) rfl, by decide +kernel, wt_1 (List.mem_of_getElem? (i := 7) rfl) rfl⟩
theorem ok_X7_struck : xs_MOK M_X7_struck := ⟨by decide +kernel, wt_4 (List.mem_of_getElem? (i := 89) rfl) rfl, by decide +kernel, wt_1 (List.mem_of_getElem? (i := 7) rfl) rfl⟩
theorem ok_X7_count : xs_MOK M_X7_count := ⟨by decide +kernel, wt_4 (List.mem_of_getElem? (i := 85) rfl) rfl, by decide +kernel, wt_1 (List.mem_of_getElem? (i := 7) rfl) rfl⟩
theorem ok_X7_mean : xs_MOK M_X7_mean := ⟨by decide +kernel, wt_4 (List.mem_of_getElem? (i := 93) rfl) rfl, by decide +kernel, wt_1 (List.mem_of_getElem? (i := 7) rfl) rfl⟩
theorem ok_X7_share : xs_MOK M_X7_share := ⟨by decide +kernel, wt_4 (List.mem_of_getElem? (i := 108) rfl) rfl, by decide +kernel, wt_1 (List.mem_of_getElem? (i := 7) rfl) rfl⟩
theorem ok_X7_allowing : xs_MOK M_X7_allowing := ⟨by decide +kernel, wt_4 (List.mem_of_getElem? (i := 125) rfl) rfl, by decide +kernel, wt_1 (List.mem_of_getElem? (i := 7) rfl) rfl⟩
theorem ok_X7_fewest : xs_MOK M_X7_fewest := ⟨by decide +kernel, wt_4 (List.mem_of_getElem? (i := 129) rfl) rfl, by decide +kernel, wt_1 (List.mem_of_getElem? (i := 7) rfl) rfl⟩
theorem ok_X7_widerIn : xs_MOK M_X7_widerIn := ⟨by decide +kernel, wt_4 (List.mem_of_getElem? (i := 133) rfl) rfl, by decide +kernel, wt_1 (List.mem_of_getElem? (i := 7) rfl) rfl⟩
theorem ok_X7_without : xs_MOK M_X7_without := ⟨by decide +kernel, wt_4 (List.mem_of_getElem? (i := 137) rfl) rfl, by decide +kernel, wt_1 (List.mem_of_getElem? (i := 7) rfl) rfl⟩
theorem ok_X7_put : xs_MOK M_X7_put := ⟨by decide +kernel, wt_4 (List.mem_of_getElem? (i := 141) rfl) rfl, by decide +kernel, wt_1 (List.mem_of_getElem? (i := 7) rfl) rfl⟩
theorem ok_X7_wipe : xs_MOK M_X7_wipe := ⟨by decide +kernel, wt_4 (List.mem_of_getElem? (i := 146) rfl) rfl, by decide +kernel, wt_1 (List.mem_of_getElem? (i := 7) rfl) rfl⟩
theorem ok_X7_sees : xs_MOK M_X7_sees := ⟨by decide +kernel, wt_4 (List.mem_of_getElem? (i := 166) rfl) rfl, by decide +kernel, wt_1 (List.mem_of_getElem? (i := 7) rfl) rfl⟩
theorem ok_X7_takes : xs_MOK M_X7_takes := ⟨by decide +kernel, wt_4 (List.mem_of_getElem? (i := 170) rfl) rfl, by decide +kernel, wt_1 (List.mem_of_getElem? (i := 7) rfl) rfl⟩
theorem ok_X7_number : xs_MOK M_X7_number := ⟨by decide +kernel, wt_4 (List.mem_of_getElem? (i := 162) rfl) rfl, by decide +kernel, wt_1 (List.mem_of_getElem? (i := 7) rfl) rfl⟩
theorem ok_X7_order : xs_MOK M_X7_order := ⟨by decide +kernel, wt_4 (List.mem_of_getElem? (i := 158) rfl) rfl, by decide +kernel, wt_1 (List.mem_of_getElem? (i := 7) rfl) rfl⟩
theorem ok_X7_isWell : xs_MOK M_X7_isWell := ⟨by decide +kernel, wt_4 (List.mem_of_getElem? (i := 154) rfl) rfl, by decide +kernel, wt_1 (List.mem_of_getElem? (i := 7) rfl) rfl⟩
theorem ok_X7_fault : xs_MOK M_X7_fault := ⟨by decide +kernel, wt_4 (List.mem_of_getElem? (i := 150) rfl) rfl, by decide +kernel, wt_1 (List.mem_of_getElem? (i := 7) rfl) rfl⟩
theorem ok_X7_carryOut : xs_MOK M_X7_carryOut := ⟨by decide +kernel, wt_4 (List.mem_of_getElem? (i := 174) rfl) rfl, by decide +kernel, wt_1 (List.mem_of_getElem? (i := 7) rfl) rfl⟩
theorem ok_Jxe99ae_isNaN_b9ae7 : xs_MOK M_Jxe99ae_isNaN_b9ae7 := ⟨by decide +kernel, wt_4 (List.mem_of_getElem? (i := 100) rfl) rfl, by decide +kernel, wt_1 (List.mem_of_getElem? (i := 11) rfl) rfl⟩
theorem ok_Jxe99ae_doubleToLongBits_ccdee : xs_MOK M_Jxe99ae_doubleToLongBits_ccdee := ⟨by decide +kernel, wt_4 (List.mem_of_getElem? (i := 97) rfl) rfl, by decide +kernel, wt_1 (List.mem_of_getElem? (i := 11) rfl) rfl⟩
theorem ok_Jxf58ca_isNaN_12338 : xs_MOK M_Jxf58ca_isNaN_12338 := ⟨by decide +kernel, wt_4 (List.mem_of_getElem? (i := 117) rfl) rfl, by decide +kernel, wt_1 (List.mem_of_getElem? (i := 12) rfl) rfl⟩
theorem ok_Jxf58ca_floatToIntBits_5c35a : xs_MOK M_Jxf58ca_floatToIntBits_5c35a := ⟨by decide +kernel, wt_4 (List.mem_of_getElem? (i := 114) rfl) rfl, by decide +kernel, wt_1 (List.mem_of_getElem? (i := 12) rfl) rfl⟩
theorem ok_J9_floorDiv_7cf53 : xs_MOK M_J9_floorDiv_7cf53 := ⟨by decide +kernel, wt_2 (List.mem_of_getElem? (i := 77) rfl) rfl, by decide +kernel, wt_1 (List.mem_of_getElem? (i := 8) rfl) rfl⟩
theorem ok_J9_floorMod_7cf53 : xs_MOK M_J9_floorMod_7cf53 := ⟨by decide +kernel, wt_1 (List.mem_of_getElem? (i := 184) rfl) rfl, by decide +kernel, wt_1 (List.mem_of_getElem? (i := 8) rfl) rfl⟩
theorem k_L_13 : xs_kV RL 13 M_X6_set := ⟨wt_1 (List.mem_of_getElem? (i := 170) rfl) rfl, wt_1 (List.mem_of_getElem? (i := 171) rfl) rfl, wt_1 (List.mem_of_getElem? (i := 172) rfl) rfl⟩
theorem k_X6_44 : xs_kV RX6 44 M_X2_draft := ⟨wt_1 (List.mem_of_getElem? (i := 174) rfl) rfl, wt_1 (List.mem_of_getElem? (i := 175) rfl) rfl, wt_1 (List.mem_of_getElem? (i := 176) rfl) rfl⟩
theorem k_X2_31 : xs_kV RX2 31 M_X2_placeOf := ⟨wt_1 (List.mem_of_getElem? (i := 178) rfl) rfl, wt_1 (List.mem_of_getElem? (i := 180) rfl) rfl, wt_0 (List.mem_of_getElem? (i := 0) rfl) rfl⟩
theorem k_X2_25 : xs_kS RX2 25 M_J9_floorMod_7cf53 := ⟨wt_1 (List.mem_of_getElem? (i := 182) rfl) rfl, wt_1 (List.mem_of_getElem? (i := 183) rfl) rfl⟩
theorem k_X2_35 : xs_kS RX2 35 M_X1_copy := ⟨wt_1 (List.mem_of_getElem? (i := 185) rfl) rfl, wt_1 (List.mem_of_getElem? (i := 186) rfl) rfl⟩
theorem k_X6_48 : xs_kV RX6 48 M_X1_changeSetting := ⟨wt_1 (List.mem_of_getElem? (i := 191) rfl) rfl, wt_1 (List.mem_of_getElem? (i := 192) rfl) rfl, wt_1 (List.mem_of_getElem? (i := 193) rfl) rfl⟩
theorem k_X6_52 : xs_kV RX6 52 M_X2_keep := ⟨wt_1 (List.mem_of_getElem? (i := 195) rfl) rfl, wt_1 (List.mem_of_getElem? (i := 196) rfl) rfl, wt_1 (List.mem_of_getElem? (i := 197) rfl) rfl⟩
theorem k_L_18 : xs_kV RL 18 M_X6_dial := ⟨wt_1 (List.mem_of_getElem? (i := 202) rfl) rfl, wt_1 (List.mem_of_getElem? (i := 203) rfl) rfl, wt_1 (List.mem_of_getElem? (i := 204) rfl) rfl⟩
theorem k_X6_56 : xs_kV RX6 56 M_X1_addDial := ⟨wt_1 (List.mem_of_getElem? (i := 206) rfl) rfl, wt_1 (List.mem_of_getElem? (i := 207) rfl) rfl, wt_1 (List.mem_of_getElem? (i := 208) rfl) rfl⟩
theorem k_L_23 : xs_kV RL 23 M_X6_read := ⟨wt_1 (List.mem_of_getElem? (i := 210) rfl) rfl, wt_1 (List.mem_of_getElem? (i := 211) rfl) rfl, wt_1 (List.mem_of_getElem? (i := 212) rfl) rfl⟩
theorem k_X6_60 : xs_kV RX6 60 M_X1_takeReading := ⟨wt_1 (List.mem_of_getElem? (i := 214) rfl) rfl, wt_1 (List.mem_of_getElem? (i := 215) rfl) rfl, wt_1 (List.mem_of_getElem? (i := 216) rfl) rfl⟩
theorem k_X1_69 : xs_kV RX1 69 M_X1_hasDial := ⟨wt_1 (List.mem_of_getElem? (i := 218) rfl) rfl, wt_1 (List.mem_of_getElem? (i := 219) rfl) rfl, wt_1 (List.mem_of_getElem? (i := 220) rfl) rfl⟩
theorem k_X1_73 : xs_kV RX1 73 M_X1_isStruck := ⟨wt_1 (List.mem_of_getElem? (i := 222) rfl) rfl, wt_1 (List.mem_of_getElem? (i := 223) rfl) rfl, wt_1 (List.mem_of_getElem? (i := 224) rfl) rfl⟩
theorem k_X1_76 : xs_kV RX1 76 M_X1_hasReading := ⟨wt_1 (List.mem_of_getElem? (i := 226) rfl) rfl, wt_1 (List.mem_of_getElem? (i := 227) rfl) rfl, wt_1 (List.mem_of_getElem? (i := 228) rfl) rfl⟩
theorem k_X1_62 : xs_kV RX1 62 M_X1_ageAt := ⟨wt_1 (List.mem_of_getElem? (i := 230) rfl) rfl, wt_1 (List.mem_of_getElem? (i := 232) rfl) rfl, wt_0 (List.mem_of_getElem? (i := 1) rfl) rfl⟩
theorem k_L_28 : xs_kV RL 28 M_X6_pass := ⟨wt_1 (List.mem_of_getElem? (i := 234) rfl) rfl, wt_1 (List.mem_of_getElem? (i := 235) rfl) rfl, wt_1 (List.mem_of_getElem? (i := 236) rfl) rfl⟩
theorem k_X6_64 : xs_kV RX6 64 M_X1_letPass := ⟨wt_1 (List.mem_of_getElem? (i := 238) rfl) rfl, wt_1 (List.mem_of_getElem? (i := 239) rfl) rfl, wt_2 (List.mem_of_getElem? (i := 0) rfl) rfl⟩
theorem k_L_33 : xs_kV RL 33 M_X6_agree := ⟨wt_2 (List.mem_of_getElem? (i := 3) rfl) rfl, wt_2 (List.mem_of_getElem? (i := 4) rfl) rfl, wt_2 (List.mem_of_getElem? (i := 5) rfl) rfl⟩
theorem k_X6_67 : xs_kV RX6 67 M_X6_findHour := ⟨wt_2 (List.mem_of_getElem? (i := 7) rfl) rfl, wt_2 (List.mem_of_getElem? (i := 9) rfl) rfl, wt_0 (List.mem_of_getElem? (i := 2) rfl) rfl⟩
theorem k_X6_70 : xs_kV RX6 70 M_X6_gatherNow := ⟨wt_2 (List.mem_of_getElem? (i := 11) rfl) rfl, wt_2 (List.mem_of_getElem? (i := 13) rfl) rfl, wt_0 (List.mem_of_getElem? (i := 3) rfl) rfl⟩
theorem k_X6_89 : xs_kV RX6 89 M_X1_now := ⟨wt_2 (List.mem_of_getElem? (i := 15) rfl) rfl, wt_2 (List.mem_of_getElem? (i := 16) rfl) rfl, wt_2 (List.mem_of_getElem? (i := 17) rfl) rfl⟩
theorem k_X6_92 : xs_kV RX6 92 M_X5_gather := ⟨wt_2 (List.mem_of_getElem? (i := 19) rfl) rfl, wt_2 (List.mem_of_getElem? (i := 20) rfl) rfl, wt_2 (List.mem_of_getElem? (i := 21) rfl) rfl⟩
theorem k_X5_25 : xs_kV RX5 25 M_X1_hasSpan := ⟨wt_2 (List.mem_of_getElem? (i := 23) rfl) rfl, wt_2 (List.mem_of_getElem? (i := 24) rfl) rfl, wt_2 (List.mem_of_getElem? (i := 25) rfl) rfl⟩
theorem k_X1_58 : xs_kV RX1 58 M_X1_dialsWithSpans := ⟨wt_2 (List.mem_of_getElem? (i := 27) rfl) rfl, wt_2 (List.mem_of_getElem? (i := 28) rfl) rfl, wt_2 (List.mem_of_getElem? (i := 29) rfl) rfl⟩
theorem k_X5_31 : xs_kV RX5 31 M_X1_lowEnd := ⟨wt_2 (List.mem_of_getElem? (i := 31) rfl) rfl, wt_2 (List.mem_of_getElem? (i := 32) rfl) rfl, wt_2 (List.mem_of_getElem? (i := 33) rfl) rfl⟩
theorem k_X1_66 : xs_kV RX1 66 M_X1_reach := ⟨wt_2 (List.mem_of_getElem? (i := 35) rfl) rfl, wt_2 (List.mem_of_getElem? (i := 37) rfl) rfl, wt_0 (List.mem_of_getElem? (i := 4) rfl) rfl⟩
theorem k_X5_35 : xs_kV RX5 35 M_X1_highEnd := ⟨wt_2 (List.mem_of_getElem? (i := 39) rfl) rfl, wt_2 (List.mem_of_getElem? (i := 40) rfl) rfl, wt_2 (List.mem_of_getElem? (i := 41) rfl) rfl⟩
theorem k_X6_74 : xs_kV RX6 74 M_X5_isEmpty := ⟨wt_2 (List.mem_of_getElem? (i := 43) rfl) rfl, wt_2 (List.mem_of_getElem? (i := 44) rfl) rfl, wt_2 (List.mem_of_getElem? (i := 45) rfl) rfl⟩
theorem k_X6_78 : xs_kV RX6 78 M_X5_hour := ⟨wt_2 (List.mem_of_getElem? (i := 47) rfl) rfl, wt_2 (List.mem_of_getElem? (i := 48) rfl) rfl, wt_2 (List.mem_of_getElem? (i := 49) rfl) rfl⟩
theorem k_X5_52 : xs_kV RX5 52 M_X5_most := ⟨wt_2 (List.mem_of_getElem? (i := 51) rfl) rfl, wt_2 (List.mem_of_getElem? (i := 52) rfl) rfl, wt_2 (List.mem_of_getElem? (i := 53) rfl) rfl⟩
theorem k_X5_42 : xs_kV RX5 42 M_X5_howManyAt := ⟨wt_2 (List.mem_of_getElem? (i := 55) rfl) rfl, wt_2 (List.mem_of_getElem? (i := 56) rfl) rfl, wt_2 (List.mem_of_getElem? (i := 57) rfl) rfl⟩
theorem k_X5_38 : xs_kV RX5 38 M_X5_has := ⟨wt_2 (List.mem_of_getElem? (i := 59) rfl) rfl, wt_2 (List.mem_of_getElem? (i := 61) rfl) rfl, wt_0 (List.mem_of_getElem? (i := 5) rfl) rfl⟩
theorem k_X5_56 : xs_kV RX5 56 M_X5_firstTimeOf := ⟨wt_2 (List.mem_of_getElem? (i := 66) rfl) rfl, wt_2 (List.mem_of_getElem? (i := 67) rfl) rfl, wt_2 (List.mem_of_getElem? (i := 68) rfl) rfl⟩
theorem k_X5_59 : xs_kV RX5 59 M_X5_lastTimeOf := ⟨wt_2 (List.mem_of_getElem? (i := 71) rfl) rfl, wt_2 (List.mem_of_getElem? (i := 72) rfl) rfl, wt_2 (List.mem_of_getElem? (i := 73) rfl) rfl⟩
theorem k_X5_62 : xs_kS RX5 62 M_J9_floorDiv_7cf53 := ⟨wt_2 (List.mem_of_getElem? (i := 75) rfl) rfl, wt_2 (List.mem_of_getElem? (i := 76) rfl) rfl⟩
theorem k_X6_81 : xs_kV RX6 81 M_X5_dialsAt := ⟨wt_2 (List.mem_of_getElem? (i := 78) rfl) rfl, wt_2 (List.mem_of_getElem? (i := 79) rfl) rfl, wt_2 (List.mem_of_getElem? (i := 80) rfl) rfl⟩
theorem k_X6_84 : xs_kV RX6 84 M_X1_judge := ⟨wt_2 (List.mem_of_getElem? (i := 82) rfl) rfl, wt_2 (List.mem_of_getElem? (i := 83) rfl) rfl, wt_2 (List.mem_of_getElem? (i := 84) rfl) rfl⟩
theorem k_X1_80 : xs_kV RX1 80 M_X1_countLie := ⟨wt_2 (List.mem_of_getElem? (i := 86) rfl) rfl, wt_2 (List.mem_of_getElem? (i := 88) rfl) rfl, wt_0 (List.mem_of_getElem? (i := 6) rfl) rfl⟩
theorem k_L_37 : xs_kV RL 37 M_X6_of := ⟨wt_2 (List.mem_of_getElem? (i := 91) rfl) rfl, wt_2 (List.mem_of_getElem? (i := 92) rfl) rfl, wt_2 (List.mem_of_getElem? (i := 93) rfl) rfl⟩
theorem k_X6_96 : xs_kV RX6 96 M_X1_hasDial := ⟨wt_2 (List.mem_of_getElem? (i := 95) rfl) rfl, wt_1 (List.mem_of_getElem? (i := 219) rfl) rfl, wt_1 (List.mem_of_getElem? (i := 220) rfl) rfl⟩
theorem k_X6_100 : xs_kV RX6 100 M_X1_about := ⟨wt_2 (List.mem_of_getElem? (i := 96) rfl) rfl, wt_2 (List.mem_of_getElem? (i := 97) rfl) rfl, wt_2 (List.mem_of_getElem? (i := 98) rfl) rfl⟩
theorem k_X1_84 : xs_kV RX1 84 M_X1_hasSpan := ⟨wt_2 (List.mem_of_getElem? (i := 100) rfl) rfl, wt_2 (List.mem_of_getElem? (i := 24) rfl) rfl, wt_2 (List.mem_of_getElem? (i := 25) rfl) rfl⟩
theorem k_X1_87 : xs_kV RX1 87 M_X1_lowEnd := ⟨wt_2 (List.mem_of_getElem? (i := 101) rfl) rfl, wt_2 (List.mem_of_getElem? (i := 32) rfl) rfl, wt_2 (List.mem_of_getElem? (i := 33) rfl) rfl⟩
theorem k_X1_91 : xs_kV RX1 91 M_X1_highEnd := ⟨wt_2 (List.mem_of_getElem? (i := 103) rfl) rfl, wt_2 (List.mem_of_getElem? (i := 40) rfl) rfl, wt_2 (List.mem_of_getElem? (i := 41) rfl) rfl⟩
theorem k_L_41 : xs_kV RL 41 M_X6_best := ⟨wt_2 (List.mem_of_getElem? (i := 104) rfl) rfl, wt_2 (List.mem_of_getElem? (i := 105) rfl) rfl, wt_2 (List.mem_of_getElem? (i := 106) rfl) rfl⟩
theorem k_X6_103 : xs_kV RX6 103 M_X5_most := ⟨wt_2 (List.mem_of_getElem? (i := 108) rfl) rfl, wt_2 (List.mem_of_getElem? (i := 52) rfl) rfl, wt_2 (List.mem_of_getElem? (i := 53) rfl) rfl⟩
theorem k_X6_106 : xs_kV RX6 106 M_X5_bestLow := ⟨wt_2 (List.mem_of_getElem? (i := 109) rfl) rfl, wt_2 (List.mem_of_getElem? (i := 110) rfl) rfl, wt_2 (List.mem_of_getElem? (i := 111) rfl) rfl⟩
theorem k_X6_109 : xs_kV RX6 109 M_X5_bestHigh := ⟨wt_2 (List.mem_of_getElem? (i := 113) rfl) rfl, wt_2 (List.mem_of_getElem? (i := 114) rfl) rfl, wt_2 (List.mem_of_getElem? (i := 115) rfl) rfl⟩
theorem k_L_45 : xs_kV RL 45 M_X6_end := ⟨wt_2 (List.mem_of_getElem? (i := 117) rfl) rfl, wt_2 (List.mem_of_getElem? (i := 118) rfl) rfl, wt_2 (List.mem_of_getElem? (i := 119) rfl) rfl⟩
theorem k_X6_112 : xs_kV RX6 112 M_X5_ends := ⟨wt_2 (List.mem_of_getElem? (i := 121) rfl) rfl, wt_2 (List.mem_of_getElem? (i := 122) rfl) rfl, wt_2 (List.mem_of_getElem? (i := 123) rfl) rfl⟩
theorem k_X6_115 : xs_kV RX6 115 M_X5_endKey := ⟨wt_2 (List.mem_of_getElem? (i := 125) rfl) rfl, wt_2 (List.mem_of_getElem? (i := 126) rfl) rfl, wt_2 (List.mem_of_getElem? (i := 127) rfl) rfl⟩
theorem k_X5_65 : xs_kV RX5 65 M_X5_ends := ⟨wt_2 (List.mem_of_getElem? (i := 129) rfl) rfl, wt_2 (List.mem_of_getElem? (i := 122) rfl) rfl, wt_2 (List.mem_of_getElem? (i := 123) rfl) rfl⟩
theorem k_X5_68 : xs_kV RX5 68 M_X5_keyAt := ⟨wt_2 (List.mem_of_getElem? (i := 130) rfl) rfl, wt_2 (List.mem_of_getElem? (i := 132) rfl) rfl, wt_0 (List.mem_of_getElem? (i := 7) rfl) rfl⟩
theorem k_X5_74 : xs_kS RX5 74 M_X5_keyOf := ⟨wt_2 (List.mem_of_getElem? (i := 134) rfl) rfl, wt_2 (List.mem_of_getElem? (i := 135) rfl) rfl⟩
theorem k_X5_71 : xs_kV RX5 71 M_X5_keysBelow := ⟨wt_2 (List.mem_of_getElem? (i := 137) rfl) rfl, wt_2 (List.mem_of_getElem? (i := 139) rfl) rfl, wt_0 (List.mem_of_getElem? (i := 8) rfl) rfl⟩
theorem k_X6_118 : xs_kS RX6 118 M_X5_timeOfKey := ⟨wt_2 (List.mem_of_getElem? (i := 141) rfl) rfl, wt_2 (List.mem_of_getElem? (i := 142) rfl) rfl⟩
theorem k_X6_121 : xs_kS RX6 121 M_X5_dialOfKey := ⟨wt_2 (List.mem_of_getElem? (i := 144) rfl) rfl, wt_2 (List.mem_of_getElem? (i := 145) rfl) rfl⟩
theorem k_X5_78 : xs_kS RX5 78 M_J9_floorMod_7cf53 := ⟨wt_2 (List.mem_of_getElem? (i := 147) rfl) rfl, wt_1 (List.mem_of_getElem? (i := 183) rfl) rfl⟩
theorem k_X6_124 : xs_kS RX6 124 M_X5_sideOfKey := ⟨wt_2 (List.mem_of_getElem? (i := 148) rfl) rfl, wt_2 (List.mem_of_getElem? (i := 149) rfl) rfl⟩
theorem k_L_49 : xs_kV RL 49 M_X6_overlap := ⟨wt_2 (List.mem_of_getElem? (i := 151) rfl) rfl, wt_2 (List.mem_of_getElem? (i := 152) rfl) rfl, wt_2 (List.mem_of_getElem? (i := 153) rfl) rfl⟩
theorem k_X6_129 : xs_kV RX6 129 M_X5_howManyAt := ⟨wt_2 (List.mem_of_getElem? (i := 157) rfl) rfl, wt_2 (List.mem_of_getElem? (i := 56) rfl) rfl, wt_2 (List.mem_of_getElem? (i := 57) rfl) rfl⟩
theorem k_L_53 : xs_kV RL 53 M_X6_count := ⟨wt_2 (List.mem_of_getElem? (i := 158) rfl) rfl, wt_2 (List.mem_of_getElem? (i := 159) rfl) rfl, wt_2 (List.mem_of_getElem? (i := 160) rfl) rfl⟩
theorem k_X6_132 : xs_kV RX6 132 M_X3_length := ⟨wt_2 (List.mem_of_getElem? (i := 162) rfl) rfl, wt_2 (List.mem_of_getElem? (i := 163) rfl) rfl, wt_2 (List.mem_of_getElem? (i := 164) rfl) rfl⟩
theorem k_X6_135 : xs_kV RX6 135 M_X2_size := ⟨wt_2 (List.mem_of_getElem? (i := 166) rfl) rfl, wt_2 (List.mem_of_getElem? (i := 167) rfl) rfl, wt_2 (List.mem_of_getElem? (i := 168) rfl) rfl⟩
theorem k_X6_138 : xs_kV RX6 138 M_X1_number := ⟨wt_2 (List.mem_of_getElem? (i := 170) rfl) rfl, wt_2 (List.mem_of_getElem? (i := 171) rfl) rfl, wt_2 (List.mem_of_getElem? (i := 172) rfl) rfl⟩
theorem k_L_57 : xs_kV RL 57 M_X6_mean := ⟨wt_2 (List.mem_of_getElem? (i := 174) rfl) rfl, wt_2 (List.mem_of_getElem? (i := 175) rfl) rfl, wt_2 (List.mem_of_getElem? (i := 176) rfl) rfl⟩
theorem k_X6_141 : xs_kV RX6 141 M_X5_weightedMean := ⟨wt_2 (List.mem_of_getElem? (i := 178) rfl) rfl, wt_2 (List.mem_of_getElem? (i := 179) rfl) rfl, wt_2 (List.mem_of_getElem? (i := 180) rfl) rfl⟩
theorem k_X6_145 : xs_kS RX6 145 M_X0_ofDouble := ⟨wt_2 (List.mem_of_getElem? (i := 183) rfl) rfl, wt_2 (List.mem_of_getElem? (i := 184) rfl) rfl⟩
theorem k_L_62 : xs_kV RL 62 M_X6_share := ⟨wt_2 (List.mem_of_getElem? (i := 190) rfl) rfl, wt_2 (List.mem_of_getElem? (i := 191) rfl) rfl, wt_2 (List.mem_of_getElem? (i := 192) rfl) rfl⟩
theorem k_X6_151 : xs_kV RX6 151 M_X5_honestShare := ⟨wt_2 (List.mem_of_getElem? (i := 194) rfl) rfl, wt_2 (List.mem_of_getElem? (i := 195) rfl) rfl, wt_2 (List.mem_of_getElem? (i := 196) rfl) rfl⟩
theorem k_X6_155 : xs_kS RX6 155 M_X0_ofFloat := ⟨wt_2 (List.mem_of_getElem? (i := 198) rfl) rfl, wt_2 (List.mem_of_getElem? (i := 199) rfl) rfl⟩
theorem k_X0_17 : xs_kS RX0 17 M_X0_ofDouble := ⟨wt_2 (List.mem_of_getElem? (i := 201) rfl) rfl, wt_2 (List.mem_of_getElem? (i := 184) rfl) rfl⟩
theorem k_L_66 : xs_kV RL 66 M_X6_allowing := ⟨wt_2 (List.mem_of_getElem? (i := 203) rfl) rfl, wt_2 (List.mem_of_getElem? (i := 204) rfl) rfl, wt_2 (List.mem_of_getElem? (i := 205) rfl) rfl⟩
theorem k_X6_159 : xs_kV RX6 159 M_X5_size := ⟨wt_2 (List.mem_of_getElem? (i := 207) rfl) rfl, wt_2 (List.mem_of_getElem? (i := 208) rfl) rfl, wt_2 (List.mem_of_getElem? (i := 209) rfl) rfl⟩
theorem k_X6_165 : xs_kV RX6 165 M_X5_firstTimeOf := ⟨wt_2 (List.mem_of_getElem? (i := 212) rfl) rfl, wt_2 (List.mem_of_getElem? (i := 67) rfl) rfl, wt_2 (List.mem_of_getElem? (i := 68) rfl) rfl⟩
theorem k_X6_169 : xs_kV RX6 169 M_X5_lastTimeOf := ⟨wt_2 (List.mem_of_getElem? (i := 214) rfl) rfl, wt_2 (List.mem_of_getElem? (i := 72) rfl) rfl, wt_2 (List.mem_of_getElem? (i := 73) rfl) rfl⟩
theorem k_L_70 : xs_kV RL 70 M_X6_fewest := ⟨wt_2 (List.mem_of_getElem? (i := 215) rfl) rfl, wt_2 (List.mem_of_getElem? (i := 216) rfl) rfl, wt_2 (List.mem_of_getElem? (i := 217) rfl) rfl⟩
theorem k_L_74 : xs_kV RL 74 M_X6_widerIn := ⟨wt_2 (List.mem_of_getElem? (i := 219) rfl) rfl, wt_2 (List.mem_of_getElem? (i := 220) rfl) rfl, wt_2 (List.mem_of_getElem? (i := 221) rfl) rfl⟩
theorem k_X6_172 : xs_kV RX6 172 M_X6_hoursTooEarly := ⟨wt_2 (List.mem_of_getElem? (i := 223) rfl) rfl, wt_2 (List.mem_of_getElem? (i := 225) rfl) rfl, wt_0 (List.mem_of_getElem? (i := 9) rfl) rfl⟩
theorem k_L_78 : xs_kV RL 78 M_X6_without := ⟨wt_2 (List.mem_of_getElem? (i := 227) rfl) rfl, wt_2 (List.mem_of_getElem? (i := 228) rfl) rfl, wt_2 (List.mem_of_getElem? (i := 229) rfl) rfl⟩
theorem k_L_84 : xs_kV RL 84 M_X6_put := ⟨wt_2 (List.mem_of_getElem? (i := 231) rfl) rfl, wt_2 (List.mem_of_getElem? (i := 232) rfl) rfl, wt_2 (List.mem_of_getElem? (i := 233) rfl) rfl⟩
theorem k_X6_175 : xs_kS RX6 175 M_X3_signsIn := ⟨wt_2 (List.mem_of_getElem? (i := 235) rfl) rfl, wt_2 (List.mem_of_getElem? (i := 236) rfl) rfl⟩
theorem k_X3_17 : xs_kS RX3 17 M_X3_isSign := ⟨wt_2 (List.mem_of_getElem? (i := 239) rfl) rfl, wt_3 (List.mem_of_getElem? (i := 0) rfl) rfl⟩
theorem k_X6_179 : xs_kV RX6 179 M_X3_append := ⟨wt_3 (List.mem_of_getElem? (i := 4) rfl) rfl, wt_3 (List.mem_of_getElem? (i := 5) rfl) rfl, wt_3 (List.mem_of_getElem? (i := 6) rfl) rfl⟩
theorem k_L_89 : xs_kV RL 89 M_X6_wipe := ⟨wt_3 (List.mem_of_getElem? (i := 8) rfl) rfl, wt_3 (List.mem_of_getElem? (i := 9) rfl) rfl, wt_3 (List.mem_of_getElem? (i := 10) rfl) rfl⟩
theorem k_X6_183 : xs_kV RX6 183 M_X3_clear := ⟨wt_3 (List.mem_of_getElem? (i := 12) rfl) rfl, wt_3 (List.mem_of_getElem? (i := 13) rfl) rfl, wt_3 (List.mem_of_getElem? (i := 14) rfl) rfl⟩
theorem k_L_93 : xs_kV RL 93 M_X6_fault := ⟨wt_3 (List.mem_of_getElem? (i := 16) rfl) rfl, wt_3 (List.mem_of_getElem? (i := 17) rfl) rfl, wt_3 (List.mem_of_getElem? (i := 18) rfl) rfl⟩
theorem k_X6_186 : xs_kV RX6 186 M_X3_firstFault := ⟨wt_3 (List.mem_of_getElem? (i := 20) rfl) rfl, wt_3 (List.mem_of_getElem? (i := 21) rfl) rfl, wt_3 (List.mem_of_getElem? (i := 22) rfl) rfl⟩
theorem k_X3_42 : xs_kV RX3 42 M_X3_startReading := ⟨wt_3 (List.mem_of_getElem? (i := 24) rfl) rfl, wt_3 (List.mem_of_getElem? (i := 25) rfl) rfl, wt_3 (List.mem_of_getElem? (i := 26) rfl) rfl⟩
theorem k_X3_45 : xs_kV RX3 45 M_X3_nextOrder := ⟨wt_3 (List.mem_of_getElem? (i := 28) rfl) rfl, wt_3 (List.mem_of_getElem? (i := 29) rfl) rfl, wt_3 (List.mem_of_getElem? (i := 30) rfl) rfl⟩
theorem k_X3_52 : xs_kV RX3 52 M_X3_take := ⟨wt_3 (List.mem_of_getElem? (i := 32) rfl) rfl, wt_3 (List.mem_of_getElem? (i := 34) rfl) rfl, wt_0 (List.mem_of_getElem? (i := 10) rfl) rfl⟩
theorem k_X3_56 : xs_kV RX3 56 M_X3_sign := ⟨wt_3 (List.mem_of_getElem? (i := 36) rfl) rfl, wt_3 (List.mem_of_getElem? (i := 38) rfl) rfl, wt_0 (List.mem_of_getElem? (i := 11) rfl) rfl⟩
theorem k_X3_60 : xs_kV RX3 60 M_X3_takeFirst := ⟨wt_3 (List.mem_of_getElem? (i := 40) rfl) rfl, wt_3 (List.mem_of_getElem? (i := 42) rfl) rfl, wt_0 (List.mem_of_getElem? (i := 12) rfl) rfl⟩
theorem k_X3_69 : xs_kV RX3 69 M_X3_takeNumber := ⟨wt_3 (List.mem_of_getElem? (i := 44) rfl) rfl, wt_3 (List.mem_of_getElem? (i := 46) rfl) rfl, wt_0 (List.mem_of_getElem? (i := 13) rfl) rfl⟩
theorem k_X3_75 : xs_kS RX3 75 M_X3_isDigit := ⟨wt_3 (List.mem_of_getElem? (i := 48) rfl) rfl, wt_3 (List.mem_of_getElem? (i := 49) rfl) rfl⟩
theorem k_X3_78 : xs_kV RX3 78 M_X3_withDigit := ⟨wt_3 (List.mem_of_getElem? (i := 51) rfl) rfl, wt_3 (List.mem_of_getElem? (i := 53) rfl) rfl, wt_0 (List.mem_of_getElem? (i := 14) rfl) rfl⟩
theorem k_X3_63 : xs_kV RX3 63 M_X3_takeSecond := ⟨wt_3 (List.mem_of_getElem? (i := 55) rfl) rfl, wt_3 (List.mem_of_getElem? (i := 57) rfl) rfl, wt_0 (List.mem_of_getElem? (i := 15) rfl) rfl⟩
theorem k_X3_66 : xs_kV RX3 66 M_X3_takeThird := ⟨wt_3 (List.mem_of_getElem? (i := 59) rfl) rfl, wt_3 (List.mem_of_getElem? (i := 61) rfl) rfl, wt_0 (List.mem_of_getElem? (i := 16) rfl) rfl⟩
theorem k_L_97 : xs_kV RL 97 M_X6_carryOut := ⟨wt_3 (List.mem_of_getElem? (i := 63) rfl) rfl, wt_3 (List.mem_of_getElem? (i := 64) rfl) rfl, wt_3 (List.mem_of_getElem? (i := 65) rfl) rfl⟩
theorem k_X6_189 : xs_kV RX6 189 M_X3_startReading := ⟨wt_3 (List.mem_of_getElem? (i := 67) rfl) rfl, wt_3 (List.mem_of_getElem? (i := 25) rfl) rfl, wt_3 (List.mem_of_getElem? (i := 26) rfl) rfl⟩
theorem k_X6_192 : xs_kV RX6 192 M_X3_nextOrder := ⟨wt_3 (List.mem_of_getElem? (i := 68) rfl) rfl, wt_3 (List.mem_of_getElem? (i := 29) rfl) rfl, wt_3 (List.mem_of_getElem? (i := 30) rfl) rfl⟩
theorem k_X6_195 : xs_kV RX6 195 M_X6_carryOrder := ⟨wt_3 (List.mem_of_getElem? (i := 69) rfl) rfl, wt_3 (List.mem_of_getElem? (i := 71) rfl) rfl, wt_0 (List.mem_of_getElem? (i := 17) rfl) rfl⟩
theorem k_X6_201 : xs_kV RX6 201 M_X3_kind := ⟨wt_3 (List.mem_of_getElem? (i := 73) rfl) rfl, wt_3 (List.mem_of_getElem? (i := 74) rfl) rfl, wt_3 (List.mem_of_getElem? (i := 75) rfl) rfl⟩
theorem k_X6_205 : xs_kV RX6 205 M_X3_first := ⟨wt_3 (List.mem_of_getElem? (i := 77) rfl) rfl, wt_3 (List.mem_of_getElem? (i := 78) rfl) rfl, wt_3 (List.mem_of_getElem? (i := 79) rfl) rfl⟩
theorem k_X6_208 : xs_kV RX6 208 M_X3_second := ⟨wt_3 (List.mem_of_getElem? (i := 81) rfl) rfl, wt_3 (List.mem_of_getElem? (i := 82) rfl) rfl, wt_3 (List.mem_of_getElem? (i := 83) rfl) rfl⟩
theorem k_X6_211 : xs_kV RX6 211 M_X3_third := ⟨wt_3 (List.mem_of_getElem? (i := 85) rfl) rfl, wt_3 (List.mem_of_getElem? (i := 86) rfl) rfl, wt_3 (List.mem_of_getElem? (i := 87) rfl) rfl⟩
theorem k_X6_198 : xs_kS RX6 198 M_X6_isError := ⟨wt_3 (List.mem_of_getElem? (i := 89) rfl) rfl, wt_1 (List.mem_of_getElem? (i := 200) rfl) rfl⟩
theorem k_L_101 : xs_kV RL 101 M_X6_undo := ⟨wt_3 (List.mem_of_getElem? (i := 90) rfl) rfl, wt_3 (List.mem_of_getElem? (i := 91) rfl) rfl, wt_3 (List.mem_of_getElem? (i := 92) rfl) rfl⟩
theorem k_X6_214 : xs_kV RX6 214 M_X2_takeBack := ⟨wt_3 (List.mem_of_getElem? (i := 94) rfl) rfl, wt_3 (List.mem_of_getElem? (i := 95) rfl) rfl, wt_3 (List.mem_of_getElem? (i := 96) rfl) rfl⟩
theorem k_L_105 : xs_kV RL 105 M_X6_save := ⟨wt_3 (List.mem_of_getElem? (i := 98) rfl) rfl, wt_3 (List.mem_of_getElem? (i := 99) rfl) rfl, wt_3 (List.mem_of_getElem? (i := 100) rfl) rfl⟩
theorem k_X6_218 : xs_kS RX6 218 M_X4_hasSlot := ⟨wt_3 (List.mem_of_getElem? (i := 102) rfl) rfl, wt_3 (List.mem_of_getElem? (i := 103) rfl) rfl⟩
theorem k_X6_221 : xs_kV RX6 221 M_X4_keepIn := ⟨wt_3 (List.mem_of_getElem? (i := 105) rfl) rfl, wt_3 (List.mem_of_getElem? (i := 106) rfl) rfl, wt_3 (List.mem_of_getElem? (i := 107) rfl) rfl⟩
theorem k_X4_22 : xs_kS RX4 22 M_X1_copy := ⟨wt_3 (List.mem_of_getElem? (i := 109) rfl) rfl, wt_1 (List.mem_of_getElem? (i := 186) rfl) rfl⟩
theorem k_X6_225 : xs_kV RX6 225 M_X1_dials := ⟨wt_3 (List.mem_of_getElem? (i := 110) rfl) rfl, wt_3 (List.mem_of_getElem? (i := 111) rfl) rfl, wt_3 (List.mem_of_getElem? (i := 112) rfl) rfl⟩
theorem k_L_109 : xs_kV RL 109 M_X6_restore := ⟨wt_3 (List.mem_of_getElem? (i := 114) rfl) rfl, wt_3 (List.mem_of_getElem? (i := 115) rfl) rfl, wt_3 (List.mem_of_getElem? (i := 116) rfl) rfl⟩
theorem k_X6_228 : xs_kV RX6 228 M_X4_isFilled := ⟨wt_3 (List.mem_of_getElem? (i := 118) rfl) rfl, wt_3 (List.mem_of_getElem? (i := 119) rfl) rfl, wt_3 (List.mem_of_getElem? (i := 120) rfl) rfl⟩
theorem k_X6_231 : xs_kV RX6 231 M_X4_giveBack := ⟨wt_3 (List.mem_of_getElem? (i := 122) rfl) rfl, wt_3 (List.mem_of_getElem? (i := 123) rfl) rfl, wt_3 (List.mem_of_getElem? (i := 124) rfl) rfl⟩
theorem k_L_104 : xs_kV RL 104 M_X7_undo := ⟨wt_3 (List.mem_of_getElem? (i := 184) rfl) rfl, wt_3 (List.mem_of_getElem? (i := 185) rfl) rfl, wt_3 (List.mem_of_getElem? (i := 186) rfl) rfl⟩
theorem k_L_108 : xs_kV RL 108 M_X7_save := ⟨wt_3 (List.mem_of_getElem? (i := 188) rfl) rfl, wt_3 (List.mem_of_getElem? (i := 189) rfl) rfl, wt_3 (List.mem_of_getElem? (i := 190) rfl) rfl⟩
theorem k_X7_41 : xs_kS RX7 41 M_X7_in := ⟨wt_3 (List.mem_of_getElem? (i := 192) rfl) rfl, wt_3 (List.mem_of_getElem? (i := 193) rfl) rfl⟩
theorem k_L_112 : xs_kV RL 112 M_X7_restore := ⟨wt_3 (List.mem_of_getElem? (i := 195) rfl) rfl, wt_3 (List.mem_of_getElem? (i := 196) rfl) rfl, wt_3 (List.mem_of_getElem? (i := 197) rfl) rfl⟩
theorem k_X7_49 : xs_kV RX7 49 M_X7_remember := ⟨wt_3 (List.mem_of_getElem? (i := 199) rfl) rfl, wt_3 (List.mem_of_getElem? (i := 201) rfl) rfl, wt_0 (List.mem_of_getElem? (i := 18) rfl) rfl⟩
theorem k_X7_52 : xs_kV RX7 52 M_X7_record := ⟨wt_3 (List.mem_of_getElem? (i := 203) rfl) rfl, wt_3 (List.mem_of_getElem? (i := 205) rfl) rfl, wt_0 (List.mem_of_getElem? (i := 19) rfl) rfl⟩
theorem k_L_17 : xs_kV RL 17 M_X7_set := ⟨wt_3 (List.mem_of_getElem? (i := 207) rfl) rfl, wt_3 (List.mem_of_getElem? (i := 208) rfl) rfl, wt_3 (List.mem_of_getElem? (i := 209) rfl) rfl⟩
theorem k_L_22 : xs_kV RL 22 M_X7_dial := ⟨wt_3 (List.mem_of_getElem? (i := 211) rfl) rfl, wt_3 (List.mem_of_getElem? (i := 212) rfl) rfl, wt_3 (List.mem_of_getElem? (i := 213) rfl) rfl⟩
theorem k_X7_112 : xs_kV RX7 112 M_X7_comes := ⟨wt_3 (List.mem_of_getElem? (i := 215) rfl) rfl, wt_3 (List.mem_of_getElem? (i := 217) rfl) rfl, wt_0 (List.mem_of_getElem? (i := 20) rfl) rfl⟩
theorem k_L_27 : xs_kV RL 27 M_X7_read := ⟨wt_3 (List.mem_of_getElem? (i := 219) rfl) rfl, wt_3 (List.mem_of_getElem? (i := 220) rfl) rfl, wt_3 (List.mem_of_getElem? (i := 221) rfl) rfl⟩
theorem k_X7_115 : xs_kV RX7 115 M_X7_reads := ⟨wt_3 (List.mem_of_getElem? (i := 223) rfl) rfl, wt_3 (List.mem_of_getElem? (i := 225) rfl) rfl, wt_0 (List.mem_of_getElem? (i := 21) rfl) rfl⟩
theorem k_X7_91 : xs_kV RX7 91 M_X7_isDial := ⟨wt_3 (List.mem_of_getElem? (i := 227) rfl) rfl, wt_3 (List.mem_of_getElem? (i := 229) rfl) rfl, wt_0 (List.mem_of_getElem? (i := 22) rfl) rfl⟩
theorem k_X7_59 : xs_kV RX7 59 M_X7_its := ⟨wt_3 (List.mem_of_getElem? (i := 231) rfl) rfl, wt_3 (List.mem_of_getElem? (i := 233) rfl) rfl, wt_0 (List.mem_of_getElem? (i := 23) rfl) rfl⟩
theorem k_X7_94 : xs_kV RX7 94 M_X7_lay := ⟨wt_3 (List.mem_of_getElem? (i := 235) rfl) rfl, wt_3 (List.mem_of_getElem? (i := 237) rfl) rfl, wt_0 (List.mem_of_getElem? (i := 24) rfl) rfl⟩
theorem k_L_32 : xs_kV RL 32 M_X7_pass := ⟨wt_3 (List.mem_of_getElem? (i := 239) rfl) rfl, wt_4 (List.mem_of_getElem? (i := 0) rfl) rfl, wt_4 (List.mem_of_getElem? (i := 1) rfl) rfl⟩
theorem k_X7_119 : xs_kV RX7 119 M_X7_waits := ⟨wt_4 (List.mem_of_getElem? (i := 3) rfl) rfl, wt_4 (List.mem_of_getElem? (i := 5) rfl) rfl, wt_0 (List.mem_of_getElem? (i := 25) rfl) rfl⟩
theorem k_L_36 : xs_kV RL 36 M_X7_agree := ⟨wt_4 (List.mem_of_getElem? (i := 8) rfl) rfl, wt_4 (List.mem_of_getElem? (i := 9) rfl) rfl, wt_4 (List.mem_of_getElem? (i := 10) rfl) rfl⟩
theorem k_X7_122 : xs_kV RX7 122 M_X7_agrees := ⟨wt_4 (List.mem_of_getElem? (i := 12) rfl) rfl, wt_4 (List.mem_of_getElem? (i := 14) rfl) rfl, wt_0 (List.mem_of_getElem? (i := 26) rfl) rfl⟩
theorem k_X7_99 : xs_kV RX7 99 M_X7_layOut := ⟨wt_4 (List.mem_of_getElem? (i := 16) rfl) rfl, wt_4 (List.mem_of_getElem? (i := 18) rfl) rfl, wt_0 (List.mem_of_getElem? (i := 27) rfl) rfl⟩
theorem k_X7_103 : xs_kV RX7 103 M_X7_seek := ⟨wt_4 (List.mem_of_getElem? (i := 20) rfl) rfl, wt_4 (List.mem_of_getElem? (i := 22) rfl) rfl, wt_0 (List.mem_of_getElem? (i := 28) rfl) rfl⟩
theorem k_X7_69 : xs_kV RX7 69 M_X7_overlapAt := ⟨wt_4 (List.mem_of_getElem? (i := 24) rfl) rfl, wt_4 (List.mem_of_getElem? (i := 26) rfl) rfl, wt_0 (List.mem_of_getElem? (i := 29) rfl) rfl⟩
theorem k_X7_63 : xs_kV RX7 63 M_X7_has := ⟨wt_4 (List.mem_of_getElem? (i := 28) rfl) rfl, wt_4 (List.mem_of_getElem? (i := 30) rfl) rfl, wt_0 (List.mem_of_getElem? (i := 30) rfl) rfl⟩
theorem k_X7_84 : xs_kV RX7 84 M_X7_find := ⟨wt_4 (List.mem_of_getElem? (i := 32) rfl) rfl, wt_4 (List.mem_of_getElem? (i := 34) rfl) rfl, wt_0 (List.mem_of_getElem? (i := 31) rfl) rfl⟩
theorem k_X7_75 : xs_kV RX7 75 M_X7_lastFrom := ⟨wt_4 (List.mem_of_getElem? (i := 36) rfl) rfl, wt_4 (List.mem_of_getElem? (i := 38) rfl) rfl, wt_0 (List.mem_of_getElem? (i := 32) rfl) rfl⟩
theorem k_X7_67 : xs_kV RX7 67 M_X7_high := ⟨wt_4 (List.mem_of_getElem? (i := 40) rfl) rfl, wt_4 (List.mem_of_getElem? (i := 42) rfl) rfl, wt_0 (List.mem_of_getElem? (i := 33) rfl) rfl⟩
theorem k_X7_107 : xs_kV RX7 107 M_X7_hour := ⟨wt_4 (List.mem_of_getElem? (i := 44) rfl) rfl, wt_4 (List.mem_of_getElem? (i := 46) rfl) rfl, wt_0 (List.mem_of_getElem? (i := 34) rfl) rfl⟩
theorem k_X7_88 : xs_kS RX7 88 M_X7_half := ⟨wt_4 (List.mem_of_getElem? (i := 48) rfl) rfl, wt_4 (List.mem_of_getElem? (i := 49) rfl) rfl⟩
theorem k_L_40 : xs_kV RL 40 M_X7_of := ⟨wt_4 (List.mem_of_getElem? (i := 52) rfl) rfl, wt_4 (List.mem_of_getElem? (i := 53) rfl) rfl, wt_4 (List.mem_of_getElem? (i := 54) rfl) rfl⟩
theorem k_L_44 : xs_kV RL 44 M_X7_best := ⟨wt_4 (List.mem_of_getElem? (i := 56) rfl) rfl, wt_4 (List.mem_of_getElem? (i := 57) rfl) rfl, wt_4 (List.mem_of_getElem? (i := 58) rfl) rfl⟩
theorem k_X7_125 : xs_kV RX7 125 M_X7_honest := ⟨wt_4 (List.mem_of_getElem? (i := 60) rfl) rfl, wt_4 (List.mem_of_getElem? (i := 62) rfl) rfl, wt_0 (List.mem_of_getElem? (i := 35) rfl) rfl⟩
theorem k_L_48 : xs_kV RL 48 M_X7_end := ⟨wt_4 (List.mem_of_getElem? (i := 64) rfl) rfl, wt_4 (List.mem_of_getElem? (i := 65) rfl) rfl, wt_4 (List.mem_of_getElem? (i := 66) rfl) rfl⟩
theorem k_X7_131 : xs_kV RX7 131 M_X7_ahead := ⟨wt_4 (List.mem_of_getElem? (i := 68) rfl) rfl, wt_4 (List.mem_of_getElem? (i := 70) rfl) rfl, wt_0 (List.mem_of_getElem? (i := 36) rfl) rfl⟩
theorem k_X7_128 : xs_kV RX7 128 M_X7_timeOf := ⟨wt_4 (List.mem_of_getElem? (i := 72) rfl) rfl, wt_4 (List.mem_of_getElem? (i := 74) rfl) rfl, wt_0 (List.mem_of_getElem? (i := 37) rfl) rfl⟩
theorem k_L_52 : xs_kV RL 52 M_X7_overlap := ⟨wt_4 (List.mem_of_getElem? (i := 76) rfl) rfl, wt_4 (List.mem_of_getElem? (i := 77) rfl) rfl, wt_4 (List.mem_of_getElem? (i := 78) rfl) rfl⟩
theorem k_L_56 : xs_kV RL 56 M_X7_count := ⟨wt_4 (List.mem_of_getElem? (i := 82) rfl) rfl, wt_4 (List.mem_of_getElem? (i := 83) rfl) rfl, wt_4 (List.mem_of_getElem? (i := 84) rfl) rfl⟩
theorem k_X7_136 : xs_kV RX7 136 M_X7_struck := ⟨wt_4 (List.mem_of_getElem? (i := 86) rfl) rfl, wt_4 (List.mem_of_getElem? (i := 88) rfl) rfl, wt_0 (List.mem_of_getElem? (i := 38) rfl) rfl⟩
theorem k_L_61 : xs_kV RL 61 M_X7_mean := ⟨wt_4 (List.mem_of_getElem? (i := 90) rfl) rfl, wt_4 (List.mem_of_getElem? (i := 91) rfl) rfl, wt_4 (List.mem_of_getElem? (i := 92) rfl) rfl⟩
theorem k_X7_144 : xs_kS RX7 144 M_Jxe99ae_doubleToLongBits_ccdee := ⟨wt_4 (List.mem_of_getElem? (i := 95) rfl) rfl, wt_4 (List.mem_of_getElem? (i := 96) rfl) rfl⟩
theorem k_Jxe99ae_122 : xs_kS RJxe99ae 122 M_Jxe99ae_isNaN_b9ae7 := ⟨wt_4 (List.mem_of_getElem? (i := 98) rfl) rfl, wt_4 (List.mem_of_getElem? (i := 99) rfl) rfl⟩
theorem k_L_65 : xs_kV RL 65 M_X7_share := ⟨wt_4 (List.mem_of_getElem? (i := 105) rfl) rfl, wt_4 (List.mem_of_getElem? (i := 106) rfl) rfl, wt_4 (List.mem_of_getElem? (i := 107) rfl) rfl⟩
theorem k_X7_150 : xs_kS RX7 150 M_X7_size := ⟨wt_4 (List.mem_of_getElem? (i := 109) rfl) rfl, wt_4 (List.mem_of_getElem? (i := 110) rfl) rfl⟩
theorem k_X7_153 : xs_kS RX7 153 M_Jxf58ca_floatToIntBits_5c35a := ⟨wt_4 (List.mem_of_getElem? (i := 112) rfl) rfl, wt_4 (List.mem_of_getElem? (i := 113) rfl) rfl⟩
theorem k_Jxf58ca_59 : xs_kS RJxf58ca 59 M_Jxf58ca_isNaN_12338 := ⟨wt_4 (List.mem_of_getElem? (i := 115) rfl) rfl, wt_4 (List.mem_of_getElem? (i := 116) rfl) rfl⟩
theorem k_L_69 : xs_kV RL 69 M_X7_allowing := ⟨wt_4 (List.mem_of_getElem? (i := 122) rfl) rfl, wt_4 (List.mem_of_getElem? (i := 123) rfl) rfl, wt_4 (List.mem_of_getElem? (i := 124) rfl) rfl⟩
theorem k_L_73 : xs_kV RL 73 M_X7_fewest := ⟨wt_4 (List.mem_of_getElem? (i := 126) rfl) rfl, wt_4 (List.mem_of_getElem? (i := 127) rfl) rfl, wt_4 (List.mem_of_getElem? (i := 128) rfl) rfl⟩
theorem k_L_77 : xs_kV RL 77 M_X7_widerIn := ⟨wt_4 (List.mem_of_getElem? (i := 130) rfl) rfl, wt_4 (List.mem_of_getElem? (i := 131) rfl) rfl, wt_4 (List.mem_of_getElem? (i := 132) rfl) rfl⟩
theorem k_L_81 : xs_kV RL 81 M_X7_without := ⟨wt_4 (List.mem_of_getElem? (i := 134) rfl) rfl, wt_4 (List.mem_of_getElem? (i := 135) rfl) rfl, wt_4 (List.mem_of_getElem? (i := 136) rfl) rfl⟩
theorem k_L_88 : xs_kV RL 88 M_X7_put := ⟨wt_4 (List.mem_of_getElem? (i := 138) rfl) rfl, wt_4 (List.mem_of_getElem? (i := 139) rfl) rfl, wt_4 (List.mem_of_getElem? (i := 140) rfl) rfl⟩
theorem k_L_92 : xs_kV RL 92 M_X7_wipe := ⟨wt_4 (List.mem_of_getElem? (i := 143) rfl) rfl, wt_4 (List.mem_of_getElem? (i := 144) rfl) rfl, wt_4 (List.mem_of_getElem? (i := 145) rfl) rfl⟩
theorem k_L_96 : xs_kV RL 96 M_X7_fault := ⟨wt_4 (List.mem_of_getElem? (i := 147) rfl) rfl, wt_4 (List.mem_of_getElem? (i := 148) rfl) rfl, wt_4 (List.mem_of_getElem? (i := 149) rfl) rfl⟩
theorem k_X7_177 : xs_kV RX7 177 M_X7_isWell := ⟨wt_4 (List.mem_of_getElem? (i := 151) rfl) rfl, wt_4 (List.mem_of_getElem? (i := 153) rfl) rfl, wt_0 (List.mem_of_getElem? (i := 39) rfl) rfl⟩
theorem k_X7_173 : xs_kV RX7 173 M_X7_order := ⟨wt_4 (List.mem_of_getElem? (i := 155) rfl) rfl, wt_4 (List.mem_of_getElem? (i := 157) rfl) rfl, wt_0 (List.mem_of_getElem? (i := 40) rfl) rfl⟩
theorem k_X7_167 : xs_kV RX7 167 M_X7_number := ⟨wt_4 (List.mem_of_getElem? (i := 159) rfl) rfl, wt_4 (List.mem_of_getElem? (i := 161) rfl) rfl, wt_0 (List.mem_of_getElem? (i := 41) rfl) rfl⟩
theorem k_X7_164 : xs_kV RX7 164 M_X7_sees := ⟨wt_4 (List.mem_of_getElem? (i := 163) rfl) rfl, wt_4 (List.mem_of_getElem? (i := 165) rfl) rfl, wt_0 (List.mem_of_getElem? (i := 42) rfl) rfl⟩
theorem k_X7_170 : xs_kV RX7 170 M_X7_takes := ⟨wt_4 (List.mem_of_getElem? (i := 167) rfl) rfl, wt_4 (List.mem_of_getElem? (i := 169) rfl) rfl, wt_0 (List.mem_of_getElem? (i := 43) rfl) rfl⟩
theorem k_L_100 : xs_kV RL 100 M_X7_carryOut := ⟨wt_4 (List.mem_of_getElem? (i := 171) rfl) rfl, wt_4 (List.mem_of_getElem? (i := 172) rfl) rfl, wt_4 (List.mem_of_getElem? (i := 173) rfl) rfl⟩
