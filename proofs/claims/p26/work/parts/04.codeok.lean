theorem ok_X0_ofDouble : xs_MOK M_X0_ofDouble := ⟨by decide +kernel, wt_2 (List.mem_of_getElem? (i := 199) rfl) rfl, by decide +kernel, wt_1 (List.mem_of_getElem? (i := 9) rfl) rfl⟩
theorem ok_X0_ofFloat : xs_MOK M_X0_ofFloat := ⟨by decide +kernel, wt_2 (List.mem_of_getElem? (i := 196) rfl) rfl, by decide +kernel, wt_1 (List.mem_of_getElem? (i := 9) rfl) rfl⟩
theorem ok_X1_init : xs_MOK M_X1_init := ⟨by decide +kernel, wt_1 (List.mem_of_getElem? (i := 22) rfl) rfl, by decide +kernel, wt_1 (List.mem_of_getElem? (i := 2) rfl) rfl⟩
theorem ok_X1_copy : xs_MOK M_X1_copy := ⟨by decide +kernel, wt_1 (List.mem_of_getElem? (i := 178) rfl) rfl, by decide +kernel, wt_1 (List.mem_of_getElem? (i := 2) rfl) rfl⟩
theorem ok_X1_now : xs_MOK M_X1_now := ⟨by decide +kernel, wt_2 (List.mem_of_getElem? (i := 27) rfl) rfl, by decide +kernel, wt_1 (List.mem_of_getElem? (i := 2) rfl) rfl⟩
theorem ok_X1_hasDial : xs_MOK M_X1_hasDial := ⟨by decide +kernel, wt_1 (List.mem_of_getElem? (i := 204) rfl) rfl, by decide +kernel, wt_1 (List.mem_of_getElem? (i := 2) rfl) rfl⟩
theorem ok_X1_hasReading : xs_MOK M_X1_hasReading := ⟨by decide +kernel, wt_1 (List.mem_of_getElem? (i := 212) rfl) rfl, by decide +kernel, wt_1 (List.mem_of_getElem? (i := 2) rfl) rfl⟩
theorem ok_X1_isStruck : xs_MOK M_X1_isStruck := ⟨by decide +kernel, wt_1 (List.mem_of_getElem? (i := 208) rfl) rfl, by decide +kernel, wt_1 (List.mem_of_getElem? (i := 2) rfl) rfl⟩
theorem ok_X1_dialsWithSpans : xs_MOK M_X1_dialsWithSpans := ⟨by decide +kernel, wt_2 (List.mem_of_getElem? (i := 2) rfl) rfl, by decide +kernel, wt_1 (List.mem_of_getElem? (i := 2) rfl) rfl⟩
theorem ok_X1_hasSpan : xs_MOK M_X1_hasSpan := ⟨by decide +kernel, wt_1 (List.mem_of_getElem? (i := 238) rfl) rfl, by decide +kernel, wt_1 (List.mem_of_getElem? (i := 2) rfl) rfl⟩
theorem ok_X1_lowEnd : xs_MOK M_X1_lowEnd := ⟨by decide +kernel, wt_2 (List.mem_of_getElem? (i := 6) rfl) rfl, by decide +kernel, wt_1 (List.mem_of_getElem? (i := 2) rfl) rfl⟩
theorem ok_X1_highEnd : xs_MOK M_X1_highEnd := ⟨by decide +kernel, wt_2 (List.mem_of_getElem? (i := 15) rfl) rfl, by decide +kernel, wt_1 (List.mem_of_getElem? (i := 2) rfl) rfl⟩
theorem ok_X1_ageAt : xs_MOK M_X1_ageAt := ⟨by decide +kernel, wt_1 (List.mem_of_getElem? (i := 216) rfl) rfl, by decide +kernel, wt_1 (List.mem_of_getElem? (i := 2) rfl) rfl⟩
theorem ok_X1_reach : xs_MOK M_X1_reach := ⟨by decide +kernel, wt_2 (List.mem_of_getElem? (i := 10) rfl) rfl, by decide +kernel, wt_1 (List.mem_of_getElem? (i := 2) rfl) rfl⟩
theorem ok_X1_changeSetting : xs_MOK M_X1_changeSetting := ⟨by decide +kernel, wt_1 (List.mem_of_getElem? (i := 185) rfl) rfl, by decide +kernel, wt_1 (List.mem_of_getElem? (i := 2) rfl) rfl⟩
theorem ok_X1_addDial : xs_MOK M_X1_addDial := ⟨by decide +kernel, wt_2 (List.mem_of_getElem? (i := 238) rfl) rfl, by decide +kernel, wt_1 (List.mem_of_getElem? (i := 2) rfl) rfl⟩
theorem ok_X1_takeReading : xs_MOK M_X1_takeReading := ⟨by decide +kernel, wt_1 (List.mem_of_getElem? (i := 200) rfl) rfl, by decide +kernel, wt_1 (List.mem_of_getElem? (i := 2) rfl) rfl⟩
theorem ok_X1_letPass : xs_MOK M_X1_letPass := ⟨by decide +kernel, wt_1 (List.mem_of_getElem? (i := 224) rfl) rfl, by decide +kernel, wt_1 (List.mem_of_getElem? (i := 2) rfl) rfl⟩
theorem ok_X1_judge : xs_MOK M_X1_judge := ⟨by decide +kernel, wt_3 (List.mem_of_getElem? (i := 13) rfl) rfl, by decide +kernel, wt_1 (List.mem_of_getElem? (i := 2) rfl) rfl⟩
theorem ok_X1_countLie : xs_MOK M_X1_countLie := ⟨by decide +kernel, wt_3 (List.mem_of_getElem? (i := 17) rfl) rfl, by decide +kernel, wt_1 (List.mem_of_getElem? (i := 2) rfl) rfl⟩
theorem ok_X1_about : xs_MOK M_X1_about := ⟨by decide +kernel, wt_1 (List.mem_of_getElem? (i := 234) rfl) rfl, by decide +kernel, wt_1 (List.mem_of_getElem? (i := 2) rfl) rfl⟩
theorem ok_X1_number : xs_MOK M_X1_number := ⟨by decide +kernel, wt_2 (List.mem_of_getElem? (i := 106) rfl) rfl, by decide +kernel, wt_1 (List.mem_of_getElem? (i := 2) rfl) rfl⟩
theorem ok_X2_init : xs_MOK M_X2_init := ⟨by decide +kernel, wt_1 (List.mem_of_getElem? (i := 88) rfl) rfl, by decide +kernel, wt_1 (List.mem_of_getElem? (i := 4) rfl) rfl⟩
theorem ok_X2_size : xs_MOK M_X2_size := ⟨by decide +kernel, wt_2 (List.mem_of_getElem? (i := 102) rfl) rfl, by decide +kernel, wt_1 (List.mem_of_getElem? (i := 4) rfl) rfl⟩
theorem ok_X2_placeOf : xs_MOK M_X2_placeOf := ⟨by decide +kernel, wt_1 (List.mem_of_getElem? (i := 172) rfl) rfl, by decide +kernel, wt_1 (List.mem_of_getElem? (i := 4) rfl) rfl⟩
theorem ok_X2_draft : xs_MOK M_X2_draft := ⟨by decide +kernel, wt_1 (List.mem_of_getElem? (i := 168) rfl) rfl, by decide +kernel, wt_1 (List.mem_of_getElem? (i := 4) rfl) rfl⟩
theorem ok_X2_keep : xs_MOK M_X2_keep := ⟨by decide +kernel, wt_1 (List.mem_of_getElem? (i := 189) rfl) rfl, by decide +kernel, wt_1 (List.mem_of_getElem? (i := 4) rfl) rfl⟩
theorem ok_X3_init : xs_MOK M_X3_init := ⟨by decide +kernel, wt_1 (List.mem_of_getElem? (i := 123) rfl) rfl, by decide +kernel, wt_1 (List.mem_of_getElem? (i := 6) rfl) rfl⟩
theorem ok_X3_length : xs_MOK M_X3_length := ⟨by decide +kernel, wt_2 (List.mem_of_getElem? (i := 98) rfl) rfl, by decide +kernel, wt_1 (List.mem_of_getElem? (i := 6) rfl) rfl⟩
theorem ok_X4_init : xs_MOK M_X4_init := ⟨by decide +kernel, wt_1 (List.mem_of_getElem? (i := 107) rfl) rfl, by decide +kernel, wt_1 (List.mem_of_getElem? (i := 5) rfl) rfl⟩
theorem ok_X5_init : xs_MOK M_X5_init := ⟨by decide +kernel, wt_1 (List.mem_of_getElem? (i := 69) rfl) rfl, by decide +kernel, wt_1 (List.mem_of_getElem? (i := 3) rfl) rfl⟩
theorem ok_X5_gather : xs_MOK M_X5_gather := ⟨by decide +kernel, wt_2 (List.mem_of_getElem? (i := 31) rfl) rfl, by decide +kernel, wt_1 (List.mem_of_getElem? (i := 3) rfl) rfl⟩
theorem ok_X5_size : xs_MOK M_X5_size := ⟨by decide +kernel, wt_2 (List.mem_of_getElem? (i := 114) rfl) rfl, by decide +kernel, wt_1 (List.mem_of_getElem? (i := 3) rfl) rfl⟩
theorem ok_X5_isEmpty : xs_MOK M_X5_isEmpty := ⟨by decide +kernel, wt_2 (List.mem_of_getElem? (i := 38) rfl) rfl, by decide +kernel, wt_1 (List.mem_of_getElem? (i := 3) rfl) rfl⟩
theorem ok_X5_has : xs_MOK M_X5_has := ⟨by decide +kernel, wt_2 (List.mem_of_getElem? (i := 50) rfl) rfl, by decide +kernel, wt_1 (List.mem_of_getElem? (i := 3) rfl) rfl⟩
theorem ok_X5_howManyAt : xs_MOK M_X5_howManyAt := ⟨by decide +kernel, wt_2 (List.mem_of_getElem? (i := 46) rfl) rfl, by decide +kernel, wt_1 (List.mem_of_getElem? (i := 3) rfl) rfl⟩
theorem ok_X5_dialsAt : xs_MOK M_X5_dialsAt := ⟨by decide +kernel, wt_2 (List.mem_of_getElem? (i := 83) rfl) rfl, by decide +kernel, wt_1 (List.mem_of_getElem? (i := 3) rfl) rfl⟩
theorem ok_X5_most : xs_MOK M_X5_most := ⟨by decide +kernel, wt_2 (List.mem_of_getElem? (i := 42) rfl) rfl, by decide +kernel, wt_1 (List.mem_of_getElem? (i := 3) rfl) rfl⟩
theorem ok_X5_firstTimeOf : xs_MOK M_X5_firstTimeOf := ⟨by decide +kernel, wt_2 (List.mem_of_getElem? (i := 62) rfl) rfl, by decide +kernel, wt_1 (List.mem_of_getElem? (i := 3) rfl) rfl⟩
theorem ok_X5_lastTimeOf : xs_MOK M_X5_lastTimeOf := ⟨by decide +kernel, wt_2 (List.mem_of_getElem? (i := 72) rfl) rfl, by decide +kernel, wt_1 (List.mem_of_getElem? (i := 3) rfl) rfl⟩
theorem ok_X5_bestLow : xs_MOK M_X5_bestLow := ⟨by decide +kernel, wt_2 (List.mem_of_getElem? (i := 57) rfl) rfl, by decide +kernel, wt_1 (List.mem_of_getElem? (i := 3) rfl) rfl⟩
theorem ok_X5_bestHigh : xs_MOK M_X5_bestHigh := ⟨by decide +kernel, wt_2 (List.mem_of_getElem? (i := 68) rfl) rfl, by decide +kernel, wt_1 (List.mem_of_getElem? (i := 3) rfl) rfl⟩
theorem ok_X5_hour : xs_MOK M_X5_hour := ⟨by decide +kernel, wt_2 (List.mem_of_getElem? (i := 76) rfl) rfl, by decide +kernel, wt_1 (List.mem_of_getElem? (i := 3) rfl) rfl⟩
theorem ok_X5_ends : xs_MOK M_X5_ends := ⟨by decide +kernel, wt_2 (List.mem_of_getElem? (i := 152) rfl) rfl, by decide +kernel, wt_1 (List.mem_of_getElem? (i := 3) rfl) rfl⟩
theorem ok_X5_endKey : xs_MOK M_X5_endKey := ⟨by decide +kernel, wt_2 (List.mem_of_getElem? (i := 156) rfl) rfl, by decide +kernel, wt_1 (List.mem_of_getElem? (i := 3) rfl) rfl⟩
theorem ok_X5_keysBelow : xs_MOK M_X5_keysBelow := ⟨by decide +kernel, wt_2 (List.mem_of_getElem? (i := 168) rfl) rfl, by decide +kernel, wt_1 (List.mem_of_getElem? (i := 3) rfl) rfl⟩
theorem ok_X5_keyAt : xs_MOK M_X5_keyAt := ⟨by decide +kernel, wt_2 (List.mem_of_getElem? (i := 161) rfl) rfl, by decide +kernel, wt_1 (List.mem_of_getElem? (i := 3) rfl) rfl⟩
theorem ok_X5_keyOf : xs_MOK M_X5_keyOf := ⟨by decide +kernel, wt_2 (List.mem_of_getElem? (i := 164) rfl) rfl, by decide +kernel, wt_1 (List.mem_of_getElem? (i := 3) rfl) rfl⟩
theorem ok_X5_timeOfKey : xs_MOK M_X5_timeOfKey := ⟨by decide +kernel, wt_2 (List.mem_of_getElem? (i := 171) rfl) rfl, by decide +kernel, wt_1 (List.mem_of_getElem? (i := 3) rfl) rfl⟩
theorem ok_X5_sideOfKey : xs_MOK M_X5_sideOfKey := ⟨by decide +kernel, wt_2 (List.mem_of_getElem? (i := 178) rfl) rfl, by decide +kernel, wt_1 (List.mem_of_getElem? (i := 3) rfl) rfl⟩
theorem ok_X5_dialOfKey : xs_MOK M_X5_dialOfKey := ⟨by decide +kernel, wt_2 (List.mem_of_getElem? (i := 174) rfl) rfl, by decide +kernel, wt_1 (List.mem_of_getElem? (i := 3) rfl) rfl⟩
theorem ok_X5_weightedMean : xs_MOK M_X5_weightedMean := ⟨by decide +kernel, wt_2 (List.mem_of_getElem? (i := 212) rfl) rfl, by decide +kernel, wt_1 (List.mem_of_getElem? (i := 3) rfl) rfl⟩
theorem ok_X5_honestShare : xs_MOK M_X5_honestShare := ⟨by decide +kernel, wt_2 (List.mem_of_getElem? (i := 193) rfl) rfl, by decide +kernel, wt_1 (List.mem_of_getElem? (i := 3) rfl) rfl⟩
theorem ok_X6_init : xs_MOK M_X6_init := ⟨by decide +kernel, wt_1 (List.mem_of_getElem? (i := 14) rfl) rfl, by decide +kernel, wt_1 (List.mem_of_getElem? (i := 1) rfl) rfl⟩
theorem ok_X6_set : xs_MOK M_X6_set := ⟨by decide +kernel, wt_1 (List.mem_of_getElem? (i := 164) rfl) rfl, by decide +kernel, wt_1 (List.mem_of_getElem? (i := 1) rfl) rfl⟩
theorem ok_X6_dial : xs_MOK M_X6_dial := ⟨by decide +kernel, wt_2 (List.mem_of_getElem? (i := 234) rfl) rfl, by decide +kernel, wt_1 (List.mem_of_getElem? (i := 1) rfl) rfl⟩
theorem ok_X6_read : xs_MOK M_X6_read := ⟨by decide +kernel, wt_1 (List.mem_of_getElem? (i := 196) rfl) rfl, by decide +kernel, wt_1 (List.mem_of_getElem? (i := 1) rfl) rfl⟩
theorem ok_X6_pass : xs_MOK M_X6_pass := ⟨by decide +kernel, wt_1 (List.mem_of_getElem? (i := 220) rfl) rfl, by decide +kernel, wt_1 (List.mem_of_getElem? (i := 1) rfl) rfl⟩
theorem ok_X6_agree : xs_MOK M_X6_agree := ⟨by decide +kernel, wt_3 (List.mem_of_getElem? (i := 5) rfl) rfl, by decide +kernel, wt_1 (List.mem_of_getElem? (i := 1) rfl) rfl⟩
theorem ok_X6_findHour : xs_MOK M_X6_findHour := ⟨by decide +kernel, wt_3 (List.mem_of_getElem? (i := 9) rfl) rfl, by decide +kernel, wt_1 (List.mem_of_getElem? (i := 1) rfl) rfl⟩
theorem ok_X6_gatherNow : xs_MOK M_X6_gatherNow := ⟨by decide +kernel, wt_2 (List.mem_of_getElem? (i := 23) rfl) rfl, by decide +kernel, wt_1 (List.mem_of_getElem? (i := 1) rfl) rfl⟩
theorem ok_X6_isError : xs_MOK M_X6_isError := ⟨by decide +kernel, wt_1 (List.mem_of_getElem? (i := 192) rfl) rfl, by decide +kernel, wt_1 (List.mem_of_getElem? (i := 1) rfl) rfl⟩
theorem ok_X6_of : xs_MOK M_X6_of := ⟨by decide +kernel, wt_1 (List.mem_of_getElem? (i := 229) rfl) rfl, by decide +kernel, wt_1 (List.mem_of_getElem? (i := 1) rfl) rfl⟩
theorem ok_X6_best : xs_MOK M_X6_best := ⟨by decide +kernel, wt_2 (List.mem_of_getElem? (i := 19) rfl) rfl, by decide +kernel, wt_1 (List.mem_of_getElem? (i := 1) rfl) rfl⟩
theorem ok_X6_end : xs_MOK M_X6_end := ⟨by decide +kernel, wt_2 (List.mem_of_getElem? (i := 148) rfl) rfl, by decide +kernel, wt_1 (List.mem_of_getElem? (i := 1) rfl) rfl⟩
theorem ok_X6_overlap : xs_MOK M_X6_overlap := ⟨by decide +kernel, wt_2 (List.mem_of_getElem? (i := 87) rfl) rfl, by decide +kernel, wt_1 (List.mem_of_getElem? (i := 1) rfl) rfl⟩
theorem ok_X6_count : xs_MOK M_X6_count := ⟨by decide +kernel, wt_2 (List.mem_of_getElem? (i := 94) rfl) rfl, by decide +kernel, wt_1 (List.mem_of_getElem? (i := 1) rfl) rfl⟩
theorem ok_X6_mean : xs_MOK M_X6_mean := ⟨by decide +kernel, wt_2 (List.mem_of_getElem? (i := 208) rfl) rfl, by decide +kernel, wt_1 (List.mem_of_getElem? (i := 1) rfl) rfl⟩
theorem ok_X6_share : xs_MOK M_X6_share := ⟨by decide +kernel, wt_2 (List.mem_of_getElem? (i := 189) rfl) rfl, by decide +kernel, wt_1 (List.mem_of_getElem? (i := 1) rfl) rfl⟩
theorem ok_X6_allowing : xs_MOK M_X6_allowing := ⟨by decide +kernel, wt_2 (List.mem_of_getElem? (i := 110) rfl) rfl, by decide +kernel, wt_1 (List.mem_of_getElem? (i := 1) rfl) rfl⟩
theorem ok_X6_fewest : xs_MOK M_X6_fewest := ⟨by decide +kernel, wt_2 (List.mem_of_getElem? (i := 185) rfl) rfl, by decide +kernel, wt_1 (List.mem_of_getElem? (i := 1) rfl) rfl⟩
theorem ok_X6_widerIn : xs_MOK M_X6_widerIn := ⟨by decide +kernel, wt_2 (List.mem_of_getElem? (i := 122) rfl) rfl, by decide +kernel, wt_1 (List.mem_of_getElem? (i := 1) rfl) rfl⟩
theorem ok_X6_hoursTooEarly : xs_MOK M_X6_hoursTooEarly := ⟨by decide +kernel, wt_2 (List.mem_of_getElem? (i := 126) rfl) rfl, by decide +kernel, wt_1 (List.mem_of_getElem? (i := 1) rfl) rfl⟩
theorem ok_X6_without : xs_MOK M_X6_without := ⟨by decide +kernel, wt_2 (List.mem_of_getElem? (i := 130) rfl) rfl, by decide +kernel, wt_1 (List.mem_of_getElem? (i := 1) rfl) rfl⟩
theorem ok_J9_floorDiv_7cf53 : xs_MOK M_J9_floorDiv_7cf53 := ⟨by decide +kernel, wt_2 (List.mem_of_getElem? (i := 79) rfl) rfl, by decide +kernel, wt_1 (List.mem_of_getElem? (i := 7) rfl) rfl⟩
theorem ok_J9_floorMod_7cf53 : xs_MOK M_J9_floorMod_7cf53 := ⟨by decide +kernel, wt_1 (List.mem_of_getElem? (i := 175) rfl) rfl, by decide +kernel, wt_1 (List.mem_of_getElem? (i := 7) rfl) rfl⟩
theorem ok_L_cell : xs_MOK M_L_cell := ⟨by decide +kernel, wt_2 (List.mem_of_getElem? (i := 133) rfl) rfl, by decide +kernel, wt_1 (List.mem_of_getElem? (i := 0) rfl) rfl⟩
theorem ok_L_low : xs_MOK M_L_low := ⟨by decide +kernel, wt_2 (List.mem_of_getElem? (i := 229) rfl) rfl, by decide +kernel, wt_1 (List.mem_of_getElem? (i := 0) rfl) rfl⟩
theorem ok_L_size : xs_MOK M_L_size := ⟨by decide +kernel, wt_2 (List.mem_of_getElem? (i := 144) rfl) rfl, by decide +kernel, wt_1 (List.mem_of_getElem? (i := 0) rfl) rfl⟩
theorem ok_L_has : xs_MOK M_L_has := ⟨by decide +kernel, wt_2 (List.mem_of_getElem? (i := 220) rfl) rfl, by decide +kernel, wt_1 (List.mem_of_getElem? (i := 0) rfl) rfl⟩
theorem ok_L_overlap : xs_MOK M_L_overlap := ⟨by decide +kernel, wt_2 (List.mem_of_getElem? (i := 223) rfl) rfl, by decide +kernel, wt_1 (List.mem_of_getElem? (i := 0) rfl) rfl⟩
theorem ok_L_ends : xs_MOK M_L_ends := ⟨by decide +kernel, wt_2 (List.mem_of_getElem? (i := 217) rfl) rfl, by decide +kernel, wt_1 (List.mem_of_getElem? (i := 0) rfl) rfl⟩
theorem ok_L_spans : xs_MOK M_L_spans := ⟨by decide +kernel, wt_2 (List.mem_of_getElem? (i := 137) rfl) rfl, by decide +kernel, wt_1 (List.mem_of_getElem? (i := 0) rfl) rfl⟩
theorem ok_L_inOrder : xs_MOK M_L_inOrder := ⟨by decide +kernel, wt_2 (List.mem_of_getElem? (i := 141) rfl) rfl, by decide +kernel, wt_1 (List.mem_of_getElem? (i := 0) rfl) rfl⟩
theorem ok_L_best : xs_MOK M_L_best := ⟨by decide +kernel, wt_2 (List.mem_of_getElem? (i := 181) rfl) rfl, by decide +kernel, wt_1 (List.mem_of_getElem? (i := 0) rfl) rfl⟩
theorem ok_L_agrees : xs_MOK M_L_agrees := ⟨by decide +kernel, wt_3 (List.mem_of_getElem? (i := 1) rfl) rfl, by decide +kernel, wt_1 (List.mem_of_getElem? (i := 0) rfl) rfl⟩
theorem ok_L_act : xs_MOK M_L_act := ⟨by decide +kernel, wt_2 (List.mem_of_getElem? (i := 226) rfl) rfl, by decide +kernel, wt_1 (List.mem_of_getElem? (i := 0) rfl) rfl⟩
theorem k_L_78 : xs_kV RL 78 M_X6_set := ⟨wt_1 (List.mem_of_getElem? (i := 161) rfl) rfl, wt_1 (List.mem_of_getElem? (i := 162) rfl) rfl, wt_1 (List.mem_of_getElem? (i := 163) rfl) rfl⟩
theorem k_X6_44 : xs_kV RX6 44 M_X2_draft := ⟨wt_1 (List.mem_of_getElem? (i := 165) rfl) rfl, wt_1 (List.mem_of_getElem? (i := 166) rfl) rfl, wt_1 (List.mem_of_getElem? (i := 167) rfl) rfl⟩
theorem k_X2_31 : xs_kV RX2 31 M_X2_placeOf := ⟨wt_1 (List.mem_of_getElem? (i := 169) rfl) rfl, wt_1 (List.mem_of_getElem? (i := 171) rfl) rfl, wt_0 (List.mem_of_getElem? (i := 0) rfl) rfl⟩
theorem k_X2_25 : xs_kS RX2 25 M_J9_floorMod_7cf53 := ⟨wt_1 (List.mem_of_getElem? (i := 173) rfl) rfl, wt_1 (List.mem_of_getElem? (i := 174) rfl) rfl⟩
theorem k_X2_35 : xs_kS RX2 35 M_X1_copy := ⟨wt_1 (List.mem_of_getElem? (i := 176) rfl) rfl, wt_1 (List.mem_of_getElem? (i := 177) rfl) rfl⟩
theorem k_X6_48 : xs_kV RX6 48 M_X1_changeSetting := ⟨wt_1 (List.mem_of_getElem? (i := 182) rfl) rfl, wt_1 (List.mem_of_getElem? (i := 183) rfl) rfl, wt_1 (List.mem_of_getElem? (i := 184) rfl) rfl⟩
theorem k_X6_52 : xs_kV RX6 52 M_X2_keep := ⟨wt_1 (List.mem_of_getElem? (i := 186) rfl) rfl, wt_1 (List.mem_of_getElem? (i := 187) rfl) rfl, wt_1 (List.mem_of_getElem? (i := 188) rfl) rfl⟩
theorem k_L_71 : xs_kV RL 71 M_X6_read := ⟨wt_1 (List.mem_of_getElem? (i := 193) rfl) rfl, wt_1 (List.mem_of_getElem? (i := 194) rfl) rfl, wt_1 (List.mem_of_getElem? (i := 195) rfl) rfl⟩
theorem k_X6_60 : xs_kV RX6 60 M_X1_takeReading := ⟨wt_1 (List.mem_of_getElem? (i := 197) rfl) rfl, wt_1 (List.mem_of_getElem? (i := 198) rfl) rfl, wt_1 (List.mem_of_getElem? (i := 199) rfl) rfl⟩
theorem k_X1_69 : xs_kV RX1 69 M_X1_hasDial := ⟨wt_1 (List.mem_of_getElem? (i := 201) rfl) rfl, wt_1 (List.mem_of_getElem? (i := 202) rfl) rfl, wt_1 (List.mem_of_getElem? (i := 203) rfl) rfl⟩
theorem k_X1_73 : xs_kV RX1 73 M_X1_isStruck := ⟨wt_1 (List.mem_of_getElem? (i := 205) rfl) rfl, wt_1 (List.mem_of_getElem? (i := 206) rfl) rfl, wt_1 (List.mem_of_getElem? (i := 207) rfl) rfl⟩
theorem k_X1_76 : xs_kV RX1 76 M_X1_hasReading := ⟨wt_1 (List.mem_of_getElem? (i := 209) rfl) rfl, wt_1 (List.mem_of_getElem? (i := 210) rfl) rfl, wt_1 (List.mem_of_getElem? (i := 211) rfl) rfl⟩
theorem k_X1_62 : xs_kV RX1 62 M_X1_ageAt := ⟨wt_1 (List.mem_of_getElem? (i := 213) rfl) rfl, wt_1 (List.mem_of_getElem? (i := 215) rfl) rfl, wt_0 (List.mem_of_getElem? (i := 1) rfl) rfl⟩
theorem k_L_75 : xs_kV RL 75 M_X6_pass := ⟨wt_1 (List.mem_of_getElem? (i := 217) rfl) rfl, wt_1 (List.mem_of_getElem? (i := 218) rfl) rfl, wt_1 (List.mem_of_getElem? (i := 219) rfl) rfl⟩
theorem k_X6_64 : xs_kV RX6 64 M_X1_letPass := ⟨wt_1 (List.mem_of_getElem? (i := 221) rfl) rfl, wt_1 (List.mem_of_getElem? (i := 222) rfl) rfl, wt_1 (List.mem_of_getElem? (i := 223) rfl) rfl⟩
theorem k_L_16 : xs_kV RL 16 M_X6_of := ⟨wt_1 (List.mem_of_getElem? (i := 226) rfl) rfl, wt_1 (List.mem_of_getElem? (i := 227) rfl) rfl, wt_1 (List.mem_of_getElem? (i := 228) rfl) rfl⟩
theorem k_X6_96 : xs_kV RX6 96 M_X1_hasDial := ⟨wt_1 (List.mem_of_getElem? (i := 230) rfl) rfl, wt_1 (List.mem_of_getElem? (i := 202) rfl) rfl, wt_1 (List.mem_of_getElem? (i := 203) rfl) rfl⟩
theorem k_X6_100 : xs_kV RX6 100 M_X1_about := ⟨wt_1 (List.mem_of_getElem? (i := 231) rfl) rfl, wt_1 (List.mem_of_getElem? (i := 232) rfl) rfl, wt_1 (List.mem_of_getElem? (i := 233) rfl) rfl⟩
theorem k_X1_84 : xs_kV RX1 84 M_X1_hasSpan := ⟨wt_1 (List.mem_of_getElem? (i := 235) rfl) rfl, wt_1 (List.mem_of_getElem? (i := 236) rfl) rfl, wt_1 (List.mem_of_getElem? (i := 237) rfl) rfl⟩
theorem k_X1_58 : xs_kV RX1 58 M_X1_dialsWithSpans := ⟨wt_1 (List.mem_of_getElem? (i := 239) rfl) rfl, wt_2 (List.mem_of_getElem? (i := 0) rfl) rfl, wt_2 (List.mem_of_getElem? (i := 1) rfl) rfl⟩
theorem k_X1_87 : xs_kV RX1 87 M_X1_lowEnd := ⟨wt_2 (List.mem_of_getElem? (i := 3) rfl) rfl, wt_2 (List.mem_of_getElem? (i := 4) rfl) rfl, wt_2 (List.mem_of_getElem? (i := 5) rfl) rfl⟩
theorem k_X1_66 : xs_kV RX1 66 M_X1_reach := ⟨wt_2 (List.mem_of_getElem? (i := 7) rfl) rfl, wt_2 (List.mem_of_getElem? (i := 9) rfl) rfl, wt_0 (List.mem_of_getElem? (i := 2) rfl) rfl⟩
theorem k_X1_91 : xs_kV RX1 91 M_X1_highEnd := ⟨wt_2 (List.mem_of_getElem? (i := 12) rfl) rfl, wt_2 (List.mem_of_getElem? (i := 13) rfl) rfl, wt_2 (List.mem_of_getElem? (i := 14) rfl) rfl⟩
theorem k_L_32 : xs_kV RL 32 M_X6_best := ⟨wt_2 (List.mem_of_getElem? (i := 16) rfl) rfl, wt_2 (List.mem_of_getElem? (i := 17) rfl) rfl, wt_2 (List.mem_of_getElem? (i := 18) rfl) rfl⟩
theorem k_X6_70 : xs_kV RX6 70 M_X6_gatherNow := ⟨wt_2 (List.mem_of_getElem? (i := 20) rfl) rfl, wt_2 (List.mem_of_getElem? (i := 22) rfl) rfl, wt_0 (List.mem_of_getElem? (i := 3) rfl) rfl⟩
theorem k_X6_89 : xs_kV RX6 89 M_X1_now := ⟨wt_2 (List.mem_of_getElem? (i := 24) rfl) rfl, wt_2 (List.mem_of_getElem? (i := 25) rfl) rfl, wt_2 (List.mem_of_getElem? (i := 26) rfl) rfl⟩
theorem k_X6_92 : xs_kV RX6 92 M_X5_gather := ⟨wt_2 (List.mem_of_getElem? (i := 28) rfl) rfl, wt_2 (List.mem_of_getElem? (i := 29) rfl) rfl, wt_2 (List.mem_of_getElem? (i := 30) rfl) rfl⟩
theorem k_X5_25 : xs_kV RX5 25 M_X1_hasSpan := ⟨wt_2 (List.mem_of_getElem? (i := 32) rfl) rfl, wt_1 (List.mem_of_getElem? (i := 236) rfl) rfl, wt_1 (List.mem_of_getElem? (i := 237) rfl) rfl⟩
theorem k_X5_31 : xs_kV RX5 31 M_X1_lowEnd := ⟨wt_2 (List.mem_of_getElem? (i := 33) rfl) rfl, wt_2 (List.mem_of_getElem? (i := 4) rfl) rfl, wt_2 (List.mem_of_getElem? (i := 5) rfl) rfl⟩
theorem k_X5_35 : xs_kV RX5 35 M_X1_highEnd := ⟨wt_2 (List.mem_of_getElem? (i := 34) rfl) rfl, wt_2 (List.mem_of_getElem? (i := 13) rfl) rfl, wt_2 (List.mem_of_getElem? (i := 14) rfl) rfl⟩
theorem k_X6_74 : xs_kV RX6 74 M_X5_isEmpty := ⟨wt_2 (List.mem_of_getElem? (i := 35) rfl) rfl, wt_2 (List.mem_of_getElem? (i := 36) rfl) rfl, wt_2 (List.mem_of_getElem? (i := 37) rfl) rfl⟩
theorem k_X6_103 : xs_kV RX6 103 M_X5_most := ⟨wt_2 (List.mem_of_getElem? (i := 39) rfl) rfl, wt_2 (List.mem_of_getElem? (i := 40) rfl) rfl, wt_2 (List.mem_of_getElem? (i := 41) rfl) rfl⟩
theorem k_X5_42 : xs_kV RX5 42 M_X5_howManyAt := ⟨wt_2 (List.mem_of_getElem? (i := 43) rfl) rfl, wt_2 (List.mem_of_getElem? (i := 44) rfl) rfl, wt_2 (List.mem_of_getElem? (i := 45) rfl) rfl⟩
theorem k_X5_38 : xs_kV RX5 38 M_X5_has := ⟨wt_2 (List.mem_of_getElem? (i := 47) rfl) rfl, wt_2 (List.mem_of_getElem? (i := 49) rfl) rfl, wt_0 (List.mem_of_getElem? (i := 4) rfl) rfl⟩
theorem k_X6_106 : xs_kV RX6 106 M_X5_bestLow := ⟨wt_2 (List.mem_of_getElem? (i := 54) rfl) rfl, wt_2 (List.mem_of_getElem? (i := 55) rfl) rfl, wt_2 (List.mem_of_getElem? (i := 56) rfl) rfl⟩
theorem k_X5_52 : xs_kV RX5 52 M_X5_most := ⟨wt_2 (List.mem_of_getElem? (i := 58) rfl) rfl, wt_2 (List.mem_of_getElem? (i := 40) rfl) rfl, wt_2 (List.mem_of_getElem? (i := 41) rfl) rfl⟩
theorem k_X5_56 : xs_kV RX5 56 M_X5_firstTimeOf := ⟨wt_2 (List.mem_of_getElem? (i := 59) rfl) rfl, wt_2 (List.mem_of_getElem? (i := 60) rfl) rfl, wt_2 (List.mem_of_getElem? (i := 61) rfl) rfl⟩
theorem k_X6_109 : xs_kV RX6 109 M_X5_bestHigh := ⟨wt_2 (List.mem_of_getElem? (i := 65) rfl) rfl, wt_2 (List.mem_of_getElem? (i := 66) rfl) rfl, wt_2 (List.mem_of_getElem? (i := 67) rfl) rfl⟩
theorem k_X5_59 : xs_kV RX5 59 M_X5_lastTimeOf := ⟨wt_2 (List.mem_of_getElem? (i := 69) rfl) rfl, wt_2 (List.mem_of_getElem? (i := 70) rfl) rfl, wt_2 (List.mem_of_getElem? (i := 71) rfl) rfl⟩
theorem k_X6_78 : xs_kV RX6 78 M_X5_hour := ⟨wt_2 (List.mem_of_getElem? (i := 73) rfl) rfl, wt_2 (List.mem_of_getElem? (i := 74) rfl) rfl, wt_2 (List.mem_of_getElem? (i := 75) rfl) rfl⟩
theorem k_X5_62 : xs_kS RX5 62 M_J9_floorDiv_7cf53 := ⟨wt_2 (List.mem_of_getElem? (i := 77) rfl) rfl, wt_2 (List.mem_of_getElem? (i := 78) rfl) rfl⟩
theorem k_X6_81 : xs_kV RX6 81 M_X5_dialsAt := ⟨wt_2 (List.mem_of_getElem? (i := 80) rfl) rfl, wt_2 (List.mem_of_getElem? (i := 81) rfl) rfl, wt_2 (List.mem_of_getElem? (i := 82) rfl) rfl⟩
theorem k_L_57 : xs_kV RL 57 M_X6_overlap := ⟨wt_2 (List.mem_of_getElem? (i := 84) rfl) rfl, wt_2 (List.mem_of_getElem? (i := 85) rfl) rfl, wt_2 (List.mem_of_getElem? (i := 86) rfl) rfl⟩
theorem k_X6_129 : xs_kV RX6 129 M_X5_howManyAt := ⟨wt_2 (List.mem_of_getElem? (i := 90) rfl) rfl, wt_2 (List.mem_of_getElem? (i := 44) rfl) rfl, wt_2 (List.mem_of_getElem? (i := 45) rfl) rfl⟩
theorem k_L_22 : xs_kV RL 22 M_X6_count := ⟨wt_2 (List.mem_of_getElem? (i := 91) rfl) rfl, wt_2 (List.mem_of_getElem? (i := 92) rfl) rfl, wt_2 (List.mem_of_getElem? (i := 93) rfl) rfl⟩
theorem k_X6_132 : xs_kV RX6 132 M_X3_length := ⟨wt_2 (List.mem_of_getElem? (i := 95) rfl) rfl, wt_2 (List.mem_of_getElem? (i := 96) rfl) rfl, wt_2 (List.mem_of_getElem? (i := 97) rfl) rfl⟩
theorem k_X6_135 : xs_kV RX6 135 M_X2_size := ⟨wt_2 (List.mem_of_getElem? (i := 99) rfl) rfl, wt_2 (List.mem_of_getElem? (i := 100) rfl) rfl, wt_2 (List.mem_of_getElem? (i := 101) rfl) rfl⟩
theorem k_X6_138 : xs_kV RX6 138 M_X1_number := ⟨wt_2 (List.mem_of_getElem? (i := 103) rfl) rfl, wt_2 (List.mem_of_getElem? (i := 104) rfl) rfl, wt_2 (List.mem_of_getElem? (i := 105) rfl) rfl⟩
theorem k_L_46 : xs_kV RL 46 M_X6_allowing := ⟨wt_2 (List.mem_of_getElem? (i := 107) rfl) rfl, wt_2 (List.mem_of_getElem? (i := 108) rfl) rfl, wt_2 (List.mem_of_getElem? (i := 109) rfl) rfl⟩
theorem k_X6_159 : xs_kV RX6 159 M_X5_size := ⟨wt_2 (List.mem_of_getElem? (i := 111) rfl) rfl, wt_2 (List.mem_of_getElem? (i := 112) rfl) rfl, wt_2 (List.mem_of_getElem? (i := 113) rfl) rfl⟩
theorem k_X6_165 : xs_kV RX6 165 M_X5_firstTimeOf := ⟨wt_2 (List.mem_of_getElem? (i := 116) rfl) rfl, wt_2 (List.mem_of_getElem? (i := 60) rfl) rfl, wt_2 (List.mem_of_getElem? (i := 61) rfl) rfl⟩
theorem k_X6_169 : xs_kV RX6 169 M_X5_lastTimeOf := ⟨wt_2 (List.mem_of_getElem? (i := 118) rfl) rfl, wt_2 (List.mem_of_getElem? (i := 70) rfl) rfl, wt_2 (List.mem_of_getElem? (i := 71) rfl) rfl⟩
theorem k_L_59 : xs_kV RL 59 M_X6_widerIn := ⟨wt_2 (List.mem_of_getElem? (i := 119) rfl) rfl, wt_2 (List.mem_of_getElem? (i := 120) rfl) rfl, wt_2 (List.mem_of_getElem? (i := 121) rfl) rfl⟩
theorem k_X6_172 : xs_kV RX6 172 M_X6_hoursTooEarly := ⟨wt_2 (List.mem_of_getElem? (i := 123) rfl) rfl, wt_2 (List.mem_of_getElem? (i := 125) rfl) rfl, wt_0 (List.mem_of_getElem? (i := 5) rfl) rfl⟩
theorem k_L_103 : xs_kV RL 103 M_X6_without := ⟨wt_2 (List.mem_of_getElem? (i := 127) rfl) rfl, wt_2 (List.mem_of_getElem? (i := 128) rfl) rfl, wt_2 (List.mem_of_getElem? (i := 129) rfl) rfl⟩
theorem k_L_86 : xs_kS RL 86 M_L_cell := ⟨wt_2 (List.mem_of_getElem? (i := 131) rfl) rfl, wt_2 (List.mem_of_getElem? (i := 132) rfl) rfl⟩
theorem k_L_93 : xs_kS RL 93 M_L_spans := ⟨wt_2 (List.mem_of_getElem? (i := 135) rfl) rfl, wt_2 (List.mem_of_getElem? (i := 136) rfl) rfl⟩
theorem k_L_96 : xs_kS RL 96 M_L_inOrder := ⟨wt_2 (List.mem_of_getElem? (i := 139) rfl) rfl, wt_2 (List.mem_of_getElem? (i := 140) rfl) rfl⟩
theorem k_L_26 : xs_kS RL 26 M_L_size := ⟨wt_2 (List.mem_of_getElem? (i := 142) rfl) rfl, wt_2 (List.mem_of_getElem? (i := 143) rfl) rfl⟩
theorem k_L_29 : xs_kV RL 29 M_X6_end := ⟨wt_2 (List.mem_of_getElem? (i := 145) rfl) rfl, wt_2 (List.mem_of_getElem? (i := 146) rfl) rfl, wt_2 (List.mem_of_getElem? (i := 147) rfl) rfl⟩
theorem k_X6_112 : xs_kV RX6 112 M_X5_ends := ⟨wt_2 (List.mem_of_getElem? (i := 149) rfl) rfl, wt_2 (List.mem_of_getElem? (i := 150) rfl) rfl, wt_2 (List.mem_of_getElem? (i := 151) rfl) rfl⟩
theorem k_X6_115 : xs_kV RX6 115 M_X5_endKey := ⟨wt_2 (List.mem_of_getElem? (i := 153) rfl) rfl, wt_2 (List.mem_of_getElem? (i := 154) rfl) rfl, wt_2 (List.mem_of_getElem? (i := 155) rfl) rfl⟩
theorem k_X5_65 : xs_kV RX5 65 M_X5_ends := ⟨wt_2 (List.mem_of_getElem? (i := 157) rfl) rfl, wt_2 (List.mem_of_getElem? (i := 150) rfl) rfl, wt_2 (List.mem_of_getElem? (i := 151) rfl) rfl⟩
theorem k_X5_68 : xs_kV RX5 68 M_X5_keyAt := ⟨wt_2 (List.mem_of_getElem? (i := 158) rfl) rfl, wt_2 (List.mem_of_getElem? (i := 160) rfl) rfl, wt_0 (List.mem_of_getElem? (i := 6) rfl) rfl⟩
theorem k_X5_74 : xs_kS RX5 74 M_X5_keyOf := ⟨wt_2 (List.mem_of_getElem? (i := 162) rfl) rfl, wt_2 (List.mem_of_getElem? (i := 163) rfl) rfl⟩
theorem k_X5_71 : xs_kV RX5 71 M_X5_keysBelow := ⟨wt_2 (List.mem_of_getElem? (i := 165) rfl) rfl, wt_2 (List.mem_of_getElem? (i := 167) rfl) rfl, wt_0 (List.mem_of_getElem? (i := 7) rfl) rfl⟩
theorem k_X6_118 : xs_kS RX6 118 M_X5_timeOfKey := ⟨wt_2 (List.mem_of_getElem? (i := 169) rfl) rfl, wt_2 (List.mem_of_getElem? (i := 170) rfl) rfl⟩
theorem k_X6_121 : xs_kS RX6 121 M_X5_dialOfKey := ⟨wt_2 (List.mem_of_getElem? (i := 172) rfl) rfl, wt_2 (List.mem_of_getElem? (i := 173) rfl) rfl⟩
theorem k_X5_78 : xs_kS RX5 78 M_J9_floorMod_7cf53 := ⟨wt_2 (List.mem_of_getElem? (i := 175) rfl) rfl, wt_1 (List.mem_of_getElem? (i := 174) rfl) rfl⟩
theorem k_X6_124 : xs_kS RX6 124 M_X5_sideOfKey := ⟨wt_2 (List.mem_of_getElem? (i := 176) rfl) rfl, wt_2 (List.mem_of_getElem? (i := 177) rfl) rfl⟩
theorem k_L_100 : xs_kS RL 100 M_L_best := ⟨wt_2 (List.mem_of_getElem? (i := 179) rfl) rfl, wt_2 (List.mem_of_getElem? (i := 180) rfl) rfl⟩
theorem k_L_35 : xs_kV RL 35 M_X6_fewest := ⟨wt_2 (List.mem_of_getElem? (i := 182) rfl) rfl, wt_2 (List.mem_of_getElem? (i := 183) rfl) rfl, wt_2 (List.mem_of_getElem? (i := 184) rfl) rfl⟩
theorem k_L_39 : xs_kV RL 39 M_X6_share := ⟨wt_2 (List.mem_of_getElem? (i := 186) rfl) rfl, wt_2 (List.mem_of_getElem? (i := 187) rfl) rfl, wt_2 (List.mem_of_getElem? (i := 188) rfl) rfl⟩
theorem k_X6_151 : xs_kV RX6 151 M_X5_honestShare := ⟨wt_2 (List.mem_of_getElem? (i := 190) rfl) rfl, wt_2 (List.mem_of_getElem? (i := 191) rfl) rfl, wt_2 (List.mem_of_getElem? (i := 192) rfl) rfl⟩
theorem k_X6_155 : xs_kS RX6 155 M_X0_ofFloat := ⟨wt_2 (List.mem_of_getElem? (i := 194) rfl) rfl, wt_2 (List.mem_of_getElem? (i := 195) rfl) rfl⟩
theorem k_X0_17 : xs_kS RX0 17 M_X0_ofDouble := ⟨wt_2 (List.mem_of_getElem? (i := 197) rfl) rfl, wt_2 (List.mem_of_getElem? (i := 198) rfl) rfl⟩
theorem k_L_42 : xs_kV RL 42 M_X6_mean := ⟨wt_2 (List.mem_of_getElem? (i := 205) rfl) rfl, wt_2 (List.mem_of_getElem? (i := 206) rfl) rfl, wt_2 (List.mem_of_getElem? (i := 207) rfl) rfl⟩
theorem k_X6_141 : xs_kV RX6 141 M_X5_weightedMean := ⟨wt_2 (List.mem_of_getElem? (i := 209) rfl) rfl, wt_2 (List.mem_of_getElem? (i := 210) rfl) rfl, wt_2 (List.mem_of_getElem? (i := 211) rfl) rfl⟩
theorem k_X6_145 : xs_kS RX6 145 M_X0_ofDouble := ⟨wt_2 (List.mem_of_getElem? (i := 214) rfl) rfl, wt_2 (List.mem_of_getElem? (i := 198) rfl) rfl⟩
theorem k_L_49 : xs_kS RL 49 M_L_ends := ⟨wt_2 (List.mem_of_getElem? (i := 215) rfl) rfl, wt_2 (List.mem_of_getElem? (i := 216) rfl) rfl⟩
theorem k_L_10 : xs_kS RL 10 M_L_has := ⟨wt_2 (List.mem_of_getElem? (i := 218) rfl) rfl, wt_2 (List.mem_of_getElem? (i := 219) rfl) rfl⟩
theorem k_L_53 : xs_kS RL 53 M_L_overlap := ⟨wt_2 (List.mem_of_getElem? (i := 221) rfl) rfl, wt_2 (List.mem_of_getElem? (i := 222) rfl) rfl⟩
theorem k_L_89 : xs_kS RL 89 M_L_act := ⟨wt_2 (List.mem_of_getElem? (i := 224) rfl) rfl, wt_2 (List.mem_of_getElem? (i := 225) rfl) rfl⟩
theorem k_L_65 : xs_kS RL 65 M_L_low := ⟨wt_2 (List.mem_of_getElem? (i := 227) rfl) rfl, wt_2 (List.mem_of_getElem? (i := 228) rfl) rfl⟩
theorem k_L_68 : xs_kV RL 68 M_X6_dial := ⟨wt_2 (List.mem_of_getElem? (i := 231) rfl) rfl, wt_2 (List.mem_of_getElem? (i := 232) rfl) rfl, wt_2 (List.mem_of_getElem? (i := 233) rfl) rfl⟩
theorem k_X6_56 : xs_kV RX6 56 M_X1_addDial := ⟨wt_2 (List.mem_of_getElem? (i := 235) rfl) rfl, wt_2 (List.mem_of_getElem? (i := 236) rfl) rfl, wt_2 (List.mem_of_getElem? (i := 237) rfl) rfl⟩
theorem k_L_81 : xs_kS RL 81 M_L_agrees := ⟨wt_2 (List.mem_of_getElem? (i := 239) rfl) rfl, wt_3 (List.mem_of_getElem? (i := 0) rfl) rfl⟩
theorem k_L_62 : xs_kV RL 62 M_X6_agree := ⟨wt_3 (List.mem_of_getElem? (i := 2) rfl) rfl, wt_3 (List.mem_of_getElem? (i := 3) rfl) rfl, wt_3 (List.mem_of_getElem? (i := 4) rfl) rfl⟩
theorem k_X6_67 : xs_kV RX6 67 M_X6_findHour := ⟨wt_3 (List.mem_of_getElem? (i := 6) rfl) rfl, wt_3 (List.mem_of_getElem? (i := 8) rfl) rfl, wt_0 (List.mem_of_getElem? (i := 8) rfl) rfl⟩
theorem k_X6_84 : xs_kV RX6 84 M_X1_judge := ⟨wt_3 (List.mem_of_getElem? (i := 10) rfl) rfl, wt_3 (List.mem_of_getElem? (i := 11) rfl) rfl, wt_3 (List.mem_of_getElem? (i := 12) rfl) rfl⟩
theorem k_X1_80 : xs_kV RX1 80 M_X1_countLie := ⟨wt_3 (List.mem_of_getElem? (i := 14) rfl) rfl, wt_3 (List.mem_of_getElem? (i := 16) rfl) rfl, wt_0 (List.mem_of_getElem? (i := 9) rfl) rfl⟩
