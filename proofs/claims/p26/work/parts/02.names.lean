/-! ===== BEGIN words of one list among another's, by their places ===== -/
theorem goodIn_r {big : List Cond} (ws : List Cond) (ps : List Nat) (hp : ws = ps.filterMap (fun i => big[i]?)) (h : ws.all goodWord = true) : GoodIn big ws := by
  intro w hw
  have h1 := List.all_eq_true.mp h w hw
  rw [hp] at hw
  obtain ⟨i, -, hi⟩ := List.mem_filterMap.mp hw
  have hm : w ∈ big := by first | exact List.mem_of_getElem? hi | exact List.getElem?_mem hi
  exact ⟨hm, good_of_word h1⟩
theorem goodIn_app {big a b : List Cond} (ha : GoodIn big a) (hb : GoodIn big b) : GoodIn big (a ++ b) := fun w h => (List.mem_append.mp h).elim (ha w) (hb w)
theorem goodIn_ca {big a b : List Cond} {c : Cond} (ha : GoodIn big (c :: a)) (hb : GoodIn big b) : GoodIn big (c :: (a ++ b)) := fun w h => (List.mem_cons.mp h).elim (fun e => ha w (List.mem_cons.mpr (Or.inl e))) (fun h => (List.mem_append.mp h).elim (fun h => ha w (List.mem_cons.mpr (Or.inr h))) (hb w))
theorem goodIn_sub {big ws : List Cond} (hm : ∀ w ∈ ws, w ∈ big) (h : ws.all goodWord = true) : GoodIn big ws := fun w hw => ⟨hm w hw, good_of_word (List.all_eq_true.mp h w hw)⟩
/-! ===== END ===== -/

/-! ===== BEGIN printed: names, fields, word lists, decode rows ===== -/
def RX0 : String := "SundialSpans$Bits"
def TX0 : u_T := fun k => match k with
  | _ => ("", "", "", false)
def tyX0 : Nat → FieldType := fun k => match k with
  | _ => .int
abbrev wsX00 : List Cond := u_ws RX0 TX0 0
theorem nmX0 : ∀ a, a < 0 → ∀ b, b < 0 → a ≠ b → (TX0 a).2.1 ≠ (TX0 b).2.1 := by decide +kernel
theorem tyX0_ok : ∀ k, k < 0 → parseFieldDescriptor (TX0 k).2.2.1 = some (tyX0 k) := by decide +kernel
abbrev cX0_ofDouble : ByteArray := prog_2_method_2_code
def yX0_ofDouble : MethodName := ⟨RX0, "ofDouble", "(D)J"⟩
abbrev cX0_ofFloat : ByteArray := prog_2_method_3_code
def yX0_ofFloat : MethodName := ⟨RX0, "ofFloat", "(F)I"⟩
def RX1 : String := "SundialSpans$Court"
def TX1 : u_T := fun k => match k with
  | 0 => ("SundialSpans$Court", "widen", "I", false)
  | 1 => ("SundialSpans$Court", "often", "I", false)
  | 2 => ("SundialSpans$Court", "now", "I", false)
  | 3 => ("SundialSpans$Court", "dials", "I", false)
  | 4 => ("SundialSpans$Court", "withReading", "I", false)
  | 5 => ("SundialSpans$Court", "struck", "I", false)
  | 6 => ("SundialSpans$Court", "agreed", "I", false)
  | 7 => ("SundialSpans$Court", "latestHour", "I", false)
  | 8 => ("SundialSpans$Court", "told", "[I", true)
  | 9 => ("SundialSpans$Court", "doubts", "[I", true)
  | 10 => ("SundialSpans$Court", "readAt", "[I", true)
  | 11 => ("SundialSpans$Court", "lies", "[I", true)
  | _ => ("SundialSpans$Court", "liesInRow", "[I", true)
def tyX1 : Nat → FieldType := fun k => match k with
  | 0 => .int
  | 1 => .int
  | 2 => .int
  | 3 => .int
  | 4 => .int
  | 5 => .int
  | 6 => .int
  | 7 => .int
  | 8 => .array .int
  | 9 => .array .int
  | 10 => .array .int
  | 11 => .array .int
  | _ => .array .int
abbrev wsX10 : List Cond := u_ws RX1 TX1 13
theorem nmX1 : ∀ a, a < 13 → ∀ b, b < 13 → a ≠ b → (TX1 a).2.1 ≠ (TX1 b).2.1 := by decide +kernel
theorem tyX1_ok : ∀ k, k < 13 → parseFieldDescriptor (TX1 k).2.2.1 = some (tyX1 k) := by decide +kernel
abbrev cX1_init : ByteArray := prog_3_method_1_code
def yX1_init : MethodName := ⟨RX1, "<init>", "()V"⟩
abbrev cX1_copy : ByteArray := prog_3_method_2_code
def yX1_copy : MethodName := ⟨RX1, "copy", "(LSundialSpans$Court;LSundialSpans$Court;)V"⟩
abbrev cX1_now : ByteArray := prog_3_method_3_code
def yX1_now : MethodName := ⟨RX1, "now", "()I"⟩
abbrev cX1_hasDial : ByteArray := prog_3_method_5_code
def yX1_hasDial : MethodName := ⟨RX1, "hasDial", "(I)Z"⟩
abbrev cX1_hasReading : ByteArray := prog_3_method_6_code
def yX1_hasReading : MethodName := ⟨RX1, "hasReading", "(I)Z"⟩
abbrev cX1_isStruck : ByteArray := prog_3_method_7_code
def yX1_isStruck : MethodName := ⟨RX1, "isStruck", "(I)Z"⟩
abbrev cX1_dialsWithSpans : ByteArray := prog_3_method_8_code
def yX1_dialsWithSpans : MethodName := ⟨RX1, "dialsWithSpans", "()I"⟩
abbrev cX1_hasSpan : ByteArray := prog_3_method_9_code
def yX1_hasSpan : MethodName := ⟨RX1, "hasSpan", "(I)Z"⟩
abbrev cX1_lowEnd : ByteArray := prog_3_method_10_code
def yX1_lowEnd : MethodName := ⟨RX1, "lowEnd", "(II)I"⟩
abbrev cX1_highEnd : ByteArray := prog_3_method_11_code
def yX1_highEnd : MethodName := ⟨RX1, "highEnd", "(II)I"⟩
abbrev cX1_ageAt : ByteArray := prog_3_method_12_code
def yX1_ageAt : MethodName := ⟨RX1, "ageAt", "(II)I"⟩
abbrev cX1_reach : ByteArray := prog_3_method_13_code
def yX1_reach : MethodName := ⟨RX1, "reach", "(II)I"⟩
abbrev cX1_changeSetting : ByteArray := prog_3_method_14_code
def yX1_changeSetting : MethodName := ⟨RX1, "changeSetting", "(II)I"⟩
abbrev cX1_addDial : ByteArray := prog_3_method_15_code
def yX1_addDial : MethodName := ⟨RX1, "addDial", "()I"⟩
abbrev cX1_takeReading : ByteArray := prog_3_method_16_code
def yX1_takeReading : MethodName := ⟨RX1, "takeReading", "(III)I"⟩
abbrev cX1_letPass : ByteArray := prog_3_method_17_code
def yX1_letPass : MethodName := ⟨RX1, "letPass", "(I)I"⟩
abbrev cX1_judge : ByteArray := prog_3_method_18_code
def yX1_judge : MethodName := ⟨RX1, "judge", "(II)V"⟩
abbrev cX1_countLie : ByteArray := prog_3_method_19_code
def yX1_countLie : MethodName := ⟨RX1, "countLie", "(I)V"⟩
abbrev cX1_about : ByteArray := prog_3_method_20_code
def yX1_about : MethodName := ⟨RX1, "about", "(II)I"⟩
abbrev cX1_number : ByteArray := prog_3_method_21_code
def yX1_number : MethodName := ⟨RX1, "number", "(I)I"⟩
def RX2 : String := "SundialSpans$History"
def TX2 : u_T := fun k => match k with
  | 0 => ("SundialSpans$History", "places", "[LSundialSpans$Court;", true)
  | 1 => ("SundialSpans$History", "oldest", "I", false)
  | _ => ("SundialSpans$History", "size", "I", false)
def tyX2 : Nat → FieldType := fun k => match k with
  | 0 => .array (.object "SundialSpans$Court")
  | 1 => .int
  | _ => .int
abbrev wsX20 : List Cond := u_ws RX2 TX2 3
theorem nmX2 : ∀ a, a < 3 → ∀ b, b < 3 → a ≠ b → (TX2 a).2.1 ≠ (TX2 b).2.1 := by decide +kernel
theorem tyX2_ok : ∀ k, k < 3 → parseFieldDescriptor (TX2 k).2.2.1 = some (tyX2 k) := by decide +kernel
abbrev cX2_init : ByteArray := prog_4_method_1_code
def yX2_init : MethodName := ⟨RX2, "<init>", "()V"⟩
abbrev cX2_size : ByteArray := prog_4_method_2_code
def yX2_size : MethodName := ⟨RX2, "size", "()I"⟩
abbrev cX2_placeOf : ByteArray := prog_4_method_3_code
def yX2_placeOf : MethodName := ⟨RX2, "placeOf", "(I)LSundialSpans$Court;"⟩
abbrev cX2_draft : ByteArray := prog_4_method_4_code
def yX2_draft : MethodName := ⟨RX2, "draft", "(LSundialSpans$Court;)V"⟩
abbrev cX2_keep : ByteArray := prog_4_method_5_code
def yX2_keep : MethodName := ⟨RX2, "keep", "(I)I"⟩
def RX3 : String := "SundialSpans$Pad"
def TX3 : u_T := fun k => match k with
  | 0 => ("SundialSpans$Pad", "signs", "[C", true)
  | 1 => ("SundialSpans$Pad", "length", "I", false)
  | 2 => ("SundialSpans$Pad", "at", "I", false)
  | 3 => ("SundialSpans$Pad", "kind", "C", false)
  | 4 => ("SundialSpans$Pad", "first", "I", false)
  | 5 => ("SundialSpans$Pad", "second", "I", false)
  | 6 => ("SundialSpans$Pad", "third", "I", false)
  | _ => ("SundialSpans$Pad", "number", "I", false)
def tyX3 : Nat → FieldType := fun k => match k with
  | 0 => .array .char
  | 1 => .int
  | 2 => .int
  | 3 => .char
  | 4 => .int
  | 5 => .int
  | 6 => .int
  | _ => .int
abbrev wsX30 : List Cond := u_ws RX3 TX3 8
theorem nmX3 : ∀ a, a < 8 → ∀ b, b < 8 → a ≠ b → (TX3 a).2.1 ≠ (TX3 b).2.1 := by decide +kernel
theorem tyX3_ok : ∀ k, k < 8 → parseFieldDescriptor (TX3 k).2.2.1 = some (tyX3 k) := by decide +kernel
abbrev cX3_init : ByteArray := prog_5_method_1_code
def yX3_init : MethodName := ⟨RX3, "<init>", "()V"⟩
abbrev cX3_length : ByteArray := prog_5_method_6_code
def yX3_length : MethodName := ⟨RX3, "length", "()I"⟩
def RX4 : String := "SundialSpans$Slots"
def TX4 : u_T := fun k => match k with
  | 0 => ("SundialSpans$Slots", "kept", "[LSundialSpans$Court;", true)
  | _ => ("SundialSpans$Slots", "filled", "[Z", true)
def tyX4 : Nat → FieldType := fun k => match k with
  | 0 => .array (.object "SundialSpans$Court")
  | _ => .array .boolean
abbrev wsX40 : List Cond := u_ws RX4 TX4 2
theorem nmX4 : ∀ a, a < 2 → ∀ b, b < 2 → a ≠ b → (TX4 a).2.1 ≠ (TX4 b).2.1 := by decide +kernel
theorem tyX4_ok : ∀ k, k < 2 → parseFieldDescriptor (TX4 k).2.2.1 = some (tyX4 k) := by decide +kernel
abbrev cX4_init : ByteArray := prog_6_method_1_code
def yX4_init : MethodName := ⟨RX4, "<init>", "()V"⟩
def RX5 : String := "SundialSpans$Spans"
def TX5 : u_T := fun k => match k with
  | 0 => ("SundialSpans$Spans", "lows", "[I", true)
  | 1 => ("SundialSpans$Spans", "highs", "[I", true)
  | 2 => ("SundialSpans$Spans", "owners", "[I", true)
  | _ => ("SundialSpans$Spans", "size", "I", false)
def tyX5 : Nat → FieldType := fun k => match k with
  | 0 => .array .int
  | 1 => .array .int
  | 2 => .array .int
  | _ => .int
abbrev wsX50 : List Cond := u_ws RX5 TX5 4
theorem nmX5 : ∀ a, a < 4 → ∀ b, b < 4 → a ≠ b → (TX5 a).2.1 ≠ (TX5 b).2.1 := by decide +kernel
theorem tyX5_ok : ∀ k, k < 4 → parseFieldDescriptor (TX5 k).2.2.1 = some (tyX5 k) := by decide +kernel
abbrev cX5_init : ByteArray := prog_7_method_1_code
def yX5_init : MethodName := ⟨RX5, "<init>", "()V"⟩
abbrev cX5_gather : ByteArray := prog_7_method_2_code
def yX5_gather : MethodName := ⟨RX5, "gather", "(LSundialSpans$Court;II)V"⟩
abbrev cX5_size : ByteArray := prog_7_method_3_code
def yX5_size : MethodName := ⟨RX5, "size", "()I"⟩
abbrev cX5_isEmpty : ByteArray := prog_7_method_4_code
def yX5_isEmpty : MethodName := ⟨RX5, "isEmpty", "()Z"⟩
abbrev cX5_has : ByteArray := prog_7_method_5_code
def yX5_has : MethodName := ⟨RX5, "has", "(II)Z"⟩
abbrev cX5_howManyAt : ByteArray := prog_7_method_6_code
def yX5_howManyAt : MethodName := ⟨RX5, "howManyAt", "(I)I"⟩
abbrev cX5_dialsAt : ByteArray := prog_7_method_7_code
def yX5_dialsAt : MethodName := ⟨RX5, "dialsAt", "(I)I"⟩
abbrev cX5_most : ByteArray := prog_7_method_8_code
def yX5_most : MethodName := ⟨RX5, "most", "()I"⟩
abbrev cX5_firstTimeOf : ByteArray := prog_7_method_9_code
def yX5_firstTimeOf : MethodName := ⟨RX5, "firstTimeOf", "(I)I"⟩
abbrev cX5_lastTimeOf : ByteArray := prog_7_method_10_code
def yX5_lastTimeOf : MethodName := ⟨RX5, "lastTimeOf", "(II)I"⟩
abbrev cX5_bestLow : ByteArray := prog_7_method_11_code
def yX5_bestLow : MethodName := ⟨RX5, "bestLow", "()I"⟩
abbrev cX5_bestHigh : ByteArray := prog_7_method_12_code
def yX5_bestHigh : MethodName := ⟨RX5, "bestHigh", "()I"⟩
abbrev cX5_hour : ByteArray := prog_7_method_13_code
def yX5_hour : MethodName := ⟨RX5, "hour", "()I"⟩
abbrev cX5_ends : ByteArray := prog_7_method_14_code
def yX5_ends : MethodName := ⟨RX5, "ends", "()I"⟩
abbrev cX5_endKey : ByteArray := prog_7_method_15_code
def yX5_endKey : MethodName := ⟨RX5, "endKey", "(I)I"⟩
abbrev cX5_keysBelow : ByteArray := prog_7_method_16_code
def yX5_keysBelow : MethodName := ⟨RX5, "keysBelow", "(I)I"⟩
abbrev cX5_keyAt : ByteArray := prog_7_method_17_code
def yX5_keyAt : MethodName := ⟨RX5, "keyAt", "(I)I"⟩
abbrev cX5_keyOf : ByteArray := prog_7_method_18_code
def yX5_keyOf : MethodName := ⟨RX5, "keyOf", "(III)I"⟩
abbrev cX5_timeOfKey : ByteArray := prog_7_method_19_code
def yX5_timeOfKey : MethodName := ⟨RX5, "timeOfKey", "(I)I"⟩
abbrev cX5_sideOfKey : ByteArray := prog_7_method_20_code
def yX5_sideOfKey : MethodName := ⟨RX5, "sideOfKey", "(I)I"⟩
abbrev cX5_dialOfKey : ByteArray := prog_7_method_21_code
def yX5_dialOfKey : MethodName := ⟨RX5, "dialOfKey", "(I)I"⟩
abbrev cX5_weightedMean : ByteArray := prog_7_method_22_code
def yX5_weightedMean : MethodName := ⟨RX5, "weightedMean", "()D"⟩
abbrev cX5_honestShare : ByteArray := prog_7_method_23_code
def yX5_honestShare : MethodName := ⟨RX5, "honestShare", "()F"⟩
def RX6 : String := "SundialSpans"
def TX6 : u_T := fun k => match k with
  | 0 => ("SundialSpans", "court", "LSundialSpans$Court;", true)
  | 1 => ("SundialSpans", "spans", "LSundialSpans$Spans;", true)
  | 2 => ("SundialSpans", "history", "LSundialSpans$History;", true)
  | 3 => ("SundialSpans", "slots", "LSundialSpans$Slots;", true)
  | _ => ("SundialSpans", "pad", "LSundialSpans$Pad;", true)
def tyX6 : Nat → FieldType := fun k => match k with
  | 0 => .object "SundialSpans$Court"
  | 1 => .object "SundialSpans$Spans"
  | 2 => .object "SundialSpans$History"
  | 3 => .object "SundialSpans$Slots"
  | _ => .object "SundialSpans$Pad"
abbrev wsX60 : List Cond := u_ws RX6 TX6 5
theorem nmX6 : ∀ a, a < 5 → ∀ b, b < 5 → a ≠ b → (TX6 a).2.1 ≠ (TX6 b).2.1 := by decide +kernel
theorem tyX6_ok : ∀ k, k < 5 → parseFieldDescriptor (TX6 k).2.2.1 = some (tyX6 k) := by decide +kernel
abbrev cX6_init : ByteArray := prog_1_method_1_code
def yX6_init : MethodName := ⟨RX6, "<init>", "()V"⟩
abbrev cX6_set : ByteArray := prog_1_method_2_code
def yX6_set : MethodName := ⟨RX6, "set", "(II)I"⟩
abbrev cX6_dial : ByteArray := prog_1_method_3_code
def yX6_dial : MethodName := ⟨RX6, "dial", "()I"⟩
abbrev cX6_read : ByteArray := prog_1_method_4_code
def yX6_read : MethodName := ⟨RX6, "read", "(III)I"⟩
abbrev cX6_pass : ByteArray := prog_1_method_5_code
def yX6_pass : MethodName := ⟨RX6, "pass", "(I)I"⟩
abbrev cX6_agree : ByteArray := prog_1_method_6_code
def yX6_agree : MethodName := ⟨RX6, "agree", "()I"⟩
abbrev cX6_findHour : ByteArray := prog_1_method_7_code
def yX6_findHour : MethodName := ⟨RX6, "findHour", "()I"⟩
abbrev cX6_gatherNow : ByteArray := prog_1_method_8_code
def yX6_gatherNow : MethodName := ⟨RX6, "gatherNow", "(I)V"⟩
abbrev cX6_isError : ByteArray := prog_1_method_9_code
def yX6_isError : MethodName := ⟨RX6, "isError", "(I)Z"⟩
abbrev cX6_of : ByteArray := prog_1_method_10_code
def yX6_of : MethodName := ⟨RX6, "of", "(II)I"⟩
abbrev cX6_best : ByteArray := prog_1_method_11_code
def yX6_best : MethodName := ⟨RX6, "best", "(I)I"⟩
abbrev cX6_end : ByteArray := prog_1_method_12_code
def yX6_end : MethodName := ⟨RX6, "end", "(II)I"⟩
abbrev cX6_overlap : ByteArray := prog_1_method_13_code
def yX6_overlap : MethodName := ⟨RX6, "overlap", "(I)I"⟩
abbrev cX6_count : ByteArray := prog_1_method_14_code
def yX6_count : MethodName := ⟨RX6, "count", "(I)I"⟩
abbrev cX6_mean : ByteArray := prog_1_method_15_code
def yX6_mean : MethodName := ⟨RX6, "mean", "()J"⟩
abbrev cX6_share : ByteArray := prog_1_method_16_code
def yX6_share : MethodName := ⟨RX6, "share", "()I"⟩
abbrev cX6_allowing : ByteArray := prog_1_method_17_code
def yX6_allowing : MethodName := ⟨RX6, "allowing", "(II)I"⟩
abbrev cX6_fewest : ByteArray := prog_1_method_18_code
def yX6_fewest : MethodName := ⟨RX6, "fewest", "()I"⟩
abbrev cX6_widerIn : ByteArray := prog_1_method_19_code
def yX6_widerIn : MethodName := ⟨RX6, "widerIn", "(I)I"⟩
abbrev cX6_hoursTooEarly : ByteArray := prog_1_method_20_code
def yX6_hoursTooEarly : MethodName := ⟨RX6, "hoursTooEarly", "(I)I"⟩
abbrev cX6_without : ByteArray := prog_1_method_21_code
def yX6_without : MethodName := ⟨RX6, "without", "(I)I"⟩
def RX7 : String := "SundialSpansModel"
def TX7 : u_T := fun k => match k with
  | _ => ("", "", "", false)
def tyX7 : Nat → FieldType := fun k => match k with
  | _ => .int
abbrev wsX70 : List Cond := u_ws RX7 TX7 0
theorem nmX7 : ∀ a, a < 0 → ∀ b, b < 0 → a ≠ b → (TX7 a).2.1 ≠ (TX7 b).2.1 := by decide +kernel
theorem tyX7_ok : ∀ k, k < 0 → parseFieldDescriptor (TX7 k).2.2.1 = some (tyX7 k) := by decide +kernel
def RJ9 : String := "java/lang/Math"
def TJ9 : u_T := fun k => match k with
  | _ => ("", "", "", false)
def tyJ9 : Nat → FieldType := fun k => match k with
  | _ => .int
abbrev wsJ90 : List Cond := u_ws RJ9 TJ9 0
theorem nmJ9 : ∀ a, a < 0 → ∀ b, b < 0 → a ≠ b → (TJ9 a).2.1 ≠ (TJ9 b).2.1 := by decide +kernel
theorem tyJ9_ok : ∀ k, k < 0 → parseFieldDescriptor (TJ9 k).2.2.1 = some (tyJ9 k) := by decide +kernel
abbrev cJ9_floorDiv_7cf53 : ByteArray := prog_10_method_47_code
def yJ9_floorDiv_7cf53 : MethodName := ⟨RJ9, "floorDiv", "(II)I"⟩
abbrev cJ9_floorMod_7cf53 : ByteArray := prog_10_method_50_code
def yJ9_floorMod_7cf53 : MethodName := ⟨RJ9, "floorMod", "(II)I"⟩
abbrev cJ9_max_7cf53 : ByteArray := prog_10_method_65_code
def yJ9_max_7cf53 : MethodName := ⟨RJ9, "max", "(II)I"⟩
def RJ10 : String := "java/lang/System"
def TJ10 : u_T := fun k => match k with
  | _ => ("", "", "", false)
def tyJ10 : Nat → FieldType := fun k => match k with
  | _ => .int
abbrev wsJ100 : List Cond := u_ws RJ10 TJ10 0
theorem nmJ10 : ∀ a, a < 0 → ∀ b, b < 0 → a ≠ b → (TJ10 a).2.1 ≠ (TJ10 b).2.1 := by decide +kernel
theorem tyJ10_ok : ∀ k, k < 0 → parseFieldDescriptor (TJ10 k).2.2.1 = some (tyJ10 k) := by decide +kernel
def RL : String := "SundialSpansLaw"
abbrev cL_cell : ByteArray := method_2_code
def yL_cell : MethodName := ⟨RL, "cell", "([II)I"⟩
abbrev cL_low : ByteArray := method_3_code
def yL_low : MethodName := ⟨RL, "low", "(II)I"⟩
abbrev cL_size : ByteArray := method_4_code
def yL_size : MethodName := ⟨RL, "size", "(I)I"⟩
abbrev cL_has : ByteArray := method_5_code
def yL_has : MethodName := ⟨RL, "has", "([III)Z"⟩
abbrev cL_overlap : ByteArray := method_6_code
def yL_overlap : MethodName := ⟨RL, "overlap", "([II)I"⟩
abbrev cL_ends : ByteArray := method_7_code
def yL_ends : MethodName := ⟨RL, "ends", "(LSundialSpans;I)[I"⟩
abbrev cL_spans : ByteArray := method_8_code
def yL_spans : MethodName := ⟨RL, "spans", "(LSundialSpans;[I)Z"⟩
abbrev cL_inOrder : ByteArray := method_9_code
def yL_inOrder : MethodName := ⟨RL, "inOrder", "(LSundialSpans;)Z"⟩
abbrev cL_best : ByteArray := method_10_code
def yL_best : MethodName := ⟨RL, "best", "(LSundialSpans;)Z"⟩
abbrev cL_agrees : ByteArray := method_11_code
def yL_agrees : MethodName := ⟨RL, "agrees", "(LSundialSpans;[I)Z"⟩
abbrev cL_act : ByteArray := method_12_code
def yL_act : MethodName := ⟨RL, "act", "(LSundialSpans;[III)Z"⟩
abbrev cL_law : ByteArray := code
def yL_law : MethodName := ⟨RL, "law", "([I)Z"⟩
abbrev vwCl : List vw_C := [(RX1, TX1, 13), (RX2, TX2, 3), (RX3, TX3, 8), (RX4, TX4, 2), (RX5, TX5, 4), (RX6, TX6, 5)]
