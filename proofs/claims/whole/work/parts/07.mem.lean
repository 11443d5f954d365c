theorem xs_w_acn : Jvm.Cond.native arraycopyName ∈ xw := wt_1 (List.mem_of_getElem? (i := 190) rfl) rfl
theorem xs_w_acs : Jvm.Cond.static arraycopyName ∈ xw := wt_1 (List.mem_of_getElem? (i := 189) rfl) rfl
theorem xs_w_aci : Jvm.Cond.initialized "java/lang/System" ∈ xw := wt_1 (List.mem_of_getElem? (i := 9) rfl) rfl
theorem xs_w_mxs : Jvm.Cond.static Lib.Math.max.name ∈ xw := wt_2 (List.mem_of_getElem? (i := 64) rfl) rfl
theorem xs_w_mxi : Jvm.Cond.initialized "java/lang/Math" ∈ xw := wt_1 (List.mem_of_getElem? (i := 8) rfl) rfl
theorem xs_w_mxc : Jvm.Cond.code Lib.Math.max.name Lib.Math.max.code 2 (some .int) ∈ xw := wt_2 (List.mem_of_getElem? (i := 65) rfl) rfl
theorem xs_w_dbn : Jvm.Cond.native ⟨"java/lang/Double", "doubleToRawLongBits", "(D)J"⟩ ∈ xw := wt_4 (List.mem_of_getElem? (i := 103) rfl) rfl
theorem xs_w_dbs : Jvm.Cond.static ⟨"java/lang/Double", "doubleToRawLongBits", "(D)J"⟩ ∈ xw := wt_4 (List.mem_of_getElem? (i := 102) rfl) rfl
theorem xs_w_dbi : Jvm.Cond.initialized "java/lang/Double" ∈ xw := wt_1 (List.mem_of_getElem? (i := 11) rfl) rfl
theorem xs_w_fbn : Jvm.Cond.native ⟨"java/lang/Float", "floatToRawIntBits", "(F)I"⟩ ∈ xw := wt_4 (List.mem_of_getElem? (i := 120) rfl) rfl
theorem xs_w_fbs : Jvm.Cond.static ⟨"java/lang/Float", "floatToRawIntBits", "(F)I"⟩ ∈ xw := wt_4 (List.mem_of_getElem? (i := 119) rfl) rfl
theorem xs_w_fbi : Jvm.Cond.initialized "java/lang/Float" ∈ xw := wt_1 (List.mem_of_getElem? (i := 12) rfl) rfl
theorem xs_l_ac : Jvm.Cond.methodLink RX1 52 arraycopyName ∈ xw := wt_1 (List.mem_of_getElem? (i := 188) rfl) rfl
theorem xs_l_mx_X5_46 : Jvm.Cond.methodLink RX5 46 Lib.Math.max.name ∈ xw := wt_2 (List.mem_of_getElem? (i := 63) rfl) rfl
theorem xs_l_mx_X6_160 : Jvm.Cond.methodLink RX6 160 Lib.Math.max.name ∈ xw := wt_2 (List.mem_of_getElem? (i := 211) rfl) rfl
theorem xs_l_db : Jvm.Cond.methodLink RJxe99ae 134 ⟨"java/lang/Double", "doubleToRawLongBits", "(D)J"⟩ ∈ xw := wt_4 (List.mem_of_getElem? (i := 101) rfl) rfl
theorem xs_l_fb : Jvm.Cond.methodLink RJxf58ca 74 ⟨"java/lang/Float", "floatToRawIntBits", "(F)I"⟩ ∈ xw := wt_4 (List.mem_of_getElem? (i := 118) rfl) rfl
theorem xs_cD_X5_81 : Jvm.Cond.constantDouble RX5 81 (4611686018427387904) ∈ xw := wt_2 (List.mem_of_getElem? (i := 182) rfl) rfl
theorem xs_cL_X0_9 : Jvm.Cond.constantLong RX0 9 (1023) ∈ xw := wt_2 (List.mem_of_getElem? (i := 186) rfl) rfl
theorem xs_cD_X0_11 : Jvm.Cond.constantDouble RX0 11 (4611686018427387904) ∈ xw := wt_2 (List.mem_of_getElem? (i := 187) rfl) rfl
theorem xs_cL_X0_13 : Jvm.Cond.constantLong RX0 13 (2046) ∈ xw := wt_2 (List.mem_of_getElem? (i := 188) rfl) rfl
theorem xs_cD_X0_15 : Jvm.Cond.constantDouble RX0 15 (4841369599423283200) ∈ xw := wt_2 (List.mem_of_getElem? (i := 189) rfl) rfl
theorem xs_cL_X0_21 : Jvm.Cond.constantLong RX0 21 (7516192768) ∈ xw := wt_2 (List.mem_of_getElem? (i := 202) rfl) rfl
theorem xs_cL_X3_15 : Jvm.Cond.constantLong RX3 15 (255) ∈ xw := wt_2 (List.mem_of_getElem? (i := 238) rfl) rfl
theorem xs_cL_X3_21 : Jvm.Cond.constantLong RX3 21 (33) ∈ xw := wt_3 (List.mem_of_getElem? (i := 2) rfl) rfl
theorem xs_cL_X3_23 : Jvm.Cond.constantLong RX3 23 (126) ∈ xw := wt_3 (List.mem_of_getElem? (i := 3) rfl) rfl
theorem xs_cD_X7_142 : Jvm.Cond.constantDouble RX7 142 (4611686018427387904) ∈ xw := wt_4 (List.mem_of_getElem? (i := 94) rfl) rfl
theorem xs_cL_Jxe99ae_137 : Jvm.Cond.constantLong RJxe99ae 137 (9221120237041090560) ∈ xw := wt_4 (List.mem_of_getElem? (i := 104) rfl) rfl
theorem xs_cL_X7_159 : Jvm.Cond.constantLong RX7 159 (255) ∈ xw := wt_4 (List.mem_of_getElem? (i := 142) rfl) rfl
theorem xs_cL_L_82 : Jvm.Cond.constantLong RL 82 (4294967295) ∈ xw := wt_4 (List.mem_of_getElem? (i := 175) rfl) rfl
theorem xs_w_ise : Jvm.Cond.static yX6_isError ∈ xw := wt_1 (List.mem_of_getElem? (i := 200) rfl) rfl
/-- the fields that a class's own methods name: place in its pool, number, whether an int that is not final -/
def xs_fld : Nat → List (Nat × Nat × Bool)
  | 0 => [(9, 0, true), (15, 1, true), (18, 8, false), (22, 9, false), (25, 10, false), (28, 11, false), (31, 12, false), (34, 2, true), (37, 3, true), (40, 4, true), (43, 5, true), (46, 6, true), (49, 7, true)]
  | 1 => [(13, 0, false), (18, 2, true), (22, 1, true)]
  | 2 => [(9, 0, false), (25, 1, true), (29, 3, false), (33, 4, true), (36, 5, true), (39, 6, true), (49, 2, true), (72, 7, true)]
  | 3 => [(11, 0, false), (17, 1, false)]
  | 4 => [(11, 0, false), (15, 1, false), (18, 2, false), (21, 3, true)]
  | 5 => [(10, 0, false), (19, 1, false), (26, 2, false), (33, 3, false), (40, 4, false)]
  | 6 => [(7, 0, false), (13, 1, false), (16, 2, false), (19, 3, false), (22, 4, false), (26, 6, false), (29, 9, false), (32, 10, false), (35, 12, false), (38, 13, false), (45, 5, true), (56, 11, true), (72, 15, true), (78, 16, true), (81, 14, true), (139, 7, true), (161, 8, true)]
  | _ => []
def xs_fok (ci : Nat) (own : String) : Prop := ∀ q ∈ xs_fld ci, ∃ (T : u_T) (N : Nat) (ty : Nat → FieldType), vwCl[ci]? = some (own, T, N) ∧ (∀ w ∈ u_ws own T N, w ∈ xw) ∧ (∀ k, k < N → parseFieldDescriptor (T k).2.2.1 = some (ty k)) ∧ (∀ a, a < N → ∀ b, b < N → a ≠ b → (T a).2.1 ≠ (T b).2.1) ∧ q.2.1 < N ∧ Jvm.Cond.fieldLink own q.1 (T q.2.1).1 (T q.2.1).2.1 (T q.2.1).2.2.1 ∈ xw ∧ (q.2.2 = true → (T q.2.1).2.2.2 = false ∧ parseFieldDescriptor (T q.2.1).2.2.1 = some .int)
theorem uw_X1 : ∀ w ∈ u_ws RX1 TX1 13, w ∈ xw := List.forall_mem_cons.mpr ⟨wt_1 (List.mem_of_getElem? (i := 40) rfl) rfl, List.forall_mem_cons.mpr ⟨wt_1 (List.mem_of_getElem? (i := 42) rfl) rfl, List.forall_mem_cons.mpr ⟨wt_1 (List.mem_of_getElem? (i := 44) rfl) rfl, List.forall_mem_cons.mpr ⟨wt_1 (List.mem_of_getElem? (i := 46) rfl) rfl, List.forall_mem_cons.mpr ⟨wt_1 (List.mem_of_getElem? (i := 48) rfl) rfl, List.forall_mem_cons.mpr ⟨wt_1 (List.mem_of_getElem? (i := 50) rfl) rfl, List.forall_mem_cons.mpr ⟨wt_1 (List.mem_of_getElem? (i := 52) rfl) rfl, List.forall_mem_cons.mpr ⟨wt_1 (List.mem_of_getElem? (i := 54) rfl) rfl, List.forall_mem_cons.mpr ⟨wt_1 (List.mem_of_getElem? (i := 56) rfl) rfl, List.forall_mem_cons.mpr ⟨wt_1 (List.mem_of_getElem? (i := 58) rfl) rfl, List.forall_mem_cons.mpr ⟨wt_1 (List.mem_of_getElem? (i := 60) rfl) rfl, List.forall_mem_cons.mpr ⟨wt_1 (List.mem_of_getElem? (i := 62) rfl) rfl, List.forall_mem_cons.mpr ⟨wt_1 (List.mem_of_getElem? (i := 64) rfl) rfl, fun _ h => absurd h List.not_mem_nil⟩⟩⟩⟩⟩⟩⟩⟩⟩⟩⟩⟩⟩
theorem fok_X1 : xs_fok 0 RX1 := List.forall_mem_cons.mpr ⟨⟨TX1, 13, tyX1, rfl, uw_X1, tyX1_ok, nmX1, by decide, wt_1 (List.mem_of_getElem? (i := 27) rfl) rfl, fun _ => ⟨rfl, by decide +kernel⟩⟩, List.forall_mem_cons.mpr ⟨⟨TX1, 13, tyX1, rfl, uw_X1, tyX1_ok, nmX1, by decide, wt_1 (List.mem_of_getElem? (i := 28) rfl) rfl, fun _ => ⟨rfl, by decide +kernel⟩⟩, List.forall_mem_cons.mpr ⟨⟨TX1, 13, tyX1, rfl, uw_X1, tyX1_ok, nmX1, by decide, wt_1 (List.mem_of_getElem? (i := 35) rfl) rfl, fun h => by cases h⟩, List.forall_mem_cons.mpr ⟨⟨TX1, 13, tyX1, rfl, uw_X1, tyX1_ok, nmX1, by decide, wt_1 (List.mem_of_getElem? (i := 36) rfl) rfl, fun h => by cases h⟩, List.forall_mem_cons.mpr ⟨⟨TX1, 13, tyX1, rfl, uw_X1, tyX1_ok, nmX1, by decide, wt_1 (List.mem_of_getElem? (i := 37) rfl) rfl, fun h => by cases h⟩, List.forall_mem_cons.mpr ⟨⟨TX1, 13, tyX1, rfl, uw_X1, tyX1_ok, nmX1, by decide, wt_1 (List.mem_of_getElem? (i := 38) rfl) rfl, fun h => by cases h⟩, List.forall_mem_cons.mpr ⟨⟨TX1, 13, tyX1, rfl, uw_X1, tyX1_ok, nmX1, by decide, wt_1 (List.mem_of_getElem? (i := 39) rfl) rfl, fun h => by cases h⟩, List.forall_mem_cons.mpr ⟨⟨TX1, 13, tyX1, rfl, uw_X1, tyX1_ok, nmX1, by decide, wt_1 (List.mem_of_getElem? (i := 29) rfl) rfl, fun _ => ⟨rfl, by decide +kernel⟩⟩, List.forall_mem_cons.mpr ⟨⟨TX1, 13, tyX1, rfl, uw_X1, tyX1_ok, nmX1, by decide, wt_1 (List.mem_of_getElem? (i := 30) rfl) rfl, fun _ => ⟨rfl, by decide +kernel⟩⟩, List.forall_mem_cons.mpr ⟨⟨TX1, 13, tyX1, rfl, uw_X1, tyX1_ok, nmX1, by decide, wt_1 (List.mem_of_getElem? (i := 31) rfl) rfl, fun _ => ⟨rfl, by decide +kernel⟩⟩, List.forall_mem_cons.mpr ⟨⟨TX1, 13, tyX1, rfl, uw_X1, tyX1_ok, nmX1, by decide, wt_1 (List.mem_of_getElem? (i := 32) rfl) rfl, fun _ => ⟨rfl, by decide +kernel⟩⟩, List.forall_mem_cons.mpr ⟨⟨TX1, 13, tyX1, rfl, uw_X1, tyX1_ok, nmX1, by decide, wt_1 (List.mem_of_getElem? (i := 33) rfl) rfl, fun _ => ⟨rfl, by decide +kernel⟩⟩, List.forall_mem_cons.mpr ⟨⟨TX1, 13, tyX1, rfl, uw_X1, tyX1_ok, nmX1, by decide, wt_1 (List.mem_of_getElem? (i := 34) rfl) rfl, fun _ => ⟨rfl, by decide +kernel⟩⟩, fun _ h => absurd h List.not_mem_nil⟩⟩⟩⟩⟩⟩⟩⟩⟩⟩⟩⟩⟩
theorem uw_X2 : ∀ w ∈ u_ws RX2 TX2 3, w ∈ xw := List.forall_mem_cons.mpr ⟨wt_1 (List.mem_of_getElem? (i := 99) rfl) rfl, List.forall_mem_cons.mpr ⟨wt_1 (List.mem_of_getElem? (i := 101) rfl) rfl, List.forall_mem_cons.mpr ⟨wt_1 (List.mem_of_getElem? (i := 103) rfl) rfl, fun _ h => absurd h List.not_mem_nil⟩⟩⟩
theorem fok_X2 : xs_fok 1 RX2 := List.forall_mem_cons.mpr ⟨⟨TX2, 3, tyX2, rfl, uw_X2, tyX2_ok, nmX2, by decide, wt_1 (List.mem_of_getElem? (i := 96) rfl) rfl, fun h => by cases h⟩, List.forall_mem_cons.mpr ⟨⟨TX2, 3, tyX2, rfl, uw_X2, tyX2_ok, nmX2, by decide, wt_1 (List.mem_of_getElem? (i := 98) rfl) rfl, fun _ => ⟨rfl, by decide +kernel⟩⟩, List.forall_mem_cons.mpr ⟨⟨TX2, 3, tyX2, rfl, uw_X2, tyX2_ok, nmX2, by decide, wt_1 (List.mem_of_getElem? (i := 97) rfl) rfl, fun _ => ⟨rfl, by decide +kernel⟩⟩, fun _ h => absurd h List.not_mem_nil⟩⟩⟩
theorem uw_X3 : ∀ w ∈ u_ws RX3 TX3 8, w ∈ xw := List.forall_mem_cons.mpr ⟨wt_1 (List.mem_of_getElem? (i := 136) rfl) rfl, List.forall_mem_cons.mpr ⟨wt_1 (List.mem_of_getElem? (i := 138) rfl) rfl, List.forall_mem_cons.mpr ⟨wt_1 (List.mem_of_getElem? (i := 140) rfl) rfl, List.forall_mem_cons.mpr ⟨wt_1 (List.mem_of_getElem? (i := 142) rfl) rfl, List.forall_mem_cons.mpr ⟨wt_1 (List.mem_of_getElem? (i := 144) rfl) rfl, List.forall_mem_cons.mpr ⟨wt_1 (List.mem_of_getElem? (i := 146) rfl) rfl, List.forall_mem_cons.mpr ⟨wt_1 (List.mem_of_getElem? (i := 148) rfl) rfl, List.forall_mem_cons.mpr ⟨wt_1 (List.mem_of_getElem? (i := 150) rfl) rfl, fun _ h => absurd h List.not_mem_nil⟩⟩⟩⟩⟩⟩⟩⟩
theorem fok_X3 : xs_fok 2 RX3 := List.forall_mem_cons.mpr ⟨⟨TX3, 8, tyX3, rfl, uw_X3, tyX3_ok, nmX3, by decide, wt_1 (List.mem_of_getElem? (i := 128) rfl) rfl, fun h => by cases h⟩, List.forall_mem_cons.mpr ⟨⟨TX3, 8, tyX3, rfl, uw_X3, tyX3_ok, nmX3, by decide, wt_1 (List.mem_of_getElem? (i := 129) rfl) rfl, fun _ => ⟨rfl, by decide +kernel⟩⟩, List.forall_mem_cons.mpr ⟨⟨TX3, 8, tyX3, rfl, uw_X3, tyX3_ok, nmX3, by decide, wt_1 (List.mem_of_getElem? (i := 131) rfl) rfl, fun h => by cases h⟩, List.forall_mem_cons.mpr ⟨⟨TX3, 8, tyX3, rfl, uw_X3, tyX3_ok, nmX3, by decide, wt_1 (List.mem_of_getElem? (i := 132) rfl) rfl, fun _ => ⟨rfl, by decide +kernel⟩⟩, List.forall_mem_cons.mpr ⟨⟨TX3, 8, tyX3, rfl, uw_X3, tyX3_ok, nmX3, by decide, wt_1 (List.mem_of_getElem? (i := 133) rfl) rfl, fun _ => ⟨rfl, by decide +kernel⟩⟩, List.forall_mem_cons.mpr ⟨⟨TX3, 8, tyX3, rfl, uw_X3, tyX3_ok, nmX3, by decide, wt_1 (List.mem_of_getElem? (i := 134) rfl) rfl, fun _ => ⟨rfl, by decide +kernel⟩⟩, List.forall_mem_cons.mpr ⟨⟨TX3, 8, tyX3, rfl, uw_X3, tyX3_ok, nmX3, by decide, wt_1 (List.mem_of_getElem? (i := 130) rfl) rfl, fun _ => ⟨rfl, by decide +kernel⟩⟩, List.forall_mem_cons.mpr ⟨⟨TX3, 8, tyX3, rfl, uw_X3, tyX3_ok, nmX3, by decide, wt_1 (List.mem_of_getElem? (i := 135) rfl) rfl, fun _ => ⟨rfl, by decide +kernel⟩⟩, fun _ h => absurd h List.not_mem_nil⟩⟩⟩⟩⟩⟩⟩⟩
theorem uw_X4 : ∀ w ∈ u_ws RX4 TX4 2, w ∈ xw := List.forall_mem_cons.mpr ⟨wt_1 (List.mem_of_getElem? (i := 116) rfl) rfl, List.forall_mem_cons.mpr ⟨wt_1 (List.mem_of_getElem? (i := 118) rfl) rfl, fun _ h => absurd h List.not_mem_nil⟩⟩
theorem fok_X4 : xs_fok 3 RX4 := List.forall_mem_cons.mpr ⟨⟨TX4, 2, tyX4, rfl, uw_X4, tyX4_ok, nmX4, by decide, wt_1 (List.mem_of_getElem? (i := 114) rfl) rfl, fun h => by cases h⟩, List.forall_mem_cons.mpr ⟨⟨TX4, 2, tyX4, rfl, uw_X4, tyX4_ok, nmX4, by decide, wt_1 (List.mem_of_getElem? (i := 115) rfl) rfl, fun h => by cases h⟩, fun _ h => absurd h List.not_mem_nil⟩⟩
theorem uw_X5 : ∀ w ∈ u_ws RX5 TX5 4, w ∈ xw := List.forall_mem_cons.mpr ⟨wt_1 (List.mem_of_getElem? (i := 78) rfl) rfl, List.forall_mem_cons.mpr ⟨wt_1 (List.mem_of_getElem? (i := 80) rfl) rfl, List.forall_mem_cons.mpr ⟨wt_1 (List.mem_of_getElem? (i := 82) rfl) rfl, List.forall_mem_cons.mpr ⟨wt_1 (List.mem_of_getElem? (i := 84) rfl) rfl, fun _ h => absurd h List.not_mem_nil⟩⟩⟩⟩
theorem fok_X5 : xs_fok 4 RX5 := List.forall_mem_cons.mpr ⟨⟨TX5, 4, tyX5, rfl, uw_X5, tyX5_ok, nmX5, by decide, wt_1 (List.mem_of_getElem? (i := 74) rfl) rfl, fun h => by cases h⟩, List.forall_mem_cons.mpr ⟨⟨TX5, 4, tyX5, rfl, uw_X5, tyX5_ok, nmX5, by decide, wt_1 (List.mem_of_getElem? (i := 75) rfl) rfl, fun h => by cases h⟩, List.forall_mem_cons.mpr ⟨⟨TX5, 4, tyX5, rfl, uw_X5, tyX5_ok, nmX5, by decide, wt_1 (List.mem_of_getElem? (i := 76) rfl) rfl, fun h => by cases h⟩, List.forall_mem_cons.mpr ⟨⟨TX5, 4, tyX5, rfl, uw_X5, tyX5_ok, nmX5, by decide, wt_1 (List.mem_of_getElem? (i := 77) rfl) rfl, fun _ => ⟨rfl, by decide +kernel⟩⟩, fun _ h => absurd h List.not_mem_nil⟩⟩⟩⟩
theorem uw_X6 : ∀ w ∈ u_ws RX6 TX6 5, w ∈ xw := List.forall_mem_cons.mpr ⟨wt_1 (List.mem_of_getElem? (i := 159) rfl) rfl, List.forall_mem_cons.mpr ⟨wt_1 (List.mem_of_getElem? (i := 161) rfl) rfl, List.forall_mem_cons.mpr ⟨wt_1 (List.mem_of_getElem? (i := 163) rfl) rfl, List.forall_mem_cons.mpr ⟨wt_1 (List.mem_of_getElem? (i := 165) rfl) rfl, List.forall_mem_cons.mpr ⟨wt_1 (List.mem_of_getElem? (i := 167) rfl) rfl, fun _ h => absurd h List.not_mem_nil⟩⟩⟩⟩⟩
theorem fok_X6 : xs_fok 5 RX6 := List.forall_mem_cons.mpr ⟨⟨TX6, 5, tyX6, rfl, uw_X6, tyX6_ok, nmX6, by decide, wt_1 (List.mem_of_getElem? (i := 154) rfl) rfl, fun h => by cases h⟩, List.forall_mem_cons.mpr ⟨⟨TX6, 5, tyX6, rfl, uw_X6, tyX6_ok, nmX6, by decide, wt_1 (List.mem_of_getElem? (i := 155) rfl) rfl, fun h => by cases h⟩, List.forall_mem_cons.mpr ⟨⟨TX6, 5, tyX6, rfl, uw_X6, tyX6_ok, nmX6, by decide, wt_1 (List.mem_of_getElem? (i := 156) rfl) rfl, fun h => by cases h⟩, List.forall_mem_cons.mpr ⟨⟨TX6, 5, tyX6, rfl, uw_X6, tyX6_ok, nmX6, by decide, wt_1 (List.mem_of_getElem? (i := 157) rfl) rfl, fun h => by cases h⟩, List.forall_mem_cons.mpr ⟨⟨TX6, 5, tyX6, rfl, uw_X6, tyX6_ok, nmX6, by decide, wt_1 (List.mem_of_getElem? (i := 158) rfl) rfl, fun h => by cases h⟩, fun _ h => absurd h List.not_mem_nil⟩⟩⟩⟩⟩
theorem uw_X7 : ∀ w ∈ u_ws RX7 TX7 17, w ∈ xw := List.forall_mem_cons.mpr ⟨wt_3 (List.mem_of_getElem? (i := 149) rfl) rfl, List.forall_mem_cons.mpr ⟨wt_3 (List.mem_of_getElem? (i := 151) rfl) rfl, List.forall_mem_cons.mpr ⟨wt_3 (List.mem_of_getElem? (i := 153) rfl) rfl, List.forall_mem_cons.mpr ⟨wt_3 (List.mem_of_getElem? (i := 155) rfl) rfl, List.forall_mem_cons.mpr ⟨wt_3 (List.mem_of_getElem? (i := 157) rfl) rfl, List.forall_mem_cons.mpr ⟨wt_3 (List.mem_of_getElem? (i := 159) rfl) rfl, List.forall_mem_cons.mpr ⟨wt_3 (List.mem_of_getElem? (i := 161) rfl) rfl, List.forall_mem_cons.mpr ⟨wt_3 (List.mem_of_getElem? (i := 163) rfl) rfl, List.forall_mem_cons.mpr ⟨wt_3 (List.mem_of_getElem? (i := 165) rfl) rfl, List.forall_mem_cons.mpr ⟨wt_3 (List.mem_of_getElem? (i := 167) rfl) rfl, List.forall_mem_cons.mpr ⟨wt_3 (List.mem_of_getElem? (i := 169) rfl) rfl, List.forall_mem_cons.mpr ⟨wt_3 (List.mem_of_getElem? (i := 171) rfl) rfl, List.forall_mem_cons.mpr ⟨wt_3 (List.mem_of_getElem? (i := 173) rfl) rfl, List.forall_mem_cons.mpr ⟨wt_3 (List.mem_of_getElem? (i := 175) rfl) rfl, List.forall_mem_cons.mpr ⟨wt_3 (List.mem_of_getElem? (i := 177) rfl) rfl, List.forall_mem_cons.mpr ⟨wt_3 (List.mem_of_getElem? (i := 179) rfl) rfl, List.forall_mem_cons.mpr ⟨wt_3 (List.mem_of_getElem? (i := 181) rfl) rfl, fun _ h => absurd h List.not_mem_nil⟩⟩⟩⟩⟩⟩⟩⟩⟩⟩⟩⟩⟩⟩⟩⟩⟩
theorem fok_X7 : xs_fok 6 RX7 := List.forall_mem_cons.mpr ⟨⟨TX7, 17, tyX7, rfl, uw_X7, tyX7_ok, nmX7, by decide, wt_3 (List.mem_of_getElem? (i := 132) rfl) rfl, fun h => by cases h⟩, List.forall_mem_cons.mpr ⟨⟨TX7, 17, tyX7, rfl, uw_X7, tyX7_ok, nmX7, by decide, wt_3 (List.mem_of_getElem? (i := 133) rfl) rfl, fun h => by cases h⟩, List.forall_mem_cons.mpr ⟨⟨TX7, 17, tyX7, rfl, uw_X7, tyX7_ok, nmX7, by decide, wt_3 (List.mem_of_getElem? (i := 134) rfl) rfl, fun h => by cases h⟩, List.forall_mem_cons.mpr ⟨⟨TX7, 17, tyX7, rfl, uw_X7, tyX7_ok, nmX7, by decide, wt_3 (List.mem_of_getElem? (i := 135) rfl) rfl, fun h => by cases h⟩, List.forall_mem_cons.mpr ⟨⟨TX7, 17, tyX7, rfl, uw_X7, tyX7_ok, nmX7, by decide, wt_3 (List.mem_of_getElem? (i := 136) rfl) rfl, fun h => by cases h⟩, List.forall_mem_cons.mpr ⟨⟨TX7, 17, tyX7, rfl, uw_X7, tyX7_ok, nmX7, by decide, wt_3 (List.mem_of_getElem? (i := 138) rfl) rfl, fun h => by cases h⟩, List.forall_mem_cons.mpr ⟨⟨TX7, 17, tyX7, rfl, uw_X7, tyX7_ok, nmX7, by decide, wt_3 (List.mem_of_getElem? (i := 141) rfl) rfl, fun h => by cases h⟩, List.forall_mem_cons.mpr ⟨⟨TX7, 17, tyX7, rfl, uw_X7, tyX7_ok, nmX7, by decide, wt_3 (List.mem_of_getElem? (i := 142) rfl) rfl, fun h => by cases h⟩, List.forall_mem_cons.mpr ⟨⟨TX7, 17, tyX7, rfl, uw_X7, tyX7_ok, nmX7, by decide, wt_3 (List.mem_of_getElem? (i := 144) rfl) rfl, fun h => by cases h⟩, List.forall_mem_cons.mpr ⟨⟨TX7, 17, tyX7, rfl, uw_X7, tyX7_ok, nmX7, by decide, wt_3 (List.mem_of_getElem? (i := 145) rfl) rfl, fun h => by cases h⟩, List.forall_mem_cons.mpr ⟨⟨TX7, 17, tyX7, rfl, uw_X7, tyX7_ok, nmX7, by decide, wt_3 (List.mem_of_getElem? (i := 137) rfl) rfl, fun _ => ⟨rfl, by decide +kernel⟩⟩, List.forall_mem_cons.mpr ⟨⟨TX7, 17, tyX7, rfl, uw_X7, tyX7_ok, nmX7, by decide, wt_3 (List.mem_of_getElem? (i := 143) rfl) rfl, fun _ => ⟨rfl, by decide +kernel⟩⟩, List.forall_mem_cons.mpr ⟨⟨TX7, 17, tyX7, rfl, uw_X7, tyX7_ok, nmX7, by decide, wt_3 (List.mem_of_getElem? (i := 147) rfl) rfl, fun _ => ⟨rfl, by decide +kernel⟩⟩, List.forall_mem_cons.mpr ⟨⟨TX7, 17, tyX7, rfl, uw_X7, tyX7_ok, nmX7, by decide, wt_3 (List.mem_of_getElem? (i := 148) rfl) rfl, fun _ => ⟨rfl, by decide +kernel⟩⟩, List.forall_mem_cons.mpr ⟨⟨TX7, 17, tyX7, rfl, uw_X7, tyX7_ok, nmX7, by decide, wt_3 (List.mem_of_getElem? (i := 146) rfl) rfl, fun _ => ⟨rfl, by decide +kernel⟩⟩, List.forall_mem_cons.mpr ⟨⟨TX7, 17, tyX7, rfl, uw_X7, tyX7_ok, nmX7, by decide, wt_3 (List.mem_of_getElem? (i := 139) rfl) rfl, fun _ => ⟨rfl, by decide +kernel⟩⟩, List.forall_mem_cons.mpr ⟨⟨TX7, 17, tyX7, rfl, uw_X7, tyX7_ok, nmX7, by decide, wt_3 (List.mem_of_getElem? (i := 140) rfl) rfl, fun _ => ⟨rfl, by decide +kernel⟩⟩, fun _ h => absurd h List.not_mem_nil⟩⟩⟩⟩⟩⟩⟩⟩⟩⟩⟩⟩⟩⟩⟩⟩⟩
theorem xs_nth_get {α : Type} : ∀ {l : List α} {i : Nat}, xs_nth l i = l[i]? := by
  intro l
  induction l with
  | nil => intro i; cases i <;> rfl
  | cons a t ih =>
    intro i
    cases i with
    | zero => rfl
    | succ n => show xs_nth t n = _; rw [ih]; rfl
theorem xs_sh_lt {k : Nat} {x : xs_Sh} (h : xs_sh k = some x) : k < 83 := by
  unfold xs_sh at h
  rw [xs_nth_get] at h
  exact (List.getElem?_eq_some_iff.mp h).1
theorem xs_cell_o {G : xs_G} {st : xs_S} {k ci : Nat} {sl : List (Option Nat)} (h : xs_sh k = some (.inr (ci, sl))) : xs_cell G st k = .inr (ci, xs_fs G.1 (st k) 0 sl) := by
  unfold xs_cell
  rw [h]
theorem xs_cell_a {G : xs_G} {st : xs_S} {k t n : Nat} (h : xs_sh k = some (.inl (t, n))) (ht : Nat.ble 3 t = false) : xs_cell G st k = .inl (G.2.2 t, n, .inl (st k)) := by
  unfold xs_cell
  rw [h]
  dsimp only
  rw [ht]
  rfl
theorem xs_cell_r {G : xs_G} {st : xs_S} {k t n : Nat} (h : xs_sh k = some (.inl (t, n))) (ht : Nat.ble 3 t = true) : xs_cell G st k = .inl (G.2.2 3, n, .inr (.inr (.inr (.inr (fun j => some (G.1 (t + 6 * j))))))) := by
  unfold xs_cell
  rw [h]
  dsimp only
  rw [ht]
  rfl
def xs_fnd : List (Nat × Nat × Bool) → Nat → Option (Nat × Bool)
  | [], _ => none
  | q :: t, z => bif Nat.beq q.1 z then some q.2 else xs_fnd t z
theorem xs_fnd_mem {z : Nat} {x : Nat × Bool} : ∀ {l : List (Nat × Nat × Bool)}, xs_fnd l z = some x → (z, x) ∈ l := by
  intro l
  induction l with
  | nil => intro h; cases h
  | cons q t ih =>
    intro h
    unfold xs_fnd at h
    cases hb : Nat.beq q.1 z with
    | false => rw [hb] at h; exact List.mem_cons_of_mem _ (ih h)
    | true =>
      rw [hb] at h
      have h1 : some q.2 = some x := h
      cases h1
      have h2 := Nat.eq_of_beq_eq_true hb
      subst h2
      exact List.mem_cons_self
def xs_good (M : xs_M) : Prop := xs_MOK M ∧ xs_fok (xm_ci M) (xm_own M)
section XM
variable {G : xs_G} {base d : Nat} {M : xs_M} {pc n t : Nat} {lit : Int32} {lv : List (Nat × Value)} {rest : List Value} {st : xs_S} {Q : Option Value → xs_S → Prop}
theorem xr_geti {z k i : Nat} {b : Bool} {sl : List (Option Nat)} (hM : xs_good M) (hlk : xs_lk (xm_tb M) pc = some (.getfield z, 3, lit, t)) (hsh : xs_sh k = some (.inr (xm_ci M, sl))) (hf : xs_fnd (xs_fld (xm_ci M)) z = some (i, b)) (hs : xs_nth sl i = some none) (hk : xs_R G base d M (pc + 3, lv, .int (st k i) :: rest, st) Q) : xs_R G base d M (pc, lv, .ref k :: rest, st) Q := by
  intro p l e s m args below meth c H locs ls hF hK hS hP hl
  obtain ⟨hx, hb, hr, hml, hown, hts, hlocks⟩ := hF
  have hdg := (xs_dec hM.1 hlk).1
  obtain ⟨T, N, ty, h1, h2, h3, h4, h5, h6, -⟩ := hM.2 _ (xs_fnd_mem hf)
  have h9 := xs_fs_int (ad := G.1) (f := st k) (j := 0) (by rw [← xs_nth_get]; exact hs)
  rw [Nat.zero_add] at h9
  have he := xs_ws_at (G := G) (st := st) (xs_sh_lt hsh)
  rw [xs_cell_o hsh] at he
  exact va_get hx hb hts h2 hown hK.2.1 hP k he h1 i h5 (hts _ h6) (fun _ h => h) h9 hdg (hk p l e s m args below meth c H locs ls ⟨hx, hb, hr, hml, hown, hts, hlocks⟩ hK hS hP hl)
theorem xr_getr {z k i o : Nat} {b : Bool} {sl : List (Option Nat)} (hM : xs_good M) (hlk : xs_lk (xm_tb M) pc = some (.getfield z, 3, lit, t)) (hsh : xs_sh k = some (.inr (xm_ci M, sl))) (hf : xs_fnd (xs_fld (xm_ci M)) z = some (i, b)) (hs : xs_nth sl i = some (some o)) (hk : xs_R G base d M (pc + 3, lv, .ref o :: rest, st) Q) : xs_R G base d M (pc, lv, .ref k :: rest, st) Q := by
  intro p l e s m args below meth c H locs ls hF hK hS hP hl
  obtain ⟨hx, hb, hr, hml, hown, hts, hlocks⟩ := hF
  have hdg := (xs_dec hM.1 hlk).1
  obtain ⟨T, N, ty, h1, h2, h3, h4, h5, h6, -⟩ := hM.2 _ (xs_fnd_mem hf)
  have h9 := xs_fs_ref (ad := G.1) (f := st k) (j := 0) (by rw [← xs_nth_get]; exact hs)
  have he := xs_ws_at (G := G) (st := st) (xs_sh_lt hsh)
  rw [xs_cell_o hsh] at he
  exact va_get hx hb hts h2 hown hK.2.1 hP k he h1 i h5 (hts _ h6) (fun _ h => h) h9 hdg (hk p l e s m args below meth c H locs ls ⟨hx, hb, hr, hml, hown, hts, hlocks⟩ hK hS hP hl)
theorem xs_fs_len {ad : Nat → Nat} {f : Nat → Int32} : ∀ {fl : List (Option Nat)} {j : Nat}, (xs_fs ad f j fl).length = fl.length := by
  intro fl
  induction fl with
  | nil => intro j; rfl
  | cons a t ih => intro j; cases a <;> (show (xs_fs ad f (j + 1) t).length + 1 = _; rw [ih]; rfl)
theorem xr_puti {z k i : Nat} {v : Int32} {sl : List (Option Nat)} (hM : xs_good M) (hlk : xs_lk (xm_tb M) pc = some (.putfield z, 3, lit, t)) (hsh : xs_sh k = some (.inr (xm_ci M, sl))) (hf : xs_fnd (xs_fld (xm_ci M)) z = some (i, true)) (hs : xs_nth sl i = some none) (hk : xs_R G base d M (pc + 3, lv, rest, xs_u st k i v) Q) : xs_R G base d M (pc, lv, .int v :: .ref k :: rest, st) Q := by
  intro p l e s m args below meth c H locs ls hF hK hS hP hl
  obtain ⟨hx, hb, hr, hml, hown, hts, hlocks⟩ := hF
  have hdg := (xs_dec hM.1 hlk).1
  obtain ⟨T, N, ty, h1, h2, h3, h4, h5, h6, h7⟩ := hM.2 _ (xs_fnd_mem hf)
  obtain ⟨g1, g2⟩ := h7 rfl
  have he := xs_ws_at (G := G) (st := st) (xs_sh_lt hsh)
  rw [xs_cell_o hsh] at he
  have hs1 : sl[i]? = some none := by rw [← xs_nth_get]; exact hs
  refine va_put (v := .int v) hx hb hts h2 ty h3 h4 hown hK.2.1 hP (xs_D hK.1) hS k he h1 i h5 (hts _ h6) (fun _ h => h) g1 g2 rfl rfl (by rw [xs_fs_len]; exact (List.getElem?_eq_some_iff.mp hs1).1) hdg (fun H1 locs1 hP1 _ hS1 => ?_)
  rw [xs_ws_set (f := xs_uf (st k) i v) (xs_sh_lt hsh) (by rw [xs_cell_o hsh, xs_fs_set hs1, xs_ur_s, Nat.zero_add])] at hP1
  exact hk p l e s m args below meth c H1 locs1 ls ⟨hx, hb, hr, hml, hown, hts, hlocks⟩ hK hS1 hP1 hl
theorem xr_putc {z k i : Nat} {v : Int32} {b : Bool} {sl : List (Option Nat)} (hM : xs_good M) (hlk : xs_lk (xm_tb M) pc = some (.putfield z, 3, lit, t)) (hsh : xs_sh k = some (.inr (xm_ci M, sl))) (hf : xs_fnd (xs_fld (xm_ci M)) z = some (i, b)) (hs : xs_nth sl i = some none) (hc : ∀ (T : u_T) (N : Nat), vwCl[xm_ci M]? = some (xm_own M, T, N) → (T i).2.2.2 = false ∧ parseFieldDescriptor (T i).2.2.1 = some .char) (hn : narrow .char (.int v) = .int v) (hfit : fits .char (.int v) = true) (hk : xs_R G base d M (pc + 3, lv, rest, xs_u st k i v) Q) : xs_R G base d M (pc, lv, .int v :: .ref k :: rest, st) Q := by
  intro p l e s m args below meth c H locs ls hF hK hS hP hl
  obtain ⟨hx, hb, hr, hml, hown, hts, hlocks⟩ := hF
  have hdg := (xs_dec hM.1 hlk).1
  obtain ⟨T, N, ty, h1, h2, h3, h4, h5, h6, h7⟩ := hM.2 _ (xs_fnd_mem hf)
  obtain ⟨g1, g2⟩ := hc T N h1
  have he := xs_ws_at (G := G) (st := st) (xs_sh_lt hsh)
  rw [xs_cell_o hsh] at he
  have hs1 : sl[i]? = some none := by rw [← xs_nth_get]; exact hs
  refine va_put (v := .int v) hx hb hts h2 ty h3 h4 hown hK.2.1 hP (xs_D hK.1) hS k he h1 i h5 (hts _ h6) (fun _ h => h) g1 g2 hn hfit (by rw [xs_fs_len]; exact (List.getElem?_eq_some_iff.mp hs1).1) hdg (fun H1 locs1 hP1 _ hS1 => ?_)
  rw [xs_ws_set (f := xs_uf (st k) i v) (xs_sh_lt hsh) (by rw [xs_cell_o hsh, xs_fs_set hs1, xs_ur_s, Nat.zero_add])] at hP1
  exact hk p l e s m args below meth c H1 locs1 ls ⟨hx, hb, hr, hml, hown, hts, hlocks⟩ hK hS1 hP1 hl
theorem xs_in {i : Int32} {j n : Nat} (hi : i.toInt = (j : Int)) (hj : j < n) : vp_in i n := vp_in_iff.mpr ⟨by omega, by omega⟩
theorem xs_cl {i : Int32} {j : Nat} (hi : i.toInt = (j : Int)) : i.toNatClampNeg = j := by
  show i.toInt.toNat = j
  omega
theorem xr_iald {k m0 : Nat} {i : Int32} (hM : xs_good M) (hlk : xs_lk (xm_tb M) pc = some (.iaload, 1, lit, t)) (hsh : xs_sh k = some (.inl (0, m0))) (j : Nat) (hi : i.toInt = (j : Int)) (hj : j < m0) (hk : xs_R G base d M (pc + 1, lv, .int (st k j) :: rest, st) Q) : xs_R G base d M (pc, lv, .int i :: .ref k :: rest, st) Q := by
  intro p l e s m args below meth c H locs ls hF hK hS hP hl
  obtain ⟨hx, hb, hr, hml, hown, hts, hlocks⟩ := hF
  have hdg := (xs_dec hM.1 hlk).1
  have he := xs_ws_at (G := G) (st := st) (xs_sh_lt hsh)
  rw [xs_cell_a hsh rfl] at he
  refine va_iald hx hb hK.2.1 hP k 0 he rfl (xs_in hi hj) hdg ?_
  rw [xs_cl hi]
  exact hk p l e s m args below meth c H locs ls ⟨hx, hb, hr, hml, hown, hts, hlocks⟩ hK hS hP hl
theorem xr_zald {k m0 : Nat} {i : Int32} (hM : xs_good M) (hlk : xs_lk (xm_tb M) pc = some (.baload, 1, lit, t)) (hsh : xs_sh k = some (.inl (1, m0))) (j : Nat) (hi : i.toInt = (j : Int)) (hj : j < m0) (hk : xs_R G base d M (pc + 1, lv, .int (st k j) :: rest, st) Q) : xs_R G base d M (pc, lv, .int i :: .ref k :: rest, st) Q := by
  intro p l e s m args below meth c H locs ls hF hK hS hP hl
  obtain ⟨hx, hb, hr, hml, hown, hts, hlocks⟩ := hF
  have hdg := (xs_dec hM.1 hlk).1
  have he := xs_ws_at (G := G) (st := st) (xs_sh_lt hsh)
  rw [xs_cell_a hsh rfl] at he
  refine va_zald hx hb hK.2.1 hP k 1 he rfl (xs_in hi hj) hdg ?_
  rw [xs_cl hi]
  exact hk p l e s m args below meth c H locs ls ⟨hx, hb, hr, hml, hown, hts, hlocks⟩ hK hS hP hl
theorem xr_cald {k m0 : Nat} {i : Int32} (hM : xs_good M) (hlk : xs_lk (xm_tb M) pc = some (.caload, 1, lit, t)) (hsh : xs_sh k = some (.inl (2, m0))) (j : Nat) (hi : i.toInt = (j : Int)) (hj : j < m0) (hk : xs_R G base d M (pc + 1, lv, .int (st k j) :: rest, st) Q) : xs_R G base d M (pc, lv, .int i :: .ref k :: rest, st) Q := by
  intro p l e s m args below meth c H locs ls hF hK hS hP hl
  obtain ⟨hx, hb, hr, hml, hown, hts, hlocks⟩ := hF
  have hdg := (xs_dec hM.1 hlk).1
  have he := xs_ws_at (G := G) (st := st) (xs_sh_lt hsh)
  rw [xs_cell_a hsh rfl] at he
  refine va_cald hx hb hK.2.1 hP k 2 he rfl (xs_in hi hj) hdg ?_
  rw [xs_cl hi]
  exact hk p l e s m args below meth c H locs ls ⟨hx, hb, hr, hml, hown, hts, hlocks⟩ hK hS hP hl
theorem xr_iast {k m0 : Nat} {i v : Int32} (hM : xs_good M) (hlk : xs_lk (xm_tb M) pc = some (.iastore, 1, lit, t)) (hsh : xs_sh k = some (.inl (0, m0))) (j : Nat) (hi : i.toInt = (j : Int)) (hj : j < m0) (hk : xs_R G base d M (pc + 1, lv, rest, xs_u st k j v) Q) : xs_R G base d M (pc, lv, .int v :: .int i :: .ref k :: rest, st) Q := by
  intro p l e s m args below meth c H locs ls hF hK hS hP hl
  obtain ⟨hx, hb, hr, hml, hown, hts, hlocks⟩ := hF
  have hdg := (xs_dec hM.1 hlk).1
  have he := xs_ws_at (G := G) (st := st) (xs_sh_lt hsh)
  rw [xs_cell_a hsh rfl] at he
  refine va_iast hx hb hK.2.1 hP (xs_D hK.1) hS k 0 he rfl (xs_in hi hj) hdg (fun H1 locs1 hP1 _ hS1 => ?_)
  rw [xs_cl hi, xs_ws_set (f := xs_uf (st k) j v) (xs_sh_lt hsh) (by rw [xs_cell_a hsh rfl, xs_ur_s, xs_uf_upd])] at hP1
  exact hk p l e s m args below meth c H1 locs1 ls ⟨hx, hb, hr, hml, hown, hts, hlocks⟩ hK hS1 hP1 hl
theorem xr_zast {k m0 : Nat} {i v : Int32} (hM : xs_good M) (hlk : xs_lk (xm_tb M) pc = some (.bastore, 1, lit, t)) (hsh : xs_sh k = some (.inl (1, m0))) (j : Nat) (hi : i.toInt = (j : Int)) (hj : j < m0) (hn : vp_nar .boolean v = v) (hk : xs_R G base d M (pc + 1, lv, rest, xs_u st k j v) Q) : xs_R G base d M (pc, lv, .int v :: .int i :: .ref k :: rest, st) Q := by
  intro p l e s m args below meth c H locs ls hF hK hS hP hl
  obtain ⟨hx, hb, hr, hml, hown, hts, hlocks⟩ := hF
  have hdg := (xs_dec hM.1 hlk).1
  have he := xs_ws_at (G := G) (st := st) (xs_sh_lt hsh)
  rw [xs_cell_a hsh rfl] at he
  refine va_zast hx hb hK.2.1 hP (xs_D hK.1) hS k 1 he rfl (xs_in hi hj) hdg (fun H1 locs1 hP1 _ hS1 => ?_)
  rw [xs_cl hi, hn, xs_ws_set (f := xs_uf (st k) j v) (xs_sh_lt hsh) (by rw [xs_cell_a hsh rfl, xs_ur_s, xs_uf_upd])] at hP1
  exact hk p l e s m args below meth c H1 locs1 ls ⟨hx, hb, hr, hml, hown, hts, hlocks⟩ hK hS1 hP1 hl
theorem xr_cast {k m0 : Nat} {i v : Int32} (hM : xs_good M) (hlk : xs_lk (xm_tb M) pc = some (.castore, 1, lit, t)) (hsh : xs_sh k = some (.inl (2, m0))) (j : Nat) (hi : i.toInt = (j : Int)) (hj : j < m0) (hn : vp_nar .char v = v) (hk : xs_R G base d M (pc + 1, lv, rest, xs_u st k j v) Q) : xs_R G base d M (pc, lv, .int v :: .int i :: .ref k :: rest, st) Q := by
  intro p l e s m args below meth c H locs ls hF hK hS hP hl
  obtain ⟨hx, hb, hr, hml, hown, hts, hlocks⟩ := hF
  have hdg := (xs_dec hM.1 hlk).1
  have he := xs_ws_at (G := G) (st := st) (xs_sh_lt hsh)
  rw [xs_cell_a hsh rfl] at he
  refine va_cast hx hb hK.2.1 hP (xs_D hK.1) hS k 2 he rfl (xs_in hi hj) hdg (fun H1 locs1 hP1 _ hS1 => ?_)
  rw [xs_cl hi, hn, xs_ws_set (f := xs_uf (st k) j v) (xs_sh_lt hsh) (by rw [xs_cell_a hsh rfl, xs_ur_s, xs_uf_upd])] at hP1
  exact hk p l e s m args below meth c H1 locs1 ls ⟨hx, hb, hr, hml, hown, hts, hlocks⟩ hK hS1 hP1 hl
theorem xr_aald {k m0 o : Nat} {i : Int32} (hM : xs_good M) (hlk : xs_lk (xm_tb M) pc = some (.aaload, 1, lit, t)) (hsh : xs_sh k = some (.inl (o, m0))) (ho : Nat.ble 3 o = true) (j : Nat) (hi : i.toInt = (j : Int)) (hj : j < m0) (hk : xs_R G base d M (pc + 1, lv, .ref (o + 6 * j) :: rest, st) Q) : xs_R G base d M (pc, lv, .int i :: .ref k :: rest, st) Q := by
  intro p l e s m args below meth c H locs ls hF hK hS hP hl
  obtain ⟨hx, hb, hr, hml, hown, hts, hlocks⟩ := hF
  have hdg := (xs_dec hM.1 hlk).1
  have he := xs_ws_at (G := G) (st := st) (xs_sh_lt hsh)
  rw [xs_cell_r hsh ho] at he
  refine va_aldq hx hb hK.2.1 hP k 3 he rfl (xs_in hi hj) hdg ?_
  rw [xs_cl hi]
  exact hk p l e s m args below meth c H locs ls ⟨hx, hb, hr, hml, hown, hts, hlocks⟩ hK hS hP hl
def xs_cp15 (f g : Nat → Int32) : Nat → Int32 := fun j => bif Nat.blt j 15 then f j else g j
theorem xs_cp15_eq {f g : Nat → Int32} : va_cpy f g 0 0 15 = xs_cp15 f g := by
  funext j
  unfold va_cpy xs_cp15
  by_cases h : j < 15
  · rw [if_pos ⟨Nat.zero_le _, by omega⟩, show Nat.blt j 15 = true from Nat.ble_eq_true_of_le h, Nat.zero_add, Nat.sub_zero]
    rfl
  · rw [if_neg (by omega)]
    have h1 : Nat.blt j 15 = false := by
      cases hb : Nat.blt j 15 with
      | false => rfl
      | true => exact absurd (Nat.le_of_ble_eq_true hb) (by omega)
    rw [h1]
    rfl
theorem xr_acopy {z a0 b0 : Nat} (hM : xs_good M) (hlk : xs_lk (xm_tb M) pc = some (.invokestatic z, 3, lit, t)) (hw : Jvm.Cond.methodLink (xm_own M) z arraycopyName ∈ xw) (ha : xs_sh a0 = some (.inl (0, 15))) (hb0 : xs_sh b0 = some (.inl (0, 15))) (hrest : rest = []) (hd : Nat.ble 1 d = true) (hk : xs_R G base d M (pc + 3, lv, rest, xs_ur st b0 (xs_cp15 (st a0) (st b0))) Q) : xs_R G base d M (pc, lv, .int 15 :: .int 0 :: .ref b0 :: .int 0 :: .ref a0 :: rest, st) Q := by
  subst hrest
  intro p l e s m args below meth c H locs ls hF hK hS hP hl
  obtain ⟨hx, hb, hr, hml, hown, hts, hlocks⟩ := hF
  have hdg := (xs_dec hM.1 hlk).1
  have hd1 := Nat.le_of_ble_eq_true hd
  have he0 := xs_ws_at (G := G) (st := st) (xs_sh_lt ha)
  rw [xs_cell_a ha rfl] at he0
  have he1 := xs_ws_at (G := G) (st := st) (xs_sh_lt hb0)
  rw [xs_cell_a hb0 rfl] at he1
  have hnf : nativeFrameWords "java/lang/System" "arraycopy" 5 + 11 ≤ 30 := by decide +kernel
  refine va_copyi (sp := 0) (dp := 0) (n := 15) (ty := .int) hx hb (by rw [hml]; exact hl.1.symm) hown (hts _ hw) (hts _ xs_w_acn) (hts _ xs_w_acs) (hts _ xs_w_aci) hK.2.1 hP (xs_D hK.1) hS a0 b0 0 0 he0 he1 rfl rfl rfl (by decide) (by decide) (by decide) (by decide) (by decide) (fun _ _ => rfl) hd1 (by show 0 + (nativeFrameWords "java/lang/System" "arraycopy" 5 + 11) ≤ 30 * d; omega) hdg (fun H1 locs1 hP1 _ hS1 => ?_)
  have e15 : (15 : Int32).toNatClampNeg = 15 := by decide
  have e0 : (0 : Int32).toNatClampNeg = 0 := by decide
  rw [e15, e0, xs_cp15_eq, xs_ws_set (f := xs_cp15 (st a0) (st b0)) (xs_sh_lt hb0) (by rw [xs_cell_a hb0 rfl, xs_ur_s])] at hP1
  exact hk p l e s m args below meth c H1 locs1 ls ⟨hx, hb, hr, hml, hown, hts, hlocks⟩ hK hS1 hP1 hl
theorem xr_max {z : Nat} {x y : Int32} (hM : xs_good M) (hlk : xs_lk (xm_tb M) pc = some (.invokestatic z, 3, lit, t)) (hw : Jvm.Cond.methodLink (xm_own M) z Lib.Math.max.name ∈ xw) (hrest : Nat.ble ((rest.map fun v => v.category).sum) 17 = true) (hd : Nat.ble 1 d = true) (hk : xs_R G base d M (pc + 3, lv, .int (if x < y then y else x) :: rest, st) Q) : xs_R G base d M (pc, lv, .int y :: .int x :: rest, st) Q := by
  intro p l e s m args below meth c H locs ls hF hK hS hP hl
  obtain ⟨hx, hb, hr, hml, hown, hts, hlocks⟩ := hF
  have hdg := (xs_dec hM.1 hlk).1
  have hd1 := Nat.le_of_ble_eq_true hd
  have hr1 := Nat.le_of_ble_eq_true hrest
  refine va_mmax hx hb (by rw [hml]; exact hl.1.symm) hown (hts _ hw) (hts _ xs_w_mxs) (hts _ xs_w_mxi) (hts _ xs_w_mxc) hd1 (by rw [xs_v_sum]; show _ ≤ 30 * d; omega) (Nat.zero_le _) (Nat.zero_le _) hdg (hk p l e s m args below meth c H locs ls ⟨hx, hb, hr, hml, hown, hts, hlocks⟩ hK hS hP hl)
theorem xr_d2lb {z : Nat} {b : UInt64} (hM : xs_good M) (hlk : xs_lk (xm_tb M) pc = some (.invokestatic z, 3, lit, t)) (hw : Jvm.Cond.methodLink (xm_own M) z ⟨"java/lang/Double", "doubleToRawLongBits", "(D)J"⟩ ∈ xw) (hrest : rest = []) (hd : Nat.ble 1 d = true) (hk : xs_R G base d M (pc + 3, lv, .long b.toInt64 :: rest, st) Q) : xs_R G base d M (pc, lv, .double b :: rest, st) Q := by
  subst hrest
  intro p l e s m args below meth c H locs ls hF hK hS hP hl
  obtain ⟨hx, hb, hr, hml, hown, hts, hlocks⟩ := hF
  have hdg := (xs_dec hM.1 hlk).1
  have hd1 := Nat.le_of_ble_eq_true hd
  exact vn_d2l hx hb (by rw [hml]; exact hl.1.symm) hown (hts _ hw) (hts _ xs_w_dbn) (hts _ xs_w_dbs) (hts _ xs_w_dbi) hd1 (by show 0 + 15 ≤ 30 * d; omega) hdg (hk p l e s m args below meth c H locs ls ⟨hx, hb, hr, hml, hown, hts, hlocks⟩ hK hS hP hl)
theorem xr_f2ib {z : Nat} {b : UInt32} (hM : xs_good M) (hlk : xs_lk (xm_tb M) pc = some (.invokestatic z, 3, lit, t)) (hw : Jvm.Cond.methodLink (xm_own M) z ⟨"java/lang/Float", "floatToRawIntBits", "(F)I"⟩ ∈ xw) (hrest : rest = []) (hd : Nat.ble 1 d = true) (hk : xs_R G base d M (pc + 3, lv, .int b.toInt32 :: rest, st) Q) : xs_R G base d M (pc, lv, .float b :: rest, st) Q := by
  subst hrest
  intro p l e s m args below meth c H locs ls hF hK hS hP hl
  obtain ⟨hx, hb, hr, hml, hown, hts, hlocks⟩ := hF
  have hdg := (xs_dec hM.1 hlk).1
  have hd1 := Nat.le_of_ble_eq_true hd
  exact vn_f2i hx hb (by rw [hml]; exact hl.1.symm) hown (hts _ hw) (hts _ xs_w_fbn) (hts _ xs_w_fbs) (hts _ xs_w_fbi) hd1 (by show 0 + 15 ≤ 30 * d; omega) hdg (hk p l e s m args below meth c H locs ls ⟨hx, hb, hr, hml, hown, hts, hlocks⟩ hK hS hP hl)
def xs_cnd (i : Instr) (stk : List Value) : Option (Prop × Prop × List Value) := match i with
  | .ifCond .eq _ => match stk with
    | .int x :: rest => some (x = 0, ¬ x = 0, rest)
    | _ => none
  | .ifCond .ne _ => match stk with
    | .int x :: rest => some (¬ x = 0, x = 0, rest)
    | _ => none
  | .ifCond .lt _ => match stk with
    | .int x :: rest => some (x < 0, ¬ x < 0, rest)
    | _ => none
  | .ifCond .ge _ => match stk with
    | .int x :: rest => some (0 ≤ x, ¬ 0 ≤ x, rest)
    | _ => none
  | .ifCond .gt _ => match stk with
    | .int x :: rest => some (0 < x, ¬ 0 < x, rest)
    | _ => none
  | .ifCond .le _ => match stk with
    | .int x :: rest => some (x ≤ 0, ¬ x ≤ 0, rest)
    | _ => none
  | .if_icmp .eq _ => match stk with
    | .int y :: .int x :: rest => some (x = y, ¬ x = y, rest)
    | _ => none
  | .if_icmp .ne _ => match stk with
    | .int y :: .int x :: rest => some (¬ x = y, x = y, rest)
    | _ => none
  | .if_icmp .lt _ => match stk with
    | .int y :: .int x :: rest => some (x < y, ¬ x < y, rest)
    | _ => none
  | .if_icmp .ge _ => match stk with
    | .int y :: .int x :: rest => some (y ≤ x, ¬ y ≤ x, rest)
    | _ => none
  | .if_icmp .gt _ => match stk with
    | .int y :: .int x :: rest => some (y < x, ¬ y < x, rest)
    | _ => none
  | .if_icmp .le _ => match stk with
    | .int y :: .int x :: rest => some (x ≤ y, ¬ x ≤ y, rest)
    | _ => none
  | .ifnull _ => match stk with
    | .ref _ :: rest => some (False, True, rest)
    | _ => none
  | .ifnonnull _ => match stk with
    | .ref _ :: rest => some (True, False, rest)
    | _ => none
  | _ => none
theorem xr_br {i : Instr} {stk : List Value} {P N : Prop} (hM : xs_good M) (hlk : xs_lk (xm_tb M) pc = some (i, 3, lit, t)) (hc : xs_cnd i stk = some (P, N, rest)) (ht : P → xs_R G base d M (t, lv, rest, st) Q) (hf : N → xs_R G base d M (pc + 3, lv, rest, st) Q) : xs_R G base d M (pc, lv, stk, st) Q := by
  intro p l e s m args below meth c H locs ls hF hK hS hP hl
  obtain ⟨hx, hb, hr, hml, hown, hts, hlocks⟩ := hF
  obtain ⟨hdg, hli⟩ := xs_dec hM.1 hlk
  have gt := fun h => ht h p l e s m args below meth c H locs ls ⟨hx, hb, hr, hml, hown, hts, hlocks⟩ hK hS hP hl
  have gf := fun h => hf h p l e s m args below meth c H locs ls ⟨hx, hb, hr, hml, hown, hts, hlocks⟩ hK hS hP hl
  unfold xs_cnd at hc
  split at hc
  · split at hc
    · cases hc; exact lv_if_eq hx hb hdg (of_decide_eq_true hli) gt gf
    · cases hc
  · split at hc
    · cases hc; exact lv_if_ne hx hb hdg (of_decide_eq_true hli) gt gf
    · cases hc
  · split at hc
    · cases hc; exact lv_if_lt hx hb hdg (of_decide_eq_true hli) gt gf
    · cases hc
  · split at hc
    · cases hc; exact lv_if_ge hx hb hdg (of_decide_eq_true hli) gt gf
    · cases hc
  · split at hc
    · cases hc; exact lv_if_gt hx hb hdg (of_decide_eq_true hli) gt gf
    · cases hc
  · split at hc
    · cases hc; exact lv_if_le hx hb hdg (of_decide_eq_true hli) gt gf
    · cases hc
  · split at hc
    · cases hc; exact lv_icmp_eq hx hb hdg (of_decide_eq_true hli) gt gf
    · cases hc
  · split at hc
    · cases hc; exact lv_icmp_ne hx hb hdg (of_decide_eq_true hli) gt gf
    · cases hc
  · split at hc
    · cases hc; exact lv_icmp_lt hx hb hdg (of_decide_eq_true hli) gt gf
    · cases hc
  · split at hc
    · cases hc; exact lv_icmp_ge hx hb hdg (of_decide_eq_true hli) gt gf
    · cases hc
  · split at hc
    · cases hc; exact lv_icmp_gt hx hb hdg (of_decide_eq_true hli) gt gf
    · cases hc
  · split at hc
    · cases hc; exact lv_icmp_le hx hb hdg (of_decide_eq_true hli) gt gf
    · cases hc
  · split at hc
    · cases hc; exact lv_ifnull hx hb hdg (gf trivial)
    · cases hc
  · split at hc
    · cases hc; exact lv_ifnonnull hx hb hdg (of_decide_eq_true hli) (gt trivial)
    · cases hc
  · cases hc
theorem xr_swo {lo hi df : Int} {offs : Array Int} {x : Int32} {tgt : Nat} (hM : xs_good M) (hlk : xs_lk (xm_tb M) pc = some (.tableswitch df lo hi offs, n, lit, t)) (h : x.toInt < lo ∨ hi < x.toInt) (ht : (pc : Int) + df = (tgt : Int)) (hk : xs_R G base d M (tgt, lv, rest, st) Q) : xs_R G base d M (pc, lv, .int x :: rest, st) Q := by
  intro p l e s m args below meth c H locs ls hF hK hS hP hl
  obtain ⟨hx, hb, hr, hml, hown, hts, hlocks⟩ := hF
  have hdg := (xs_dec hM.1 hlk).1
  exact lv_tableOut hx hb hdg h ht (hk p l e s m args below meth c H locs ls ⟨hx, hb, hr, hml, hown, hts, hlocks⟩ hK hS hP hl)
theorem xr_swi {lo hi df off : Int} {offs : Array Int} {x : Int32} {tgt : Nat} (hM : xs_good M) (hlk : xs_lk (xm_tb M) pc = some (.tableswitch df lo hi offs, n, lit, t)) (i : Nat) (h : x.toInt = lo + (i : Int)) (hh : lo + (i : Int) ≤ hi) (ho : offs[i]? = some off) (ht : (pc : Int) + off = (tgt : Int)) (hk : xs_R G base d M (tgt, lv, rest, st) Q) : xs_R G base d M (pc, lv, .int x :: rest, st) Q := by
  intro p l e s m args below meth c H locs ls hF hK hS hP hl
  obtain ⟨hx, hb, hr, hml, hown, hts, hlocks⟩ := hF
  have hdg := (xs_dec hM.1 hlk).1
  exact lv_tableIn hx hb hdg (by omega) (by omega) (by rw [show (x.toInt - lo).toNat = i by omega]; exact ho) ht (hk p l e s m args below meth c H locs ls ⟨hx, hb, hr, hml, hown, hts, hlocks⟩ hK hS hP hl)
theorem xr_iret {x : Int32} (hM : xs_good M) (hlk : xs_lk (xm_tb M) pc = some (.ireturn, 1, lit, t)) (hret : xm_ret M = some .int) (hq : Q (some (.int x)) st) : xs_R G base d M (pc, lv, [.int x], st) Q := by
  intro p l e s m args below meth c H locs ls hF hK hS hP hl
  obtain ⟨hx, hb, hr, hml, hown, hts, hlocks⟩ := hF
  have hdg := (xs_dec hM.1 hlk).1
  exact W.iret hx hb (by rw [hr, hret]) (fun t ht hW => ⟨⟨some (.int x), st, rfl, hq, by rw [ht]; exact hP⟩, hS.F ht⟩) hS.2.2 hdg
theorem xr_lret {x : Int64} (hM : xs_good M) (hlk : xs_lk (xm_tb M) pc = some (.lreturn, 1, lit, t)) (hret : xm_ret M = some .long) (hq : Q (some (.long x)) st) : xs_R G base d M (pc, lv, [.long x], st) Q := by
  intro p l e s m args below meth c H locs ls hF hK hS hP hl
  obtain ⟨hx, hb, hr, hml, hown, hts, hlocks⟩ := hF
  have hdg := (xs_dec hM.1 hlk).1
  exact W.lret hx hb (by rw [hr, hret]) (fun t ht hW => ⟨⟨some (.long x), st, rfl, hq, by rw [ht]; exact hP⟩, hS.F ht⟩) hS.2.2 hdg
theorem xr_fret {x : UInt32} (hM : xs_good M) (hlk : xs_lk (xm_tb M) pc = some (.freturn, 1, lit, t)) (hret : xm_ret M = some .float) (hq : Q (some (.float x)) st) : xs_R G base d M (pc, lv, [.float x], st) Q := by
  intro p l e s m args below meth c H locs ls hF hK hS hP hl
  obtain ⟨hx, hb, hr, hml, hown, hts, hlocks⟩ := hF
  have hdg := (xs_dec hM.1 hlk).1
  exact W.fret hx hb (by rw [hr, hret]) (fun t ht hW => ⟨⟨some (.float x), st, rfl, hq, by rw [ht]; exact hP⟩, hS.F ht⟩) hS.2.2 hdg
theorem xr_dret {x : UInt64} (hM : xs_good M) (hlk : xs_lk (xm_tb M) pc = some (.dreturn, 1, lit, t)) (hret : xm_ret M = some .double) (hq : Q (some (.double x)) st) : xs_R G base d M (pc, lv, [.double x], st) Q := by
  intro p l e s m args below meth c H locs ls hF hK hS hP hl
  obtain ⟨hx, hb, hr, hml, hown, hts, hlocks⟩ := hF
  have hdg := (xs_dec hM.1 hlk).1
  exact W.dret hx hb (by rw [hr, hret]) (fun t ht hW => ⟨⟨some (.double x), st, rfl, hq, by rw [ht]; exact hP⟩, hS.F ht⟩) hS.2.2 hdg
theorem xr_zret {x : Int32} {ty : FieldType} (hM : xs_good M) (hlk : xs_lk (xm_tb M) pc = some (.ireturn, 1, lit, t)) (hret : xm_ret M = some ty) (hn : narrow ty (.int x) = .int x) (hq : Q (some (.int x)) st) : xs_R G base d M (pc, lv, [.int x], st) Q := by
  intro p l e s m args below meth c H locs ls hF hK hS hP hl
  obtain ⟨hx, hb, hr, hml, hown, hts, hlocks⟩ := hF
  have hdg := (xs_dec hM.1 hlk).1
  exact W.zret hx hb (by rw [hr, hret]) hn (fun t ht hW => ⟨⟨some (.int x), st, rfl, hq, by rw [ht]; exact hP⟩, hS.F ht⟩) hS.2.2 hdg
theorem xr_vret (hM : xs_good M) (hlk : xs_lk (xm_tb M) pc = some (.return_, 1, lit, t)) (hret : xm_ret M = none) (hq : Q none st) : xs_R G base d M (pc, lv, [], st) Q := by
  intro p l e s m args below meth c H locs ls hF hK hS hP hl
  obtain ⟨hx, hb, hr, hml, hown, hts, hlocks⟩ := hF
  have hdg := (xs_dec hM.1 hlk).1
  exact W.vret hx hb (by rw [hr, hret]) (fun t ht hW => ⟨⟨none, st, rfl, hq, by rw [ht]; exact hP⟩, hS.F ht⟩) hS.2.2 hdg
theorem xr_aret {k : Nat} {ty : String} (hM : xs_good M) (hlk : xs_lk (xm_tb M) pc = some (.areturn, 1, lit, t)) (hret : xm_ret M = some (.object ty)) (hq : Q (some (.ref k)) st) : xs_R G base d M (pc, lv, [.ref k], st) Q := by
  intro p l e s m args below meth c H locs ls hF hK hS hP hl
  obtain ⟨hx, hb, hr, hml, hown, hts, hlocks⟩ := hF
  have hdg := (xs_dec hM.1 hlk).1
  exact W.aret hx hb (by rw [hr, hret]) (Or.inl ⟨_, rfl⟩) (Or.inr ⟨_, rfl⟩) (fun t ht hW => ⟨⟨some (.ref k), st, rfl, hq, by rw [ht]; exact hP⟩, hS.F ht⟩) hS.2.2 hdg
theorem xs_callW {p : Program} {l : Launch} {e : Env} {s : State} {m : MethodId} {args : Array Value} {below : List Frame} {meth : Method} {c : Code} {H : Heap} {locs : List Loc} {ls : Array Slot} {st0 : List Value} {a : Array Value} {Q' : Option Value → xs_S → Prop} (hx : p.tables.exec = Jvm.exec) (hF : xs_F M p s m args meth c) (hK : xs_Kn G base s) (hS : va_S (fun q => base ≤ q) s.heap H locs) (hl : lv_has ls (xm_nL M) (lv.map (fun q => (q.1, xs_v G q.2))))
    (hr : va_Run p l e (xs_rm d) s m args below meth c H locs 0 0 0 0 (F0 m pc ls st0) (rest.map (xs_v G)) (xs_Q G base Q' a) (fun q => base ≤ q))
    (hk : ∀ r u, Q' r u → xs_R G base d M (pc + 3, lv, r.toList ++ rest, u) Q) : W p l e (xs_rm d) s m args below meth c H locs 0 0 (MQ below (xs_Q G base Q) args s 0 0 (fun q => base ≤ q)) (F0 m pc ls st0) := by
  intro T hT X
  obtain ⟨v, s0, t, T', L, h0, X', hL, e1, e2, ⟨⟨r, u, hv, hq, hP⟩, hz, hkeep⟩, go⟩ := hr T hT X
  cases hv
  rw [h0] at hz hkeep
  have hS' : va_S (fun q => base ≤ q) s.heap T'.heap (locs ++ L) := by
    refine ⟨Nat.le_trans hS.1 (by rw [e1]; exact hz), fun q h1 h2 => ?_, fun q hq => ?_⟩
    · rw [e1, hkeep q (Nat.lt_of_lt_of_le h1 hS.1) h2]
      exact hS.2.1 q h1 h2
    · rcases List.mem_append.mp hq with h | h
      · exact hS.2.2 q h
      · exact hL q h
  have hg := hk r u hq p l e s m args below meth c T'.heap (locs ++ L) ls hF hK hS' (by rw [e1]; exact hP) hl
  have e3 : (r.toList ++ rest).map (xs_v G) = (r.map (xs_v G)).toList ++ rest.map (xs_v G) := by
    rw [List.map_append]
    cases r <;> rfl
  dsimp only at hg
  rw [e3] at hg
  obtain ⟨t2, a1, b1⟩ := hg T' rfl X'
  exact ⟨t2, go t2 a1, b1⟩
theorem xs_callB {s : State} {args : Array Value} {i d' : Nat} {N : xs_M} (hN : xs_MOK N) (hts : ∀ w ∈ xw, w.before args s = true) (hl : Jvm.Cond.methodLink (xm_own M) i (xm_y N) ∈ xw) (hd : d' + 1 ≤ d) : CallB (xs_rm d) s args (xm_own M) i (xm_y N) (xm_c N) (xm_nL N) (xm_ret N) (xs_wsM N) (xs_rm d') 0 0 (xm_n N) := by
  have hG := gw_goodIn hN (fun _ h => h)
  obtain ⟨-, h2, ⟨-, h3, h4, h5, h6, h7⟩, h8⟩ := hN
  exact callB_of (ws' := xw) (xm_n N) hts hG rfl rfl rfl (by rw [h3]; exact hts _ h8) (hts _ hl) ⟨h4, h5, h7⟩ ⟨by show d' + 1 ≤ d; exact hd, by show 8 + (xm_nL N + 11) + 30 * d' ≤ 30 * d; omega⟩
theorem xs_blind {av : List Value} {st : xs_S} : FrameBlind (va_Pc (av.map (xs_v G)) (fun U => xs_Kn G base U ∧ va_P G.2.1 vwCl (xs_ws G st) U.heap)) := by
  intro a U g mk q
  obtain ⟨h1, h2, h3⟩ := q
  exact ⟨h1, xs_Kn.same (s := U) (U := U.calling g mk a) rfl h2, h3⟩
theorem xr_callV {i b d' : Nat} {N : xs_M} {av stk : List Value} {sl : List (Option Nat)} {T : u_T} {NN : Nat} {Q' : Option Value → xs_S → Prop} (hM : xs_good M) (hN : xs_good N) (hk : xs_kV (xm_own M) i N) (hlk : xs_lk (xm_tb M) pc = some (.invokevirtual i, 3, lit, t)) (hK' : xs_K G base d' N (.ref b :: av) st Q') (hd : d' + 1 ≤ d) (hstk : stk = av.reverse ++ .ref b :: rest) (hsh : xs_sh b = some (.inr (xm_ci N, sl))) (hcl : vwCl[xm_ci N]? = some (xm_own N, T, NN)) (hn : av.length = xm_n N) (hcat : Nat.ble ((rest.map fun v => v.category).sum) 8 = true) (kk : ∀ r u, Q' r u → xs_R G base d M (pc + 3, lv, r.toList ++ rest, u) Q) : xs_R G base d M (pc, lv, stk, st) Q := by
  subst hstk
  intro p l e s m args below meth c H locs ls hF hK hS hP hl
  have hF' := hF
  obtain ⟨hx, hb, hr, hml, hown, hts, hlocks⟩ := hF
  have hdg := (xs_dec hM.1 hlk).1
  have he := xs_ws_at (G := G) (st := st) (xs_sh_lt hsh)
  rw [xs_cell_o hsh] at he
  have hy := hN.1.2.2.1.2.1
  refine xs_callW (Q' := Q') (rest := rest) (lv := lv) (a := (Value.ref (G.1 b) :: av.map (xs_v G)).toArray) hx hF' hK hS hl ?_ kk
  refine va_runV (C := xm_own N) (n := xm_n N) (As := av.map (xs_v G)) (rest := rest.map (xs_v G)) (b := G.1 b) (Ts := xw) ⟨hx, hb, hml, hown, hts⟩ (hK' l) ⟨xs_callB hN.1 hts hk.1 hd, hts _ hk.2.1, hts _ hk.2.2⟩ ⟨xs_blind, va_recv hK.2.1 hP hcl he, fun U hU hW => ⟨rfl, xs_Kn.warm hW hK, by rw [hU]; exact hP⟩⟩ rfl (by rw [List.length_map]; exact hn) hl.1 (by show ((av.reverse ++ Value.ref b :: rest).map (xs_v G)) = _; rw [List.map_append, List.map_reverse]; rfl) (lv_room (by rw [xs_v_sum]; exact Nat.le_of_ble_eq_true hcat)) hdg ⟨Nat.zero_le _, Nat.zero_le _⟩
theorem xr_callS {i d' : Nat} {N : xs_M} {av stk : List Value} {Q' : Option Value → xs_S → Prop} (hM : xs_good M) (hN : xs_good N) (hk : xs_kS (xm_own M) i N) (hlk : xs_lk (xm_tb M) pc = some (.invokestatic i, 3, lit, t)) (hK' : xs_K G base d' N av st Q') (hd : d' + 1 ≤ d) (hstk : stk = av.reverse ++ rest) (hn : av.length = xm_n N) (hcat : Nat.ble ((rest.map fun v => v.category).sum) 8 = true) (kk : ∀ r u, Q' r u → xs_R G base d M (pc + 3, lv, r.toList ++ rest, u) Q) : xs_R G base d M (pc, lv, stk, st) Q := by
  subst hstk
  intro p l e s m args below meth c H locs ls hF hK hS hP hl
  have hF' := hF
  obtain ⟨hx, hb, hr, hml, hown, hts, hlocks⟩ := hF
  have hdg := (xs_dec hM.1 hlk).1
  refine xs_callW (Q' := Q') (rest := rest) (lv := lv) (a := (av.map (xs_v G)).toArray) hx hF' hK hS hl ?_ kk
  refine va_runS (n := xm_n N) (As := av.map (xs_v G)) (rest := rest.map (xs_v G)) (Ts := xw) ⟨hx, hb, hml, hown, hts⟩ (hK' l) ⟨xs_callB hN.1 hts hk.1 hd, hts _ hk.2⟩ ⟨xs_blind, fun U hU hW => ⟨rfl, xs_Kn.warm hW hK, by rw [hU]; exact hP⟩⟩ rfl (by rw [List.length_map]; exact hn) hl.1 (by show ((av.reverse ++ rest).map (xs_v G)) = _; rw [List.map_append, List.map_reverse]) (lv_room (by rw [xs_v_sum]; exact Nat.le_of_ble_eq_true hcat)) hdg ⟨Nat.zero_le _, Nat.zero_le _⟩
/-- the one call of a nest mate's private method: History.keep calls isError -/
theorem xr_callN {d' : Nat} {av stk : List Value} {Q' : Option Value → xs_S → Prop} (hM : xs_good M) (hown' : xm_own M = RX2) (hN : xs_good M_X6_isError) (hlk : xs_lk (xm_tb M) pc = some (.invokestatic 39, 3, lit, t)) (hK' : xs_K G base d' M_X6_isError av st Q') (hd : d' + 1 ≤ d) (hstk : stk = av.reverse ++ rest) (hn : av.length = 1) (hcat : Nat.ble ((rest.map fun v => v.category).sum) 8 = true) (kk : ∀ r u, Q' r u → xs_R G base d M (pc + 3, lv, r.toList ++ rest, u) Q) : xs_R G base d M (pc, lv, stk, st) Q := by
  subst hstk
  intro p l e s m args below meth c H locs ls hF hK hS hP hl
  have hF' := hF
  obtain ⟨hx, hb, hr, hml, hown, hts, hlocks⟩ := hF
  rw [hown'] at hown
  have hdg := (xs_dec hM.1 hlk).1
  refine xs_callW (Q' := Q') (rest := rest) (lv := lv) (a := (av.map (xs_v G)).toArray) hx hF' hK hS hl ?_ kk
  have hcn := va_cnB (R := xs_rm d) (args := args) (ws' := xw) (rm := xs_rm d') (mc := 0) (ms := 0) (n := 1) hts (gw_goodIn hN.1 (fun _ h => h)) rfl rfl rfl hK.2.2 (hts _ (by have h8 := hN.1.2.2.2; exact h8)) (by decide +kernel) ⟨by show d' + 1 ≤ d; exact hd, by show 8 + (1 + 11) + 30 * d' ≤ 30 * d; omega⟩
  refine va_runSN (n := 1) (As := av.map (xs_v G)) (rest := rest.map (xs_v G)) (Ts := xw) ⟨hx, hb, hml, hown, hts⟩ (hK' l) ⟨hcn, hts _ xs_w_ise, trivial⟩ ⟨xs_blind, fun U hU hW => ⟨rfl, xs_Kn.warm hW hK, by rw [hU]; exact hP⟩⟩ rfl (by rw [List.length_map]; exact hn) hl.1 (by show ((av.reverse ++ rest).map (xs_v G)) = _; rw [List.map_append, List.map_reverse]) (lv_room (by rw [xs_v_sum]; exact Nat.le_of_ble_eq_true hcat)) hdg ⟨Nat.zero_le _, Nat.zero_le _⟩
end XM
/-- one instruction: what xs_step does, and fields -/
def xs_stepF (nL ci : Nat) (pc : Nat) (r : Instr × Nat × Int32 × Nat) (lv : List (Nat × Value)) (stk : List Value) (st : xs_S) : Option xs_C := match r with
  | (.getfield z, 3, _, _) => match stk with
    | .ref k :: rest => match xs_sh k, xs_fnd (xs_fld ci) z with
      | some (.inr (cj, sl)), some (i, _) => match Nat.beq cj ci, xs_nth sl i with
        | true, some none => some (pc + 3, lv, .int (st k i) :: rest, st)
        | true, some (some o) => some (pc + 3, lv, .ref o :: rest, st)
        | _, _ => none
      | _, _ => none
    | _ => none
  | (.putfield z, 3, _, _) => match stk with
    | .int v :: .ref k :: rest => match xs_sh k, xs_fnd (xs_fld ci) z with
      | some (.inr (cj, sl)), some (i, true) => match Nat.beq cj ci, xs_nth sl i with
        | true, some none => some (pc + 3, lv, rest, xs_u st k i v)
        | _, _ => none
      | _, _ => none
    | _ => none
  | _ => xs_step nL pc r lv stk st
theorem xs_stepF_ok {G : xs_G} {base d : Nat} {M : xs_M} {pc : Nat} {r : Instr × Nat × Int32 × Nat} {lv : List (Nat × Value)} {stk : List Value} {st : xs_S} {c' : xs_C} {Q : Option Value → xs_S → Prop} (hM : xs_good M) (hlk : xs_lk (xm_tb M) pc = some r) (h : xs_stepF (xm_nL M) (xm_ci M) pc r lv stk st = some c') (hk : xs_R G base d M c' Q) : xs_R G base d M (pc, lv, stk, st) Q := by
  unfold xs_stepF at h
  split at h
  · split at h
    · split at h
      · rename_i cj sl i b h1 h2
        split at h
        · rename_i h3 h4
          cases h
          have h5 := Nat.eq_of_beq_eq_true h3
          subst h5
          exact xr_geti hM hlk h1 h2 h4 hk
        · rename_i o h3 h4
          cases h
          have h5 := Nat.eq_of_beq_eq_true h3
          subst h5
          exact xr_getr hM hlk h1 h2 h4 hk
        · cases h
      · cases h
    · cases h
  · split at h
    · split at h
      · rename_i cj sl i h1 h2
        split at h
        · rename_i h3 h4
          cases h
          have h5 := Nat.eq_of_beq_eq_true h3
          subst h5
          exact xr_puti hM hlk h1 h2 h4 hk
        · cases h
      · cases h
    · cases h
  · exact xs_step_ok hM.1 hlk h hk
def xs_runF (M : xs_M) : Nat → xs_C → Option xs_C
  | 0, c => some c
  | n + 1, (pc, lv, stk, st) => match xs_lk (xm_tb M) pc with
    | none => none
    | some r => match xs_stepF (xm_nL M) (xm_ci M) pc r lv stk st with
      | none => none
      | some c => xs_runF M n c
theorem xr_blk {G : xs_G} {base d : Nat} {M : xs_M} (hM : xs_good M) {Q : Option Value → xs_S → Prop} {c' : xs_C} (n : Nat) : ∀ {cf : xs_C}, xs_runF M n cf = some c' → xs_R G base d M c' Q → xs_R G base d M cf Q := by
  induction n with
  | zero => intro cf h hk; cases h; exact hk
  | succ n ih =>
    intro cf h hk
    obtain ⟨pc, lv, stk, st⟩ := cf
    unfold xs_runF at h
    split at h
    · cases h
    · rename_i r hr
      split at h
      · cases h
      · rename_i c2 h2
        exact xs_stepF_ok hM hr h2 (ih h hk)
theorem gd_X0_ofDouble : xs_good M_X0_ofDouble := ⟨ok_X0_ofDouble, (fun _ h => absurd h List.not_mem_nil)⟩
theorem gd_X0_ofFloat : xs_good M_X0_ofFloat := ⟨ok_X0_ofFloat, (fun _ h => absurd h List.not_mem_nil)⟩
theorem gd_X1_copy : xs_good M_X1_copy := ⟨ok_X1_copy, fok_X1⟩
theorem gd_X1_now : xs_good M_X1_now := ⟨ok_X1_now, fok_X1⟩
theorem gd_X1_dials : xs_good M_X1_dials := ⟨ok_X1_dials, fok_X1⟩
theorem gd_X1_hasDial : xs_good M_X1_hasDial := ⟨ok_X1_hasDial, fok_X1⟩
theorem gd_X1_hasReading : xs_good M_X1_hasReading := ⟨ok_X1_hasReading, fok_X1⟩
theorem gd_X1_isStruck : xs_good M_X1_isStruck := ⟨ok_X1_isStruck, fok_X1⟩
theorem gd_X1_dialsWithSpans : xs_good M_X1_dialsWithSpans := ⟨ok_X1_dialsWithSpans, fok_X1⟩
theorem gd_X1_hasSpan : xs_good M_X1_hasSpan := ⟨ok_X1_hasSpan, fok_X1⟩
theorem gd_X1_lowEnd : xs_good M_X1_lowEnd := ⟨ok_X1_lowEnd, fok_X1⟩
theorem gd_X1_highEnd : xs_good M_X1_highEnd := ⟨ok_X1_highEnd, fok_X1⟩
theorem gd_X1_ageAt : xs_good M_X1_ageAt := ⟨ok_X1_ageAt, fok_X1⟩
theorem gd_X1_reach : xs_good M_X1_reach := ⟨ok_X1_reach, fok_X1⟩
theorem gd_X1_changeSetting : xs_good M_X1_changeSetting := ⟨ok_X1_changeSetting, fok_X1⟩
theorem gd_X1_addDial : xs_good M_X1_addDial := ⟨ok_X1_addDial, fok_X1⟩
theorem gd_X1_takeReading : xs_good M_X1_takeReading := ⟨ok_X1_takeReading, fok_X1⟩
theorem gd_X1_letPass : xs_good M_X1_letPass := ⟨ok_X1_letPass, fok_X1⟩
theorem gd_X1_judge : xs_good M_X1_judge := ⟨ok_X1_judge, fok_X1⟩
theorem gd_X1_countLie : xs_good M_X1_countLie := ⟨ok_X1_countLie, fok_X1⟩
theorem gd_X1_about : xs_good M_X1_about := ⟨ok_X1_about, fok_X1⟩
theorem gd_X1_number : xs_good M_X1_number := ⟨ok_X1_number, fok_X1⟩
theorem gd_X2_size : xs_good M_X2_size := ⟨ok_X2_size, fok_X2⟩
theorem gd_X2_placeOf : xs_good M_X2_placeOf := ⟨ok_X2_placeOf, fok_X2⟩
theorem gd_X2_draft : xs_good M_X2_draft := ⟨ok_X2_draft, fok_X2⟩
theorem gd_X2_keep : xs_good M_X2_keep := ⟨ok_X2_keep, fok_X2⟩
theorem gd_X2_takeBack : xs_good M_X2_takeBack := ⟨ok_X2_takeBack, fok_X2⟩
theorem gd_X3_signsIn : xs_good M_X3_signsIn := ⟨ok_X3_signsIn, fok_X3⟩
theorem gd_X3_isSign : xs_good M_X3_isSign := ⟨ok_X3_isSign, fok_X3⟩
theorem gd_X3_append : xs_good M_X3_append := ⟨ok_X3_append, fok_X3⟩
theorem gd_X3_clear : xs_good M_X3_clear := ⟨ok_X3_clear, fok_X3⟩
theorem gd_X3_length : xs_good M_X3_length := ⟨ok_X3_length, fok_X3⟩
theorem gd_X3_kind : xs_good M_X3_kind := ⟨ok_X3_kind, fok_X3⟩
theorem gd_X3_first : xs_good M_X3_first := ⟨ok_X3_first, fok_X3⟩
theorem gd_X3_second : xs_good M_X3_second := ⟨ok_X3_second, fok_X3⟩
theorem gd_X3_third : xs_good M_X3_third := ⟨ok_X3_third, fok_X3⟩
theorem gd_X3_firstFault : xs_good M_X3_firstFault := ⟨ok_X3_firstFault, fok_X3⟩
theorem gd_X3_startReading : xs_good M_X3_startReading := ⟨ok_X3_startReading, fok_X3⟩
theorem gd_X3_nextOrder : xs_good M_X3_nextOrder := ⟨ok_X3_nextOrder, fok_X3⟩
theorem gd_X3_takeFirst : xs_good M_X3_takeFirst := ⟨ok_X3_takeFirst, fok_X3⟩
theorem gd_X3_takeSecond : xs_good M_X3_takeSecond := ⟨ok_X3_takeSecond, fok_X3⟩
theorem gd_X3_takeThird : xs_good M_X3_takeThird := ⟨ok_X3_takeThird, fok_X3⟩
theorem gd_X3_takeNumber : xs_good M_X3_takeNumber := ⟨ok_X3_takeNumber, fok_X3⟩
theorem gd_X3_withDigit : xs_good M_X3_withDigit := ⟨ok_X3_withDigit, fok_X3⟩
theorem gd_X3_isDigit : xs_good M_X3_isDigit := ⟨ok_X3_isDigit, fok_X3⟩
theorem gd_X3_take : xs_good M_X3_take := ⟨ok_X3_take, fok_X3⟩
theorem gd_X3_sign : xs_good M_X3_sign := ⟨ok_X3_sign, fok_X3⟩
theorem gd_X4_hasSlot : xs_good M_X4_hasSlot := ⟨ok_X4_hasSlot, fok_X4⟩
theorem gd_X4_isFilled : xs_good M_X4_isFilled := ⟨ok_X4_isFilled, fok_X4⟩
theorem gd_X4_keepIn : xs_good M_X4_keepIn := ⟨ok_X4_keepIn, fok_X4⟩
theorem gd_X4_giveBack : xs_good M_X4_giveBack := ⟨ok_X4_giveBack, fok_X4⟩
theorem gd_X5_gather : xs_good M_X5_gather := ⟨ok_X5_gather, fok_X5⟩
theorem gd_X5_size : xs_good M_X5_size := ⟨ok_X5_size, fok_X5⟩
theorem gd_X5_isEmpty : xs_good M_X5_isEmpty := ⟨ok_X5_isEmpty, fok_X5⟩
theorem gd_X5_has : xs_good M_X5_has := ⟨ok_X5_has, fok_X5⟩
theorem gd_X5_howManyAt : xs_good M_X5_howManyAt := ⟨ok_X5_howManyAt, fok_X5⟩
theorem gd_X5_dialsAt : xs_good M_X5_dialsAt := ⟨ok_X5_dialsAt, fok_X5⟩
theorem gd_X5_most : xs_good M_X5_most := ⟨ok_X5_most, fok_X5⟩
theorem gd_X5_firstTimeOf : xs_good M_X5_firstTimeOf := ⟨ok_X5_firstTimeOf, fok_X5⟩
theorem gd_X5_lastTimeOf : xs_good M_X5_lastTimeOf := ⟨ok_X5_lastTimeOf, fok_X5⟩
theorem gd_X5_bestLow : xs_good M_X5_bestLow := ⟨ok_X5_bestLow, fok_X5⟩
theorem gd_X5_bestHigh : xs_good M_X5_bestHigh := ⟨ok_X5_bestHigh, fok_X5⟩
theorem gd_X5_hour : xs_good M_X5_hour := ⟨ok_X5_hour, fok_X5⟩
theorem gd_X5_ends : xs_good M_X5_ends := ⟨ok_X5_ends, fok_X5⟩
theorem gd_X5_endKey : xs_good M_X5_endKey := ⟨ok_X5_endKey, fok_X5⟩
theorem gd_X5_keysBelow : xs_good M_X5_keysBelow := ⟨ok_X5_keysBelow, fok_X5⟩
theorem gd_X5_keyAt : xs_good M_X5_keyAt := ⟨ok_X5_keyAt, fok_X5⟩
theorem gd_X5_keyOf : xs_good M_X5_keyOf := ⟨ok_X5_keyOf, fok_X5⟩
theorem gd_X5_timeOfKey : xs_good M_X5_timeOfKey := ⟨ok_X5_timeOfKey, fok_X5⟩
theorem gd_X5_sideOfKey : xs_good M_X5_sideOfKey := ⟨ok_X5_sideOfKey, fok_X5⟩
theorem gd_X5_dialOfKey : xs_good M_X5_dialOfKey := ⟨ok_X5_dialOfKey, fok_X5⟩
theorem gd_X5_weightedMean : xs_good M_X5_weightedMean := ⟨ok_X5_weightedMean, fok_X5⟩
theorem gd_X5_honestShare : xs_good M_X5_honestShare := ⟨ok_X5_honestShare, fok_X5⟩
theorem gd_X6_set : xs_good M_X6_set := ⟨ok_X6_set, fok_X6⟩
theorem gd_X6_dial : xs_good M_X6_dial := ⟨ok_X6_dial, fok_X6⟩
theorem gd_X6_read : xs_good M_X6_read := ⟨ok_X6_read, fok_X6⟩
theorem gd_X6_pass : xs_good M_X6_pass := ⟨ok_X6_pass, fok_X6⟩
theorem gd_X6_agree : xs_good M_X6_agree := ⟨ok_X6_agree, fok_X6⟩
theorem gd_X6_findHour : xs_good M_X6_findHour := ⟨ok_X6_findHour, fok_X6⟩
theorem gd_X6_gatherNow : xs_good M_X6_gatherNow := ⟨ok_X6_gatherNow, fok_X6⟩
theorem gd_X6_isError : xs_good M_X6_isError := ⟨ok_X6_isError, fok_X6⟩
theorem gd_X6_of : xs_good M_X6_of := ⟨ok_X6_of, fok_X6⟩
theorem gd_X6_best : xs_good M_X6_best := ⟨ok_X6_best, fok_X6⟩
theorem gd_X6_end : xs_good M_X6_end := ⟨ok_X6_end, fok_X6⟩
theorem gd_X6_overlap : xs_good M_X6_overlap := ⟨ok_X6_overlap, fok_X6⟩
theorem gd_X6_count : xs_good M_X6_count := ⟨ok_X6_count, fok_X6⟩
theorem gd_X6_mean : xs_good M_X6_mean := ⟨ok_X6_mean, fok_X6⟩
theorem gd_X6_share : xs_good M_X6_share := ⟨ok_X6_share, fok_X6⟩
theorem gd_X6_allowing : xs_good M_X6_allowing := ⟨ok_X6_allowing, fok_X6⟩
theorem gd_X6_fewest : xs_good M_X6_fewest := ⟨ok_X6_fewest, fok_X6⟩
theorem gd_X6_widerIn : xs_good M_X6_widerIn := ⟨ok_X6_widerIn, fok_X6⟩
theorem gd_X6_hoursTooEarly : xs_good M_X6_hoursTooEarly := ⟨ok_X6_hoursTooEarly, fok_X6⟩
theorem gd_X6_without : xs_good M_X6_without := ⟨ok_X6_without, fok_X6⟩
theorem gd_X6_put : xs_good M_X6_put := ⟨ok_X6_put, fok_X6⟩
theorem gd_X6_wipe : xs_good M_X6_wipe := ⟨ok_X6_wipe, fok_X6⟩
theorem gd_X6_fault : xs_good M_X6_fault := ⟨ok_X6_fault, fok_X6⟩
theorem gd_X6_carryOut : xs_good M_X6_carryOut := ⟨ok_X6_carryOut, fok_X6⟩
theorem gd_X6_carryOrder : xs_good M_X6_carryOrder := ⟨ok_X6_carryOrder, fok_X6⟩
theorem gd_X6_undo : xs_good M_X6_undo := ⟨ok_X6_undo, fok_X6⟩
theorem gd_X6_save : xs_good M_X6_save := ⟨ok_X6_save, fok_X6⟩
theorem gd_X6_restore : xs_good M_X6_restore := ⟨ok_X6_restore, fok_X6⟩
theorem gd_X7_in : xs_good M_X7_in := ⟨ok_X7_in, fok_X7⟩
theorem gd_X7_isDial : xs_good M_X7_isDial := ⟨ok_X7_isDial, fok_X7⟩
theorem gd_X7_its : xs_good M_X7_its := ⟨ok_X7_its, fok_X7⟩
theorem gd_X7_lay : xs_good M_X7_lay := ⟨ok_X7_lay, fok_X7⟩
theorem gd_X7_size : xs_good M_X7_size := ⟨ok_X7_size, fok_X7⟩
theorem gd_X7_remember : xs_good M_X7_remember := ⟨ok_X7_remember, fok_X7⟩
theorem gd_X7_record : xs_good M_X7_record := ⟨ok_X7_record, fok_X7⟩
theorem gd_X7_undo : xs_good M_X7_undo := ⟨ok_X7_undo, fok_X7⟩
theorem gd_X7_save : xs_good M_X7_save := ⟨ok_X7_save, fok_X7⟩
theorem gd_X7_restore : xs_good M_X7_restore := ⟨ok_X7_restore, fok_X7⟩
theorem gd_X7_layOut : xs_good M_X7_layOut := ⟨ok_X7_layOut, fok_X7⟩
theorem gd_X7_has : xs_good M_X7_has := ⟨ok_X7_has, fok_X7⟩
theorem gd_X7_overlapAt : xs_good M_X7_overlapAt := ⟨ok_X7_overlapAt, fok_X7⟩
theorem gd_X7_lastFrom : xs_good M_X7_lastFrom := ⟨ok_X7_lastFrom, fok_X7⟩
theorem gd_X7_high : xs_good M_X7_high := ⟨ok_X7_high, fok_X7⟩
theorem gd_X7_find : xs_good M_X7_find := ⟨ok_X7_find, fok_X7⟩
theorem gd_X7_seek : xs_good M_X7_seek := ⟨ok_X7_seek, fok_X7⟩
theorem gd_X7_half : xs_good M_X7_half := ⟨ok_X7_half, fok_X7⟩
theorem gd_X7_hour : xs_good M_X7_hour := ⟨ok_X7_hour, fok_X7⟩
theorem gd_X7_comes : xs_good M_X7_comes := ⟨ok_X7_comes, fok_X7⟩
theorem gd_X7_reads : xs_good M_X7_reads := ⟨ok_X7_reads, fok_X7⟩
theorem gd_X7_waits : xs_good M_X7_waits := ⟨ok_X7_waits, fok_X7⟩
theorem gd_X7_agrees : xs_good M_X7_agrees := ⟨ok_X7_agrees, fok_X7⟩
theorem gd_X7_set : xs_good M_X7_set := ⟨ok_X7_set, fok_X7⟩
theorem gd_X7_dial : xs_good M_X7_dial := ⟨ok_X7_dial, fok_X7⟩
theorem gd_X7_read : xs_good M_X7_read := ⟨ok_X7_read, fok_X7⟩
theorem gd_X7_pass : xs_good M_X7_pass := ⟨ok_X7_pass, fok_X7⟩
theorem gd_X7_agree : xs_good M_X7_agree := ⟨ok_X7_agree, fok_X7⟩
theorem gd_X7_of : xs_good M_X7_of := ⟨ok_X7_of, fok_X7⟩
theorem gd_X7_honest : xs_good M_X7_honest := ⟨ok_X7_honest, fok_X7⟩
theorem gd_X7_best : xs_good M_X7_best := ⟨ok_X7_best, fok_X7⟩
theorem gd_X7_timeOf : xs_good M_X7_timeOf := ⟨ok_X7_timeOf, fok_X7⟩
theorem gd_X7_ahead : xs_good M_X7_ahead := ⟨ok_X7_ahead, fok_X7⟩
theorem gd_X7_end : xs_good M_X7_end := ⟨ok_X7_end, fok_X7⟩
theorem gd_X7_overlap : xs_good M_X7_overlap := ⟨ok_X7_overlap, fok_X7⟩
theorem gd_X7_struck : xs_good M_X7_struck := ⟨ok_X7_struck, fok_X7⟩
theorem gd_X7_count : xs_good M_X7_count := ⟨ok_X7_count, fok_X7⟩
theorem gd_X7_mean : xs_good M_X7_mean := ⟨ok_X7_mean, fok_X7⟩
theorem gd_X7_share : xs_good M_X7_share := ⟨ok_X7_share, fok_X7⟩
theorem gd_X7_allowing : xs_good M_X7_allowing := ⟨ok_X7_allowing, fok_X7⟩
theorem gd_X7_fewest : xs_good M_X7_fewest := ⟨ok_X7_fewest, fok_X7⟩
theorem gd_X7_widerIn : xs_good M_X7_widerIn := ⟨ok_X7_widerIn, fok_X7⟩
theorem gd_X7_without : xs_good M_X7_without := ⟨ok_X7_without, fok_X7⟩
theorem gd_X7_put : xs_good M_X7_put := ⟨ok_X7_put, fok_X7⟩
theorem gd_X7_wipe : xs_good M_X7_wipe := ⟨ok_X7_wipe, fok_X7⟩
theorem gd_X7_sees : xs_good M_X7_sees := ⟨ok_X7_sees, fok_X7⟩
theorem gd_X7_takes : xs_good M_X7_takes := ⟨ok_X7_takes, fok_X7⟩
theorem gd_X7_number : xs_good M_X7_number := ⟨ok_X7_number, fok_X7⟩
theorem gd_X7_order : xs_good M_X7_order := ⟨ok_X7_order, fok_X7⟩
theorem gd_X7_isWell : xs_good M_X7_isWell := ⟨ok_X7_isWell, fok_X7⟩
theorem gd_X7_fault : xs_good M_X7_fault := ⟨ok_X7_fault, fok_X7⟩
theorem gd_X7_carryOut : xs_good M_X7_carryOut := ⟨ok_X7_carryOut, fok_X7⟩
theorem gd_Jxe99ae_isNaN_b9ae7 : xs_good M_Jxe99ae_isNaN_b9ae7 := ⟨ok_Jxe99ae_isNaN_b9ae7, (fun _ h => absurd h List.not_mem_nil)⟩
theorem gd_Jxe99ae_doubleToLongBits_ccdee : xs_good M_Jxe99ae_doubleToLongBits_ccdee := ⟨ok_Jxe99ae_doubleToLongBits_ccdee, (fun _ h => absurd h List.not_mem_nil)⟩
theorem gd_Jxf58ca_isNaN_12338 : xs_good M_Jxf58ca_isNaN_12338 := ⟨ok_Jxf58ca_isNaN_12338, (fun _ h => absurd h List.not_mem_nil)⟩
theorem gd_Jxf58ca_floatToIntBits_5c35a : xs_good M_Jxf58ca_floatToIntBits_5c35a := ⟨ok_Jxf58ca_floatToIntBits_5c35a, (fun _ h => absurd h List.not_mem_nil)⟩
theorem gd_J9_floorDiv_7cf53 : xs_good M_J9_floorDiv_7cf53 := ⟨ok_J9_floorDiv_7cf53, (fun _ h => absurd h List.not_mem_nil)⟩
theorem gd_J9_floorMod_7cf53 : xs_good M_J9_floorMod_7cf53 := ⟨ok_J9_floorMod_7cf53, (fun _ h => absurd h List.not_mem_nil)⟩
