/-! one order carried out, on both sides -/
theorem act_e {u w : xs_S} (hC : CR 1 u (w 73)) (hR : RowOK (w 73)) (hK : KD u w) : (F_X6_carryOrder u).1 = (act (u 70 3) w).1 ∧ CR 1 (F_X6_carryOrder u).2 ((act (u 70 3) w).2 73) ∧ RowOK ((act (u 70 3) w).2 73) := by
  unfold F_X6_carryOrder act F_X3_kind F_X3_first F_X3_second F_X3_third
  rcases hK with e | e | ⟨e, e0⟩ | ⟨e, e0, e1, e2⟩
  · rw [if_pos e, if_pos e]
    exact ⟨(p_comes hC hR).1, (p_comes hC hR).2, ro_cm hR⟩
  · rw [e, if_neg (show ¬ ((97 : Int32) = 100) by decide), if_neg (show ¬ ((97 : Int32) = 114) by decide), if_neg (show ¬ ((97 : Int32) = 116) by decide), if_neg (show ¬ ((97 : Int32) = 100) by decide), if_neg (show ¬ ((97 : Int32) = 114) by decide), if_neg (show ¬ ((97 : Int32) = 116) by decide)]
    exact ⟨(p_agrees hC hR).1, (p_agrees hC hR).2, ro_ag hR⟩
  · rw [e, if_neg (show ¬ ((116 : Int32) = 100) by decide), if_neg (show ¬ ((116 : Int32) = 114) by decide), if_pos rfl, if_neg (show ¬ ((116 : Int32) = 100) by decide), if_neg (show ¬ ((116 : Int32) = 114) by decide), if_pos rfl, e0]
    exact ⟨(p_waits hC hR).1, (p_waits hC hR).2, ro_wa hR⟩
  · rw [e, if_neg (show ¬ ((114 : Int32) = 100) by decide), if_pos rfl, if_neg (show ¬ ((114 : Int32) = 100) by decide), if_pos rfl, e0, e1, e2]
    exact ⟨(p_reads hC hR).1, (p_reads hC hR).2, ro_rs hR⟩
