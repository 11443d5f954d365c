/-! what the law asks at its end: calls that are refused -/
theorem rf_hd {T : xs_S} (h : 0 ≤ (T 1 3).toInt ∧ (T 1 3).toInt ≤ 15) : F_X1_hasDial T 15 = 0 := by
  unfold F_X1_hasDial
  rw [if_neg (show ¬ (15 : Int32) < 0 by decide), if_pos (show T 1 3 ≤ 15 by rw [xi_le, show (15 : Int32).toInt = 15 by decide]; exact h.2)]
theorem rf_h0 {T : xs_S} (h : 1 ≤ (T 1 3).toInt) : ¬ F_X1_hasDial T 0 = 0 := by
  unfold F_X1_hasDial
  rw [if_neg (show ¬ (0 : Int32) < 0 by decide), if_neg (show ¬ T 1 3 ≤ 0 by rw [xi_le, xi_0]; omega)]
  decide
section RF
variable {T : xs_S}
theorem rf_1 (h : 0 ≤ (T 1 3).toInt ∧ (T 1 3).toInt ≤ 15) : (F_X6_read T 15 0 0).1 = -1 ∧ (F_X6_read T 15 0 0).2 1 = T 1 := by
  have e : F_X2_draft T 1 = T 1 := dr_o (Or.inl (by decide))
  unfold F_X6_read F_X1_takeReading
  rw [if_pos (rf_hd (T := F_X2_draft T) (by rw [e]; exact h))]
  exact ⟨kp_1, by dsimp only; rw [kp_o (Or.inl (by decide)), e]⟩
theorem rf_2 (h : 1 ≤ (T 1 3).toInt) : (F_X6_read T 0 10000 0).1 = -2 ∧ (F_X6_read T 0 10000 0).2 1 = T 1 := by
  have e : F_X2_draft T 1 = T 1 := dr_o (Or.inl (by decide))
  unfold F_X6_read F_X1_takeReading
  rw [if_neg (rf_h0 (T := F_X2_draft T) (by rw [e]; exact h)), if_neg (show ¬ (10000 : Int32) < 0 by decide), if_pos (show (9999 : Int32) < 10000 by decide)]
  exact ⟨kp_1, by dsimp only; rw [kp_o (Or.inl (by decide)), e]⟩
theorem rf_3 (h : 1 ≤ (T 1 3).toInt) : (F_X6_read T 0 0 301).1 = -2 ∧ (F_X6_read T 0 0 301).2 1 = T 1 := by
  have e : F_X2_draft T 1 = T 1 := dr_o (Or.inl (by decide))
  unfold F_X6_read F_X1_takeReading
  rw [if_neg (rf_h0 (T := F_X2_draft T) (by rw [e]; exact h)), if_neg (show ¬ (0 : Int32) < 0 by decide), if_neg (show ¬ (9999 : Int32) < 0 by decide), if_neg (show ¬ (301 : Int32) < 0 by decide), if_neg (show ¬ (301 : Int32) ≤ 300 by decide)]
  exact ⟨kp_1, by dsimp only; rw [kp_o (Or.inl (by decide)), e]⟩
theorem rf_4 : (F_X6_pass T 1441).1 = -2 ∧ (F_X6_pass T 1441).2 1 = T 1 := by
  have e : F_X2_draft T 1 = T 1 := dr_o (Or.inl (by decide))
  unfold F_X6_pass F_X1_letPass
  rw [if_neg (show ¬ (1441 : Int32) < 1 by decide), if_neg (show ¬ (1441 : Int32) ≤ 1440 by decide)]
  exact ⟨kp_1, by dsimp only; rw [kp_o (Or.inl (by decide)), e]⟩
theorem rf_5 : (F_X6_set T 0 61).1 = -2 ∧ (F_X6_set T 0 61).2 1 = T 1 := by
  have e : F_X2_draft T 1 = T 1 := dr_o (Or.inl (by decide))
  unfold F_X6_set F_X1_changeSetting
  rw [if_pos rfl, if_neg (show ¬ (61 : Int32) < 0 by decide), if_pos (show (60 : Int32) < 61 by decide), if_neg (show ¬ (0 : Int32) = 1 by decide)]
  exact ⟨kp_1, by dsimp only; rw [kp_o (Or.inl (by decide)), e]⟩
theorem rf_6 : (F_X6_set T 1 0).1 = -2 ∧ (F_X6_set T 1 0).2 1 = T 1 := by
  have e : F_X2_draft T 1 = T 1 := dr_o (Or.inl (by decide))
  unfold F_X6_set F_X1_changeSetting
  rw [if_neg (show ¬ (1 : Int32) = 0 by decide), if_pos rfl, if_pos (show (0 : Int32) < 1 by decide)]
  exact ⟨kp_1, by dsimp only; rw [kp_o (Or.inl (by decide)), e]⟩
theorem rf_7 (h : 1 ≤ (T 1 3).toInt) : F_X6_of T 0 7 = -2 := by
  unfold F_X6_of
  rw [if_neg (rf_h0 h)]
  unfold F_X1_about
  rw [if_neg (show ¬ (7 : Int32).toInt = 0 by decide), if_neg (show ¬ (7 : Int32).toInt = 1 by decide), if_neg (show ¬ (7 : Int32).toInt = 2 by decide), if_neg (show ¬ (7 : Int32).toInt = 3 by decide), if_neg (show ¬ (7 : Int32).toInt = 4 by decide), if_neg (show ¬ (7 : Int32).toInt = 5 by decide), if_neg (show ¬ (7 : Int32).toInt = 6 by decide)]
theorem rf_8 : (F_X6_best T 5).1 = -2 := by
  unfold F_X6_best
  rw [if_neg (show ¬ (5 : Int32) < 0 by decide), if_neg (show ¬ (5 : Int32) ≤ 4 by decide)]
theorem rf_9 : (F_X6_overlap T 300000).1 = -2 := by
  unfold F_X6_overlap
  rw [if_neg (show ¬ (300000 : Int32) < -99999 by decide), if_neg (show ¬ (300000 : Int32) ≤ 299999 by decide)]
theorem rf_10 : (F_X6_allowing T 15 0).1 = -2 := by
  unfold F_X6_allowing
  rw [if_neg (show ¬ (15 : Int32) < 0 by decide), if_pos (show (15 : Int32) ≤ 15 by decide)]
theorem rf_11 : (F_X6_widerIn T 16).1 = -2 := by
  unfold F_X6_widerIn
  rw [if_neg (show ¬ (16 : Int32) < 1 by decide), if_neg (show ¬ (16 : Int32) ≤ 15 by decide)]
theorem rf_12 (h : 0 ≤ (T 1 3).toInt ∧ (T 1 3).toInt ≤ 15) : (F_X6_without T 15).1 = -1 := by
  unfold F_X6_without
  rw [if_pos (rf_hd h)]
theorem rf_13 : F_X6_count T 10 = -2 := rfl
end RF
