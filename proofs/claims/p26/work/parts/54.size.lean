theorem f1_endsl {nn : Int32} : ∀ (n : Nat) (x : Int32) (s : xs_S) (k : Nat), k ≠ 73 → lp_L_ends_7 nn n x s k = s k := by
  intro n
  induction n with
  | zero => intro x s k h; rfl
  | succ n ih =>
    intro x s k h
    unfold lp_L_ends_7
    repeat' split
    all_goals first | with_reducible rfl | rw [ih _ _ _ h, xs_rd_k h]
theorem f_ends {st : xs_S} {nn : Int32} {k : Nat} (h : k ≠ 73) : F_L_ends st nn k = st k := by
  unfold F_L_ends
  rw [f1_endsl _ _ _ _ h, xs_ur_n h]
theorem f1_ends {st : xs_S} {nn : Int32} : F_L_ends st nn 1 = st 1 := f_ends (by decide)
theorem m31 : (2147483647 : Int32) = Int32.ofNat 2147483647 := by decide
/-- what is below 2^31 by its bits -/
theorem and_nn (v : Int32) : 0 ≤ (v &&& 2147483647).toInt := by
  have h : (v &&& 2147483647).toBitVec.msb = false := by
    rw [Int32.toBitVec_and, BitVec.msb_and]
    rw [show (2147483647 : Int32).toBitVec.msb = false by decide, Bool.and_false]
  rw [BitVec.msb_eq_toInt] at h
  have h2 := of_decide_eq_false h
  show 0 ≤ (v &&& 2147483647).toBitVec.toInt
  omega
theorem low_b {st : xs_S} {v n : Int32} (hn : 0 < n.toInt) : 0 ≤ (F_L_low st v n).toInt ∧ (F_L_low st v n).toInt < n.toInt := by
  unfold F_L_low
  have h0 := and_nn v
  generalize v &&& 2147483647 = w at h0 ⊢
  have hw := xi_b w
  have e1 : w.toInt.tdiv n.toInt = w.toInt / n.toInt := Int.tdiv_eq_ediv_of_nonneg h0
  have d0 : 0 ≤ w.toInt / n.toInt := Int.ediv_nonneg h0 (by omega)
  have d1 : w.toInt / n.toInt ≤ w.toInt := Int.ediv_le_self _ h0
  have e2 : (w / n).toInt = w.toInt / n.toInt := by rw [xi_div (by rw [e1]; omega), e1]
  have m0 := Int.emod_nonneg w.toInt (show n.toInt ≠ 0 by omega)
  have m1 := Int.emod_lt_of_pos w.toInt hn
  have m2 := Int.emod_add_ediv_mul w.toInt n.toInt
  have p0 : 0 ≤ w.toInt / n.toInt * n.toInt := Int.mul_nonneg d0 (by omega)
  have e3 : (w / n * n).toInt = w.toInt / n.toInt * n.toInt := by rw [xi_mul (by rw [e2]; omega), e2]
  rw [xi_sub (by rw [e3]; omega), e3]
  omega
theorem act_i {st s : xs_S} {v : Int32} (h : 0 ≤ (st 1 3).toInt ∧ (st 1 3).toInt ≤ 15) (h1 : ¬ F_X6_count st 1 = 0) : 0 ≤ (F_L_low s v (F_X6_count st 1)).toInt ∧ (F_L_low s v (F_X6_count st 1)).toInt < 15 := by
  rw [count1] at *
  have h2 : ¬ (st 1 3).toInt = 0 := fun e => h1 (xi_eq.mpr (by rw [e, xi_0]))
  have := low_b (st := s) (v := v) (n := st 1 3) (by omega)
  omega
theorem sz_l {st : xs_S} {m : Int32} : ∀ (n k : Nat), k + n = 16 → k ≤ 15 → lp_L_size_4 st m n (nI (cn (bt m) k)) (nI k) = nI (cn (bt m) 15) := by
  intro n
  induction n with
  | zero => intro k h1 h2; omega
  | succ n ih =>
    intro k h1 h2
    rw [lp_L_size_4]
    by_cases hk : k = 15
    · subst hk
      rw [if_pos (by rw [i15]; exact nI_le (Nat.le_refl _) (by decide))]
    · rw [if_neg (by rw [i15, nI_leI (by decide) (by omega)]; omega), nI_1, bt_v (by omega)]
      by_cases hb : bt m k = true
      · rw [if_pos hb, nI_1, ← cn_up hb]
        exact ih (k + 1) (by omega) (by omega)
      · have hb' : bt m k = false := by simpa using hb
        rw [if_neg hb, nI_z, ← cn_no hb']
        exact ih (k + 1) (by omega) (by omega)
theorem sz_v {st : xs_S} {m : Int32} : F_L_size st m = nI (cn (bt m) 15) := by
  unfold F_L_size
  have h := sz_l (st := st) (m := m) 16 0 (by omega) (by omega)
  have e : nI (cn (bt m) 0) = 0 := nI_0
  rw [e] at h
  exact h
theorem ord_e {st : xs_S} {m : Int32} (h : 0 ≤ (st 1 3).toInt ∧ (st 1 3).toInt ≤ 15) : (xs_lo 0 (2 * F_L_size st m) 31 ∧ (2 * F_L_size st m).toInt ≤ 30) ∧ (0 ≤ (st 1 3).toInt ∧ (st 1 3).toInt ≤ 15) := by
  have hc := cn_le (P := bt m) 15
  have e2 : (2 : Int32).toInt = 2 := by decide
  have e : (2 * F_L_size st m).toInt = 2 * (cn (bt m) 15 : Int) := by
    rw [sz_v, xi_mul (by rw [e2, nI_toInt (by omega)]; omega), e2, nI_toInt (by omega)]
  exact ⟨⟨xs_lo_e (by rw [e]; omega) (by rw [e]; omega), by rw [e]; omega⟩, h⟩
theorem act_i1 {x : Int32} (h : 0 ≤ x.toInt ∧ x.toInt ≤ 15) (h1 : ¬ 15 ≤ x) : 0 ≤ x.toInt ∧ x.toInt < 15 := by
  rw [xi_le, show (15 : Int32).toInt = 15 by decide] at h1
  omega
theorem xs_le_w {G : xs_G} {a b : Nat} (h : gN G = 73) : xs_le G (xw' G a b) := Or.inr ⟨h, by show 73 ≤ gN G; omega, fun _ _ => rfl, rfl, rfl⟩
