/-! what holds between the law's acts -/
def CI (n : Nat) (st : xs_S) : Prop := ((0 ≤ (st 1 0).toInt ∧ (st 1 0).toInt ≤ 60) ∧ (1 ≤ (st 1 1).toInt ∧ (st 1 1).toInt ≤ 20) ∧ (0 ≤ (st 1 2).toInt ∧ (st 1 2).toInt ≤ 400 * (n : Int)) ∧ (0 ≤ (st 1 3).toInt ∧ (st 1 3).toInt ≤ 15) ∧ (0 ≤ (st 1 6).toInt ∧ (st 1 6).toInt ≤ (n : Int))) ∧ (∀ k : Nat, k < 15 → (0 ≤ (st 2 k).toInt ∧ (st 2 k).toInt ≤ 9999) ∧ (0 ≤ (st 3 k).toInt ∧ (st 3 k).toInt ≤ 300) ∧ (0 ≤ (st 4 k).toInt ∧ (st 4 k).toInt ≤ (st 1 2).toInt) ∧ (0 ≤ (st 6 k).toInt ∧ (st 6 k).toInt ≤ (st 5 k).toInt ∧ (st 5 k).toInt ≤ (n : Int))) ∧ (∀ k : Nat, k < 32 → bt (st 1 4) k = true → (k : Int) < (st 1 3).toInt) ∧ (∀ k : Nat, k < 32 → bt (st 1 5) k = true → bt (st 1 4) k = true)
def J (n : Nat) (st : xs_S) : Prop := CI n st ∧ DD st
/-- the court as a row -/
def cf (st : xs_S) : Nat → Int32 := fun i => if i < 4 then st 1 i else if i = 4 then st 1 6 else if i = 5 then st 1 7 else if (i - 6) % 7 = 0 then (if bt (st 1 4) ((i - 6) / 7) = true then 1 else 0) else if (i - 6) % 7 = 6 then (if bt (st 1 5) ((i - 6) / 7) = true then 1 else 0) else st ((i - 6) % 7 + 1) ((i - 6) / 7)
theorem cf_m {st : xs_S} {k m : Nat} (h1 : 1 ≤ m) (h5 : m ≤ 5) : cf st (6 + m + 7 * k) = st (m + 1) k := by
  have e1 : (6 + m + 7 * k - 6) % 7 = m := by omega
  have e2 : (6 + m + 7 * k - 6) / 7 = k := by omega
  unfold cf
  rw [if_neg (by omega), if_neg (by omega), if_neg (by omega), e1, e2, if_neg (by omega), if_neg (by omega)]
theorem cf_0 {st : xs_S} {k : Nat} : cf st (6 + 7 * k) = (if bt (st 1 4) k = true then 1 else 0) := by
  have e1 : (6 + 7 * k - 6) % 7 = 0 := by omega
  have e2 : (6 + 7 * k - 6) / 7 = k := by omega
  unfold cf
  rw [if_neg (by omega), if_neg (by omega), if_neg (by omega), e1, e2, if_pos rfl]
theorem cf_6 {st : xs_S} {k : Nat} : cf st (12 + 7 * k) = (if bt (st 1 5) k = true then 1 else 0) := by
  have e1 : (12 + 7 * k - 6) % 7 = 6 := by omega
  have e2 : (12 + 7 * k - 6) / 7 = k := by omega
  unfold cf
  rw [if_neg (by omega), if_neg (by omega), if_neg (by omega), e1, e2, if_neg (by omega), if_pos rfl]
theorem cf_1 {st : xs_S} {k : Nat} : cf st (7 + 7 * k) = st 2 k := cf_m (m := 1) (by decide) (by decide)
theorem cf_2 {st : xs_S} {k : Nat} : cf st (8 + 7 * k) = st 3 k := cf_m (m := 2) (by decide) (by decide)
theorem cf_3 {st : xs_S} {k : Nat} : cf st (9 + 7 * k) = st 4 k := cf_m (m := 3) (by decide) (by decide)
theorem cf_4 {st : xs_S} {k : Nat} : cf st (10 + 7 * k) = st 5 k := cf_m (m := 4) (by decide) (by decide)
theorem cf_5 {st : xs_S} {k : Nat} : cf st (11 + 7 * k) = st 6 k := cf_m (m := 5) (by decide) (by decide)
theorem cf_3d {st : xs_S} : cf st 3 = st 1 3 := rfl
theorem ite01 (c : Prop) [Decidable c] : (if c then (1 : Int32) else 0) = 0 ∨ (if c then (1 : Int32) else 0) = 1 := by
  by_cases h : c
  · rw [if_pos h]; exact Or.inr rfl
  · rw [if_neg h]; exact Or.inl rfl
theorem CI_VW {n : Nat} {st : xs_S} (hn : n ≤ 40) (h : CI n st) : VW st (cf st) := by
  obtain ⟨⟨h0, h1, h2, h3, -⟩, hk, hb, hs⟩ := h
  refine ⟨⟨⟨rfl, rfl, rfl, rfl, rfl, rfl⟩, fun k hk15 => ?_, hb, hs⟩, ⟨h0, h1, ⟨h2.1, ?_⟩, h3⟩, fun k hk15 => ?_⟩
  · rw [cf_0, cf_6, cf_1, cf_2, cf_3, cf_4, cf_5]
    exact ⟨⟨rfl, rfl⟩, rfl, rfl, rfl, rfl, rfl⟩
  · have e : cf st 2 = st 1 2 := rfl
    rw [e]
    omega
  · obtain ⟨a2, a3, a4, a6⟩ := hk k hk15
    have e : cf st 2 = st 1 2 := rfl
    rw [cf_0, cf_6, cf_1, cf_2, cf_3, e]
    exact ⟨ite01 _, a2, a3, a4, ite01 _⟩
theorem CI_rLE {n : Nat} {st : xs_S} (h : CI n st) : rLE (cf st) := by
  intro k hk
  rw [cf_4, cf_5]
  exact (h.2.1 k hk).2.2.2.2.1
theorem J_c {n : Nat} {s u : xs_S} (h : ∀ k : Nat, k < 7 → u k = s k) (h72 : u 72 = s 72) (hj : J n s) : J n u := by
  unfold J CI DD at hj ⊢
  rw [h 1 (by decide), h 2 (by decide), h 3 (by decide), h 4 (by decide), h 5 (by decide), h 6 (by decide), h72]
  exact hj
theorem CI_up {n : Nat} {s : xs_S} (h : CI n s) : CI (n + 1) s := by
  obtain ⟨⟨h0, h1, h2, h3, h6⟩, hk, hb⟩ := h
  refine ⟨⟨h0, h1, ⟨h2.1, by omega⟩, h3, h6.1, by omega⟩, fun k hk15 => ?_, hb⟩
  obtain ⟨a2, a3, a4, a6⟩ := hk k hk15
  exact ⟨a2, a3, a4, a6.1, a6.2.1, by omega⟩
theorem kp_1 {s : xs_S} {r : Int32} : (F_X2_keep s r).1 = r := by
  unfold F_X2_keep
  repeat' split
  all_goals rfl
theorem bt_orA {x : Int32} {k j : Nat} (hk : k < 15) (hj : j < 32) : bt (x ||| ((1 : Int32) <<< (nI k &&& 31))) j = (bt x j || decide (j = k)) := by
  by_cases h : j < 31
  · exact bt_or (by omega) h
  · have e : j = 31 := by omega
    subst e
    have h8 : ∀ k, k < 15 → bt ((1 : Int32) <<< (nI k &&& 31)) 31 = false := by decide +kernel
    have h9 : bt (x ||| ((1 : Int32) <<< (nI k &&& 31))) 31 = (bt x 31 || bt ((1 : Int32) <<< (nI k &&& 31)) 31) := by
      unfold bt
      rw [Int32.toBitVec_or, BitVec.getLsbD_or]
    rw [h9, h8 k hk, decide_eq_false (by omega)]
section AC
variable {st : xs_S} {n : Nat}
/-- a draft leaves the court -/
theorem dr_o {k : Nat} (h : k < 7 ∨ 71 < k) : F_X2_draft st k = st k := dr_n (by omega)
theorem kp_o {s : xs_S} {r : Int32} {k : Nat} (h : k < 7 ∨ 71 < k) : (F_X2_keep s r).2 k = s k := kp_n (by omega)
/-- a new dial -/
theorem a_dial (h : (st 1 3).toInt < 15) (h0 : 0 ≤ (st 1 3).toInt) : (F_X6_dial st).1 = st 1 3 ∧ (F_X6_dial st).2 1 3 = st 1 3 + 1 ∧ (∀ i : Nat, i ≠ 3 → (F_X6_dial st).2 1 i = st 1 i) ∧ ∀ k : Nat, (k < 7 ∨ 71 < k) → k ≠ 1 → (F_X6_dial st).2 k = st k := by
  have e15 : (15 : Int32).toInt = 15 := by decide
  have hl : F_X2_draft st 1 3 < 15 := by rw [dr_o (Or.inl (by decide)), xi_lt, e15]; exact h
  unfold F_X6_dial F_X1_addDial
  rw [if_pos hl]
  dsimp only
  refine ⟨?_, ?_, fun i hi => ?_, fun k hk hk1 => ?_⟩
  · rw [kp_1, dr_o (Or.inl (by decide))]
    apply xi_eq.mpr
    have e1 : (st 1 3 + 1).toInt = (st 1 3).toInt + 1 := xi_inc (by omega)
    rw [xi_sub (by rw [e1, xi_1]; omega), e1, xi_1]
    omega
  · rw [kp_o (Or.inl (by decide)), xs_rd_s, dr_o (Or.inl (by decide))]
  · rw [kp_o (Or.inl (by decide)), xs_rd_i hi, dr_o (Or.inl (by decide))]
  · rw [kp_o hk, xs_rd_k hk1, dr_o hk]
theorem a_dial15 (h : st 1 3 = 15) : (F_X6_dial st).1 = -4 ∧ ∀ k : Nat, (k < 7 ∨ 71 < k) → (F_X6_dial st).2 k = st k := by
  have hl : ¬ F_X2_draft st 1 3 < 15 := by rw [dr_o (Or.inl (by decide)), h]; decide
  unfold F_X6_dial F_X1_addDial
  rw [if_neg hl]
  dsimp only
  exact ⟨kp_1, fun k hk => by rw [kp_o hk, dr_o hk]⟩
/-- a reading -/
theorem a_read {k : Nat} {t q : Int32} (hk : k < 15) (hd : (k : Int) < (st 1 3).toInt) (ht : 0 ≤ t.toInt ∧ t.toInt ≤ 9999) (hq : 0 ≤ q.toInt ∧ q.toInt ≤ 300) : (bt (st 1 5) k = true → (F_X6_read st (nI k) t q).1 = -5 ∧ ∀ c : Nat, (c < 7 ∨ 71 < c) → (F_X6_read st (nI k) t q).2 c = st c) ∧ (bt (st 1 5) k = false → (F_X6_read st (nI k) t q).1 = (if bt (st 1 4) k = true then st 1 2 - st 4 k else -6) ∧ (∀ c : Nat, (c < 7 ∨ 71 < c) → (F_X6_read st (nI k) t q).2 c = xs_u (xs_u (xs_u (xs_u st 2 k t) 3 k q) 4 k (st 1 2)) 1 4 (st 1 4 ||| ((1 : Int32) <<< (nI k &&& 31))) c)) := by
  have e9 : (9999 : Int32).toInt = 9999 := by decide
  have e3 : (300 : Int32).toInt = 300 := by decide
  have hD : ∀ c : Nat, c < 7 → F_X2_draft st c = st c := fun c hc => dr_o (Or.inl hc)
  have e1 := hD 1 (by decide)
  have hhd : ¬ F_X1_hasDial (F_X2_draft st) (nI k) = 0 := by
    unfold F_X1_hasDial
    rw [if_neg (show ¬ nI k < 0 by rw [xi_lt, xi_0, nI_toInt (by omega)]; omega), e1, if_neg (show ¬ st 1 3 ≤ nI k by rw [xi_le, nI_toInt (by omega)]; omega)]
    decide
  unfold F_X6_read F_X1_takeReading
  rw [if_neg hhd, if_neg (show ¬ t < 0 by rw [xi_lt, xi_0]; omega), if_neg (show ¬ 9999 < t by rw [xi_lt, e9]; omega), if_neg (show ¬ q < 0 by rw [xi_lt, xi_0]; omega), if_pos (show q ≤ 300 by rw [xi_le, e3]; omega), st_if hk, hd_if hk, e1]
  refine ⟨fun hb => ?_, fun hb => ?_⟩
  · rw [hb, if_pos rfl, if_neg (by decide)]
    dsimp only
    exact ⟨kp_1, fun c hc => by rw [kp_o hc, dr_o hc]⟩
  · have fin : ∀ c : Nat, (c < 7 ∨ 71 < c) → xs_u (xs_u (xs_u (xs_u (F_X2_draft st) 2 (nI k).toInt.toNat t) 3 (nI k).toInt.toNat q) 4 (nI k).toInt.toNat (st 1 2)) 1 4 (st 1 4 ||| ((1 : Int32) <<< (nI k &&& 31))) c = xs_u (xs_u (xs_u (xs_u st 2 k t) 3 k q) 4 k (st 1 2)) 1 4 (st 1 4 ||| ((1 : Int32) <<< (nI k &&& 31))) c := by
      intro c hc
      rw [nI_tn (by omega)]
      unfold xs_u xs_ur
      have hdc := dr_o (st := st) hc
      have d2 := hD 2 (by decide)
      have d3 := hD 3 (by decide)
      have d4 := hD 4 (by decide)
      simp only [hdc, d2, d3, d4, e1]
    rw [hb, if_neg (show ¬ (false = true) by decide), if_pos rfl]
    by_cases h4 : bt (st 1 4) k = true
    · rw [if_pos h4, if_neg (by decide), if_pos h4]
      dsimp only
      refine ⟨?_, fun c hc => by rw [kp_o hc]; exact fin c hc⟩
      rw [kp_1]
      unfold F_X1_ageAt
      rw [nI_tn (by omega), hD 4 (by decide)]
    · rw [if_neg h4, if_pos rfl, if_neg h4]
      dsimp only
      exact ⟨kp_1, fun c hc => by rw [kp_o hc]; exact fin c hc⟩
/-- minutes go by -/
theorem a_pass {m : Int32} (hm : 1 ≤ m.toInt ∧ m.toInt ≤ 400) (h : 0 ≤ (st 1 2).toInt ∧ (st 1 2).toInt ≤ 90000) : (F_X6_pass st m).1 = st 1 2 + m ∧ ∀ c : Nat, (c < 7 ∨ 71 < c) → (F_X6_pass st m).2 c = xs_u st 1 2 (st 1 2 + m) c := by
  have e1 : F_X2_draft st 1 = st 1 := dr_o (Or.inl (by decide))
  unfold F_X6_pass F_X1_letPass
  rw [if_neg (show ¬ m < 1 by rw [xi_lt, xi_1]; omega), if_pos (show m ≤ 1440 by rw [xi_le, show (1440 : Int32).toInt = 1440 by decide]; omega), e1, if_pos (show st 1 2 + m ≤ 99999 by rw [xi_le, xi_add (by omega), show (99999 : Int32).toInt = 99999 by decide]; omega)]
  dsimp only
  refine ⟨kp_1, fun c hc => ?_⟩
  rw [kp_o hc]
  unfold xs_u xs_ur
  simp only [dr_o hc, e1]
/-- settings -/
theorem a_set0 {v : Int32} (hv : 0 ≤ v.toInt ∧ v.toInt ≤ 60) : (F_X6_set st 0 v).1 = st 1 0 ∧ ∀ c : Nat, (c < 7 ∨ 71 < c) → (F_X6_set st 0 v).2 c = xs_u st 1 0 v c := by
  have e1 : F_X2_draft st 1 = st 1 := dr_o (Or.inl (by decide))
  unfold F_X6_set F_X1_changeSetting
  rw [if_pos rfl, if_neg (show ¬ v < 0 by rw [xi_lt, xi_0]; omega), if_neg (show ¬ 60 < v by rw [xi_lt, show (60 : Int32).toInt = 60 by decide]; omega)]
  dsimp only
  refine ⟨by rw [kp_1, e1], fun c hc => ?_⟩
  rw [kp_o hc]
  unfold xs_u xs_ur
  simp only [dr_o hc, e1]
theorem a_set1 {v : Int32} (hv : 1 ≤ v.toInt ∧ v.toInt ≤ 20) : (F_X6_set st 1 v).1 = st 1 1 ∧ ∀ c : Nat, (c < 7 ∨ 71 < c) → (F_X6_set st 1 v).2 c = xs_u st 1 1 v c := by
  have e1 : F_X2_draft st 1 = st 1 := dr_o (Or.inl (by decide))
  unfold F_X6_set F_X1_changeSetting
  rw [if_neg (show ¬ (1 : Int32) = 0 by decide), if_pos rfl, if_neg (show ¬ v < 1 by rw [xi_lt, xi_1]; omega), if_neg (show ¬ 20 < v by rw [xi_lt, show (20 : Int32).toInt = 20 by decide]; omega)]
  dsimp only
  refine ⟨by rw [kp_1, e1], fun c hc => ?_⟩
  rw [kp_o hc]
  unfold xs_u xs_ur
  simp only [dr_o hc, e1]
end AC
/-- what a judgement leaves, from a dial on -/
def JG (ho ju : Nat → Bool) (k : Nat) (s r : xs_S) : Prop := (∀ j : Nat, j < 15 → r 5 j = (if k ≤ j ∧ ho j = false ∧ ju j = true then s 5 j + 1 else s 5 j)) ∧ (∀ j : Nat, j < 15 → r 6 j = (if k ≤ j ∧ ho j = true then 0 else if k ≤ j ∧ ju j = true then s 6 j + 1 else s 6 j)) ∧ (∀ j : Nat, j < 32 → bt (r 1 5) j = (bt (s 1 5) j || decide (k ≤ j ∧ j < 15 ∧ ho j = false ∧ ju j = true ∧ s 1 1 ≤ s 6 j + 1)))
theorem JG_step {ho ju : Nat → Bool} {k : Nat} {s s1 r : xs_S} (hk : k < 15) (a5 : ∀ j : Nat, j < 15 → s1 5 j = (if j = k ∧ ho k = false ∧ ju k = true then s 5 j + 1 else s 5 j)) (a6 : ∀ j : Nat, j < 15 → s1 6 j = (if j = k ∧ ho k = true then 0 else if j = k ∧ ju k = true then s 6 j + 1 else s 6 j)) (ab : ∀ j : Nat, j < 32 → bt (s1 1 5) j = (bt (s 1 5) j || decide (j = k ∧ ho k = false ∧ ju k = true ∧ s 1 1 ≤ s 6 k + 1))) (a1 : s1 1 1 = s 1 1) (h : JG ho ju (k + 1) s1 r) : JG ho ju k s r := by
  obtain ⟨h5, h6, hb⟩ := h
  refine ⟨fun j hj => ?_, fun j hj => ?_, fun j hj => ?_⟩
  · rw [h5 j hj, a5 j hj]
    by_cases hjk : j = k
    · subst hjk
      rw [if_neg (show ¬ (j + 1 ≤ j ∧ ho j = false ∧ ju j = true) by omega)]
      by_cases hc : ho j = false ∧ ju j = true
      · rw [if_pos ⟨rfl, hc⟩, if_pos ⟨Nat.le_refl _, hc⟩]
      · rw [if_neg (fun q => hc q.2), if_neg (fun q => hc q.2)]
    · rw [if_neg (show ¬ (j = k ∧ ho k = false ∧ ju k = true) from fun q => hjk q.1)]
      by_cases hc : k ≤ j ∧ ho j = false ∧ ju j = true
      · rw [if_pos hc, if_pos ⟨by omega, hc.2⟩]
      · rw [if_neg hc, if_neg (fun q => hc ⟨by omega, q.2⟩)]
  · rw [h6 j hj, a6 j hj]
    by_cases hjk : j = k
    · subst hjk
      rw [if_neg (show ¬ (j + 1 ≤ j ∧ ho j = true) by omega), if_neg (show ¬ (j + 1 ≤ j ∧ ju j = true) by omega)]
      by_cases hc : ho j = true
      · rw [if_pos ⟨rfl, hc⟩, if_pos ⟨Nat.le_refl _, hc⟩]
      · rw [if_neg (show ¬ (j = j ∧ ho j = true) from fun q => hc q.2), if_neg (show ¬ (j ≤ j ∧ ho j = true) from fun q => hc q.2)]
        by_cases hd : ju j = true
        · rw [if_pos (show j = j ∧ ju j = true from ⟨rfl, hd⟩), if_pos (show j ≤ j ∧ ju j = true from ⟨Nat.le_refl _, hd⟩)]
        · rw [if_neg (show ¬ (j = j ∧ ju j = true) from fun q => hd q.2), if_neg (show ¬ (j ≤ j ∧ ju j = true) from fun q => hd q.2)]
    · rw [if_neg (show ¬ (j = k ∧ ho k = true) from fun q => hjk q.1), if_neg (show ¬ (j = k ∧ ju k = true) from fun q => hjk q.1)]
      by_cases hc : k ≤ j ∧ ho j = true
      · rw [if_pos hc, if_pos ⟨by omega, hc.2⟩]
      · rw [if_neg hc, if_neg (fun q => hc ⟨by omega, q.2⟩)]
        by_cases hd : k ≤ j ∧ ju j = true
        · rw [if_pos hd, if_pos ⟨by omega, hd.2⟩]
        · rw [if_neg hd, if_neg (fun q => hd ⟨by omega, q.2⟩)]
  · rw [hb j hj, ab j hj, a1, Bool.or_assoc]
    congr 1
    by_cases hjk : j = k
    · subst hjk
      rw [decide_eq_false (show ¬ (j + 1 ≤ j ∧ j < 15 ∧ ho j = false ∧ ju j = true ∧ s 1 1 ≤ s1 6 j + 1) by omega), Bool.or_false]
      exact decide_eq_decide.mpr ⟨fun q => ⟨Nat.le_refl _, hk, q.2⟩, fun q => ⟨rfl, q.2.2⟩⟩
    · rw [decide_eq_false (show ¬ (j = k ∧ ho k = false ∧ ju k = true ∧ s 1 1 ≤ s 6 k + 1) from fun q => hjk q.1), Bool.false_or]
      refine decide_eq_decide.mpr ?_
      by_cases hj15 : j < 15
      · have e6 : s1 6 j = s 6 j := by rw [a6 j hj15, if_neg (fun q => hjk q.1), if_neg (fun q => hjk q.1)]
        rw [e6]
        exact ⟨fun q => ⟨by omega, q.2⟩, fun q => ⟨by omega, q.2⟩⟩
      · exact ⟨fun q => absurd q.2.1 hj15, fun q => absurd q.2.1 hj15⟩
theorem jg_l {ho ju : Nat → Bool} {hr o x3 : Int32} (eo : ∀ j : Nat, j < 15 → bt o j = ho j) (ex : ∀ j : Nat, j < 15 → bt x3 j = ju j) : ∀ (n k : Nat) (s : xs_S), k + n = 16 → k ≤ 15 → JG ho ju k s (lp_X1_judge_8 hr o n x3 (nI k) s) ∧ lp_X1_judge_8 hr o n x3 (nI k) s 1 6 = s 1 6 + 1 ∧ lp_X1_judge_8 hr o n x3 (nI k) s 1 7 = hr := by
  intro n
  induction n with
  | zero => intro k s h1 h2; omega
  | succ n ih =>
    intro k s h1 h2
    rw [lp_X1_judge_8]
    by_cases hk : k = 15
    · subst hk
      rw [if_pos (by rw [i15]; exact nI_le (Nat.le_refl _) (by decide))]
      refine ⟨⟨fun j hj => ?_, fun j hj => ?_, fun j hj => ?_⟩, ?_, ?_⟩
      · rw [xs_rd_k (by decide), xs_rd_k (by decide), if_neg (by omega)]
      · rw [xs_rd_k (by decide), xs_rd_k (by decide), if_neg (by omega), if_neg (by omega)]
      · rw [xs_rd_i (by decide), xs_rd_i (by decide), decide_eq_false (by omega), Bool.or_false]
      · rw [xs_rd_i (by decide), xs_rd_s]
      · rw [xs_rd_s]
    · have hk15 : k < 15 := by omega
      rw [if_neg (by rw [i15, nI_leI (by decide) (by omega)]; omega), nI_1]
      by_cases ho1 : bt o k = true
      · rw [if_pos ((bt_i (by omega)).mpr ho1), nI_tn (by omega)]
        rw [eo k hk15] at ho1
        obtain ⟨g1, g2, g3⟩ := ih (k + 1) (xs_u s 6 k 0) (by omega) (by omega)
        rw [xs_rd_k (by decide)] at g2
        refine ⟨JG_step hk15 (fun j hj => ?_) (fun j hj => ?_) (fun j hj => ?_) (by rw [xs_rd_k (by decide)]) g1, g2, g3⟩
        · rw [xs_rd_k (by decide), if_neg (fun q => by rw [ho1] at q; exact absurd q.2.1 (by decide))]
        · by_cases hjk : j = k
          · subst hjk
            rw [xs_rd_s, if_pos ⟨rfl, ho1⟩]
          · rw [xs_rd_i hjk, if_neg (fun q => hjk q.1), if_neg (fun q => hjk q.1)]
        · rw [xs_rd_k (by decide), decide_eq_false (fun q => by rw [ho1] at q; exact absurd q.2.1 (by decide)), Bool.or_false]
      · rw [if_neg (fun q => ho1 ((bt_i (by omega)).mp q))]
        have ho0 : ho k = false := by
          rw [eo k hk15] at ho1
          simpa using ho1
        by_cases hj1 : bt x3 k = true
        · rw [if_pos ((bt_i (by omega)).mpr hj1)]
          rw [ex k hk15] at hj1
          obtain ⟨g1, g2, g3⟩ := ih (k + 1) (F_X1_countLie s (nI k)) (by omega) (by omega)
          have c5 : ∀ j : Nat, F_X1_countLie s (nI k) 5 j = if j = k then s 5 k + 1 else s 5 j := by
            intro j
            unfold F_X1_countLie
            rw [nI_tn (by omega)]
            by_cases hjk : j = k
            · subst hjk
              rw [if_pos rfl]
              split
              · rw [xs_rd_k (by decide), xs_rd_s]
              · rw [xs_rd_k (by decide), xs_rd_k (by decide), xs_rd_s]
            · rw [if_neg hjk]
              split
              · rw [xs_rd_k (by decide), xs_rd_i hjk]
              · rw [xs_rd_k (by decide), xs_rd_k (by decide), xs_rd_i hjk]
          have c6 : ∀ j : Nat, F_X1_countLie s (nI k) 6 j = if j = k then s 6 k + 1 else s 6 j := by
            intro j
            unfold F_X1_countLie
            rw [nI_tn (by omega)]
            by_cases hjk : j = k
            · subst hjk
              rw [if_pos rfl]
              split
              · rw [xs_rd_s]
              · rw [xs_rd_k (by decide), xs_rd_s]
            · rw [if_neg hjk]
              split
              · rw [xs_rd_i hjk, xs_rd_k (by decide)]
              · rw [xs_rd_k (by decide), xs_rd_i hjk, xs_rd_k (by decide)]
          have c1 : ∀ i : Nat, i ≠ 5 → F_X1_countLie s (nI k) 1 i = s 1 i := by
            intro i hi
            unfold F_X1_countLie
            split
            · rw [xs_rd_k (by decide), xs_rd_k (by decide)]
            · rw [xs_rd_i hi, xs_rd_k (by decide), xs_rd_k (by decide)]
          have cb : ∀ j : Nat, j < 32 → bt (F_X1_countLie s (nI k) 1 5) j = (bt (s 1 5) j || decide (j = k ∧ ho k = false ∧ ju k = true ∧ s 1 1 ≤ s 6 k + 1)) := by
            intro j hj
            unfold F_X1_countLie
            rw [nI_tn (by omega), xs_rd_s]
            by_cases hc : s 6 k + 1 < s 1 1
            · rw [if_pos hc, xs_rd_k (by decide), xs_rd_k (by decide), decide_eq_false (fun q => by have q5 := q.2.2.2; rw [xi_le] at q5; rw [xi_lt] at hc; omega), Bool.or_false]
            · rw [if_neg hc, xs_rd_s, bt_orA hk15 hj]
              congr 1
              have hc' : s 1 1 ≤ s 6 k + 1 := by rw [xi_lt] at hc; rw [xi_le]; omega
              exact decide_eq_decide.mpr ⟨fun q => ⟨q, ho0, hj1, hc'⟩, fun q => q.1⟩
          rw [c1 6 (by decide)] at g2
          refine ⟨JG_step hk15 (fun j hj => ?_) (fun j hj => ?_) cb (c1 1 (by decide)) g1, g2, g3⟩
          · rw [c5]
            by_cases hjk : j = k
            · subst hjk
              rw [if_pos rfl, if_pos ⟨rfl, ho0, hj1⟩]
            · rw [if_neg hjk, if_neg (fun q => hjk q.1)]
          · rw [c6]
            by_cases hjk : j = k
            · subst hjk
              rw [if_pos rfl, if_neg (fun q => by rw [ho0] at q; exact absurd q.2 (by decide)), if_pos ⟨rfl, hj1⟩]
            · rw [if_neg hjk, if_neg (fun q => hjk q.1), if_neg (fun q => hjk q.1)]
        · rw [if_neg (fun q => hj1 ((bt_i (by omega)).mp q))]
          have hj0 : ju k = false := by
            rw [ex k hk15] at hj1
            simpa using hj1
          obtain ⟨g1, g2, g3⟩ := ih (k + 1) s (by omega) (by omega)
          refine ⟨JG_step hk15 (fun j hj => ?_) (fun j hj => ?_) (fun j hj => ?_) rfl g1, g2, g3⟩
          · rw [if_neg (fun q => by rw [hj0] at q; exact absurd q.2.2 (by decide))]
          · rw [if_neg (fun q => by rw [ho0] at q; exact absurd q.2 (by decide)), if_neg (fun q => by rw [hj0] at q; exact absurd q.2 (by decide))]
          · rw [decide_eq_false (fun q => by rw [hj0] at q; exact absurd q.2.2.1 (by decide)), Bool.or_false]
