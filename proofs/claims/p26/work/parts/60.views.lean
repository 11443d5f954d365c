/-! what the calls answer, by a row of numbers f that says what the court holds -/
theorem nI_dial {d : Int32} (h : 0 ≤ d.toInt ∧ d.toInt < 15) : ∃ k : Nat, k < 15 ∧ d = nI k ∧ d.toInt = (k : Int) := by
  refine ⟨d.toInt.toNat, by omega, ?_, by omega⟩
  apply xi_eq.mpr
  rw [nI_toInt (by omega)]
  omega
def VW (st : xs_S) (f : Nat → Int32) : Prop := CR 1 st f ∧ RowOK f
theorem VW_c {s u : xs_S} {f : Nat → Int32} (h : ∀ k : Nat, k < 7 → u k = s k) (hv : VW s f) : VW u f := ⟨CR_c (fun k _ b => h k (by omega)) hv.1, hv.2⟩
theorem lo_b {f : Nat → Int32} (hR : RowOK f) {k : Nat} (hk : k < 15) : -300 ≤ rLo f 0 k ∧ rLo f 0 k ≤ rHi f 0 k ∧ rHi f 0 k ≤ 211000 := by
  obtain ⟨⟨hw, -, hn, -⟩, hrow⟩ := hR
  obtain ⟨-, ht, hd, hwh, -⟩ := hrow k hk
  have ha : 0 ≤ rAge f 0 k ∧ rAge f 0 k ≤ 99999 := by
    unfold rAge
    omega
  have hq : 0 ≤ rAge f 0 k / 60 := Int.ediv_nonneg ha.1 (by omega)
  have h1 : 0 ≤ (f 0).toInt * (rAge f 0 k / 60) := Int.mul_nonneg hw.1 hq
  have h2 : (f 0).toInt * (rAge f 0 k / 60) ≤ 60 * (rAge f 0 k / 60) := Int.mul_le_mul_of_nonneg_right hw.2 hq
  unfold rLo rHi rWide
  omega
section VV
variable {st : xs_S} {f : Nat → Int32} {k : Nat}
theorem v_ga (hv : VW st f) : GA (F_X6_gatherNow st (-1)) (rP f (-1)) (rLo f 0) (rHi f 0) := by
  refine g_ga (later := 0) hv.1 hv.2 ?_ ⟨by decide, by decide⟩
  unfold F_X1_now
  rw [hv.1.1.2.2.1]
  omega
theorem v_bd (hv : VW st f) : BD (rP f (-1)) (rLo f 0) (rHi f 0) := bd_row hv.2 ⟨by decide, by decide⟩
theorem nI_m1 (hk : k < 15) : ¬ nI k = -1 := by
  intro e
  have h := congrArg Int32.toInt e
  rw [nI_toInt (by omega), show (-1 : Int32).toInt = -1 by decide] at h
  omega
theorem v_sp (hv : VW st f) (hk : k < 15) : rP f (-1) k = (bt (st 1 4) k && !bt (st 1 5) k) := by
  rw [rP_cr (l := -1) hv.1 hk, decide_eq_true (nI_m1 hk), Bool.true_and]
theorem v_rd (hv : VW st f) (hk : k < 15) : f (6 + 7 * k) = (if bt (st 1 4) k = true then 1 else 0) := (hv.1.2.1 k hk).1.1
theorem v_sk (hv : VW st f) (hk : k < 15) : f (12 + 7 * k) = (if bt (st 1 5) k = true then 1 else 0) := (hv.1.2.1 k hk).1.2
theorem v_told (hv : VW st f) (hk : k < 15) : st 2 k = f (7 + 7 * k) := (hv.1.2.1 k hk).2.1
theorem v_dbt (hv : VW st f) (hk : k < 15) : st 3 k = f (8 + 7 * k) := (hv.1.2.1 k hk).2.2.1
theorem v_at (hv : VW st f) (hk : k < 15) : st 4 k = f (9 + 7 * k) := (hv.1.2.1 k hk).2.2.2.1
theorem v_lies (hv : VW st f) (hk : k < 15) : st 5 k = f (10 + 7 * k) := (hv.1.2.1 k hk).2.2.2.2.1
theorem v_row (hv : VW st f) (hk : k < 15) : st 6 k = f (11 + 7 * k) := (hv.1.2.1 k hk).2.2.2.2.2
theorem v_lt (hv : VW st f) (hk : k < 32) (h : bt (st 1 4) k = true) : (k : Int) < (f 3).toInt := hv.1.2.2.1 k hk h
theorem v_ss (hv : VW st f) (hk : k < 32) (h : bt (st 1 5) k = true) : bt (st 1 4) k = true := hv.1.2.2.2 k hk h
theorem o_hd (hv : VW st f) (hk : k < 15) (hd : (k : Int) < (f 3).toInt) : ¬ F_X1_hasDial st (nI k) = 0 := by
  unfold F_X1_hasDial
  rw [if_neg (show ¬ nI k < 0 by rw [xi_lt, xi_0, nI_toInt (by omega)]; omega), hv.1.1.2.2.2.1, if_neg (show ¬ f 3 ≤ nI k by rw [xi_le, nI_toInt (by omega)]; omega)]
  decide
theorem o_x {w : Int32} (hv : VW st f) (hk : k < 15) (hd : (k : Int) < (f 3).toInt) : F_X6_of st (nI k) w = F_X1_about st (nI k) w := by
  unfold F_X6_of
  rw [if_neg (o_hd hv hk hd)]
theorem v_loe (hv : VW st f) (hk : k < 15) : (F_X1_lowEnd st (nI k) (st 1 2)).toInt = rLo f 0 k ∧ (F_X1_highEnd st (nI k) (st 1 2)).toInt = rHi f 0 k := g_loe (later := 0) hv.1 hv.2 (by rw [hv.1.1.2.2.1]; omega) ⟨by decide, by decide⟩ hk
theorem o_lo (hv : VW st f) (hk : k < 15) (hd : (k : Int) < (f 3).toInt) (hp : rP f (-1) k = true) : (F_X6_of st (nI k) 0).toInt = rLo f 0 k + 100000 := by
  rw [v_sp hv hk] at hp
  have hb := lo_b hv.2 hk
  have e5 : (100000 : Int32).toInt = 100000 := by decide
  rw [o_x hv hk hd]
  unfold F_X1_about
  rw [if_pos (show (0 : Int32).toInt = 0 by decide), g_span hk, if_pos hp, if_neg (by decide), xi_add (by rw [(v_loe hv hk).1, e5]; omega), (v_loe hv hk).1, e5]
theorem o_hi (hv : VW st f) (hk : k < 15) (hd : (k : Int) < (f 3).toInt) (hp : rP f (-1) k = true) : (F_X6_of st (nI k) 1).toInt = rHi f 0 k + 100000 := by
  rw [v_sp hv hk] at hp
  have hb := lo_b hv.2 hk
  have e5 : (100000 : Int32).toInt = 100000 := by decide
  rw [o_x hv hk hd]
  unfold F_X1_about
  rw [if_neg (show ¬ (1 : Int32).toInt = 0 by decide), if_pos (show (1 : Int32).toInt = 1 by decide), g_span hk, if_pos hp, if_neg (by decide), xi_add (by rw [(v_loe hv hk).2, e5]; omega), (v_loe hv hk).2, e5]
theorem o_no0 (hv : VW st f) (hk : k < 15) (hd : (k : Int) < (f 3).toInt) (hp : rP f (-1) k = false) : F_X6_of st (nI k) 0 = -6 := by
  rw [v_sp hv hk] at hp
  rw [o_x hv hk hd]
  unfold F_X1_about
  rw [if_pos (show (0 : Int32).toInt = 0 by decide), g_span hk, hp, if_neg (show ¬ (false = true) by decide), if_pos rfl]
theorem o_no1 (hv : VW st f) (hk : k < 15) (hd : (k : Int) < (f 3).toInt) (hp : rP f (-1) k = false) : F_X6_of st (nI k) 1 = -6 := by
  rw [v_sp hv hk] at hp
  rw [o_x hv hk hd]
  unfold F_X1_about
  rw [if_neg (show ¬ (1 : Int32).toInt = 0 by decide), if_pos (show (1 : Int32).toInt = 1 by decide), g_span hk, hp, if_neg (show ¬ (false = true) by decide), if_pos rfl]
theorem o_2 (hv : VW st f) (hk : k < 15) (hd : (k : Int) < (f 3).toInt) : F_X6_of st (nI k) 2 = if bt (st 1 4) k = true then f 2 - f (9 + 7 * k) else -6 := by
  rw [o_x hv hk hd]
  unfold F_X1_about
  rw [if_neg (show ¬ (2 : Int32).toInt = 0 by decide), if_neg (show ¬ (2 : Int32).toInt = 1 by decide), if_pos (show (2 : Int32).toInt = 2 by decide), hd_if hk]
  by_cases h : bt (st 1 4) k = true
  · rw [if_pos h, if_pos h, if_neg (by decide)]
    unfold F_X1_ageAt
    rw [nI_tn (by omega), v_at hv hk, hv.1.1.2.2.1]
  · rw [if_neg h, if_neg h, if_pos rfl]
theorem o_3 (hv : VW st f) (hk : k < 15) (hd : (k : Int) < (f 3).toInt) : F_X6_of st (nI k) 3 = if bt (st 1 4) k = true then f (8 + 7 * k) else -6 := by
  rw [o_x hv hk hd]
  unfold F_X1_about
  rw [if_neg (show ¬ (3 : Int32).toInt = 0 by decide), if_neg (show ¬ (3 : Int32).toInt = 1 by decide), if_neg (show ¬ (3 : Int32).toInt = 2 by decide), if_pos (show (3 : Int32).toInt = 3 by decide), hd_if hk]
  by_cases h : bt (st 1 4) k = true
  · rw [if_pos h, if_pos h, if_neg (by decide), nI_tn (by omega), v_dbt hv hk]
  · rw [if_neg h, if_neg h, if_pos rfl]
theorem o_4 (hv : VW st f) (hk : k < 15) (hd : (k : Int) < (f 3).toInt) : F_X6_of st (nI k) 4 = f (10 + 7 * k) := by
  rw [o_x hv hk hd]
  unfold F_X1_about
  rw [if_neg (show ¬ (4 : Int32).toInt = 0 by decide), if_neg (show ¬ (4 : Int32).toInt = 1 by decide), if_neg (show ¬ (4 : Int32).toInt = 2 by decide), if_neg (show ¬ (4 : Int32).toInt = 3 by decide), if_pos (show (4 : Int32).toInt = 4 by decide), nI_tn (by omega), v_lies hv hk]
theorem o_5 (hv : VW st f) (hk : k < 15) (hd : (k : Int) < (f 3).toInt) : F_X6_of st (nI k) 5 = f (11 + 7 * k) := by
  rw [o_x hv hk hd]
  unfold F_X1_about
  rw [if_neg (show ¬ (5 : Int32).toInt = 0 by decide), if_neg (show ¬ (5 : Int32).toInt = 1 by decide), if_neg (show ¬ (5 : Int32).toInt = 2 by decide), if_neg (show ¬ (5 : Int32).toInt = 3 by decide), if_neg (show ¬ (5 : Int32).toInt = 4 by decide), if_pos (show (5 : Int32).toInt = 5 by decide), nI_tn (by omega), v_row hv hk]
theorem o_6 (hv : VW st f) (hk : k < 15) (hd : (k : Int) < (f 3).toInt) : F_X6_of st (nI k) 6 = if bt (st 1 5) k = true then 1 else 0 := by
  rw [o_x hv hk hd]
  unfold F_X1_about
  rw [if_neg (show ¬ (6 : Int32).toInt = 0 by decide), if_neg (show ¬ (6 : Int32).toInt = 1 by decide), if_neg (show ¬ (6 : Int32).toInt = 2 by decide), if_neg (show ¬ (6 : Int32).toInt = 3 by decide), if_neg (show ¬ (6 : Int32).toInt = 4 by decide), if_neg (show ¬ (6 : Int32).toInt = 5 by decide), if_pos (show (6 : Int32).toInt = 6 by decide), st_if hk]
  by_cases h : bt (st 1 5) k = true
  · rw [if_pos h, if_neg (by decide)]
  · rw [if_neg h, if_pos rfl]
theorem n_0 : F_X6_count st 0 = st 1 2 := rfl
theorem n_1 : F_X6_count st 1 = st 1 3 := rfl
theorem n_2 : F_X6_count st 2 = F_X1_dialsWithSpans st := rfl
theorem n_3 : F_X6_count st 3 = st 1 5 := rfl
theorem n_4 : F_X6_count st 4 = st 1 6 := rfl
theorem n_5 : F_X6_count st 5 = if st 1 6 = 0 then -6 else st 1 7 + 100000 := rfl
theorem n_6 : F_X6_count st 6 = st 1 0 := rfl
theorem n_7 : F_X6_count st 7 = st 1 1 := rfl
theorem v_mask (hv : VW st f) : F_X6_count st 2 = mk (rP f (-1)) 15 := by
  rw [n_2]
  unfold F_X1_dialsWithSpans
  refine i32_ext (fun j hj => ?_)
  rw [bt_an hj, bt_mk hj 15 (Nat.le_refl _)]
  by_cases h : j < 15
  · rw [decide_eq_true h, Bool.true_and, v_sp hv h]
  · rw [decide_eq_false h, Bool.false_and]
    cases hb : bt (st 1 4) j with
    | false => rfl
    | true =>
      have := v_lt hv hj hb
      have := ro_D hv.2
      omega
def sK (f : Nat → Int32) (k : Nat) : Bool := decide (f (12 + 7 * k) = 1)
theorem v_sK (hv : VW st f) (hk : k < 15) : sK f k = bt (st 1 5) k := by
  unfold sK
  rw [v_sk hv hk]
  cases hb : bt (st 1 5) k with
  | false => rw [if_neg (by decide)]; exact decide_eq_false (by decide)
  | true => rw [if_pos rfl]; exact decide_eq_true rfl
theorem v_struck (hv : VW st f) : F_X6_count st 3 = mk (sK f) 15 := by
  rw [n_3]
  refine i32_ext (fun j hj => ?_)
  rw [bt_mk hj 15 (Nat.le_refl _)]
  by_cases h : j < 15
  · rw [decide_eq_true h, Bool.true_and, v_sK hv h]
  · rw [decide_eq_false h, Bool.false_and]
    cases hb : bt (st 1 5) j with
    | false => rfl
    | true =>
      have := v_lt hv hj (v_ss hv hj hb)
      have := ro_D hv.2
      omega
theorem v_Plt (hv : VW st f) (hk : k < 15) (hp : rP f (-1) k = true) : (k : Int) < (f 3).toInt := by
  rw [v_sp hv hk, Bool.and_eq_true] at hp
  exact v_lt hv (by omega) hp.1
end VV
theorem mk_stop {Q : Nat → Bool} {d : Nat} : ∀ m : Nat, (∀ j : Nat, d ≤ j → j < d + m → Q j = false) → mk Q (d + m) = mk Q d := by
  intro m
  induction m with
  | zero => intro h; rfl
  | succ m ih =>
    intro h
    rw [show d + (m + 1) = d + m + 1 by omega, mk_no (h (d + m) (by omega) (by omega))]
    exact ih (fun j a b => h j a (by omega))
