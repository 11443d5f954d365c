/-! the law's check of the spans -/
theorem i3k {k : Nat} (hk : k < 15) : (3 * nI k).toInt.toNat = 3 * k ∧ (3 * nI k + 1).toInt.toNat = 3 * k + 1 ∧ (3 * nI k + 2).toInt.toNat = 3 * k + 2 := by
  have e3 : (3 : Int32).toInt = 3 := by decide
  have e2 : (2 : Int32).toInt = 2 := by decide
  have h : (3 * nI k).toInt = 3 * (k : Int) := by rw [xi_mul (by rw [e3, nI_toInt (by omega)]; omega), e3, nI_toInt (by omega)]
  rw [xi_inc (by omega), xi_add (by rw [e2]; omega), h, e2]
  omega
/-- the law's own row says what was read last -/
def DD (st : xs_S) : Prop := ∀ k : Nat, k < 15 → (k : Int) < (st 1 3).toInt → (bt (st 1 4) k = true → st 72 (3 * k) = st 2 k ∧ st 72 (3 * k + 1) = st 3 k ∧ st 72 (3 * k + 2) = st 4 k) ∧ (bt (st 1 4) k = false → st 72 (3 * k) = -1)
def rLE (f : Nat → Int32) : Prop := ∀ k : Nat, k < 15 → (f (11 + 7 * k)).toInt ≤ (f (10 + 7 * k)).toInt
theorem sp_l {s : xs_S} {f : Nat → Int32} (hv : VW s f) (hd : DD s) (hr : rLE f) : ∀ n k : Nat, k + n = 16 → (k : Int) ≤ (f 3).toInt → lp_L_spans_7 s n (mk (rP f (-1)) k) (mk (sK f) k) (nI k) = 1 := by
  intro n
  induction n with
  | zero => intro k h1 h2; have := ro_D hv.2; omega
  | succ n ih =>
    intro k h1 h2
    have hD := ro_D hv.2
    have e3 : s 1 3 = f 3 := hv.1.1.2.2.2.1
    rw [lp_L_spans_7]
    by_cases hk : (k : Int) = (f 3).toInt
    · rw [if_pos (show F_X6_count s 1 ≤ nI k by rw [n_1, e3, xi_le, nI_toInt (by omega)]; omega)]
      have a1 : F_X6_count s 2 = mk (rP f (-1)) k := by
        rw [v_mask hv]
        have hs := mk_stop (Q := rP f (-1)) (d := k) (15 - k) (fun j a b => by
          cases hq : rP f (-1) j with
          | false => rfl
          | true => have := v_Plt hv (by omega) hq; omega)
        rw [show k + (15 - k) = 15 by omega] at hs
        exact hs
      have a2 : F_X6_count s 3 = mk (sK f) k := by
        rw [v_struck hv]
        have hs := mk_stop (Q := sK f) (d := k) (15 - k) (fun j a b => by
          rw [v_sK hv (by omega)]
          cases hq : bt (s 1 5) j with
          | false => rfl
          | true => have := v_lt hv (by omega) (v_ss hv (by omega) hq); omega)
        rw [show k + (15 - k) = 15 by omega] at hs
        exact hs
      rw [if_pos a1, if_pos a2]
    · have hk15 : k < 15 := by omega
      have hdl : (k : Int) < (f 3).toInt := by omega
      rw [if_neg (show ¬ F_X6_count s 1 ≤ nI k by rw [n_1, e3, xi_le, nI_toInt (by omega)]; omega), (i3k hk15).1, (i3k hk15).2.1, (i3k hk15).2.2, nI_1]
      have ih1 := ih (k + 1) (by omega) (by omega)
      obtain ⟨dr, dn⟩ := hd k hk15 (by rw [e3]; exact hdl)
      have h54 : F_X6_of s (nI k) 5 ≤ F_X6_of s (nI k) 4 := by
        rw [o_5 hv hk15 hdl, o_4 hv hk15 hdl, xi_le]
        exact hr k hk15
      have hsp := v_sp hv hk15
      have hsk := v_sK hv hk15
      have e2 := o_2 hv hk15 hdl
      have e6 := o_6 hv hk15 hdl
      have ef3 := o_3 hv hk15 hdl
      cases hb4 : bt (s 1 4) k with
      | false =>
        have hb5 : bt (s 1 5) k = false := by
          cases hq : bt (s 1 5) k with
          | false => rfl
          | true => have := v_ss hv (by omega) hq; rw [hb4] at this; cases this
        rw [hb4, Bool.false_and] at hsp
        rw [hb5] at hsk
        rw [hb4, if_neg (by decide)] at e2 ef3
        rw [hb5, if_neg (by decide)] at e6
        rw [mk_no hsp, mk_no hsk] at ih1
        rw [if_pos (show F_X6_of s (nI k) 2 < 0 by rw [e2]; decide), dn hb4, if_neg (show ¬ (0 : Int32) ≤ -1 by decide), if_pos ef3, if_pos (o_no0 hv hk15 hdl hsp), if_pos (o_no1 hv hk15 hdl hsp), if_pos h54, e6, sh0 k hk15, Int32.or_zero, Int32.or_zero]
        exact ih1
      | true =>
        obtain ⟨d0, d1, d2⟩ := dr hb4
        obtain ⟨⟨hw, -, hn, -⟩, hrow⟩ := hv.2
        obtain ⟨-, ht, hdb, hwh, -⟩ := hrow k hk15
        rw [hb4, if_pos rfl] at e2 ef3
        have ea : (F_X6_of s (nI k) 2).toInt = rAge f 0 k := by
          rw [e2, xi_sub (by omega)]
          unfold rAge
          omega
        have hab : 0 ≤ rAge f 0 k ∧ rAge f 0 k ≤ 150000 := by
          unfold rAge
          omega
        have c1 : ¬ F_X6_of s (nI k) 2 < 0 := by rw [xi_lt, ea, xi_0]; omega
        have c2 : 0 ≤ s 72 (3 * k) := by rw [d0, v_told hv hk15, xi_le, xi_0]; omega
        have c3 : F_X6_of s (nI k) 2 = F_X6_count s 0 - s 72 (3 * k + 2) := by rw [e2, n_0, d2, v_at hv hk15, hv.1.1.2.2.1]
        have c4 : F_X6_of s (nI k) 3 = s 72 (3 * k + 1) := by rw [ef3, d1, v_dbt hv hk15]
        cases hb5 : bt (s 1 5) k with
        | true =>
          rw [hb4, hb5] at hsp
          have hsp : rP f (-1) k = false := hsp
          rw [hb5] at hsk e6
          rw [if_pos rfl] at e6
          rw [mk_no hsp, mk_up hsk] at ih1
          rw [if_neg c1, if_neg (show ¬ F_X6_of s (nI k) 6 = 0 by rw [e6]; decide), if_pos c2, if_pos c3, if_pos c4, if_pos (o_no0 hv hk15 hdl hsp), if_pos (o_no1 hv hk15 hdl hsp), if_pos h54, e6, Int32.or_zero]
          exact ih1
        | false =>
          rw [hb4, hb5] at hsp
          have hsp : rP f (-1) k = true := hsp
          rw [hb5] at hsk e6
          rw [if_neg (by decide)] at e6
          rw [mk_up hsp, mk_no hsk] at ih1
          have hw2 := sp_w hw hab
          have hdv : (F_X6_of s (nI k) 2 / 60).toInt = rAge f 0 k / 60 := by rw [sp_d (by rw [ea]; exact hab), ea]
          have em : (F_X6_count s 6 * (F_X6_of s (nI k) 2 / 60)).toInt = (f 0).toInt * (rAge f 0 k / 60) := by
            rw [n_6, hv.1.1.1, xi_mul (by rw [hdv]; omega), hdv]
          have es : (s 72 (3 * k + 1) + F_X6_count s 6 * (F_X6_of s (nI k) 2 / 60)).toInt = rWide f 0 k := by
            rw [d1, v_dbt hv hk15, xi_add (by rw [em]; omega), em]
            rfl
          have hwd : 0 ≤ rWide f 0 k ∧ rWide f 0 k ≤ 160000 := by
            unfold rWide
            omega
          have emi : (s 72 (3 * k) + F_X6_of s (nI k) 2 + 100000).toInt = (f (7 + 7 * k)).toInt + rAge f 0 k + 100000 := by
            rw [d0, v_told hv hk15, xi_add (by rw [xi_add (by rw [ea]; omega), ea, e105]; omega), xi_add (by rw [ea]; omega), ea, e105]
          have c5 : F_X6_of s (nI k) 0 = s 72 (3 * k) + F_X6_of s (nI k) 2 + 100000 - (s 72 (3 * k + 1) + F_X6_count s 6 * (F_X6_of s (nI k) 2 / 60)) := by
            apply xi_eq.mpr
            rw [o_lo hv hk15 hdl hsp, xi_sub (by rw [emi, es]; omega), emi, es]
            unfold rLo
            omega
          have c6 : F_X6_of s (nI k) 1 = s 72 (3 * k) + F_X6_of s (nI k) 2 + 100000 + (s 72 (3 * k + 1) + F_X6_count s 6 * (F_X6_of s (nI k) 2 / 60)) := by
            apply xi_eq.mpr
            rw [o_hi hv hk15 hdl hsp, xi_add (by rw [emi, es]; omega), emi, es]
            unfold rHi
            omega
          rw [if_neg c1, if_pos e6, if_pos c2, if_pos c3, if_pos c4, if_pos c5, if_pos c6, if_pos h54, e6, sh0 k hk15, Int32.or_zero]
          exact ih1
theorem law_spans {s : xs_S} {f : Nat → Int32} (hv : VW s f) (hd : DD s) (hr : rLE f) : F_L_spans s = 1 := by
  have hD := ro_D hv.2
  have h := sp_l hv hd hr 16 0 (by omega) (by omega)
  rw [nI_0] at h
  exact h
