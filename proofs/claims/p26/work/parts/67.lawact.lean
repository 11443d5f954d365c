/-! the law's acts -/
theorem J_up {n : Nat} {s : xs_S} (h : J n s) : J (n + 1) s := ⟨CI_up h.1, h.2⟩
theorem act_dial {n : Nat} {st : xs_S} {g h x5 : Int32} (hn : n ≤ 36) (hj : J n st) : (lp_L_act_25 g h 1 (st 1 3) x5 st).1 = 1 ∧ J (n + 1) (lp_L_act_25 g h 1 (st 1 3) x5 st).2 ∧ 1 ≤ ((lp_L_act_25 g h 1 (st 1 3) x5 st).2 1 3).toInt := by
  have e15 : (15 : Int32).toInt = 15 := by decide
  have hD := hj.1.1.2.2.2.1
  rw [lp_L_act_25]
  by_cases h15 : 15 ≤ st 1 3
  · have e : st 1 3 = 15 := by
      rw [xi_le, e15] at h15
      exact xi_eq.mpr (by rw [e15]; omega)
    obtain ⟨a1, a2⟩ := a_dial15 e
    rw [if_pos h15, if_pos e, if_pos a1]
    dsimp only
    exact ⟨rfl, J_up (J_c (fun c hc => a2 c (Or.inl hc)) (a2 72 (by decide)) hj), by rw [a2 1 (by decide), e]; decide⟩
  · have hlt : (st 1 3).toInt < 15 := by rw [xi_le, e15] at h15; omega
    obtain ⟨k, hk, ek, ekt⟩ := nI_dial (d := st 1 3) ⟨hD.1, hlt⟩
    obtain ⟨a1, a2, a3, a4⟩ := a_dial hlt hD.1
    rw [if_neg h15, if_neg (show ¬ st 1 3 = 15 by intro e; rw [e, e15] at hlt; omega), if_pos a1]
    rw [ek, (i3k hk).1]
    rw [ek] at a2
    have a4' : ∀ c : Nat, (c < 7 ∨ 71 < c) → c ≠ 1 → c ≠ 72 → xs_u (F_X6_dial st).2 72 (3 * k) (-1) c = st c := fun c hc h1 h2 => by rw [xs_rd_k h2, a4 c hc h1]
    have b1 : xs_u (F_X6_dial st).2 72 (3 * k) (-1) 1 = (F_X6_dial st).2 1 := xs_rd_k (by decide)
    have b72 : ∀ i : Nat, i ≠ 3 * k → xs_u (F_X6_dial st).2 72 (3 * k) (-1) 72 i = st 72 i := fun i hi => by rw [xs_rd_i hi, a4 72 (by decide) (by decide)]
    have b72k : xs_u (F_X6_dial st).2 72 (3 * k) (-1) 72 (3 * k) = -1 := xs_rd_s
    generalize hV : xs_u (F_X6_dial st).2 72 (3 * k) (-1) = V at a4' b1 b72 b72k ⊢
    have c3 : (V 1 3).toInt = (k : Int) + 1 := by rw [b1, a2, nI_1, nI_toInt (by omega)]; omega
    have ci : ∀ i : Nat, i ≠ 3 → V 1 i = st 1 i := fun i hi => by rw [b1, a3 i hi]
    have hbk : bt (st 1 4) k = false := by
      cases hq : bt (st 1 4) k with
      | false => rfl
      | true => have := hj.1.2.2.1 k (by omega) hq; omega
    have hJV : J (n + 1) V := by
      obtain ⟨⟨⟨c0, c1, c2, -, c6⟩, hkk, hb, hs⟩, hd⟩ := hj
      refine ⟨⟨⟨by rw [ci 0 (by decide)]; exact c0, by rw [ci 1 (by decide)]; exact c1, by rw [ci 2 (by decide)]; omega, by rw [c3]; omega, by rw [ci 6 (by decide)]; omega⟩, fun j hj15 => ?_, fun j hj32 hq => ?_, fun j hj32 hq => ?_⟩, fun j hj15 hjd => ?_⟩
      · rw [a4' 2 (by decide) (by decide) (by decide), a4' 3 (by decide) (by decide) (by decide), a4' 4 (by decide) (by decide) (by decide), a4' 5 (by decide) (by decide) (by decide), a4' 6 (by decide) (by decide) (by decide), ci 2 (by decide)]
        obtain ⟨x2, x3, x4, x6⟩ := hkk j hj15
        exact ⟨x2, x3, x4, x6.1, x6.2.1, by omega⟩
      · rw [ci 4 (by decide)] at hq
        have := hb j hj32 hq
        rw [c3]
        omega
      · rw [ci 5 (by decide)] at hq
        rw [ci 4 (by decide)]
        exact hs j hj32 hq
      · rw [c3] at hjd
        rw [ci 4 (by decide), a4' 2 (by decide) (by decide) (by decide), a4' 3 (by decide) (by decide) (by decide), a4' 4 (by decide) (by decide) (by decide)]
        by_cases hjk : j = k
        · subst hjk
          exact ⟨fun q => (by rw [hbk] at q; cases q), fun _ => b72k⟩
        · have := hd j hj15 (by omega)
          rw [b72 (3 * j) (by omega), b72 (3 * j + 1) (by omega), b72 (3 * j + 2) (by omega)]
          exact this
    have vV := CI_VW (by omega) hJV.1
    have hdk : (k : Int) < (cf V 3).toInt := by show (k : Int) < (V 1 3).toInt; rw [c3]; omega
    have d2 : F_X6_of V (nI k) 2 = -6 := by rw [o_2 vV hk hdk, ci 4 (by decide), hbk, if_neg (by decide)]
    have d6 : F_X6_of V (nI k) 6 = 0 := by
      rw [o_6 vV hk hdk, ci 5 (by decide)]
      cases hq : bt (st 1 5) k with
      | false => rw [if_neg (by decide)]
      | true => have := hj.1.2.2.2 k (by omega) hq; rw [hbk] at this; cases this
    rw [if_pos d2, if_pos d6]
    dsimp only
    exact ⟨rfl, hJV, by rw [c3]; omega⟩
theorem act_read {n : Nat} {st : xs_S} {g h x4 x5 t q : Int32} {k : Nat} (hn : n ≤ 36) (hj : J n st) (hk : k < 15) (hd : (k : Int) < (st 1 3).toInt) (ht : 0 ≤ t.toInt ∧ t.toInt ≤ 9999) (hq : 0 ≤ q.toInt ∧ q.toInt ≤ 300) : (lp_L_act_174 g h 1 x4 x5 (nI k) t q st).1 = 1 ∧ J (n + 1) (lp_L_act_174 g h 1 x4 x5 (nI k) t q st).2 ∧ 1 ≤ ((lp_L_act_174 g h 1 x4 x5 (nI k) t q st).2 1 3).toInt := by
  have hv := CI_VW (by omega) hj.1
  obtain ⟨aS, aN⟩ := a_read (st := st) hk hd ht hq
  have hdc : (k : Int) < (cf st 3).toInt := hd
  rw [lp_L_act_174, (i3k hk).1, (i3k hk).2.1, (i3k hk).2.2]
  cases hb5 : bt (st 1 5) k with
  | true =>
    obtain ⟨a1, a2⟩ := aS hb5
    have vU : VW (F_X6_read st (nI k) t q).2 (cf st) := VW_c (fun c hc => a2 c (Or.inl hc)) hv
    have d6 : F_X6_of (F_X6_read st (nI k) t q).2 (nI k) 6 = 1 := by rw [o_6 vU hk hdc, a2 1 (by decide), hb5, if_pos rfl]
    have d2 : F_X6_of (F_X6_read st (nI k) t q).2 (nI k) 2 = F_X6_of st (nI k) 2 := by rw [o_2 vU hk hdc, o_2 hv hk hdc, a2 1 (by decide)]
    rw [if_pos d6, if_pos a1, if_pos d2]
    dsimp only
    exact ⟨rfl, J_up (J_c (fun c hc => a2 c (Or.inl hc)) (a2 72 (by decide)) hj), by rw [a2 1 (by decide)]; omega⟩
  | false =>
    obtain ⟨a1, a2⟩ := aN hb5
    have w1 : ∀ i : Nat, i ≠ 4 → (F_X6_read st (nI k) t q).2 1 i = st 1 i := fun i hi => by rw [a2 1 (by decide), xs_rd_i hi, xs_rd_k (by decide), xs_rd_k (by decide), xs_rd_k (by decide)]
    have w14 : (F_X6_read st (nI k) t q).2 1 4 = st 1 4 ||| ((1 : Int32) <<< (nI k &&& 31)) := by rw [a2 1 (by decide), xs_rd_s]
    have w2 : ∀ j : Nat, (F_X6_read st (nI k) t q).2 2 j = if j = k then t else st 2 j := fun j => by
      rw [a2 2 (by decide), xs_rd_k (by decide), xs_rd_k (by decide), xs_rd_k (by decide)]
      by_cases hjk : j = k
      · subst hjk; rw [xs_rd_s, if_pos rfl]
      · rw [xs_rd_i hjk, if_neg hjk]
    have w3 : ∀ j : Nat, (F_X6_read st (nI k) t q).2 3 j = if j = k then q else st 3 j := fun j => by
      rw [a2 3 (by decide), xs_rd_k (by decide), xs_rd_k (by decide)]
      by_cases hjk : j = k
      · subst hjk; rw [xs_rd_s, if_pos rfl]
      · rw [xs_rd_i hjk, if_neg hjk, xs_rd_k (by decide)]
    have w4 : ∀ j : Nat, (F_X6_read st (nI k) t q).2 4 j = if j = k then st 1 2 else st 4 j := fun j => by
      rw [a2 4 (by decide), xs_rd_k (by decide)]
      by_cases hjk : j = k
      · subst hjk; rw [xs_rd_s, if_pos rfl]
      · rw [xs_rd_i hjk, if_neg hjk, xs_rd_k (by decide), xs_rd_k (by decide)]
    have w5 : ∀ c : Nat, (c < 7 ∨ 71 < c) → c ≠ 1 → c ≠ 2 → c ≠ 3 → c ≠ 4 → (F_X6_read st (nI k) t q).2 c = st c := fun c hc h1 h2 h3 h4 => by rw [a2 c hc, xs_rd_k h1, xs_rd_k h4, xs_rd_k h3, xs_rd_k h2]
    generalize (F_X6_read st (nI k) t q).1 = r1 at a1 ⊢
    generalize (F_X6_read st (nI k) t q).2 = U at w1 w14 w2 w3 w4 w5 ⊢
    clear a2 aS aN
    have ec : F_X6_count (xs_u (xs_u U 72 (3 * k) t) 72 (3 * k + 1) q) 0 = st 1 2 := by rw [n_0, xs_rd_k (by decide), xs_rd_k (by decide), w1 2 (by decide)]
    rw [ec]
    have z1 : ∀ c : Nat, c ≠ 72 → xs_u (xs_u (xs_u U 72 (3 * k) t) 72 (3 * k + 1) q) 72 (3 * k + 2) (st 1 2) c = U c := fun c hc => by rw [xs_rd_k hc, xs_rd_k hc, xs_rd_k hc]
    have z2 : ∀ i : Nat, i ≠ 3 * k → i ≠ 3 * k + 1 → i ≠ 3 * k + 2 → xs_u (xs_u (xs_u U 72 (3 * k) t) 72 (3 * k + 1) q) 72 (3 * k + 2) (st 1 2) 72 i = st 72 i := fun i h0 h1 h2 => by rw [xs_rd_i h2, xs_rd_i h1, xs_rd_i h0, w5 72 (by decide) (by decide) (by decide) (by decide) (by decide)]
    have z3 : xs_u (xs_u (xs_u U 72 (3 * k) t) 72 (3 * k + 1) q) 72 (3 * k + 2) (st 1 2) 72 (3 * k) = t ∧ xs_u (xs_u (xs_u U 72 (3 * k) t) 72 (3 * k + 1) q) 72 (3 * k + 2) (st 1 2) 72 (3 * k + 1) = q ∧ xs_u (xs_u (xs_u U 72 (3 * k) t) 72 (3 * k + 1) q) 72 (3 * k + 2) (st 1 2) 72 (3 * k + 2) = st 1 2 := ⟨by rw [xs_rd_i (by omega), xs_rd_i (by omega), xs_rd_s], by rw [xs_rd_i (by omega), xs_rd_s], by rw [xs_rd_s]⟩
    generalize xs_u (xs_u (xs_u U 72 (3 * k) t) 72 (3 * k + 1) q) 72 (3 * k + 2) (st 1 2) = V at z1 z2 z3 ⊢
    have hbV : ∀ j : Nat, j < 32 → bt (V 1 4) j = (bt (st 1 4) j || decide (j = k)) := fun j hj32 => by rw [z1 1 (by decide), w14, bt_orA hk hj32]
    have hJV : J (n + 1) V := by
      obtain ⟨⟨⟨c0, c1, c2, c3, c6⟩, hkk, hb, hs⟩, hd'⟩ := hj
      refine ⟨⟨⟨by rw [z1 1 (by decide), w1 0 (by decide)]; exact c0, by rw [z1 1 (by decide), w1 1 (by decide)]; exact c1, by rw [z1 1 (by decide), w1 2 (by decide)]; omega, by rw [z1 1 (by decide), w1 3 (by decide)]; exact c3, by rw [z1 1 (by decide), w1 6 (by decide)]; omega⟩, fun j hj15 => ?_, fun j hj32 hb4 => ?_, fun j hj32 hb4 => ?_⟩, fun j hj15 hjd => ?_⟩
      · rw [z1 1 (by decide), z1 2 (by decide), z1 3 (by decide), z1 4 (by decide), z1 5 (by decide), z1 6 (by decide), w1 2 (by decide), w2 j, w3 j, w4 j, w5 5 (by decide) (by decide) (by decide) (by decide) (by decide), w5 6 (by decide) (by decide) (by decide) (by decide) (by decide)]
        obtain ⟨x2, x3, x4, x6⟩ := hkk j hj15
        by_cases hjk : j = k
        · rw [if_pos hjk, if_pos hjk, if_pos hjk]
          exact ⟨ht, hq, ⟨c2.1, Int.le_refl _⟩, x6.1, x6.2.1, by omega⟩
        · rw [if_neg hjk, if_neg hjk, if_neg hjk]
          exact ⟨x2, x3, x4, x6.1, x6.2.1, by omega⟩
      · rw [hbV j hj32, Bool.or_eq_true] at hb4
        rw [z1 1 (by decide), w1 3 (by decide)]
        rcases hb4 with hb4 | hb4
        · exact hb j hj32 hb4
        · rw [of_decide_eq_true hb4]; exact hd
      · rw [z1 1 (by decide), w1 5 (by decide)] at hb4
        rw [hbV j hj32, hs j hj32 hb4, Bool.true_or]
      · rw [z1 1 (by decide), w1 3 (by decide)] at hjd
        rw [hbV j (by omega), z1 2 (by decide), z1 3 (by decide), z1 4 (by decide), w2 j, w3 j, w4 j]
        by_cases hjk : j = k
        · subst hjk
          rw [if_pos rfl, if_pos rfl, if_pos rfl, decide_eq_true rfl, Bool.or_true]
          exact ⟨fun _ => z3, fun e => by cases e⟩
        · rw [if_neg hjk, if_neg hjk, if_neg hjk, decide_eq_false hjk, Bool.or_false, z2 (3 * j) (by omega) (by omega) (by omega), z2 (3 * j + 1) (by omega) (by omega) (by omega), z2 (3 * j + 2) (by omega) (by omega) (by omega)]
          exact hd' j hj15 hjd
    have vU : VW U (cf V) := VW_c (fun c hc => (z1 c (by omega)).symm) (CI_VW (by omega) hJV.1)
    have vV := CI_VW (by omega) hJV.1
    have hdV : (k : Int) < (cf V 3).toInt := by show (k : Int) < (V 1 3).toInt; rw [z1 1 (by decide), w1 3 (by decide)]; exact hd
    have d6 : ¬ F_X6_of U (nI k) 6 = 1 := by rw [o_6 vU hk hdV, w1 5 (by decide), hb5, if_neg (by decide)]; decide
    have d1 : r1 = F_X6_of st (nI k) 2 := by
      rw [o_2 hv hk hdc, a1, cf_3]
      rfl
    have d2 : F_X6_of V (nI k) 2 = 0 := by
      have e2 : cf V 2 = st 1 2 := by show V 1 2 = _; rw [z1 1 (by decide), w1 2 (by decide)]
      rw [o_2 vV hk hdV, hbV k (by omega), decide_eq_true rfl, Bool.or_true, if_pos rfl, cf_3, z1 4 (by decide), w4 k, if_pos rfl, e2, Int32.sub_self]
    rw [if_neg d6, if_pos d1, if_pos d2]
    dsimp only
    exact ⟨rfl, hJV, by rw [z1 1 (by decide), w1 3 (by decide)]; omega⟩
/-- one number of the court's first cell by another -/
theorem J_one {n : Nat} {st U : xs_S} {i : Nat} {v : Int32} (hj : J n st) (hi : i < 3) (hU : ∀ c : Nat, (c < 7 ∨ 71 < c) → U c = xs_u st 1 i v c) (h0 : i = 0 → 0 ≤ v.toInt ∧ v.toInt ≤ 60) (h1 : i = 1 → 1 ≤ v.toInt ∧ v.toInt ≤ 20) (h2 : i = 2 → (st 1 2).toInt ≤ v.toInt ∧ v.toInt ≤ 400 * ((n + 1 : Nat) : Int)) : J (n + 1) U := by
  have ui : U 1 i = v := by rw [hU 1 (by decide), xs_rd_s]
  have uo : ∀ j : Nat, j ≠ i → U 1 j = st 1 j := fun j hji => by rw [hU 1 (by decide), xs_rd_i hji]
  have uc : ∀ c : Nat, (c < 7 ∨ 71 < c) → c ≠ 1 → U c = st c := fun c hc h => by rw [hU c hc, xs_rd_k h]
  obtain ⟨⟨⟨c0, c1, c2, c3, c6⟩, hkk, hb, hs⟩, hd⟩ := hj
  have g2 : (st 1 2).toInt ≤ (U 1 2).toInt ∧ (U 1 2).toInt ≤ 400 * ((n + 1 : Nat) : Int) := by
    by_cases hi2 : i = 2
    · subst hi2; rw [ui]; exact h2 rfl
    · rw [uo 2 (fun e => hi2 e.symm)]; omega
  refine ⟨⟨⟨?_, ?_, ⟨by omega, g2.2⟩, by rw [uo 3 (by omega)]; exact c3, by rw [uo 6 (by omega)]; omega⟩, fun j hj15 => ?_, ?_, ?_⟩, ?_⟩
  · by_cases hi0 : i = 0
    · subst hi0; rw [ui]; exact h0 rfl
    · rw [uo 0 (fun e => hi0 e.symm)]; exact c0
  · by_cases hi1 : i = 1
    · subst hi1; rw [ui]; exact h1 rfl
    · rw [uo 1 (fun e => hi1 e.symm)]; exact c1
  · rw [uc 2 (by decide) (by decide), uc 3 (by decide) (by decide), uc 4 (by decide) (by decide), uc 5 (by decide) (by decide), uc 6 (by decide) (by decide)]
    obtain ⟨x2, x3, x4, x6⟩ := hkk j hj15
    exact ⟨x2, x3, ⟨x4.1, by omega⟩, x6.1, x6.2.1, by omega⟩
  · rw [uo 4 (by omega), uo 3 (by omega)]; exact hb
  · rw [uo 5 (by omega), uo 4 (by omega)]; exact hs
  · unfold DD
    rw [uo 3 (by omega), uo 4 (by omega), uc 2 (by decide) (by decide), uc 3 (by decide) (by decide), uc 4 (by decide) (by decide), uc 72 (by decide) (by decide)]
    exact hd
/-- THE LAW'S act -/
theorem law_act {n : Nat} {st : xs_S} {g h : Int32} (hn : n ≤ 35) (hj : J n st) : (F_L_act st g h).1 = 1 ∧ J (n + 1) (F_L_act st g h).2 ∧ 1 ≤ ((F_L_act st g h).2 1 3).toInt := by
  have hD := hj.1.1.2.2.2.1
  unfold F_L_act
  rw [n_1]
  by_cases w0 : F_L_low st g 13 = 0
  · rw [if_pos w0]
    exact act_dial (by omega) hj
  · rw [if_neg w0]
    by_cases h0 : st 1 3 = 0
    · rw [if_pos h0]
      exact act_dial (by omega) hj
    · rw [if_neg h0]
      have hpos : 0 < (st 1 3).toInt := by
        have : ¬ (st 1 3).toInt = 0 := fun e => h0 (xi_eq.mpr (by rw [e, xi_0]))
        omega
      by_cases w8 : 8 ≤ F_L_low st g 13
      · rw [if_pos w8]
        by_cases w10 : 10 ≤ F_L_low st g 13
        · rw [if_pos w10]
          by_cases w : F_L_low st g 13 = 10
          · rw [if_pos w]
            by_cases wz : F_L_low st h 2 = 0
            · rw [if_pos wz]
              have hb := low_b (st := st) (v := h >>> ((2 : Int32) &&& 31)) (n := 30) (by decide)
              rw [show (30 : Int32).toInt = 30 by decide] at hb
              generalize F_L_low st (h >>> ((2 : Int32) &&& 31)) 30 = v at hb ⊢
              obtain ⟨a1, a2⟩ := a_set0 (st := st) (v := v) ⟨hb.1, by omega⟩
              have d2 : F_X6_count (F_X6_set st 0 v).2 6 = v := by rw [n_6, a2 1 (by decide), xs_rd_s]
              rw [if_pos (show (F_X6_set st 0 v).1 = F_X6_count st 6 from a1), if_pos d2]
              dsimp only
              exact ⟨rfl, J_one hj (by decide) a2 (fun _ => ⟨hb.1, by omega⟩) (fun e => by omega) (fun e => by omega), by rw [a2 1 (by decide), xs_rd_i (by decide)]; omega⟩
            · rw [if_neg wz]
              have hb := low_b (st := st) (v := h >>> ((2 : Int32) &&& 31)) (n := 6) (by decide)
              rw [show (6 : Int32).toInt = 6 by decide] at hb
              have hv : (1 + F_L_low st (h >>> ((2 : Int32) &&& 31)) 6).toInt = 1 + (F_L_low st (h >>> ((2 : Int32) &&& 31)) 6).toInt := by rw [xi_add (by rw [xi_1]; omega), xi_1]
              generalize 1 + F_L_low st (h >>> ((2 : Int32) &&& 31)) 6 = v at hv ⊢
              obtain ⟨a1, a2⟩ := a_set1 (st := st) (v := v) ⟨by omega, by omega⟩
              have d2 : F_X6_count (F_X6_set st 1 v).2 7 = v := by rw [n_7, a2 1 (by decide), xs_rd_s]
              rw [if_pos (show (F_X6_set st 1 v).1 = F_X6_count st 7 from a1), if_pos d2]
              dsimp only
              exact ⟨rfl, J_one hj (by decide) a2 (fun e => by omega) (fun _ => ⟨by omega, by omega⟩) (fun e => by omega), by rw [a2 1 (by decide), xs_rd_i (by decide)]; omega⟩
          · rw [if_neg w]
            exact law_agrees (by omega) hj hpos
        · rw [if_neg w10]
          have hb := low_b (st := st) (v := h) (n := 400) (by decide)
          rw [show (400 : Int32).toInt = 400 by decide] at hb
          have hv : (1 + F_L_low st h 400).toInt = 1 + (F_L_low st h 400).toInt := by rw [xi_add (by rw [xi_1]; omega), xi_1]
          have c2 := hj.1.1.2.2.1
          obtain ⟨a1, a2⟩ := a_pass (st := st) (m := 1 + F_L_low st h 400) ⟨by omega, by omega⟩ ⟨c2.1, by omega⟩
          have el : ∀ S : xs_S, F_L_low S h 400 = F_L_low st h 400 := fun _ => rfl
          have es : F_X6_count st 0 + 1 + F_L_low st h 400 = st 1 2 + (1 + F_L_low st h 400) := Int32.add_assoc _ _ _
          have d2 : F_X6_count (F_X6_pass st (1 + F_L_low st h 400)).2 0 = st 1 2 + (1 + F_L_low st h 400) := by rw [n_0, a2 1 (by decide), xs_rd_s]
          rw [el (F_X6_pass st (1 + F_L_low st h 400)).2, es, if_pos a1, if_pos d2]
          have e2 : (st 1 2 + (1 + F_L_low st h 400)).toInt = (st 1 2).toInt + 1 + (F_L_low st h 400).toInt := by rw [xi_add (by omega), hv]; omega
          dsimp only
          exact ⟨rfl, J_one hj (by decide) a2 (fun e => by omega) (fun e => by omega) (fun _ => ⟨by omega, by omega⟩), by rw [a2 1 (by decide), xs_rd_i (by decide)]; omega⟩
      · rw [if_neg w8]
        have hb := low_b (st := st) (v := g >>> ((4 : Int32) &&& 31)) (n := st 1 3) hpos
        obtain ⟨k, hk, ek, ekt⟩ := nI_dial (d := F_L_low st (g >>> ((4 : Int32) &&& 31)) (st 1 3)) ⟨hb.1, by omega⟩
        have t1 := low_b (st := st) (v := h) (n := 10000) (by decide)
        have t2 := low_b (st := st) (v := h) (n := 600) (by decide)
        have q1 := low_b (st := st) (v := h >>> ((8 : Int32) &&& 31)) (n := 301) (by decide)
        have q2 := low_b (st := st) (v := h >>> ((8 : Int32) &&& 31)) (n := 60) (by decide)
        rw [show (10000 : Int32).toInt = 10000 by decide] at t1
        rw [show (600 : Int32).toInt = 600 by decide] at t2
        rw [show (301 : Int32).toInt = 301 by decide] at q1
        rw [show (60 : Int32).toInt = 60 by decide] at q2
        have hd : (k : Int) < (st 1 3).toInt := by omega
        rw [ek]
        repeat' split
        · exact act_read (by omega) hj hk hd ⟨t1.1, by omega⟩ ⟨q1.1, by omega⟩
        · exact act_read (by omega) hj hk hd ⟨t1.1, by omega⟩ ⟨q2.1, by omega⟩
        · exact act_read (by omega) hj hk hd ⟨t2.1, by omega⟩ ⟨q1.1, by omega⟩
        · exact act_read (by omega) hj hk hd ⟨t2.1, by omega⟩ ⟨q2.1, by omega⟩
