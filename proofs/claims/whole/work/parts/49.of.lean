/-! about a dial; the counts -/
theorem of_v {st : xs_S} {k : Nat} {a : Int32} (hI : Inv st) (hk : k < 15) (hd : ¬ F_X1_hasDial st (nI k) = 0) : F_X1_about st (nI k) a = (F_X7_of st (nI k) a).1 ∧ Inv (F_X7_of st (nI k) a).2 := by
  have hdd : F_X1_hasDial st (nI k) = F_X7_isDial st (nI k) := dial_if hI.1 hI.2.1
  have hM := q_m (w := st) hI.2.1 rfl
  have hI3 := Inv_lay (l := -6) h00 hI
  have e73 : F_X7_layOut st 0 (-6) 73 = st 73 := lay_n _ (by decide) (by decide) (by decide)
  obtain ⟨⟨e0, e1, e2, e3, e6, e7⟩, hrow, -⟩ := hI.1
  obtain ⟨⟨g0, g6⟩, g1, g2, g3, g4, g5⟩ := hrow k hk
  have g1' : st 2 k = st 73 (7 + 7 * k) := g1
  have g2' : st 3 k = st 73 (8 + 7 * k) := g2
  have g3' : st 4 k = st 73 (9 + 7 * k) := g3
  have g4' : st 5 k = st 73 (10 + 7 * k) := g4
  have g5' : st 6 k = st 73 (11 + 7 * k) := g5
  have hrp := rP_cr (l := -1) hI.1 hk
  have hn1 : ¬ nI k = -1 := by
    intro h
    rw [xi_eq, nI_toInt (by omega), show (-1 : Int32).toInt = -1 by decide] at h
    omega
  rw [decide_eq_true hn1, Bool.true_and] at hrp
  have hends := g_loe (later := 0) (time := st 1 2) hI.1 hI.2.1 (by rw [e2]; omega) ⟨by decide, by decide⟩ hk
  have hbit := MA_bit hM hk
  rw [hrp] at hbit
  have hsp := g_span (s := st) hk
  have hhd := hd_if (u := st) hk
  have hst := st_if (u := st) hk
  have hval := (hM k hk).2
  rw [hrp] at hval
  have tn : (nI k).toInt.toNat = k := nI_tn (by omega)
  generalize hL : F_X7_layOut st 0 (-6) = L at *
  have hr0 : F_X7_its L (nI k) 0 = st 73 (6 + 7 * k) := by rw [its_0 hk, e73]
  have hr3 : F_X7_its L (nI k) 3 = st 73 (9 + 7 * k) := by rw [its_3 hk, e73]
  have hr2 : F_X7_its L (nI k) 2 = st 73 (8 + 7 * k) := by rw [its_2 hk, e73]
  have h4 : a.toInt = 4 → F_X7_its L (nI k) a = st 73 (10 + 7 * k) := fun h => by rw [its_g (w' := 4) hk h (by decide), e73, show 6 + 7 * k + 4 = 10 + 7 * k by omega]
  have h5 : a.toInt = 5 → F_X7_its L (nI k) a = st 73 (11 + 7 * k) := fun h => by rw [its_g (w' := 5) hk h (by decide), e73, show 6 + 7 * k + 5 = 11 + 7 * k by omega]
  have h6 : a.toInt = 6 → F_X7_its L (nI k) a = st 73 (12 + 7 * k) := fun h => by rw [its_g (w' := 6) hk h (by decide), e73, show 6 + 7 * k + 6 = 12 + 7 * k by omega]
  have hs6 : (if (if bt (st 1 5) k = true then (1 : Int32) else 0) = 0 then (0 : Int32) else 1) = st 73 (12 + 7 * k) := by
    rw [g6]
    by_cases hb : bt (st 1 5) k = true
    · rw [if_pos hb, if_neg (show ¬ ((1 : Int32) = 0) by decide)]
    · rw [if_neg hb, if_pos rfl]
  have age : F_X1_ageAt st (nI k) (st 1 2) = L 73 2 - st 73 (9 + 7 * k) := by
    unfold F_X1_ageAt
    rw [tn, g3', e73, e2]
  unfold F_X1_about F_X7_of
  rw [if_neg (show ¬ F_X7_isDial st (nI k) = 0 by rw [← hdd]; exact hd), hL, hsp, hhd, hst, hs6, tn, age, g2', g4', g5', hr0, hr2, hr3, g0]
  have hz1 : ((1 : Int32) = 0) = False := by decide
  have hz2 : ((0 : Int32) = 1) = False := by decide
  have hz3 : ((1 : Int32) = 1) = True := by decide
  have hz4 : ((0 : Int32) = 0) = True := by decide
  by_cases hp : (bt (st 1 4) k && !bt (st 1 5) k) = true
  · have hr : bt (st 1 4) k = true := by simp only [Bool.and_eq_true] at hp; exact hp.1
    have hlo : F_X1_lowEnd st (nI k) (st 1 2) = L 81 k := xi_eq.mpr (by rw [hends.1]; exact (hval hp).1.symm)
    have hhi : F_X1_highEnd st (nI k) (st 1 2) = L 82 k := xi_eq.mpr (by rw [hends.2]; exact (hval hp).2.symm)
    rw [if_pos hp, if_pos (hbit.mpr hp), if_pos hr, hlo, hhi]
    by_cases c0 : a.toInt = 0
    · simp only [c0, if_true, if_false, reduceCtorEq, hz1, hz1, hz2, hz3, hz4]
      first | exact ⟨rfl, hI3⟩ | exact ⟨trivial, hI3⟩ | exact hI3
    by_cases c1 : a.toInt = 1
    · simp only [c1, if_true, if_false, reduceCtorEq, show ¬ ((1 : Int) = 0) by decide, hz1, hz2, hz3, hz4]
      first | exact ⟨rfl, hI3⟩ | exact ⟨trivial, hI3⟩ | exact hI3
    by_cases c2 : a.toInt = 2
    · simp only [c2, if_true, if_false, reduceCtorEq, show ¬ ((2 : Int) = 0) by decide, show ¬ ((2 : Int) = 1) by decide, hz1, hz2, hz3, hz4]
      first | exact ⟨rfl, hI3⟩ | exact ⟨trivial, hI3⟩ | exact hI3
    by_cases c3 : a.toInt = 3
    · simp only [c3, if_true, if_false, reduceCtorEq, show ¬ ((3 : Int) = 0) by decide, show ¬ ((3 : Int) = 1) by decide, show ¬ ((3 : Int) = 2) by decide, hz1, hz2, hz3, hz4]
      first | exact ⟨rfl, hI3⟩ | exact ⟨trivial, hI3⟩ | exact hI3
    by_cases c4 : a.toInt = 4
    · simp only [c4, if_true, if_false, reduceCtorEq, show ¬ ((4 : Int) = 0) by decide, show ¬ ((4 : Int) = 1) by decide, show ¬ ((4 : Int) = 2) by decide, show ¬ ((4 : Int) = 3) by decide, hz1, hz2, hz3, hz4]
      rw [h4 c4]
      first | exact ⟨rfl, hI3⟩ | exact ⟨trivial, hI3⟩ | exact hI3
    by_cases c5 : a.toInt = 5
    · simp only [c5, if_true, if_false, reduceCtorEq, show ¬ ((5 : Int) = 0) by decide, show ¬ ((5 : Int) = 1) by decide, show ¬ ((5 : Int) = 2) by decide, show ¬ ((5 : Int) = 3) by decide, show ¬ ((5 : Int) = 4) by decide, hz1, hz2, hz3, hz4]
      rw [h5 c5]
      first | exact ⟨rfl, hI3⟩ | exact ⟨trivial, hI3⟩ | exact hI3
    by_cases c6 : a.toInt = 6
    · simp only [c6, if_true, if_false, reduceCtorEq, show ¬ ((6 : Int) = 0) by decide, show ¬ ((6 : Int) = 1) by decide, show ¬ ((6 : Int) = 2) by decide, show ¬ ((6 : Int) = 3) by decide, show ¬ ((6 : Int) = 4) by decide, show ¬ ((6 : Int) = 5) by decide, hz1, hz2, hz3, hz4]
      rw [h6 c6]
      first | exact ⟨rfl, hI3⟩ | exact ⟨trivial, hI3⟩ | exact hI3
    simp only [c0, c1, c2, c3, c4, c5, c6, if_false, hz1, hz2, hz3, hz4]
    first | exact ⟨rfl, hI3⟩ | exact ⟨trivial, hI3⟩ | exact hI3
  · by_cases hr : bt (st 1 4) k = true
    · skip
      rw [if_neg hp, if_neg (show ¬ (((L 72 11) >>> (nI k &&& 31)) &&& 1 = 1) from fun h => hp (hbit.mp h)), if_pos hr]
      by_cases c0 : a.toInt = 0
      · simp only [c0, if_true, if_false, reduceCtorEq, hz1, hz1, hz2, hz3, hz4]
        first | exact ⟨rfl, hI3⟩ | exact ⟨trivial, hI3⟩ | exact hI3
      by_cases c1 : a.toInt = 1
      · simp only [c1, if_true, if_false, reduceCtorEq, show ¬ ((1 : Int) = 0) by decide, hz1, hz2, hz3, hz4]
        first | exact ⟨rfl, hI3⟩ | exact ⟨trivial, hI3⟩ | exact hI3
      by_cases c2 : a.toInt = 2
      · simp only [c2, if_true, if_false, reduceCtorEq, show ¬ ((2 : Int) = 0) by decide, show ¬ ((2 : Int) = 1) by decide, hz1, hz2, hz3, hz4]
        first | exact ⟨rfl, hI3⟩ | exact ⟨trivial, hI3⟩ | exact hI3
      by_cases c3 : a.toInt = 3
      · simp only [c3, if_true, if_false, reduceCtorEq, show ¬ ((3 : Int) = 0) by decide, show ¬ ((3 : Int) = 1) by decide, show ¬ ((3 : Int) = 2) by decide, hz1, hz2, hz3, hz4]
        first | exact ⟨rfl, hI3⟩ | exact ⟨trivial, hI3⟩ | exact hI3
      by_cases c4 : a.toInt = 4
      · simp only [c4, if_true, if_false, reduceCtorEq, show ¬ ((4 : Int) = 0) by decide, show ¬ ((4 : Int) = 1) by decide, show ¬ ((4 : Int) = 2) by decide, show ¬ ((4 : Int) = 3) by decide, hz1, hz2, hz3, hz4]
        rw [h4 c4]
        first | exact ⟨rfl, hI3⟩ | exact ⟨trivial, hI3⟩ | exact hI3
      by_cases c5 : a.toInt = 5
      · simp only [c5, if_true, if_false, reduceCtorEq, show ¬ ((5 : Int) = 0) by decide, show ¬ ((5 : Int) = 1) by decide, show ¬ ((5 : Int) = 2) by decide, show ¬ ((5 : Int) = 3) by decide, show ¬ ((5 : Int) = 4) by decide, hz1, hz2, hz3, hz4]
        rw [h5 c5]
        first | exact ⟨rfl, hI3⟩ | exact ⟨trivial, hI3⟩ | exact hI3
      by_cases c6 : a.toInt = 6
      · simp only [c6, if_true, if_false, reduceCtorEq, show ¬ ((6 : Int) = 0) by decide, show ¬ ((6 : Int) = 1) by decide, show ¬ ((6 : Int) = 2) by decide, show ¬ ((6 : Int) = 3) by decide, show ¬ ((6 : Int) = 4) by decide, show ¬ ((6 : Int) = 5) by decide, hz1, hz2, hz3, hz4]
        rw [h6 c6]
        first | exact ⟨rfl, hI3⟩ | exact ⟨trivial, hI3⟩ | exact hI3
      simp only [c0, c1, c2, c3, c4, c5, c6, if_false, hz1, hz2, hz3, hz4]
      first | exact ⟨rfl, hI3⟩ | exact ⟨trivial, hI3⟩ | exact hI3
    · skip
      rw [if_neg hp, if_neg (show ¬ (((L 72 11) >>> (nI k &&& 31)) &&& 1 = 1) from fun h => hp (hbit.mp h)), if_neg hr]
      by_cases c0 : a.toInt = 0
      · simp only [c0, if_true, if_false, reduceCtorEq, hz1, hz1, hz2, hz3, hz4]
        first | exact ⟨rfl, hI3⟩ | exact ⟨trivial, hI3⟩ | exact hI3
      by_cases c1 : a.toInt = 1
      · simp only [c1, if_true, if_false, reduceCtorEq, show ¬ ((1 : Int) = 0) by decide, hz1, hz2, hz3, hz4]
        first | exact ⟨rfl, hI3⟩ | exact ⟨trivial, hI3⟩ | exact hI3
      by_cases c2 : a.toInt = 2
      · simp only [c2, if_true, if_false, reduceCtorEq, show ¬ ((2 : Int) = 0) by decide, show ¬ ((2 : Int) = 1) by decide, hz1, hz2, hz3, hz4]
        first | exact ⟨rfl, hI3⟩ | exact ⟨trivial, hI3⟩ | exact hI3
      by_cases c3 : a.toInt = 3
      · simp only [c3, if_true, if_false, reduceCtorEq, show ¬ ((3 : Int) = 0) by decide, show ¬ ((3 : Int) = 1) by decide, show ¬ ((3 : Int) = 2) by decide, hz1, hz2, hz3, hz4]
        first | exact ⟨rfl, hI3⟩ | exact ⟨trivial, hI3⟩ | exact hI3
      by_cases c4 : a.toInt = 4
      · simp only [c4, if_true, if_false, reduceCtorEq, show ¬ ((4 : Int) = 0) by decide, show ¬ ((4 : Int) = 1) by decide, show ¬ ((4 : Int) = 2) by decide, show ¬ ((4 : Int) = 3) by decide, hz1, hz2, hz3, hz4]
        rw [h4 c4]
        first | exact ⟨rfl, hI3⟩ | exact ⟨trivial, hI3⟩ | exact hI3
      by_cases c5 : a.toInt = 5
      · simp only [c5, if_true, if_false, reduceCtorEq, show ¬ ((5 : Int) = 0) by decide, show ¬ ((5 : Int) = 1) by decide, show ¬ ((5 : Int) = 2) by decide, show ¬ ((5 : Int) = 3) by decide, show ¬ ((5 : Int) = 4) by decide, hz1, hz2, hz3, hz4]
        rw [h5 c5]
        first | exact ⟨rfl, hI3⟩ | exact ⟨trivial, hI3⟩ | exact hI3
      by_cases c6 : a.toInt = 6
      · simp only [c6, if_true, if_false, reduceCtorEq, show ¬ ((6 : Int) = 0) by decide, show ¬ ((6 : Int) = 1) by decide, show ¬ ((6 : Int) = 2) by decide, show ¬ ((6 : Int) = 3) by decide, show ¬ ((6 : Int) = 4) by decide, show ¬ ((6 : Int) = 5) by decide, hz1, hz2, hz3, hz4]
        rw [h6 c6]
        first | exact ⟨rfl, hI3⟩ | exact ⟨trivial, hI3⟩ | exact hI3
      simp only [c0, c1, c2, c3, c4, c5, c6, if_false, hz1, hz2, hz3, hz4]
      first | exact ⟨rfl, hI3⟩ | exact ⟨trivial, hI3⟩ | exact hI3
theorem eq_of {st : xs_S} {d a : Int32} (hI : Inv st) : F_X6_of st d a = (F_X7_of st d a).1 ∧ Inv (F_X7_of st d a).2 := by
  have hdd : F_X1_hasDial st d = F_X7_isDial st d := dial_if hI.1 hI.2.1
  unfold F_X6_of
  by_cases h : F_X1_hasDial st d = 0
  · rw [if_pos h]
    unfold F_X7_of
    rw [if_pos (by rw [← hdd]; exact h)]
    exact ⟨rfl, hI⟩
  · rw [if_neg h]
    have hin := hasDial_in h
    rw [hI.1.1.2.2.2.1] at hin
    have hD := ro_D hI.2.1
    obtain ⟨k, hk, ed, edi⟩ := nI_dial (show 0 ≤ d.toInt ∧ d.toInt < 15 by omega)
    subst ed
    exact of_v hI hk h
