/-! the questions about spans -/
theorem q_g {st : xs_S} {l : Int32} (hI : Inv st) : GA (F_X6_gatherNow st l) (rP (st 73) l) (rLo (st 73) 0) (rHi (st 73) 0) ∧ Inv (F_X6_gatherNow st l) ∧ F_X6_gatherNow st l 73 = st 73 := by
  refine ⟨?_, Inv_ga hI, gn_n (by decide)⟩
  refine g_ga (later := 0) hI.1 hI.2.1 ?_ ⟨by decide, by decide⟩
  unfold F_X1_now
  rw [hI.1.1.2.2.1]
  omega
theorem q_m {w : xs_S} {f : Nat → Int32} (hR : RowOK f) (e : w 73 = f) : MA (F_X7_layOut w 0 (-6)) (rP f (-1)) (rLo f 0) (rHi f 0) := by
  subst e
  exact m_lay6 hR ⟨by decide, by decide⟩
theorem q_w {w : xs_S} {f : Nat → Int32} {l : Int32} (hR : RowOK f) (e : w 73 = f) : MA (F_X7_layOut w 0 l) (rP f l) (rLo f 0) (rHi f 0) := by
  subst e
  exact m_lay hR ⟨by decide, by decide⟩
theorem q_b {f : Nat → Int32} {P : Nat → Bool} (hR : RowOK f) : BD P (rLo f 0) (rHi f 0) := bd_row hR ⟨by decide, by decide⟩
theorem h00 : 0 ≤ (0 : Int32).toInt ∧ (0 : Int32).toInt ≤ 16000 := ⟨by decide, by decide⟩
theorem eq_overlap {st : xs_S} {a : Int32} (hI : Inv st) : (F_X6_overlap st a).1 = (F_X7_overlap (F_X6_overlap st a).2 a).1 ∧ Inv (F_X7_overlap (F_X6_overlap st a).2 a).2 := by
  have i0 : ∀ s : xs_S, F_X7_in s a.toInt64 (-99999) 299999 = if (-99999 : Int32).toInt ≤ a.toInt ∧ a.toInt ≤ (299999 : Int32).toInt then 1 else 0 := fun s => in_if
  unfold F_X6_overlap
  by_cases h1 : a < -99999
  · rw [if_pos h1]
    rw [xi_lt] at h1
    unfold F_X7_overlap
    dsimp only
    rw [i0, if_neg (show ¬ ((-99999 : Int32).toInt ≤ a.toInt ∧ a.toInt ≤ (299999 : Int32).toInt) from fun h => by omega), if_pos rfl]
    exact ⟨rfl, hI⟩
  · rw [if_neg h1]
    rw [xi_lt] at h1
    by_cases h2 : a ≤ 299999
    · rw [if_pos h2]
      rw [xi_le] at h2
      obtain ⟨hG, hI2, e73⟩ := q_g (l := -1) hI
      have hM := q_m hI.2.1 e73
      unfold F_X7_overlap
      dsimp only
      rw [i0, if_pos (show (-99999 : Int32).toInt ≤ a.toInt ∧ a.toInt ≤ (299999 : Int32).toInt from ⟨by omega, h2⟩), if_neg (show ¬ ((1 : Int32) = 0) by decide)]
      dsimp only
      rw [g_many hG, m_ov, MA_ov hM]
      exact ⟨rfl, Inv_lay h00 hI2⟩
    · rw [if_neg h2]
      rw [xi_le] at h2
      unfold F_X7_overlap
      dsimp only
      rw [i0, if_neg (show ¬ ((-99999 : Int32).toInt ≤ a.toInt ∧ a.toInt ≤ (299999 : Int32).toInt) from fun h => h2 h.2), if_pos rfl]
      exact ⟨rfl, hI⟩
theorem eq_fewest {st : xs_S} (hI : Inv st) : (F_X6_fewest st).1 = (F_X7_fewest (F_X6_fewest st).2).1 ∧ Inv (F_X7_fewest (F_X6_fewest st).2).2 := by
  obtain ⟨hG, hI2, e73⟩ := q_g (l := -1) hI
  have hM := q_m hI.2.1 e73
  obtain ⟨hM2, hj⟩ := jn hG hM (q_b hI.2.1)
  have hI3 := Inv_se (Inv_lay (l := -6) h00 hI2)
  unfold F_X6_fewest
  rcases hj with ⟨a1, a2, a3, a4, a5, a6⟩ | ⟨a1, a2, a3, a4⟩
  · rw [if_pos a1]
    dsimp only
    unfold F_X7_fewest
    rw [if_neg (by rw [a2]; decide)]
    dsimp only
    refine ⟨?_, hI3⟩
    rw [a3, m_sz hM2]
    unfold F_X5_size
    rw [hG.1]
  · rw [if_neg (by rw [a1]; decide)]
    dsimp only
    unfold F_X7_fewest
    rw [if_pos a2]
    exact ⟨rfl, hI3⟩
theorem eq_without {st : xs_S} {d : Int32} (hI : Inv st) : (F_X6_without st d).1 = (F_X7_without (F_X6_without st d).2 d).1 ∧ Inv (F_X7_without (F_X6_without st d).2 d).2 := by
  have hdd : ∀ w : xs_S, w 73 = st 73 → F_X1_hasDial st d = F_X7_isDial w d := fun w e => dial_if (by rw [e]; exact hI.1) (by rw [e]; exact hI.2.1)
  obtain ⟨hG, hI2, e73⟩ := q_g (l := d) hI
  have hM := q_w (l := d) hI.2.1 e73
  obtain ⟨hM2, hj⟩ := jn hG hM (q_b hI.2.1)
  have hI3 := Inv_se (Inv_lay (l := d) h00 hI2)
  unfold F_X6_without
  by_cases h1 : F_X1_hasDial st d = 0
  · rw [if_pos h1]
    dsimp only
    unfold F_X7_without
    rw [if_pos (by rw [← hdd st rfl]; exact h1)]
    exact ⟨rfl, hI⟩
  · rw [if_neg h1]
    rcases hj with ⟨a1, a2, a3, a4, a5, a6⟩ | ⟨a1, a2, a3, a4⟩
    · rw [if_pos a1]
      dsimp only
      unfold F_X7_without
      rw [if_neg (by rw [← hdd _ e73]; exact h1), if_neg (by rw [a2]; decide)]
      dsimp only
      rw [a6]
      exact ⟨rfl, hI3⟩
    · rw [if_neg (by rw [a1]; decide)]
      dsimp only
      unfold F_X7_without
      rw [if_neg (by rw [← hdd _ e73]; exact h1), if_pos a2]
      exact ⟨rfl, hI3⟩
theorem eq_best {st : xs_S} {a : Int32} (hI : Inv st) : (F_X6_best st a).1 = (F_X7_best (F_X6_best st a).2 a).1 ∧ Inv (F_X7_best (F_X6_best st a).2 a).2 := by
  have e4 : (4 : Int32).toInt = 4 := by decide
  have i0 : ∀ s : xs_S, F_X7_in s a.toInt64 0 4 = if (0 : Int32).toInt ≤ a.toInt ∧ a.toInt ≤ (4 : Int32).toInt then 1 else 0 := fun s => in_if
  rw [xi_0, e4] at i0
  obtain ⟨hG, hI2, e73⟩ := q_g (l := -1) hI
  have hM := q_m hI.2.1 e73
  obtain ⟨hM2, hj⟩ := jn hG hM (q_b hI.2.1)
  have hI3 := Inv_se (Inv_lay (l := -6) h00 hI2)
  have bad : ¬ (0 ≤ a.toInt ∧ a.toInt ≤ 4) → F_X7_best st a = (-2, st) := by
    intro h
    unfold F_X7_best
    rw [i0, if_neg h, if_pos rfl]
  unfold F_X6_best
  by_cases h1 : a < 0
  · rw [if_pos h1]
    rw [xi_lt, xi_0] at h1
    dsimp only
    rw [bad (by omega)]
    exact ⟨rfl, hI⟩
  · rw [if_neg h1]
    rw [xi_lt, xi_0] at h1
    by_cases h2 : a ≤ 4
    · rw [if_pos h2]
      rw [xi_le, e4] at h2
      rcases hj with ⟨a1, a2, a3, a4, a5, a6⟩ | ⟨a1, a2, a3, a4⟩
      · rw [if_pos a1]
        have hb : F_X7_best (F_X6_gatherNow st (-1)) a = (if a.toInt = 0 then ((F_X7_seek (F_X7_layOut (F_X6_gatherNow st (-1)) 0 (-6))).2 72 14, (F_X7_seek (F_X7_layOut (F_X6_gatherNow st (-1)) 0 (-6))).2) else if a.toInt = 1 then ((F_X7_seek (F_X7_layOut (F_X6_gatherNow st (-1)) 0 (-6))).2 72 15 + 100000, (F_X7_seek (F_X7_layOut (F_X6_gatherNow st (-1)) 0 (-6))).2) else if a.toInt = 2 then ((F_X7_seek (F_X7_layOut (F_X6_gatherNow st (-1)) 0 (-6))).2 72 16 + 100000, (F_X7_seek (F_X7_layOut (F_X6_gatherNow st (-1)) 0 (-6))).2) else if a.toInt = 3 then (F_X7_hour (F_X7_seek (F_X7_layOut (F_X6_gatherNow st (-1)) 0 (-6))).2 + 100000, (F_X7_seek (F_X7_layOut (F_X6_gatherNow st (-1)) 0 (-6))).2) else (F_X7_honest (F_X7_seek (F_X7_layOut (F_X6_gatherNow st (-1)) 0 (-6))).2 (F_X7_hour (F_X7_seek (F_X7_layOut (F_X6_gatherNow st (-1)) 0 (-6))).2), (F_X7_seek (F_X7_layOut (F_X6_gatherNow st (-1)) 0 (-6))).2)) := by
          unfold F_X7_best
          rw [i0, if_pos (show 0 ≤ a.toInt ∧ a.toInt ≤ 4 from ⟨by omega, h2⟩), if_neg (show ¬ ((1 : Int32) = 0) by decide), if_neg (by rw [a2]; decide)]
        by_cases c0 : a.toInt = 0
        · rw [if_pos c0]
          dsimp only
          rw [hb, if_pos c0]
          exact ⟨a3, hI3⟩
        · rw [if_neg c0]
          by_cases c1 : a.toInt = 1
          · rw [if_pos c1]
            dsimp only
            rw [hb, if_neg c0, if_pos c1, a4]
            exact ⟨rfl, hI3⟩
          · rw [if_neg c1]
            by_cases c2 : a.toInt = 2
            · rw [if_pos c2]
              dsimp only
              rw [hb, if_neg c0, if_neg c1, if_pos c2, a5]
              exact ⟨rfl, hI3⟩
            · rw [if_neg c2]
              by_cases c3 : a.toInt = 3
              · rw [if_pos c3]
                dsimp only
                rw [hb, if_neg c0, if_neg c1, if_neg c2, if_pos c3, a6]
                exact ⟨rfl, hI3⟩
              · rw [if_neg c3]
                dsimp only
                rw [hb, if_neg c0, if_neg c1, if_neg c2, if_neg c3, a6, g_dials hG, m_hon hM2]
                exact ⟨rfl, hI3⟩
      · rw [if_neg (by rw [a1]; decide)]
        dsimp only
        unfold F_X7_best
        rw [i0, if_pos (show 0 ≤ a.toInt ∧ a.toInt ≤ 4 from ⟨by omega, h2⟩), if_neg (show ¬ ((1 : Int32) = 0) by decide), if_pos a2]
        exact ⟨rfl, hI3⟩
    · rw [if_neg h2]
      rw [xi_le, e4] at h2
      dsimp only
      rw [bad (by omega)]
      exact ⟨rfl, hI⟩
/-! allowing liars -/
theorem lg_f1 {u w : xs_S} {m : Int32} {P : Nat → Bool} {lo hi : Nat → Int} (hG : GA u P lo hi) (hM : MA w P lo hi) (hB : BD P lo hi) (hm : 1 ≤ m.toInt) : ((F_X7_find w m).1 = 0 ∧ F_X5_firstTimeOf u m = 1000000) ∨ ((F_X7_find w m).1 = 1 ∧ ¬ F_X5_firstTimeOf u m = 1000000 ∧ F_X5_firstTimeOf u m = (F_X7_find w m).2 72 15 ∧ F_X5_lastTimeOf u m (F_X5_firstTimeOf u m) = (F_X7_find w m).2 72 16) := by
  obtain ⟨f1, f2⟩ := m_find (m := m) hM
  rcases f2 with ⟨e, h⟩ | ⟨e, hF, s', hs', h16⟩
  · exact Or.inl ⟨e, lg_none hG h⟩
  · have e1 := lg_first hG hB hF
    refine Or.inr ⟨e, ?_, e1, ?_⟩
    · rw [e1]
      obtain ⟨⟨j, hj, hw, ej⟩, -⟩ := hF
      have hb := hB j hj hw.1
      intro h
      rw [xi_eq, ej, show (1000000 : Int32).toInt = 1000000 by decide] at h
      omega
    · rw [e1, h16]
      exact lg_last hG hB hs' hm hF
theorem m_bit0 {w : xs_S} {P : Nat → Bool} {lo hi : Nat → Int} (hM : MA w P lo hi) (h : w 72 11 = 0) : cn P 15 = 0 := by
  apply Classical.byContradiction
  intro hn
  obtain ⟨k, hk, hp⟩ := cn_ex (P := P) 15 (by omega)
  have h1 := (hM k hk).1
  unfold mp at h1
  rw [h, bt_0, hp] at h1
  cases h1
theorem ov_cn {P : Nat → Bool} {lo hi : Nat → Int} {t : Int} : ov P lo hi t ≤ cn P 15 := cn_mono 15 (fun k hk hp => (hb_iff.mp hp).1)
theorem eq_allowing {st : xs_S} {a b : Int32} (hI : Inv st) : (F_X6_allowing st a b).1 = (F_X7_allowing (F_X6_allowing st a b).2 a b).1 ∧ Inv (F_X7_allowing (F_X6_allowing st a b).2 a b).2 := by
  have e14 : (14 : Int32).toInt = 14 := by decide
  have e15 : (15 : Int32).toInt = 15 := by decide
  have i0 : ∀ s : xs_S, F_X7_in s a.toInt64 0 14 = if (0 : Int32).toInt ≤ a.toInt ∧ a.toInt ≤ (14 : Int32).toInt then 1 else 0 := fun s => in_if
  have i1 : ∀ s : xs_S, F_X7_in s b.toInt64 0 1 = if (0 : Int32).toInt ≤ b.toInt ∧ b.toInt ≤ (1 : Int32).toInt then 1 else 0 := fun s => in_if
  rw [xi_0, e14] at i0
  rw [xi_0, xi_1] at i1
  obtain ⟨hG, hI2, e73⟩ := q_g (l := -1) hI
  have hM := q_m hI.2.1 e73
  have hB := q_b (P := rP (st 73) (-1)) hI.2.1
  have bad : ¬ ((0 ≤ a.toInt ∧ a.toInt ≤ 14) ∧ (0 ≤ b.toInt ∧ b.toInt ≤ 1)) → F_X7_allowing st a b = (-2, st) := by
    intro h
    unfold F_X7_allowing
    rw [i0, i1]
    by_cases h1 : 0 ≤ a.toInt ∧ a.toInt ≤ 14
    · rw [if_pos h1, if_neg (show ¬ ((1 : Int32) = 0) by decide), if_neg (show ¬ (0 ≤ b.toInt ∧ b.toInt ≤ 1) from fun h2 => h ⟨h1, h2⟩), if_pos rfl]
    · rw [if_neg h1, if_pos rfl]
  unfold F_X6_allowing
  by_cases h1 : a < 0
  · rw [if_pos h1]
    rw [xi_lt, xi_0] at h1
    dsimp only
    rw [bad (by omega)]
    exact ⟨rfl, hI⟩
  rw [if_neg h1]
  rw [xi_lt, xi_0] at h1
  by_cases h2 : 15 ≤ a
  · rw [if_pos h2]
    rw [xi_le, e15] at h2
    dsimp only
    rw [bad (by omega)]
    exact ⟨rfl, hI⟩
  rw [if_neg h2]
  rw [xi_le, e15] at h2
  by_cases h3 : b < 0
  · rw [if_pos h3]
    rw [xi_lt, xi_0] at h3
    dsimp only
    rw [bad (by omega)]
    exact ⟨rfl, hI⟩
  rw [if_neg h3]
  rw [xi_lt, xi_0] at h3
  by_cases h4 : b ≤ 1
  · rw [if_pos h4]
    rw [xi_le, xi_1] at h4
    generalize hg : F_X6_gatherNow st (-1) = g at *
    have hsz : F_X5_size g = nI (cn (rP (st 73) (-1)) 15) := hG.1
    have hc := cn_b (P := rP (st 73) (-1)) (k := 15) (by decide)
    -- the needed number, on both sides
    have hsub : (nI (cn (rP (st 73) (-1)) 15) - a).toInt = (cn (rP (st 73) (-1)) 15 : Int) - a.toInt := by
      rw [xi_sub (by rw [nI_toInt (by omega)]; omega), nI_toInt (by omega)]
    rw [hsz]
    generalize hN : (if 1 < nI (cn (rP (st 73) (-1)) 15) - a then nI (cn (rP (st 73) (-1)) 15) - a else 1) = N
    have hN1 : 1 ≤ N.toInt := by
      rw [← hN]
      by_cases c : 1 < nI (cn (rP (st 73) (-1)) 15) - a
      · rw [if_pos c]
        rw [xi_lt, xi_1] at c
        omega
      · rw [if_neg c, xi_1]
        decide
    have hN2 : (if 1 ≤ nI (cn (rP (st 73) (-1)) 15) - a then nI (cn (rP (st 73) (-1)) 15) - a else 1) = N := by
      rw [← hN]
      by_cases c : 1 < nI (cn (rP (st 73) (-1)) 15) - a
      · rw [if_pos c, if_pos]
        rw [xi_lt, xi_1] at c
        rw [xi_le, xi_1]
        omega
      · rw [if_neg c]
        by_cases c' : 1 ≤ nI (cn (rP (st 73) (-1)) 15) - a
        · rw [if_pos c']
          apply xi_eq.mpr
          rw [xi_lt, xi_1] at c
          rw [xi_le, xi_1] at c'
          rw [xi_1]
          omega
        · rw [if_neg c']
    have hmod : F_X7_allowing g a b = if F_X7_layOut g 0 (-6) 72 11 = 0 then (-6, F_X7_layOut g 0 (-6)) else if (F_X7_find (F_X7_layOut g 0 (-6)) N).1 = 0 then (-6, (F_X7_find (F_X7_layOut g 0 (-6)) N).2) else if b = 0 then ((F_X7_find (F_X7_layOut g 0 (-6)) N).2 72 15 + 100000, (F_X7_find (F_X7_layOut g 0 (-6)) N).2) else ((F_X7_find (F_X7_layOut g 0 (-6)) N).2 72 16 + 100000, (F_X7_find (F_X7_layOut g 0 (-6)) N).2) := by
      unfold F_X7_allowing
      rw [i0, if_pos (show 0 ≤ a.toInt ∧ a.toInt ≤ 14 from ⟨by omega, by omega⟩), if_neg (show ¬ ((1 : Int32) = 0) by decide), i1, if_pos (show 0 ≤ b.toInt ∧ b.toInt ≤ 1 from ⟨by omega, h4⟩), if_neg (show ¬ ((1 : Int32) = 0) by decide), m_sz hM, ← hN2]
      by_cases c : 1 ≤ nI (cn (rP (st 73) (-1)) 15) - a
      · rw [if_pos c, if_pos c]
      · rw [if_neg c, if_neg c]
    have hI3 := Inv_lay (l := -6) h00 hI2
    have hI4 := Inv_fi (m := N) hI3
    rcases lg_f1 hG hM hB hN1 with ⟨f1, f2⟩ | ⟨f1, f2, f3, f4⟩
    · rw [if_pos f2]
      dsimp only
      rw [hmod]
      by_cases c : F_X7_layOut g 0 (-6) 72 11 = 0
      · rw [if_pos c]
        exact ⟨rfl, hI3⟩
      · rw [if_neg c, if_pos f1]
        exact ⟨rfl, hI4⟩
    · rw [if_neg f2]
      have c : ¬ F_X7_layOut g 0 (-6) 72 11 = 0 := by
        intro c
        have hz := m_bit0 hM c
        obtain ⟨-, f6⟩ := m_find (m := N) hM
        rcases f6 with ⟨e, h⟩ | ⟨e, ⟨⟨j, hj, hw, ej⟩, -⟩, -⟩
        · rw [e] at f1
          exact absurd f1 (by decide)
        · have h7 := cn_pos (P := rP (st 73) (-1)) 15 hj hw.1
          omega
      by_cases c0 : b = 0
      · rw [if_pos c0]
        dsimp only
        rw [hmod, if_neg c, if_neg (by rw [f1]; decide), if_pos c0, f3, Int32.add_comm]
        exact ⟨rfl, hI4⟩
      · rw [if_neg c0]
        dsimp only
        rw [hmod, if_neg c, if_neg (by rw [f1]; decide), if_neg c0, f4, Int32.add_comm]
        exact ⟨rfl, hI4⟩
  · rw [if_neg h4]
    rw [xi_le, xi_1] at h4
    dsimp only
    rw [bad (by omega)]
    exact ⟨rfl, hI⟩
