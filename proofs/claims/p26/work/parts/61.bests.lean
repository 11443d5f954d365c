/-! the best overlap: where it begins and ends -/
def BB (P : Nat → Bool) (lo hi : Nat → Int) (M L H : Int) : Prop := Mo P lo hi 15 M ∧ Le (fun j => P j = true ∧ M ≤ (ov P lo hi (lo j) : Int)) lo 15 L ∧ Le (fun j => P j = true ∧ L ≤ hi j ∧ (ov P lo hi (hi j + 1) : Int) < M) hi 15 H
theorem Le_u {W : Nat → Prop} {val : Nat → Int} {a b : Int} (hW : ∀ j : Nat, j < 15 → W j → val j < 1000000) (ha : Le W val 15 a) (hb : Le W val 15 b) : a = b := by
  obtain ⟨a1, a2⟩ := ha
  obtain ⟨b1, b2⟩ := hb
  rcases a1 with a1 | ⟨i, hi, hwi, ei⟩ <;> rcases b1 with b1 | ⟨j, hj, hwj, ej⟩
  · omega
  · have h1 := a2 j hj hwj
    have h2 := hW j hj hwj
    omega
  · have h1 := b2 i hi hwi
    have h2 := hW i hi hwi
    omega
  · have h1 := a2 j hj hwj
    have h2 := b2 i hi hwi
    omega
section BS
variable {P : Nat → Bool} {lo hi : Nat → Int} {M L H : Int}
theorem BB_u {M' L' H' : Int} (hB : BD P lo hi) (h : BB P lo hi M L H) (h' : BB P lo hi M' L' H') : M = M' ∧ L = L' ∧ H = H' := by
  have e1 := Mo_u h.1 h'.1
  subst e1
  have e2 := Le_u (fun j hj hw => by have := hB j hj hw.1; omega) h.2.1 h'.2.1
  subst e2
  have e3 := Le_u (fun j hj hw => by have := hB j hj hw.1; omega) h.2.2 h'.2.2
  exact ⟨rfl, rfl, e3⟩
theorem bb_1 (hB : BD P lo hi) (h : BB P lo hi M L H) (hne : ∃ k : Nat, k < 15 ∧ P k = true) : 1 ≤ M := by
  obtain ⟨k, hk, hp⟩ := hne
  have h1 := h.1.2.1 k hk hp
  have hb := hB k hk hp
  have h2 : 1 ≤ ov P lo hi (lo k) := cn_pos 15 hk (hb_iff.mpr ⟨hp, Int.le_refl _, hb.2.1⟩)
  omega
theorem bb_L (hB : BD P lo hi) (h : BB P lo hi M L H) (hne : ∃ k : Nat, k < 15 ∧ P k = true) : (∃ j : Nat, j < 15 ∧ P j = true ∧ L = lo j) ∧ (ov P lo hi L : Int) = M := by
  have h1 := bb_1 hB h hne
  obtain ⟨hM, ⟨hL1, hL2⟩, -⟩ := h
  rcases hL1 with hL1 | ⟨i, hi', hwi, ei⟩
  · exfalso
    rcases hM.2.2 with h0 | ⟨j, hj, hp, e⟩
    · omega
    · have h3 := hL2 j hj ⟨hp, by omega⟩
      have h4 := hB j hj hp
      omega
  · refine ⟨⟨i, hi', hwi.1, ei⟩, ?_⟩
    rw [ei]
    have := Mo_t hM (lo i)
    have := hwi.2
    omega
theorem bb_pre (hB : BD P lo hi) (h : BB P lo hi M L H) (hne : ∃ k : Nat, k < 15 ∧ P k = true) {t : Int} (ht : t < L) : (ov P lo hi t : Int) < M := by
  have h1 := bb_1 hB h hne
  have h2 := Mo_t h.1 t
  by_cases he : (ov P lo hi t : Int) = M
  · exfalso
    obtain ⟨j, hj, hq, hm⟩ := mx_lo (Q := hb P lo hi t) (lo := lo) 15 (cn_ex 15 (by unfold ov at he; omega))
    have hbj := hb_iff.mp hq
    have h3 : ov P lo hi t ≤ ov P lo hi (lo j) := by
      refine cn_mono 15 (fun k hk hp => ?_)
      have h4 := hb_iff.mp hp
      exact hb_iff.mpr ⟨h4.1, hm k hk hp, by omega⟩
    have h5 := h.2.1.2 j hj ⟨hbj.1, by omega⟩
    omega
  · omega
theorem bb_H (hB : BD P lo hi) (h : BB P lo hi M L H) (hne : ∃ k : Nat, k < 15 ∧ P k = true) : L ≤ H ∧ (∃ j : Nat, j < 15 ∧ P j = true ∧ H = hi j) ∧ (ov P lo hi (H + 1) : Int) < M := by
  have h1 := bb_1 hB h hne
  obtain ⟨⟨i, hi', hpi, ei⟩, -⟩ := bb_L hB h hne
  obtain ⟨j, hj, hpj, hm⟩ := mx_lo (Q := P) (lo := hi) 15 hne
  have hz : (ov P lo hi (hi j + 1) : Int) < M := by
    by_cases h0 : 1 ≤ ov P lo hi (hi j + 1)
    · obtain ⟨k, hk, hq⟩ := cn_ex 15 h0
      have hbk := hb_iff.mp hq
      have := hm k hk hbk.1
      omega
    · omega
  have hbi := hB i hi' hpi
  have hmi := hm i hi' hpi
  obtain ⟨-, -, ⟨hH1, hH2⟩⟩ := h
  rcases hH1 with hH1 | ⟨k, hk, hwk, ek⟩
  · exfalso
    have h3 := hH2 j hj ⟨hpj, by omega, hz⟩
    have h4 := hB j hj hpj
    omega
  · rw [ek]
    exact ⟨hwk.2.1, ⟨k, hk, hwk.1, rfl⟩, hwk.2.2⟩
theorem bb_in (hB : BD P lo hi) (h : BB P lo hi M L H) (hne : ∃ k : Nat, k < 15 ∧ P k = true) : ∀ n : Nat, L + (n : Int) ≤ H → (ov P lo hi (L + (n : Int)) : Int) = M := by
  intro n
  induction n with
  | zero => intro _; rw [show L + ((0 : Nat) : Int) = L by omega]; exact (bb_L hB h hne).2
  | succ n ih =>
    intro hle
    have h1 := ih (by omega)
    have h2 := Mo_t h.1 (L + ((n + 1 : Nat) : Int))
    by_cases he : (ov P lo hi (L + ((n + 1 : Nat) : Int)) : Int) = M
    · exact he
    · exfalso
      by_cases hex : ∃ k : Nat, k < 15 ∧ hb P lo hi (L + (n : Int)) k = true ∧ hb P lo hi (L + ((n + 1 : Nat) : Int)) k = false
      · obtain ⟨k, hk, ha, hb'⟩ := hex
        have h3 := hb_iff.mp ha
        have h4 : ¬ (P k = true ∧ lo k ≤ L + ((n + 1 : Nat) : Int) ∧ L + ((n + 1 : Nat) : Int) ≤ hi k) := fun q => by rw [hb_iff.mpr q] at hb'; cases hb'
        have h5 : hi k = L + (n : Int) := by
          by_cases h6 : L + ((n + 1 : Nat) : Int) ≤ hi k
          · exact absurd ⟨h3.1, by omega, h6⟩ h4
          · omega
        have h7 : hi k + 1 = L + ((n + 1 : Nat) : Int) := by omega
        have h8 := h.2.2.2 k hk ⟨h3.1, by omega, by rw [h7]; omega⟩
        omega
      · have h3 : ov P lo hi (L + (n : Int)) ≤ ov P lo hi (L + ((n + 1 : Nat) : Int)) := by
          refine cn_mono 15 (fun k hk hp => ?_)
          cases hq : hb P lo hi (L + ((n + 1 : Nat) : Int)) k with
          | true => rfl
          | false => exact absurd ⟨k, hk, hp, hq⟩ hex
        omega
theorem bb_mid (hB : BD P lo hi) (h : BB P lo hi M L H) (hne : ∃ k : Nat, k < 15 ∧ P k = true) {t : Int} (h1 : L ≤ t) (h2 : t ≤ H) : (ov P lo hi t : Int) = M := by
  have := bb_in hB h hne (t - L).toNat (by omega)
  rw [show L + ((t - L).toNat : Int) = t by omega] at this
  exact this
theorem ov_cn {t : Int} : ov P lo hi t ≤ cn P 15 := cn_mono 15 (fun k hk hp => (hb_iff.mp hp).1)
theorem bb_M (hB : BD P lo hi) (h : BB P lo hi M L H) (hne : ∃ k : Nat, k < 15 ∧ P k = true) : M ≤ (cn P 15 : Int) := by
  have h1 := (bb_L hB h hne).2
  have h2 := ov_cn (P := P) (lo := lo) (hi := hi) (t := L)
  omega
end BS
section BV
variable {st : xs_S} {f : Nat → Int32} {M L H : Int}
theorem v_bb (hv : VW st f) : BB (rP f (-1)) (rLo f 0) (rHi f 0) (F_X5_most (F_X6_gatherNow st (-1))).toInt (F_X5_firstTimeOf (F_X6_gatherNow st (-1)) (F_X5_most (F_X6_gatherNow st (-1)))).toInt (F_X5_lastTimeOf (F_X6_gatherNow st (-1)) (F_X5_most (F_X6_gatherNow st (-1))) (F_X5_firstTimeOf (F_X6_gatherNow st (-1)) (F_X5_most (F_X6_gatherNow st (-1))))).toInt := ⟨g_most (v_ga hv), g_first (v_ga hv), g_last (v_ga hv) (v_bd hv)⟩
theorem v_emp (hv : VW st f) : F_X5_isEmpty (F_X6_gatherNow st (-1)) = if cn (rP f (-1)) 15 = 0 then 1 else 0 := by
  have hc := cn_le (P := rP f (-1)) 15
  unfold F_X5_isEmpty
  rw [(v_ga hv).1]
  by_cases h : cn (rP f (-1)) 15 = 0
  · rw [if_pos h, if_pos (by rw [h]; exact nI_0)]
  · rw [if_neg h, if_neg (fun e => h (by have e2 := congrArg Int32.toInt e; rw [nI_toInt (by omega), xi_0] at e2; omega))]
theorem v_ne0 (hv : VW st f) (hne : ∃ k : Nat, k < 15 ∧ rP f (-1) k = true) : F_X5_isEmpty (F_X6_gatherNow st (-1)) = 0 := by
  obtain ⟨k, hk, hp⟩ := hne
  have h1 := cn_pos (P := rP f (-1)) 15 hk hp
  rw [v_emp hv, if_neg (by omega)]
theorem v_e1 (hv : VW st f) (he : cn (rP f (-1)) 15 = 0) : F_X5_isEmpty (F_X6_gatherNow st (-1)) = 1 := by
  rw [v_emp hv, if_pos he]
theorem e105 : (100000 : Int32).toInt = 100000 := by decide
theorem bb_bd {f : Nat → Int32} (hR : RowOK f) (h : BB (rP f (-1)) (rLo f 0) (rHi f 0) M L H) (hne : ∃ k : Nat, k < 15 ∧ rP f (-1) k = true) : -300 ≤ L ∧ L ≤ H ∧ H ≤ 211000 ∧ 1 ≤ M ∧ M ≤ 15 := by
  have hB : BD (rP f (-1)) (rLo f 0) (rHi f 0) := bd_row hR ⟨by decide, by decide⟩
  obtain ⟨⟨i, hi, hpi, ei⟩, -⟩ := bb_L hB h hne
  obtain ⟨h1, ⟨j, hj, hpj, ej⟩, -⟩ := bb_H hB h hne
  have h2 := lo_b hR hi
  have h3 := lo_b hR hj
  have h4 := bb_1 hB h hne
  have h5 := bb_M hB h hne
  have h6 := cn_le (P := rP f (-1)) 15
  omega
theorem q_b0 (hv : VW st f) (h : BB (rP f (-1)) (rLo f 0) (rHi f 0) M L H) (hne : ∃ k : Nat, k < 15 ∧ rP f (-1) k = true) : (F_X6_best st 0).1.toInt = M := by
  unfold F_X6_best
  rw [if_neg (show ¬ (0 : Int32) < 0 by decide), if_pos (show (0 : Int32) ≤ 4 by decide), if_pos (v_ne0 hv hne), if_pos (show (0 : Int32).toInt = 0 by decide)]
  exact (BB_u (v_bd hv) (v_bb hv) h).1
theorem q_b1 (hv : VW st f) (h : BB (rP f (-1)) (rLo f 0) (rHi f 0) M L H) (hne : ∃ k : Nat, k < 15 ∧ rP f (-1) k = true) : (F_X6_best st 1).1.toInt = L + 100000 := by
  have hb := bb_bd hv.2 h hne
  have e := (BB_u (v_bd hv) (v_bb hv) h).2.1
  unfold F_X6_best
  rw [if_neg (show ¬ (1 : Int32) < 0 by decide), if_pos (show (1 : Int32) ≤ 4 by decide), if_pos (v_ne0 hv hne), if_neg (show ¬ (1 : Int32).toInt = 0 by decide), if_pos (show (1 : Int32).toInt = 1 by decide)]
  unfold F_X5_bestLow
  dsimp only
  rw [xi_add (by rw [e, e105]; omega), e, e105]
theorem q_b2 (hv : VW st f) (h : BB (rP f (-1)) (rLo f 0) (rHi f 0) M L H) (hne : ∃ k : Nat, k < 15 ∧ rP f (-1) k = true) : (F_X6_best st 2).1.toInt = H + 100000 := by
  have hb := bb_bd hv.2 h hne
  have e := (BB_u (v_bd hv) (v_bb hv) h).2.2
  unfold F_X6_best
  rw [if_neg (show ¬ (2 : Int32) < 0 by decide), if_pos (show (2 : Int32) ≤ 4 by decide), if_pos (v_ne0 hv hne), if_neg (show ¬ (2 : Int32).toInt = 0 by decide), if_neg (show ¬ (2 : Int32).toInt = 1 by decide), if_pos (show (2 : Int32).toInt = 2 by decide)]
  unfold F_X5_bestHigh
  dsimp only
  rw [xi_add (by rw [e, e105]; omega), e, e105]
theorem v_hour (hv : VW st f) (h : BB (rP f (-1)) (rLo f 0) (rHi f 0) M L H) (hne : ∃ k : Nat, k < 15 ∧ rP f (-1) k = true) : (F_X5_hour (F_X6_gatherNow st (-1))).toInt = (L + H) / 2 := by
  have hb := bb_bd hv.2 h hne
  have e := BB_u (v_bd hv) (v_bb hv) h
  unfold F_X5_hour
  rw [fd_2, xi_add (by rw [e.2.1, e.2.2]; omega), e.2.1, e.2.2]
theorem q_b3 (hv : VW st f) (h : BB (rP f (-1)) (rLo f 0) (rHi f 0) M L H) (hne : ∃ k : Nat, k < 15 ∧ rP f (-1) k = true) : (F_X6_best st 3).1.toInt = (L + H) / 2 + 100000 := by
  have hb := bb_bd hv.2 h hne
  have e := v_hour hv h hne
  unfold F_X6_best
  rw [if_neg (show ¬ (3 : Int32) < 0 by decide), if_pos (show (3 : Int32) ≤ 4 by decide), if_pos (v_ne0 hv hne), if_neg (show ¬ (3 : Int32).toInt = 0 by decide), if_neg (show ¬ (3 : Int32).toInt = 1 by decide), if_neg (show ¬ (3 : Int32).toInt = 2 by decide), if_pos (show (3 : Int32).toInt = 3 by decide)]
  dsimp only
  rw [xi_add (by rw [e, e105]; omega), e, e105]
theorem q_b4 (hv : VW st f) (h : BB (rP f (-1)) (rLo f 0) (rHi f 0) M L H) (hne : ∃ k : Nat, k < 15 ∧ rP f (-1) k = true) : (F_X6_best st 4).1 = mk (hb (rP f (-1)) (rLo f 0) (rHi f 0) ((L + H) / 2)) 15 := by
  have e := v_hour hv h hne
  unfold F_X6_best
  rw [if_neg (show ¬ (4 : Int32) < 0 by decide), if_pos (show (4 : Int32) ≤ 4 by decide), if_pos (v_ne0 hv hne), if_neg (show ¬ (4 : Int32).toInt = 0 by decide), if_neg (show ¬ (4 : Int32).toInt = 1 by decide), if_neg (show ¬ (4 : Int32).toInt = 2 by decide), if_neg (show ¬ (4 : Int32).toInt = 3 by decide)]
  dsimp only
  rw [g_dials (v_ga hv), e]
theorem q_be {w : Int32} (hw : 0 ≤ w.toInt ∧ w.toInt ≤ 4) (hv : VW st f) (he : cn (rP f (-1)) 15 = 0) : (F_X6_best st w).1 = -6 := by
  unfold F_X6_best
  rw [if_neg (show ¬ w < 0 by rw [xi_lt, xi_0]; omega), if_pos (show w ≤ 4 by rw [xi_le, show (4 : Int32).toInt = 4 by decide]; omega), if_neg (by rw [v_e1 hv he]; decide)]
theorem v_size (hv : VW st f) : (F_X5_size (F_X6_gatherNow st (-1))).toInt = (cn (rP f (-1)) 15 : Int) := by
  have hc := cn_le (P := rP f (-1)) 15
  unfold F_X5_size
  rw [(v_ga hv).1, nI_toInt (by omega)]
theorem q_few (hv : VW st f) (h : BB (rP f (-1)) (rLo f 0) (rHi f 0) M L H) (hne : ∃ k : Nat, k < 15 ∧ rP f (-1) k = true) : (F_X6_fewest st).1.toInt = (cn (rP f (-1)) 15 : Int) - M := by
  have hb := bb_bd hv.2 h hne
  have hc := cn_le (P := rP f (-1)) 15
  have e := BB_u (v_bd hv) (v_bb hv) h
  unfold F_X6_fewest
  rw [if_pos (v_ne0 hv hne)]
  dsimp only
  rw [xi_sub (by rw [v_size hv, e.1]; omega), v_size hv, e.1]
theorem q_fewe (hv : VW st f) (he : cn (rP f (-1)) 15 = 0) : (F_X6_fewest st).1 = -6 := by
  unfold F_X6_fewest
  rw [if_neg (by rw [v_e1 hv he]; decide)]
theorem v_need {a : Int32} (hv : VW st f) (h : BB (rP f (-1)) (rLo f 0) (rHi f 0) M L H) (hne : ∃ k : Nat, k < 15 ∧ rP f (-1) k = true) (ha : a.toInt = (cn (rP f (-1)) 15 : Int) - M) : (if 1 < F_X5_size (F_X6_gatherNow st (-1)) - a then F_X5_size (F_X6_gatherNow st (-1)) - a else 1) = F_X5_most (F_X6_gatherNow st (-1)) := by
  have hb := bb_bd hv.2 h hne
  have hc := cn_le (P := rP f (-1)) 15
  have e := BB_u (v_bd hv) (v_bb hv) h
  have es : (F_X5_size (F_X6_gatherNow st (-1)) - a).toInt = M := by
    rw [xi_sub (by rw [v_size hv, ha]; omega), v_size hv, ha]
    omega
  apply xi_eq.mpr
  rw [e.1]
  by_cases h1 : 1 < F_X5_size (F_X6_gatherNow st (-1)) - a
  · rw [if_pos h1, es]
  · rw [if_neg h1, xi_1]
    rw [xi_lt, es, xi_1] at h1
    omega
theorem q_al0 {a : Int32} (hv : VW st f) (h : BB (rP f (-1)) (rLo f 0) (rHi f 0) M L H) (hne : ∃ k : Nat, k < 15 ∧ rP f (-1) k = true) (ha : a.toInt = (cn (rP f (-1)) 15 : Int) - M) : (F_X6_allowing st a 0).1.toInt = L + 100000 := by
  have hb := bb_bd hv.2 h hne
  have hc := cn_le (P := rP f (-1)) 15
  have hM := bb_M (v_bd hv) h hne
  have e := BB_u (v_bd hv) (v_bb hv) h
  unfold F_X6_allowing
  rw [if_neg (show ¬ a < 0 by rw [xi_lt, xi_0]; omega), if_neg (show ¬ 15 ≤ a by rw [xi_le, show (15 : Int32).toInt = 15 by decide]; omega), if_neg (show ¬ (0 : Int32) < 0 by decide), if_pos (show (0 : Int32) ≤ 1 by decide), v_need hv h hne ha, if_neg (show ¬ F_X5_firstTimeOf (F_X6_gatherNow st (-1)) (F_X5_most (F_X6_gatherNow st (-1))) = 1000000 by rw [xi_eq, e.2.1, show (1000000 : Int32).toInt = 1000000 by decide]; omega), if_pos rfl]
  dsimp only
  rw [xi_add (by rw [e.2.1, e105]; omega), e.2.1, e105]
  omega
theorem q_al1 {a : Int32} (hv : VW st f) (h : BB (rP f (-1)) (rLo f 0) (rHi f 0) M L H) (hne : ∃ k : Nat, k < 15 ∧ rP f (-1) k = true) (ha : a.toInt = (cn (rP f (-1)) 15 : Int) - M) : (F_X6_allowing st a 1).1.toInt = H + 100000 := by
  have hb := bb_bd hv.2 h hne
  have hc := cn_le (P := rP f (-1)) 15
  have hM := bb_M (v_bd hv) h hne
  have e := BB_u (v_bd hv) (v_bb hv) h
  unfold F_X6_allowing
  rw [if_neg (show ¬ a < 0 by rw [xi_lt, xi_0]; omega), if_neg (show ¬ 15 ≤ a by rw [xi_le, show (15 : Int32).toInt = 15 by decide]; omega), if_neg (show ¬ (1 : Int32) < 0 by decide), if_pos (show (1 : Int32) ≤ 1 by decide), v_need hv h hne ha, if_neg (show ¬ F_X5_firstTimeOf (F_X6_gatherNow st (-1)) (F_X5_most (F_X6_gatherNow st (-1))) = 1000000 by rw [xi_eq, e.2.1, show (1000000 : Int32).toInt = 1000000 by decide]; omega), if_neg (show ¬ (1 : Int32) = 0 by decide)]
  dsimp only
  rw [xi_add (by rw [e.2.2, e105]; omega), e.2.2, e105]
  omega
theorem no_P {P : Nat → Bool} (he : cn P 15 = 0) {k : Nat} (hk : k < 15) : ¬ P k = true := fun hp => by
  have := cn_pos 15 hk hp
  omega
theorem q_ale (hv : VW st f) (he : cn (rP f (-1)) 15 = 0) : (F_X6_allowing st 3 0).1 = -6 := by
  unfold F_X6_allowing
  rw [if_neg (show ¬ (3 : Int32) < 0 by decide), if_neg (show ¬ (15 : Int32) ≤ 3 by decide), if_neg (show ¬ (0 : Int32) < 0 by decide), if_pos (show (0 : Int32) ≤ 1 by decide), if_pos (lg_none (v_ga hv) (fun j hj hw => no_P he hj hw.1))]
theorem q_ov {t : Int32} (hv : VW st f) (ht : -99999 ≤ t.toInt ∧ t.toInt ≤ 299999) : (F_X6_overlap st t).1 = nI (ov (rP f (-1)) (rLo f 0) (rHi f 0) t.toInt) := by
  unfold F_X6_overlap
  rw [if_neg (show ¬ t < -99999 by rw [xi_lt, show (-99999 : Int32).toInt = -99999 by decide]; omega), if_pos (show t ≤ 299999 by rw [xi_le, show (299999 : Int32).toInt = 299999 by decide]; omega)]
  exact g_many (v_ga hv)
theorem MH_le {f : Nat → Int32} (hR : RowOK f) {a : Int} (ha : MH f 0 a) : ∀ (h : Nat), h ≤ 255 → ∀ (s : xs_S) (t b : Int32), CR 1 s f → t.toInt = (f 2).toInt + 60 * (h : Int) → a ≤ (F_X5_most (F_X5_gather s t (-1))).toInt := by
  intro h
  induction h with
  | zero =>
    intro hh s t b hC ht
    have h1 := c_MH hC hR hh ht
    have h2 := Mo_u ha h1
    omega
  | succ h ih =>
    intro hh s t b hC ht
    have e60 : (60 : Int32).toInt = 60 := by decide
    have hn := hR.1.2.2.1
    have et : (t - 60).toInt = (f 2).toInt + 60 * (h : Int) := by rw [xi_sub (by rw [ht, e60]; omega), ht, e60]; omega
    have h1 := ih (by omega) s (t - 60) b hC et
    have h2 := MH_up hR (c_MH hC hR (by omega) et) (c_MH hC hR hh ht)
    omega
theorem hte_0 {f : Nat → Int32} {many : Int32} (hR : RowOK f) (ha : MH f 0 many.toInt) : ∀ (i : Nat) (s : xs_S), i ≤ 7 → CR 1 s f → (lp_X6_hoursTooEarly_6 many (i + 2) 0 (nI (2 ^ i)) s).1 = 0 := by
  intro i
  have hp2 : ∀ i, i < 8 → 1 ≤ 2 ^ i ∧ 2 ^ i ≤ 128 := by decide
  have key : ∀ (n p : Nat) (s : xs_S), 1 ≤ p → p ≤ 128 → CR 1 s f → lp_X6_hoursTooEarly_6 many (n + 1) 0 (nI p) s = lp_X6_hoursTooEarly_6 many n 0 (nI (p / 2)) (F_X5_gather s (F_X1_now s + (0 + nI p - 1) * 60) (-1)) := by
    intro n p s h1 h2 hC
    have e60 : (60 : Int32).toInt = 60 := by decide
    have hn := hR.1.2.2.1
    have e0 : (0 + nI p - 1).toInt = (p : Int) - 1 := by
      rw [xi_sub (by rw [xi_add (by rw [xi_0, nI_toInt (by omega)]; omega), xi_0, nI_toInt (by omega), xi_1]; omega), xi_add (by rw [xi_0, nI_toInt (by omega)]; omega), xi_0, nI_toInt (by omega), xi_1]
      omega
    have et : (F_X1_now s + (0 + nI p - 1) * 60).toInt = (f 2).toInt + 60 * ((p - 1 : Nat) : Int) := by
      unfold F_X1_now
      rw [hC.1.2.2.1, xi_add (by rw [xi_mul (by rw [e0, e60]; omega), e0, e60]; omega), xi_mul (by rw [e0, e60]; omega), e0, e60]
      omega
    have hle := MH_le hR ha (p - 1) (by omega) s _ 0 hC et
    rw [lp_X6_hoursTooEarly_6, if_neg (show ¬ nI p ≤ 0 by rw [xi_le, xi_0, nI_toInt (by omega)]; omega), if_pos (by rw [xi_le]; exact hle), nI_half p (by omega)]
  induction i with
  | zero =>
    intro s hi hC
    rw [show nI (2 ^ 0) = nI 1 from rfl, key 1 1 s (by decide) (by decide) hC, lp_X6_hoursTooEarly_6, if_pos (show nI (1 / 2) ≤ 0 by decide)]
  | succ i ih =>
    intro s hi hC
    have hb := hp2 (i + 1) (by omega)
    rw [key (i + 2) (2 ^ (i + 1)) s hb.1 hb.2 hC, show 2 ^ (i + 1) / 2 = 2 ^ i by rw [Nat.pow_succ]; omega]
    exact ih _ (by omega) (CR_c (fun k a b => ga_n (by omega)) hC)
theorem q_wid {m : Int32} (hv : VW st f) (h : BB (rP f (-1)) (rLo f 0) (rHi f 0) M L H) (hne : ∃ k : Nat, k < 15 ∧ rP f (-1) k = true) (hm : m.toInt = M) : (F_X6_widerIn st m).1 = 0 := by
  have hb := bb_bd hv.2 h hne
  have ha : MH f 0 m.toInt := by
    rw [hm]
    exact h.1
  have h0 := hte_0 hv.2 ha 7 st (Nat.le_refl _) hv.1
  rw [show nI (2 ^ 7) = (128 : Int32) by decide, show 7 + 2 = 9 from rfl] at h0
  have h0 : (F_X6_hoursTooEarly st m).1 = 0 := h0
  unfold F_X6_widerIn
  rw [if_neg (show ¬ m < 1 by rw [xi_lt, xi_1]; omega), if_pos (show m ≤ 15 by rw [xi_le, show (15 : Int32).toInt = 15 by decide]; omega), if_pos (show (F_X6_hoursTooEarly st m).1 ≤ 200 by rw [h0]; decide)]
  exact h0
end BV
