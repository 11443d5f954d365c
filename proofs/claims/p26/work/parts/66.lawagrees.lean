/-! the law's check of an agreeing -/
theorem mask0 {s : xs_S} {f : Nat → Int32} (hv : VW s f) : F_X6_count s 2 = 0 ↔ cn (rP f (-1)) 15 = 0 := by
  have eP : cn (bt (F_X6_count s 2)) 15 = cn (rP f (-1)) 15 := cn_ext 15 (fun j hj => by rw [v_mask hv, bt_mk (by omega) 15 (Nat.le_refl _), decide_eq_true hj, Bool.true_and])
  constructor
  · intro h
    rw [← eP, h]
    by_cases h0 : 1 ≤ cn (bt 0) 15
    · obtain ⟨k, hk, hb⟩ := cn_ex 15 h0
      rw [bt_0] at hb
      cases hb
    · omega
  · intro h
    rw [v_mask hv]
    refine i32_ext (fun j hj => ?_)
    rw [bt_0, bt_mk hj 15 (Nat.le_refl _)]
    by_cases hj5 : j < 15
    · rw [decide_eq_true hj5, Bool.true_and]
      cases hp : rP f (-1) j with
      | false => rfl
      | true => exact absurd hp (no_P h hj5)
    · rw [decide_eq_false hj5, Bool.false_and]
theorem JG_c {ho ju : Nat → Bool} {k : Nat} {s s' r r' : xs_S} (a1 : s' 1 = s 1) (a5 : s' 5 = s 5) (a6 : s' 6 = s 6) (b1 : r' 1 = r 1) (b5 : r' 5 = r 5) (b6 : r' 6 = r 6) (h : JG ho ju k s r) : JG ho ju k s' r' := by
  unfold JG at h ⊢
  rw [a1, a5, a6, b1, b5, b6]
  exact h
section AG
variable {st : xs_S} {f : Nat → Int32} {M L H : Int}
theorem a_agre (hv : VW st f) (he : cn (rP f (-1)) 15 = 0) : (F_X6_agree st).1 = -5 ∧ ∀ c : Nat, (c < 7 ∨ 71 < c) → (F_X6_agree st).2 c = st c := by
  have hD : VW (F_X2_draft st) f := VW_c (fun k hk => dr_o (Or.inl hk)) hv
  unfold F_X6_agree F_X6_findHour
  rw [if_neg (by rw [v_e1 hD he]; decide)]
  dsimp only
  exact ⟨kp_1, fun c hc => by rw [kp_o hc, gn_n (by omega), dr_o hc]⟩
theorem a_agr (hv : VW st f) (h : BB (rP f (-1)) (rLo f 0) (rHi f 0) M L H) (hne : ∃ k : Nat, k < 15 ∧ rP f (-1) k = true) : (F_X6_agree st).1.toInt = (L + H) / 2 + 100000 ∧ (∀ c : Nat, (c < 7 ∨ 71 < c) → c ≠ 1 → c ≠ 5 → c ≠ 6 → (F_X6_agree st).2 c = st c) ∧ (∀ i : Nat, i ≠ 5 ∧ i ≠ 6 ∧ i ≠ 7 → (F_X6_agree st).2 1 i = st 1 i) ∧ (F_X6_agree st).2 1 6 = st 1 6 + 1 ∧ ((F_X6_agree st).2 1 7).toInt = (L + H) / 2 ∧ JG (hb (rP f (-1)) (rLo f 0) (rHi f 0) ((L + H) / 2)) (rP f (-1)) 0 st (F_X6_agree st).2 := by
  have hbd := bb_bd hv.2 h hne
  have hD : VW (F_X2_draft st) f := VW_c (fun k hk => dr_o (Or.inl hk)) hv
  have hG : VW (F_X6_gatherNow (F_X2_draft st) (-1)) f := VW_c (fun k hk => gn_n (Or.inl hk)) hD
  have eh := v_hour hD h hne
  have eo : ∀ j : Nat, j < 15 → bt (F_X5_dialsAt (F_X6_gatherNow (F_X2_draft st) (-1)) (F_X5_hour (F_X6_gatherNow (F_X2_draft st) (-1)))) j = hb (rP f (-1)) (rLo f 0) (rHi f 0) ((L + H) / 2) j := by
    intro j hj
    rw [g_dials (v_ga hD), eh, bt_mk (by omega) 15 (Nat.le_refl _), decide_eq_true hj, Bool.true_and]
  have ex : ∀ j : Nat, j < 15 → bt (F_X1_dialsWithSpans (F_X6_gatherNow (F_X2_draft st) (-1))) j = rP f (-1) j := by
    intro j hj
    rw [← n_2, v_mask hG, bt_mk (by omega) 15 (Nat.le_refl _), decide_eq_true hj, Bool.true_and]
  have hj := jg_l (hr := F_X5_hour (F_X6_gatherNow (F_X2_draft st) (-1))) eo ex 16 0 (F_X6_gatherNow (F_X2_draft st) (-1)) (by omega) (by omega)
  rw [nI_0] at hj
  have hj : JG (hb (rP f (-1)) (rLo f 0) (rHi f 0) ((L + H) / 2)) (rP f (-1)) 0 (F_X6_gatherNow (F_X2_draft st) (-1)) (F_X1_judge (F_X6_gatherNow (F_X2_draft st) (-1)) (F_X5_hour (F_X6_gatherNow (F_X2_draft st) (-1))) (F_X5_dialsAt (F_X6_gatherNow (F_X2_draft st) (-1)) (F_X5_hour (F_X6_gatherNow (F_X2_draft st) (-1))))) ∧ F_X1_judge (F_X6_gatherNow (F_X2_draft st) (-1)) (F_X5_hour (F_X6_gatherNow (F_X2_draft st) (-1))) (F_X5_dialsAt (F_X6_gatherNow (F_X2_draft st) (-1)) (F_X5_hour (F_X6_gatherNow (F_X2_draft st) (-1)))) 1 6 = F_X6_gatherNow (F_X2_draft st) (-1) 1 6 + 1 ∧ F_X1_judge (F_X6_gatherNow (F_X2_draft st) (-1)) (F_X5_hour (F_X6_gatherNow (F_X2_draft st) (-1))) (F_X5_dialsAt (F_X6_gatherNow (F_X2_draft st) (-1)) (F_X5_hour (F_X6_gatherNow (F_X2_draft st) (-1)))) 1 7 = F_X5_hour (F_X6_gatherNow (F_X2_draft st) (-1)) := hj
  have gs : ∀ c : Nat, (c < 7 ∨ 71 < c) → F_X6_gatherNow (F_X2_draft st) (-1) c = st c := fun c hc => by rw [gn_n (by omega), dr_o hc]
  unfold F_X6_agree F_X6_findHour
  rw [if_pos (v_ne0 hD hne)]
  dsimp only
  refine ⟨?_, fun c hc h1 h5 h6 => ?_, fun i hi => ?_, ?_, ?_, ?_⟩
  · rw [kp_1, xi_add (by rw [eh, e105]; omega), eh, e105]
  · rw [kp_o hc, ju_n ⟨h1, h5, h6⟩, gs c hc]
  · rw [kp_o (Or.inl (by decide)), ju_1 hi, gs 1 (by decide)]
  · rw [kp_o (Or.inl (by decide)), hj.2.1, gs 1 (by decide)]
  · rw [kp_o (Or.inl (by decide)), hj.2.2, eh]
  · exact JG_c (gs 1 (by decide)).symm (gs 5 (by decide)).symm (gs 6 (by decide)).symm (kp_o (Or.inl (by decide))) (kp_o (Or.inl (by decide))) (kp_o (Or.inl (by decide))) hj.1
end AG
/-- what the law asks behind the agreeing -/
def tl66 (x2 x3 x4 x5 x6 : Int32) (st : xs_S) : Int32 × xs_S := (if x6 = 0 then (if (F_X6_agree st).1 = (-5) then (if (F_X6_count (F_X6_agree st).2 4) = x3 then (1, (F_X6_agree st).2) else (0, (F_X6_agree st).2)) else (0, (F_X6_agree st).2)) else (if (F_X6_agree st).1 = x4 then (if (F_X6_count (F_X6_agree st).2 4) = (x3 + 1) then (if (F_X6_count (F_X6_agree st).2 5) = x4 then lp_L_agrees_181 16 x2 x3 x4 x5 x6 (F_X6_agree st).1 0 (F_X6_agree st).2 else (0, (F_X6_agree st).2)) else (0, (F_X6_agree st).2)) else (0, (F_X6_agree st).2)))
theorem ag_c {f : Nat → Int32} {x3 x4 x5 x6 : Int32} : ∀ (n k : Nat) (s : xs_S), k + n = 16 → (k : Int) ≤ (f 3).toInt → VW s f → (∀ j : Nat, j < k → s 73 j = f (10 + 7 * j) ∧ s 74 j = f (11 + 7 * j) ∧ s 75 j = (if bt (s 1 5) j = true then 1 else 0)) → ∃ A : xs_S, lp_L_agrees_66 n (f 3) x3 x4 x5 x6 (nI k) s = tl66 (f 3) x3 x4 x5 x6 A ∧ (∀ c : Nat, c ≠ 73 → c ≠ 74 → c ≠ 75 → A c = s c) ∧ ∀ j : Nat, (j : Int) < (f 3).toInt → A 73 j = f (10 + 7 * j) ∧ A 74 j = f (11 + 7 * j) ∧ A 75 j = (if bt (s 1 5) j = true then 1 else 0) := by
  intro n
  induction n with
  | zero => intro k s h1 h2 hv; have := ro_D hv.2; omega
  | succ n ih =>
    intro k s h1 h2 hv hI
    have hD := ro_D hv.2
    rw [lp_L_agrees_66]
    by_cases hk : (k : Int) = (f 3).toInt
    · rw [if_pos (show f 3 ≤ nI k by rw [xi_le, nI_toInt (by omega)]; omega)]
      exact ⟨s, rfl, fun c _ _ _ => rfl, fun j hj => hI j (by omega)⟩
    · have hk15 : k < 15 := by omega
      have hdl : (k : Int) < (f 3).toInt := by omega
      rw [if_neg (show ¬ f 3 ≤ nI k by rw [xi_le, nI_toInt (by omega)]; omega), nI_1, nI_tn (by omega), o_4 hv hk15 hdl]
      have v1 : VW (xs_u s 73 k (f (10 + 7 * k))) f := VW_c (fun c hc => xs_rd_k (by omega)) hv
      rw [o_5 v1 hk15 hdl]
      have v2 : VW (xs_u (xs_u s 73 k (f (10 + 7 * k))) 74 k (f (11 + 7 * k))) f := VW_c (fun c hc => xs_rd_k (by omega)) v1
      have e6 := o_6 v2 hk15 hdl
      rw [xs_rd_k (show (1 : Nat) ≠ 74 by decide), xs_rd_k (show (1 : Nat) ≠ 73 by decide)] at e6
      rw [e6]
      have eo : ∀ c : Nat, c ≠ 73 → c ≠ 74 → c ≠ 75 → xs_u (xs_u (xs_u s 73 k (f (10 + 7 * k))) 74 k (f (11 + 7 * k))) 75 k (if bt (s 1 5) k = true then 1 else 0) c = s c := fun c a b d => by rw [xs_rd_k d, xs_rd_k b, xs_rd_k a]
      obtain ⟨A, a1, a2, a3⟩ := ih (k + 1) (xs_u (xs_u (xs_u s 73 k (f (10 + 7 * k))) 74 k (f (11 + 7 * k))) 75 k (if bt (s 1 5) k = true then 1 else 0)) (by omega) (by omega) (VW_c (fun c hc => eo c (by omega) (by omega) (by omega)) hv) (fun j hj => by
        rw [eo 1 (by decide) (by decide) (by decide)]
        by_cases hjk : j = k
        · subst hjk
          rw [xs_rd_s, xs_rd_k (show (73 : Nat) ≠ 75 by decide), xs_rd_k (show (73 : Nat) ≠ 74 by decide), xs_rd_s, xs_rd_k (show (74 : Nat) ≠ 75 by decide), xs_rd_s]
          exact ⟨rfl, rfl, rfl⟩
        · rw [xs_rd_i hjk, xs_rd_k (show (73 : Nat) ≠ 75 by decide), xs_rd_k (show (73 : Nat) ≠ 74 by decide), xs_rd_i hjk, xs_rd_k (show (74 : Nat) ≠ 75 by decide), xs_rd_i hjk, xs_rd_k (show (74 : Nat) ≠ 73 by decide), xs_rd_k (show (75 : Nat) ≠ 74 by decide), xs_rd_k (show (75 : Nat) ≠ 73 by decide)]
          exact hI j (by omega))
      refine ⟨A, a1, fun c h3 h4 h5 => by rw [a2 c h3 h4 h5, eo c h3 h4 h5], fun j hj => ?_⟩
      have := a3 j hj
      rw [eo 1 (by decide) (by decide) (by decide)] at this
      exact this
theorem ag_j {s U : xs_S} {f g : Nat → Int32} {ho : Nat → Bool} {x3 x4 x5 x6 x10 : Int32} (hv : VW s f) (hu : VW U g) (e3 : g 3 = f 3) (hho : ∀ j : Nat, j < 15 → ho j = true → rP f (-1) j = true) (b5 : ∀ j : Nat, j < 15 → bt x5 j = ho j) (b6 : ∀ j : Nat, j < 15 → bt x6 j = rP f (-1) j) (hJ : JG ho (rP f (-1)) 0 s U) (e11 : U 1 1 = s 1 1) (hA : ∀ j : Nat, (j : Int) < (f 3).toInt → U 73 j = f (10 + 7 * j) ∧ U 74 j = f (11 + 7 * j) ∧ U 75 j = (if bt (s 1 5) j = true then 1 else 0)) : ∀ n k : Nat, k + n = 16 → (k : Int) ≤ (f 3).toInt → lp_L_agrees_181 n (f 3) x3 x4 x5 x6 x10 (nI k) U = (1, U) := by
  intro n
  induction n with
  | zero => intro k h1 h2; have := ro_D hv.2; omega
  | succ n ih =>
    intro k h1 h2
    have hD := ro_D hv.2
    rw [lp_L_agrees_181]
    by_cases hk : (k : Int) = (f 3).toInt
    · rw [if_pos (show f 3 ≤ nI k by rw [xi_le, nI_toInt (by omega)]; omega)]
    · have hk15 : k < 15 := by omega
      have hdl : (k : Int) < (f 3).toInt := by omega
      have hdg : (k : Int) < (g 3).toInt := by rw [e3]; exact hdl
      obtain ⟨A3, A4, A5⟩ := hA k hdl
      have j5 := hJ.1 k hk15
      have j6 := hJ.2.1 k hk15
      have jb := hJ.2.2 k (by omega)
      have o4 : F_X6_of U (nI k) 4 = U 5 k := by rw [o_4 hu hk15 hdg, v_lies hu hk15]
      have o5 : F_X6_of U (nI k) 5 = U 6 k := by rw [o_5 hu hk15 hdg, v_row hu hk15]
      have o6 := o_6 hu hk15 hdg
      have s5 := v_lies hv hk15
      have s6 := v_row hv hk15
      have ih1 := ih (k + 1) (by omega) (by omega)
      rw [if_neg (show ¬ f 3 ≤ nI k by rw [xi_le, nI_toInt (by omega)]; omega), nI_1, nI_tn (by omega), bt_v (by omega), bt_v (by omega), b5 k hk15, b6 k hk15, A3, A4, A5, o4, o5, o6]
      cases hp : rP f (-1) k with
      | true =>
        have hst : bt (s 1 5) k = false := by
          have h := v_sp hv hk15
          rw [hp] at h
          cases hq : bt (s 1 5) k with
          | false => rfl
          | true => rw [hq, Bool.not_true, Bool.and_false] at h; cases h
        rw [hst, Bool.false_or] at jb
        cases hh : ho k with
        | true =>
          rw [hp, hh, if_neg (fun q => by have := q.2.1; cases this), s5] at j5
          rw [hp, hh, if_pos ⟨Nat.zero_le _, rfl⟩] at j6
          rw [hp, hh, decide_eq_false (fun q => by have := q.2.2.1; cases this)] at jb
          rw [if_pos rfl, if_pos rfl, if_neg (show ¬ (1 : Int32) = 0 by decide), hst, if_neg (show ¬ (false = true) by decide), if_neg (show ¬ (0 : Int32) = 1 by decide), jb, if_neg (show ¬ (false = true) by decide), if_pos (by rw [j5, Int32.add_zero]), if_pos j6, if_pos rfl]
          exact ih1
        | false =>
          rw [hp, hh, if_pos ⟨Nat.zero_le _, rfl, rfl⟩, s5] at j5
          rw [hp, hh, if_neg (fun q => by have := q.2; cases this), if_pos ⟨Nat.zero_le _, rfl⟩, s6] at j6
          rw [hp, hh, s6] at jb
          rw [if_pos rfl, if_pos rfl, if_neg (show ¬ (false = true) by decide), if_pos rfl, hst, if_neg (show ¬ (false = true) by decide), if_neg (show ¬ (0 : Int32) = 1 by decide), n_7, e11]
          by_cases hc : f (11 + 7 * k) + 1 < s 1 1
          · rw [decide_eq_false (fun q => by have h5 := q.2.2.2.2; rw [xi_le] at h5; rw [xi_lt] at hc; omega)] at jb
            rw [if_pos hc, if_pos j5, if_pos j6, jb, if_neg (show ¬ (false = true) by decide), if_pos rfl]
            exact ih1
          · rw [decide_eq_true ⟨Nat.zero_le _, hk15, rfl, rfl, by rw [xi_lt] at hc; rw [xi_le]; omega⟩] at jb
            rw [if_neg hc, if_pos j5, if_pos j6, jb, if_pos rfl, if_pos rfl]
            exact ih1
      | false =>
        have hh : ho k = false := by
          cases hq : ho k with
          | false => rfl
          | true => rw [hho k hk15 hq] at hp; cases hp
        rw [hp, hh, if_neg (fun q => by have := q.2.2; cases this), s5] at j5
        rw [hp, hh, if_neg (fun q => by have := q.2; cases this), if_neg (fun q => by have := q.2; cases this), s6] at j6
        rw [hp, hh, decide_eq_false (fun q => by have := q.2.2.2.1; cases this), Bool.or_false] at jb
        rw [jb]
        cases hst : bt (s 1 5) k with
        | true =>
          rw [if_neg (show ¬ (false = true) by decide), if_neg (show ¬ (0 : Int32) = 1 by decide), if_pos rfl, if_pos rfl, if_pos (by rw [j5, Int32.add_zero]), if_pos j6, if_pos rfl]
          exact ih1
        | false =>
          rw [if_neg (show ¬ (false = true) by decide), if_neg (show ¬ (0 : Int32) = 1 by decide), if_neg (show ¬ (0 : Int32) = 1 by decide), if_pos (by rw [j5, Int32.add_zero]), if_pos j6, if_pos rfl]
          exact ih1
theorem J_agr {n : Nat} {st U : xs_S} {ho ju : Nat → Bool} (hn : n ≤ 40) (hj : J n st) (hju : ∀ k : Nat, k < 15 → ju k = true → bt (st 1 4) k = true) (h1 : ∀ c : Nat, (c < 7 ∨ 71 < c) → c ≠ 1 → c ≠ 5 → c ≠ 6 → U c = st c) (h2 : ∀ i : Nat, i ≠ 5 ∧ i ≠ 6 ∧ i ≠ 7 → U 1 i = st 1 i) (h6 : U 1 6 = st 1 6 + 1) (hJ : JG ho ju 0 st U) : J (n + 1) U := by
  obtain ⟨⟨⟨c0, c1, c2, c3, c6⟩, hk, hb, hs⟩, hd⟩ := hj
  have e6 : (U 1 6).toInt = (st 1 6).toInt + 1 := by rw [h6]; exact xi_inc (by omega)
  have e0 := h2 0 (by decide)
  have e1 := h2 1 (by decide)
  have e2 := h2 2 (by decide)
  have e3 := h2 3 (by decide)
  have e4 := h2 4 (by decide)
  have u2 := h1 2 (by decide) (by decide) (by decide) (by decide)
  have u3 := h1 3 (by decide) (by decide) (by decide) (by decide)
  have u4 := h1 4 (by decide) (by decide) (by decide) (by decide)
  have u72 := h1 72 (by decide) (by decide) (by decide) (by decide)
  refine ⟨⟨⟨by rw [e0]; exact c0, by rw [e1]; exact c1, by rw [e2]; omega, by rw [e3]; exact c3, by rw [e6]; omega⟩, fun k hk15 => ?_, fun k hk32 hq => ?_, fun k hk32 hq => ?_⟩, ?_⟩
  · obtain ⟨a2, a3, a4, a6⟩ := hk k hk15
    rw [u2, u3, u4, e2]
    refine ⟨a2, a3, a4, ?_⟩
    have j5 := hJ.1 k hk15
    have j6 := hJ.2.1 k hk15
    have i5 : (st 5 k + 1).toInt = (st 5 k).toInt + 1 := xi_inc (by omega)
    have i6 : (st 6 k + 1).toInt = (st 6 k).toInt + 1 := xi_inc (by omega)
    cases hh : ho k with
    | true =>
      rw [hh, if_neg (fun q => by have := q.2.1; cases this)] at j5
      rw [hh, if_pos ⟨Nat.zero_le _, rfl⟩] at j6
      rw [j5, j6, xi_0]
      omega
    | false =>
      rw [hh] at j5
      rw [hh, if_neg (fun q => by have := q.2; cases this)] at j6
      cases hu : ju k with
      | true =>
        rw [hu, if_pos ⟨Nat.zero_le _, rfl, rfl⟩] at j5
        rw [hu, if_pos ⟨Nat.zero_le _, rfl⟩] at j6
        rw [j5, j6, i5, i6]
        omega
      | false =>
        rw [hu, if_neg (fun q => by have := q.2.2; cases this)] at j5
        rw [hu, if_neg (fun q => by have := q.2; cases this)] at j6
        rw [j5, j6]
        omega
  · rw [e4] at hq
    rw [e3]
    exact hb k hk32 hq
  · rw [e4]
    rw [hJ.2.2 k hk32, Bool.or_eq_true] at hq
    rcases hq with hq | hq
    · exact hs k hk32 hq
    · have hq := of_decide_eq_true hq
      exact hju k hq.2.1 hq.2.2.2.1
  · unfold DD
    rw [e3, e4, u2, u3, u4, u72]
    exact hd
/-- THE LAW'S agrees -/
theorem law_agrees {n : Nat} {st : xs_S} (hn : n ≤ 36) (hj : J n st) (hpos : 1 ≤ (st 1 3).toInt) : (F_L_agrees st).1 = 1 ∧ J (n + 1) (F_L_agrees st).2 ∧ 1 ≤ ((F_L_agrees st).2 1 3).toInt := by
  have hv := CI_VW (by omega) hj.1
  have hD := ro_D hv.2
  have r0 : FR st (F_X6_best st 3).2 := fun c hc => fr_best hc
  have v0 := r0.VW hv
  have zero : ∀ (S : xs_S), FR st S → ∀ (x3 x4 x5 x6 : Int32), ∃ A : xs_S, lp_L_agrees_66 16 (cf st 3) x3 x4 x5 x6 0 (xs_ur (xs_ur (xs_ur S 73 (fun _ => 0)) 74 (fun _ => 0)) 75 (fun _ => 0)) = tl66 (cf st 3) x3 x4 x5 x6 A ∧ (∀ c : Nat, (c < 7 ∨ 71 < c) → c ≠ 73 → c ≠ 74 → c ≠ 75 → A c = st c) ∧ ∀ j : Nat, (j : Int) < (cf st 3).toInt → A 73 j = cf st (10 + 7 * j) ∧ A 74 j = cf st (11 + 7 * j) ∧ A 75 j = (if bt (st 1 5) j = true then 1 else 0) := by
    intro S hS x3 x4 x5 x6
    have eS : ∀ c : Nat, c ≠ 73 → c ≠ 74 → c ≠ 75 → xs_ur (xs_ur (xs_ur S 73 (fun _ => 0)) 74 (fun _ => 0)) 75 (fun _ => 0) c = S c := fun c a b d => by rw [xs_ur_n d, xs_ur_n b, xs_ur_n a]
    obtain ⟨A, a1, a2, a3⟩ := ag_c (f := cf st) (x3 := x3) (x4 := x4) (x5 := x5) (x6 := x6) 16 0 (xs_ur (xs_ur (xs_ur S 73 (fun _ => 0)) 74 (fun _ => 0)) 75 (fun _ => 0)) (by omega) (by omega) (VW_c (fun c hc => eS c (by omega) (by omega) (by omega)) (hS.VW hv)) (fun j hj => by omega)
    rw [nI_0] at a1
    refine ⟨A, a1, fun c hc h3 h4 h5 => by rw [a2 c h3 h4 h5, eS c h3 h4 h5, hS c (by omega)], fun j hjj => ?_⟩
    have := a3 j hjj
    rw [eS 1 (by decide) (by decide) (by decide), hS 1 (by decide)] at this
    exact this
  unfold F_L_agrees
  rw [n_1, n_4]
  have ecf : st 1 3 = cf st 3 := rfl
  rw [ecf]
  by_cases h0 : cn (rP (cf st) (-1)) 15 = 0
  · have hm := (mask0 v0).mpr h0
    rw [if_pos hm]
    obtain ⟨A, a1, a2, a3⟩ := zero (F_X6_best st 3).2 r0 (st 1 6) (F_X6_best st 3).1 0 (F_X6_count (F_X6_best st 3).2 2)
    have vA : VW A (cf st) := VW_c (fun c hc => a2 c (by omega) (by omega) (by omega) (by omega)) hv
    obtain ⟨g1, g2⟩ := a_agre vA h0
    rw [a1]
    unfold tl66
    have c4 : F_X6_count (F_X6_agree A).2 4 = st 1 6 := by rw [n_4, g2 1 (by decide), a2 1 (by decide) (by decide) (by decide) (by decide)]
    rw [if_pos hm, if_pos g1, if_pos c4]
    refine ⟨rfl, ⟨CI_up ?_, ?_⟩, by rw [g2 1 (by decide), a2 1 (by decide) (by decide) (by decide) (by decide)]; exact hpos⟩
    · exact (J_c (fun c hc => by rw [g2 c (by omega), a2 c (by omega) (by omega) (by omega) (by omega)]) (by rw [g2 72 (by decide), a2 72 (by decide) (by decide) (by decide) (by decide)]) hj).1
    · exact (J_c (fun c hc => by rw [g2 c (by omega), a2 c (by omega) (by omega) (by omega) (by omega)]) (by rw [g2 72 (by decide), a2 72 (by decide) (by decide) (by decide) (by decide)]) hj).2
  · have hne : ∃ k : Nat, k < 15 ∧ rP (cf st) (-1) k = true := cn_ex 15 (by omega)
    have hB := v_bb hv
    have hbd := bb_bd hv.2 hB hne
    generalize (F_X5_most (F_X6_gatherNow st (-1))).toInt = M at hB hbd
    generalize (F_X5_firstTimeOf (F_X6_gatherNow st (-1)) (F_X5_most (F_X6_gatherNow st (-1)))).toInt = L at hB hbd
    generalize (F_X5_lastTimeOf (F_X6_gatherNow st (-1)) (F_X5_most (F_X6_gatherNow st (-1))) (F_X5_firstTimeOf (F_X6_gatherNow st (-1)) (F_X5_most (F_X6_gatherNow st (-1))))).toInt = H at hB hbd
    have hm : ¬ F_X6_count (F_X6_best st 3).2 2 = 0 := fun q => h0 ((mask0 v0).mp q)
    rw [if_neg hm]
    have q3 := q_b3 hv hB hne
    have q4 := q_b4 v0 hB hne
    have r1 := r0.tr (fun c hc => fr_best hc : FR (F_X6_best st 3).2 (F_X6_best (F_X6_best st 3).2 4).2)
    generalize (F_X6_best st 3).1 = x4 at q3 ⊢
    generalize (F_X6_best st 3).2 = S0 at r0 v0 hm q4 r1 ⊢
    generalize (F_X6_best S0 4).1 = x5 at q4 ⊢
    generalize (F_X6_best S0 4).2 = S1 at r1 ⊢
    have v1 := r1.VW hv
    have hm1 : ¬ F_X6_count S1 2 = 0 := fun q => h0 ((mask0 v1).mp q)
    have em := v_mask v1
    generalize F_X6_count S1 2 = x6 at hm1 em ⊢
    obtain ⟨A, a1, a2, a3⟩ := zero S1 r1 (st 1 6) x4 x5 x6
    have vA : VW A (cf st) := VW_c (fun c hc => a2 c (by omega) (by omega) (by omega) (by omega)) hv
    obtain ⟨g1, g2, g3, g4, g5, g6⟩ := a_agr vA hB hne
    rw [a1]
    unfold tl66
    have hA1 := a2 1 (by decide) (by decide) (by decide) (by decide)
    have d1 : (F_X6_agree A).1 = x4 := xi_eq.mpr (by rw [g1, q3])
    have d2 : F_X6_count (F_X6_agree A).2 4 = st 1 6 + 1 := by rw [n_4, g4, hA1]
    have hjA : J n A := J_c (fun c hc => a2 c (by omega) (by omega) (by omega) (by omega)) (a2 72 (by decide) (by decide) (by decide) (by decide)) hj
    have d3 : F_X6_count (F_X6_agree A).2 5 = x4 := by
      have c6 := hjA.1.1.2.2.2.2
      have e6 : ((F_X6_agree A).2 1 6).toInt = (A 1 6).toInt + 1 := by rw [g4]; exact xi_inc (by omega)
      rw [n_5, if_neg (fun q => by rw [q, xi_0] at e6; omega)]
      exact xi_eq.mpr (by rw [xi_add (by rw [g5, e105]; omega), g5, e105, q3])
    have hjU : J (n + 1) (F_X6_agree A).2 := J_agr (by omega) hjA (fun k hk hp => by
      have h := v_sp vA hk
      rw [hp] at h
      cases hq : bt (A 1 4) k with
      | true => rfl
      | false => rw [hq, Bool.false_and] at h; cases h) g2 g3 g4 g6
    have vU := CI_VW (by omega) hjU.1
    have ag := ag_j (s := A) (U := (F_X6_agree A).2) (f := cf st) (g := cf (F_X6_agree A).2) (x3 := st 1 6) (x4 := x4) (x5 := x5) (x6 := x6) (x10 := (F_X6_agree A).1) vA vU (by show (F_X6_agree A).2 1 3 = st 1 3; rw [g3 3 (by decide), hA1]) (fun j hj hq => (hb_iff.mp hq).1) (fun j hj => by rw [q4, bt_mk (by omega) 15 (Nat.le_refl _), decide_eq_true hj, Bool.true_and]) (fun j hj => by rw [em, bt_mk (by omega) 15 (Nat.le_refl _), decide_eq_true hj, Bool.true_and]) g6 (g3 1 (by decide)) (fun j hj => by
      have := a3 j hj
      rw [g2 73 (by decide) (by decide) (by decide) (by decide), g2 74 (by decide) (by decide) (by decide) (by decide), g2 75 (by decide) (by decide) (by decide) (by decide), hA1]
      exact this) 16 0 (by omega) (by omega)
    rw [nI_0] at ag
    rw [if_neg hm1, if_pos d1, if_pos d2, if_pos d3, ag]
    have e3 : 1 ≤ ((F_X6_agree A).2 1 3).toInt := by
      rw [g3 3 (by decide), hA1]
      exact hpos
    clear ag d1 d2 d3 g1 g2 g3 g4 g5 g6 vU a1
    dsimp only
    exact ⟨rfl, hjU, e3⟩
