/-! the law's check of the best overlap -/
theorem e_2 : ∀ e, e < 30 → nI e / 2 = nI (e / 2) ∧ nI e - nI e / 2 * 2 = nI (e % 2) := by decide +kernel
/-- what stands at a place of the row of ends -/
def ER (f : Nat → Int32) (j : Nat) (e : Int32) : Prop := (rP f (-1) (j / 2) = true → e.toInt = (if j % 2 = 0 then rLo f 0 (j / 2) else rHi f 0 (j / 2)) + 100000) ∧ (rP f (-1) (j / 2) = false → e = -6)
def EN (s : xs_S) (f : Nat → Int32) : Prop := ∀ j : Nat, j < 30 → ER f j (s 73 j)
def FR (s u : xs_S) : Prop := ∀ c : Nat, (c < 7 ∨ 10 < c) → u c = s c
theorem FR.rf {s : xs_S} : FR s s := fun _ _ => rfl
theorem FR.tr {s t u : xs_S} (h : FR s t) (k : FR t u) : FR s u := fun c hc => (k c hc).trans (h c hc)
theorem FR.VW {s u : xs_S} {f : Nat → Int32} (h : FR s u) (hv : VW s f) : VW u f := VW_c (fun k hk => h k (Or.inl hk)) hv
theorem FR.EN {s u : xs_S} {f : Nat → Int32} (h : FR s u) (he : EN s f) : EN u f := fun j hj => by rw [h 73 (by decide)]; exact he j hj
theorem er_of {s : xs_S} {f : Nat → Int32} {k : Nat} (hv : VW s f) (hk : k < 30) (hd : ((k / 2 : Nat) : Int) < (f 3).toInt) : ER f k (F_X6_of s (nI (k / 2)) (nI (k % 2))) := by
  have h15 : k / 2 < 15 := by omega
  by_cases hm : k % 2 = 0
  · rw [hm, nI_0]
    refine ⟨fun hp => ?_, fun hp => o_no0 hv h15 hd hp⟩
    rw [if_pos hm]
    exact o_lo hv h15 hd hp
  · rw [show k % 2 = 1 by omega, show nI 1 = 1 by decide]
    refine ⟨fun hp => ?_, fun hp => o_no1 hv h15 hd hp⟩
    rw [if_neg hm]
    exact o_hi hv h15 hd hp
theorem en_l {f : Nat → Int32} : ∀ (n k : Nat) (s : xs_S), k + n = 31 → k ≤ 30 → VW s f → (∀ j : Nat, j < k → ER f j (s 73 j)) → EN (lp_L_ends_7 (f 3) n (nI k) s) f := by
  intro n
  induction n with
  | zero => intro k s h1 h2; omega
  | succ n ih =>
    intro k s h1 h2 hv hI
    have e2 : (2 : Int32).toInt = 2 := by decide
    have hD := ro_D hv.2
    have ed : (2 * f 3).toInt = 2 * (f 3).toInt := by rw [xi_mul (by rw [e2]; omega), e2]
    rw [lp_L_ends_7]
    by_cases hk : k = 30
    · subst hk
      rw [if_pos (by rw [i30]; exact nI_le (Nat.le_refl _) (by decide))]
      exact hI
    · have hk30 : k < 30 := by omega
      rw [if_neg (by rw [i30, nI_leI (by decide) (by omega)]; omega), nI_1, nI_tn (by omega)]
      have go : ∀ v : Int32, ER f k v → EN (lp_L_ends_7 (f 3) n (nI (k + 1)) (xs_u s 73 k v)) f := by
        intro v hv2
        refine ih (k + 1) _ (by omega) (by omega) (VW_c (fun c hc => xs_rd_k (by omega)) hv) (fun j hj => ?_)
        by_cases hjk : j = k
        · subst hjk
          rw [xs_rd_s]
          exact hv2
        · rw [xs_rd_i hjk]
          exact hI j (by omega)
      by_cases hd : 2 * f 3 ≤ nI k
      · rw [if_pos hd]
        rw [xi_le, ed, nI_toInt (by omega)] at hd
        refine go _ ⟨fun hp => ?_, fun _ => rfl⟩
        have := v_Plt hv (by omega) hp
        omega
      · rw [if_neg hd]
        rw [xi_le, ed, nI_toInt (by omega)] at hd
        rw [(e_2 k hk30).2, (e_2 k hk30).1]
        exact go _ (er_of hv hk30 (by omega))
theorem en_v {s : xs_S} {f : Nat → Int32} (hv : VW s f) : EN (F_L_ends s (f 3)) f := by
  unfold F_L_ends
  have h := en_l (f := f) 31 0 (xs_ur s 73 (fun _ => 0)) (by omega) (by omega) (VW_c (fun c hc => xs_ur_n (by omega)) hv) (fun j hj => by omega)
  rw [nI_0] at h
  exact h
section LB
variable {s : xs_S} {f : Nat → Int32}
theorem i2k {k : Nat} (hk : k < 15) : (2 * nI k).toInt.toNat = 2 * k ∧ (2 * nI k + 1).toInt.toNat = 2 * k + 1 := by
  have e2 : (2 : Int32).toInt = 2 := by decide
  have h : (2 * nI k).toInt = 2 * (k : Int) := by rw [xi_mul (by rw [e2, nI_toInt (by omega)]; omega), e2, nI_toInt (by omega)]
  rw [xi_inc (by omega), h]
  omega
theorem en_no (he : EN s f) {k : Nat} (hk : k < 15) (hp : rP f (-1) k = false) : s 73 (2 * k) = -6 := by
  have h := (he (2 * k) (by omega)).2
  rw [show 2 * k / 2 = k by omega] at h
  exact h hp
theorem en_lo (hv : VW s f) (he : EN s f) {k : Nat} (hk : k < 15) (hp : rP f (-1) k = true) : ¬ s 73 (2 * k) = -6 ∧ (s 73 (2 * k) - 100000).toInt = rLo f 0 k ∧ (s 73 (2 * k + 1) - 100000).toInt = rHi f 0 k := by
  have h := (he (2 * k) (by omega)).1
  have h' := (he (2 * k + 1) (by omega)).1
  have hb := lo_b hv.2 hk
  rw [show 2 * k / 2 = k by omega, if_pos (by omega)] at h
  rw [show (2 * k + 1) / 2 = k by omega, if_neg (by omega)] at h'
  have h1 := h hp
  have h2 := h' hp
  refine ⟨fun e => ?_, ?_, ?_⟩
  · rw [e, show (-6 : Int32).toInt = -6 by decide] at h1
    omega
  · rw [xi_sub (by rw [h1, e105]; omega), h1, e105]
    omega
  · rw [xi_sub (by rw [h2, e105]; omega), h2, e105]
    omega
theorem lh_v (hv : VW s f) (he : EN s f) {k : Nat} (hk : k < 15) {t : Int32} : F_L_has s (nI k) t = if hb (rP f (-1)) (rLo f 0) (rHi f 0) t.toInt k = true then 1 else 0 := by
  unfold F_L_has
  rw [(i2k hk).1, (i2k hk).2]
  cases hp : rP f (-1) k with
  | false =>
    rw [if_pos (en_no he hk hp), if_neg (fun h => by rw [hb_no hp] at h; cases h)]
  | true =>
    obtain ⟨h1, h2, h3⟩ := en_lo hv he hk hp
    rw [if_neg h1]
    by_cases c1 : t < s 73 (2 * k) - 100000
    · rw [if_pos c1]
      rw [xi_lt, h2] at c1
      rw [if_neg (fun h => by have := hb_iff.mp h; omega)]
    · rw [if_neg c1]
      rw [xi_lt, h2] at c1
      by_cases c2 : s 73 (2 * k + 1) - 100000 < t
      · rw [if_pos c2]
        rw [xi_lt, h3] at c2
        rw [if_neg (fun h => by have := hb_iff.mp h; omega)]
      · rw [if_neg c2]
        rw [xi_lt, h3] at c2
        rw [if_pos (hb_iff.mpr ⟨hp, by omega, by omega⟩)]
theorem lo_l (hv : VW s f) (he : EN s f) {t : Int32} : ∀ n k : Nat, k + n = 16 → k ≤ 15 → lp_L_overlap_4 s t n (nI (cn (hb (rP f (-1)) (rLo f 0) (rHi f 0) t.toInt) k)) (nI k) = nI (ov (rP f (-1)) (rLo f 0) (rHi f 0) t.toInt) := by
  intro n
  induction n with
  | zero => intro k h1 h2; omega
  | succ n ih =>
    intro k h1 h2
    rw [lp_L_overlap_4]
    by_cases hk : k = 15
    · subst hk
      rw [if_pos (by rw [i15]; exact nI_le (Nat.le_refl _) (by decide))]
      rfl
    · rw [if_neg (by rw [i15, nI_leI (by decide) (by omega)]; omega), nI_1, lh_v hv he (by omega)]
      by_cases hh : hb (rP f (-1)) (rLo f 0) (rHi f 0) t.toInt k = true
      · rw [if_pos hh, if_neg (by decide), nI_1, ← cn_up hh]
        exact ih (k + 1) (by omega) (by omega)
      · have hh' : hb (rP f (-1)) (rLo f 0) (rHi f 0) t.toInt k = false := by simpa using hh
        rw [if_neg hh, if_pos rfl, nI_z, ← cn_no hh']
        exact ih (k + 1) (by omega) (by omega)
theorem lo_v (hv : VW s f) (he : EN s f) {t : Int32} : F_L_overlap s t = nI (ov (rP f (-1)) (rLo f 0) (rHi f 0) t.toInt) := by
  unfold F_L_overlap
  have h := lo_l hv he (t := t) 16 0 (by omega) (by omega)
  rw [cn_z, nI_0] at h
  exact h
theorem lo_i (hv : VW s f) (he : EN s f) {t : Int32} : (F_L_overlap s t).toInt = (ov (rP f (-1)) (rLo f 0) (rHi f 0) t.toInt : Int) := by
  rw [lo_v hv he, ov_i]
end LB
theorem bk_l {f : Nat → Int32} {M L H : Int} (hB : BB (rP f (-1)) (rLo f 0) (rHi f 0) M L H) (hne : ∃ k : Nat, k < 15 ∧ rP f (-1) k = true) {x1 x2 x3 x4 x5 : Int32} (g1 : x1.toInt = M) (g2 : x2.toInt = L) (g3 : x3.toInt = H) (g4 : x4.toInt = (L + H) / 2) (g5 : x5.toInt = L + H) : ∀ (n k : Nat) (s : xs_S), k + n = 16 → (k : Int) ≤ (f 3).toInt → VW s f → EN s f → (lp_L_best_130 n x1 x2 x3 x4 x5 (mk (hb (rP f (-1)) (rLo f 0) (rHi f 0) ((L + H) / 2)) k) (f 3) (nI k) s).1 = 1 ∧ FR s (lp_L_best_130 n x1 x2 x3 x4 x5 (mk (hb (rP f (-1)) (rLo f 0) (rHi f 0) ((L + H) / 2)) k) (f 3) (nI k) s).2 := by
  intro n
  induction n with
  | zero => intro k s h1 h2 hv; have := ro_D hv.2; omega
  | succ n ih =>
    intro k s h1 h2 hv he
    have hD := ro_D hv.2
    have hBD := v_bd hv
    have hbd := bb_bd hv.2 hB hne
    have e2 : (2 : Int32).toInt = 2 := by decide
    have e6 : (-6 : Int32).toInt = -6 := by decide
    rw [lp_L_best_130]
    by_cases hk : (k : Int) = (f 3).toInt
    · rw [if_pos (show f 3 ≤ nI k by rw [xi_le, nI_toInt (by omega)]; omega)]
      have ex3 : (x3 + 1).toInt = H + 1 := by rw [xi_inc (by omega), g3]
      have ex2 : (x2 - 1).toInt = L - 1 := by rw [xi_sub (by rw [g2, xi_1]; omega), g2, xi_1]
      have c1 : F_L_overlap s x2 = x1 := xi_eq.mpr (by rw [lo_i hv he, g2, (bb_L hBD hB hne).2, g1])
      have c2 : F_L_overlap s x3 = x1 := xi_eq.mpr (by rw [lo_i hv he, g3, bb_mid hBD hB hne (by omega) (Int.le_refl _), g1])
      have c3 : ¬ x1 ≤ F_L_overlap s (x3 + 1) := by
        rw [xi_le, lo_i hv he, ex3, g1]
        have := (bb_H hBD hB hne).2.2
        omega
      have c4 : ¬ x1 ≤ F_L_overlap s (x2 - 1) := by
        rw [xi_le, lo_i hv he, ex2, g1]
        have := bb_pre hBD hB hne (t := L - 1) (by omega)
        omega
      have c5 : (F_X6_overlap s x2).1 = x1 := by rw [q_ov hv (by omega), ← lo_v hv he, c1]
      rw [if_pos c1, if_pos c2, if_neg c3, if_neg c4, if_pos c5]
      have r1 : FR s (F_X6_overlap s x2).2 := fun c hc => fr_overlap hc
      generalize (F_X6_overlap s x2).2 = T1 at r1 ⊢
      have r2 : FR T1 (F_X6_overlap T1 (x3 + 1)).2 := fun c hc => fr_overlap hc
      have c6 : (F_X6_overlap T1 (x3 + 1)).1 = F_L_overlap (F_X6_overlap T1 (x3 + 1)).2 (x3 + 1) := by
        rw [q_ov (r1.VW hv) (by omega), lo_v ((r1.tr r2).VW hv) ((r1.tr r2).EN he)]
      rw [if_pos c6]
      generalize (F_X6_overlap T1 (x3 + 1)).2 = T2 at r2 ⊢
      have R2 := r1.tr r2
      have v2 := R2.VW hv
      have ek : mk (hb (rP f (-1)) (rLo f 0) (rHi f 0) ((L + H) / 2)) k = mk (hb (rP f (-1)) (rLo f 0) (rHi f 0) ((L + H) / 2)) 15 := by
        have hs := mk_stop (Q := hb (rP f (-1)) (rLo f 0) (rHi f 0) ((L + H) / 2)) (d := k) (15 - k) (fun j a b => by
          cases hq : hb (rP f (-1)) (rLo f 0) (rHi f 0) ((L + H) / 2) j with
          | false => rfl
          | true => have := v_Plt hv (by omega) (hb_iff.mp hq).1; omega)
        rw [show k + (15 - k) = 15 by omega] at hs
        exact hs.symm
      have c7 : (F_X6_best T2 4).1 = mk (hb (rP f (-1)) (rLo f 0) (rHi f 0) ((L + H) / 2)) k := by rw [ek]; exact q_b4 v2 hB hne
      have r3 : FR T2 (F_X6_best T2 4).2 := fun c hc => fr_best hc
      have A : ∀ T3 : xs_S, FR T2 T3 → (if (F_X6_fewest T3).1 = F_L_size (F_X6_fewest T3).2 (F_X6_count (F_X6_fewest T3).2 2) - x1 then (if (F_X6_widerIn (F_X6_fewest T3).2 x1).1 = 0 then (if (F_X6_allowing (F_X6_fewest (F_X6_widerIn (F_X6_fewest T3).2 x1).2).2 (F_X6_fewest (F_X6_widerIn (F_X6_fewest T3).2 x1).2).1 0).1 = x2 + 100000 then (if (F_X6_allowing (F_X6_fewest (F_X6_allowing (F_X6_fewest (F_X6_widerIn (F_X6_fewest T3).2 x1).2).2 (F_X6_fewest (F_X6_widerIn (F_X6_fewest T3).2 x1).2).1 0).2).2 (F_X6_fewest (F_X6_allowing (F_X6_fewest (F_X6_widerIn (F_X6_fewest T3).2 x1).2).2 (F_X6_fewest (F_X6_widerIn (F_X6_fewest T3).2 x1).2).1 0).2).1 1).1 = x3 + 100000 then ((1 : Int32), (F_X6_allowing (F_X6_fewest (F_X6_allowing (F_X6_fewest (F_X6_widerIn (F_X6_fewest T3).2 x1).2).2 (F_X6_fewest (F_X6_widerIn (F_X6_fewest T3).2 x1).2).1 0).2).2 (F_X6_fewest (F_X6_allowing (F_X6_fewest (F_X6_widerIn (F_X6_fewest T3).2 x1).2).2 (F_X6_fewest (F_X6_widerIn (F_X6_fewest T3).2 x1).2).1 0).2).1 1).2) else (0, (F_X6_allowing (F_X6_fewest (F_X6_allowing (F_X6_fewest (F_X6_widerIn (F_X6_fewest T3).2 x1).2).2 (F_X6_fewest (F_X6_widerIn (F_X6_fewest T3).2 x1).2).1 0).2).2 (F_X6_fewest (F_X6_allowing (F_X6_fewest (F_X6_widerIn (F_X6_fewest T3).2 x1).2).2 (F_X6_fewest (F_X6_widerIn (F_X6_fewest T3).2 x1).2).1 0).2).1 1).2)) else (0, (F_X6_allowing (F_X6_fewest (F_X6_widerIn (F_X6_fewest T3).2 x1).2).2 (F_X6_fewest (F_X6_widerIn (F_X6_fewest T3).2 x1).2).1 0).2)) else (0, (F_X6_widerIn (F_X6_fewest T3).2 x1).2)) else (0, (F_X6_fewest T3).2)).1 = 1 ∧ FR s (if (F_X6_fewest T3).1 = F_L_size (F_X6_fewest T3).2 (F_X6_count (F_X6_fewest T3).2 2) - x1 then (if (F_X6_widerIn (F_X6_fewest T3).2 x1).1 = 0 then (if (F_X6_allowing (F_X6_fewest (F_X6_widerIn (F_X6_fewest T3).2 x1).2).2 (F_X6_fewest (F_X6_widerIn (F_X6_fewest T3).2 x1).2).1 0).1 = x2 + 100000 then (if (F_X6_allowing (F_X6_fewest (F_X6_allowing (F_X6_fewest (F_X6_widerIn (F_X6_fewest T3).2 x1).2).2 (F_X6_fewest (F_X6_widerIn (F_X6_fewest T3).2 x1).2).1 0).2).2 (F_X6_fewest (F_X6_allowing (F_X6_fewest (F_X6_widerIn (F_X6_fewest T3).2 x1).2).2 (F_X6_fewest (F_X6_widerIn (F_X6_fewest T3).2 x1).2).1 0).2).1 1).1 = x3 + 100000 then ((1 : Int32), (F_X6_allowing (F_X6_fewest (F_X6_allowing (F_X6_fewest (F_X6_widerIn (F_X6_fewest T3).2 x1).2).2 (F_X6_fewest (F_X6_widerIn (F_X6_fewest T3).2 x1).2).1 0).2).2 (F_X6_fewest (F_X6_allowing (F_X6_fewest (F_X6_widerIn (F_X6_fewest T3).2 x1).2).2 (F_X6_fewest (F_X6_widerIn (F_X6_fewest T3).2 x1).2).1 0).2).1 1).2) else (0, (F_X6_allowing (F_X6_fewest (F_X6_allowing (F_X6_fewest (F_X6_widerIn (F_X6_fewest T3).2 x1).2).2 (F_X6_fewest (F_X6_widerIn (F_X6_fewest T3).2 x1).2).1 0).2).2 (F_X6_fewest (F_X6_allowing (F_X6_fewest (F_X6_widerIn (F_X6_fewest T3).2 x1).2).2 (F_X6_fewest (F_X6_widerIn (F_X6_fewest T3).2 x1).2).1 0).2).1 1).2)) else (0, (F_X6_allowing (F_X6_fewest (F_X6_widerIn (F_X6_fewest T3).2 x1).2).2 (F_X6_fewest (F_X6_widerIn (F_X6_fewest T3).2 x1).2).1 0).2)) else (0, (F_X6_widerIn (F_X6_fewest T3).2 x1).2)) else (0, (F_X6_fewest T3).2)).2 := by
        intro T3 r3
        have R3 := R2.tr r3
        have v3 := R3.VW hv
        have r4 : FR T3 (F_X6_fewest T3).2 := fun c hc => fr_fewest hc
        have R4 := R3.tr r4
        have hc15 := cn_le (P := rP f (-1)) 15
        have eP : cn (bt (F_X6_count (F_X6_fewest T3).2 2)) 15 = cn (rP f (-1)) 15 := cn_ext 15 (fun j hj => by rw [v_mask (R4.VW hv), bt_mk (by omega) 15 (Nat.le_refl _), decide_eq_true hj, Bool.true_and])
        have d1 : (F_X6_fewest T3).1 = F_L_size (F_X6_fewest T3).2 (F_X6_count (F_X6_fewest T3).2 2) - x1 := by
          apply xi_eq.mpr
          rw [q_few v3 hB hne, sz_v, eP, xi_sub (by rw [nI_toInt (by omega), g1]; omega), nI_toInt (by omega), g1]
        rw [if_pos d1]
        generalize (F_X6_fewest T3).2 = T4 at r4 R4 ⊢
        have d2 : (F_X6_widerIn T4 x1).1 = 0 := q_wid (R4.VW hv) hB hne g1
        have r5 : FR T4 (F_X6_widerIn T4 x1).2 := fun c hc => fr_widerIn hc
        rw [if_pos d2]
        generalize (F_X6_widerIn T4 x1).2 = T5 at r5 ⊢
        have R5 := R4.tr r5
        have f5 := q_few (R5.VW hv) hB hne
        have r6 : FR T5 (F_X6_fewest T5).2 := fun c hc => fr_fewest hc
        generalize (F_X6_fewest T5).1 = a5 at f5 ⊢
        generalize (F_X6_fewest T5).2 = T6 at r6 ⊢
        have R6 := R5.tr r6
        have d3 : (F_X6_allowing T6 a5 0).1 = x2 + 100000 := by
          apply xi_eq.mpr
          rw [q_al0 (R6.VW hv) hB hne f5, xi_add (by rw [g2, e105]; omega), g2, e105]
        have r7 : FR T6 (F_X6_allowing T6 a5 0).2 := fun c hc => fr_allowing hc
        rw [if_pos d3]
        generalize (F_X6_allowing T6 a5 0).2 = T7 at r7 ⊢
        have R7 := R6.tr r7
        have f7 := q_few (R7.VW hv) hB hne
        have r8 : FR T7 (F_X6_fewest T7).2 := fun c hc => fr_fewest hc
        generalize (F_X6_fewest T7).1 = a7 at f7 ⊢
        generalize (F_X6_fewest T7).2 = T8 at r8 ⊢
        have R8 := R7.tr r8
        have d4 : (F_X6_allowing T8 a7 1).1 = x3 + 100000 := by
          apply xi_eq.mpr
          rw [q_al1 (R8.VW hv) hB hne f7, xi_add (by rw [g3, e105]; omega), g3, e105]
        have r9 : FR T8 (F_X6_allowing T8 a7 1).2 := fun c hc => fr_allowing hc
        rw [if_pos d4]
        exact ⟨rfl, R8.tr r9⟩
      have e24 : (2 * x4).toInt = 2 * ((L + H) / 2) := by rw [xi_mul (by rw [e2, g4]; omega), e2, g4]
      by_cases c8 : 2 * x4 = x5
      · rw [if_pos c8, if_pos c7]
        exact A _ r3
      · rw [if_neg c8]
        have c9 : 2 * x4 + 1 = x5 := by
          apply xi_eq.mpr
          have c8' : ¬ (2 * x4).toInt = x5.toInt := fun e => c8 (xi_eq.mpr e)
          rw [xi_inc (by omega), e24, g5]
          rw [e24, g5] at c8'
          omega
        rw [if_pos c9, if_pos c7]
        exact A _ r3
    · have hk15 : k < 15 := by omega
      rw [if_neg (show ¬ f 3 ≤ nI k by rw [xi_le, nI_toInt (by omega)]; omega), lh_v hv he hk15, (i2k hk15).1, (i2k hk15).2, nI_1, g4]
      have ih1 := ih (k + 1) s (by omega) (by omega) hv he
      cases hp : rP f (-1) k with
      | false =>
        have hq := hb_no (lo := rLo f 0) (hi := rHi f 0) (t := (L + H) / 2) hp
        rw [mk_no hq] at ih1
        rw [hq, if_neg (show ¬ (false = true) by decide), if_pos rfl, if_pos (en_no he hk15 hp), show mk (hb (rP f (-1)) (rLo f 0) (rHi f 0) ((L + H) / 2)) k ||| 0 = mk (hb (rP f (-1)) (rLo f 0) (rHi f 0) ((L + H) / 2)) k from Int32.or_zero]
        exact ih1
      | true =>
        obtain ⟨h6, hlo, hhi⟩ := en_lo hv he hk15 hp
        have hrow := lo_b hv.2 hk15
        have d1 : ¬ x1 < F_L_overlap s (s 73 (2 * k) - 100000) := by
          rw [xi_lt, lo_i hv he, hlo, g1]
          have := Mo_t hB.1 (rLo f 0 k)
          omega
        have d2 : F_L_overlap s (s 73 (2 * k) - 100000) = x1 → x2 ≤ s 73 (2 * k) - 100000 := by
          intro e
          have e' := congrArg Int32.toInt e
          rw [lo_i hv he, hlo, g1] at e'
          rw [xi_le, hlo, g2]
          exact hB.2.1.2 k hk15 ⟨hp, by omega⟩
        have exh : (s 73 (2 * k + 1) - 100000 + 1).toInt = rHi f 0 k + 1 := by rw [xi_inc (by rw [hhi]; omega), hhi]
        have d3 : ¬ s 73 (2 * k + 1) - 100000 < x2 → ¬ x3 ≤ s 73 (2 * k + 1) - 100000 → F_L_overlap s (s 73 (2 * k + 1) - 100000 + 1) = x1 := by
          intro a b
          rw [xi_lt, hhi, g2] at a
          rw [xi_le, hhi, g3] at b
          exact xi_eq.mpr (by rw [lo_i hv he, exh, bb_mid hBD hB hne (by omega) (by omega), g1])
        have fin : ∀ X : Int32 × xs_S, X.1 = 1 ∧ FR s X.2 → ∀ Y W : Int32 × xs_S, (if x1 < F_L_overlap s (s 73 (2 * k) - 100000) then Y else (if F_L_overlap s (s 73 (2 * k) - 100000) = x1 then (if x2 ≤ s 73 (2 * k) - 100000 then (if s 73 (2 * k + 1) - 100000 < x2 then X else (if x3 ≤ s 73 (2 * k + 1) - 100000 then X else (if F_L_overlap s (s 73 (2 * k + 1) - 100000 + 1) = x1 then X else W))) else Y) else (if s 73 (2 * k + 1) - 100000 < x2 then X else (if x3 ≤ s 73 (2 * k + 1) - 100000 then X else (if F_L_overlap s (s 73 (2 * k + 1) - 100000 + 1) = x1 then X else W))))) = X := by
          intro X hX Y W
          have T : (if s 73 (2 * k + 1) - 100000 < x2 then X else (if x3 ≤ s 73 (2 * k + 1) - 100000 then X else (if F_L_overlap s (s 73 (2 * k + 1) - 100000 + 1) = x1 then X else W))) = X := by
            by_cases a : s 73 (2 * k + 1) - 100000 < x2
            · rw [if_pos a]
            · rw [if_neg a]
              by_cases b : x3 ≤ s 73 (2 * k + 1) - 100000
              · rw [if_pos b]
              · rw [if_neg b, if_pos (d3 a b)]
          rw [T, if_neg d1]
          by_cases e : F_L_overlap s (s 73 (2 * k) - 100000) = x1
          · rw [if_pos e, if_pos (d2 e)]
          · rw [if_neg e]
        cases hq : hb (rP f (-1)) (rLo f 0) (rHi f 0) ((L + H) / 2) k with
        | true =>
          rw [mk_up hq] at ih1
          rw [if_pos rfl, if_neg (by decide), if_neg h6, fin _ ih1]
          exact ih1
        | false =>
          rw [mk_no hq] at ih1
          rw [if_neg (show ¬ (false = true) by decide), if_pos rfl, if_neg h6, show mk (hb (rP f (-1)) (rLo f 0) (rHi f 0) ((L + H) / 2)) k ||| 0 = mk (hb (rP f (-1)) (rLo f 0) (rHi f 0) ((L + H) / 2)) k from Int32.or_zero, fin _ ih1]
          exact ih1
/-- THE LAW'S best -/
theorem law_best {s : xs_S} {f : Nat → Int32} (hv : VW s f) : (F_L_best s).1 = 1 ∧ ∀ c : Nat, (c < 7 ∨ 10 < c) → c ≠ 73 → (F_L_best s).2 c = s c := by
  have hc15 := cn_le (P := rP f (-1)) 15
  have hm : F_X6_count s 2 = 0 ↔ cn (rP f (-1)) 15 = 0 := by
    have eP : cn (bt (F_X6_count s 2)) 15 = cn (rP f (-1)) 15 := cn_ext 15 (fun j hj => by rw [v_mask hv, bt_mk (by omega) 15 (Nat.le_refl _), decide_eq_true hj, Bool.true_and])
    constructor
    · intro h
      rw [← eP, h]
      by_cases h0 : 1 ≤ cn (bt 0) 15
      · obtain ⟨k, hk, hb⟩ := cn_ex 15 h0
        rw [bt_0] at hb
        cases hb
      · omega
    · intro h
      rw [v_mask hv]
      refine i32_ext (fun j hj => ?_)
      rw [bt_0, bt_mk hj 15 (Nat.le_refl _)]
      by_cases hj5 : j < 15
      · rw [decide_eq_true hj5, Bool.true_and]
        cases hp : rP f (-1) j with
        | false => rfl
        | true => exact absurd hp (no_P h hj5)
      · rw [decide_eq_false hj5, Bool.false_and]
  unfold F_L_best
  by_cases h0 : cn (rP f (-1)) 15 = 0
  · rw [if_pos (hm.mpr h0), if_pos (q_be (w := 0) (by decide) hv h0)]
    have r1 : FR s (F_X6_best s 0).2 := fun c hc => fr_best hc
    generalize (F_X6_best s 0).2 = T1 at r1 ⊢
    rw [if_pos (q_be (w := 3) (by decide) (r1.VW hv) h0)]
    have r2 := r1.tr (fun c hc => fr_best hc : FR T1 (F_X6_best T1 3).2)
    generalize (F_X6_best T1 3).2 = T2 at r2 ⊢
    rw [if_pos (q_fewe (r2.VW hv) h0)]
    have r3 := r2.tr (fun c hc => fr_fewest hc : FR T2 (F_X6_fewest T2).2)
    generalize (F_X6_fewest T2).2 = T3 at r3 ⊢
    rw [if_pos (show (F_X6_share T3).1 = 0 from rfl)]
    have r4 := r3.tr (fun c hc => fr_share hc : FR T3 (F_X6_share T3).2)
    generalize (F_X6_share T3).2 = T4 at r4 ⊢
    rw [if_pos (show lg_cmp (F_X6_mean T4).1 (Int64.ofNat 0) = 0 by show lg_cmp 0 (Int64.ofNat 0) = 0; decide +kernel)]
    have r5 := r4.tr (fun c hc => fr_mean hc : FR T4 (F_X6_mean T4).2)
    generalize (F_X6_mean T4).2 = T5 at r5 ⊢
    rw [if_pos (q_ale (r5.VW hv) h0)]
    have r6 := r5.tr (fun c hc => fr_allowing hc : FR T5 (F_X6_allowing T5 3 0).2)
    exact ⟨rfl, fun c hc _ => r6 c hc⟩
  · have hne : ∃ k : Nat, k < 15 ∧ rP f (-1) k = true := cn_ex 15 (by omega)
    have hB := v_bb hv
    have hbd := bb_bd hv.2 hB hne
    generalize (F_X5_most (F_X6_gatherNow s (-1))).toInt = M at hB hbd
    generalize (F_X5_firstTimeOf (F_X6_gatherNow s (-1)) (F_X5_most (F_X6_gatherNow s (-1)))).toInt = L at hB hbd
    generalize (F_X5_lastTimeOf (F_X6_gatherNow s (-1)) (F_X5_most (F_X6_gatherNow s (-1))) (F_X5_firstTimeOf (F_X6_gatherNow s (-1)) (F_X5_most (F_X6_gatherNow s (-1))))).toInt = H at hB hbd
    rw [if_neg (fun h => h0 (hm.mp h))]
    have g1 := q_b0 hv hB hne
    have r1 : FR s (F_X6_best s 0).2 := fun c hc => fr_best hc
    generalize (F_X6_best s 0).1 = x1 at g1 ⊢
    generalize (F_X6_best s 0).2 = T1 at r1 ⊢
    have g2 := q_b1 (r1.VW hv) hB hne
    have r2 := r1.tr (fun c hc => fr_best hc : FR T1 (F_X6_best T1 1).2)
    generalize (F_X6_best T1 1).1 = y2 at g2 ⊢
    generalize (F_X6_best T1 1).2 = T2 at r2 ⊢
    have g3 := q_b2 (r2.VW hv) hB hne
    have r3 := r2.tr (fun c hc => fr_best hc : FR T2 (F_X6_best T2 2).2)
    generalize (F_X6_best T2 2).1 = y3 at g3 ⊢
    generalize (F_X6_best T2 2).2 = T3 at r3 ⊢
    have g4 := q_b3 (r3.VW hv) hB hne
    have r4 := r3.tr (fun c hc => fr_best hc : FR T3 (F_X6_best T3 3).2)
    generalize (F_X6_best T3 3).1 = y4 at g4 ⊢
    generalize (F_X6_best T3 3).2 = T4 at r4 ⊢
    have v4 := r4.VW hv
    have k2 : (y2 - 100000).toInt = L := by rw [xi_sub (by rw [g2, e105]; omega), g2, e105]; omega
    have k3 : (y3 - 100000).toInt = H := by rw [xi_sub (by rw [g3, e105]; omega), g3, e105]; omega
    have k4 : (y4 - 100000).toInt = (L + H) / 2 := by rw [xi_sub (by rw [g4, e105]; omega), g4, e105]; omega
    have k5 : (y2 - 100000 + (y3 - 100000)).toInt = L + H := by rw [xi_add (by rw [k2, k3]; omega), k2, k3]
    rw [n_1, v4.1.1.2.2.2.1]
    have hE : VW (F_L_ends T4 (f 3)) f := VW_c (fun c hc => f_ends (by omega)) v4
    have hD := ro_D hv.2
    have hl := bk_l hB hne g1 k2 k3 k4 k5 16 0 (F_L_ends T4 (f 3)) (by omega) (by omega) hE (en_v v4)
    rw [nI_0, show mk (hb (rP f (-1)) (rLo f 0) (rHi f 0) ((L + H) / 2)) 0 = 0 from rfl] at hl
    exact ⟨hl.1, fun c hc h73 => by rw [hl.2 c hc, f_ends h73, r4 c hc]⟩
