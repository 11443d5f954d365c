/-! both sides read the pad -/
def PR (u w : xs_S) (l p : Nat) : Prop := u 70 1 = nI l ∧ w 72 7 = nI l ∧ l ≤ 80 ∧ u 70 2 = nI p ∧ w 72 8 = nI p ∧ p ≤ l ∧ ∀ i : Nat, i < l → u 71 i = w 78 i ∧ 33 ≤ (u 71 i).toInt ∧ (u 71 i).toInt ≤ 126
theorem pr_sign {u w : xs_S} {l p : Nat} (h : PR u w l p) : F_X3_sign u = if p < l then u 71 p else 0 := by
  obtain ⟨a1, a2, a3, a4, a5, a6, a7⟩ := h
  unfold F_X3_sign
  rw [a4, a1, if_neg (show ¬ nI p < 0 by rw [xi_lt, nI_toInt (by omega), xi_0]; omega), nI_tn (by omega)]
  by_cases c : p < l
  · rw [if_pos c, if_neg (show ¬ nI l ≤ nI p by rw [nI_leI (by omega) (by omega)]; omega)]
  · rw [if_neg c, if_pos (nI_le (by omega) (by omega))]
theorem pr_sees {u w : xs_S} {l p : Nat} {a b : Int32} (h : PR u w l p) : F_X7_sees w a b = if p < l ∧ a.toInt ≤ (u 71 p).toInt ∧ (u 71 p).toInt ≤ b.toInt then 1 else 0 := by
  obtain ⟨a1, a2, a3, a4, a5, a6, a7⟩ := h
  unfold F_X7_sees
  rw [a2, a5, nI_tn (by omega), in_if]
  by_cases c : p < l
  · rw [if_neg (show ¬ nI l ≤ nI p by rw [nI_leI (by omega) (by omega)]; omega), ← (a7 p c).1]
    by_cases d : a.toInt ≤ (u 71 p).toInt ∧ (u 71 p).toInt ≤ b.toInt
    · rw [if_pos d, if_neg (show ¬ ((1 : Int32) = 0) by decide), if_pos ⟨c, d⟩]
    · rw [if_neg d, if_pos rfl, if_neg (fun g => d g.2)]
  · rw [if_pos (nI_le (by omega) (by omega)), if_neg (fun g => c g.1)]
theorem PR_up {u w : xs_S} {l p : Nat} (h : PR u w l p) (hp : p < l) : PR (xs_u u 70 2 (nI (p + 1))) (xs_u w 72 8 (nI (p + 1))) l (p + 1) := by
  obtain ⟨a1, a2, a3, a4, a5, a6, a7⟩ := h
  refine ⟨by rw [xs_rd_i (by decide)]; exact a1, by rw [xs_rd_i (by decide)]; exact a2, a3, xs_rd_s, xs_rd_s, by omega, fun i hi => ?_⟩
  rw [xs_rd_k (by decide), xs_rd_k (by decide)]
  exact a7 i hi
theorem PR_u {u w : xs_S} {l p i : Nat} {v : Int32} (hi : i ≠ 1 ∧ i ≠ 2) (h : PR u w l p) : PR (xs_u u 70 i v) w l p := by
  obtain ⟨a1, a2, a3, a4, a5, a6, a7⟩ := h
  refine ⟨by rw [xs_rd_i (fun e => hi.1 e.symm)]; exact a1, a2, a3, by rw [xs_rd_i (fun e => hi.2 e.symm)]; exact a4, a5, a6, fun i hi => ?_⟩
  rw [xs_rd_k (by decide)]
  exact a7 i hi
theorem PR_w {u w : xs_S} {l p i : Nat} {v : Int32} (h : PR u w l p) : PR u (xs_u w 80 i v) l p := by
  obtain ⟨a1, a2, a3, a4, a5, a6, a7⟩ := h
  refine ⟨a1, by rw [xs_rd_k (by decide)]; exact a2, a3, a4, by rw [xs_rd_k (by decide)]; exact a5, a6, fun i hi => ?_⟩
  rw [xs_rd_k (by decide)]
  exact a7 i hi
theorem PR_z {u w : xs_S} {l p : Nat} (h : PR u w l p) : PR u (xs_u w 72 8 (w 72 8 + 0)) l p := by
  obtain ⟨a1, a2, a3, a4, a5, a6, a7⟩ := h
  refine ⟨a1, by rw [xs_rd_i (by decide)]; exact a2, a3, a4, by rw [xs_rd_s, a5, nI_z], a6, fun i hi => ?_⟩
  rw [xs_rd_k (by decide)]
  exact a7 i hi
/-- what the reference's reading leaves alone -/
def FW (w' w : xs_S) : Prop := (∀ k : Nat, k ≠ 72 → k ≠ 80 → w' k = w k) ∧ ∀ i : Nat, i ≠ 8 → w' 72 i = w 72 i
theorem FW_r (w : xs_S) : FW w w := ⟨fun _ _ _ => rfl, fun _ _ => rfl⟩
theorem FW_t {a b c : xs_S} (h1 : FW a b) (h2 : FW b c) : FW a c := ⟨fun k p q => (h1.1 k p q).trans (h2.1 k p q), fun i p => (h1.2 i p).trans (h2.2 i p)⟩
theorem FW_8 {w : xs_S} {v : Int32} : FW (xs_u w 72 8 v) w := ⟨fun k p q => xs_rd_k p, fun i p => xs_rd_i p⟩
theorem FW_80 {w : xs_S} {i : Nat} {v : Int32} : FW (xs_u w 80 i v) w := ⟨fun k p q => xs_rd_k q, fun i p => by rw [xs_rd_k (by decide)]⟩
theorem pr_take {u w : xs_S} {l p : Nat} {x : Int32} (h : PR u w l p) (hx : 1 ≤ x.toInt) : ((F_X3_take u x).1 = 0 ∧ (F_X7_takes w x).1 = 0 ∧ PR (F_X3_take u x).2 (F_X7_takes w x).2 l p ∨ (F_X3_take u x).1 = 1 ∧ (F_X7_takes w x).1 = 1 ∧ p < l ∧ PR (F_X3_take u x).2 (F_X7_takes w x).2 l (p + 1)) ∧ (∀ i : Nat, i ≠ 2 → (F_X3_take u x).2 70 i = u 70 i) ∧ FW (F_X7_takes w x).2 w ∧ (F_X7_takes w x).2 80 = w 80 := by
  have h' := h
  obtain ⟨a1, a2, a3, a4, a5, a6, a7⟩ := h'
  unfold F_X3_take F_X7_takes
  rw [pr_sign h, pr_sees h]
  by_cases c : p < l
  · rw [if_pos c]
    by_cases d : u 71 p = x
    · rw [if_pos d, if_pos (show p < l ∧ x.toInt ≤ (u 71 p).toInt ∧ (u 71 p).toInt ≤ x.toInt from ⟨c, by rw [d]; exact ⟨Int.le_refl _, Int.le_refl _⟩⟩), if_neg (show ¬ ((1 : Int32) = 0) by decide), a4, a5, nI_1]
      exact ⟨Or.inr ⟨rfl, rfl, c, PR_up h c⟩, fun i hi => by dsimp only; rw [xs_rd_i hi], FW_8, by dsimp only; rw [xs_rd_k (show (80 : Nat) ≠ 72 by decide)]⟩
    · rw [if_neg d, if_neg (show ¬ (p < l ∧ x.toInt ≤ (u 71 p).toInt ∧ (u 71 p).toInt ≤ x.toInt) from fun g => d (xi_eq.mpr (by omega))), if_pos rfl]
      exact ⟨Or.inl ⟨rfl, rfl, PR_z h⟩, fun i hi => rfl, FW_8, by dsimp only; rw [xs_rd_k (show (80 : Nat) ≠ 72 by decide)]⟩
  · rw [if_neg c, if_neg (show ¬ ((0 : Int32) = x) from fun g => by rw [← g, xi_0] at hx; omega), if_neg (show ¬ (p < l ∧ x.toInt ≤ (u 71 p).toInt ∧ (u 71 p).toInt ≤ x.toInt) from fun g => c g.1), if_pos rfl]
    exact ⟨Or.inl ⟨rfl, rfl, PR_z h⟩, fun i hi => rfl, FW_8, by dsimp only; rw [xs_rd_k (show (80 : Nat) ≠ 72 by decide)]⟩
theorem dg_if {u : xs_S} {x : Int32} : F_X3_isDigit u x = if 48 ≤ x.toInt ∧ x.toInt ≤ 57 then 1 else 0 := by
  have e48 : (48 : Int32).toInt = 48 := by decide
  have e57 : (57 : Int32).toInt = 57 := by decide
  unfold F_X3_isDigit
  by_cases c : x < 48
  · rw [if_pos c]
    rw [xi_lt, e48] at c
    rw [if_neg (show ¬ (48 ≤ x.toInt ∧ x.toInt ≤ 57) by omega)]
  · rw [if_neg c]
    rw [xi_lt, e48] at c
    by_cases d : 57 < x
    · rw [if_pos d]
      rw [xi_lt, e57] at d
      rw [if_neg (show ¬ (48 ≤ x.toInt ∧ x.toInt ≤ 57) by omega)]
    · rw [if_neg d]
      rw [xi_lt, e57] at d
      rw [if_pos (show (48 ≤ x.toInt ∧ x.toInt ≤ 57) by omega)]
/-- what both sides have after a number -/
def NR (a b : Int32 × xs_S) (s w : xs_S) (l p pn : Nat) : Prop := (∃ p' : Nat, p ≤ p' ∧ PR a.2 b.2 l p') ∧ b.2 80 pn = a.2 70 7 ∧ (∀ i : Nat, i ≠ 2 → i ≠ 7 → a.2 70 i = s 70 i) ∧ FW b.2 w ∧ ∀ j : Nat, j ≠ pn → b.2 80 j = w 80 j
theorem nr_stop {s w : xs_S} {l p pn : Nat} {x r : Int32} (h : PR s w l p) (hx : s 70 7 = x) : NR (r, s) (r, xs_u w 80 pn x) s w l p pn := by
  refine ⟨⟨p, Nat.le_refl _, PR_w h⟩, ?_, fun i _ _ => rfl, FW_80, fun j hj => by dsimp only; rw [xs_rd_i hj]⟩
  show xs_u w 80 pn x 80 pn = s 70 7
  rw [xs_rd_s, hx]
theorem nm_l {l p0 pn : Nat} {pl : Int32} (hpl : pl.toInt.toNat = pn) : ∀ (d p : Nat) (n n' : Nat) (x : Int32) (s w : xs_S), l - p = d → d < n → d < n' → p0 < p → PR s w l p → s 70 7 = x → (0 ≤ x.toInt ∧ x.toInt ≤ 9999) → (lp_X3_takeNumber_10 n (nI p0) s).1 = 1 ∧ (lp_X7_number_36 pl n' x w).1 = 1 ∧ NR (lp_X3_takeNumber_10 n (nI p0) s) (lp_X7_number_36 pl n' x w) s w l p pn := by
  have e48 : (48 : Int32).toInt = 48 := by decide
  have e57 : (57 : Int32).toInt = 57 := by decide
  have e10 : (10 : Int32).toInt = 10 := by decide
  have e99 : (9999 : Int32).toInt = 9999 := by decide
  intro d
  induction d with
  | zero =>
    intro p n n' x s w h1 h2 h3 h4 h h7 hx
    obtain ⟨m, rfl⟩ : ∃ m, n = m + 1 := ⟨n - 1, by omega⟩
    obtain ⟨m', rfl⟩ : ∃ m, n' = m + 1 := ⟨n' - 1, by omega⟩
    have h' := h
    obtain ⟨a1, a2, a3, a4, a5, a6, a7⟩ := h'
    have hs : F_X7_sees w 48 57 = 0 := by rw [pr_sees h, if_neg (fun g => by have := g.1; omega)]
    rw [lp_X3_takeNumber_10, lp_X7_number_36, a1, a4, if_pos (nI_le (by omega) (by omega)), if_neg (show ¬ nI p ≤ nI p0 by rw [nI_leI (by omega) (by omega)]; omega), hpl]
    by_cases c : x ≤ 0
    · rw [if_pos c]
      exact ⟨rfl, rfl, nr_stop h h7⟩
    · rw [if_neg c, if_pos hs]
      exact ⟨rfl, rfl, nr_stop h h7⟩
  | succ d ih =>
    intro p n n' x s w h1 h2 h3 h4 h h7 hx
    obtain ⟨m, rfl⟩ : ∃ m, n = m + 1 := ⟨n - 1, by omega⟩
    obtain ⟨m', rfl⟩ : ∃ m, n' = m + 1 := ⟨n' - 1, by omega⟩
    have h' := h
    obtain ⟨a1, a2, a3, a4, a5, a6, a7⟩ := h'
    have hp : p < l := by omega
    obtain ⟨b1, b2, b3⟩ := a7 p hp
    have hsg : F_X3_sign s = s 71 p := by rw [pr_sign h, if_pos hp]
    have hnp : ¬ nI p ≤ nI p0 := by rw [nI_leI (by omega) (by omega)]; omega
    rw [lp_X3_takeNumber_10, lp_X7_number_36, a1, a4, if_neg (show ¬ nI l ≤ nI p by rw [nI_leI (by omega) (by omega)]; omega), hsg, dg_if, if_neg hnp, if_neg (show ¬ nI p = nI p0 by rw [nI_eq (by omega) (by omega)]; omega), hpl, a5, nI_tn (by omega), ← b1, h7]
    by_cases hd : 48 ≤ (s 71 p).toInt ∧ (s 71 p).toInt ≤ 57
    · rw [if_pos hd, if_neg (show ¬ ((1 : Int32) = 0) by decide)]
      have hs : ¬ F_X7_sees w 48 57 = 0 := by
        rw [pr_sees h, if_pos (show p < l ∧ (48 : Int32).toInt ≤ (s 71 p).toInt ∧ (s 71 p).toInt ≤ (57 : Int32).toInt from ⟨hp, by rw [e48, e57]; exact hd⟩)]
        decide
      by_cases c : x ≤ 0
      · rw [if_pos c, if_pos c]
        exact ⟨rfl, rfl, nr_stop h h7⟩
      · rw [if_neg c, if_neg c, if_neg hs]
        have v1 : (10 * x + s 71 p - 48).toInt = 10 * x.toInt + (s 71 p).toInt - 48 := by
          rw [xi_sub (by rw [xi_add (by rw [xi_mul (by rw [e10]; omega), e10]; omega), xi_mul (by rw [e10]; omega), e10, e48]; omega), xi_add (by rw [xi_mul (by rw [e10]; omega), e10]; omega), xi_mul (by rw [e10]; omega), e10, e48]
        have v2 : F_X3_withDigit s (s 71 p) = 10 * x + s 71 p - 48 := by
          apply xi_eq.mpr
          unfold F_X3_withDigit
          rw [v1, h7, xi_add (by rw [xi_mul (by rw [e10]; omega), xi_sub (by rw [e48]; omega), e10, e48]; omega), xi_mul (by rw [e10]; omega), xi_sub (by rw [e48]; omega), e10, e48]
          omega
        rw [v2]
        by_cases g : 9999 < 10 * x + s 71 p - 48
        · rw [if_pos g, if_pos g]
          exact ⟨rfl, rfl, nr_stop h h7⟩
        · rw [if_neg g, if_neg g, nI_1]
          rw [xi_lt, e99, v1] at g
          have hr := ih (p + 1) m m' (10 * x + s 71 p - 48) (xs_u (xs_u s 70 7 (10 * x + s 71 p - 48)) 70 2 (nI (p + 1))) (xs_u w 72 8 (nI (p + 1))) (by omega) (by omega) (by omega) (by omega) (PR_up (PR_u (by decide) h) hp) (by rw [xs_rd_i (by decide), xs_rd_s]) (by rw [v1]; omega)
          obtain ⟨r1, r2, ⟨q, hq, hq2⟩, r3, r4, r5, r6⟩ := hr
          exact ⟨r1, r2, ⟨q, by omega, hq2⟩, r3, fun i i2 i7 => by rw [r4 i i2 i7, xs_rd_i i2, xs_rd_i i7], FW_t r5 FW_8, fun j hj => by rw [r6 j hj, xs_rd_k (by decide)]⟩
    · rw [if_neg hd, if_pos rfl]
      have hs : F_X7_sees w 48 57 = 0 := by
        rw [pr_sees h, if_neg]
        intro g
        rw [e48, e57] at g
        exact hd g.2
      by_cases c : x ≤ 0
      · rw [if_pos c]
        exact ⟨rfl, rfl, nr_stop h h7⟩
      · rw [if_neg c, if_pos hs]
        exact ⟨rfl, rfl, nr_stop h h7⟩
theorem pr_num {u w : xs_S} {l p pn : Nat} {pl : Int32} (hpl : pl.toInt.toNat = pn) (h : PR u w l p) : ((F_X3_takeNumber u).1 = 0 ∧ (F_X7_number w pl).1 = 0 ∧ PR (F_X3_takeNumber u).2 (F_X7_number w pl).2 l p ∨ (F_X3_takeNumber u).1 = 1 ∧ (F_X7_number w pl).1 = 1 ∧ (∃ p' : Nat, p < p' ∧ PR (F_X3_takeNumber u).2 (F_X7_number w pl).2 l p') ∧ (F_X7_number w pl).2 80 pn = (F_X3_takeNumber u).2 70 7) ∧ (∀ i : Nat, i ≠ 2 → i ≠ 7 → (F_X3_takeNumber u).2 70 i = u 70 i) ∧ FW (F_X7_number w pl).2 w ∧ ∀ j : Nat, j ≠ pn → (F_X7_number w pl).2 80 j = w 80 j := by
  have e48 : (48 : Int32).toInt = 48 := by decide
  have e57 : (57 : Int32).toInt = 57 := by decide
  have e10 : (10 : Int32).toInt = 10 := by decide
  have e99 : (9999 : Int32).toInt = 9999 := by decide
  have h' := h
  obtain ⟨a1, a2, a3, a4, a5, a6, a7⟩ := h'
  have h0 : PR (xs_u u 70 7 0) w l p := PR_u (by decide) h
  have hsg := pr_sign h0
  obtain ⟨c1, c2, c3, c4, c5, c6, c7⟩ := h0
  unfold F_X3_takeNumber F_X7_number
  rw [a4, show (82 : Nat) = 81 + 1 from rfl, lp_X3_takeNumber_10, c1, c4, hsg, dg_if, pr_sees h]
  by_cases hp : p < l
  · obtain ⟨b1, b2, b3⟩ := a7 p hp
    have e71 : xs_u u 70 7 0 71 p = u 71 p := by rw [xs_rd_k (by decide)]
    rw [if_neg (show ¬ nI l ≤ nI p by rw [nI_leI (by omega) (by omega)]; omega), if_pos hp, e71]
    by_cases hd : 48 ≤ (u 71 p).toInt ∧ (u 71 p).toInt ≤ 57
    · rw [if_pos hd, if_neg (show ¬ ((1 : Int32) = 0) by decide), if_pos (show nI p = nI p from rfl), if_pos (show p < l ∧ (48 : Int32).toInt ≤ (u 71 p).toInt ∧ (u 71 p).toInt ≤ (57 : Int32).toInt from ⟨hp, by rw [e48, e57]; exact hd⟩), if_neg (show ¬ ((1 : Int32) = 0) by decide), a5, nI_tn (by omega), ← b1, nI_1]
      have v1 : (u 71 p - 48).toInt = (u 71 p).toInt - 48 := by rw [xi_sub (by rw [e48]; omega), e48]
      have v2 : F_X3_withDigit (xs_u u 70 7 0) (u 71 p) = u 71 p - 48 := by
        apply xi_eq.mpr
        unfold F_X3_withDigit
        rw [xs_rd_s, v1, xi_add (by rw [xi_mul (by rw [e10, xi_0]; omega), v1, e10, xi_0]; omega), xi_mul (by rw [e10, xi_0]; omega), v1, e10, xi_0]
        omega
      rw [v2, if_neg (show ¬ 9999 < u 71 p - 48 by rw [xi_lt, e99, v1]; omega)]
      have hr := nm_l (p0 := p) hpl (l - (p + 1)) (p + 1) 81 82 (u 71 p - 48) (xs_u (xs_u (xs_u u 70 7 0) 70 7 (u 71 p - 48)) 70 2 (nI (p + 1))) (xs_u w 72 8 (nI (p + 1))) rfl (by omega) (by omega) (by omega) (PR_up (PR_u (by decide) (PR_u (by decide) h)) hp) (by rw [xs_rd_i (by decide), xs_rd_s]) (by rw [v1]; omega)
      obtain ⟨r1, r2, ⟨q, hq, hq2⟩, r3, r4, r5, r6⟩ := hr
      exact ⟨Or.inr ⟨r1, r2, ⟨q, by omega, hq2⟩, r3⟩, fun i i2 i7 => by rw [r4 i i2 i7, xs_rd_i i2, xs_rd_i i7, xs_rd_i i7], FW_t r5 FW_8, fun j hj => by rw [r6 j hj, xs_rd_k (by decide)]⟩
    · rw [if_neg hd, if_pos rfl, if_pos (nI_le (Nat.le_refl _) (by omega)), if_neg (show ¬ (p < l ∧ (48 : Int32).toInt ≤ (u 71 p).toInt ∧ (u 71 p).toInt ≤ (57 : Int32).toInt) from fun g => hd (by rw [e48, e57] at g; exact g.2)), if_pos rfl]
      exact ⟨Or.inl ⟨rfl, rfl, PR_u (by decide) h⟩, fun i i2 i7 => by dsimp only; rw [xs_rd_i i7], FW_r w, fun j hj => rfl⟩
  · rw [if_pos (nI_le (by omega) (by omega)), if_pos (nI_le (Nat.le_refl _) (by omega)), if_neg (show ¬ (p < l ∧ (48 : Int32).toInt ≤ (u 71 p).toInt ∧ (u 71 p).toInt ≤ (57 : Int32).toInt) from fun g => hp g.1), if_pos rfl]
    exact ⟨Or.inl ⟨rfl, rfl, PR_u (by decide) h⟩, fun i i2 i7 => by dsimp only; rw [xs_rd_i i7], FW_r w, fun j hj => rfl⟩
