/-! agreeing -/
theorem CR_mv {s s' : xs_S} {f f' : Nat → Int32} (hC : CR 1 s f) (h1 : ∀ i : Nat, i ≠ 5 → s' 1 i = s 1 i) (h6 : ∀ i : Nat, i < 6 → f' i = f i) (hc : ∀ j : Nat, j < 15 → f' (6 + 7 * j) = f (6 + 7 * j) ∧ f' (12 + 7 * j) = (if bt (s' 1 5) j = true then 1 else 0) ∧ s' 2 j = f' (7 + 7 * j) ∧ s' 3 j = f' (8 + 7 * j) ∧ s' 4 j = f' (9 + 7 * j) ∧ s' 5 j = f' (10 + 7 * j) ∧ s' 6 j = f' (11 + 7 * j)) (hb : ∀ j : Nat, j < 32 → bt (s' 1 5) j = true → bt (s 1 4) j = true) : CR 1 s' f' := by
  obtain ⟨⟨e0, e1, e2, e3, e6, e7⟩, h2, h3, h4⟩ := hC
  refine ⟨⟨?_, ?_, ?_, ?_, ?_, ?_⟩, fun k hk => ?_, fun k hk hb4 => ?_, fun k hk h => ?_⟩
  · rw [h1 0 (by decide), h6 0 (by decide)]; exact e0
  · rw [h1 1 (by decide), h6 1 (by decide)]; exact e1
  · rw [h1 2 (by decide), h6 2 (by decide)]; exact e2
  · rw [h1 3 (by decide), h6 3 (by decide)]; exact e3
  · rw [h1 6 (by decide), h6 4 (by decide)]; exact e6
  · rw [h1 7 (by decide), h6 5 (by decide)]; exact e7
  · obtain ⟨c0, c12, c2, c3, c4, c5, c6⟩ := hc k hk
    exact ⟨⟨by rw [c0, h1 4 (by decide)]; exact (h2 k hk).1.1, c12⟩, c2, c3, c4, c5, c6⟩
  · rw [h1 4 (by decide)] at hb4
    rw [h6 3 (by decide)]
    exact h3 k hk hb4
  · rw [h1 4 (by decide)]
    exact hb k hk h
def lie3 (f : Nat → Int32) (k : Nat) (L R b : Int32) : Nat → Int32 := xs_uf (xs_uf (xs_uf f (6 + 7 * k + 4) L) (6 + 7 * k + 5) R) (6 + 7 * k + 6) b
theorem lie3_h {f : Nat → Int32} {k i : Nat} {L R b : Int32} (hi : i < 6) : lie3 f k L R b i = f i := by
  unfold lie3
  rw [uf_h hi, uf_h hi, uf_h hi]
theorem lie3_c {f : Nat → Int32} {k j m : Nat} {L R b : Int32} (hm : m ≤ 6) : lie3 f k L R b (6 + m + 7 * j) = if j = k ∧ m = 6 then b else if j = k ∧ m = 5 then R else if j = k ∧ m = 4 then L else f (6 + m + 7 * j) := by
  unfold lie3
  rw [uf_c (by decide) hm, uf_c (by decide) hm, uf_c (by decide) hm]
theorem CR_lie {s s' : xs_S} {f : Nat → Int32} {k : Nat} {L R b : Int32} (hk : k < 15) (hC : CR 1 s f) (h4 : bt (s 1 4) k = true) (h1 : ∀ i : Nat, i ≠ 5 → s' 1 i = s 1 i) (h5 : ∀ j : Nat, j < 32 → j ≠ k → bt (s' 1 5) j = bt (s 1 5) j) (hb : b = if bt (s' 1 5) k = true then 1 else 0) (c2 : s' 2 = s 2) (c3 : s' 3 = s 3) (c4 : s' 4 = s 4) (c5 : s' 5 = xs_uf (s 5) k L) (c6 : s' 6 = xs_uf (s 6) k R) : CR 1 s' (lie3 f k L R b) := by
  have hC' := hC
  obtain ⟨-, h2, -, h4'⟩ := hC'
  refine CR_mv hC h1 (fun i hi => lie3_h hi) (fun j hj => ?_) (fun j hj hbj => ?_)
  · obtain ⟨⟨g0, g6⟩, g1, g2, g3, g4, g5⟩ := h2 j hj
    have g1' : s 2 j = f (7 + 7 * j) := g1
    have g2' : s 3 j = f (8 + 7 * j) := g2
    have g3' : s 4 j = f (9 + 7 * j) := g3
    have g4' : s 5 j = f (10 + 7 * j) := g4
    have g5' : s 6 j = f (11 + 7 * j) := g5
    have d0 := lie3_c (f := f) (k := k) (j := j) (m := 0) (L := L) (R := R) (b := b) (by decide)
    have d1 := lie3_c (f := f) (k := k) (j := j) (m := 1) (L := L) (R := R) (b := b) (by decide)
    have d2 := lie3_c (f := f) (k := k) (j := j) (m := 2) (L := L) (R := R) (b := b) (by decide)
    have d3 := lie3_c (f := f) (k := k) (j := j) (m := 3) (L := L) (R := R) (b := b) (by decide)
    have d4 := lie3_c (f := f) (k := k) (j := j) (m := 4) (L := L) (R := R) (b := b) (by decide)
    have d5 := lie3_c (f := f) (k := k) (j := j) (m := 5) (L := L) (R := R) (b := b) (by decide)
    have d6 := lie3_c (f := f) (k := k) (j := j) (m := 6) (L := L) (R := R) (b := b) (by decide)
    simp only [show 6 + 0 = 6 from rfl, show 6 + 1 = 7 from rfl, show 6 + 2 = 8 from rfl, show 6 + 3 = 9 from rfl, show 6 + 4 = 10 from rfl, show 6 + 5 = 11 from rfl, show 6 + 6 = 12 from rfl] at d0 d1 d2 d3 d4 d5 d6
    rw [d0, d1, d2, d3, d4, d5, d6, c2, c3, c4, c5, c6]
    by_cases hjk : j = k
    · subst hjk
      rw [xs_uf_s, xs_uf_s]
      simp
      exact ⟨hb, g1', g2', g3'⟩
    · rw [xs_uf_n hjk, xs_uf_n hjk, h5 j (by omega) hjk]
      simp [hjk]
      exact ⟨g6, g1', g2', g3', g4', g5'⟩
  · by_cases hjk : j = k
    · subst hjk; exact h4
    · rw [h5 j hj hjk] at hbj
      exact h4' j hj hbj
theorem CR_zr {s : xs_S} {f : Nat → Int32} {k : Nat} (hk : k < 15) (hC : CR 1 s f) : CR 1 (xs_u s 6 k 0) (xs_uf f (6 + 7 * k + 5) 0) := by
  have hC' := hC
  obtain ⟨-, h2, -, h4'⟩ := hC'
  have e5 : xs_u s 6 k 0 1 = s 1 := xs_rd_k (by decide)
  refine CR_mv hC (fun i hi => by rw [e5]) (fun i hi => uf_h hi) (fun j hj => ?_) (fun j hj hbj => ?_)
  · obtain ⟨⟨g0, g6⟩, g1, g2, g3, g4, g5⟩ := h2 j hj
    have g1' : s 2 j = f (7 + 7 * j) := g1
    have g2' : s 3 j = f (8 + 7 * j) := g2
    have g3' : s 4 j = f (9 + 7 * j) := g3
    have g4' : s 5 j = f (10 + 7 * j) := g4
    have g5' : s 6 j = f (11 + 7 * j) := g5
    rw [e5, xs_rd_k (show (2 : Nat) ≠ 6 by decide), xs_rd_k (show (3 : Nat) ≠ 6 by decide), xs_rd_k (show (4 : Nat) ≠ 6 by decide), xs_rd_k (show (5 : Nat) ≠ 6 by decide), xs_uf_n (show 6 + 7 * j ≠ 6 + 7 * k + 5 by omega), xs_uf_n (show 12 + 7 * j ≠ 6 + 7 * k + 5 by omega), xs_uf_n (show 7 + 7 * j ≠ 6 + 7 * k + 5 by omega), xs_uf_n (show 8 + 7 * j ≠ 6 + 7 * k + 5 by omega), xs_uf_n (show 9 + 7 * j ≠ 6 + 7 * k + 5 by omega), xs_uf_n (show 10 + 7 * j ≠ 6 + 7 * k + 5 by omega)]
    refine ⟨rfl, g6, g1', g2', g3', g4', ?_⟩
    by_cases hjk : j = k
    · subst hjk
      rw [xs_rd_s, show 11 + 7 * j = 6 + 7 * j + 5 by omega, xs_uf_s]
    · rw [xs_rd_i hjk, xs_uf_n (by omega)]
      exact g5'
  · rw [e5] at hbj
    exact h4' j hj hbj
theorem ju_t {hr o x3 : Int32} : ∀ (n k : Nat) (s : xs_S), k + n = 16 → k ≤ 15 → (∀ j : Nat, k ≤ j → j < 15 → bt o j = false ∧ bt x3 j = false) → lp_X1_judge_8 hr o n x3 (nI k) s = xs_u (xs_u s 1 6 (s 1 6 + 1)) 1 7 hr := by
  intro n
  induction n with
  | zero => intro k s h1 h2; omega
  | succ n ih =>
    intro k s h1 h2 h3
    rw [lp_X1_judge_8]
    by_cases hk : k = 15
    · subst hk
      rw [if_pos (by rw [i15]; exact nI_le (Nat.le_refl _) (by decide))]
    · obtain ⟨b1, b2⟩ := h3 k (Nat.le_refl _) (by omega)
      rw [if_neg (by rw [i15, nI_leI (by decide) (by omega)]; omega), if_neg (fun h => by rw [bt_i (by omega), b1] at h; cases h), if_neg (fun h => by rw [bt_i (by omega), b2] at h; cases h), nI_1]
      exact ih (k + 1) s (by omega) (by omega) (fun j hj => h3 j (by omega))
theorem ju_l {hr o x3 : Int32} {P : Nat → Bool} {lo hi : Nat → Int} (ho : ∀ j : Nat, j < 15 → bt o j = hb P lo hi hr.toInt j) (hx : ∀ j : Nat, j < 15 → bt x3 j = P j) : ∀ (n k : Nat) (s v : xs_S), k + n = 16 → k ≤ 15 → CR 1 s (v 73) → (v 73 3).toInt ≤ 15 → MA v P lo hi → (∀ j : Nat, j < 15 → P j = true → (j : Int) < (v 73 3).toInt) → (∀ j : Nat, k ≤ j → j < 15 → P j = true → bt (s 1 5) j = false ∧ bt (s 1 4) j = true) → (lp_X7_agrees_24 n hr (nI k) v).1 = hr + 100000 ∧ CR 1 (lp_X1_judge_8 hr o n x3 (nI k) s) ((lp_X7_agrees_24 n hr (nI k) v).2 73) := by
  intro n
  induction n with
  | zero => intro k s v h1 h2; omega
  | succ n ih =>
    intro k s v h1 h2 hC hD hM hP hB
    rw [lp_X7_agrees_24]
    have hcmp : v 73 3 ≤ nI k ↔ (v 73 3).toInt ≤ (k : Int) := by rw [xi_le, nI_toInt (by omega)]
    by_cases hk : v 73 3 ≤ nI k
    · rw [if_pos hk]
      have hk' := hcmp.mp hk
      refine ⟨rfl, ?_⟩
      have hno : ∀ j : Nat, k ≤ j → j < 15 → P j = false := by
        intro j hj hj15
        by_cases hp : P j = true
        · have := hP j hj15 hp
          omega
        · simpa using hp
      rw [ju_t (n + 1) k s h1 h2 (fun j hj hj15 => ⟨by rw [ho j hj15, hb_no (hno j hj hj15)], by rw [hx j hj15, hno j hj hj15]⟩)]
      dsimp only
      rw [u73, u73, hC.1.2.2.2.2.1]
      exact CR_v67 hC
    · rw [if_neg hk]
      have hkD : (k : Int) < (v 73 3).toInt := by
        have h3 : ¬ (v 73 3).toInt ≤ (k : Int) := fun h => hk (hcmp.mpr h)
        omega
      have hk15 : k < 15 := by omega
      rw [m_has hk15, MA_hb hM hk15, lp_X1_judge_8, if_neg (show ¬ 15 ≤ nI k by rw [i15, nI_leI (by decide) (by omega)]; omega), nI_1]
      by_cases hh : hb P lo hi hr.toInt k = true
      · rw [if_pos hh, if_neg (show ¬ ((1 : Int32) = 0) by decide), if_pos ((bt_i (by omega)).mpr (by rw [ho k hk15]; exact hh)), nI_tn (by omega)]
        have e73 : F_X7_lay v (nI k) 5 0 73 = xs_uf (v 73) (6 + 7 * k + 5) 0 := ly_row (c := 5) hk15 (by decide) (by decide)
        refine ih (k + 1) _ _ (by omega) (by omega) ?_ ?_ (MA_c (by rw [ly_n (by decide)]) (ly_n (by decide)) (ly_n (by decide)) hM) ?_ ?_
        · rw [e73]
          exact CR_zr hk15 hC
        · rw [e73, uf_h (by decide)]; exact hD
        · rw [e73, uf_h (by decide)]; exact hP
        · intro j hj
          rw [xs_rd_k (show (1 : Nat) ≠ 6 by decide)]
          exact hB j (by omega)
      · rw [if_neg hh, if_pos rfl, if_neg (show ¬ (((o >>> (nI k &&& 31)) &&& 1) = 1) from fun h => hh (by rw [← ho k hk15]; exact (bt_i (by omega)).mp h))]
        by_cases hp : P k = true
        · rw [if_pos ((MA_bit hM hk15).mpr hp), if_pos ((bt_i (by omega)).mpr (by rw [hx k hk15]; exact hp))]
          obtain ⟨b5, b4⟩ := hB k (Nat.le_refl _) hk15 hp
          have hC' := hC
          obtain ⟨⟨-, e1, -⟩, hrow, -⟩ := hC'
          obtain ⟨-, -, -, -, g4, g5⟩ := hrow k hk15
          have g4' : s 5 k = v 73 (10 + 7 * k) := g4
          have g5' : s 6 k = v 73 (11 + 7 * k) := g5
          have r1 : ∀ a : Int32, F_X7_lay v (nI k) 4 a 73 = xs_uf (v 73) (6 + 7 * k + 4) a := fun a => ly_row (c := 4) hk15 (by decide) (by decide)
          have i4 : F_X7_its v (nI k) 4 = v 73 (10 + 7 * k) := its_4 hk15
          have i5 : ∀ a : Int32, F_X7_its (F_X7_lay v (nI k) 4 a) (nI k) 5 = v 73 (11 + 7 * k) := fun a => by
            rw [its_5 hk15, r1, xs_uf_n (by omega)]
          have r2 : ∀ a b : Int32, F_X7_lay (F_X7_lay v (nI k) 4 a) (nI k) 5 b 73 = xs_uf (xs_uf (v 73) (6 + 7 * k + 4) a) (6 + 7 * k + 5) b := fun a b => by
            rw [ly_row (c := 5) hk15 (by decide) (by decide), r1]
          have i5' : ∀ a b : Int32, F_X7_its (F_X7_lay (F_X7_lay v (nI k) 4 a) (nI k) 5 b) (nI k) 5 = b := fun a b => by
            rw [its_5 hk15, r2, show 11 + 7 * k = 6 + 7 * k + 5 by omega, xs_uf_s]
          have r3 : ∀ a b c : Int32, F_X7_lay (F_X7_lay (F_X7_lay v (nI k) 4 a) (nI k) 5 b) (nI k) 6 c 73 = lie3 (v 73) k a b c := fun a b c => by
            rw [ly_row (c := 6) hk15 (by decide) (by decide), r2]
            rfl
          have hcl : F_X1_countLie s (nI k) = if v 73 (11 + 7 * k) + 1 < v 73 1 then xs_u (xs_u s 5 k (v 73 (10 + 7 * k) + 1)) 6 k (v 73 (11 + 7 * k) + 1) else xs_u (xs_u (xs_u s 5 k (v 73 (10 + 7 * k) + 1)) 6 k (v 73 (11 + 7 * k) + 1)) 1 5 (s 1 5 ||| ((1 : Int32) <<< (nI k &&& 31))) := by
            unfold F_X1_countLie
            rw [nI_tn (by omega), xs_rd_s, g4', g5', e1]
          rw [hcl, i4, i5, i5', r2, uf_h (by decide), uf_h (by decide)]
          have mm : ∀ a b c : Int32, MA (F_X7_lay (F_X7_lay (F_X7_lay v (nI k) 4 a) (nI k) 5 b) (nI k) 6 c) P lo hi := fun a b c => MA_c (by rw [ly_n (by decide), ly_n (by decide), ly_n (by decide)]) (by rw [ly_n (by decide), ly_n (by decide), ly_n (by decide)]) (by rw [ly_n (by decide), ly_n (by decide), ly_n (by decide)]) hM
          by_cases hlt : v 73 (11 + 7 * k) + 1 < v 73 1
          · rw [if_pos hlt, if_pos hlt]
            have q1 : ∀ a b : Int32, xs_u (xs_u s 5 k a) 6 k b 1 = s 1 := fun a b => by rw [xs_rd_k (by decide), xs_rd_k (by decide)]
            refine ih (k + 1) _ _ (by omega) (by omega) ?_ ?_ (mm _ _ _) ?_ ?_
            · rw [r3]
              refine CR_lie hk15 hC b4 (fun i hi => by rw [q1]) (fun j hj hjk => by rw [q1]) ?_ ?_ ?_ ?_ ?_ ?_
              · rw [q1, b5]; rfl
              · rw [xs_rd_k (by decide), xs_rd_k (by decide)]
              · rw [xs_rd_k (by decide), xs_rd_k (by decide)]
              · rw [xs_rd_k (by decide), xs_rd_k (by decide)]
              · rw [xs_rd_k (by decide)]
                exact xs_ur_s
              · rw [show xs_u (xs_u s 5 k (v 73 (10 + 7 * k) + 1)) 6 k (v 73 (11 + 7 * k) + 1) 6 = xs_uf (xs_u s 5 k (v 73 (10 + 7 * k) + 1) 6) k (v 73 (11 + 7 * k) + 1) from xs_ur_s, xs_rd_k (by decide)]
            · rw [r3, lie3_h (by decide)]; exact hD
            · rw [r3, lie3_h (by decide)]; exact hP
            · intro j hj
              rw [q1]
              exact hB j (by omega)
          · rw [if_neg hlt, if_neg hlt]
            generalize hs' : xs_u (xs_u (xs_u s 5 k (v 73 (10 + 7 * k) + 1)) 6 k (v 73 (11 + 7 * k) + 1)) 1 5 (s 1 5 ||| ((1 : Int32) <<< (nI k &&& 31))) = s'
            have q1 : ∀ i : Nat, i ≠ 5 → s' 1 i = s 1 i := fun i hi => by rw [← hs', xs_rd_i hi, xs_rd_k (by decide), xs_rd_k (by decide)]
            have q5 : s' 1 5 = s 1 5 ||| ((1 : Int32) <<< (nI k &&& 31)) := by rw [← hs', xs_rd_s]
            refine ih (k + 1) _ _ (by omega) (by omega) ?_ ?_ (mm _ _ _) ?_ ?_
            · rw [r3]
              refine CR_lie hk15 hC b4 q1 (fun j hj hjk => by rw [q5, bt_or32 hk15 hj, decide_eq_false hjk, Bool.or_false]) ?_ ?_ ?_ ?_ ?_ ?_
              · rw [q5, bt_or32 hk15 (by omega), decide_eq_true rfl, Bool.or_true]; rfl
              · rw [← hs', xs_rd_k (by decide), xs_rd_k (by decide), xs_rd_k (by decide)]
              · rw [← hs', xs_rd_k (by decide), xs_rd_k (by decide), xs_rd_k (by decide)]
              · rw [← hs', xs_rd_k (by decide), xs_rd_k (by decide), xs_rd_k (by decide)]
              · rw [← hs', xs_rd_k (by decide), xs_rd_k (by decide)]
                exact xs_ur_s
              · rw [← hs', xs_rd_k (by decide), show xs_u (xs_u s 5 k (v 73 (10 + 7 * k) + 1)) 6 k (v 73 (11 + 7 * k) + 1) 6 = xs_uf (xs_u s 5 k (v 73 (10 + 7 * k) + 1) 6) k (v 73 (11 + 7 * k) + 1) from xs_ur_s, xs_rd_k (by decide)]
            · rw [r3, lie3_h (by decide)]; exact hD
            · rw [r3, lie3_h (by decide)]; exact hP
            · intro j hj hj15 hpj
              rw [q5, q1 4 (by decide), bt_or32 hk15 (by omega), decide_eq_false (show ¬ j = k by omega), Bool.or_false]
              exact hB j (by omega) hj15 hpj
        · rw [if_neg (fun h => hp ((MA_bit hM hk15).mp h)), if_neg (fun h => hp (by rw [← hx k hk15]; exact (bt_i (by omega)).mp h))]
          exact ih (k + 1) s v (by omega) (by omega) hC hD hM hP (fun j hj => hB j (by omega))
theorem p_agrees {u w : xs_S} (hC : CR 1 u (w 73)) (hR : RowOK (w 73)) : (F_X6_findHour u).1 = (F_X7_agrees w).1 ∧ CR 1 (F_X6_findHour u).2 ((F_X7_agrees w).2 73) := by
  have hG : GA (F_X6_gatherNow u (-1)) (rP (w 73) (-1)) (rLo (w 73) 0) (rHi (w 73) 0) := by
    refine g_ga (later := 0) hC hR ?_ ⟨by decide, by decide⟩
    unfold F_X1_now
    rw [hC.1.2.2.1]
    omega
  have hM := q_m (w := w) hR rfl
  obtain ⟨hM2, hj⟩ := jn hG hM (q_b hR)
  have hCg : CR 1 (F_X6_gatherNow u (-1)) (w 73) := CR_c (fun k a b => gn_n (by omega)) hC
  have e73 : (F_X7_seek (F_X7_layOut w 0 (-6))).2 73 = w 73 := by rw [se_n (by decide), lay_n _ (by decide) (by decide) (by decide)]
  unfold F_X6_findHour F_X7_agrees
  rcases hj with ⟨a1, a2, a3, a4, a5, a6⟩ | ⟨a1, a2, a3, a4⟩
  · rw [if_pos a1, if_neg (show ¬ ((F_X7_seek (F_X7_layOut w 0 (-6))).1 = 0) by rw [a2]; decide)]
    dsimp only
    rw [← a6]
    generalize F_X5_hour (F_X6_gatherNow u (-1)) = hr
    unfold F_X1_judge
    have hbit : ∀ j : Nat, j < 15 → rP (w 73) (-1) j = (bt (F_X6_gatherNow u (-1) 1 4) j && !bt (F_X6_gatherNow u (-1) 1 5) j) := by
      intro j hj
      rw [rP_cr hCg hj, decide_eq_true, Bool.true_and]
      intro h
      rw [xi_eq, nI_toInt (by omega), show (-1 : Int32).toInt = -1 by decide] at h
      omega
    have h := ju_l (hr := hr) (o := F_X5_dialsAt (F_X6_gatherNow u (-1)) hr) (x3 := F_X1_dialsWithSpans (F_X6_gatherNow u (-1))) (P := rP (w 73) (-1)) (lo := rLo (w 73) 0) (hi := rHi (w 73) 0)
      (fun j hj => by rw [g_dials hG, bt_mk (by omega) 15 (by decide), decide_eq_true hj, Bool.true_and])
      (fun j hj => by unfold F_X1_dialsWithSpans; rw [bt_an (by omega), hbit j hj])
      16 0 (F_X6_gatherNow u (-1)) (F_X7_seek (F_X7_layOut w 0 (-6))).2 (by decide) (by decide) (by rw [e73]; exact hCg) (by rw [e73]; exact (ro_D hR).2) hM2
      (fun j hj hp => by
        rw [e73]
        unfold rP at hp
        simp only [Bool.and_eq_true, decide_eq_true_eq] at hp
        exact hp.1)
      (fun j _ hj hp => by
        rw [hbit j hj] at hp
        simp only [Bool.and_eq_true, Bool.not_eq_true'] at hp
        exact ⟨hp.2, hp.1⟩)
    rw [nI_0] at h
    exact ⟨h.1.symm, h.2⟩
  · rw [if_neg (show ¬ (F_X5_isEmpty (F_X6_gatherNow u (-1)) = 0) by rw [a1]; decide), if_pos a2]
    dsimp only
    rw [e73]
    exact ⟨rfl, hCg⟩
theorem eq_agree {st : xs_S} (hI : Inv st) : (F_X6_agree st).1 = (F_X7_agree (F_X6_agree st).2).1 ∧ Inv (F_X7_agree (F_X6_agree st).2).2 := by
  have h := chg F_X6_findHour F_X7_agrees hI (fun s k hk => fh_n (by omega)) (fun s k hk => ag_n (by omega) (by omega) (by omega) (by omega)) (fun s i hi => ag_f (by omega) (by omega) (by omega) (by omega)) (fun u w _ _ h hR => ⟨(p_agrees h hR).1, (p_agrees h hR).2, ro_ag hR⟩)
  unfold F_X6_agree F_X7_agree
  dsimp only
  exact h
