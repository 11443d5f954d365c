/-! set, undo, save, restore -/
theorem CR_v0 {u : xs_S} {f : Nat → Int32} {v : Int32} (h : CR 1 u f) : CR 1 (xs_u u 1 0 v) (xs_uf f 0 v) := by
  obtain ⟨⟨e0, e1, e2, e3, e6, e7⟩, h2, h3, h4⟩ := h
  unfold CR
  simp only [xs_rd_k (show (2 : Nat) ≠ 1 by decide), xs_rd_k (show (3 : Nat) ≠ 1 by decide), xs_rd_k (show (4 : Nat) ≠ 1 by decide), xs_rd_k (show (5 : Nat) ≠ 1 by decide), xs_rd_k (show (6 : Nat) ≠ 1 by decide), xs_rd_i (show (1 : Nat) ≠ 0 by decide), xs_rd_i (show (2 : Nat) ≠ 0 by decide), xs_rd_i (show (3 : Nat) ≠ 0 by decide), xs_rd_i (show (4 : Nat) ≠ 0 by decide), xs_rd_i (show (5 : Nat) ≠ 0 by decide), xs_rd_i (show (6 : Nat) ≠ 0 by decide), xs_rd_i (show (7 : Nat) ≠ 0 by decide), xs_rd_s, xs_uf_s, xs_uf_n (show (1 : Nat) ≠ 0 by decide), xs_uf_n (show (2 : Nat) ≠ 0 by decide), xs_uf_n (show (3 : Nat) ≠ 0 by decide), xs_uf_n (show (4 : Nat) ≠ 0 by decide), xs_uf_n (show (5 : Nat) ≠ 0 by decide)]
  refine ⟨⟨trivial, e1, e2, e3, e6, e7⟩, fun k hk => ?_, h3, h4⟩
  rw [xs_uf_n (by omega), xs_uf_n (by omega), xs_uf_n (by omega), xs_uf_n (by omega), xs_uf_n (by omega), xs_uf_n (by omega), xs_uf_n (by omega)]
  exact h2 k hk
theorem CR_v1 {u : xs_S} {f : Nat → Int32} {v : Int32} (h : CR 1 u f) : CR 1 (xs_u u 1 1 v) (xs_uf f 1 v) := by
  obtain ⟨⟨e0, e1, e2, e3, e6, e7⟩, h2, h3, h4⟩ := h
  unfold CR
  simp only [xs_rd_k (show (2 : Nat) ≠ 1 by decide), xs_rd_k (show (3 : Nat) ≠ 1 by decide), xs_rd_k (show (4 : Nat) ≠ 1 by decide), xs_rd_k (show (5 : Nat) ≠ 1 by decide), xs_rd_k (show (6 : Nat) ≠ 1 by decide), xs_rd_i (show (0 : Nat) ≠ 1 by decide), xs_rd_i (show (2 : Nat) ≠ 1 by decide), xs_rd_i (show (3 : Nat) ≠ 1 by decide), xs_rd_i (show (4 : Nat) ≠ 1 by decide), xs_rd_i (show (5 : Nat) ≠ 1 by decide), xs_rd_i (show (6 : Nat) ≠ 1 by decide), xs_rd_i (show (7 : Nat) ≠ 1 by decide), xs_rd_s, xs_uf_s, xs_uf_n (show (0 : Nat) ≠ 1 by decide), xs_uf_n (show (2 : Nat) ≠ 1 by decide), xs_uf_n (show (3 : Nat) ≠ 1 by decide), xs_uf_n (show (4 : Nat) ≠ 1 by decide), xs_uf_n (show (5 : Nat) ≠ 1 by decide)]
  refine ⟨⟨e0, trivial, e2, e3, e6, e7⟩, fun k hk => ?_, h3, h4⟩
  rw [xs_uf_n (by omega), xs_uf_n (by omega), xs_uf_n (by omega), xs_uf_n (by omega), xs_uf_n (by omega), xs_uf_n (by omega), xs_uf_n (by omega)]
  exact h2 k hk
theorem CR_v67 {u : xs_S} {f : Nat → Int32} {v x : Int32} (h : CR 1 u f) : CR 1 (xs_u (xs_u u 1 6 v) 1 7 x) (xs_uf (xs_uf f 4 v) 5 x) := by
  obtain ⟨⟨e0, e1, e2, e3, e6, e7⟩, h2, h3, h4⟩ := h
  unfold CR
  simp only [xs_rd_k (show (2 : Nat) ≠ 1 by decide), xs_rd_k (show (3 : Nat) ≠ 1 by decide), xs_rd_k (show (4 : Nat) ≠ 1 by decide), xs_rd_k (show (5 : Nat) ≠ 1 by decide), xs_rd_k (show (6 : Nat) ≠ 1 by decide), xs_rd_i (show (0 : Nat) ≠ 6 by decide), xs_rd_i (show (1 : Nat) ≠ 6 by decide), xs_rd_i (show (2 : Nat) ≠ 6 by decide), xs_rd_i (show (3 : Nat) ≠ 6 by decide), xs_rd_i (show (4 : Nat) ≠ 6 by decide), xs_rd_i (show (5 : Nat) ≠ 6 by decide), xs_rd_i (show (7 : Nat) ≠ 6 by decide), xs_rd_i (show (0 : Nat) ≠ 7 by decide), xs_rd_i (show (1 : Nat) ≠ 7 by decide), xs_rd_i (show (2 : Nat) ≠ 7 by decide), xs_rd_i (show (3 : Nat) ≠ 7 by decide), xs_rd_i (show (4 : Nat) ≠ 7 by decide), xs_rd_i (show (5 : Nat) ≠ 7 by decide), xs_rd_i (show (6 : Nat) ≠ 7 by decide), xs_rd_s, xs_uf_s, xs_uf_n (show (0 : Nat) ≠ 4 by decide), xs_uf_n (show (1 : Nat) ≠ 4 by decide), xs_uf_n (show (2 : Nat) ≠ 4 by decide), xs_uf_n (show (3 : Nat) ≠ 4 by decide), xs_uf_n (show (5 : Nat) ≠ 4 by decide), xs_uf_n (show (0 : Nat) ≠ 5 by decide), xs_uf_n (show (1 : Nat) ≠ 5 by decide), xs_uf_n (show (2 : Nat) ≠ 5 by decide), xs_uf_n (show (3 : Nat) ≠ 5 by decide), xs_uf_n (show (4 : Nat) ≠ 5 by decide)]
  refine ⟨⟨e0, e1, e2, e3, trivial, trivial⟩, fun k hk => ?_, h3, h4⟩
  rw [xs_uf_n (by omega), xs_uf_n (by omega), xs_uf_n (by omega), xs_uf_n (by omega), xs_uf_n (by omega), xs_uf_n (by omega), xs_uf_n (by omega), xs_uf_n (by omega), xs_uf_n (by omega), xs_uf_n (by omega), xs_uf_n (by omega), xs_uf_n (by omega), xs_uf_n (by omega), xs_uf_n (by omega)]
  exact h2 k hk
theorem rec_e {w : xs_S} {r : Int32} (h0 : ¬ 0 ≤ r) (h6 : ¬ r = -6) : F_X7_record w r = (r, w) := by
  unfold F_X7_record
  rw [if_neg h0, if_neg h6]
theorem keep_e {w : xs_S} {r : Int32} (h0 : ¬ 0 ≤ r) (h6 : ¬ r = -6) : F_X2_keep w r = (r, w) := by
  unfold F_X2_keep
  rw [ie_if, if_neg h0, if_neg h6, if_neg (by decide)]
theorem keep_k {w : xs_S} {r : Int32} {k : Nat} (hk : k ≠ 11) : (F_X2_keep w r).2 k = w k := by
  unfold F_X2_keep
  by_cases h1 : F_X6_isError w r = 0
  · rw [if_pos h1]
    by_cases h2 : 6 ≤ w 11 2
    · rw [if_pos h2]; exact xs_rd_k hk
    · rw [if_neg h2]; exact xs_rd_k hk
  · rw [if_neg h1]
theorem Inv_dr {st : xs_S} (hI : Inv st) : Inv (F_X2_draft st) := by
  obtain ⟨hC1, hR1, hH, hS, hD⟩ := hI
  have k := (hist_push (u1 := F_X2_draft st) (w1 := F_X7_remember st) (r := -2) hH hC1 hR1 (fun k _ => rfl) (by intro j hj; rw [rem_s, cpy_i (by omega), show 0 + (j - 0) = j by omega]) (by rw [re_n (by decide)]) (by rw [re_n (by decide)])).2.2.1
  rw [rec_e (by decide) (by decide), keep_e (by decide) (by decide)] at k
  refine ⟨?_, by rw [dr_n (by decide)]; exact hR1, HR_c (fun _ _ _ => rfl) (by dsimp only; rw [dr_n (by decide), re_n (by decide)]) (by dsimp only; rw [dr_n (by decide), re_n (by decide)]) k, ?_, ?_⟩
  · rw [dr_n (show 13 > 73 ∨ 54 < 73 by decide)]
    exact CR_c (fun k a b => dr_n (by omega)) hC1
  · exact SL_c (fun k a b => dr_n (by omega)) (dr_n (by decide)) (dr_n (by decide)) hS
  · exact PD_c (by rw [dr_n (by decide)]) (by rw [dr_n (by decide)]) (dr_n (by decide)) (by rw [dr_n (by decide)]) (dr_n (by decide)) hD
theorem set_e {st : xs_S} {a b : Int32} (hI : Inv st) (hC : F_X1_changeSetting (F_X2_draft st) a b = (-2, F_X2_draft st)) (hM : F_X7_set (F_X2_draft st) a b = (-2, F_X2_draft st)) : (F_X6_set st a b).1 = (F_X7_set (F_X6_set st a b).2 a b).1 ∧ Inv (F_X7_set (F_X6_set st a b).2 a b).2 := by
  unfold F_X6_set
  rw [hC]
  dsimp only
  rw [keep_e (by decide) (by decide)]
  dsimp only
  rw [hM]
  exact ⟨rfl, Inv_dr hI⟩
theorem set_k {st : xs_S} {a b : Int32} {i : Nat} (hI : Inv st) (hi : i < 2) (hC : ∀ s : xs_S, F_X1_changeSetting s a b = (s 1 i, xs_u s 1 i b)) (hM : ∀ s : xs_S, F_X7_set s a b = ((F_X7_record (xs_u (F_X7_remember s) 73 i b) (F_X7_remember s 73 i)).1, (F_X7_record (xs_u (F_X7_remember s) 73 i b) (F_X7_remember s 73 i)).2)) (he : ∀ (u : xs_S) (f : Nat → Int32), CR 1 u f → u 1 i = f i ∧ CR 1 (xs_u u 1 i b) (xs_uf f i b)) (hr : ∀ f : Nat → Int32, RowOK f → RowOK (xs_uf f i b)) : (F_X6_set st a b).1 = (F_X7_set (F_X6_set st a b).2 a b).1 ∧ Inv (F_X7_set (F_X6_set st a b).2 a b).2 := by
  have h := chg (fun s => (s 1 i, xs_u s 1 i b)) (fun s => (s 73 i, xs_u s 73 i b)) hI (fun s k hk => xs_rd_k (by omega)) (fun s k hk => xs_rd_k (by omega)) (fun s j hj => by dsimp only; rw [xs_rd_k (by decide)]) (fun u w _ _ h hR => ⟨(he u (w 73) h).1, by dsimp only; rw [u73]; exact (he u (w 73) h).2, by dsimp only; rw [u73]; exact hr _ hR⟩)
  unfold F_X6_set
  rw [hC]
  rw [hM]
  dsimp only at h ⊢
  exact h
theorem eq_set {st : xs_S} {a b : Int32} (hI : Inv st) : (F_X6_set st a b).1 = (F_X7_set (F_X6_set st a b).2 a b).1 ∧ Inv (F_X7_set (F_X6_set st a b).2 a b).2 := by
  have i0 : ∀ s : xs_S, F_X7_in s b.toInt64 0 60 = if 0 ≤ b.toInt ∧ b.toInt ≤ 60 then 1 else 0 := fun s => in_if
  have i1 : ∀ s : xs_S, F_X7_in s b.toInt64 1 20 = if 1 ≤ b.toInt ∧ b.toInt ≤ 20 then 1 else 0 := fun s => in_if
  have e60 : (60 : Int32).toInt = 60 := by decide
  have e20 : (20 : Int32).toInt = 20 := by decide
  have l0 : b < 0 ↔ b.toInt < 0 := by rw [xi_lt, xi_0]
  have l1 : b < 1 ↔ b.toInt < 1 := by rw [xi_lt, xi_1]
  have l60 : 60 < b ↔ 60 < b.toInt := by rw [xi_lt, e60]
  have l20 : 20 < b ↔ 20 < b.toInt := by rw [xi_lt, e20]
  have n10 : ¬ ((1 : Int32) = 0) := by decide
  have n01 : ¬ ((0 : Int32) = 1) := by decide
  by_cases ha : a = 0
  · subst ha
    by_cases hb : 0 ≤ b.toInt ∧ b.toInt ≤ 60
    · refine set_k (i := 0) hI (by decide) (fun s => ?_) (fun s => ?_) (fun u f h => ⟨h.1.1, CR_v0 h⟩) (fun f h => row_0 hb h)
      · unfold F_X1_changeSetting
        rw [if_pos rfl, if_neg (by rw [l0]; omega), if_neg (by rw [l60]; omega)]
      · unfold F_X7_set
        rw [if_pos rfl, i0, if_pos hb, if_neg n10]
        rfl
    · refine set_e hI ?_ ?_
      · unfold F_X1_changeSetting
        rw [if_pos rfl]
        by_cases hb0 : b < 0
        · rw [if_pos hb0, if_neg n01]
        · rw [if_neg hb0, if_pos (by rw [l60]; rw [l0] at hb0; omega), if_neg n01]
      · unfold F_X7_set
        rw [if_pos rfl, i0, if_neg hb, if_pos rfl]
  · by_cases ha1 : a = 1
    · subst ha1
      by_cases hb : 1 ≤ b.toInt ∧ b.toInt ≤ 20
      · refine set_k (i := 1) hI (by decide) (fun s => ?_) (fun s => ?_) (fun u f h => ⟨h.1.2.1, CR_v1 h⟩) (fun f h => row_1 hb h)
        · unfold F_X1_changeSetting
          rw [if_neg n10, if_pos rfl, if_neg (by rw [l1]; omega), if_neg (by rw [l20]; omega)]
        · unfold F_X7_set
          rw [if_neg n10, if_pos rfl, i1, if_pos hb, if_neg n10]
          rfl
      · refine set_e hI ?_ ?_
        · unfold F_X1_changeSetting
          rw [if_neg n10, if_pos rfl]
          by_cases hb0 : b < 1
          · rw [if_pos hb0]
          · rw [if_neg hb0, if_pos (by rw [l20]; rw [l1] at hb0; omega)]
        · unfold F_X7_set
          rw [if_neg n10, if_pos rfl, i1, if_neg hb, if_pos rfl]
    · refine set_e hI ?_ ?_
      · unfold F_X1_changeSetting
        rw [if_neg ha, if_neg ha1]
      · unfold F_X7_set
        rw [if_neg ha, if_neg ha1]
/-! undo -/
theorem eq_undo {st : xs_S} (hI : Inv st) : (F_X6_undo st).1 = (F_X7_undo (F_X6_undo st).2).1 ∧ Inv (F_X7_undo (F_X6_undo st).2).2 := by
  have hI' := hI
  obtain ⟨hC1, hR1, ⟨o, n, ho, hn, e1, e2, e5, hi⟩, hS, hD⟩ := hI
  have z : (0 : Int32) = nI 0 := by decide
  unfold F_X6_undo F_X2_takeBack
  by_cases h0 : n = 0
  · subst h0
    rw [if_pos (by rw [e2, z])]
    dsimp only
    unfold F_X7_undo
    rw [if_pos (by rw [e5, z])]
    exact ⟨rfl, hI'⟩
  · obtain ⟨m, rfl⟩ : ∃ m, n = m + 1 := ⟨n - 1, by omega⟩
    have hm : nI (m + 1) - 1 = nI m := by
      apply xi_eq.mpr
      rw [xi_sub (by rw [nI_toInt (by omega), xi_1]; omega), nI_toInt (by omega), nI_toInt (by omega), xi_1]
      omega
    rw [if_neg (by rw [e2, z, nI_eq (by omega) (by decide)]; omega), e2, hm, pl_v e1 ho (by omega)]
    dsimp only
    generalize hs : xs_cpc (xs_u st 11 2 (nI m)) (13 + 6 * ((o + m) % 7)) 1 = s1
    have sk : ∀ k : Nat, 6 < k → s1 k = xs_u st 11 2 (nI m) k := by
      intro k hk
      rw [← hs]
      exact cp_n (by omega)
    have s5 : s1 72 5 = nI (m + 1) := by rw [sk 72 (by decide), xs_rd_k (by decide), e5]
    have hu : F_X7_undo s1 = (nI m, cpy (xs_u s1 72 5 (nI m)) 73 74 0 (111 * m) 111) := by
      unfold F_X7_undo
      rw [if_neg (by rw [s5, z, nI_eq (by omega) (by decide)]; omega), s5, hm]
      exact undo_s (by omega) xs_rd_s
    rw [hu]
    refine ⟨rfl, ?_⟩
    dsimp only
    generalize hR : cpy (xs_u s1 72 5 (nI m)) 73 74 0 (111 * m) 111 = R
    have Rk : ∀ k : Nat, k ≠ 72 → k ≠ 73 → R k = s1 k := by
      intro k a b
      rw [← hR, cpy_n b, xs_rd_k a]
    have hf : ∀ j : Nat, j < 111 → R 73 j = st 74 (111 * m + j) := by
      intro j hj
      rw [← hR, cpy_i (by omega), xs_rd_k (by decide), sk 74 (by decide), xs_rd_k (by decide), show j - 0 = j by omega]
    obtain ⟨hc, hr⟩ := hi m (by omega)
    refine ⟨?_, RO_f hf hr, ?_, ?_, ?_⟩
    · refine CR_f hf (CR_c (u := s1) (fun k a b => Rk k (by omega) (by omega)) ?_)
      rw [← hs]
      exact CR_cp (CR_c (fun k a b => xs_rd_k (by omega)) hc)
    · refine ⟨o, m, ho, by omega, ?_, ?_, ?_, fun i hin => ?_⟩
      · rw [Rk 11 (by decide) (by decide), sk 11 (by decide), xs_rd_i (by decide), e1]
      · rw [Rk 11 (by decide) (by decide), sk 11 (by decide), xs_rd_s]
      · rw [← hR, cpy_n (by decide), xs_rd_s]
      · rw [Rk 74 (by decide) (by decide), sk 74 (by decide), xs_rd_k (by decide)]
        exact ⟨CR_c (fun k a b => by rw [Rk k (by omega) (by omega), sk k (by omega), xs_rd_k (by omega)]) (hi i (by omega)).1, (hi i (by omega)).2⟩
    · exact SL_c (fun k a b => by rw [Rk k (by omega) (by omega), sk k (by omega), xs_rd_k (by omega)]) (by rw [Rk 76 (by decide) (by decide), sk 76 (by decide), xs_rd_k (by decide)]) (by rw [Rk 77 (by decide) (by decide), sk 77 (by decide), xs_rd_k (by decide)]) hS
    · have e7 : R 72 7 = st 72 7 := by rw [← hR, cpy_n (by decide), xs_rd_i (by decide), sk 72 (by decide), xs_rd_k (by decide)]
      have ek : ∀ k : Nat, 6 < k → k ≠ 11 → k ≠ 72 → k ≠ 73 → R k = st k := fun k a b c d => by rw [Rk k c d, sk k a, xs_rd_k b]
      exact PD_c (by rw [ek 70 (by decide) (by decide) (by decide) (by decide)]) (by rw [ek 70 (by decide) (by decide) (by decide) (by decide)]) (ek 71 (by decide) (by decide) (by decide) (by decide)) e7 (ek 78 (by decide) (by decide) (by decide) (by decide)) hD
/-! the slots -/
theorem slot_if {s : xs_S} {a : Int32} : F_X4_hasSlot s a = if 0 ≤ a.toInt ∧ a.toInt ≤ 1 then 1 else 0 := by
  have e2 : (2 : Int32).toInt = 2 := by decide
  unfold F_X4_hasSlot
  by_cases h0 : a < 0
  · rw [if_pos h0]
    rw [xi_lt, xi_0] at h0
    rw [if_neg (by omega)]
  · rw [if_neg h0]
    rw [xi_lt, xi_0] at h0
    by_cases h2 : 2 ≤ a
    · rw [if_pos h2]
      rw [xi_le, e2] at h2
      rw [if_neg (by omega)]
    · rw [if_neg h2]
      rw [xi_le, e2] at h2
      rw [if_pos (by omega)]
theorem nI_slot {a : Int32} (h : 0 ≤ a.toInt ∧ a.toInt ≤ 1) : ∃ m : Nat, m < 2 ∧ a = nI m := by
  obtain ⟨k, hk, e, e'⟩ := nI_dial (d := a) (by omega)
  exact ⟨k, by omega, e⟩
theorem eq_save {st : xs_S} {a : Int32} (hI : Inv st) : (F_X6_save st a).1 = (F_X7_save (F_X6_save st a).2 a).1 ∧ Inv (F_X7_save (F_X6_save st a).2 a).2 := by
  have i0 : ∀ s : xs_S, F_X7_in s a.toInt64 0 1 = if 0 ≤ a.toInt ∧ a.toInt ≤ 1 then 1 else 0 := fun s => in_if
  unfold F_X6_save
  rw [slot_if]
  by_cases h : 0 ≤ a.toInt ∧ a.toInt ≤ 1
  · rw [if_pos h, if_neg (by decide)]
    dsimp only
    have hv : ∀ s : xs_S, F_X7_save s a = lp_X7_save_15 a 112 0 s := by
      intro s
      unfold F_X7_save
      rw [i0, if_pos h, if_neg (by decide)]
    rw [hv]
    obtain ⟨m, hm, rfl⟩ := nI_slot h
    rw [save_s hm]
    obtain ⟨hC1, hR1, hH, hS, hD⟩ := hI
    generalize hs : F_X4_keepIn st (nI m) = s1
    have hs' : s1 = xs_u (xs_cpc st 1 (58 + 6 * m)) 57 m 1 := by
      rw [← hs]
      unfold F_X4_keepIn
      rw [nI_tn (by omega)]
    have sk : ∀ k : Nat, k < 57 ∨ 69 < k → s1 k = st k := by
      intro k hk
      rw [hs', xs_rd_k (by omega), cp_n (by omega)]
    dsimp only
    generalize hR : xs_u (cpy s1 76 73 (111 * m) 0 111) 77 m 1 = R
    have Rk : ∀ k : Nat, k ≠ 76 → k ≠ 77 → R k = s1 k := by
      intro k a b
      rw [← hR, xs_rd_k b, cpy_n a]
    have ek : ∀ k : Nat, k < 57 ∨ 69 < k → k ≠ 76 → k ≠ 77 → R k = st k := fun k a b c => by rw [Rk k b c, sk k a]
    refine ⟨?_, ?_, ?_, ?_, ?_, ?_⟩
    · unfold F_X1_dials
      rw [sk 1 (by decide), sk 73 (by decide)]
      exact hC1.1.2.2.2.1
    · rw [ek 73 (by decide) (by decide) (by decide)]
      exact CR_c (fun k a b => ek k (by omega) (by omega) (by omega)) hC1
    · rw [ek 73 (by decide) (by decide) (by decide)]
      exact hR1
    · exact HR_c (fun k a b => ek k (by omega) (by omega) (by omega)) (by rw [ek 72 (by decide) (by decide) (by decide)]) (ek 74 (by decide) (by decide) (by decide)) hH
    · intro z hz
      by_cases hzm : z = m
      · subst hzm
        have e57 : R 57 z = 1 := by rw [Rk 57 (by decide) (by decide), hs', xs_rd_s]
        have e77 : R 77 z = 1 := by rw [← hR, xs_rd_s]
        refine ⟨Or.inr e57, by rw [e57, e77], fun _ => ?_⟩
        have hf : ∀ j : Nat, j < 111 → R 76 (111 * z + j) = st 73 j := by
          intro j hj
          rw [← hR, xs_rd_k (by decide), cpy_i (by omega), sk 73 (by decide), show 0 + (111 * z + j - 111 * z) = j by omega]
        refine ⟨CR_f hf (CR_c (u := s1) (fun k a b => Rk k (by omega) (by omega)) ?_), RO_f hf hR1⟩
        rw [hs']
        exact CR_c (u := xs_cpc st 1 (58 + 6 * z)) (fun k a b => xs_rd_k (by omega)) (CR_cp hC1)
      · obtain ⟨a1, a2, a3⟩ := hS z hz
        have e57 : R 57 z = st 57 z := by rw [Rk 57 (by decide) (by decide), hs', xs_rd_i hzm, cp_n (by omega)]
        have e77 : R 77 z = st 77 z := by rw [← hR, xs_rd_i hzm, cpy_n (by decide), sk 77 (by decide)]
        rw [e57, e77]
        refine ⟨a1, a2, fun e => ?_⟩
        have hf : ∀ j : Nat, j < 111 → R 76 (111 * z + j) = st 76 (111 * z + j) := by
          intro j hj
          rw [← hR, xs_rd_k (by decide), cpy_o (by omega), sk 76 (by decide)]
        refine ⟨CR_f hf (CR_c (u := st) (fun k a b => ?_) (a3 e).1), RO_f hf (a3 e).2⟩
        rw [Rk k (by omega) (by omega), hs', xs_rd_k (by omega), cp_n (by omega)]
    · exact PD_c (by rw [ek 70 (by decide) (by decide) (by decide)]) (by rw [ek 70 (by decide) (by decide) (by decide)]) (ek 71 (by decide) (by decide) (by decide)) (by rw [ek 72 (by decide) (by decide) (by decide)]) (ek 78 (by decide) (by decide) (by decide)) hD
  · rw [if_neg h, if_pos rfl]
    dsimp only
    unfold F_X7_save
    rw [i0, if_neg h, if_pos rfl]
    exact ⟨rfl, hI⟩
theorem eq_restore {st : xs_S} {a : Int32} (hI : Inv st) : (F_X6_restore st a).1 = (F_X7_restore (F_X6_restore st a).2 a).1 ∧ Inv (F_X7_restore (F_X6_restore st a).2 a).2 := by
  have i0 : ∀ s : xs_S, F_X7_in s a.toInt64 0 1 = if 0 ≤ a.toInt ∧ a.toInt ≤ 1 then 1 else 0 := fun s => in_if
  unfold F_X6_restore
  rw [slot_if]
  by_cases h : 0 ≤ a.toInt ∧ a.toInt ≤ 1
  · rw [if_pos h, if_neg (by decide)]
    obtain ⟨m, hm, rfl⟩ := nI_slot h
    obtain ⟨a1, a2, a3⟩ := hI.2.2.2.1 m hm
    have hfil : F_X4_isFilled st (nI m) = st 57 m := by
      unfold F_X4_isFilled
      rw [nI_tn (by omega)]
    rw [hfil]
    by_cases hf : st 57 m = 0
    · rw [if_pos hf]
      dsimp only
      unfold F_X7_restore
      rw [i0, if_pos h, if_neg (by decide), nI_tn (by omega), a2, if_pos hf]
      exact ⟨rfl, hI⟩
    · rw [if_neg hf]
      obtain ⟨b1, b2⟩ := a3 (by rcases a1 with a1 | a1; exact absurd a1 hf; exact a1)
      have hgb : ∀ s : xs_S, F_X4_giveBack s (nI m) = xs_cpc s (58 + 6 * m) 1 := by
        intro s
        unfold F_X4_giveBack
        rw [nI_tn (by omega)]
      have hfw : ∀ w : xs_S, (∀ k : Nat, 54 < k → k ≠ 75 → w k = st k) → ∀ j : Nat, j < 111 → cpy w 73 76 0 (111 * m) 111 73 j = st 76 (111 * m + j) := by
        intro w hw j hj
        rw [cpy_i (by omega), hw 76 (by decide) (by decide), show j - 0 = j by omega]
      have hh := chg (fun s => (F_X1_dials (F_X4_giveBack s (nI m)), F_X4_giveBack s (nI m))) (fun s => (cpy s 73 76 0 (111 * m) 111 73 3, cpy s 73 76 0 (111 * m) 111)) hI (fun s k hk => by dsimp only; rw [hgb, cp_n (by omega)]) (fun s k hk => by dsimp only; rw [cpy_n (by omega)]) (fun s j hj => by dsimp only; rw [cpy_n (by decide)]) (fun u w hu hw hc hr => by
        have hc' : CR 1 (xs_cpc u (58 + 6 * m) 1) (cpy w 73 76 0 (111 * m) 111 73) := CR_f (hfw w hw) (CR_cp (CR_c (u := st) (fun k x y => hu k (by omega)) b1))
        dsimp only
        rw [hgb]
        exact ⟨hc'.1.2.2.2.1, hc', RO_f (hfw w hw) b2⟩)
      have hrst : ∀ s : xs_S, s 77 = st 77 → F_X7_restore s (nI m) = lp_X7_restore_31 (nI m) 112 0 (F_X7_remember s) := by
        intro s hs
        unfold F_X7_restore
        rw [i0, if_pos h, if_neg (by decide), nI_tn (by omega), hs, a2, if_neg hf]
      have hs77 : (F_X2_keep (F_X4_giveBack (F_X2_draft st) (nI m)) (F_X1_dials (F_X4_giveBack (F_X2_draft st) (nI m)))).2 77 = st 77 := by
        rw [keep_k (by decide), hgb, cp_n (by decide), dr_n (by decide)]
      dsimp only
      rw [hrst _ hs77, rest_s hm]
      dsimp only at hh ⊢
      exact hh
  · rw [if_neg h, if_pos rfl]
    dsimp only
    unfold F_X7_restore
    rw [i0, if_neg h, if_pos rfl]
    exact ⟨rfl, hI⟩
