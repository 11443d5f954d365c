/-! the history; changes with it -/
theorem p_reads {u w : xs_S} {d t q : Int32} (h : CR 1 u (w 73)) (hR : RowOK (w 73)) : (F_X1_takeReading u d t q).1 = (F_X7_reads w d t q).1 ∧ CR 1 (F_X1_takeReading u d t q).2 ((F_X7_reads w d t q).2 73) := by
  have hh := dial_if (d := d) h hR
  have i1 := in_if (st := w) (x := t) (a := 0) (b := 9999)
  have i2 := in_if (st := w) (x := q) (a := 0) (b := 300)
  have e9 : (9999 : Int32).toInt = 9999 := by decide
  have e3 : (300 : Int32).toInt = 300 := by decide
  rw [xi_0, e9] at i1
  rw [xi_0, e3] at i2
  unfold F_X1_takeReading F_X7_reads
  rw [hh, i1, i2]
  by_cases h1 : F_X7_isDial w d = 0
  · rw [if_pos h1, if_pos h1]
    exact ⟨rfl, h⟩
  · rw [if_neg h1, if_neg h1]
    have hin := hasDial_in (st := u) (dial := d) (by rw [hh]; exact h1)
    rw [h.1.2.2.2.1] at hin
    have hD := ro_D hR
    obtain ⟨k, hk, ed, edi⟩ := nI_dial (show 0 ≤ d.toInt ∧ d.toInt < 15 by omega)
    subst ed
    by_cases h2 : t < 0
    · rw [if_pos h2]
      rw [xi_lt, xi_0] at h2
      rw [if_neg (show ¬ (0 ≤ t.toInt ∧ t.toInt ≤ 9999) by omega), if_pos rfl]
      exact ⟨rfl, h⟩
    · rw [if_neg h2]
      rw [xi_lt, xi_0] at h2
      by_cases h3 : 9999 < t
      · rw [if_pos h3]
        rw [xi_lt, e9] at h3
        rw [if_neg (show ¬ (0 ≤ t.toInt ∧ t.toInt ≤ 9999) by omega), if_pos rfl]
        exact ⟨rfl, h⟩
      · rw [if_neg h3]
        rw [xi_lt, e9] at h3
        rw [if_pos (show (0 ≤ t.toInt ∧ t.toInt ≤ 9999) by omega), if_neg (show ¬ ((1 : Int32) = 0) by decide)]
        by_cases h4 : q < 0
        · rw [if_pos h4]
          rw [xi_lt, xi_0] at h4
          rw [if_neg (show ¬ (0 ≤ q.toInt ∧ q.toInt ≤ 300) by omega), if_pos rfl]
          exact ⟨rfl, h⟩
        · rw [if_neg h4]
          rw [xi_lt, xi_0] at h4
          by_cases h5 : q ≤ 300
          · rw [if_pos h5]
            rw [xi_le, e3] at h5
            rw [if_pos (show (0 ≤ q.toInt ∧ q.toInt ≤ 300) by omega), if_neg (show ¬ ((1 : Int32) = 0) by decide), st_if hk, hd_if hk, its_6 hk, its_0 hk, its_3 hk]
            obtain ⟨⟨g0, g6⟩, g1, g2, g3, g4, g5⟩ := h.2.1 k hk
            rw [g6, g0, nI_tn (by omega)]
            by_cases h6 : bt (u 1 5) k = true
            · rw [if_pos h6, if_neg (show ¬ ((1 : Int32) = 0) by decide), if_pos rfl]
              exact ⟨rfl, h⟩
            · rw [if_neg h6, if_pos rfl, if_neg (show ¬ ((0 : Int32) = 1) by decide)]
              have hcr := CR_rd (t := t) (q := q) hk (by omega) h
              by_cases h7 : bt (u 1 4) k = true
              · rw [if_pos h7, if_neg (show ¬ ((1 : Int32) = 0) by decide), if_pos rfl]
                refine ⟨?_, by dsimp only; rw [lays4 hk]; exact hcr⟩
                dsimp only
                unfold F_X1_ageAt
                rw [nI_tn (by omega), g3, h.1.2.2.1]
              · rw [if_neg h7, if_pos rfl, if_neg (show ¬ ((0 : Int32) = 1) by decide)]
                exact ⟨rfl, by dsimp only; rw [lays4 hk]; exact hcr⟩
          · rw [if_neg h5]
            rw [xi_le, e3] at h5
            rw [if_neg (show ¬ (0 ≤ q.toInt ∧ q.toInt ≤ 300) by omega), if_pos rfl]
            exact ⟨rfl, h⟩
theorem i7 : (7 : Int32) = nI 7 := by decide
theorem fm7_n {st : xs_S} {a : Nat} (ha : a < 1000) : F_floorMod st (nI a) 7 = nI (a % 7) := by
  apply xi_eq.mpr
  rw [fm_pos (by decide), nI_toInt (by omega), nI_toInt (by omega), show (7 : Int32).toInt = 7 by decide]
  omega
theorem pl_v {u : xs_S} {o i : Nat} (h : u 11 1 = nI o) (ho : o < 7) (hi : i < 8) : pl_at u (nI i) = (o + i) % 7 := by
  unfold pl_at
  rw [h, nI_add, fm7_n (by omega), nI_tn (by omega)]
def HR (u w : xs_S) : Prop := ∃ (o n : Nat), o < 7 ∧ n ≤ 6 ∧ u 11 1 = nI o ∧ u 11 2 = nI n ∧ w 72 5 = nI n ∧ ∀ i : Nat, i < n → CR (13 + 6 * ((o + i) % 7)) u (fun j => w 74 (111 * i + j)) ∧ RowOK (fun j => w 74 (111 * i + j))
theorem HR_c {u u' w w' : xs_S} (h1 : ∀ k : Nat, 11 ≤ k → k ≤ 54 → u' k = u k) (h2 : w' 72 5 = w 72 5) (h3 : w' 74 = w 74) (h : HR u w) : HR u' w' := by
  obtain ⟨o, n, ho, hn, e1, e2, e5, hi⟩ := h
  refine ⟨o, n, ho, hn, by rw [h1 11 (by decide) (by decide)]; exact e1, by rw [h1 11 (by decide) (by decide)]; exact e2, by rw [h2]; exact e5, fun i hin => ?_⟩
  rw [h3]
  exact ⟨CR_c (fun k a b => h1 k (by omega) (by omega)) (hi i hin).1, (hi i hin).2⟩
theorem ie_if {st : xs_S} {r : Int32} : F_X6_isError st r = if 0 ≤ r then 0 else if r = -6 then 0 else 1 := by
  unfold F_X6_isError
  by_cases h : 0 ≤ r
  · have h' : ¬ r < 0 := by rw [xi_le, xi_0] at h; rw [xi_lt, xi_0]; omega
    simp [h, h']
  · have h' : r < 0 := by rw [xi_le, xi_0] at h; rw [xi_lt, xi_0]; omega
    by_cases h6 : r = -6 <;> simp [h, h', h6]
theorem i6 : (6 : Int32) = nI 6 := by decide
/-- what is recorded, on both sides -/
theorem hist_push {u w u1 w1 : xs_S} {r : Int32} (hH : HR u w) (hC : CR 1 u (w 73)) (hR : RowOK (w 73)) (hu : ∀ k : Nat, 10 < k → u1 k = F_X2_draft u k) (hw75 : ∀ j : Nat, j < 111 → w1 75 j = w 73 j) (hw74 : w1 74 = w 74) (hw5 : w1 72 5 = w 72 5) :
    (F_X2_keep u1 r).1 = r ∧ (F_X7_record w1 r).1 = r ∧ HR (F_X2_keep u1 r).2 (F_X7_record w1 r).2 ∧ (∀ k : Nat, k ≠ 11 → (F_X2_keep u1 r).2 k = u1 k) ∧ (∀ k : Nat, k ≠ 72 → k ≠ 74 → (F_X7_record w1 r).2 k = w1 k) ∧ (∀ i : Nat, i ≠ 5 → (F_X7_record w1 r).2 72 i = w1 72 i) := by
  obtain ⟨o, n, ho, hn, e1, e2, e5, hi⟩ := hH
  have hdr : F_X2_draft u = xs_cpc u 1 (13 + 6 * ((o + n) % 7)) := by
    unfold F_X2_draft
    rw [e2, pl_v e1 ho (by omega)]
  have u11 : u1 11 = u 11 := by
    rw [hu 11 (by decide), dr_n (by decide)]
  have old : ∀ i : Nat, i < n → CR (13 + 6 * ((o + i) % 7)) u1 (fun j => w 74 (111 * i + j)) := by
    intro i hin
    refine CR_c (fun k a b => ?_) (hi i hin).1
    rw [hu k (by omega), hdr]
    exact cp_n (by omega)
  have new : CR (13 + 6 * ((o + n) % 7)) u1 (w 73) := by
    refine CR_c (u := F_X2_draft u) (fun k a b => hu k (by omega)) ?_
    rw [hdr]
    exact CR_cp hC
  by_cases he : 0 ≤ r ∨ r = -6
  · have hk : F_X2_keep u1 r = if 6 ≤ u1 11 2 then (r, xs_u u1 11 1 (F_floorMod u1 (u1 11 1 + 1) 7)) else (r, xs_u u1 11 2 (u1 11 2 + 1)) := by
      unfold F_X2_keep
      rw [ie_if, if_pos]
      rcases he with he | he
      · rw [if_pos he]
      · by_cases h0 : 0 ≤ r
        · rw [if_pos h0]
        · rw [if_neg h0, if_pos he]
    have hm : F_X7_record w1 r = if w1 72 5 = 6 then lp_X7_record_23 r 556 0 w1 else lp_X7_record_63 r 112 0 w1 := by
      unfold F_X7_record
      by_cases h0 : 0 ≤ r
      · rw [if_pos h0]
      · rw [if_neg h0]
        rcases he with he | he
        · exact absurd he h0
        · rw [if_pos he]
    rw [hk, hm, hw5, e5, u11, e1, e2]
    by_cases h6 : n = 6
    · subst h6
      rw [if_pos (by rw [i6]; exact nI_le (Nat.le_refl _) (by decide)), if_pos (by rw [i6]), rec23_s (by rw [hw5, e5]), rec63_s (m := 5) (by decide) xs_rd_s, nI_1, fm7_n (by omega)]
      refine ⟨rfl, rfl, ⟨(o + 1) % 7, 6, by omega, by decide, by dsimp only; rw [xs_rd_s], by dsimp only; rw [xs_rd_i (by decide), u11, e2], by dsimp only; rw [xs_rd_s], fun i hin => ?_⟩, fun k hk => xs_rd_k hk, fun k a b => ?_, fun i hi5 => ?_⟩
      · dsimp only
        rw [xs_rd_k (show (74 : Nat) ≠ 72 by decide)]
        by_cases h5 : i = 5
        · subst h5
          have e : 13 + 6 * (((o + 1) % 7 + 5) % 7) = 13 + 6 * ((o + 6) % 7) := by omega
          have hf : ∀ j : Nat, j < 111 → cpy (xs_u (cpy w1 74 74 0 111 555) 72 5 (nI 5)) 74 75 (111 * 5) 0 111 74 (111 * 5 + j) = w 73 j := by
            intro j hj
            rw [cpy_i (by omega), xs_rd_k (by decide), cpy_n (by decide), show 0 + (111 * 5 + j - 111 * 5) = j by omega, hw75 j hj]
          rw [e]
          exact ⟨CR_f hf (CR_c (fun k a b => xs_rd_k (by omega)) new), RO_f hf hR⟩
        · have hf : ∀ j : Nat, j < 111 → cpy (xs_u (cpy w1 74 74 0 111 555) 72 5 (nI 5)) 74 75 (111 * 5) 0 111 74 (111 * i + j) = w 74 (111 * (i + 1) + j) := by
            intro j hj
            rw [cpy_o (by omega), xs_rd_k (by decide), cpy_i (by omega), hw74]
            congr 1
            omega
          have e : 13 + 6 * (((o + 1) % 7 + i) % 7) = 13 + 6 * ((o + (i + 1)) % 7) := by omega
          rw [e]
          exact ⟨CR_f hf (CR_c (fun k a b => xs_rd_k (by omega)) (old (i + 1) (by omega))), RO_f hf (hi (i + 1) (by omega)).2⟩
      · dsimp only
        rw [xs_rd_k a, cpy_n b, xs_rd_k a, cpy_n b]
      · dsimp only
        rw [xs_rd_i hi5, cpy_n (by decide), xs_rd_i hi5, cpy_n (by decide)]
    · rw [if_neg (by rw [i6, nI_leI (by decide) (by omega)]; omega), if_neg (by rw [i6, nI_eq (by omega) (by decide)]; exact h6), rec63_s (m := n) (by omega) (by rw [hw5, e5]), nI_1]
      refine ⟨rfl, rfl, ⟨o, n + 1, ho, by omega, by dsimp only; rw [xs_rd_i (by decide), u11, e1], by dsimp only; rw [xs_rd_s], by dsimp only; rw [xs_rd_s], fun i hin => ?_⟩, fun k hk => xs_rd_k hk, fun k a b => ?_, fun i hi5 => ?_⟩
      · dsimp only
        rw [xs_rd_k (show (74 : Nat) ≠ 72 by decide)]
        by_cases h5 : i = n
        · subst h5
          have hf : ∀ j : Nat, j < 111 → cpy w1 74 75 (111 * i) 0 111 74 (111 * i + j) = w 73 j := by
            intro j hj
            rw [cpy_i (by omega), show 0 + (111 * i + j - 111 * i) = j by omega, hw75 j hj]
          exact ⟨CR_f hf (CR_c (fun k a b => xs_rd_k (by omega)) new), RO_f hf hR⟩
        · have hf : ∀ j : Nat, j < 111 → cpy w1 74 75 (111 * n) 0 111 74 (111 * i + j) = w 74 (111 * i + j) := by
            intro j hj
            rw [cpy_o (by omega), hw74]
          exact ⟨CR_f hf (CR_c (fun k a b => xs_rd_k (by omega)) (old i (by omega))), RO_f hf (hi i (by omega)).2⟩
      · dsimp only
        rw [xs_rd_k a, cpy_n b]
      · dsimp only
        rw [xs_rd_i hi5, cpy_n (by decide)]
  · have h0 : ¬ 0 ≤ r := fun h => he (Or.inl h)
    have h6 : ¬ r = -6 := fun h => he (Or.inr h)
    have hk : F_X2_keep u1 r = (r, u1) := by
      unfold F_X2_keep
      rw [ie_if, if_neg h0, if_neg h6, if_neg (by decide)]
    have hm : F_X7_record w1 r = (r, w1) := by
      unfold F_X7_record
      rw [if_neg h0, if_neg h6]
    rw [hk, hm]
    refine ⟨rfl, rfl, ⟨o, n, ho, hn, by dsimp only; rw [u11, e1], by dsimp only; rw [u11, e2], by dsimp only; rw [hw5, e5], fun i hin => ?_⟩, fun k _ => rfl, fun k _ _ => rfl, fun i _ => rfl⟩
    dsimp only
    rw [hw74]
    exact ⟨old i hin, (hi i hin).2⟩
/-! the whole relation -/
def SL (st : xs_S) : Prop := ∀ s : Nat, s < 2 → (st 57 s = 0 ∨ st 57 s = 1) ∧ st 77 s = st 57 s ∧ (st 57 s = 1 → CR (58 + 6 * s) st (fun j => st 76 (111 * s + j)) ∧ RowOK (fun j => st 76 (111 * s + j)))
def PD (st : xs_S) : Prop := st 70 1 = st 72 7 ∧ (0 ≤ (st 72 7).toInt ∧ (st 72 7).toInt ≤ 80) ∧ (∀ i : Nat, (i : Int) < (st 72 7).toInt → st 71 i = st 78 i ∧ 33 ≤ (st 71 i).toInt ∧ (st 71 i).toInt ≤ 126) ∧ KR (st 70 3)
def Inv (st : xs_S) : Prop := CR 1 st (st 73) ∧ RowOK (st 73) ∧ HR st st ∧ SL st ∧ PD st
theorem SL_c {s u : xs_S} (h1 : ∀ k : Nat, 57 ≤ k → k ≤ 69 → u k = s k) (h2 : u 76 = s 76) (h3 : u 77 = s 77) (h : SL s) : SL u := by
  intro z hz
  obtain ⟨a, b, c⟩ := h z hz
  rw [h1 57 (by decide) (by decide), h2, h3]
  exact ⟨a, b, fun e => ⟨CR_c (fun k x y => h1 k (by omega) (by omega)) (c e).1, (c e).2⟩⟩
theorem PD_c {s u : xs_S} (h0 : u 70 1 = s 70 1) (h3 : u 70 3 = s 70 3) (h1 : u 71 = s 71) (h7 : u 72 7 = s 72 7) (h8 : u 78 = s 78) (h : PD s) : PD u := by
  unfold PD
  rw [h0, h1, h7, h8, h3]
  exact h
/-- a change: the class's court changes behind a draft, the reference's row behind a remembering -/
theorem chg {st : xs_S} (C M : xs_S → Int32 × xs_S) (hI : Inv st) (hC : ∀ (s : xs_S) (k : Nat), 10 < k → (C s).2 k = s k) (hM : ∀ (s : xs_S) (k : Nat), k < 72 ∨ k = 74 ∨ k = 75 ∨ k = 76 ∨ k = 77 ∨ k = 78 → (M s).2 k = s k) (hM5 : ∀ (s : xs_S) (i : Nat), i = 5 ∨ i = 7 → (M s).2 72 i = s 72 i)
    (hP : ∀ u w : xs_S, (∀ k : Nat, 54 < k → u k = st k) → (∀ k : Nat, 54 < k → k ≠ 75 → w k = st k) → CR 1 u (w 73) → RowOK (w 73) → (C u).1 = (M w).1 ∧ CR 1 (C u).2 ((M w).2 73) ∧ RowOK ((M w).2 73)) :
    (F_X2_keep (C (F_X2_draft st)).2 (C (F_X2_draft st)).1).1 = (F_X7_record (M (F_X7_remember (F_X2_keep (C (F_X2_draft st)).2 (C (F_X2_draft st)).1).2)).2 (M (F_X7_remember (F_X2_keep (C (F_X2_draft st)).2 (C (F_X2_draft st)).1).2)).1).1 ∧ Inv (F_X7_record (M (F_X7_remember (F_X2_keep (C (F_X2_draft st)).2 (C (F_X2_draft st)).1).2)).2 (M (F_X7_remember (F_X2_keep (C (F_X2_draft st)).2 (C (F_X2_draft st)).1).2)).1).2 := by
  obtain ⟨hC1, hR1, hH, hS, hD⟩ := hI
  generalize hu1 : (C (F_X2_draft st)).2 = u1
  generalize hr : (C (F_X2_draft st)).1 = r
  generalize hs1 : (F_X2_keep u1 r).2 = s1
  have hu : ∀ k : Nat, 10 < k → u1 k = F_X2_draft st k := by
    intro k hk
    rw [← hu1]
    exact hC _ k hk
  -- the class's answer and what it left
  have k1 := hist_push (w1 := F_X7_remember st) (r := r) hH hC1 hR1 hu (by intro j hj; rw [rem_s, cpy_i (by omega)]; congr 1; omega) (by rw [re_n (by decide)]) (by rw [re_n (by decide)])
  have hs1k : ∀ k : Nat, k ≠ 11 → s1 k = u1 k := by
    intro k hk
    rw [← hs1]
    exact k1.2.2.2.1 k hk
  have hs1m : ∀ k : Nat, 54 < k → s1 k = st k := by
    intro k hk
    rw [hs1k k (by omega), hu k (by omega), dr_n (by omega)]
  -- the reference, over what the class left
  have e73 : (F_X7_remember s1) 73 = st 73 := by rw [re_n (by decide), hs1m 73 (by decide)]
  have hdc : CR 1 (F_X2_draft st) ((F_X7_remember s1) 73) := by
    rw [e73]
    exact CR_c (fun k a b => dr_n (by omega)) hC1
  have hp := hP (F_X2_draft st) (F_X7_remember s1) (fun k hk => dr_n (by omega)) (fun k hk h5 => by rw [re_n h5, hs1m k hk]) hdc (by rw [e73]; exact hR1)
  rw [hu1, hr] at hp
  generalize hw1 : (M (F_X7_remember s1)).2 = w1 at hp
  have hr2 : (M (F_X7_remember s1)).1 = r := hp.1.symm
  rw [hr2]
  have hwk : ∀ k : Nat, k < 72 ∨ k = 74 ∨ k = 76 ∨ k = 77 ∨ k = 78 → w1 k = s1 k := by
    intro k hk
    rw [← hw1, hM _ k (by omega), re_n (by omega)]
  have hw75 : ∀ j : Nat, j < 111 → w1 75 j = st 73 j := by
    intro j hj
    rw [← hw1, hM _ 75 (by omega), rem_s, cpy_i (by omega), hs1m 73 (by decide), show 0 + (j - 0) = j by omega]
  have hw5 : w1 72 5 = st 72 5 := by
    rw [← hw1, hM5 _ 5 (Or.inl rfl), re_n (by decide), hs1m 72 (by decide)]
  have hw7 : w1 72 7 = st 72 7 := by
    rw [← hw1, hM5 _ 7 (Or.inr rfl), re_n (by decide), hs1m 72 (by decide)]
  have hw74 : w1 74 = st 74 := by rw [hwk 74 (by omega), hs1m 74 (by decide)]
  have k2 := hist_push (w1 := w1) (r := r) hH hC1 hR1 hu hw75 hw74 hw5
  obtain ⟨a1, a2, a3, a4, a5, a6⟩ := k2
  refine ⟨by rw [a1, a2], ?_⟩
  have fin : ∀ k : Nat, k < 72 → (F_X7_record w1 r).2 k = s1 k := fun k hk => by rw [a5 k (by omega) (by omega), hwk k (by omega)]
  refine ⟨?_, ?_, ?_, ?_, ?_⟩
  · rw [a5 73 (by decide) (by decide)]
    exact CR_c (fun k a b => by rw [fin k (by omega), hs1k k (by omega)]) hp.2.1
  · rw [a5 73 (by decide) (by decide)]
    exact hp.2.2
  · rw [hs1] at a3
    exact HR_c (fun k a b => fin k (by omega)) rfl rfl a3
  · exact SL_c (fun k a b => by rw [fin k (by omega), hs1m k (by omega)]) (by rw [a5 76 (by decide) (by decide), hwk 76 (by omega), hs1m 76 (by decide)]) (by rw [a5 77 (by decide) (by decide), hwk 77 (by omega), hs1m 77 (by decide)]) hS
  · exact PD_c (by rw [fin 70 (by decide), hs1m 70 (by decide)]) (by rw [fin 70 (by decide), hs1m 70 (by decide)]) (by rw [fin 71 (by decide), hs1m 71 (by decide)]) (by rw [a6 7 (by decide), hw7]) (by rw [a5 78 (by decide) (by decide), hwk 78 (by omega), hs1m 78 (by decide)]) hD
theorem eq_dial {st : xs_S} (hI : Inv st) : (F_X6_dial st).1 = (F_X7_dial (F_X6_dial st).2).1 ∧ Inv (F_X7_dial (F_X6_dial st).2).2 := by
  have h := chg F_X1_addDial F_X7_comes hI (fun s k hk => ad_n (by omega)) (fun s k hk => cm_n (by omega)) (fun s i hi => by rw [cm_n (by decide)]) (fun u w _ _ h hR => ⟨(p_comes h hR).1, (p_comes h hR).2, ro_cm hR⟩)
  unfold F_X6_dial F_X7_dial
  dsimp only
  exact h
theorem eq_pass {st : xs_S} {m : Int32} (hI : Inv st) : (F_X6_pass st m).1 = (F_X7_pass (F_X6_pass st m).2 m).1 ∧ Inv (F_X7_pass (F_X6_pass st m).2 m).2 := by
  have h := chg (fun s => F_X1_letPass s m) (fun s => F_X7_waits s m) hI (fun s k hk => lpass_n (by omega)) (fun s k hk => wa_n (by omega)) (fun s i hi => by rw [wa_n (by decide)]) (fun u w _ _ h hR => ⟨(p_waits h hR).1, (p_waits h hR).2, ro_wa hR⟩)
  unfold F_X6_pass F_X7_pass
  dsimp only
  exact h
theorem eq_read {st : xs_S} {d t q : Int32} (hI : Inv st) : (F_X6_read st d t q).1 = (F_X7_read (F_X6_read st d t q).2 d t q).1 ∧ Inv (F_X7_read (F_X6_read st d t q).2 d t q).2 := by
  have h := chg (fun s => F_X1_takeReading s d t q) (fun s => F_X7_reads s d t q) hI (fun s k hk => tr_n (by omega)) (fun s k hk => rs_n (by omega)) (fun s i hi => by rw [rs_n (by decide)]) (fun u w _ _ h hR => ⟨(p_reads h hR).1, (p_reads h hR).2, ro_rs hR⟩)
  unfold F_X6_read F_X7_read
  dsimp only
  exact h
