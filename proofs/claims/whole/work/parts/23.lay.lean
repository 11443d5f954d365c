/-! the row of the reference, and what is laid out of it -/
def RowOK (f : Nat → Int32) : Prop := ((0 ≤ (f 0).toInt ∧ (f 0).toInt ≤ 60) ∧ (1 ≤ (f 1).toInt ∧ (f 1).toInt ≤ 20) ∧ (0 ≤ (f 2).toInt ∧ (f 2).toInt ≤ 99999) ∧ (0 ≤ (f 3).toInt ∧ (f 3).toInt ≤ 15)) ∧ ∀ k : Nat, k < 15 → (f (6 + 7 * k) = 0 ∨ f (6 + 7 * k) = 1) ∧ (0 ≤ (f (7 + 7 * k)).toInt ∧ (f (7 + 7 * k)).toInt ≤ 9999) ∧ (0 ≤ (f (8 + 7 * k)).toInt ∧ (f (8 + 7 * k)).toInt ≤ 300) ∧ (0 ≤ (f (9 + 7 * k)).toInt ∧ (f (9 + 7 * k)).toInt ≤ (f 2).toInt) ∧ (f (12 + 7 * k) = 0 ∨ f (12 + 7 * k) = 1)
theorem ro_D {f : Nat → Int32} (h : RowOK f) : 0 ≤ (f 3).toInt ∧ (f 3).toInt ≤ 15 := h.1.2.2.2
def rAge (f : Nat → Int32) (later : Int) (k : Nat) : Int := (f 2).toInt + later - (f (9 + 7 * k)).toInt
def rWide (f : Nat → Int32) (later : Int) (k : Nat) : Int := (f (8 + 7 * k)).toInt + (f 0).toInt * (rAge f later k / 60)
def rLo (f : Nat → Int32) (later : Int) (k : Nat) : Int := (f (7 + 7 * k)).toInt + rAge f later k - rWide f later k
def rHi (f : Nat → Int32) (later : Int) (k : Nat) : Int := (f (7 + 7 * k)).toInt + rAge f later k + rWide f later k
def rP (f : Nat → Int32) (wo : Int32) (k : Nat) : Bool := decide ((k : Int) < (f 3).toInt) && (decide (¬ nI k = wo) && (decide (¬ f (6 + 7 * k) = 0) && decide (¬ f (12 + 7 * k) = 1)))
theorem sp_w {w a : Int} (hw : 0 ≤ w ∧ w ≤ 60) (ha : 0 ≤ a ∧ a ≤ 150000) : 0 ≤ w * (a / 60) ∧ w * (a / 60) ≤ 150000 := by
  have h1 : 0 ≤ a / 60 := by omega
  refine ⟨Int.mul_nonneg hw.1 h1, ?_⟩
  have h2 : w * (a / 60) ≤ 60 * (a / 60) := Int.mul_le_mul_of_nonneg_right hw.2 h1
  omega
theorem sp_d {a : Int32} (ha : 0 ≤ a.toInt ∧ a.toInt ≤ 150000) : (a / 60).toInt = a.toInt / 60 := by
  have h60 : (60 : Int32).toInt = 60 := by decide
  have e : a.toInt.tdiv 60 = a.toInt / 60 := Int.tdiv_eq_ediv_of_nonneg ha.1
  rw [xi_div (by rw [h60, e]; omega), h60, e]
theorem sp_r {d w a : Int32} (hd : 0 ≤ d.toInt ∧ d.toInt ≤ 300) (hw : 0 ≤ w.toInt ∧ w.toInt ≤ 60) (ha : 0 ≤ a.toInt ∧ a.toInt ≤ 150000) : (d + w * (a / 60)).toInt = d.toInt + w.toInt * (a.toInt / 60) := by
  have h1 := sp_w hw ha
  have h2 := sp_d ha
  have h3 : (w * (a / 60)).toInt = w.toInt * (a.toInt / 60) := by rw [xi_mul (by rw [h2]; omega), h2]
  rw [xi_add (by rw [h3]; omega), h3]
theorem sp_lo {t d w a : Int32} (ht : 0 ≤ t.toInt ∧ t.toInt ≤ 9999) (hd : 0 ≤ d.toInt ∧ d.toInt ≤ 300) (hw : 0 ≤ w.toInt ∧ w.toInt ≤ 60) (ha : 0 ≤ a.toInt ∧ a.toInt ≤ 150000) : ((t + a) - (d + w * (a / 60))).toInt = t.toInt + a.toInt - (d.toInt + w.toInt * (a.toInt / 60)) := by
  have h1 := sp_w hw ha
  have h2 := sp_r hd hw ha
  have h3 : (t + a).toInt = t.toInt + a.toInt := xi_add (by omega)
  rw [xi_sub (by rw [h2, h3]; omega), h2, h3]
theorem sp_hi {t d w a : Int32} (ht : 0 ≤ t.toInt ∧ t.toInt ≤ 9999) (hd : 0 ≤ d.toInt ∧ d.toInt ≤ 300) (hw : 0 ≤ w.toInt ∧ w.toInt ≤ 60) (ha : 0 ≤ a.toInt ∧ a.toInt ≤ 150000) : ((t + a) + (d + w * (a / 60))).toInt = t.toInt + a.toInt + (d.toInt + w.toInt * (a.toInt / 60)) := by
  have h1 := sp_w hw ha
  have h2 := sp_r hd hw ha
  have h3 : (t + a).toInt = t.toInt + a.toInt := xi_add (by omega)
  rw [xi_add (by rw [h2, h3]; omega), h2, h3]
theorem its_g {st : xs_S} {k w' : Nat} {w : Int32} (hk : k < 15) (hw : w.toInt = (w' : Int)) (h6 : w' ≤ 6) : F_X7_its st (nI k) w = st 73 (6 + 7 * k + w') := by
  unfold F_X7_its
  have e := xm_itsv (dial := nI k) (w := w) (by rw [nI_toInt (by omega)]; omega) (by omega)
  rw [e, nI_toInt (by omega), hw]
  congr 1
theorem its_0 {st : xs_S} {k : Nat} (hk : k < 15) : F_X7_its st (nI k) 0 = st 73 (6 + 7 * k) := its_g (w' := 0) hk (by decide) (by decide)
theorem its_1 {st : xs_S} {k : Nat} (hk : k < 15) : F_X7_its st (nI k) 1 = st 73 (7 + 7 * k) := by rw [its_g (w' := 1) hk (by decide) (by decide)]; congr 1; omega
theorem its_2 {st : xs_S} {k : Nat} (hk : k < 15) : F_X7_its st (nI k) 2 = st 73 (8 + 7 * k) := by rw [its_g (w' := 2) hk (by decide) (by decide)]; congr 1; omega
theorem its_3 {st : xs_S} {k : Nat} (hk : k < 15) : F_X7_its st (nI k) 3 = st 73 (9 + 7 * k) := by rw [its_g (w' := 3) hk (by decide) (by decide)]; congr 1; omega
theorem its_4 {st : xs_S} {k : Nat} (hk : k < 15) : F_X7_its st (nI k) 4 = st 73 (10 + 7 * k) := by rw [its_g (w' := 4) hk (by decide) (by decide)]; congr 1; omega
theorem its_5 {st : xs_S} {k : Nat} (hk : k < 15) : F_X7_its st (nI k) 5 = st 73 (11 + 7 * k) := by rw [its_g (w' := 5) hk (by decide) (by decide)]; congr 1; omega
theorem its_6 {st : xs_S} {k : Nat} (hk : k < 15) : F_X7_its st (nI k) 6 = st 73 (12 + 7 * k) := by rw [its_g (w' := 6) hk (by decide) (by decide)]; congr 1; omega
/-- what is laid out, from a row, up to dial k -/
def LayI (st u : xs_S) (later : Int) (wo : Int32) (k : Nat) : Prop := (∀ j : Nat, j ≠ 72 → j ≠ 81 → j ≠ 82 → u j = st j) ∧ (∀ i : Nat, i ≠ 11 → u 72 i = st 72 i) ∧ ∀ j : Nat, j < 15 → mp u j = (decide (j < k) && rP (st 73) wo j) ∧ (mp u j = true → ml u j = rLo (st 73) later j ∧ mh u j = rHi (st 73) later j)
theorem lay_l {st : xs_S} {later wo : Int32} (hR : RowOK (st 73)) (hl : 0 ≤ later.toInt ∧ later.toInt ≤ 16000) : ∀ (n k : Nat) (s : xs_S), k + n = 16 → (k : Int) ≤ (st 73 3).toInt → LayI st s later.toInt wo k → LayI st (lp_X7_layOut_7 later wo n (nI k) s) later.toInt wo (st 73 3).toInt.toNat := by
  have hD := ro_D hR
  intro n
  induction n with
  | zero => intro k s h1 h2 hI; omega
  | succ n ih =>
    intro k s h1 h2 hI
    have e73 : s 73 = st 73 := hI.1 73 (by decide) (by decide) (by decide)
    unfold lp_X7_layOut_7
    rw [e73]
    have hcmp : st 73 3 ≤ nI k ↔ (st 73 3).toInt ≤ (k : Int) := by rw [xi_le, nI_toInt (by omega)]
    by_cases hk : st 73 3 ≤ nI k
    · rw [if_pos hk]
      have hk2 := hcmp.mp hk
      have e : (st 73 3).toInt.toNat = k := by omega
      rw [e]
      exact hI
    · rw [if_neg hk]
      have hkd : (k : Int) < (st 73 3).toInt := by
        have h3 : ¬ (st 73 3).toInt ≤ (k : Int) := fun h => hk (hcmp.mpr h)
        omega
      have hk15 : k < 15 := by omega
      rw [nI_1]
      have skip : rP (st 73) wo k = false → LayI st s later.toInt wo (k + 1) := by
        intro hp
        refine ⟨hI.1, hI.2.1, fun j hj => ?_⟩
        obtain ⟨g1, g2⟩ := hI.2.2 j hj
        refine ⟨?_, g2⟩
        rw [g1]
        by_cases hjk : j = k
        · subst hjk
          rw [hp, Bool.and_false, Bool.and_false]
        · congr 1
          exact decide_eq_decide.mpr (by omega)
      by_cases hwo : nI k = wo
      · rw [if_pos hwo]
        exact ih (k + 1) s (by omega) (by omega) (skip (by simp [rP, hwo]))
      · rw [if_neg hwo, its_0 hk15, its_6 hk15, e73]
        by_cases h0 : st 73 (6 + 7 * k) = 0
        · rw [if_pos h0]
          exact ih (k + 1) s (by omega) (by omega) (skip (by simp [rP, h0]))
        · rw [if_neg h0]
          by_cases h6 : st 73 (12 + 7 * k) = 1
          · rw [if_pos h6]
            exact ih (k + 1) s (by omega) (by omega) (skip (by simp [rP, h6]))
          · rw [if_neg h6]
            refine ih (k + 1) _ (by omega) (by omega) ?_
            have hrp : rP (st 73) wo k = true := by
              simp [rP, hwo, h0, h6]
              exact hkd
            obtain ⟨⟨hw, -, hn, -⟩, hrow⟩ := hR
            obtain ⟨-, ht, hd, hwh, -⟩ := hrow k hk15
            have hnl : (st 73 2 + later).toInt = (st 73 2).toInt + later.toInt := xi_add (by omega)
            have hag : (st 73 2 + later - st 73 (9 + 7 * k)).toInt = rAge (st 73) later.toInt k := by
              unfold rAge
              rw [xi_sub (by rw [hnl]; omega), hnl]
            have hab : 0 ≤ rAge (st 73) later.toInt k ∧ rAge (st 73) later.toInt k ≤ 150000 := by
              unfold rAge
              omega
            have elo := sp_lo (t := st 73 (7 + 7 * k)) (d := st 73 (8 + 7 * k)) (w := st 73 0) (a := st 73 2 + later - st 73 (9 + 7 * k)) ht hd hw (by rw [hag]; exact hab)
            have ehi := sp_hi (t := st 73 (7 + 7 * k)) (d := st 73 (8 + 7 * k)) (w := st 73 0) (a := st 73 2 + later - st 73 (9 + 7 * k)) ht hd hw (by rw [hag]; exact hab)
            rw [hag] at elo ehi
            simp only [its_1 hk15, its_2 hk15, its_3 hk15, nI_tn (show k < 2147483648 by omega), xs_rd_k (show (73 : Nat) ≠ 72 by decide), xs_rd_k (show (73 : Nat) ≠ 81 by decide), e73]
            refine ⟨fun j a1 a2 a3 => ?_, fun i hi => ?_, fun j hj => ?_⟩
            · rw [xs_rd_k a3, xs_rd_k a2, xs_rd_k a1]
              exact hI.1 j a1 a2 a3
            · rw [xs_rd_k (by decide), xs_rd_k (by decide), xs_rd_i hi]
              exact hI.2.1 i hi
            · obtain ⟨g1, g2⟩ := hI.2.2 j hj
              unfold mp ml mh
              rw [xs_rd_k (by decide), xs_rd_k (by decide), xs_rd_s, bt_or (by omega) (by omega)]
              by_cases hjk : j = k
              · subst hjk
                refine ⟨by rw [hrp]; simp, fun _ => ?_⟩
                rw [xs_rd_k (by decide), xs_rd_s, xs_rd_s]
                exact ⟨elo, ehi⟩
              · have e1 : decide (j = k) = false := decide_eq_false hjk
                rw [e1, Bool.or_false, xs_rd_k (by decide), xs_rd_i hjk, xs_rd_k (by decide), xs_rd_i hjk, xs_rd_k (by decide)]
                have g3 : bt (s 72 11) j = (decide (j < k) && rP (st 73) wo j) := g1
                refine ⟨?_, g2⟩
                rw [g3]
                congr 1
                exact decide_eq_decide.mpr (by omega)
theorem lay_n {st : xs_S} {later wo : Int32} : ∀ (j : Nat), j ≠ 72 → j ≠ 81 → j ≠ 82 → F_X7_layOut st later wo j = st j := by
  have key : ∀ (n : Nat) (x : Int32) (s : xs_S) (j : Nat), j ≠ 72 → j ≠ 81 → j ≠ 82 → lp_X7_layOut_7 later wo n x s j = s j := by
    intro n
    induction n with
    | zero => intro x s j a1 a2 a3; rfl
    | succ n ih =>
      intro x s j a1 a2 a3
      unfold lp_X7_layOut_7
      repeat' split
      all_goals first | with_reducible rfl | (rw [ih _ _ _ a1 a2 a3]; done) | rw [ih _ _ _ a1 a2 a3, xs_rd_k a3, xs_rd_k a2, xs_rd_k a1]
  intro j a1 a2 a3
  unfold F_X7_layOut
  rw [key _ _ _ _ a1 a2 a3, xs_rd_k a1]
/-- what is laid out -/
theorem lay_s {st : xs_S} {later wo : Int32} (hR : RowOK (st 73)) (hl : 0 ≤ later.toInt ∧ later.toInt ≤ 16000) : (∀ i : Nat, i ≠ 11 → F_X7_layOut st later wo 72 i = st 72 i) ∧ ∀ j : Nat, j < 15 → mp (F_X7_layOut st later wo) j = rP (st 73) wo j ∧ (rP (st 73) wo j = true → ml (F_X7_layOut st later wo) j = rLo (st 73) later.toInt j ∧ mh (F_X7_layOut st later wo) j = rHi (st 73) later.toInt j) := by
  have hD := ro_D hR
  have h0 : LayI st (xs_u st 72 11 0) later.toInt wo 0 := by
    refine ⟨fun j a1 a2 a3 => xs_rd_k a1, fun i hi => xs_rd_i hi, fun j hj => ?_⟩
    have e : mp (xs_u st 72 11 0) j = false := by
      unfold mp
      rw [xs_rd_s, bt_0]
    refine ⟨by rw [e]; simp, fun h => by rw [e] at h; cases h⟩
  have h1 := lay_l hR hl 16 0 _ (by omega) (by omega) h0
  rw [nI_0] at h1
  unfold F_X7_layOut
  refine ⟨h1.2.1, fun j hj => ?_⟩
  obtain ⟨g1, g2⟩ := h1.2.2 j hj
  have e : (decide (j < (st 73 3).toInt.toNat) && rP (st 73) wo j) = rP (st 73) wo j := by
    unfold rP
    by_cases h : (j : Int) < (st 73 3).toInt
    · rw [decide_eq_true (show j < (st 73 3).toInt.toNat by omega), Bool.true_and]
    · rw [decide_eq_false h]
      simp
  rw [e] at g1
  exact ⟨g1, fun h => g2 (by rw [g1]; exact h)⟩
theorem row_b {f : Nat → Int32} {later : Int} (hR : RowOK f) (hl : 0 ≤ later ∧ later ≤ 16000) {k : Nat} (hk : k < 15) : -1000000 < rLo f later k ∧ rLo f later k ≤ rHi f later k ∧ rHi f later k < 1000000 := by
  obtain ⟨⟨hw, -, hn, -⟩, hrow⟩ := hR
  obtain ⟨-, ht, hd, hwh, -⟩ := hrow k hk
  have hab : 0 ≤ rAge f later k ∧ rAge f later k ≤ 150000 := by
    unfold rAge
    omega
  have h1 := sp_w hw hab
  unfold rLo rHi rWide
  omega
theorem lay_HB {st : xs_S} {later wo : Int32} (hR : RowOK (st 73)) (hl : 0 ≤ later.toInt ∧ later.toInt ≤ 16000) : HB (F_X7_layOut st later wo) := by
  intro k hk hp
  obtain ⟨g1, g2⟩ := (lay_s (wo := wo) hR hl).2 k hk
  rw [g1] at hp
  obtain ⟨g3, g4⟩ := g2 hp
  rw [g3, g4]
  exact row_b hR hl hk
theorem lay_LF {st : xs_S} {later wo : Int32} (hR : RowOK (st 73)) (hl : 0 ≤ later.toInt ∧ later.toInt ≤ 16000) : LF (F_X7_layOut st later wo) := LF_HB (lay_HB hR hl)
