/-! bits, counts, overlaps -/
theorem bt_sh : ∀ j, j < 31 → ((nI j &&& 31 : Int32).toBitVec.smod 32).toNat = j := by decide +kernel
theorem bt_one : ∀ k, k < 31 → ∀ j, j < 31 → ((1 : Int32) <<< (nI k &&& 31)).toBitVec.getLsbD j = decide (j = k) := by decide +kernel
def bt (x : Int32) (j : Nat) : Bool := x.toBitVec.getLsbD j
theorem bt_i {x : Int32} {j : Nat} (hj : j < 31) : ((x >>> (nI j &&& 31)) &&& 1 = 1) ↔ bt x j = true := by
  have h1 := pk_and (x >>> (nI j &&& 31)) (m := 1) 1 (by decide)
  rw [h1]
  have h2 : (x >>> (nI j &&& 31)).toBitVec.toNat % 2 ^ 1 = if bt x j = true then 1 else 0 := by
    have e1 : (x >>> (nI j &&& 31)).toBitVec.getLsbD 0 = bt x j := by
      rw [Int32.toBitVec_shiftRight]
      show (x.toBitVec.sshiftRight ((nI j &&& 31 : Int32).toBitVec.smod 32).toNat).getLsbD 0 = _
      rw [bt_sh j hj, BitVec.getLsbD_sshiftRight]
      simp only [Nat.add_zero]
      rw [show decide (32 ≤ 0) = false from rfl]
      simp [bt, show j < 32 by omega]
    rw [← e1]
    have e2 : (x >>> (nI j &&& 31)).toBitVec.getLsbD 0 = decide ((x >>> (nI j &&& 31)).toBitVec.toNat % 2 = 1) := by
      simp [BitVec.getLsbD, Nat.testBit_zero]
    rw [e2]
    have e3 : (x >>> (nI j &&& 31)).toBitVec.toNat % 2 = 0 ∨ (x >>> (nI j &&& 31)).toBitVec.toNat % 2 = 1 := by omega
    generalize (x >>> (nI j &&& 31)).toBitVec.toNat = y at e3 ⊢
    rcases e3 with e3 | e3 <;> simp [e3]
  rw [h2]
  cases bt x j with
  | true => exact ⟨fun _ => rfl, fun _ => by decide⟩
  | false => exact ⟨fun h => absurd h (by decide), fun h => by cases h⟩
theorem bt_or {x : Int32} {k j : Nat} (hk : k < 31) (hj : j < 31) : bt (x ||| ((1 : Int32) <<< (nI k &&& 31))) j = (bt x j || decide (j = k)) := by
  unfold bt
  rw [Int32.toBitVec_or, BitVec.getLsbD_or, bt_one k hk j hj]
theorem bt_0 {j : Nat} : bt 0 j = false := by
  unfold bt
  rw [show (0 : Int32).toBitVec = 0#32 from rfl]
  exact BitVec.getLsbD_zero
theorem nI_tn {k : Nat} (h : k < 2147483648) : (nI k).toInt.toNat = k := by
  rw [nI_toInt (by omega)]
  rfl
/-- how many below n -/
def cn (P : Nat → Bool) : Nat → Nat
  | 0 => 0
  | n + 1 => cn P n + (if P n = true then 1 else 0)
theorem cn_le {P : Nat → Bool} : ∀ (n : Nat), cn P n ≤ n := by
  intro n
  induction n with
  | zero => exact Nat.le_refl _
  | succ n ih =>
    unfold cn
    split <;> omega
theorem cn_mono {P Q : Nat → Bool} : ∀ (n : Nat), (∀ k, k < n → P k = true → Q k = true) → cn P n ≤ cn Q n := by
  intro n
  induction n with
  | zero => intro h; exact Nat.le_refl _
  | succ n ih =>
    intro h
    have h1 := ih (fun k hk => h k (by omega))
    have h2 := h n (by omega)
    unfold cn
    by_cases hP : P n = true
    · rw [if_pos hP, if_pos (h2 hP)]
      omega
    · rw [if_neg hP]
      split <;> omega
theorem cn_lt {P Q : Nat → Bool} : ∀ (n : Nat), (∀ k, k < n → P k = true → Q k = true) → (∃ k, k < n ∧ P k = false ∧ Q k = true) → cn P n < cn Q n := by
  intro n
  induction n with
  | zero => intro h ⟨k, hk, _⟩; omega
  | succ n ih =>
    intro h ⟨k, hk, hp, hq⟩
    have hle := cn_mono n (fun k hk => h k (by omega))
    unfold cn
    by_cases hkn : k = n
    · subst hkn
      rw [if_neg (by rw [hp]; decide), if_pos hq]
      omega
    · have h1 := ih (fun k hk => h k (by omega)) ⟨k, by omega, hp, hq⟩
      have h2 := h n (by omega)
      by_cases hP : P n = true
      · rw [if_pos hP, if_pos (h2 hP)]
        omega
      · rw [if_neg hP]
        split <;> omega
theorem cn_ext {P Q : Nat → Bool} : ∀ (n : Nat), (∀ k, k < n → P k = Q k) → cn P n = cn Q n := by
  intro n
  induction n with
  | zero => intro h; rfl
  | succ n ih =>
    intro h
    unfold cn
    rw [ih (fun k hk => h k (by omega)), h n (by omega)]
theorem cn_ex {P : Nat → Bool} : ∀ (n : Nat), 1 ≤ cn P n → ∃ k, k < n ∧ P k = true := by
  intro n
  induction n with
  | zero =>
    intro h
    have h1 : 1 ≤ 0 := h
    omega
  | succ n ih =>
    intro h
    unfold cn at h
    by_cases hP : P n = true
    · exact ⟨n, by omega, hP⟩
    · rw [if_neg hP] at h
      obtain ⟨k, hk, h1⟩ := ih h
      exact ⟨k, by omega, h1⟩
theorem cn_pos {P : Nat → Bool} {k : Nat} : ∀ (n : Nat), k < n → P k = true → 1 ≤ cn P n := by
  intro n
  induction n with
  | zero => intro h; omega
  | succ n ih =>
    intro h hp
    unfold cn
    by_cases hkn : k = n
    · subst hkn
      rw [if_pos hp]
      omega
    · have h1 := ih (by omega) hp
      omega
/-- whether span k has a time; how many have it -/
def hb (p : Nat → Bool) (lo hi : Nat → Int) (t : Int) (k : Nat) : Bool := p k && (decide (lo k ≤ t) && decide (t ≤ hi k))
theorem hb_iff {p : Nat → Bool} {lo hi : Nat → Int} {t : Int} {k : Nat} : hb p lo hi t k = true ↔ p k = true ∧ lo k ≤ t ∧ t ≤ hi k := by
  unfold hb
  simp
def ov (p : Nat → Bool) (lo hi : Nat → Int) (t : Int) : Nat := cn (hb p lo hi t) 15
theorem ov_le {p : Nat → Bool} {lo hi : Nat → Int} {t : Int} : ov p lo hi t ≤ 15 := cn_le 15
/-! the reference's spans -/
def mp (st : xs_S) (k : Nat) : Bool := bt (st 72 11) k
def ml (st : xs_S) (k : Nat) : Int := (st 81 k).toInt
def mh (st : xs_S) (k : Nat) : Int := (st 82 k).toInt
def mov (st : xs_S) (t : Int) : Nat := ov (mp st) (ml st) (mh st) t
theorem m_has {st : xs_S} {k : Nat} {t : Int32} (hk : k < 15) : F_X7_has st (nI k) t = if hb (mp st) (ml st) (mh st) t.toInt k = true then 1 else 0 := by
  unfold F_X7_has
  rw [nI_tn (by omega)]
  by_cases h1 : ((st 72 11 >>> (nI k &&& 31)) &&& 1) = 1
  · rw [if_pos h1]
    have hp : mp st k = true := (bt_i (by omega)).mp h1
    by_cases h2 : t < st 81 k
    · rw [if_pos h2, if_neg]
      intro h
      have h3 := (hb_iff.mp h).2.1
      rw [xi_lt] at h2
      unfold ml at h3
      omega
    · rw [if_neg h2]
      by_cases h3 : st 82 k < t
      · rw [if_pos h3, if_neg]
        intro h
        have h4 := (hb_iff.mp h).2.2
        rw [xi_lt] at h3
        unfold mh at h4
        omega
      · rw [if_neg h3, if_pos]
        rw [xi_lt] at h2 h3
        exact hb_iff.mpr ⟨hp, by unfold ml; omega, by unfold mh; omega⟩
  · rw [if_neg h1, if_neg]
    intro h
    exact h1 ((bt_i (by omega)).mpr (hb_iff.mp h).1)
theorem i15 : (15 : Int32) = nI 15 := by decide
theorem i30 : (30 : Int32) = nI 30 := by decide
theorem nI_z (a : Nat) : nI a + 0 = nI a := by
  have h := nI_add a 0
  rw [nI_0] at h
  exact h
theorem m_ovl {st : xs_S} {t : Int32} : ∀ (n k : Nat), k + n = 16 → k ≤ 15 → lp_X7_overlapAt_4 st t n (nI (cn (hb (mp st) (ml st) (mh st) t.toInt) k)) (nI k) = nI (mov st t.toInt) := by
  intro n
  induction n with
  | zero => intro k h1 h2; omega
  | succ n ih =>
    intro k h1 h2
    unfold lp_X7_overlapAt_4
    by_cases hk : k = 15
    · subst hk
      rw [if_pos (by rw [i15]; exact nI_le (Nat.le_refl _) (by decide))]
      rfl
    · rw [if_neg (by rw [i15, nI_leI (by decide) (by omega)]; omega), m_has (by omega), nI_1, nI_z, nI_1]
      by_cases hP : hb (mp st) (ml st) (mh st) t.toInt k = true
      · rw [if_pos hP, if_neg (by decide)]
        have e := ih (k + 1) (by omega) (by omega)
        rw [show cn (hb (mp st) (ml st) (mh st) t.toInt) (k + 1) = cn (hb (mp st) (ml st) (mh st) t.toInt) k + 1 from by rw [cn, if_pos hP]] at e
        exact e
      · rw [if_neg hP, if_pos rfl]
        have e := ih (k + 1) (by omega) (by omega)
        rw [show cn (hb (mp st) (ml st) (mh st) t.toInt) (k + 1) = cn (hb (mp st) (ml st) (mh st) t.toInt) k from by rw [cn, if_neg hP, Nat.add_zero]] at e
        exact e
theorem m_ov {st : xs_S} {t : Int32} : F_X7_overlapAt st t = nI (mov st t.toInt) := by
  unfold F_X7_overlapAt
  have h := m_ovl (st := st) (t := t) 16 0 (by omega) (by omega)
  rw [show cn (hb (mp st) (ml st) (mh st) t.toInt) 0 = 0 from rfl, nI_0] at h
  exact h
theorem m_ovi {st : xs_S} {t : Int32} : (F_X7_overlapAt st t).toInt = (mov st t.toInt : Int) := by
  rw [m_ov, nI_toInt]
  have h := ov_le (p := mp st) (lo := ml st) (hi := mh st) (t := t.toInt)
  unfold mov
  omega
theorem m_hil {st : xs_S} {t : Int32} (h : ∃ i, i < 15 ∧ hb (mp st) (ml st) (mh st) t.toInt i = true) : ∀ (n k : Nat) (x2 x3 : Int32), k + n = 16 → k ≤ 15 → ((x3 = 1 ∧ ∀ j, j < k → ¬ hb (mp st) (ml st) (mh st) t.toInt j = true) ∨ (x3 = 0 ∧ ∃ j, j < k ∧ hb (mp st) (ml st) (mh st) t.toInt j = true ∧ x2.toInt = mh st j ∧ ∀ i, i < k → hb (mp st) (ml st) (mh st) t.toInt i = true → mh st j ≤ mh st i)) → ∃ j, j < 15 ∧ hb (mp st) (ml st) (mh st) t.toInt j = true ∧ (lp_X7_high_8 st t n x2 x3 (nI k)).toInt = mh st j ∧ ∀ i, i < 15 → hb (mp st) (ml st) (mh st) t.toInt i = true → mh st j ≤ mh st i := by
  intro n
  induction n with
  | zero => intro k x2 x3 h1 h2; omega
  | succ n ih =>
    intro k x2 x3 h1 h2 hI
    unfold lp_X7_high_8
    by_cases hk : k = 15
    · subst hk
      rw [if_pos (by rw [i15]; exact nI_le (Nat.le_refl _) (by decide))]
      rcases hI with ⟨h3, h4⟩ | ⟨h3, j, h4, h5, h6, h7⟩
      · obtain ⟨i, h5, h6⟩ := h
        exact absurd h6 (h4 i h5)
      · rw [if_pos h3]
        exact ⟨j, h4, h5, h6, h7⟩
    · rw [if_neg (by rw [i15, nI_leI (by decide) (by omega)]; omega), m_has (by omega), nI_1, nI_tn (by omega)]
      by_cases hP : hb (mp st) (ml st) (mh st) t.toInt k = true
      · rw [if_pos hP, if_neg (by decide)]
        have take : ∀ (hmin : ∀ i, i < k → hb (mp st) (ml st) (mh st) t.toInt i = true → mh st k ≤ mh st i), ∃ j, j < k + 1 ∧ hb (mp st) (ml st) (mh st) t.toInt j = true ∧ (st 82 k).toInt = mh st j ∧ ∀ i, i < k + 1 → hb (mp st) (ml st) (mh st) t.toInt i = true → mh st j ≤ mh st i := by
          intro hmin
          refine ⟨k, by omega, hP, rfl, fun i hi hb2 => ?_⟩
          by_cases hik : i = k
          · subst hik; exact Int.le_refl _
          · exact hmin i (by omega) hb2
        rcases hI with ⟨h3, h4⟩ | ⟨h3, j, h4, h5, h6, h7⟩
        · rw [if_neg (by rw [h3]; decide)]
          exact ih (k + 1) _ _ (by omega) (by omega) (Or.inr ⟨rfl, take (fun i hi hb2 => absurd hb2 (h4 i hi))⟩)
        · rw [if_pos h3]
          by_cases hle : x2 ≤ st 82 k
          · rw [if_pos hle]
            rw [xi_le] at hle
            refine ih (k + 1) _ _ (by omega) (by omega) (Or.inr ⟨h3, j, by omega, h5, h6, fun i hi hb2 => ?_⟩)
            by_cases hik : i = k
            · subst hik; unfold mh at h6 ⊢; omega
            · exact h7 i (by omega) hb2
          · rw [if_neg hle]
            rw [xi_le] at hle
            refine ih (k + 1) _ _ (by omega) (by omega) (Or.inr ⟨rfl, take (fun i hi hb2 => ?_)⟩)
            have h8 := h7 i hi hb2
            unfold mh at h6 h8 ⊢
            omega
      · rw [if_neg hP, if_pos rfl]
        refine ih (k + 1) _ _ (by omega) (by omega) ?_
        rcases hI with ⟨h3, h4⟩ | ⟨h3, j, h4, h5, h6, h7⟩
        · refine Or.inl ⟨h3, fun j hj => ?_⟩
          by_cases hjk : j = k
          · subst hjk; exact hP
          · exact h4 j (by omega)
        · refine Or.inr ⟨h3, j, by omega, h5, h6, fun i hi hb2 => ?_⟩
          by_cases hik : i = k
          · subst hik; exact absurd hb2 hP
          · exact h7 i (by omega) hb2
theorem m_high {st : xs_S} {t : Int32} (h : ∃ i, i < 15 ∧ hb (mp st) (ml st) (mh st) t.toInt i = true) : ∃ j, j < 15 ∧ hb (mp st) (ml st) (mh st) t.toInt j = true ∧ (F_X7_high st t).toInt = mh st j ∧ ∀ i, i < 15 → hb (mp st) (ml st) (mh st) t.toInt i = true → mh st j ≤ mh st i := by
  unfold F_X7_high
  have h1 := m_hil h 16 0 (-6) 1 (by omega) (by omega) (Or.inl ⟨rfl, fun j hj => by omega⟩)
  rw [nI_0] at h1
  exact h1
/-- spans are within bounds -/
def HB (st : xs_S) : Prop := ∀ k, k < 15 → mp st k = true → -1000000 < ml st k ∧ ml st k ≤ mh st k ∧ mh st k < 1000000
def LF (st : xs_S) : Prop := ∀ (m t : Int32), 1 ≤ m.toInt → m.toInt ≤ (F_X7_overlapAt st t).toInt → lf_t st m 17 t 1
theorem lf_key {st : xs_S} {m tm : Int32} (hB : HB st) (hm : 1 ≤ m.toInt) : ∀ (n : Nat) (e : Int32), m.toInt ≤ (mov st e.toInt : Int) → cn (fun k => mp st k && decide (e.toInt ≤ mh st k)) 15 + 1 < n → lf_t st m n e 1 ∧ e.toInt ≤ (lp_X7_lastFrom_5 st tm m n e 1).toInt ∧ (lp_X7_lastFrom_5 st tm m n e 1).toInt < 1000000 ∧ (∀ t : Int, e.toInt ≤ t → t ≤ (lp_X7_lastFrom_5 st tm m n e 1).toInt → m.toInt ≤ (mov st t : Int)) ∧ (mov st ((lp_X7_lastFrom_5 st tm m n e 1).toInt + 1) : Int) < m.toInt := by
  intro n
  induction n with
  | zero => intro e h1 h2; omega
  | succ n ih =>
    intro e h1 h2
    have hov1 : 1 ≤ mov st e.toInt := by omega
    obtain ⟨i0, hi0, hh0⟩ := cn_ex (P := hb (mp st) (ml st) (mh st) e.toInt) 15 hov1
    obtain ⟨j, hj, hhj, hnx, hmin⟩ := m_high ⟨i0, hi0, hh0⟩
    have hbj := hb_iff.mp hhj
    have hBj := hB j hj hbj.1
    have hn1 : (F_X7_high st e + 1).toInt = (F_X7_high st e).toInt + 1 := xi_inc (by omega)
    have hc1 : 1 ≤ cn (fun k => mp st k && decide (e.toInt ≤ mh st k)) 15 := cn_pos 15 hj (by simp [hbj.1, hbj.2.2])
    have hov : ∀ t : Int, e.toInt ≤ t → t ≤ (F_X7_high st e).toInt → m.toInt ≤ (mov st t : Int) := by
      intro t ht1 ht2
      have h4 : mov st e.toInt ≤ mov st t := by
        refine cn_mono 15 (fun k hk hp => ?_)
        have h5 := hb_iff.mp hp
        have h6 := hmin k hk hp
        exact hb_iff.mpr ⟨h5.1, by omega, by omega⟩
      omega
    have hle : e.toInt ≤ (F_X7_high st e).toInt := by omega
    have hcond : F_X7_overlapAt st (F_X7_high st e + 1) < m ↔ (mov st ((F_X7_high st e).toInt + 1) : Int) < m.toInt := by
      rw [xi_lt, m_ovi, hn1]
    unfold lp_X7_lastFrom_5
    rw [if_neg (by decide)]
    by_cases hc : F_X7_overlapAt st (F_X7_high st e + 1) < m
    · rw [if_pos hc]
      cases n with
      | zero => omega
      | succ n' =>
        have e1 : lp_X7_lastFrom_5 st tm m (n' + 1) (F_X7_high st e) 0 = F_X7_high st e := by
          unfold lp_X7_lastFrom_5
          rw [if_pos rfl]
        rw [e1]
        exact ⟨Or.inr ⟨fun _ => Or.inl rfl, fun h => absurd hc h⟩, hle, by omega, hov, hcond.mp hc⟩
    · rw [if_neg hc]
      have h9 : ¬ (mov st ((F_X7_high st e).toInt + 1) : Int) < m.toInt := fun h => hc (hcond.mpr h)
      have h3 := ih (F_X7_high st e + 1) (by rw [hn1]; omega) (by
        have h4 : cn (fun k => mp st k && decide ((F_X7_high st e + 1).toInt ≤ mh st k)) 15 < cn (fun k => mp st k && decide (e.toInt ≤ mh st k)) 15 := by
          refine cn_lt 15 (fun k hk hp => ?_) ⟨j, hj, ?_, ?_⟩
          · simp only [Bool.and_eq_true, decide_eq_true_eq] at hp ⊢
            rw [hn1] at hp
            exact ⟨hp.1, by omega⟩
          · rw [hn1]
            simp [hbj.1]
            omega
          · simp [hbj.1, hbj.2.2]
        omega)
      obtain ⟨g1, g2, g3, g4, g5⟩ := h3
      refine ⟨Or.inr ⟨fun h => absurd h hc, fun _ => g1⟩, by rw [hn1] at g2; omega, g3, fun t ht1 ht2 => ?_, g5⟩
      by_cases ht : t ≤ (F_X7_high st e).toInt
      · exact hov t ht1 ht
      · exact g4 t (by rw [hn1]; omega) ht2
theorem LF_HB {st : xs_S} (h : HB st) : LF st := by
  intro m t hm hle
  rw [m_ovi] at hle
  have h1 := cn_le (P := fun k => mp st k && decide (t.toInt ≤ mh st k)) 15
  exact (lf_key (tm := t) h hm 17 t hle (by omega)).1
theorem m_last {st : xs_S} {t m : Int32} (h : HB st) (hm : 1 ≤ m.toInt) (hle : m.toInt ≤ (mov st t.toInt : Int)) : t.toInt ≤ (F_X7_lastFrom st t m).toInt ∧ (F_X7_lastFrom st t m).toInt < 1000000 ∧ (∀ z : Int, t.toInt ≤ z → z ≤ (F_X7_lastFrom st t m).toInt → m.toInt ≤ (mov st z : Int)) ∧ (mov st ((F_X7_lastFrom st t m).toInt + 1) : Int) < m.toInt := by
  have h1 := cn_le (P := fun k => mp st k && decide (t.toInt ≤ mh st k)) 15
  exact (lf_key (tm := t) h hm 17 t hle (by omega)).2
