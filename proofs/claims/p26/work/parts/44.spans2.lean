/-! the class's gathered spans, as a fold over the dials -/
def GA (u : xs_S) (P : Nat → Bool) (lo hi : Nat → Int) : Prop := u 7 3 = nI (cn P 15) ∧ ∀ k : Nat, k < 15 → P k = true → (u 8 (cn P k)).toInt = lo k ∧ (u 9 (cn P k)).toInt = hi k ∧ u 10 (cn P k) = nI k
def BD (P : Nat → Bool) (lo hi : Nat → Int) : Prop := ∀ k : Nat, k < 15 → P k = true → -1000000 < lo k ∧ lo k ≤ hi k ∧ hi k < 1000000
theorem cn_up {P : Nat → Bool} {k : Nat} (h : P k = true) : cn P (k + 1) = cn P k + 1 := by
  rw [cn, if_pos h]
theorem cn_no {P : Nat → Bool} {k : Nat} (h : P k = false) : cn P (k + 1) = cn P k := by
  rw [cn, if_neg (by rw [h]; decide), Nat.add_zero]
theorem cn_st {P : Nat → Bool} {k : Nat} : ∀ m : Nat, cn P k ≤ cn P (k + m) := by
  intro m
  induction m with
  | zero => exact Nat.le_refl _
  | succ m ih =>
    have h : cn P (k + (m + 1)) = cn P (k + m) + (if P (k + m) = true then 1 else 0) := rfl
    omega
theorem cn_s15 {P : Nat → Bool} {k : Nat} (h : k ≤ 15) : cn P k ≤ cn P 15 := by
  have h1 := cn_st (P := P) (k := k) (15 - k)
  rw [show k + (15 - k) = 15 by omega] at h1
  exact h1
theorem cn_b {P : Nat → Bool} {k : Nat} (h : k ≤ 15) : cn P k ≤ 15 := by
  have h1 := cn_s15 (P := P) h
  have h2 := cn_le (P := P) 15
  omega
theorem gfold {α β : Type} {P : Nat → Bool} (L : Nat → α → Int32 → β) (fin : α → β) (step : α → Nat → α) (I : Nat → α → Prop) (hend : ∀ (n : Nat) (a : α), L (n + 1) a (nI (cn P 15)) = fin a) (hstep : ∀ (n : Nat) (a : α) (k : Nat), k < 15 → P k = true → cn P k < cn P 15 → L (n + 1) a (nI (cn P k)) = L n (step a k) (nI (cn P k + 1))) (hI : ∀ (a : α) (k : Nat), k < 15 → P k = true → I k a → I (k + 1) (step a k)) (hS : ∀ (a : α) (k : Nat), k < 15 → P k = false → I k a → I (k + 1) a) : ∀ (m k n : Nat) (a : α), k + m = 15 → cn P 15 - cn P k < n → I k a → ∃ a' : α, L n a (nI (cn P k)) = fin a' ∧ I 15 a' := by
  intro m
  induction m with
  | zero =>
    intro k n a h1 h2 h3
    obtain rfl : k = 15 := by omega
    obtain ⟨n', rfl⟩ : ∃ n', n = n' + 1 := ⟨n - 1, by omega⟩
    exact ⟨a, hend n' a, h3⟩
  | succ m ih =>
    intro k n a h1 h2 h3
    by_cases hp : P k = true
    · have hu := cn_up hp
      have hc := cn_s15 (P := P) (k := k + 1) (by omega)
      obtain ⟨n', rfl⟩ : ∃ n', n = n' + 1 := ⟨n - 1, by omega⟩
      obtain ⟨a', e, h⟩ := ih (k + 1) n' (step a k) (by omega) (by omega) (hI a k (by omega) hp h3)
      refine ⟨a', ?_, h⟩
      rw [hstep n' a k (by omega) hp (by omega), ← hu]
      exact e
    · have hp' : P k = false := by simpa using hp
      have hu := cn_no hp'
      obtain ⟨a', e, h⟩ := ih (k + 1) n a (by omega) (by omega) (hS a k (by omega) hp' h3)
      refine ⟨a', ?_, h⟩
      rw [← hu]
      exact e
theorem g_ge {u : xs_S} {P : Nat → Bool} {lo hi : Nat → Int} (h : GA u P lo hi) : u 7 3 ≤ nI (cn P 15) := by
  rw [h.1]
  exact nI_le (Nat.le_refl _) (by have := cn_b (P := P) (k := 15) (by decide); omega)
theorem g_lt {u : xs_S} {P : Nat → Bool} {lo hi : Nat → Int} {k : Nat} (h : GA u P lo hi) (hk : k < 15) (hc : cn P k < cn P 15) : ¬ u 7 3 ≤ nI (cn P k) := by
  rw [h.1]
  have h1 := cn_b (P := P) (k := 15) (by decide)
  have h2 := cn_b (P := P) (k := k) (by omega)
  rw [nI_leI (by omega) (by omega)]
  omega
theorem g_tn {P : Nat → Bool} {k : Nat} (hk : k ≤ 15) : (nI (cn P k)).toInt.toNat = cn P k := by
  have h2 := cn_b (P := P) (k := k) hk
  exact nI_tn (by omega)
theorem g_has {u : xs_S} {P : Nat → Bool} {lo hi : Nat → Int} {k : Nat} {t : Int32} (h : GA u P lo hi) (hk : k < 15) (hp : P k = true) : F_X5_has u (nI (cn P k)) t = if hb P lo hi t.toInt k = true then 1 else 0 := by
  obtain ⟨e1, e2, -⟩ := h.2 k hk hp
  unfold F_X5_has
  rw [g_tn (by omega)]
  by_cases h2 : t < u 8 (cn P k)
  · rw [if_pos h2, if_neg]
    intro hh
    have h3 := (hb_iff.mp hh).2.1
    rw [xi_lt] at h2
    omega
  · rw [if_neg h2]
    by_cases h3 : u 9 (cn P k) < t
    · rw [if_pos h3, if_neg]
      intro hh
      have h4 := (hb_iff.mp hh).2.2
      rw [xi_lt] at h3
      omega
    · rw [if_neg h3, if_pos]
      rw [xi_lt] at h2 h3
      exact hb_iff.mpr ⟨hp, by omega, by omega⟩
theorem hb_no {P : Nat → Bool} {lo hi : Nat → Int} {t : Int} {k : Nat} (h : P k = false) : hb P lo hi t k = false := by
  unfold hb
  rw [h, Bool.false_and]
theorem cn_z {P : Nat → Bool} : nI (cn P 0) = 0 := nI_0
theorem gfold0 {α β : Type} {P : Nat → Bool} {a0 : α} (L : Nat → α → Int32 → β) (fin : α → β) (step : α → Nat → α) (I : Nat → α → Prop) (h0 : I 0 a0) (hend : ∀ (n : Nat) (a : α), L (n + 1) a (nI (cn P 15)) = fin a) (hstep : ∀ (n : Nat) (a : α) (k : Nat), k < 15 → P k = true → cn P k < cn P 15 → L (n + 1) a (nI (cn P k)) = L n (step a k) (nI (cn P k + 1))) (hI : ∀ (a : α) (k : Nat), k < 15 → P k = true → I k a → I (k + 1) (step a k)) (hS : ∀ (a : α) (k : Nat), k < 15 → P k = false → I k a → I (k + 1) a) : ∃ a' : α, L 16 a0 0 = fin a' ∧ I 15 a' := by
  have h := gfold L fin step I hend hstep hI hS 15 0 16 a0 (by decide) (by have := cn_b (P := P) (k := 15) (by decide); omega) h0
  rw [cn_z] at h
  exact h
theorem g_many {u : xs_S} {P : Nat → Bool} {lo hi : Nat → Int} {t : Int32} (h : GA u P lo hi) : F_X5_howManyAt u t = nI (ov P lo hi t.toInt) := by
  obtain ⟨a', e, hI⟩ := gfold0 (P := P) (a0 := (0 : Int32)) (fun n a x => lp_X5_howManyAt_4 u t n a x) (fun a => a) (fun a k => if hb P lo hi t.toInt k = true then a + 1 else a) (fun k a => a = nI (cn (hb P lo hi t.toInt) k)) nI_0.symm
    (fun n a => by
      rw [lp_X5_howManyAt_4, if_pos (g_ge h)])
    (fun n a k hk hp hc => by
      rw [lp_X5_howManyAt_4, if_neg (g_lt h hk hc), g_has h hk hp, nI_1]
      by_cases hh : hb P lo hi t.toInt k = true
      · rw [if_pos hh, if_neg (by decide), if_pos hh]
      · rw [if_neg hh, if_pos rfl, if_neg hh])
    (fun a k hk hp hI => by
      by_cases hh : hb P lo hi t.toInt k = true
      · rw [if_pos hh, cn_up hh, hI, nI_1]
      · rw [if_neg hh, cn_no (by simpa using hh), hI])
    (fun a k hk hp hI => by rw [cn_no (hb_no hp), hI])
  unfold F_X5_howManyAt
  exact e.trans hI
theorem ov_i {P : Nat → Bool} {lo hi : Nat → Int} {t : Int} : (nI (ov P lo hi t)).toInt = (ov P lo hi t : Int) := by
  have h := ov_le (p := P) (lo := lo) (hi := hi) (t := t)
  exact nI_toInt (by omega)
/-- a mask -/
def mk (Q : Nat → Bool) : Nat → Int32
  | 0 => 0
  | k + 1 => if Q k = true then mk Q k ||| ((1 : Int32) <<< (nI k &&& 31)) else mk Q k
theorem mk_up {Q : Nat → Bool} {k : Nat} (h : Q k = true) : mk Q (k + 1) = mk Q k ||| ((1 : Int32) <<< (nI k &&& 31)) := by
  rw [mk, if_pos h]
theorem mk_no {Q : Nat → Bool} {k : Nat} (h : Q k = false) : mk Q (k + 1) = mk Q k := by
  rw [mk, if_neg (by rw [h]; decide)]
theorem mk_ext {Q R : Nat → Bool} : ∀ (n : Nat), (∀ k, k < n → Q k = R k) → mk Q n = mk R n := by
  intro n
  induction n with
  | zero => intro h; rfl
  | succ n ih =>
    intro h
    rw [mk, mk, ih (fun k hk => h k (by omega)), h n (by omega)]
theorem g_dials {u : xs_S} {P : Nat → Bool} {lo hi : Nat → Int} {t : Int32} (h : GA u P lo hi) : F_X5_dialsAt u t = mk (hb P lo hi t.toInt) 15 := by
  obtain ⟨a', e, hI⟩ := gfold0 (P := P) (a0 := (0 : Int32)) (fun n a x => lp_X5_dialsAt_4 u t n a x) (fun a => a) (fun a k => if hb P lo hi t.toInt k = true then a ||| ((1 : Int32) <<< (nI k &&& 31)) else a) (fun k a => a = mk (hb P lo hi t.toInt) k) rfl
    (fun n a => by
      rw [lp_X5_dialsAt_4, if_pos (g_ge h)])
    (fun n a k hk hp hc => by
      rw [lp_X5_dialsAt_4, if_neg (g_lt h hk hc), g_has h hk hp, g_tn (by omega), (h.2 k hk hp).2.2, nI_1]
      by_cases hh : hb P lo hi t.toInt k = true
      · rw [if_pos hh, if_neg (by decide), if_pos hh]
      · rw [if_neg hh, if_pos rfl, if_neg hh])
    (fun a k hk hp hI => by
      by_cases hh : hb P lo hi t.toInt k = true
      · rw [if_pos hh, mk_up hh, hI]
      · rw [if_neg hh, mk_no (by simpa using hh), hI])
    (fun a k hk hp hI => by rw [mk_no (hb_no hp), hI])
  unfold F_X5_dialsAt
  exact e.trans hI
/-- the greatest overlap at a low end below dial k -/
def Mo (P : Nat → Bool) (lo hi : Nat → Int) (k : Nat) (a : Int) : Prop := 0 ≤ a ∧ (∀ j : Nat, j < k → P j = true → (ov P lo hi (lo j) : Int) ≤ a) ∧ (a = 0 ∨ ∃ j : Nat, j < k ∧ P j = true ∧ a = (ov P lo hi (lo j) : Int))
theorem Mo_no {P : Nat → Bool} {lo hi : Nat → Int} {k : Nat} {a : Int} (hp : P k = false) (h : Mo P lo hi k a) : Mo P lo hi (k + 1) a := by
  obtain ⟨h0, h1, h2⟩ := h
  refine ⟨h0, fun j hj hpj => ?_, ?_⟩
  · by_cases hjk : j = k
    · subst hjk; rw [hp] at hpj; exact absurd hpj (by decide)
    · exact h1 j (by omega) hpj
  · rcases h2 with h2 | ⟨j, hj, hpj, e⟩
    · exact Or.inl h2
    · exact Or.inr ⟨j, by omega, hpj, e⟩
theorem Mo_up {P : Nat → Bool} {lo hi : Nat → Int} {k : Nat} {a b : Int} (hp : P k = true) (h : Mo P lo hi k a) (hb1 : a < (ov P lo hi (lo k) : Int) → b = (ov P lo hi (lo k) : Int)) (hb2 : ¬ a < (ov P lo hi (lo k) : Int) → b = a) : Mo P lo hi (k + 1) b := by
  obtain ⟨h0, h1, h2⟩ := h
  by_cases hlt : a < (ov P lo hi (lo k) : Int)
  · have e := hb1 hlt
    refine ⟨by omega, fun j hj hpj => ?_, Or.inr ⟨k, by omega, hp, e⟩⟩
    by_cases hjk : j = k
    · subst hjk; omega
    · have := h1 j (by omega) hpj
      omega
  · have e := hb2 hlt
    subst e
    refine ⟨h0, fun j hj hpj => ?_, ?_⟩
    · by_cases hjk : j = k
      · subst hjk; omega
      · exact h1 j (by omega) hpj
    · rcases h2 with h2 | ⟨j, hj, hpj, e⟩
      · exact Or.inl h2
      · exact Or.inr ⟨j, by omega, hpj, e⟩
theorem Mo_u {P : Nat → Bool} {lo hi : Nat → Int} {a b : Int} (ha : Mo P lo hi 15 a) (hb : Mo P lo hi 15 b) : a = b := by
  obtain ⟨a0, a1, a2⟩ := ha
  obtain ⟨b0, b1, b2⟩ := hb
  have h1 : a ≤ b := by
    rcases a2 with a2 | ⟨j, hj, hp, e⟩
    · omega
    · have := b1 j hj hp; omega
  have h2 : b ≤ a := by
    rcases b2 with b2 | ⟨j, hj, hp, e⟩
    · omega
    · have := a1 j hj hp; omega
  omega
theorem g_most {u : xs_S} {P : Nat → Bool} {lo hi : Nat → Int} (h : GA u P lo hi) : Mo P lo hi 15 (F_X5_most u).toInt := by
  have hm : ∀ k : Nat, k < 15 → P k = true → F_X5_howManyAt u (u 8 (cn P k)) = nI (ov P lo hi (lo k)) := by
    intro k hk hp
    rw [g_many h, (h.2 k hk hp).1]
  obtain ⟨a', e, hI⟩ := gfold0 (P := P) (a0 := (0 : Int32)) (fun n a x => lp_X5_most_4 u n a x) (fun a => a) (fun a k => if a < nI (ov P lo hi (lo k)) then nI (ov P lo hi (lo k)) else a) (fun k a => Mo P lo hi k a.toInt) ⟨by decide, fun j hj => by omega, Or.inl (by decide)⟩
    (fun n a => by
      rw [lp_X5_most_4, if_pos (g_ge h)])
    (fun n a k hk hp hc => by
      rw [lp_X5_most_4, if_neg (g_lt h hk hc), g_tn (by omega), hm k hk hp, nI_1])
    (fun a k hk hp hI => by
      refine Mo_up hp hI (fun hlt => ?_) (fun hlt => ?_)
      · rw [if_pos (by rw [xi_lt, ov_i]; exact hlt), ov_i]
      · rw [if_neg (by rw [xi_lt, ov_i]; exact hlt)])
    (fun a k hk hp hI => Mo_no hp hI)
  unfold F_X5_most
  rw [show lp_X5_most_4 u 16 0 0 = a' from e]
  exact hI
/-- the least of the values of the dials below k that are wanted -/
def Le (W : Nat → Prop) (val : Nat → Int) (k : Nat) (a : Int) : Prop := (a = 1000000 ∨ ∃ j : Nat, j < k ∧ W j ∧ a = val j) ∧ ∀ j : Nat, j < k → W j → a ≤ val j
theorem Le_no {W : Nat → Prop} {val : Nat → Int} {k : Nat} {a : Int} (h : Le W val k a) (hw : W k → a ≤ val k) : Le W val (k + 1) a := by
  obtain ⟨h1, h2⟩ := h
  refine ⟨?_, fun j hj hwj => ?_⟩
  · rcases h1 with h1 | ⟨j, hj, x⟩
    · exact Or.inl h1
    · exact Or.inr ⟨j, by omega, x⟩
  · by_cases hjk : j = k
    · subst hjk; exact hw hwj
    · exact h2 j (by omega) hwj
theorem Le_up {W : Nat → Prop} {val : Nat → Int} {k : Nat} {a : Int} (h : Le W val k a) (hw : W k) (ha : val k ≤ a) : Le W val (k + 1) (val k) := by
  obtain ⟨h1, h2⟩ := h
  refine ⟨Or.inr ⟨k, by omega, hw, rfl⟩, fun j hj hwj => ?_⟩
  by_cases hjk : j = k
  · subst hjk; exact Int.le_refl _
  · have := h2 j (by omega) hwj
    omega
theorem g_first {u : xs_S} {P : Nat → Bool} {lo hi : Nat → Int} {m : Int32} (h : GA u P lo hi) : Le (fun j => P j = true ∧ m.toInt ≤ (ov P lo hi (lo j) : Int)) lo 15 (F_X5_firstTimeOf u m).toInt := by
  have hm : ∀ k : Nat, k < 15 → P k = true → F_X5_howManyAt u (u 8 (cn P k)) = nI (ov P lo hi (lo k)) := by
    intro k hk hp
    rw [g_many h, (h.2 k hk hp).1]
  obtain ⟨a', e, hI⟩ := gfold0 (P := P) (a0 := (1000000 : Int32)) (fun n a x => lp_X5_firstTimeOf_5 u m n a x) (fun a => a) (fun a k => if a ≤ u 8 (cn P k) then a else if nI (ov P lo hi (lo k)) < m then a else u 8 (cn P k)) (fun k a => Le (fun j => P j = true ∧ m.toInt ≤ (ov P lo hi (lo j) : Int)) lo k a.toInt) ⟨Or.inl (by decide), fun j hj => by omega⟩
    (fun n a => by
      rw [lp_X5_firstTimeOf_5, if_pos (g_ge h)])
    (fun n a k hk hp hc => by
      rw [lp_X5_firstTimeOf_5, if_neg (g_lt h hk hc), g_tn (by omega), hm k hk hp, nI_1]
      by_cases h1 : a ≤ u 8 (cn P k)
      · rw [if_pos h1, if_pos h1]
      · rw [if_neg h1, if_neg h1]
        by_cases h2 : nI (ov P lo hi (lo k)) < m
        · rw [if_pos h2, if_pos h2]
        · rw [if_neg h2, if_neg h2])
    (fun a k hk hp hI => by
      have e1 := (h.2 k hk hp).1
      by_cases h1 : a ≤ u 8 (cn P k)
      · rw [if_pos h1]
        rw [xi_le, e1] at h1
        exact Le_no hI (fun _ => h1)
      · rw [if_neg h1]
        rw [xi_le, e1] at h1
        by_cases h2 : nI (ov P lo hi (lo k)) < m
        · rw [if_pos h2]
          rw [xi_lt, ov_i] at h2
          exact Le_no hI (fun hw => by have := hw.2; omega)
        · rw [if_neg h2]
          rw [xi_lt, ov_i] at h2
          rw [e1]
          exact Le_up hI ⟨hp, by omega⟩ (by omega))
    (fun a k hk hp hI => Le_no hI (fun hw => by rw [hp] at hw; exact absurd hw.1 (by decide)))
  unfold F_X5_firstTimeOf
  rw [show lp_X5_firstTimeOf_5 u m 16 1000000 0 = a' from e]
  exact hI
theorem g_last {u : xs_S} {P : Nat → Bool} {lo hi : Nat → Int} {m f : Int32} (h : GA u P lo hi) (hB : BD P lo hi) : Le (fun j => P j = true ∧ f.toInt ≤ hi j ∧ (ov P lo hi (hi j + 1) : Int) < m.toInt) hi 15 (F_X5_lastTimeOf u m f).toInt := by
  have hm : ∀ k : Nat, k < 15 → P k = true → F_X5_howManyAt u (u 9 (cn P k) + 1) = nI (ov P lo hi (hi k + 1)) := by
    intro k hk hp
    have e2 := (h.2 k hk hp).2.1
    have hb := hB k hk hp
    rw [g_many h, xi_inc (by omega), e2]
  obtain ⟨a', e, hI⟩ := gfold0 (P := P) (a0 := (1000000 : Int32)) (fun n a x => lp_X5_lastTimeOf_6 u m f n a x) (fun a => a) (fun a k => if u 9 (cn P k) < f then a else if a ≤ u 9 (cn P k) then a else if m ≤ nI (ov P lo hi (hi k + 1)) then a else u 9 (cn P k)) (fun k a => Le (fun j => P j = true ∧ f.toInt ≤ hi j ∧ (ov P lo hi (hi j + 1) : Int) < m.toInt) hi k a.toInt) ⟨Or.inl (by decide), fun j hj => by omega⟩
    (fun n a => by
      rw [lp_X5_lastTimeOf_6, if_pos (g_ge h)])
    (fun n a k hk hp hc => by
      rw [lp_X5_lastTimeOf_6, if_neg (g_lt h hk hc), g_tn (by omega), hm k hk hp, nI_1]
      by_cases h0 : u 9 (cn P k) < f
      · rw [if_pos h0, if_pos h0]
      · rw [if_neg h0, if_neg h0]
        by_cases h1 : a ≤ u 9 (cn P k)
        · rw [if_pos h1, if_pos h1]
        · rw [if_neg h1, if_neg h1]
          by_cases h2 : m ≤ nI (ov P lo hi (hi k + 1))
          · rw [if_pos h2, if_pos h2]
          · rw [if_neg h2, if_neg h2])
    (fun a k hk hp hI => by
      have e1 := (h.2 k hk hp).2.1
      by_cases h0 : u 9 (cn P k) < f
      · rw [if_pos h0]
        rw [xi_lt, e1] at h0
        exact Le_no hI (fun hw => by have := hw.2.1; omega)
      · rw [if_neg h0]
        rw [xi_lt, e1] at h0
        by_cases h1 : a ≤ u 9 (cn P k)
        · rw [if_pos h1]
          rw [xi_le, e1] at h1
          exact Le_no hI (fun _ => h1)
        · rw [if_neg h1]
          rw [xi_le, e1] at h1
          by_cases h2 : m ≤ nI (ov P lo hi (hi k + 1))
          · rw [if_pos h2]
            rw [xi_le, ov_i] at h2
            exact Le_no hI (fun hw => by have := hw.2.2; omega)
          · rw [if_neg h2]
            rw [xi_le, ov_i] at h2
            rw [e1]
            exact Le_up hI ⟨hp, by omega, by omega⟩ (by omega))
    (fun a k hk hp hI => Le_no hI (fun hw => by rw [hp] at hw; exact absurd hw.1 (by decide)))
  unfold F_X5_lastTimeOf
  rw [show lp_X5_lastTimeOf_6 u m f 16 1000000 0 = a' from e]
  exact hI
