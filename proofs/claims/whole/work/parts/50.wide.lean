/-! counts -/
theorem lay_hi {st : xs_S} {later wo : Int32} {j : Nat} (hj : 15 ≤ j ∧ j < 32) (hD : 0 ≤ (st 73 3).toInt ∧ (st 73 3).toInt ≤ 15) : bt (F_X7_layOut st later wo 72 11) j = false := by
  have key : ∀ (n k : Nat) (s : xs_S), k + n = 16 → k ≤ 15 → s 73 = st 73 → bt (s 72 11) j = false → bt (lp_X7_layOut_7 later wo n (nI k) s 72 11) j = false := by
    intro n
    induction n with
    | zero => intro k s h1 h2; omega
    | succ n ih =>
      intro k s h1 h2 e hb
      rw [lp_X7_layOut_7, e]
      have hcmp : st 73 3 ≤ nI k ↔ (st 73 3).toInt ≤ (k : Int) := by rw [xi_le, nI_toInt (by omega)]
      by_cases hk : st 73 3 ≤ nI k
      · rw [if_pos hk]; exact hb
      · rw [if_neg hk]
        have hk15 : k < 15 := by
          have h3 : ¬ (st 73 3).toInt ≤ (k : Int) := fun h => hk (hcmp.mpr h)
          omega
        rw [nI_1]
        by_cases a1 : nI k = wo
        · rw [if_pos a1]; exact ih (k + 1) s (by omega) (by omega) e hb
        · rw [if_neg a1]
          by_cases a2 : F_X7_its s (nI k) 0 = 0
          · rw [if_pos a2]; exact ih (k + 1) s (by omega) (by omega) e hb
          · rw [if_neg a2]
            by_cases a3 : F_X7_its s (nI k) 6 = 1
            · rw [if_pos a3]; exact ih (k + 1) s (by omega) (by omega) e hb
            · rw [if_neg a3]
              refine ih (k + 1) _ (by omega) (by omega) ?_ ?_
              · rw [xs_rd_k (by decide), xs_rd_k (by decide), xs_rd_k (by decide)]; exact e
              · rw [xs_rd_k (by decide), xs_rd_k (by decide), xs_rd_s, bt_or32 hk15 hj.2, hb, decide_eq_false (show ¬ j = k by omega)]
                rfl
  unfold F_X7_layOut
  have h := key 16 0 (xs_u st 72 11 0) (by decide) (by decide) (xs_rd_k (by decide)) (by rw [xs_rd_s, bt_0])
  rw [nI_0] at h
  exact h
theorem sh0 : ∀ k, k < 15 → (0 : Int32) <<< (nI k &&& 31) = 0 := by decide +kernel
theorem m_struck {w s : xs_S} (hC : CR 1 s (w 73)) (hD : 0 ≤ (w 73 3).toInt ∧ (w 73 3).toInt ≤ 15) : F_X7_struck w = s 1 5 := by
  have key : ∀ (n k : Nat), k + n = 16 → (k : Int) ≤ (w 73 3).toInt → lp_X7_struck_4 w n (mk (bt (s 1 5)) k) (nI k) = mk (bt (s 1 5)) (w 73 3).toInt.toNat := by
    intro n
    induction n with
    | zero => intro k h1 h2; omega
    | succ n ih =>
      intro k h1 h2
      rw [lp_X7_struck_4]
      have hcmp : w 73 3 ≤ nI k ↔ (w 73 3).toInt ≤ (k : Int) := by rw [xi_le, nI_toInt (by omega)]
      by_cases hk : w 73 3 ≤ nI k
      · rw [if_pos hk]
        have h3 := hcmp.mp hk
        rw [show (w 73 3).toInt.toNat = k by omega]
      · rw [if_neg hk]
        have hkd : (k : Int) < (w 73 3).toInt := by
          have h3 : ¬ (w 73 3).toInt ≤ (k : Int) := fun h => hk (hcmp.mpr h)
          omega
        have hk15 : k < 15 := by omega
        rw [its_6 hk15, (hC.2.1 k hk15).1.2, nI_1]
        by_cases hb : bt (s 1 5) k = true
        · rw [if_pos hb, ← mk_up hb]
          exact ih (k + 1) (by omega) (by omega)
        · have hb' : bt (s 1 5) k = false := by simpa using hb
          rw [if_neg hb, sh0 k hk15, Int32.or_zero, ← mk_no hb']
          exact ih (k + 1) (by omega) (by omega)
  have h := key 16 0 (by decide) (by omega)
  rw [nI_0, show mk (bt (s 1 5)) 0 = 0 from rfl] at h
  unfold F_X7_struck
  rw [h]
  refine i32_ext (fun j hj => ?_)
  rw [bt_mk hj _ (by omega)]
  by_cases hb : bt (s 1 5) j = true
  · have h3 := hC.2.2.1 j hj (hC.2.2.2 j hj hb)
    rw [hb, decide_eq_true (show j < (w 73 3).toInt.toNat by omega)]; rfl
  · have hb' : bt (s 1 5) j = false := by simpa using hb
    rw [hb', Bool.and_false]
theorem m_mask {st : xs_S} (hI : Inv st) : F_X7_layOut st 0 (-6) 72 11 = F_X1_dialsWithSpans st := by
  have hM := q_m (w := st) hI.2.1 rfl
  have hD := ro_D hI.2.1
  refine i32_ext (fun j hj => ?_)
  unfold F_X1_dialsWithSpans
  rw [bt_an hj]
  by_cases h15 : j < 15
  · have h := (hM j h15).1
    rw [rP_cr hI.1 h15] at h
    have hn1 : ¬ nI j = -1 := by
      intro h
      rw [xi_eq, nI_toInt (by omega), show (-1 : Int32).toInt = -1 by decide] at h
      omega
    rw [decide_eq_true hn1, Bool.true_and] at h
    exact h
  · rw [lay_hi (by omega) hD]
    by_cases hb : bt (st 1 4) j = true
    · have h3 := hI.1.2.2.1 j hj hb
      omega
    · have hb' : bt (st 1 4) j = false := by simpa using hb
      rw [hb', Bool.false_and]
theorem eq_count {st : xs_S} {a : Int32} (hI : Inv st) : F_X6_count st a = (F_X7_count st a).1 ∧ Inv (F_X7_count st a).2 := by
  have hI3 := Inv_lay (l := -6) h00 hI
  have e73 : F_X7_layOut st 0 (-6) 73 = st 73 := lay_n _ (by decide) (by decide) (by decide)
  have hs := m_struck (w := F_X7_layOut st 0 (-6)) (s := st) (by rw [e73]; exact hI.1) (by rw [e73]; exact ro_D hI.2.1)
  have hm := m_mask hI
  have e7 : F_X7_layOut st 0 (-6) 72 7 = st 70 1 := by
    rw [(lay_s hI.2.1 h00).1 7 (by decide)]
    exact hI.2.2.2.2.1.symm
  have e5 : F_X7_layOut st 0 (-6) 72 5 = st 11 2 := by
    rw [(lay_s hI.2.1 h00).1 5 (by decide)]
    obtain ⟨o, n, ho, hn, h1, h2, h5, -⟩ := hI.2.2.1
    rw [h5, h2]
  obtain ⟨⟨c0, c1, c2, c3, c6, c7⟩, -⟩ := hI.1
  have a8 : a = 8 ↔ a.toInt = 8 := by rw [xi_eq, show (8 : Int32).toInt = 8 by decide]
  have a9 : a = 9 ↔ a.toInt = 9 := by rw [xi_eq, show (9 : Int32).toInt = 9 by decide]
  have d6 : a.toInt = 6 → (a - 6).toInt.toNat = 0 := fun h => by
    rw [xi_sub (by rw [show (6 : Int32).toInt = 6 by decide]; omega), show (6 : Int32).toInt = 6 by decide]; omega
  have d7 : a.toInt = 7 → (a - 6).toInt.toNat = 1 := fun h => by
    rw [xi_sub (by rw [show (6 : Int32).toInt = 6 by decide]; omega), show (6 : Int32).toInt = 6 by decide]; omega
  generalize hL : F_X7_layOut st 0 (-6) = L at *
  unfold F_X6_count F_X7_count F_X3_length F_X2_size F_X1_number
  rw [hL, hs, hm, e73, e7, e5, c0, c1, c2, c3, c6, c7]
  by_cases b0 : a.toInt = 0
  · rw [if_neg (show ¬ a = 8 by rw [a8]; omega), if_neg (show ¬ a = 9 by rw [a9]; omega), if_pos b0, if_pos b0]; exact ⟨rfl, hI3⟩
  rw [if_neg b0, if_neg b0]
  by_cases b1 : a.toInt = 1
  · rw [if_neg (show ¬ a = 8 by rw [a8]; omega), if_neg (show ¬ a = 9 by rw [a9]; omega), if_pos b1, if_pos b1]; exact ⟨rfl, hI3⟩
  rw [if_neg b1, if_neg b1]
  by_cases b2 : a.toInt = 2
  · rw [if_neg (show ¬ a = 8 by rw [a8]; omega), if_neg (show ¬ a = 9 by rw [a9]; omega), if_pos b2, if_pos b2]; exact ⟨rfl, hI3⟩
  rw [if_neg b2, if_neg b2]
  by_cases b3 : a.toInt = 3
  · rw [if_neg (show ¬ a = 8 by rw [a8]; omega), if_neg (show ¬ a = 9 by rw [a9]; omega), if_pos b3, if_pos b3]; exact ⟨rfl, hI3⟩
  rw [if_neg b3, if_neg b3]
  by_cases b4 : a.toInt = 4
  · rw [if_neg (show ¬ a = 8 by rw [a8]; omega), if_neg (show ¬ a = 9 by rw [a9]; omega), if_pos b4, if_pos b4]; exact ⟨rfl, hI3⟩
  rw [if_neg b4, if_neg b4]
  by_cases b5 : a.toInt = 5
  · rw [if_neg (show ¬ a = 8 by rw [a8]; omega), if_neg (show ¬ a = 9 by rw [a9]; omega), if_pos b5, if_pos b5]
    by_cases z : st 73 4 = 0
    · rw [if_pos z, if_pos z]; exact ⟨rfl, hI3⟩
    · rw [if_neg z, if_neg z]; exact ⟨rfl, hI3⟩
  rw [if_neg b5, if_neg b5]
  by_cases b6 : a.toInt = 6
  · rw [if_neg (show ¬ a = 8 by rw [a8]; omega), if_neg (show ¬ a = 9 by rw [a9]; omega), if_pos b6, if_pos b6, d6 b6]; exact ⟨rfl, hI3⟩
  rw [if_neg b6, if_neg b6]
  by_cases b7 : a.toInt = 7
  · rw [if_neg (show ¬ a = 8 by rw [a8]; omega), if_neg (show ¬ a = 9 by rw [a9]; omega), if_pos b7, if_pos b7, d7 b7]; exact ⟨rfl, hI3⟩
  rw [if_neg b7, if_neg b7]
  by_cases b8 : a.toInt = 8
  · rw [if_pos (a8.mpr b8), if_pos b8]; exact ⟨rfl, hI3⟩
  rw [if_neg b8, if_neg (show ¬ a = 8 by rw [a8]; exact b8)]
  by_cases b9 : a.toInt = 9
  · rw [if_pos (a9.mpr b9), if_pos b9]; exact ⟨rfl, hI3⟩
  rw [if_neg b9, if_neg (show ¬ a = 9 by rw [a9]; exact b9)]
  exact ⟨rfl, hI3⟩
/-! wider and wider -/
theorem mx_lo {Q : Nat → Bool} {lo : Nat → Int} : ∀ n : Nat, (∃ k, k < n ∧ Q k = true) → ∃ j, j < n ∧ Q j = true ∧ ∀ i, i < n → Q i = true → lo i ≤ lo j := by
  intro n
  induction n with
  | zero => intro ⟨k, hk, _⟩; omega
  | succ n ih =>
    intro h
    by_cases hex : ∃ k, k < n ∧ Q k = true
    · obtain ⟨j, hj, hq, hm⟩ := ih hex
      by_cases hn : Q n = true ∧ lo j < lo n
      · refine ⟨n, by omega, hn.1, fun i hi hqi => ?_⟩
        by_cases hin : i = n
        · subst hin; exact Int.le_refl _
        · have := hm i (by omega) hqi
          omega
      · refine ⟨j, by omega, hq, fun i hi hqi => ?_⟩
        by_cases hin : i = n
        · subst hin
          have : ¬ lo j < lo i := fun h => hn ⟨hqi, h⟩
          omega
        · exact hm i (by omega) hqi
    · obtain ⟨k, hk, hq⟩ := h
      have hkn : k = n := by
        apply Classical.byContradiction
        intro hne
        exact hex ⟨k, by omega, hq⟩
      subst hkn
      refine ⟨k, by omega, hq, fun i hi hqi => ?_⟩
      by_cases hin : i = k
      · subst hin; exact Int.le_refl _
      · exact absurd ⟨i, by omega, hqi⟩ hex
theorem Mo_t {P : Nat → Bool} {lo hi : Nat → Int} {a : Int} (h : Mo P lo hi 15 a) (t : Int) : (ov P lo hi t : Int) ≤ a := by
  by_cases h0 : 1 ≤ ov P lo hi t
  · obtain ⟨j, hj, hq, hm⟩ := mx_lo (Q := hb P lo hi t) (lo := lo) 15 (cn_ex 15 h0)
    have hbj := hb_iff.mp hq
    have h1 := h.2.1 j hj hbj.1
    have h2 : ov P lo hi t ≤ ov P lo hi (lo j) := by
      refine cn_mono 15 (fun k hk hp => ?_)
      have h3 := hb_iff.mp hp
      exact hb_iff.mpr ⟨h3.1, hm k hk hp, by omega⟩
    omega
  · have := h.1
    omega
theorem r_up {f : Nat → Int32} {l : Int} {k : Nat} : rLo f (l + 60) k = rLo f l k + 60 - (f 0).toInt ∧ rHi f (l + 60) k = rHi f l k + 60 + (f 0).toInt := by
  have h1 : rAge f (l + 60) k = rAge f l k + 60 := by
    unfold rAge
    omega
  have h2 : (rAge f l k + 60) / 60 = rAge f l k / 60 + 1 := by omega
  unfold rLo rHi rWide
  rw [h1, h2, Int.mul_add, Int.mul_one]
  constructor <;> omega
/-- the greatest overlap after h hours -/
def MH (f : Nat → Int32) (h : Nat) (a : Int) : Prop := Mo (rP f (-1)) (rLo f (60 * (h : Int))) (rHi f (60 * (h : Int))) 15 a
theorem MH_up {f : Nat → Int32} (hR : RowOK f) {h : Nat} {a b : Int} (ha : MH f h a) (hb : MH f (h + 1) b) : a ≤ b := by
  unfold MH at ha hb
  rw [show 60 * ((h + 1 : Nat) : Int) = 60 * (h : Int) + 60 by omega] at hb
  have hw := hR.1.1
  rcases ha.2.2 with h0 | ⟨j, hj, hp, e⟩
  · have := hb.1
    omega
  · have h1 := Mo_t hb (rLo f (60 * (h : Int)) j + 60)
    have h2 : ov (rP f (-1)) (rLo f (60 * (h : Int))) (rHi f (60 * (h : Int))) (rLo f (60 * (h : Int)) j) ≤ ov (rP f (-1)) (rLo f (60 * (h : Int) + 60)) (rHi f (60 * (h : Int) + 60)) (rLo f (60 * (h : Int)) j + 60) := by
      refine cn_mono 15 (fun k hk hp2 => ?_)
      have h3 := hb_iff.mp hp2
      have h4 := r_up (f := f) (l := 60 * (h : Int)) (k := k)
      exact hb_iff.mpr ⟨h3.1, by rw [h4.1]; omega, by rw [h4.2]; omega⟩
    omega
/-- the greatest overlap after h hours, in the class and in the reference -/
theorem c_MH {s : xs_S} {f : Nat → Int32} {time : Int32} {h : Nat} (hC : CR 1 s f) (hR : RowOK f) (hh : h ≤ 255) (ht : time.toInt = (f 2).toInt + 60 * (h : Int)) : MH f h (F_X5_most (F_X5_gather s time (-1))).toInt := g_most (g_ga hC hR ht (by omega))
theorem m_MH {v : xs_S} {f : Nat → Int32} {h : Nat} (e : v 73 = f) (hR : RowOK f) (hh : h ≤ 255) : SK (F_X7_seek (F_X7_layOut v (60 * nI h) (-6))) (rP f (-1)) (rLo f (60 * (h : Int))) (rHi f (60 * (h : Int))) ∧ (60 * nI h).toInt = 60 * (h : Int) := by
  have e60 : (60 : Int32).toInt = 60 := by decide
  have ei : (60 * nI h).toInt = 60 * (h : Int) := by
    rw [xi_mul (by rw [e60, nI_toInt (by omega)]; omega), e60, nI_toInt (by omega)]
  subst e
  have hM := m_lay6 (w := v) (later := 60 * nI h) hR (by rw [ei]; omega)
  rw [ei] at hM
  exact ⟨m_seek hM, ei⟩
theorem nI_half : ∀ p, p < 256 → nI p / 2 = nI (p / 2) := by decide +kernel
theorem ht_l {f : Nat → Int32} {many : Int32} (hR : RowOK f) : ∀ (i a : Nat) (s : xs_S), i ≤ 7 → a + 2 * 2 ^ i - 1 ≤ 255 → Inv s → s 73 = f → (∀ h : Nat, h < a → ∀ b : Int, MH f h b → b < many.toInt) → (a + 2 * 2 ^ i - 1 = 255 ∨ ∀ b : Int, MH f (a + 2 * 2 ^ i - 1) b → many.toInt ≤ b) → ∃ H : Nat, H ≤ 255 ∧ (lp_X6_hoursTooEarly_6 many (i + 2) (nI a) (nI (2 ^ i)) s).1 = nI H ∧ (∀ h : Nat, h < H → ∀ b : Int, MH f h b → b < many.toInt) ∧ (H = 255 ∨ ∀ b : Int, MH f H b → many.toInt ≤ b) ∧ Inv (lp_X6_hoursTooEarly_6 many (i + 2) (nI a) (nI (2 ^ i)) s).2 ∧ (lp_X6_hoursTooEarly_6 many (i + 2) (nI a) (nI (2 ^ i)) s).2 73 = f := by
  intro i
  have e60 : (60 : Int32).toInt = 60 := by decide
  have tm : ∀ (s : xs_S) (a p : Nat), a + p ≤ 256 → 1 ≤ p → Inv s → s 73 = f → (F_X1_now s + (nI a + nI p - 1) * 60).toInt = (f 2).toInt + 60 * ((a + p - 1 : Nat) : Int) := by
    intro s a p h1 h2 hI e
    have hN := hR.1.2.2.1
    have e2 : s 1 2 = f 2 := by rw [hI.1.1.2.2.1, e]
    unfold F_X1_now
    have q1 : (nI a + nI p - 1).toInt = ((a + p - 1 : Nat) : Int) := by
      rw [nI_add, xi_sub (by rw [nI_toInt (by omega), xi_1]; omega), nI_toInt (by omega), xi_1]
      omega
    have q2 : ((nI a + nI p - 1) * 60).toInt = 60 * ((a + p - 1 : Nat) : Int) := by
      rw [xi_mul (by rw [q1, e60]; omega), q1, e60]
      omega
    rw [xi_add (by rw [q2, e2]; omega), q2, e2]
  induction i with
  | zero =>
    intro a s hi ha hI e hlt hB
    simp only [Nat.pow_zero] at ha hB ⊢
    have hC : CR 1 s f := by have := hI.1; rw [e] at this; exact this
    have hm := c_MH hC hR (h := a + 1 - 1) (by omega) (tm s a 1 (by omega) (by decide) hI e)
    have fin : ∀ (x : Int32) (t : xs_S), lp_X6_hoursTooEarly_6 many 1 x (nI 1 / 2) t = (x, t) := by
      intro x t
      rw [lp_X6_hoursTooEarly_6, if_pos (by decide)]
    rw [show (0 : Nat) + 2 = 1 + 1 from rfl, lp_X6_hoursTooEarly_6, if_neg (show ¬ nI 1 ≤ 0 by decide)]
    have hI2 : Inv (F_X5_gather s (F_X1_now s + (nI a + nI 1 - 1) * 60) (-1)) := Inv_ga hI
    have e2 : F_X5_gather s (F_X1_now s + (nI a + nI 1 - 1) * 60) (-1) 73 = f := by rw [ga_n (by decide)]; exact e
    generalize hg : F_X5_gather s (F_X1_now s + (nI a + nI 1 - 1) * 60) (-1) = g at *
    by_cases c : many ≤ F_X5_most g
    · rw [if_pos c, fin]
      rw [xi_le] at c
      refine ⟨a, by omega, rfl, hlt, Or.inr (fun b hb => ?_), hI2, e2⟩
      rw [show a + 1 - 1 = a by omega] at hm
      have := Mo_u hm hb
      omega
    · rw [if_neg c, fin, nI_add]
      rw [xi_le] at c
      refine ⟨a + 1, by omega, rfl, fun h hh b hb => ?_, ?_, hI2, e2⟩
      · by_cases hha : h = a
        · subst hha
          rw [show h + 1 - 1 = h by omega] at hm
          have := Mo_u hm hb
          omega
        · exact hlt h (by omega) b hb
      · rw [show a + 2 * 1 - 1 = a + 1 by omega] at hB
        exact hB
  | succ i ih =>
    intro a s hi ha hI e hlt hB
    have hpw : 2 ^ (i + 1) = 2 * 2 ^ i := by rw [Nat.pow_succ]; omega
    have hpos : 1 ≤ 2 ^ i := Nat.one_le_two_pow
    have hcap : 2 ^ i ≤ 64 := by
      have := Nat.pow_le_pow_right (n := 2) (by decide) (show i ≤ 6 by omega)
      omega
    have hhalf : nI (2 ^ (i + 1)) / 2 = nI (2 ^ i) := by
      rw [nI_half _ (by omega), hpw]
      congr 1
      omega
    have hC : CR 1 s f := by have := hI.1; rw [e] at this; exact this
    have hm := c_MH hC hR (h := a + 2 ^ (i + 1) - 1) (by omega) (tm s a (2 ^ (i + 1)) (by omega) (by omega) hI e)
    rw [show i + 1 + 2 = (i + 2) + 1 from rfl, lp_X6_hoursTooEarly_6, if_neg (show ¬ nI (2 ^ (i + 1)) ≤ 0 by rw [xi_le, nI_toInt (by omega), xi_0]; omega), hhalf]
    have hI2 : Inv (F_X5_gather s (F_X1_now s + (nI a + nI (2 ^ (i + 1)) - 1) * 60) (-1)) := Inv_ga hI
    have e2 : F_X5_gather s (F_X1_now s + (nI a + nI (2 ^ (i + 1)) - 1) * 60) (-1) 73 = f := by rw [ga_n (by decide)]; exact e
    generalize hg : F_X5_gather s (F_X1_now s + (nI a + nI (2 ^ (i + 1)) - 1) * 60) (-1) = g at *
    by_cases c : many ≤ F_X5_most g
    · rw [if_pos c]
      rw [xi_le] at c
      refine ih a _ (by omega) (by omega) hI2 e2 hlt (Or.inr (fun b hb => ?_))
      rw [show a + 2 * 2 ^ i - 1 = a + 2 ^ (i + 1) - 1 by omega] at hb
      have := Mo_u hm hb
      omega
    · rw [if_neg c, nI_add]
      rw [xi_le] at c
      refine ih (a + 2 ^ (i + 1)) _ (by omega) (by omega) hI2 e2 (fun h hh b hb => ?_) ?_
      · -- below: the overlap only grows
        have grow : ∀ (d h : Nat) (x : Int), h + d = a + 2 ^ (i + 1) - 1 → MH f h x → x ≤ (F_X5_most g).toInt := by
          intro d
          induction d with
          | zero =>
            intro h x hd hx
            rw [show h = a + 2 ^ (i + 1) - 1 by omega] at hx
            have := Mo_u hx hm
            omega
          | succ d ihd =>
            intro h x hd hx
            have hnx := c_MH (s := s) hC hR (h := h + 1) (time := nI ((f 2).toInt.toNat + 60 * (h + 1))) (by omega) (by
              have hN := hR.1.2.2.1
              rw [nI_toInt (by omega)]
              omega)
            have h1 := MH_up hR hx hnx
            have h2 := ihd (h + 1) _ (by omega) hnx
            omega
        have := grow (a + 2 ^ (i + 1) - 1 - h) h b (by omega) hb
        omega
      · rw [show a + 2 ^ (i + 1) + 2 * 2 ^ i - 1 = a + 2 * 2 ^ (i + 1) - 1 by omega]
        exact hB
theorem w_l {f : Nat → Int32} {many : Int32} {H : Nat} (hR : RowOK f) (hm : 1 ≤ many.toInt) (hH : H ≤ 255) (hlt : ∀ h : Nat, h < H → ∀ b : Int, MH f h b → b < many.toInt) (hge : H = 255 ∨ ∀ b : Int, MH f H b → many.toInt ≤ b) : ∀ (n k : Nat) (v : xs_S), k + n = 202 → k ≤ 201 → k ≤ H → Inv v → v 73 = f → (lp_X7_widerIn_16 many n (nI k) v).1 = (if H ≤ 200 then nI H else -6) ∧ Inv (lp_X7_widerIn_16 many n (nI k) v).2 := by
  have e200 : (200 : Int32).toInt = 200 := by decide
  intro n
  induction n with
  | zero => intro k v h1 h2; omega
  | succ n ih =>
    intro k v h1 h2 h3 hI e
    rw [lp_X7_widerIn_16]
    by_cases hk : 200 < nI k
    · rw [if_pos hk]
      rw [xi_lt, e200, nI_toInt (by omega)] at hk
      rw [if_neg (by omega)]
      exact ⟨rfl, hI⟩
    · rw [if_neg hk]
      rw [xi_lt, e200, nI_toInt (by omega)] at hk
      obtain ⟨⟨hM, hMo, hcase⟩, ei⟩ := m_MH (v := v) (h := k) e hR (by omega)
      have hl : 0 ≤ (60 * nI k).toInt ∧ (60 * nI k).toInt ≤ 16000 := by rw [ei]; omega
      have hI2 := Inv_se (Inv_lay (l := -6) hl hI)
      have e2 : (F_X7_seek (F_X7_layOut v (60 * nI k) (-6))).2 73 = f := by rw [se_n (by decide), lay_n _ (by decide) (by decide) (by decide)]; exact e
      generalize hg : F_X7_seek (F_X7_layOut v (60 * nI k) (-6)) = g at *
      rw [nI_1]
      by_cases hkH : k < H
      · have hb := hlt k hkH _ hMo
        have hn := ih (k + 1) g.2 (by omega) (by omega) (by omega) hI2 e2
        by_cases c : g.1 = 0
        · rw [if_pos c]; exact hn
        · rw [if_neg c, if_pos (by rw [xi_lt]; exact hb)]; exact hn
      · have hkH' : k = H := by omega
        subst hkH'
        have hb : many.toInt ≤ (g.2 72 14).toInt := by
          rcases hge with h5 | h5
          · omega
          · exact h5 _ hMo
        have c : ¬ g.1 = 0 := by
          rcases hcase with ⟨c1, c2⟩ | ⟨c1, -⟩
          · omega
          · rw [c1]; decide
        rw [if_neg c, if_neg (by rw [xi_lt]; omega), if_pos (by omega)]
        exact ⟨rfl, hI2⟩
theorem eq_wider {st : xs_S} {a : Int32} (hI : Inv st) : (F_X6_widerIn st a).1 = (F_X7_widerIn (F_X6_widerIn st a).2 a).1 ∧ Inv (F_X7_widerIn (F_X6_widerIn st a).2 a).2 := by
  have e15 : (15 : Int32).toInt = 15 := by decide
  have e200 : (200 : Int32).toInt = 200 := by decide
  have i0 : ∀ s : xs_S, F_X7_in s a.toInt64 1 15 = if (1 : Int32).toInt ≤ a.toInt ∧ a.toInt ≤ (15 : Int32).toInt then 1 else 0 := fun s => in_if
  rw [xi_1, e15] at i0
  have bad : ¬ (1 ≤ a.toInt ∧ a.toInt ≤ 15) → F_X7_widerIn st a = (-2, st) := by
    intro h
    unfold F_X7_widerIn
    rw [i0, if_neg h, if_pos rfl]
  unfold F_X6_widerIn
  by_cases h1 : a < 1
  · rw [if_pos h1]
    rw [xi_lt, xi_1] at h1
    dsimp only
    rw [bad (by omega)]
    exact ⟨rfl, hI⟩
  rw [if_neg h1]
  rw [xi_lt, xi_1] at h1
  by_cases h2 : a ≤ 15
  · rw [if_pos h2]
    rw [xi_le, e15] at h2
    obtain ⟨H, hH, r1, r2, r3, r4, r5⟩ := ht_l (many := a) hI.2.1 7 0 st (by decide) (by decide) hI rfl (fun h hh => by omega) (Or.inl (by decide))
    have ez : lp_X6_hoursTooEarly_6 a (7 + 2) (nI 0) (nI (2 ^ 7)) st = F_X6_hoursTooEarly st a := by
      unfold F_X6_hoursTooEarly
      rw [nI_0, show nI (2 ^ 7) = 128 by decide]
    rw [ez] at r1 r4 r5
    generalize F_X6_hoursTooEarly st a = g at *
    have hw := w_l (H := H) hI.2.1 (by omega) hH r2 r3 202 0 g.2 (by decide) (by decide) (by omega) r4 r5
    rw [nI_0] at hw
    have hmod : F_X7_widerIn g.2 a = lp_X7_widerIn_16 a 202 0 g.2 := by
      unfold F_X7_widerIn
      rw [i0, if_pos (show 1 ≤ a.toInt ∧ a.toInt ≤ 15 from ⟨by omega, h2⟩), if_neg (show ¬ ((1 : Int32) = 0) by decide)]
    by_cases c : H ≤ 200
    · rw [if_pos (by rw [r1, xi_le, e200, nI_toInt (by omega)]; omega)]
      dsimp only
      rw [hmod, hw.1, if_pos c, r1]
      exact ⟨rfl, hw.2⟩
    · rw [if_neg (by rw [r1, xi_le, e200, nI_toInt (by omega)]; omega)]
      dsimp only
      rw [hmod, hw.1, if_neg c]
      exact ⟨rfl, hw.2⟩
  · rw [if_neg h2]
    rw [xi_le, e15] at h2
    dsimp only
    rw [bad (by omega)]
    exact ⟨rfl, hI⟩
