/-! what the class gathers; what does not touch the relation -/
theorem bt_m1 : ∀ k, k < 32 → (-1 : Int32).toBitVec.getLsbD k = true := by decide
theorem bt_an {x y : Int32} {k : Nat} (hk : k < 32) : bt (x &&& (y ^^^ (-1))) k = (bt x k && !bt y k) := by
  unfold bt
  rw [Int32.toBitVec_and, BitVec.getLsbD_and, Int32.toBitVec_xor, BitVec.getLsbD_xor, bt_m1 k hk, Bool.xor_true]
theorem i32_ext {x y : Int32} (h : ∀ k, k < 32 → bt x k = bt y k) : x = y := Int32.toBitVec_inj.mp (BitVec.eq_of_getLsbD_eq (fun i hi => h i hi))
theorem bt_mk {Q : Nat → Bool} {j : Nat} (hj : j < 32) : ∀ n : Nat, n ≤ 15 → bt (mk Q n) j = (decide (j < n) && Q j) := by
  intro n
  induction n with
  | zero =>
    intro h
    rw [show mk Q 0 = 0 from rfl, bt_0]
    simp
  | succ n ih =>
    intro h
    have h1 := ih (by omega)
    by_cases hq : Q n = true
    · rw [mk_up hq, bt_or32 (by omega) hj, h1]
      by_cases hjn : j = n
      · subst hjn
        rw [hq]; simp
      · rw [decide_eq_false hjn, Bool.or_false]
        congr 1
        exact decide_eq_decide.mpr (by omega)
    · have hq' : Q n = false := by simpa using hq
      rw [mk_no hq', h1]
      by_cases hjn : j = n
      · subst hjn
        rw [hq']; simp
      · congr 1
        exact decide_eq_decide.mpr (by omega)
theorem bt_v {x : Int32} {j : Nat} (hj : j < 31) : ((x >>> (nI j &&& 31)) &&& 1) = if bt x j = true then 1 else 0 := by
  by_cases h : bt x j = true
  · rw [if_pos h]
    exact (bt_i hj).mpr h
  · rw [if_neg h]
    have h1 := pk_and (x >>> (nI j &&& 31)) (m := 1) 1 (by decide)
    have h2 : (x >>> (nI j &&& 31)).toBitVec.toNat % 2 ^ 1 = 0 ∨ (x >>> (nI j &&& 31)).toBitVec.toNat % 2 ^ 1 = 1 := by omega
    rcases h2 with h2 | h2
    · rw [h1, h2]
      exact nI_0
    · exact absurd ((bt_i hj).mp (by rw [h1, h2]; decide)) h
theorem g_span {s : xs_S} {k : Nat} (hk : k < 15) : F_X1_hasSpan s (nI k) = if (bt (s 1 4) k && !bt (s 1 5) k) = true then 1 else 0 := by
  unfold F_X1_hasSpan F_X1_dialsWithSpans
  rw [← bt_an (by omega)]
  by_cases h : bt (s 1 4 &&& (s 1 5 ^^^ (-1))) k = true
  · rw [if_pos h, if_pos ((bt_i (by omega)).mpr h)]
  · rw [if_neg h, if_neg (fun h' => h ((bt_i (by omega)).mp h'))]
theorem rP_cr {s : xs_S} {f : Nat → Int32} {l : Int32} {k : Nat} (hC : CR 1 s f) (hk : k < 15) : rP f l k = (decide (¬ nI k = l) && (bt (s 1 4) k && !bt (s 1 5) k)) := by
  obtain ⟨-, h2, h3, h4⟩ := hC
  obtain ⟨⟨g4, g5⟩, -⟩ := h2 k hk
  unfold rP
  rw [g4, g5]
  by_cases b4 : bt (s 1 4) k = true
  · have h5 := h3 k (by omega) b4
    rw [if_pos b4, b4, decide_eq_true h5]
    by_cases b5 : bt (s 1 5) k = true
    · rw [if_pos b5, b5]; simp
    · have b5' : bt (s 1 5) k = false := by simpa using b5
      rw [if_neg b5, b5']; simp
  · have b4' : bt (s 1 4) k = false := by simpa using b4
    rw [if_neg b4, b4']; simp
theorem g_loe {s : xs_S} {f : Nat → Int32} {time : Int32} {later : Int} {k : Nat} (hC : CR 1 s f) (hR : RowOK f) (ht : time.toInt = (f 2).toInt + later) (hl : 0 ≤ later ∧ later ≤ 16000) (hk : k < 15) : (F_X1_lowEnd s (nI k) time).toInt = rLo f later k ∧ (F_X1_highEnd s (nI k) time).toInt = rHi f later k := by
  obtain ⟨⟨e0, -⟩, h2, -⟩ := hC
  obtain ⟨-, g1, g2, g3, -⟩ := h2 k hk
  have g1' : s 2 k = f (7 + 7 * k) := g1
  have g2' : s 3 k = f (8 + 7 * k) := g2
  have g3' : s 4 k = f (9 + 7 * k) := g3
  obtain ⟨⟨hw, -, hn, -⟩, hrow⟩ := hR
  obtain ⟨-, h7, h8, h9, -⟩ := hrow k hk
  have hag : (time - f (9 + 7 * k)).toInt = rAge f later k := by
    unfold rAge
    rw [xi_sub (by rw [ht]; omega), ht]
  have hab : 0 ≤ rAge f later k ∧ rAge f later k ≤ 150000 := by
    unfold rAge
    omega
  unfold F_X1_lowEnd F_X1_highEnd F_X1_reach F_X1_ageAt
  rw [nI_tn (by omega), g1', g2', g3', e0]
  have elo := sp_lo (t := f (7 + 7 * k)) (d := f (8 + 7 * k)) (w := f 0) (a := time - f (9 + 7 * k)) h7 h8 hw (by rw [hag]; exact hab)
  have ehi := sp_hi (t := f (7 + 7 * k)) (d := f (8 + 7 * k)) (w := f 0) (a := time - f (9 + 7 * k)) h7 h8 hw (by rw [hag]; exact hab)
  rw [hag] at elo ehi
  exact ⟨elo, ehi⟩
theorem g_gl {st : xs_S} {f : Nat → Int32} {time l : Int32} {later : Int} (hC : CR 1 st f) (hR : RowOK f) (ht : time.toInt = (f 2).toInt + later) (hl : 0 ≤ later ∧ later ≤ 16000) : ∀ (n k : Nat) (s : xs_S), k + n = 16 → k ≤ 15 → (∀ c : Nat, c < 7 → s c = st c) → s 7 3 = nI (cn (rP f l) k) → (∀ j : Nat, j < k → rP f l j = true → (s 8 (cn (rP f l) j)).toInt = rLo f later j ∧ (s 9 (cn (rP f l) j)).toInt = rHi f later j ∧ s 10 (cn (rP f l) j) = nI j) → GA (lp_X5_gather_8 time l n (nI k) s) (rP f l) (rLo f later) (rHi f later) := by
  intro n
  induction n with
  | zero => intro k s h1 h2; omega
  | succ n ih =>
    intro k s h1 h2 hs h3 hI
    rw [lp_X5_gather_8]
    by_cases hk : k = 15
    · subst hk
      rw [if_pos (by rw [i15]; exact nI_le (Nat.le_refl _) (by decide))]
      exact ⟨h3, hI⟩
    · have hk15 : k < 15 := by omega
      have hC' : CR 1 s f := CR_c (fun c a b => hs c (by omega)) hC
      have hrp := rP_cr (l := l) hC' hk15
      rw [if_neg (by rw [i15, nI_leI (by decide) (by omega)]; omega), nI_1]
      have skip : rP f l k = false → GA (lp_X5_gather_8 time l n (nI (k + 1)) s) (rP f l) (rLo f later) (rHi f later) := by
        intro hp
        refine ih (k + 1) s (by omega) (by omega) hs (by rw [cn_no hp]; exact h3) (fun j hj hpj => ?_)
        by_cases hjk : j = k
        · subst hjk; rw [hp] at hpj; exact absurd hpj (by decide)
        · exact hI j (by omega) hpj
      by_cases hlo : nI k = l
      · rw [if_pos hlo]
        exact skip (by rw [hrp]; simp [hlo])
      · rw [if_neg hlo, g_span hk15]
        by_cases hb : (bt (s 1 4) k && !bt (s 1 5) k) = true
        · rw [if_pos hb, if_neg (by decide)]
          have hp : rP f l k = true := by
            rw [hrp, hb]
            simp [hlo]
          have hi3 : (s 7 3).toInt.toNat = cn (rP f l) k := by rw [h3]; exact g_tn (by omega)
          rw [hi3]
          have hC2 : CR 1 (xs_u s 8 (cn (rP f l) k) (F_X1_lowEnd s (nI k) time)) f := CR_c (fun c a b => xs_rd_k (by omega)) hC'
          have elo := (g_loe hC' hR ht hl hk15).1
          have ehi := (g_loe hC2 hR ht hl hk15).2
          refine ih (k + 1) _ (by omega) (by omega) (fun c hc => ?_) ?_ (fun j hj hpj => ?_)
          · rw [xs_rd_k (by omega), xs_rd_k (by omega), xs_rd_k (by omega), xs_rd_k (by omega)]
            exact hs c hc
          · rw [xs_rd_s, h3, cn_up hp, nI_1]
          · rw [xs_rd_k (show (8 : Nat) ≠ 7 by decide), xs_rd_k (show (8 : Nat) ≠ 10 by decide), xs_rd_k (show (8 : Nat) ≠ 9 by decide), xs_rd_k (show (9 : Nat) ≠ 7 by decide), xs_rd_k (show (9 : Nat) ≠ 10 by decide), xs_rd_k (show (10 : Nat) ≠ 7 by decide)]
            by_cases hjk : j = k
            · subst hjk
              rw [xs_rd_s, xs_rd_s, xs_rd_s]
              exact ⟨elo, ehi, rfl⟩
            · have h6 := cn_st (P := rP f l) (k := j + 1) (k - (j + 1))
              rw [show j + 1 + (k - (j + 1)) = k by omega, cn_up hpj] at h6
              have h7 : cn (rP f l) j ≠ cn (rP f l) k := by omega
              rw [xs_rd_i h7, xs_rd_i h7, xs_rd_i h7, xs_rd_k (by decide), xs_rd_k (by decide), xs_rd_k (by decide)]
              exact hI j (by omega) hpj
        · rw [if_neg hb, if_pos rfl]
          exact skip (by rw [hrp]; simp only [Bool.not_eq_true] at hb; rw [hb, Bool.and_false])
theorem g_ga {st : xs_S} {f : Nat → Int32} {time l : Int32} {later : Int} (hC : CR 1 st f) (hR : RowOK f) (ht : time.toInt = (f 2).toInt + later) (hl : 0 ≤ later ∧ later ≤ 16000) : GA (F_X5_gather st time l) (rP f l) (rLo f later) (rHi f later) := by
  have h := g_gl (l := l) hC hR ht hl 16 0 (xs_u st 7 3 0) (by decide) (by decide) (fun c hc => xs_rd_k (by omega)) (by rw [xs_rd_s]; exact cn_z.symm) (fun j hj => by omega)
  rw [nI_0] at h
  exact h
theorem rP_16 {f : Nat → Int32} {k : Nat} (hk : k < 15) : rP f (-6) k = rP f (-1) k := by
  have h6 : ¬ nI k = -6 := by
    intro h
    rw [xi_eq, nI_toInt (by omega), show (-6 : Int32).toInt = -6 by decide] at h
    omega
  have h1 : ¬ nI k = -1 := by
    intro h
    rw [xi_eq, nI_toInt (by omega), show (-1 : Int32).toInt = -1 by decide] at h
    omega
  unfold rP
  rw [decide_eq_true h6, decide_eq_true h1]
theorem bd_row {f : Nat → Int32} {later : Int} {P : Nat → Bool} (hR : RowOK f) (hl : 0 ≤ later ∧ later ≤ 16000) : BD P (rLo f later) (rHi f later) := fun k hk _ => row_b hR hl hk