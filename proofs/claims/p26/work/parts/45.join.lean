/-! floor division; the reference's half -/
theorem xsgn {x y : Int32} (hy : 0 < y.toInt) : (0 ≤ x ^^^ y) ↔ 0 ≤ x.toInt := by
  rw [xi_le, xi_0]
  have e2 : (x ^^^ y).toBitVec.msb = (x.toBitVec.msb ^^ y.toBitVec.msb) := by rw [Int32.toBitVec_xor, BitVec.msb_xor]
  have e3 : y.toBitVec.msb = false := by
    rw [BitVec.msb_eq_toInt]
    exact decide_eq_false (by show ¬ y.toInt < 0; omega)
  rw [e3, Bool.xor_false] at e2
  rw [BitVec.msb_eq_toInt, BitVec.msb_eq_toInt] at e2
  have e4 : ((x ^^^ y).toInt < 0) ↔ (x.toInt < 0) := decide_eq_decide.mp e2
  omega
theorem tdv {x y : Int32} (hy : 0 < y.toInt) : (x / y).toInt = x.toInt.tdiv y.toInt ∧ x.toInt.tmod y.toInt + y.toInt * (x / y).toInt = x.toInt ∧ -y.toInt < x.toInt.tmod y.toInt ∧ x.toInt.tmod y.toInt < y.toInt ∧ (x.toInt < 0 → x.toInt.tmod y.toInt ≤ 0) ∧ (0 ≤ x.toInt → 0 ≤ x.toInt.tmod y.toInt) := by
  have hb := xi_b x
  have hd : -2147483648 ≤ x.toInt.tdiv y.toInt ∧ x.toInt.tdiv y.toInt < 2147483648 := by
    rcases Int.lt_or_le x.toInt 0 with hx | hx
    · have h1 := Int.neg_tdiv x.toInt y.toInt
      have h2 := Int.tdiv_nonneg (a := -x.toInt) (b := y.toInt) (by omega) (by omega)
      have h3 := Int.tdiv_le_self (a := -x.toInt) y.toInt (by omega)
      omega
    · have h2 := Int.tdiv_nonneg (a := x.toInt) (b := y.toInt) (by omega) (by omega)
      have h3 := Int.tdiv_le_self (a := x.toInt) y.toInt (by omega)
      omega
  have hq : (x / y).toInt = x.toInt.tdiv y.toInt := xi_div hd
  refine ⟨hq, ?_, Int.lt_tmod_of_pos x.toInt hy, Int.tmod_lt_of_pos x.toInt hy, fun hx => ?_, fun hx => Int.tmod_nonneg y.toInt hx⟩
  · rw [hq]
    have h1 := Int.tmod_add_tdiv_mul x.toInt y.toInt
    rw [Int.mul_comm] at h1
    exact h1
  · have h1 := Int.neg_tmod x.toInt y.toInt
    have h2 := Int.tmod_nonneg (a := -x.toInt) y.toInt (by omega)
    omega
theorem fd_2 {st : xs_S} {x : Int32} : (F_floorDiv st x 2).toInt = x.toInt / 2 := by
  have e2 : (2 : Int32).toInt = 2 := by decide
  obtain ⟨hq, hs, h1, h2, h3, h4⟩ := tdv (x := x) (y := 2) (by rw [e2]; decide)
  have hb := xi_b x
  have hx := xsgn (x := x) (y := 2) (by rw [e2]; decide)
  rw [e2] at hq hs h1 h2 h3 h4
  generalize hr : x.toInt.tmod 2 = r at *
  generalize hQ : (x / 2).toInt = q at *
  have hrg : -2147483648 ≤ q * 2 ∧ q * 2 < 2147483648 := by
    by_cases h : x.toInt < 0
    · have := h3 h
      omega
    · have := h4 (by omega)
      omega
  have hp : (x / 2 * 2).toInt = q * 2 := by
    rw [xi_mul (by rw [hQ, e2]; exact hrg), hQ, e2]
  unfold F_floorDiv
  by_cases c1 : 0 ≤ x ^^^ 2
  · rw [if_pos c1, hQ]
    have h5 := hx.mp c1
    have := h4 h5
    omega
  · rw [if_neg c1]
    have hn : x.toInt < 0 := by
      have : ¬ 0 ≤ x.toInt := fun h => c1 (hx.mpr h)
      omega
    have := h3 hn
    by_cases c2 : x / 2 * 2 = x
    · rw [if_pos c2, hQ]
      rw [xi_eq, hp] at c2
      omega
    · rw [if_neg c2]
      rw [xi_eq, hp] at c2
      rw [xi_sub (by rw [hQ, xi_1]; omega), hQ, xi_1]
      omega
theorem fd_32 {st : xs_S} {x : Int32} : (F_floorDiv st x 32).toInt = x.toInt / 32 := by
  have e2 : (32 : Int32).toInt = 32 := by decide
  obtain ⟨hq, hs, h1, h2, h3, h4⟩ := tdv (x := x) (y := 32) (by rw [e2]; decide)
  have hb := xi_b x
  have hx := xsgn (x := x) (y := 32) (by rw [e2]; decide)
  rw [e2] at hq hs h1 h2 h3 h4
  generalize hr : x.toInt.tmod 32 = r at *
  generalize hQ : (x / 32).toInt = q at *
  have hrg : -2147483648 ≤ q * 32 ∧ q * 32 < 2147483648 := by
    by_cases h : x.toInt < 0
    · have := h3 h
      omega
    · have := h4 (by omega)
      omega
  have hp : (x / 32 * 32).toInt = q * 32 := by
    rw [xi_mul (by rw [hQ, e2]; exact hrg), hQ, e2]
  unfold F_floorDiv
  by_cases c1 : 0 ≤ x ^^^ 32
  · rw [if_pos c1, hQ]
    have h5 := hx.mp c1
    have := h4 h5
    omega
  · rw [if_neg c1]
    have hn : x.toInt < 0 := by
      have : ¬ 0 ≤ x.toInt := fun h => c1 (hx.mpr h)
      omega
    have := h3 hn
    by_cases c2 : x / 32 * 32 = x
    · rw [if_pos c2, hQ]
      rw [xi_eq, hp] at c2
      omega
    · rw [if_neg c2]
      rw [xi_eq, hp] at c2
      rw [xi_sub (by rw [hQ, xi_1]; omega), hQ, xi_1]
      omega
/-! the reference's spans, as functions of the dials -/
/-- the least low end that enough spans have -/
def FS (P : Nat → Bool) (lo hi : Nat → Int) (m : Int) (k : Nat) (a : Int) : Prop := (∃ j : Nat, j < k ∧ (P j = true ∧ m ≤ (ov P lo hi (lo j) : Int)) ∧ a = lo j) ∧ ∀ j : Nat, j < k → (P j = true ∧ m ≤ (ov P lo hi (lo j) : Int)) → a ≤ lo j
theorem FS_no {P : Nat → Bool} {lo hi : Nat → Int} {m a : Int} {k : Nat} (h : FS P lo hi m k a) (hw : (P k = true ∧ m ≤ (ov P lo hi (lo k) : Int)) → a ≤ lo k) : FS P lo hi m (k + 1) a := by
  obtain ⟨⟨j, hj, x⟩, h2⟩ := h
  refine ⟨⟨j, by omega, x⟩, fun i hi' hwi => ?_⟩
  by_cases hik : i = k
  · subst hik; exact hw hwi
  · exact h2 i (by omega) hwi
/-! both sides -/
theorem lg_first {u : xs_S} {m : Int32} {a : Int32} {P : Nat → Bool} {lo hi : Nat → Int} (hG : GA u P lo hi) (hB : BD P lo hi) (hF : FS P lo hi m.toInt 15 a.toInt) : F_X5_firstTimeOf u m = a := by
  apply xi_eq.mpr
  obtain ⟨g1, g2⟩ := g_first (m := m) hG
  obtain ⟨⟨j, hj, hw, e⟩, f2⟩ := hF
  have h1 := g2 j hj hw
  have hb := hB j hj hw.1
  rcases g1 with g1 | ⟨i, hi', hwi, ei⟩
  · omega
  · have h2 := f2 i hi' hwi
    omega
theorem lg_none {u : xs_S} {m : Int32} {P : Nat → Bool} {lo hi : Nat → Int} (hG : GA u P lo hi) (hN : ∀ j : Nat, j < 15 → ¬ (P j = true ∧ m.toInt ≤ (ov P lo hi (lo j) : Int))) : F_X5_firstTimeOf u m = 1000000 := by
  apply xi_eq.mpr
  obtain ⟨g1, g2⟩ := g_first (m := m) hG
  rcases g1 with g1 | ⟨i, hi', hwi, ei⟩
  · rw [g1]; decide
  · exact absurd hwi (hN i hi')