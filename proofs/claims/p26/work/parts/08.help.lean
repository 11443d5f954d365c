/-! ints: Int32 read as Int -/
theorem xs_h1 {n : Nat} {i : Int32} (h : 0 ≤ i.toInt ∧ i.toInt < (n : Int)) : i.toInt = ((i.toInt.toNat : Nat) : Int) := by omega
theorem xs_h2 {n : Nat} {i : Int32} (h : 0 ≤ i.toInt ∧ i.toInt < (n : Int)) : i.toInt.toNat < n := by omega
theorem xi_add {a b : Int32} (h : -2147483648 ≤ a.toInt + b.toInt ∧ a.toInt + b.toInt < 2147483648) : (a + b).toInt = a.toInt + b.toInt := by
  rw [Int32.toInt_add]
  exact Int.bmod_eq_of_le (by omega) (by omega)
theorem xi_sub {a b : Int32} (h : -2147483648 ≤ a.toInt - b.toInt ∧ a.toInt - b.toInt < 2147483648) : (a - b).toInt = a.toInt - b.toInt := by
  rw [Int32.toInt_sub]
  exact Int.bmod_eq_of_le (by omega) (by omega)
theorem xi_mul {a b : Int32} (h : -2147483648 ≤ a.toInt * b.toInt ∧ a.toInt * b.toInt < 2147483648) : (a * b).toInt = a.toInt * b.toInt := by
  rw [Int32.toInt_mul]
  exact Int.bmod_eq_of_le (by omega) (by omega)
theorem xi_div {a b : Int32} (h : -2147483648 ≤ a.toInt.tdiv b.toInt ∧ a.toInt.tdiv b.toInt < 2147483648) : (a / b).toInt = a.toInt.tdiv b.toInt := by
  rw [Int32.toInt_div]
  exact Int.bmod_eq_of_le (by omega) (by omega)
theorem xi_lt {a b : Int32} : a < b ↔ a.toInt < b.toInt := Int32.lt_iff_toInt_lt
theorem xi_le {a b : Int32} : a ≤ b ↔ a.toInt ≤ b.toInt := Int32.le_iff_toInt_le
theorem xi_eq {a b : Int32} : a = b ↔ a.toInt = b.toInt := Int32.toInt_inj.symm
theorem xi_b (a : Int32) : -2147483648 ≤ a.toInt ∧ a.toInt < 2147483648 := ⟨a.le_toInt, a.toInt_lt⟩
theorem xi_0 : (0 : Int32).toInt = 0 := by decide
theorem xi_1 : (1 : Int32).toInt = 1 := by decide
theorem xi_inc {a : Int32} (h : a.toInt < 2147483647) : (a + 1).toInt = a.toInt + 1 := by
  have h1 := xi_b a
  rw [xi_add (by rw [xi_1]; omega), xi_1]
theorem xi_of {n : Nat} (h : n < 2147483648) : (Int32.ofNat n).toInt = n := Int32.toInt_ofNat_of_lt (by omega)
theorem xs_rd_s {st : xs_S} {k i : Nat} {v : Int32} : xs_u st k i v k i = v := by
  unfold xs_u
  rw [xs_ur_s, xs_uf_s]
theorem xs_rd_i {st : xs_S} {k i j : Nat} {v : Int32} (h : j ≠ i) : xs_u st k i v k j = st k j := by
  unfold xs_u
  rw [xs_ur_s, xs_uf_n h]
theorem xs_rd_k {st : xs_S} {k k' i : Nat} {v : Int32} (h : k' ≠ k) : xs_u st k i v k' = st k' := by
  unfold xs_u
  rw [xs_ur_n h]
theorem xz_01 {b : Int32} (h : b = 0 ∨ b = 1) : narrow .boolean (.int b) = .int b := by
  rcases h with h | h <;> subst h <;> rfl
theorem xs_fun {P : Option Value → xs_S → Prop} {x : Option Value} {s : xs_S} (h : P x s) : ∀ r u, (r = x ∧ u = s) → P r u := by
  intro r u hq
  obtain ⟨h1, h2⟩ := hq
  subst h1
  subst h2
  exact h
/-- a counter x below B, with n rounds to go and one more -/
def xs_lo (x B : Int32) (n : Nat) : Prop := 0 ≤ x.toInt ∧ x.toInt ≤ B.toInt ∧ B.toInt < x.toInt + (n : Int)
theorem xs_lo0 {x B : Int32} (h : xs_lo x B 0) : False := by
  obtain ⟨h1, h2, h3⟩ := h
  omega
theorem xs_lo_up {x B : Int32} {n : Nat} (h : xs_lo x B (n + 1)) (hc : ¬ B ≤ x) : xs_lo (x + 1) B n := by
  obtain ⟨h1, h2, h3⟩ := h
  rw [xi_le] at hc
  have hb := xi_b B
  have e := xi_inc (a := x) (by omega)
  refine ⟨?_, ?_, ?_⟩ <;> rw [e] <;> omega
theorem xs_lo_in {x B : Int32} {n : Nat} (h : xs_lo x B n) (hc : ¬ B ≤ x) : 0 ≤ x.toInt ∧ x.toInt < B.toInt := by
  obtain ⟨h1, h2, h3⟩ := h
  rw [xi_le] at hc
  omega
theorem xs_lo15 {x : Int32} {n : Nat} (h : xs_lo x 15 n) (hc : ¬ 15 ≤ x) : 0 ≤ x.toInt ∧ x.toInt < 15 := xs_lo_in h hc
theorem xs_lo_e {B : Int32} {n : Nat} (h : 0 ≤ B.toInt) (hn : B.toInt < (n : Int)) : xs_lo 0 B n := by
  refine ⟨?_, ?_, ?_⟩ <;> rw [xi_0] <;> omega
theorem xs_ix {b x : Int32} (hsz : 0 ≤ b.toInt ∧ b.toInt ≤ 15) (h : 0 ≤ x.toInt ∧ x.toInt < b.toInt) : 0 ≤ x.toInt ∧ x.toInt < 15 := by omega
theorem xs_ga {x s : Int32} {n : Nat} (h : xs_lo x 15 (n + 1) ∧ 0 ≤ s.toInt ∧ s.toInt ≤ x.toInt) (hc : ¬ 15 ≤ x) : xs_lo (x + 1) 15 n ∧ 0 ≤ s.toInt ∧ s.toInt ≤ (x + 1).toInt := by
  have h1 := xs_lo15 h.1 hc
  refine ⟨xs_lo_up h.1 hc, h.2.1, ?_⟩
  rw [xi_inc (by omega)]
  omega
theorem xs_gb {x s : Int32} {n : Nat} (h : xs_lo x 15 (n + 1) ∧ 0 ≤ s.toInt ∧ s.toInt ≤ x.toInt) (hc : ¬ 15 ≤ x) : xs_lo (x + 1) 15 n ∧ 0 ≤ (s + 1).toInt ∧ (s + 1).toInt ≤ (x + 1).toInt := by
  have h1 := xs_lo15 h.1 hc
  refine ⟨xs_lo_up h.1 hc, ?_, ?_⟩
  · rw [xi_inc (by omega)]
    omega
  · rw [xi_inc (by omega), xi_inc (by omega)]
    omega
theorem xs_gi {x s : Int32} {n : Nat} (h : xs_lo x 15 n ∧ 0 ≤ s.toInt ∧ s.toInt ≤ x.toInt) (hc : ¬ 15 ≤ x) : 0 ≤ s.toInt ∧ s.toInt < 15 := by
  have h1 := xs_lo15 h.1 hc
  omega
theorem xs_g0 : xs_lo 0 15 16 ∧ 0 ≤ (0 : Int32).toInt ∧ (0 : Int32).toInt ≤ (0 : Int32).toInt := ⟨⟨by decide, by decide, by decide⟩, by decide, by decide⟩
theorem xp_e {many : Int32} {s : Int32} (hm : 0 ≤ many.toInt ∧ many.toInt ≤ 8) (hl : 0 ≤ s.toInt) : (-1 ≤ (many - 1).toInt ∧ (many - 1).toInt < 8 ∧ (many - 1).toInt + 1 < ((9 : Nat) : Int)) ∧ 0 ≤ s.toInt := by
  have e : (many - 1).toInt = many.toInt - 1 := by rw [xi_sub (by rw [xi_1]; omega), xi_1]
  rw [e]
  omega
theorem xp_b {x s : Int32} {n : Nat} (h : (-1 ≤ x.toInt ∧ x.toInt < 8 ∧ x.toInt + 1 < ((n + 1 : Nat) : Int)) ∧ 0 ≤ s.toInt) (h1 : ¬ x < 0) (h2 : ¬ 80 ≤ s) : (-1 ≤ (x + (-1)).toInt ∧ (x + (-1)).toInt < 8 ∧ (x + (-1)).toInt + 1 < (n : Int)) ∧ 0 ≤ (s + 1).toInt := by
  rw [xi_lt, xi_0] at h1
  rw [xi_le] at h2
  have h8 : (80 : Int32).toInt = 80 := by decide
  have hm : (-1 : Int32).toInt = -1 := by decide
  rw [xi_inc (by omega), xi_add (by rw [hm]; omega), hm]
  omega
theorem xp_i {x s : Int32} {n : Nat} (h : (-1 ≤ x.toInt ∧ x.toInt < 8 ∧ x.toInt + 1 < (n : Int)) ∧ 0 ≤ s.toInt) (h2 : ¬ 80 ≤ s) : 0 ≤ s.toInt ∧ s.toInt < 80 := by
  rw [xi_le] at h2
  have h8 : (80 : Int32).toInt = 80 := by decide
  omega
theorem xs_hv {x : Int32} {n : Nat} (h : 0 < n + 1 ∧ 0 ≤ x.toInt ∧ 2 * x.toInt < ((2 ^ (n + 1) : Nat) : Int)) (h1 : ¬ x ≤ 0) : 0 < n ∧ 0 ≤ (x / 2).toInt ∧ 2 * (x / 2).toInt < ((2 ^ n : Nat) : Int) := by
  rw [xi_le, xi_0] at h1
  have h2 : (2 : Int32).toInt = 2 := by decide
  have hx := xi_b x
  have e : x.toInt.tdiv 2 = x.toInt / 2 := Int.tdiv_eq_ediv_of_nonneg (by omega)
  have hd : (x / 2).toInt = x.toInt / 2 := by rw [xi_div (by rw [h2, e]; omega), h2, e]
  have hp : (2 ^ (n + 1) : Nat) = 2 * 2 ^ n := by rw [Nat.pow_succ]; omega
  rw [hp] at h
  rw [hd]
  have h3 := h.2.2
  have h4 : 0 < n := by
    cases n with
    | zero => exfalso; simp at h3; omega
    | succ m => omega
  generalize (2 ^ n : Nat) = w at h3 ⊢
  omega
theorem xm_16 {B : Int32} (h : 0 ≤ B.toInt ∧ B.toInt ≤ 15) : B.toInt < ((16 : Nat) : Int) := by omega
theorem xi_nle {a b : Int32} (h : ¬ b ≤ a) : a < b := by
  rw [xi_le] at h
  rw [xi_lt]
  omega
