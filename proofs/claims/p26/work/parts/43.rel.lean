/-! the relation of the class's courts and the reference's rows -/
def CR (c : Nat) (u : xs_S) (f : Nat → Int32) : Prop := (u c 0 = f 0 ∧ u c 1 = f 1 ∧ u c 2 = f 2 ∧ u c 3 = f 3 ∧ u c 6 = f 4 ∧ u c 7 = f 5) ∧ (∀ k : Nat, k < 15 → (f (6 + 7 * k) = (if bt (u c 4) k = true then 1 else 0) ∧ f (12 + 7 * k) = (if bt (u c 5) k = true then 1 else 0)) ∧ u (c + 1) k = f (7 + 7 * k) ∧ u (c + 2) k = f (8 + 7 * k) ∧ u (c + 3) k = f (9 + 7 * k) ∧ u (c + 4) k = f (10 + 7 * k) ∧ u (c + 5) k = f (11 + 7 * k)) ∧ (∀ k : Nat, k < 32 → bt (u c 4) k = true → (k : Int) < (f 3).toInt) ∧ (∀ k : Nat, k < 32 → bt (u c 5) k = true → bt (u c 4) k = true)
theorem CR_c {c : Nat} {u v : xs_S} {f : Nat → Int32} (h : ∀ k : Nat, c ≤ k → k ≤ c + 5 → v k = u k) (hc : CR c u f) : CR c v f := by
  unfold CR at hc ⊢
  rw [h c (by omega) (by omega), h (c + 1) (by omega) (by omega), h (c + 2) (by omega) (by omega), h (c + 3) (by omega) (by omega), h (c + 4) (by omega) (by omega), h (c + 5) (by omega) (by omega)]
  exact hc
theorem CR_f {c : Nat} {u : xs_S} {f g : Nat → Int32} (h : ∀ j : Nat, j < 111 → g j = f j) (hc : CR c u f) : CR c u g := by
  obtain ⟨h1, h2, h3, h4⟩ := hc
  refine ⟨?_, fun k hk => ?_, ?_, h4⟩
  · rw [h 0 (by decide), h 1 (by decide), h 2 (by decide), h 3 (by decide), h 4 (by decide), h 5 (by decide)]
    exact h1
  · rw [h (6 + 7 * k) (by omega), h (12 + 7 * k) (by omega), h (7 + 7 * k) (by omega), h (8 + 7 * k) (by omega), h (9 + 7 * k) (by omega), h (10 + 7 * k) (by omega), h (11 + 7 * k) (by omega)]
    exact h2 k hk
  · rw [h 3 (by decide)]
    exact h3
theorem RO_f {f g : Nat → Int32} (h : ∀ j : Nat, j < 111 → g j = f j) (hc : RowOK f) : RowOK g := by
  obtain ⟨h1, h2⟩ := hc
  refine ⟨?_, fun k hk => ?_⟩
  · rw [h 0 (by decide), h 1 (by decide), h 2 (by decide), h 3 (by decide)]
    exact h1
  · rw [h (6 + 7 * k) (by omega), h (12 + 7 * k) (by omega), h (7 + 7 * k) (by omega), h (8 + 7 * k) (by omega), h (9 + 7 * k) (by omega), h 2 (by decide)]
    exact h2 k hk
theorem cp15_s {f g : Nat → Int32} {j : Nat} (h : j < 15) : xs_cp15 f g j = f j := by
  rw [← xs_cp15_eq]
  unfold va_cpy
  rw [if_pos ⟨Nat.zero_le _, by omega⟩, Nat.zero_add, Nat.sub_zero]
theorem cp_o {u : xs_S} {a b i : Nat} (hi : i < 8) : xs_cpc u a b b i = u a i := by
  unfold xs_cpc
  rw [xs_ur_n (by omega), xs_ur_n (by omega), xs_ur_n (by omega), xs_ur_n (by omega), xs_ur_n (by omega)]
  match i, hi with
  | 0, _ => rw [xs_rd_i (by decide), xs_rd_i (by decide), xs_rd_i (by decide), xs_rd_i (by decide), xs_rd_i (by decide), xs_rd_i (by decide), xs_rd_i (by decide), xs_rd_s]
  | 1, _ => rw [xs_rd_i (by decide), xs_rd_i (by decide), xs_rd_i (by decide), xs_rd_i (by decide), xs_rd_i (by decide), xs_rd_i (by decide), xs_rd_s]
  | 2, _ => rw [xs_rd_i (by decide), xs_rd_i (by decide), xs_rd_i (by decide), xs_rd_i (by decide), xs_rd_i (by decide), xs_rd_s]
  | 3, _ => rw [xs_rd_i (by decide), xs_rd_i (by decide), xs_rd_i (by decide), xs_rd_i (by decide), xs_rd_s]
  | 4, _ => rw [xs_rd_i (by decide), xs_rd_i (by decide), xs_rd_i (by decide), xs_rd_s]
  | 5, _ => rw [xs_rd_i (by decide), xs_rd_i (by decide), xs_rd_s]
  | 6, _ => rw [xs_rd_i (by decide), xs_rd_s]
  | 7, _ => rw [xs_rd_s]
theorem cp_a1 {u : xs_S} {a b k : Nat} (hk : k < 15) : xs_cpc u a b (b + 1) k = u (a + 1) k := by
  unfold xs_cpc
  rw [xs_ur_n (by omega), xs_ur_n (by omega), xs_ur_n (by omega), xs_ur_n (by omega), xs_ur_s, cp15_s hk]
theorem cp_a2 {u : xs_S} {a b k : Nat} (hk : k < 15) : xs_cpc u a b (b + 2) k = u (a + 2) k := by
  unfold xs_cpc
  rw [xs_ur_n (by omega), xs_ur_n (by omega), xs_ur_n (by omega), xs_ur_s, cp15_s hk]
theorem cp_a3 {u : xs_S} {a b k : Nat} (hk : k < 15) : xs_cpc u a b (b + 3) k = u (a + 3) k := by
  unfold xs_cpc
  rw [xs_ur_n (by omega), xs_ur_n (by omega), xs_ur_s, cp15_s hk]
theorem cp_a4 {u : xs_S} {a b k : Nat} (hk : k < 15) : xs_cpc u a b (b + 4) k = u (a + 4) k := by
  unfold xs_cpc
  rw [xs_ur_n (by omega), xs_ur_s, cp15_s hk]
theorem cp_a5 {u : xs_S} {a b k : Nat} (hk : k < 15) : xs_cpc u a b (b + 5) k = u (a + 5) k := by
  unfold xs_cpc
  rw [xs_ur_s, cp15_s hk]
/-- a court's copy is that court -/
theorem CR_cp {a b : Nat} {u : xs_S} {f : Nat → Int32} (hc : CR a u f) : CR b (xs_cpc u a b) f := by
  obtain ⟨h1, h2, h3, h4⟩ := hc
  unfold CR
  rw [cp_o (by decide), cp_o (by decide), cp_o (by decide), cp_o (by decide), cp_o (by decide), cp_o (by decide), cp_o (by decide), cp_o (by decide)]
  refine ⟨h1, fun k hk => ?_, h3, h4⟩
  rw [cp_a1 hk, cp_a2 hk, cp_a3 hk, cp_a4 hk, cp_a5 hk]
  exact h2 k hk
theorem CR_cpn {a b c : Nat} {u : xs_S} {f : Nat → Int32} (h : c + 5 < b ∨ b + 5 < c) (hc : CR c u f) : CR c (xs_cpc u a b) f := CR_c (fun k h1 h2 => cp_n (by omega)) hc
/-! changes of a court, and of a row: over memories of their own -/
theorem bt_m {x : Int32} {j : Nat} (hj : j < 31) : (((x >>> (nI j &&& 31)) &&& 1) = 1) = (bt x j = true) := propext (bt_i hj)
theorem hd_if {u : xs_S} {k : Nat} (hk : k < 15) : F_X1_hasReading u (nI k) = if bt (u 1 4) k = true then 1 else 0 := by
  unfold F_X1_hasReading
  by_cases h : bt (u 1 4) k = true
  · rw [if_pos h, if_pos ((bt_i (by omega)).mpr h)]
  · rw [if_neg h, if_neg (fun h2 => h ((bt_i (by omega)).mp h2))]
theorem st_if {u : xs_S} {k : Nat} (hk : k < 15) : F_X1_isStruck u (nI k) = if bt (u 1 5) k = true then 1 else 0 := by
  unfold F_X1_isStruck
  by_cases h : bt (u 1 5) k = true
  · rw [if_pos h, if_pos ((bt_i (by omega)).mpr h)]
  · rw [if_neg h, if_neg (fun h2 => h ((bt_i (by omega)).mp h2))]