theorem fh_n {st : xs_S} {k : Nat} (hk : k = 0 ∨ 10 < k) : (F_X6_findHour st).2 k = st k := by
  unfold F_X6_findHour
  split
  · dsimp only
    rw [ju_n (by omega), gn_n (by omega)]
  · dsimp only
    rw [gn_n (by omega)]
theorem fh_1 {st : xs_S} {i : Nat} (hi : i ≠ 5 ∧ i ≠ 6 ∧ i ≠ 7) : (F_X6_findHour st).2 1 i = st 1 i := by
  unfold F_X6_findHour
  split
  · dsimp only
    rw [ju_1 hi, gn_n (by omega)]
  · dsimp only
    rw [gn_n (by omega)]
theorem pw_c {s u : xs_S} (h0 : u 70 = s 70) (h1 : u 71 = s 71) (h : PW s) : PW u := by
  unfold PW at h ⊢
  rw [h0, h1]
  exact h
theorem ad_n {st : xs_S} {k : Nat} (hk : k ≠ 1) : (F_X1_addDial st).2 k = st k := by
  unfold F_X1_addDial
  split
  · dsimp only
    rw [xs_rd_k hk]
  · rfl
theorem tr_n {st : xs_S} {a b c : Int32} {k : Nat} (hk : k = 0 ∨ 4 < k) : (F_X1_takeReading st a b c).2 k = st k := by
  unfold F_X1_takeReading
  repeat' split
  all_goals try dsimp only
  all_goals first | with_reducible rfl | rw [xs_rd_k (by omega), xs_rd_k (by omega), xs_rd_k (by omega), xs_rd_k (by omega)]
theorem lpass_n {st : xs_S} {a : Int32} {k : Nat} (hk : k ≠ 1) : (F_X1_letPass st a).2 k = st k := by
  unfold F_X1_letPass
  repeat' split
  all_goals try dsimp only
  all_goals first | with_reducible rfl | rw [xs_rd_k hk]
theorem it_n {c : Prop} [Decidable c] {a b : Int32 × xs_S} {k : Nat} {f : Nat → Int32} (ha : a.2 k = f) (hb : b.2 k = f) : (if c then a else b).2 k = f := by
  by_cases h : c
  · rw [if_pos h]; exact ha
  · rw [if_neg h]; exact hb
def KR (x : Int32) : Prop := 0 ≤ x.toInt ∧ x.toInt < 65536
theorem kr_i (P : Int32 → Prop) {c : Prop} [Decidable c] {a b : Int32 × xs_S} (ha : P (a.2 70 3)) (hb : P (b.2 70 3)) : P ((if c then a else b).2 70 3) := by
  by_cases h : c
  · rw [if_pos h]; exact ha
  · rw [if_neg h]; exact hb