/-! what a call of the class leaves of the reference's memory -/
theorem cs_n {st : xs_S} {a b : Int32} {k : Nat} (hk : k ≠ 1) : (F_X1_changeSetting st a b).2 k = st k := by
  unfold F_X1_changeSetting
  repeat' (with_reducible refine it_n ?_ ?_)
  all_goals first | with_reducible rfl | exact xs_rd_k hk
theorem fz_set {st : xs_S} {a b : Int32} {k : Nat} (hk : 71 < k) : (F_X6_set st a b).2 k = st k := by
  unfold F_X6_set
  dsimp only
  rw [kp_n (by omega), cs_n (by omega), dr_n (by omega)]
theorem fz_dial {st : xs_S} {k : Nat} (hk : 71 < k) : (F_X6_dial st).2 k = st k := by
  unfold F_X6_dial
  dsimp only
  rw [kp_n (by omega), ad_n (by omega), dr_n (by omega)]
theorem fz_read {st : xs_S} {a b c : Int32} {k : Nat} (hk : 71 < k) : (F_X6_read st a b c).2 k = st k := by
  unfold F_X6_read
  dsimp only
  rw [kp_n (by omega), tr_n (by omega), dr_n (by omega)]
theorem fz_pass {st : xs_S} {a : Int32} {k : Nat} (hk : 71 < k) : (F_X6_pass st a).2 k = st k := by
  unfold F_X6_pass
  dsimp only
  rw [kp_n (by omega), lpass_n (by omega), dr_n (by omega)]
theorem fz_agree {st : xs_S} {k : Nat} (hk : 71 < k) : (F_X6_agree st).2 k = st k := by
  unfold F_X6_agree
  dsimp only
  rw [kp_n (by omega), fh_n (by omega), dr_n (by omega)]
theorem fz_best {st : xs_S} {a : Int32} {k : Nat} (hk : 71 < k) : (F_X6_best st a).2 k = st k := by
  unfold F_X6_best
  repeat' (with_reducible refine it_n ?_ ?_)
  all_goals first | with_reducible rfl | (dsimp only; exact gn_n (k := k) (Or.inr (by omega)))
theorem fz_end {st : xs_S} {a b : Int32} {k : Nat} (hk : 71 < k) : (F_X6_end st a b).2 k = st k := by
  unfold F_X6_end
  repeat' (with_reducible refine it_n ?_ ?_)
  all_goals first | with_reducible rfl | (dsimp only; exact gn_n (k := k) (Or.inr (by omega)))
theorem fz_overlap {st : xs_S} {a : Int32} {k : Nat} (hk : 71 < k) : (F_X6_overlap st a).2 k = st k := by
  unfold F_X6_overlap
  repeat' (with_reducible refine it_n ?_ ?_)
  all_goals first | with_reducible rfl | (dsimp only; exact gn_n (k := k) (Or.inr (by omega)))
theorem fz_allowing {st : xs_S} {a b : Int32} {k : Nat} (hk : 71 < k) : (F_X6_allowing st a b).2 k = st k := by
  unfold F_X6_allowing
  repeat' (with_reducible refine it_n ?_ ?_)
  all_goals first | with_reducible rfl | (dsimp only; exact gn_n (k := k) (Or.inr (by omega)))
theorem fz_fewest {st : xs_S} {k : Nat} (hk : 71 < k) : (F_X6_fewest st).2 k = st k := by
  unfold F_X6_fewest
  repeat' (with_reducible refine it_n ?_ ?_)
  all_goals first | with_reducible rfl | (dsimp only; exact gn_n (k := k) (Or.inr (by omega)))
theorem fz_without {st : xs_S} {a : Int32} {k : Nat} (hk : 71 < k) : (F_X6_without st a).2 k = st k := by
  unfold F_X6_without
  repeat' (with_reducible refine it_n ?_ ?_)
  all_goals first | with_reducible rfl | (dsimp only; exact gn_n (k := k) (Or.inr (by omega)))
theorem hte_n {m : Int32} {k : Nat} (hk : 71 < k) : ∀ (n : Nat) (x y : Int32) (s : xs_S), (lp_X6_hoursTooEarly_6 m n x y s).2 k = s k := by
  intro n
  induction n with
  | zero => intro x y s; rfl
  | succ n ih =>
    intro x y s
    unfold lp_X6_hoursTooEarly_6
    repeat' split
    all_goals first | with_reducible rfl | rw [ih, ga_n (by omega)]
theorem fz_widerIn {st : xs_S} {a : Int32} {k : Nat} (hk : 71 < k) : (F_X6_widerIn st a).2 k = st k := by
  unfold F_X6_widerIn
  repeat' (with_reducible refine it_n ?_ ?_)
  all_goals first | with_reducible rfl | (dsimp only; unfold F_X6_hoursTooEarly; exact hte_n hk _ _ _ _)
theorem fz_mean {st : xs_S} {k : Nat} (hk : 71 < k) : (F_X6_mean st).2 k = st k := by
  unfold F_X6_mean
  (dsimp only; exact gn_n (k := k) (Or.inr (by omega)))
theorem fz_share {st : xs_S} {k : Nat} (hk : 71 < k) : (F_X6_share st).2 k = st k := by
  unfold F_X6_share
  (dsimp only; exact gn_n (k := k) (Or.inr (by omega)))
theorem ap_n {c : Int64} {m : Int32} {k : Nat} (hk : 71 < k) : ∀ (n : Nat) (x : Int32) (s : xs_S), lp_X3_append_5 c m n x s k = s k := by
  intro n
  induction n with
  | zero => intro x s; rfl
  | succ n ih =>
    intro x s
    unfold lp_X3_append_5
    repeat' split
    all_goals first | with_reducible rfl | rw [ih, xs_rd_k (by omega), xs_rd_k (by omega)]
theorem fz_put {st : xs_S} {c : Int64} {k : Nat} (hk : 71 < k) : (F_X6_put st c).2 k = st k := by
  unfold F_X6_put
  repeat' (with_reducible refine it_n ?_ ?_)
  all_goals first | with_reducible rfl | (dsimp only; unfold F_X3_append; exact ap_n hk _ _ _)
theorem fz_wipe {st : xs_S} {k : Nat} (hk : 71 < k) : (F_X6_wipe st).2 k = st k := by
  unfold F_X6_wipe F_X3_clear
  dsimp only
  exact xs_rd_k (k' := k) (by omega)
theorem fz_fault {st : xs_S} {k : Nat} (hk : 71 < k) : (F_X6_fault st).2 k = st k := by
  unfold F_X6_fault
  dsimp only
  exact ff_n (k := k) (by omega)
theorem fz_carryOut {st : xs_S} {k : Nat} (hk : 71 < k) : (F_X6_carryOut st).2 k = st k := by
  unfold F_X6_carryOut
  refine it_n ?_ ?_
  · rw [lc_n (k := k) (by omega) (by omega)]
    unfold F_X3_startReading
    rw [xs_rd_k (by omega), dr_n (by omega), ff_n (by omega)]
  · dsimp only
    exact ff_n (k := k) (by omega)
theorem fz_undo {st : xs_S} {k : Nat} (hk : 71 < k) : (F_X6_undo st).2 k = st k := by
  unfold F_X6_undo F_X2_takeBack
  dsimp only
  split
  · rfl
  · dsimp only
    rw [cp_n (by omega), xs_rd_k (by omega)]
theorem hs_lt {st : xs_S} {a : Int32} (h : ¬ F_X4_hasSlot st a = 0) : a.toInt.toNat < 2 := by
  unfold F_X4_hasSlot at h
  by_cases h1 : a < 0
  · rw [if_pos h1] at h
    exact absurd rfl h
  · rw [if_neg h1] at h
    by_cases h2 : 2 ≤ a
    · rw [if_pos h2] at h
      exact absurd rfl h
    · rw [xi_lt, xi_0] at h1
      rw [xi_le, show (2 : Int32).toInt = 2 by decide] at h2
      omega
theorem fz_save {st : xs_S} {a : Int32} {k : Nat} (hk : 71 < k) : (F_X6_save st a).2 k = st k := by
  unfold F_X6_save
  by_cases h : F_X4_hasSlot st a = 0
  · rw [if_pos h]
  · rw [if_neg h]
    have h2 := hs_lt h
    unfold F_X4_keepIn
    dsimp only
    rw [xs_rd_k (by omega), cp_n (by omega)]
theorem fz_restore {st : xs_S} {a : Int32} {k : Nat} (hk : 71 < k) : (F_X6_restore st a).2 k = st k := by
  unfold F_X6_restore
  by_cases h : F_X4_hasSlot st a = 0
  · rw [if_pos h]
  · rw [if_neg h]
    by_cases h3 : F_X4_isFilled st a = 0
    · rw [if_pos h3]
    · rw [if_neg h3]
      dsimp only
      unfold F_X4_giveBack
      rw [kp_n (by omega), cp_n (by omega), dr_n (by omega)]
/-! what the relation says of a memory -/
theorem iv_h {st : xs_S} (hI : Inv st) : 0 ≤ (st 72 5).toInt ∧ (st 72 5).toInt ≤ 6 := by
  obtain ⟨o, n, ho, hn, e1, e2, e5, hi⟩ := hI.2.2.1
  rw [e5, nI_toInt (by omega)]
  omega
theorem iv_R {st : xs_S} (hI : Inv st) : RowOK (st 73) := hI.2.1
theorem iv_l {st : xs_S} (hI : Inv st) : 0 ≤ (st 72 7).toInt ∧ (st 72 7).toInt ≤ 80 := hI.2.2.2.2.2.1
theorem iv_d {st : xs_S} (hI : Inv st) : 0 ≤ (st 1 3).toInt ∧ (st 1 3).toInt ≤ 15 := by
  rw [hI.1.1.2.2.2.1]
  exact ro_D hI.2.1
theorem iv_p {st : xs_S} (hI : Inv st) : PW (F_X3_startReading st) := pd_pw hI.2.2.2.2
theorem iv_k {st : xs_S} (hI : Inv st) : KR (st 70 3) := hI.2.2.2.2.2.2.2
theorem iv_7 {st : xs_S} (hI : Inv st) : 0 ≤ (st 70 1).toInt := by
  rw [hI.2.2.2.2.1]
  exact (iv_l hI).1
theorem iv_s {st : xs_S} (hI : Inv st) : ∀ j : Nat, j < 2 → st 57 j = 0 ∨ st 57 j = 1 := fun j hj => (hI.2.2.2.1 j hj).1
