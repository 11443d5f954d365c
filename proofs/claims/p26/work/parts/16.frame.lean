theorem cp_n {st : xs_S} {a b k : Nat} (h : k < b ∨ b + 5 < k) : xs_cpc st a b k = st k := by
  unfold xs_cpc
  rw [xs_ur_n (by omega), xs_ur_n (by omega), xs_ur_n (by omega), xs_ur_n (by omega), xs_ur_n (by omega), xs_rd_k (by omega), xs_rd_k (by omega), xs_rd_k (by omega), xs_rd_k (by omega), xs_rd_k (by omega), xs_rd_k (by omega), xs_rd_k (by omega), xs_rd_k (by omega)]
theorem dr_n {st : xs_S} {k : Nat} (h : k < 13 ∨ 54 < k) : F_X2_draft st k = st k := by
  have hj := pl_lt st (st 11 2)
  exact cp_n (by omega)
theorem fr_ga {t l : Int32} : ∀ (n : Nat) (x : Int32) (s : xs_S) (k : Nat), k ≠ 7 → k ≠ 8 → k ≠ 9 → k ≠ 10 → lp_X5_gather_8 t l n x s k = s k := by
  intro n
  induction n with
  | zero => intro x s k h7 h8 h9 h10; rfl
  | succ n ih =>
    intro x s k h7 h8 h9 h10
    unfold lp_X5_gather_8
    repeat' split
    all_goals first | with_reducible rfl | (rw [ih _ _ _ h7 h8 h9 h10]; done) | rw [ih _ _ _ h7 h8 h9 h10, xs_rd_k h7, xs_rd_k h10, xs_rd_k h9, xs_rd_k h8]
theorem ga_n {st : xs_S} {t l : Int32} {k : Nat} (h : k < 7 ∨ 10 < k) : F_X5_gather st t l k = st k := by
  unfold F_X5_gather
  rw [fr_ga _ _ _ _ (by omega) (by omega) (by omega) (by omega), xs_rd_k (by omega)]
theorem ga_szl {t l : Int32} : ∀ (n : Nat) (x : Int32) (s : xs_S), (xs_lo x 15 n ∧ 0 ≤ (s 7 3).toInt ∧ (s 7 3).toInt ≤ x.toInt) → 0 ≤ (lp_X5_gather_8 t l n x s 7 3).toInt ∧ (lp_X5_gather_8 t l n x s 7 3).toInt ≤ 15 := by
  intro n
  induction n with
  | zero => intro x s h; exact (xs_lo0 h.1).elim
  | succ n ih =>
    intro x s h
    have h15 : (15 : Int32).toInt = 15 := by decide
    unfold lp_X5_gather_8
    by_cases hc : 15 ≤ x
    · rw [if_pos hc]
      have h2 := h.1.2.1
      omega
    · rw [if_neg hc]
      repeat' split
      all_goals first | exact ih _ _ (xs_ga h hc) | exact ih _ _ (xs_gb h hc)
theorem ga_sz {st : xs_S} {t l : Int32} : 0 ≤ (F_X5_gather st t l 7 3).toInt ∧ (F_X5_gather st t l 7 3).toInt ≤ 15 := by
  unfold F_X5_gather
  exact ga_szl _ _ _ xs_g0
def F_X6_gatherNow (st : xs_S) (leftOut : Int32) : xs_S := (F_X5_gather st (F_X1_now st) leftOut)
set_option maxRecDepth 20000 in
theorem c_X6_gatherNow {G : xs_G} {base : Nat} (d : Nat) (st : xs_S) (leftOut : Int32) : xs_K (xc G) base (d + 4) M_X6_gatherNow [.ref 0, .int leftOut] st (fun v u => v = none ∧ u = F_X6_gatherNow st leftOut) := by
  refine xs_intro ok_X6_gatherNow [(0, .ref 0), (1, .int leftOut)] rfl rfl ?_
  refine xr_blk gd_X6_gatherNow 6 (c' := (12, [(0, .ref 0), (1, .int leftOut)], [.ref 1, .ref 1, .ref 7], st)) rfl ?_
  refine xr_callV gd_X6_gatherNow gd_X1_now k_X6_89 rfl (c_X1_now (d + 3) st) (by omega) rfl rfl rfl rfl rfl ?_
  refine xs_fun ?_
  refine xr_blk gd_X6_gatherNow 1 (c' := (16, [(0, .ref 0), (1, .int leftOut)], [.int leftOut, .int (F_X1_now st), .ref 1, .ref 7], st)) rfl ?_
  refine xr_callV gd_X6_gatherNow gd_X5_gather k_X6_92 rfl (c_X5_gather (d + 0) st (F_X1_now st) leftOut) (by omega) rfl rfl rfl rfl rfl ?_
  refine xs_fun ?_
  exact xr_vret gd_X6_gatherNow rfl rfl ⟨rfl, by first | (rw [F_X6_gatherNow]; done) | (rw [F_X6_gatherNow]; rfl)⟩
theorem gn_sz {st : xs_S} {l : Int32} : 0 ≤ (F_X6_gatherNow st l 7 3).toInt ∧ (F_X6_gatherNow st l 7 3).toInt ≤ 15 := ga_sz
theorem gn_n {st : xs_S} {l : Int32} {k : Nat} (h : k < 7 ∨ 10 < k) : F_X6_gatherNow st l k = st k := ga_n h
theorem fr_ju {h o : Int32} : ∀ (n : Nat) (j x : Int32) (s : xs_S) (k : Nat), k ≠ 1 → k ≠ 5 → k ≠ 6 → lp_X1_judge_8 h o n j x s k = s k := by
  intro n
  induction n with
  | zero => intro j x s k h1 h5 h6; rfl
  | succ n ih =>
    intro j x s k h1 h5 h6
    unfold lp_X1_judge_8
    have hcl : ∀ d : Int32, F_X1_countLie s d k = s k := by
      intro d
      unfold F_X1_countLie
      split <;> first | rw [xs_rd_k h6, xs_rd_k h5] | rw [xs_rd_k h1, xs_rd_k h6, xs_rd_k h5]
    repeat' split
    all_goals first | (rw [ih _ _ _ _ h1 h5 h6]; done) | rw [ih _ _ _ _ h1 h5 h6, xs_rd_k h6] | rw [ih _ _ _ _ h1 h5 h6, hcl] | rw [xs_rd_k h1, xs_rd_k h1]
theorem ju_n {st : xs_S} {h o : Int32} {k : Nat} (hk : k ≠ 1 ∧ k ≠ 5 ∧ k ≠ 6) : F_X1_judge st h o k = st k := by
  unfold F_X1_judge
  exact fr_ju _ _ _ _ _ hk.1 hk.2.1 hk.2.2
theorem fr_ju3 {h o : Int32} : ∀ (n : Nat) (j x : Int32) (s : xs_S) (i : Nat), i ≠ 5 → i ≠ 6 → i ≠ 7 → lp_X1_judge_8 h o n j x s 1 i = s 1 i := by
  intro n
  induction n with
  | zero => intro j x s i h5 h6 h7; rfl
  | succ n ih =>
    intro j x s i h5 h6 h7
    unfold lp_X1_judge_8
    have hcl : ∀ d : Int32, F_X1_countLie s d 1 i = s 1 i := by
      intro d
      unfold F_X1_countLie
      split <;> first | rw [xs_rd_k (by decide), xs_rd_k (by decide)] | rw [xs_rd_i h5, xs_rd_k (by decide), xs_rd_k (by decide)]
    repeat' split
    all_goals first | (rw [ih _ _ _ _ h5 h6 h7]; done) | rw [ih _ _ _ _ h5 h6 h7, xs_rd_k (by decide)] | rw [ih _ _ _ _ h5 h6 h7, hcl] | rw [xs_rd_i h7, xs_rd_i h6]
theorem ju_1 {st : xs_S} {h o : Int32} {i : Nat} (hi : i ≠ 5 ∧ i ≠ 6 ∧ i ≠ 7) : F_X1_judge st h o 1 i = st 1 i := by
  unfold F_X1_judge
  exact fr_ju3 _ _ _ _ _ hi.1 hi.2.1 hi.2.2
