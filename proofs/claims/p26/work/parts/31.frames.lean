/-! the asking calls: what they leave; the mean and the share where nothing has a span -/
theorem fr_best {st : xs_S} {a : Int32} {k : Nat} (hk : k < 7 ∨ 10 < k) : (F_X6_best st a).2 k = st k := by
  unfold F_X6_best
  repeat' (with_reducible refine it_n ?_ ?_)
  all_goals first | with_reducible rfl | (dsimp only; exact gn_n (k := k) hk)
theorem fr_end {st : xs_S} {a b : Int32} {k : Nat} (hk : k < 7 ∨ 10 < k) : (F_X6_end st a b).2 k = st k := by
  unfold F_X6_end
  repeat' (with_reducible refine it_n ?_ ?_)
  all_goals first | with_reducible rfl | (dsimp only; exact gn_n (k := k) hk)
theorem fr_overlap {st : xs_S} {a : Int32} {k : Nat} (hk : k < 7 ∨ 10 < k) : (F_X6_overlap st a).2 k = st k := by
  unfold F_X6_overlap
  repeat' (with_reducible refine it_n ?_ ?_)
  all_goals first | with_reducible rfl | (dsimp only; exact gn_n (k := k) hk)
theorem fr_allowing {st : xs_S} {a b : Int32} {k : Nat} (hk : k < 7 ∨ 10 < k) : (F_X6_allowing st a b).2 k = st k := by
  unfold F_X6_allowing
  repeat' (with_reducible refine it_n ?_ ?_)
  all_goals first | with_reducible rfl | (dsimp only; exact gn_n (k := k) hk)
theorem fr_fewest {st : xs_S} {k : Nat} (hk : k < 7 ∨ 10 < k) : (F_X6_fewest st).2 k = st k := by
  unfold F_X6_fewest
  repeat' (with_reducible refine it_n ?_ ?_)
  all_goals first | with_reducible rfl | (dsimp only; exact gn_n (k := k) hk)
theorem fr_hte {m : Int32} {k : Nat} (hk : k < 7 ∨ 10 < k) : ∀ (n : Nat) (x y : Int32) (s : xs_S), (lp_X6_hoursTooEarly_6 m n x y s).2 k = s k := by
  intro n
  induction n with
  | zero => intro x y s; rfl
  | succ n ih =>
    intro x y s
    unfold lp_X6_hoursTooEarly_6
    repeat' split
    all_goals first | with_reducible rfl | rw [ih, ga_n hk]
theorem fr_widerIn {st : xs_S} {a : Int32} {k : Nat} (hk : k < 7 ∨ 10 < k) : (F_X6_widerIn st a).2 k = st k := by
  unfold F_X6_widerIn
  repeat' (with_reducible refine it_n ?_ ?_)
  all_goals first | with_reducible rfl | (dsimp only; unfold F_X6_hoursTooEarly; exact fr_hte hk _ _ _ _)
def F_X6_share (st : xs_S) : Int32 × xs_S := (0, F_X6_gatherNow st (-1))
def F_X6_mean (st : xs_S) : Int64 × xs_S := (0, F_X6_gatherNow st (-1))
theorem f1_best {st : xs_S} {a : Int32} : (F_X6_best st a).2 1 = st 1 := fr_best (by decide)
theorem f1_end {st : xs_S} {a b : Int32} : (F_X6_end st a b).2 1 = st 1 := fr_end (by decide)
theorem f1_overlap {st : xs_S} {a : Int32} : (F_X6_overlap st a).2 1 = st 1 := fr_overlap (by decide)
theorem f1_allowing {st : xs_S} {a b : Int32} : (F_X6_allowing st a b).2 1 = st 1 := fr_allowing (by decide)
theorem f1_fewest {st : xs_S} : (F_X6_fewest st).2 1 = st 1 := fr_fewest (by decide)
theorem f1_widerIn {st : xs_S} {a : Int32} : (F_X6_widerIn st a).2 1 = st 1 := fr_widerIn (by decide)
theorem fr_share {st : xs_S} {k : Nat} (hk : k < 7 ∨ 10 < k) : (F_X6_share st).2 k = st k := by
  unfold F_X6_share
  show F_X6_gatherNow st (-1) k = st k
  exact gn_n hk
theorem fr_mean {st : xs_S} {k : Nat} (hk : k < 7 ∨ 10 < k) : (F_X6_mean st).2 k = st k := by
  unfold F_X6_mean
  show F_X6_gatherNow st (-1) k = st k
  exact gn_n hk
theorem f1_share {st : xs_S} : (F_X6_share st).2 1 = st 1 := fr_share (by decide)
theorem f1_mean {st : xs_S} : (F_X6_mean st).2 1 = st 1 := fr_mean (by decide)
theorem zsh (x : Int32) : ((0 : Int32) >>> (x &&& 31)) &&& 1 = 0 := by
  have h : (0 : Int32) >>> (x &&& 31) = 0 := by
    apply Int32.toBitVec_inj.mp
    rw [Int32.toBitVec_shiftRight]
    show (0#32).sshiftRight _ = 0#32
    exact BitVec.zero_sshiftRight
  rw [h]
  rfl
theorem g_e0 {t l : Int32} : ∀ (n : Nat) (x : Int32) (s : xs_S), (s 1 4) &&& ((s 1 5) ^^^ (-1)) = 0 → lp_X5_gather_8 t l n x s 7 3 = s 7 3 := by
  intro n
  induction n with
  | zero => intro x s h; rfl
  | succ n ih =>
    intro x s h
    have hs : F_X1_hasSpan s x = 0 := by
      unfold F_X1_hasSpan F_X1_dialsWithSpans
      rw [h, zsh, if_neg (by decide)]
    unfold lp_X5_gather_8
    rw [if_pos hs]
    repeat' split
    all_goals first | rfl | exact ih _ _ h
theorem g_em {st : xs_S} {l : Int32} (h : (st 1 4) &&& ((st 1 5) ^^^ (-1)) = 0) : F_X6_gatherNow st l 7 3 = 0 := by
  unfold F_X6_gatherNow F_X5_gather
  rw [g_e0 _ _ _ (by rw [xs_rd_k (by decide)]; exact h), xs_rd_s]
set_option maxRecDepth 20000 in
theorem c_X5_wm0 {G : xs_G} {base : Nat} (d : Nat) (st : xs_S) (hz : st 7 3 = 0) : xs_K (xc G) base (d + 0) M_X5_weightedMean [.ref 7] st (fun v u => v = some (.double FP.dconst0) ∧ u = st) := by
  refine xs_intro ok_X5_weightedMean [(0, .ref 7)] rfl rfl ?_
  refine xr_blk gd_X5_weightedMean 9 (c' := (13, [(0, .ref 7), (1, .double FP.dconst0), (3, .double FP.dconst0), (5, .int 0)], [.int (st 7 3), .int 0], st)) rfl ?_
  refine xr_br gd_X5_weightedMean rfl rfl (fun _ => ?_) (fun h => absurd (show st 7 3 ≤ 0 by rw [hz]; decide) h)
  refine xr_blk gd_X5_weightedMean 3 (c' := (82, [(0, .ref 7), (1, .double FP.dconst0), (3, .double FP.dconst0), (5, .int 0)], [.int (Op.cmpValue (FP.dcmp FP.dconst0 FP.dconst0) .l)], st)) rfl ?_
  refine xr_br gd_X5_weightedMean rfl rfl (fun _ => ?_) (fun h => absurd (show Op.cmpValue (FP.dcmp FP.dconst0 FP.dconst0) .l ≤ 0 by decide +kernel) h)
  refine xr_blk gd_X5_weightedMean 1 (c' := (92, [(0, .ref 7), (1, .double FP.dconst0), (3, .double FP.dconst0), (5, .int 0)], [.double FP.dconst0], st)) rfl ?_
  exact xr_dret gd_X5_weightedMean rfl rfl ⟨rfl, rfl⟩
theorem c_X0_od0 {G : xs_G} {base : Nat} (d : Nat) (st : xs_S) : xs_K (xc G) base (d + 0) M_X0_ofDouble [.double FP.dconst0] st (fun v u => v = some (.long 0) ∧ u = st) := by
  refine xs_intro ok_X0_ofDouble [(0, .double FP.dconst0)] rfl rfl ?_
  refine xr_blk gd_X0_ofDouble 3 (c' := (3, [(0, .double FP.dconst0)], [.int (Op.cmpValue (FP.dcmp FP.dconst0 FP.dconst0) .g)], st)) rfl ?_
  refine xr_br gd_X0_ofDouble rfl rfl (fun h => absurd h (show ¬ 0 < Op.cmpValue (FP.dcmp FP.dconst0 FP.dconst0) .g by decide +kernel)) (fun _ => ?_)
  refine xr_blk gd_X0_ofDouble 1 (c' := (7, [(0, .double FP.dconst0)], [.long (Int64.ofNat 0)], st)) rfl ?_
  exact xr_lret gd_X0_ofDouble rfl rfl ⟨rfl, rfl⟩
theorem c_X5_hs0 {G : xs_G} {base : Nat} (d : Nat) (st : xs_S) (hz : st 7 3 = 0) : xs_K (xc G) base (d + 0) M_X5_honestShare [.ref 7] st (fun v u => v = some (.float FP.fconst0) ∧ u = st) := by
  refine xs_intro ok_X5_honestShare [(0, .ref 7)] rfl rfl ?_
  refine xr_blk gd_X5_honestShare 2 (c' := (4, [(0, .ref 7)], [.int (st 7 3)], st)) rfl ?_
  refine xr_br gd_X5_honestShare rfl rfl (fun h => absurd hz h) (fun _ => ?_)
  refine xr_blk gd_X5_honestShare 2 (c' := (22, [(0, .ref 7)], [.float FP.fconst0], st)) rfl ?_
  exact xr_fret gd_X5_honestShare rfl rfl ⟨rfl, rfl⟩
theorem c_X0_of0 {G : xs_G} {base : Nat} (d : Nat) (st : xs_S) : xs_K (xc G) base (d + 0) M_X0_ofFloat [.float FP.fconst0] st (fun v u => v = some (.int 0) ∧ u = st) := by
  refine xs_intro ok_X0_ofFloat [(0, .float FP.fconst0)] rfl rfl ?_
  refine xr_blk gd_X0_ofFloat 3 (c' := (3, [(0, .float FP.fconst0)], [.int (Op.cmpValue (FP.fcmp FP.fconst0 FP.fconst0) .g)], st)) rfl ?_
  refine xr_br gd_X0_ofFloat rfl rfl (fun h => absurd h (show ¬ 0 < Op.cmpValue (FP.fcmp FP.fconst0 FP.fconst0) .g by decide +kernel)) (fun _ => ?_)
  refine xr_blk gd_X0_ofFloat 1 (c' := (7, [(0, .float FP.fconst0)], [.int 0], st)) rfl ?_
  exact xr_iret gd_X0_ofFloat rfl rfl ⟨rfl, rfl⟩
theorem c_X6_mean {G : xs_G} {base : Nat} (d : Nat) (st : xs_S) (h0 : (st 1 4) &&& ((st 1 5) ^^^ (-1)) = 0) : xs_K (xc G) base (d + 5) M_X6_mean [.ref 0] st (fun v u => v = some (.long (F_X6_mean st).1) ∧ u = (F_X6_mean st).2) := by
  refine xs_intro ok_X6_mean [(0, .ref 0)] rfl rfl ?_
  refine xr_blk gd_X6_mean 2 (c' := (2, [(0, .ref 0)], [.int (-1), .ref 0], st)) rfl ?_
  refine xr_callV gd_X6_mean gd_X6_gatherNow k_X6_70 rfl (c_X6_gatherNow (d + 0) st (-1)) (by omega) rfl rfl rfl rfl rfl ?_
  refine xs_fun ?_
  refine xr_blk gd_X6_mean 2 (c' := (9, [(0, .ref 0)], [.ref 7], F_X6_gatherNow st (-1))) rfl ?_
  refine xr_callV gd_X6_mean gd_X5_weightedMean k_X6_141 rfl (c_X5_wm0 (d + 4) (F_X6_gatherNow st (-1)) (g_em h0)) (by omega) rfl rfl rfl rfl rfl ?_
  refine xs_fun ?_
  refine xr_callS gd_X6_mean gd_X0_ofDouble k_X6_145 rfl (c_X0_od0 (d + 4) (F_X6_gatherNow st (-1))) (by omega) rfl rfl rfl ?_
  refine xs_fun ?_
  exact xr_lret gd_X6_mean rfl rfl ⟨rfl, rfl⟩
theorem c_X6_share {G : xs_G} {base : Nat} (d : Nat) (st : xs_S) (h0 : (st 1 4) &&& ((st 1 5) ^^^ (-1)) = 0) : xs_K (xc G) base (d + 5) M_X6_share [.ref 0] st (fun v u => v = some (.int (F_X6_share st).1) ∧ u = (F_X6_share st).2) := by
  refine xs_intro ok_X6_share [(0, .ref 0)] rfl rfl ?_
  refine xr_blk gd_X6_share 2 (c' := (2, [(0, .ref 0)], [.int (-1), .ref 0], st)) rfl ?_
  refine xr_callV gd_X6_share gd_X6_gatherNow k_X6_70 rfl (c_X6_gatherNow (d + 0) st (-1)) (by omega) rfl rfl rfl rfl rfl ?_
  refine xs_fun ?_
  refine xr_blk gd_X6_share 2 (c' := (9, [(0, .ref 0)], [.ref 7], F_X6_gatherNow st (-1))) rfl ?_
  refine xr_callV gd_X6_share gd_X5_honestShare k_X6_151 rfl (c_X5_hs0 (d + 4) (F_X6_gatherNow st (-1)) (g_em h0)) (by omega) rfl rfl rfl rfl rfl ?_
  refine xs_fun ?_
  refine xr_callS gd_X6_share gd_X0_ofFloat k_X6_155 rfl (c_X0_of0 (d + 4) (F_X6_gatherNow st (-1))) (by omega) rfl rfl rfl ?_
  refine xs_fun ?_
  exact xr_iret gd_X6_share rfl rfl ⟨rfl, rfl⟩
theorem kp_n {s : xs_S} {r : Int32} {k : Nat} (h : k ≠ 11) : (F_X2_keep s r).2 k = s k := by
  unfold F_X2_keep
  repeat' split
  all_goals first | with_reducible rfl | exact xs_rd_k h
theorem cs_n {st : xs_S} {a b : Int32} {k : Nat} (hk : k ≠ 1) : (F_X1_changeSetting st a b).2 k = st k := by
  unfold F_X1_changeSetting
  repeat' (with_reducible refine it_n ?_ ?_)
  all_goals first | with_reducible rfl | exact xs_rd_k hk
theorem dr_1 {st : xs_S} : F_X2_draft st 1 = st 1 := dr_n (by decide)
theorem count1 {st : xs_S} : F_X6_count st 1 = st 1 3 := rfl
theorem f13_read {st : xs_S} {a b c : Int32} : (F_X6_read st a b c).2 1 3 = st 1 3 := by
  unfold F_X6_read
  dsimp only
  rw [kp_n (by decide)]
  unfold F_X1_takeReading
  repeat' split
  all_goals dsimp only
  all_goals first | rw [xs_rd_i (by decide), xs_rd_k (by decide), xs_rd_k (by decide), xs_rd_k (by decide), dr_1] | rw [dr_1]
theorem f13_agree {st : xs_S} : (F_X6_agree st).2 1 3 = st 1 3 := by
  unfold F_X6_agree
  dsimp only
  rw [kp_n (by decide), fh_1 (by decide), dr_1]
theorem f13_dial {st : xs_S} (hds : 0 ≤ (st 1 3).toInt ∧ (st 1 3).toInt ≤ 15) : ((F_X6_dial st).2 1 3).toInt ≤ 15 := by
  unfold F_X6_dial
  dsimp only
  rw [kp_n (by decide)]
  unfold F_X1_addDial
  split
  · rename_i h
    dsimp only
    rw [xs_rd_s, dr_1]
    rw [dr_1, xi_lt, show (15 : Int32).toInt = 15 by decide] at h
    rw [xi_inc (by omega)]
    omega
  · dsimp only
    rw [dr_1]
    exact hds.2
theorem xs_u_72 {st : xs_S} {i : Nat} {v : Int32} : xs_u st 72 i v 1 = st 1 := xs_rd_k (by decide)
theorem xs_u_73 {st : xs_S} {i : Nat} {v : Int32} : xs_u st 73 i v 1 = st 1 := xs_rd_k (by decide)
theorem xs_u_74 {st : xs_S} {i : Nat} {v : Int32} : xs_u st 74 i v 1 = st 1 := xs_rd_k (by decide)
theorem xs_u_75 {st : xs_S} {i : Nat} {v : Int32} : xs_u st 75 i v 1 = st 1 := xs_rd_k (by decide)
theorem xs_ur_73 {st : xs_S} {f : Nat → Int32} : xs_ur st 73 f 1 = st 1 := xs_ur_n (by decide)
theorem xs_ur_74 {st : xs_S} {f : Nat → Int32} : xs_ur st 74 f 1 = st 1 := xs_ur_n (by decide)
theorem xs_ur_75 {st : xs_S} {f : Nat → Int32} : xs_ur st 75 f 1 = st 1 := xs_ur_n (by decide)
theorem cnt1_e {st : xs_S} (h : 0 ≤ (st 1 3).toInt ∧ (st 1 3).toInt ≤ 15) : xs_lo 0 (F_X6_count st 1) 16 := xs_lo_e h.1 (by rw [count1]; omega)
theorem cnt1_i {st : xs_S} {x : Int32} {n : Nat} (h : 0 ≤ (st 1 3).toInt ∧ (st 1 3).toInt ≤ 15) (hinv : xs_lo x (F_X6_count st 1) n) (h1 : ¬ F_X6_count st 1 ≤ x) : 0 ≤ x.toInt ∧ x.toInt < 15 := by
  have := xs_lo_in hinv h1
  rw [count1] at this
  omega
theorem cnt2_0 {st : xs_S} (h : F_X6_count st 2 = 0) : (st 1 4) &&& ((st 1 5) ^^^ (-1)) = 0 := h
theorem bst_e {b : Int32} (h : 0 ≤ b.toInt ∧ b.toInt ≤ 15) : (xs_lo 0 b 16 ∧ b.toInt ≤ 15) ∧ (0 ≤ b.toInt ∧ b.toInt ≤ 15) := ⟨⟨xs_lo_e h.1 (by omega), h.2⟩, h⟩
theorem bst_i {x b : Int32} {n : Nat} (h : xs_lo x b n ∧ b.toInt ≤ 15) (h1 : ¬ b ≤ x) : 0 ≤ x.toInt ∧ x.toInt < 15 := by
  have := xs_lo_in h.1 h1
  omega
theorem agr_e {b : Int32} (h : 0 ≤ b.toInt ∧ b.toInt ≤ 15) : (xs_lo 0 b 16 ∧ (0 ≤ b.toInt ∧ b.toInt ≤ 15)) ∧ (0 ≤ b.toInt ∧ b.toInt ≤ 15) := ⟨⟨xs_lo_e h.1 (by omega), h⟩, h⟩
theorem agr_f {b c : Int32} (h : 0 ≤ b.toInt ∧ b.toInt ≤ 15) (hc : 0 ≤ c.toInt ∧ c.toInt ≤ 15) : (xs_lo 0 b 16 ∧ (0 ≤ b.toInt ∧ b.toInt ≤ 15)) ∧ (0 ≤ c.toInt ∧ c.toInt ≤ 15) := ⟨⟨xs_lo_e h.1 (by omega), h⟩, hc⟩
theorem agr_i {x b : Int32} {n : Nat} (h : xs_lo x b n ∧ (0 ≤ b.toInt ∧ b.toInt ≤ 15)) (h1 : ¬ b ≤ x) : 0 ≤ x.toInt ∧ x.toInt < 15 := by
  have := xs_lo_in h.1 h1
  omega
theorem act_i0 {st : xs_S} (h : 0 ≤ (st 1 3).toInt ∧ (st 1 3).toInt ≤ 15) (h1 : ¬ 15 ≤ F_X6_count st 1) : 0 ≤ (F_X6_count st 1).toInt ∧ (F_X6_count st 1).toInt < 15 := by
  rw [count1] at *
  rw [xi_le, show (15 : Int32).toInt = 15 by decide] at h1
  omega
