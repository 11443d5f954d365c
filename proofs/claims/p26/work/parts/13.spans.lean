def lp_X5_gather_8 (time : Int32) (leftOut : Int32) : Nat → Int32 → xs_S → xs_S
  | 0, _, st => st
  | n + 1, x4, st => (if 15 ≤ x4 then st
    else (if x4 = leftOut then lp_X5_gather_8 time leftOut n (x4 + 1) st
      else (if (F_X1_hasSpan st x4) = 0 then lp_X5_gather_8 time leftOut n (x4 + 1) st
        else lp_X5_gather_8 time leftOut n (x4 + 1) (xs_u (xs_u (xs_u (xs_u st 8 ((st 7 3).toInt.toNat) (F_X1_lowEnd st x4 time)) 9 ((st 7 3).toInt.toNat) (F_X1_highEnd (xs_u st 8 ((st 7 3).toInt.toNat) (F_X1_lowEnd st x4 time)) x4 time)) 10 ((st 7 3).toInt.toNat) x4) 7 3 ((st 7 3) + 1)))))
set_option maxRecDepth 20000 in
theorem cl_X5_gather_8 {G : xs_G} {base : Nat} (d : Nat) (time : Int32) (leftOut : Int32) : ∀ (n : Nat) (x4 : Int32) (st : xs_S), xs_lo x4 15 n ∧ 0 ≤ (st 7 3).toInt ∧ (st 7 3).toInt ≤ x4.toInt → xs_R (xc G) base (d + 3) M_X5_gather (8, [(0, .ref 7), (1, .ref 1), (2, .int time), (3, .int leftOut), (4, .int x4)], [], st) (xs_q (xc G) (fun v u => v = none ∧ u = lp_X5_gather_8 time leftOut n x4 st)) := by
  intro n
  induction n with
  | zero =>
    intro x4 st hinv
    exact (xs_lo0 hinv.1).elim
  | succ n ih =>
    intro x4 st hinv
    refine xr_blk gd_X5_gather 2 (c' := (12, [(0, .ref 7), (1, .ref 1), (2, .int time), (3, .int leftOut), (4, .int x4)], [.int 15, .int x4], st)) rfl ?_
    refine xr_br gd_X5_gather rfl rfl (fun h1 => ?_) (fun h1 => ?_)
    · exact xr_vret gd_X5_gather rfl rfl ⟨rfl, by first | (rw [lp_X5_gather_8, if_pos h1]; done) | (rw [lp_X5_gather_8, if_pos h1]; rfl)⟩
    · refine xr_blk gd_X5_gather 2 (c' := (18, [(0, .ref 7), (1, .ref 1), (2, .int time), (3, .int leftOut), (4, .int x4)], [.int leftOut, .int x4], st)) rfl ?_
      refine xr_br gd_X5_gather rfl rfl (fun h2 => ?_) (fun h2 => ?_)
      · refine xr_blk gd_X5_gather 2 (c' := (8, [(0, .ref 7), (1, .ref 1), (2, .int time), (3, .int leftOut), (4, .int (x4 + 1))], [], st)) rfl ?_
        refine xs_cons (ih (x4 + 1) st (by first | exact xs_ga hinv h1 | exact xs_gb hinv h1)) (fun v u hq => ?_)
        rw [lp_X5_gather_8, if_neg h1, if_pos h2]; exact hq
      · refine xr_blk gd_X5_gather 2 (c' := (24, [(0, .ref 7), (1, .ref 1), (2, .int time), (3, .int leftOut), (4, .int x4)], [.int x4, .ref 1], st)) rfl ?_
        refine xr_callV gd_X5_gather gd_X1_hasSpan k_X5_25 rfl (c_X1_hasSpan (d + 1) st x4) (by omega) rfl rfl rfl rfl rfl ?_
        refine xs_fun ?_
        refine xr_br gd_X5_gather rfl rfl (fun h3 => ?_) (fun h3 => ?_)
        · refine xr_blk gd_X5_gather 2 (c' := (8, [(0, .ref 7), (1, .ref 1), (2, .int time), (3, .int leftOut), (4, .int (x4 + 1))], [], st)) rfl ?_
          refine xs_cons (ih (x4 + 1) st (by first | exact xs_ga hinv h1 | exact xs_gb hinv h1)) (fun v u hq => ?_)
          rw [lp_X5_gather_8, if_neg h1, if_neg h2, if_pos h3]; exact hq
        · refine xr_blk gd_X5_gather 7 (c' := (42, [(0, .ref 7), (1, .ref 1), (2, .int time), (3, .int leftOut), (4, .int x4)], [.int time, .int x4, .ref 1, .int (st 7 3), .ref 8], st)) rfl ?_
          refine xr_callV gd_X5_gather gd_X1_lowEnd k_X5_31 rfl (c_X1_lowEnd (d + 0) st x4 time (xs_lo15 hinv.1 h1)) (by omega) rfl rfl rfl rfl rfl ?_
          refine xs_fun ?_
          refine xr_iast gd_X5_gather rfl rfl ((st 7 3).toInt.toNat) (xs_h1 (n := 15) (xs_gi hinv h1)) (xs_h2 (n := 15) (xs_gi hinv h1)) ?_
          refine xr_blk gd_X5_gather 7 (c' := (58, [(0, .ref 7), (1, .ref 1), (2, .int time), (3, .int leftOut), (4, .int x4)], [.int time, .int x4, .ref 1, .int (st 7 3), .ref 9], xs_u st 8 ((st 7 3).toInt.toNat) (F_X1_lowEnd st x4 time))) rfl ?_
          refine xr_callV gd_X5_gather gd_X1_highEnd k_X5_35 rfl (c_X1_highEnd (d + 0) (xs_u st 8 ((st 7 3).toInt.toNat) (F_X1_lowEnd st x4 time)) x4 time (xs_lo15 hinv.1 h1)) (by omega) rfl rfl rfl rfl rfl ?_
          refine xs_fun ?_
          refine xr_iast gd_X5_gather rfl rfl ((st 7 3).toInt.toNat) (xs_h1 (n := 15) (xs_gi hinv h1)) (xs_h2 (n := 15) (xs_gi hinv h1)) ?_
          refine xr_blk gd_X5_gather 5 (c' := (72, [(0, .ref 7), (1, .ref 1), (2, .int time), (3, .int leftOut), (4, .int x4)], [.int x4, .int (st 7 3), .ref 10], xs_u (xs_u st 8 ((st 7 3).toInt.toNat) (F_X1_lowEnd st x4 time)) 9 ((st 7 3).toInt.toNat) (F_X1_highEnd (xs_u st 8 ((st 7 3).toInt.toNat) (F_X1_lowEnd st x4 time)) x4 time))) rfl ?_
          refine xr_iast gd_X5_gather rfl rfl ((st 7 3).toInt.toNat) (xs_h1 (n := 15) (xs_gi hinv h1)) (xs_h2 (n := 15) (xs_gi hinv h1)) ?_
          refine xr_blk gd_X5_gather 8 (c' := (8, [(0, .ref 7), (1, .ref 1), (2, .int time), (3, .int leftOut), (4, .int (x4 + 1))], [], xs_u (xs_u (xs_u (xs_u st 8 ((st 7 3).toInt.toNat) (F_X1_lowEnd st x4 time)) 9 ((st 7 3).toInt.toNat) (F_X1_highEnd (xs_u st 8 ((st 7 3).toInt.toNat) (F_X1_lowEnd st x4 time)) x4 time)) 10 ((st 7 3).toInt.toNat) x4) 7 3 ((st 7 3) + 1))) rfl ?_
          refine xs_cons (ih (x4 + 1) (xs_u (xs_u (xs_u (xs_u st 8 ((st 7 3).toInt.toNat) (F_X1_lowEnd st x4 time)) 9 ((st 7 3).toInt.toNat) (F_X1_highEnd (xs_u st 8 ((st 7 3).toInt.toNat) (F_X1_lowEnd st x4 time)) x4 time)) 10 ((st 7 3).toInt.toNat) x4) 7 3 ((st 7 3) + 1)) (by first | exact xs_ga hinv h1 | exact xs_gb hinv h1)) (fun v u hq => ?_)
          rw [lp_X5_gather_8, if_neg h1, if_neg h2, if_neg h3]; exact hq
def F_X5_gather (st : xs_S) (time : Int32) (leftOut : Int32) : xs_S := lp_X5_gather_8 time leftOut 16 0 (xs_u st 7 3 0)
set_option maxRecDepth 20000 in
theorem c_X5_gather {G : xs_G} {base : Nat} (d : Nat) (st : xs_S) (time : Int32) (leftOut : Int32) : xs_K (xc G) base (d + 3) M_X5_gather [.ref 7, .ref 1, .int time, .int leftOut] st (fun v u => v = none ∧ u = F_X5_gather st time leftOut) := by
  refine xs_intro ok_X5_gather [(0, .ref 7), (1, .ref 1), (2, .int time), (3, .int leftOut)] rfl rfl ?_
  refine xr_blk gd_X5_gather 5 (c' := (8, [(0, .ref 7), (1, .ref 1), (2, .int time), (3, .int leftOut), (4, .int 0)], [], xs_u st 7 3 0)) rfl ?_
  refine xs_cons (cl_X5_gather_8 d time leftOut 16 0 (xs_u st 7 3 0) xs_g0) (fun v u hq => ?_)
  rw [F_X5_gather]; exact hq
def F_X5_size (st : xs_S) : Int32 := st 7 3
set_option maxRecDepth 20000 in
theorem c_X5_size {G : xs_G} {base : Nat} (d : Nat) (st : xs_S) : xs_K (xc G) base (d + 0) M_X5_size [.ref 7] st (fun v u => v = some (.int (F_X5_size st)) ∧ u = st) := by
  refine xs_intro ok_X5_size [(0, .ref 7)] rfl rfl ?_
  refine xr_blk gd_X5_size 2 (c' := (4, [(0, .ref 7)], [.int (st 7 3)], st)) rfl ?_
  exact xr_iret gd_X5_size rfl rfl ⟨by first | (rw [F_X5_size]; done) | (rw [F_X5_size]; rfl), rfl⟩
def F_X5_isEmpty (st : xs_S) : Int32 := (if (st 7 3) = 0 then 1
    else 0)
set_option maxRecDepth 20000 in
theorem c_X5_isEmpty {G : xs_G} {base : Nat} (d : Nat) (st : xs_S) : xs_K (xc G) base (d + 0) M_X5_isEmpty [.ref 7] st (fun v u => v = some (.int (F_X5_isEmpty st)) ∧ u = st) := by
  refine xs_intro ok_X5_isEmpty [(0, .ref 7)] rfl rfl ?_
  refine xr_blk gd_X5_isEmpty 2 (c' := (4, [(0, .ref 7)], [.int (st 7 3)], st)) rfl ?_
  refine xr_br gd_X5_isEmpty rfl rfl (fun h1 => ?_) (fun h1 => ?_)
  · refine xr_blk gd_X5_isEmpty 1 (c' := (12, [(0, .ref 7)], [.int 0], st)) rfl ?_
    exact xr_zret gd_X5_isEmpty rfl rfl rfl ⟨by first | (rw [F_X5_isEmpty, if_neg h1]; done) | (rw [F_X5_isEmpty, if_neg h1]; rfl), rfl⟩
  · refine xr_blk gd_X5_isEmpty 2 (c' := (12, [(0, .ref 7)], [.int 1], st)) rfl ?_
    exact xr_zret gd_X5_isEmpty rfl rfl rfl ⟨by first | (rw [F_X5_isEmpty, if_pos h1]; done) | (rw [F_X5_isEmpty, if_pos h1]; rfl), rfl⟩
def F_X5_ends (st : xs_S) : Int32 := (2 * (st 7 3))
set_option maxRecDepth 20000 in
theorem c_X5_ends {G : xs_G} {base : Nat} (d : Nat) (st : xs_S) : xs_K (xc G) base (d + 0) M_X5_ends [.ref 7] st (fun v u => v = some (.int (F_X5_ends st)) ∧ u = st) := by
  refine xs_intro ok_X5_ends [(0, .ref 7)] rfl rfl ?_
  refine xr_blk gd_X5_ends 4 (c' := (6, [(0, .ref 7)], [.int (2 * (st 7 3))], st)) rfl ?_
  exact xr_iret gd_X5_ends rfl rfl ⟨by first | (rw [F_X5_ends]; done) | (rw [F_X5_ends]; rfl), rfl⟩
theorem xs_ends {st : xs_S} (hsz : 0 ≤ (st 7 3).toInt ∧ (st 7 3).toInt ≤ 15) : 0 ≤ (F_X5_ends st).toInt ∧ (F_X5_ends st).toInt < ((31 : Nat) : Int) := by
  unfold F_X5_ends
  have h2 : (2 : Int32).toInt = 2 := by decide
  rw [xi_mul (by rw [h2]; omega), h2]
  omega
theorem xs_ke {st : xs_S} {x : Int32} (hsz : 0 ≤ (st 7 3).toInt ∧ (st 7 3).toInt ≤ 15) (h : 0 ≤ x.toInt ∧ x.toInt < (F_X5_ends st).toInt) : 0 ≤ x.toInt ∧ x.toInt < 2 * (st 7 3).toInt := by
  unfold F_X5_ends at h
  have h2 : (2 : Int32).toInt = 2 := by decide
  rw [xi_mul (by rw [h2]; omega), h2] at h
  omega
def F_X5_has (st : xs_S) (span : Int32) (time : Int32) : Int32 := (if time < (st 8 span.toInt.toNat) then 0
    else (if (st 9 span.toInt.toNat) < time then 0
      else 1))
set_option maxRecDepth 20000 in
theorem c_X5_has {G : xs_G} {base : Nat} (d : Nat) (st : xs_S) (span : Int32) (time : Int32) (hd : 0 ≤ span.toInt ∧ span.toInt < 15) : xs_K (xc G) base (d + 0) M_X5_has [.ref 7, .int span, .int time] st (fun v u => v = some (.int (F_X5_has st span time)) ∧ u = st) := by
  refine xs_intro ok_X5_has [(0, .ref 7), (1, .int span), (2, .int time)] rfl rfl ?_
  refine xr_blk gd_X5_has 3 (c' := (5, [(0, .ref 7), (1, .int span), (2, .int time)], [.int span, .ref 8], st)) rfl ?_
  refine xr_iald gd_X5_has rfl rfl (span.toInt.toNat) (xs_h1 (n := 15) hd) (xs_h2 (n := 15) hd) ?_
  refine xr_blk gd_X5_has 1 (c' := (7, [(0, .ref 7), (1, .int span), (2, .int time)], [.int time, .int (st 8 span.toInt.toNat)], st)) rfl ?_
  refine xr_br gd_X5_has rfl rfl (fun h1 => ?_) (fun h1 => ?_)
  · refine xr_blk gd_X5_has 1 (c' := (25, [(0, .ref 7), (1, .int span), (2, .int time)], [.int 0], st)) rfl ?_
    exact xr_zret gd_X5_has rfl rfl rfl ⟨by first | (rw [F_X5_has, if_pos h1]; done) | (rw [F_X5_has, if_pos h1]; rfl), rfl⟩
  · refine xr_blk gd_X5_has 4 (c' := (16, [(0, .ref 7), (1, .int span), (2, .int time)], [.int span, .ref 9, .int time], st)) rfl ?_
    refine xr_iald gd_X5_has rfl rfl (span.toInt.toNat) (xs_h1 (n := 15) hd) (xs_h2 (n := 15) hd) ?_
    refine xr_br gd_X5_has rfl rfl (fun h2 => ?_) (fun h2 => ?_)
    · refine xr_blk gd_X5_has 1 (c' := (25, [(0, .ref 7), (1, .int span), (2, .int time)], [.int 0], st)) rfl ?_
      exact xr_zret gd_X5_has rfl rfl rfl ⟨by first | (rw [F_X5_has, if_neg h1, if_pos h2]; done) | (rw [F_X5_has, if_neg h1, if_pos h2]; rfl), rfl⟩
    · refine xr_blk gd_X5_has 2 (c' := (25, [(0, .ref 7), (1, .int span), (2, .int time)], [.int 1], st)) rfl ?_
      exact xr_zret gd_X5_has rfl rfl rfl ⟨by first | (rw [F_X5_has, if_neg h1, if_neg h2]; done) | (rw [F_X5_has, if_neg h1, if_neg h2]; rfl), rfl⟩
def lp_X5_howManyAt_4 (st : xs_S) (time : Int32) : Nat → Int32 → Int32 → Int32
  | 0, _, _ => 0
  | n + 1, x2, x3 => (if (st 7 3) ≤ x3 then x2
    else (if (F_X5_has st x3 time) = 0 then lp_X5_howManyAt_4 st time n x2 (x3 + 1)
      else lp_X5_howManyAt_4 st time n (x2 + 1) (x3 + 1)))
set_option maxRecDepth 20000 in
theorem cl_X5_howManyAt_4 {G : xs_G} {base : Nat} (d : Nat) (st : xs_S) (time : Int32) (hsz : 0 ≤ (st 7 3).toInt ∧ (st 7 3).toInt ≤ 15) : ∀ (n : Nat) (x2 : Int32) (x3 : Int32), xs_lo x3 (st 7 3) n → xs_R (xc G) base (d + 1) M_X5_howManyAt (4, [(0, .ref 7), (1, .int time), (2, .int x2), (3, .int x3)], [], st) (xs_q (xc G) (fun v u => v = some (.int (lp_X5_howManyAt_4 st time n x2 x3)) ∧ u = st)) := by
  intro n
  induction n with
  | zero =>
    intro x2 x3 hinv
    exact (xs_lo0 hinv).elim
  | succ n ih =>
    intro x2 x3 hinv
    refine xr_blk gd_X5_howManyAt 3 (c' := (9, [(0, .ref 7), (1, .int time), (2, .int x2), (3, .int x3)], [.int (st 7 3), .int x3], st)) rfl ?_
    refine xr_br gd_X5_howManyAt rfl rfl (fun h1 => ?_) (fun h1 => ?_)
    · refine xr_blk gd_X5_howManyAt 1 (c' := (31, [(0, .ref 7), (1, .int time), (2, .int x2), (3, .int x3)], [.int x2], st)) rfl ?_
      exact xr_iret gd_X5_howManyAt rfl rfl ⟨by first | (rw [lp_X5_howManyAt_4, if_pos h1]; done) | (rw [lp_X5_howManyAt_4, if_pos h1]; rfl), rfl⟩
    · refine xr_blk gd_X5_howManyAt 3 (c' := (15, [(0, .ref 7), (1, .int time), (2, .int x2), (3, .int x3)], [.int time, .int x3, .ref 7], st)) rfl ?_
      refine xr_callV gd_X5_howManyAt gd_X5_has k_X5_38 rfl (c_X5_has (d + 0) st x3 time (xs_ix hsz (xs_lo_in hinv h1))) (by omega) rfl rfl rfl rfl rfl ?_
      refine xs_fun ?_
      refine xr_br gd_X5_howManyAt rfl rfl (fun h2 => ?_) (fun h2 => ?_)
      · refine xr_blk gd_X5_howManyAt 2 (c' := (4, [(0, .ref 7), (1, .int time), (2, .int x2), (3, .int (x3 + 1))], [], st)) rfl ?_
        refine xs_cons (ih x2 (x3 + 1) (xs_lo_up hinv h1)) (fun v u hq => ?_)
        rw [lp_X5_howManyAt_4, if_neg h1, if_pos h2]; exact hq
      · refine xr_blk gd_X5_howManyAt 3 (c' := (4, [(0, .ref 7), (1, .int time), (2, .int (x2 + 1)), (3, .int (x3 + 1))], [], st)) rfl ?_
        refine xs_cons (ih (x2 + 1) (x3 + 1) (xs_lo_up hinv h1)) (fun v u hq => ?_)
        rw [lp_X5_howManyAt_4, if_neg h1, if_neg h2]; exact hq
def F_X5_howManyAt (st : xs_S) (time : Int32) : Int32 := lp_X5_howManyAt_4 st time 16 0 0
set_option maxRecDepth 20000 in
theorem c_X5_howManyAt {G : xs_G} {base : Nat} (d : Nat) (st : xs_S) (time : Int32) (hsz : 0 ≤ (st 7 3).toInt ∧ (st 7 3).toInt ≤ 15) : xs_K (xc G) base (d + 1) M_X5_howManyAt [.ref 7, .int time] st (fun v u => v = some (.int (F_X5_howManyAt st time)) ∧ u = st) := by
  refine xs_intro ok_X5_howManyAt [(0, .ref 7), (1, .int time)] rfl rfl ?_
  refine xr_blk gd_X5_howManyAt 4 (c' := (4, [(0, .ref 7), (1, .int time), (2, .int 0), (3, .int 0)], [], st)) rfl ?_
  refine xs_cons (cl_X5_howManyAt_4 d st time hsz 16 0 0 (xs_lo_e hsz.1 (by omega))) (fun v u hq => ?_)
  rw [F_X5_howManyAt]; exact hq
def lp_X5_dialsAt_4 (st : xs_S) (time : Int32) : Nat → Int32 → Int32 → Int32
  | 0, _, _ => 0
  | n + 1, x2, x3 => (if (st 7 3) ≤ x3 then x2
    else (if (F_X5_has st x3 time) = 0 then lp_X5_dialsAt_4 st time n x2 (x3 + 1)
      else lp_X5_dialsAt_4 st time n (x2 ||| (1 <<< ((st 10 x3.toInt.toNat) &&& 31))) (x3 + 1)))
set_option maxRecDepth 20000 in
theorem cl_X5_dialsAt_4 {G : xs_G} {base : Nat} (d : Nat) (st : xs_S) (time : Int32) (hsz : 0 ≤ (st 7 3).toInt ∧ (st 7 3).toInt ≤ 15) : ∀ (n : Nat) (x2 : Int32) (x3 : Int32), xs_lo x3 (st 7 3) n → xs_R (xc G) base (d + 1) M_X5_dialsAt (4, [(0, .ref 7), (1, .int time), (2, .int x2), (3, .int x3)], [], st) (xs_q (xc G) (fun v u => v = some (.int (lp_X5_dialsAt_4 st time n x2 x3)) ∧ u = st)) := by
  intro n
  induction n with
  | zero =>
    intro x2 x3 hinv
    exact (xs_lo0 hinv).elim
  | succ n ih =>
    intro x2 x3 hinv
    refine xr_blk gd_X5_dialsAt 3 (c' := (9, [(0, .ref 7), (1, .int time), (2, .int x2), (3, .int x3)], [.int (st 7 3), .int x3], st)) rfl ?_
    refine xr_br gd_X5_dialsAt rfl rfl (fun h1 => ?_) (fun h1 => ?_)
    · refine xr_blk gd_X5_dialsAt 1 (c' := (39, [(0, .ref 7), (1, .int time), (2, .int x2), (3, .int x3)], [.int x2], st)) rfl ?_
      exact xr_iret gd_X5_dialsAt rfl rfl ⟨by first | (rw [lp_X5_dialsAt_4, if_pos h1]; done) | (rw [lp_X5_dialsAt_4, if_pos h1]; rfl), rfl⟩
    · refine xr_blk gd_X5_dialsAt 3 (c' := (15, [(0, .ref 7), (1, .int time), (2, .int x2), (3, .int x3)], [.int time, .int x3, .ref 7], st)) rfl ?_
      refine xr_callV gd_X5_dialsAt gd_X5_has k_X5_38 rfl (c_X5_has (d + 0) st x3 time (xs_ix hsz (xs_lo_in hinv h1))) (by omega) rfl rfl rfl rfl rfl ?_
      refine xs_fun ?_
      refine xr_br gd_X5_dialsAt rfl rfl (fun h2 => ?_) (fun h2 => ?_)
      · refine xr_blk gd_X5_dialsAt 2 (c' := (4, [(0, .ref 7), (1, .int time), (2, .int x2), (3, .int (x3 + 1))], [], st)) rfl ?_
        refine xs_cons (ih x2 (x3 + 1) (xs_lo_up hinv h1)) (fun v u hq => ?_)
        rw [lp_X5_dialsAt_4, if_neg h1, if_pos h2]; exact hq
      · refine xr_blk gd_X5_dialsAt 5 (c' := (28, [(0, .ref 7), (1, .int time), (2, .int x2), (3, .int x3)], [.int x3, .ref 10, .int 1, .int x2], st)) rfl ?_
        refine xr_iald gd_X5_dialsAt rfl rfl (x3.toInt.toNat) (xs_h1 (n := 15) (xs_ix hsz (xs_lo_in hinv h1))) (xs_h2 (n := 15) (xs_ix hsz (xs_lo_in hinv h1))) ?_
        refine xr_blk gd_X5_dialsAt 5 (c' := (4, [(0, .ref 7), (1, .int time), (2, .int (x2 ||| (1 <<< ((st 10 x3.toInt.toNat) &&& 31)))), (3, .int (x3 + 1))], [], st)) rfl ?_
        refine xs_cons (ih (x2 ||| (1 <<< ((st 10 x3.toInt.toNat) &&& 31))) (x3 + 1) (xs_lo_up hinv h1)) (fun v u hq => ?_)
        rw [lp_X5_dialsAt_4, if_neg h1, if_neg h2]; exact hq
def F_X5_dialsAt (st : xs_S) (time : Int32) : Int32 := lp_X5_dialsAt_4 st time 16 0 0
set_option maxRecDepth 20000 in
theorem c_X5_dialsAt {G : xs_G} {base : Nat} (d : Nat) (st : xs_S) (time : Int32) (hsz : 0 ≤ (st 7 3).toInt ∧ (st 7 3).toInt ≤ 15) : xs_K (xc G) base (d + 1) M_X5_dialsAt [.ref 7, .int time] st (fun v u => v = some (.int (F_X5_dialsAt st time)) ∧ u = st) := by
  refine xs_intro ok_X5_dialsAt [(0, .ref 7), (1, .int time)] rfl rfl ?_
  refine xr_blk gd_X5_dialsAt 4 (c' := (4, [(0, .ref 7), (1, .int time), (2, .int 0), (3, .int 0)], [], st)) rfl ?_
  refine xs_cons (cl_X5_dialsAt_4 d st time hsz 16 0 0 (xs_lo_e hsz.1 (by omega))) (fun v u hq => ?_)
  rw [F_X5_dialsAt]; exact hq
def lp_X5_most_4 (st : xs_S) : Nat → Int32 → Int32 → Int32
  | 0, _, _ => 0
  | n + 1, x1, x2 => (if (st 7 3) ≤ x2 then x1
    else lp_X5_most_4 st n (if x1 < (F_X5_howManyAt st (st 8 x2.toInt.toNat)) then (F_X5_howManyAt st (st 8 x2.toInt.toNat)) else x1) (x2 + 1))
set_option maxRecDepth 20000 in
theorem cl_X5_most_4 {G : xs_G} {base : Nat} (d : Nat) (st : xs_S) (hsz : 0 ≤ (st 7 3).toInt ∧ (st 7 3).toInt ≤ 15) : ∀ (n : Nat) (x1 : Int32) (x2 : Int32), xs_lo x2 (st 7 3) n → xs_R (xc G) base (d + 2) M_X5_most (4, [(0, .ref 7), (1, .int x1), (2, .int x2)], [], st) (xs_q (xc G) (fun v u => v = some (.int (lp_X5_most_4 st n x1 x2)) ∧ u = st)) := by
  intro n
  induction n with
  | zero =>
    intro x1 x2 hinv
    exact (xs_lo0 hinv).elim
  | succ n ih =>
    intro x1 x2 hinv
    refine xr_blk gd_X5_most 3 (c' := (9, [(0, .ref 7), (1, .int x1), (2, .int x2)], [.int (st 7 3), .int x2], st)) rfl ?_
    refine xr_br gd_X5_most rfl rfl (fun h1 => ?_) (fun h1 => ?_)
    · refine xr_blk gd_X5_most 1 (c' := (34, [(0, .ref 7), (1, .int x1), (2, .int x2)], [.int x1], st)) rfl ?_
      exact xr_iret gd_X5_most rfl rfl ⟨by first | (rw [lp_X5_most_4, if_pos h1]; done) | (rw [lp_X5_most_4, if_pos h1]; rfl), rfl⟩
    · refine xr_blk gd_X5_most 5 (c' := (19, [(0, .ref 7), (1, .int x1), (2, .int x2)], [.int x2, .ref 8, .ref 7, .int x1], st)) rfl ?_
      refine xr_iald gd_X5_most rfl rfl (x2.toInt.toNat) (xs_h1 (n := 15) (xs_ix hsz (xs_lo_in hinv h1))) (xs_h2 (n := 15) (xs_ix hsz (xs_lo_in hinv h1))) ?_
      refine xr_callV gd_X5_most gd_X5_howManyAt k_X5_42 rfl (c_X5_howManyAt (d + 0) st (st 8 x2.toInt.toNat) hsz) (by omega) rfl rfl rfl rfl rfl ?_
      refine xs_fun ?_
      refine xr_max gd_X5_most rfl xs_l_mx_X5_46 rfl rfl ?_
      refine xr_blk gd_X5_most 3 (c' := (4, [(0, .ref 7), (1, .int (if x1 < (F_X5_howManyAt st (st 8 x2.toInt.toNat)) then (F_X5_howManyAt st (st 8 x2.toInt.toNat)) else x1)), (2, .int (x2 + 1))], [], st)) rfl ?_
      refine xs_cons (ih (if x1 < (F_X5_howManyAt st (st 8 x2.toInt.toNat)) then (F_X5_howManyAt st (st 8 x2.toInt.toNat)) else x1) (x2 + 1) (xs_lo_up hinv h1)) (fun v u hq => ?_)
      rw [lp_X5_most_4, if_neg h1]; exact hq
def F_X5_most (st : xs_S) : Int32 := lp_X5_most_4 st 16 0 0
set_option maxRecDepth 20000 in
theorem c_X5_most {G : xs_G} {base : Nat} (d : Nat) (st : xs_S) (hsz : 0 ≤ (st 7 3).toInt ∧ (st 7 3).toInt ≤ 15) : xs_K (xc G) base (d + 2) M_X5_most [.ref 7] st (fun v u => v = some (.int (F_X5_most st)) ∧ u = st) := by
  refine xs_intro ok_X5_most [(0, .ref 7)] rfl rfl ?_
  refine xr_blk gd_X5_most 4 (c' := (4, [(0, .ref 7), (1, .int 0), (2, .int 0)], [], st)) rfl ?_
  refine xs_cons (cl_X5_most_4 d st hsz 16 0 0 (xs_lo_e hsz.1 (by omega))) (fun v u hq => ?_)
  rw [F_X5_most]; exact hq
def lp_X5_firstTimeOf_5 (st : xs_S) (needed : Int32) : Nat → Int32 → Int32 → Int32
  | 0, _, _ => 0
  | n + 1, x2, x3 => (if (st 7 3) ≤ x3 then x2
    else (if x2 ≤ (st 8 x3.toInt.toNat) then lp_X5_firstTimeOf_5 st needed n x2 (x3 + 1)
      else (if (F_X5_howManyAt st (st 8 x3.toInt.toNat)) < needed then lp_X5_firstTimeOf_5 st needed n x2 (x3 + 1)
        else lp_X5_firstTimeOf_5 st needed n (st 8 x3.toInt.toNat) (x3 + 1))))
set_option maxRecDepth 20000 in
theorem cl_X5_firstTimeOf_5 {G : xs_G} {base : Nat} (d : Nat) (st : xs_S) (needed : Int32) (hsz : 0 ≤ (st 7 3).toInt ∧ (st 7 3).toInt ≤ 15) : ∀ (n : Nat) (x2 : Int32) (x3 : Int32), xs_lo x3 (st 7 3) n → xs_R (xc G) base (d + 2) M_X5_firstTimeOf (5, [(0, .ref 7), (1, .int needed), (2, .int x2), (3, .int x3)], [], st) (xs_q (xc G) (fun v u => v = some (.int (lp_X5_firstTimeOf_5 st needed n x2 x3)) ∧ u = st)) := by
  intro n
  induction n with
  | zero =>
    intro x2 x3 hinv
    exact (xs_lo0 hinv).elim
  | succ n ih =>
    intro x2 x3 hinv
    refine xr_blk gd_X5_firstTimeOf 3 (c' := (10, [(0, .ref 7), (1, .int needed), (2, .int x2), (3, .int x3)], [.int (st 7 3), .int x3], st)) rfl ?_
    refine xr_br gd_X5_firstTimeOf rfl rfl (fun h1 => ?_) (fun h1 => ?_)
    · refine xr_blk gd_X5_firstTimeOf 1 (c' := (51, [(0, .ref 7), (1, .int needed), (2, .int x2), (3, .int x3)], [.int x2], st)) rfl ?_
      exact xr_iret gd_X5_firstTimeOf rfl rfl ⟨by first | (rw [lp_X5_firstTimeOf_5, if_pos h1]; done) | (rw [lp_X5_firstTimeOf_5, if_pos h1]; rfl), rfl⟩
    · refine xr_blk gd_X5_firstTimeOf 3 (c' := (18, [(0, .ref 7), (1, .int needed), (2, .int x2), (3, .int x3)], [.int x3, .ref 8], st)) rfl ?_
      refine xr_iald gd_X5_firstTimeOf rfl rfl (x3.toInt.toNat) (xs_h1 (n := 15) (xs_ix hsz (xs_lo_in hinv h1))) (xs_h2 (n := 15) (xs_ix hsz (xs_lo_in hinv h1))) ?_
      refine xr_blk gd_X5_firstTimeOf 1 (c' := (20, [(0, .ref 7), (1, .int needed), (2, .int x2), (3, .int x3)], [.int x2, .int (st 8 x3.toInt.toNat)], st)) rfl ?_
      refine xr_br gd_X5_firstTimeOf rfl rfl (fun h2 => ?_) (fun h2 => ?_)
      · refine xr_blk gd_X5_firstTimeOf 2 (c' := (5, [(0, .ref 7), (1, .int needed), (2, .int x2), (3, .int (x3 + 1))], [], st)) rfl ?_
        refine xs_cons (ih x2 (x3 + 1) (xs_lo_up hinv h1)) (fun v u hq => ?_)
        rw [lp_X5_firstTimeOf_5, if_neg h1, if_pos h2]; exact hq
      · refine xr_blk gd_X5_firstTimeOf 4 (c' := (29, [(0, .ref 7), (1, .int needed), (2, .int x2), (3, .int x3)], [.int x3, .ref 8, .ref 7], st)) rfl ?_
        refine xr_iald gd_X5_firstTimeOf rfl rfl (x3.toInt.toNat) (xs_h1 (n := 15) (xs_ix hsz (xs_lo_in hinv h1))) (xs_h2 (n := 15) (xs_ix hsz (xs_lo_in hinv h1))) ?_
        refine xr_callV gd_X5_firstTimeOf gd_X5_howManyAt k_X5_42 rfl (c_X5_howManyAt (d + 0) st (st 8 x3.toInt.toNat) hsz) (by omega) rfl rfl rfl rfl rfl ?_
        refine xs_fun ?_
        refine xr_blk gd_X5_firstTimeOf 1 (c' := (34, [(0, .ref 7), (1, .int needed), (2, .int x2), (3, .int x3)], [.int needed, .int (F_X5_howManyAt st (st 8 x3.toInt.toNat))], st)) rfl ?_
        refine xr_br gd_X5_firstTimeOf rfl rfl (fun h3 => ?_) (fun h3 => ?_)
        · refine xr_blk gd_X5_firstTimeOf 2 (c' := (5, [(0, .ref 7), (1, .int needed), (2, .int x2), (3, .int (x3 + 1))], [], st)) rfl ?_
          refine xs_cons (ih x2 (x3 + 1) (xs_lo_up hinv h1)) (fun v u hq => ?_)
          rw [lp_X5_firstTimeOf_5, if_neg h1, if_neg h2, if_pos h3]; exact hq
        · refine xr_blk gd_X5_firstTimeOf 3 (c' := (42, [(0, .ref 7), (1, .int needed), (2, .int x2), (3, .int x3)], [.int x3, .ref 8], st)) rfl ?_
          refine xr_iald gd_X5_firstTimeOf rfl rfl (x3.toInt.toNat) (xs_h1 (n := 15) (xs_ix hsz (xs_lo_in hinv h1))) (xs_h2 (n := 15) (xs_ix hsz (xs_lo_in hinv h1))) ?_
          refine xr_blk gd_X5_firstTimeOf 3 (c' := (5, [(0, .ref 7), (1, .int needed), (2, .int (st 8 x3.toInt.toNat)), (3, .int (x3 + 1))], [], st)) rfl ?_
          refine xs_cons (ih (st 8 x3.toInt.toNat) (x3 + 1) (xs_lo_up hinv h1)) (fun v u hq => ?_)
          rw [lp_X5_firstTimeOf_5, if_neg h1, if_neg h2, if_neg h3]; exact hq
def F_X5_firstTimeOf (st : xs_S) (needed : Int32) : Int32 := lp_X5_firstTimeOf_5 st needed 16 1000000 0
set_option maxRecDepth 20000 in
theorem c_X5_firstTimeOf {G : xs_G} {base : Nat} (d : Nat) (st : xs_S) (needed : Int32) (hsz : 0 ≤ (st 7 3).toInt ∧ (st 7 3).toInt ≤ 15) : xs_K (xc G) base (d + 2) M_X5_firstTimeOf [.ref 7, .int needed] st (fun v u => v = some (.int (F_X5_firstTimeOf st needed)) ∧ u = st) := by
  refine xs_intro ok_X5_firstTimeOf [(0, .ref 7), (1, .int needed)] rfl rfl ?_
  refine xr_blk gd_X5_firstTimeOf 4 (c' := (5, [(0, .ref 7), (1, .int needed), (2, .int 1000000), (3, .int 0)], [], st)) rfl ?_
  refine xs_cons (cl_X5_firstTimeOf_5 d st needed hsz 16 1000000 0 (xs_lo_e hsz.1 (by omega))) (fun v u hq => ?_)
  rw [F_X5_firstTimeOf]; exact hq
def lp_X5_lastTimeOf_6 (st : xs_S) (needed : Int32) (frm : Int32) : Nat → Int32 → Int32 → Int32
  | 0, _, _ => 0
  | n + 1, x3, x4 => (if (st 7 3) ≤ x4 then x3
    else (if (st 9 x4.toInt.toNat) < frm then lp_X5_lastTimeOf_6 st needed frm n x3 (x4 + 1)
      else (if x3 ≤ (st 9 x4.toInt.toNat) then lp_X5_lastTimeOf_6 st needed frm n x3 (x4 + 1)
        else (if needed ≤ (F_X5_howManyAt st ((st 9 x4.toInt.toNat) + 1)) then lp_X5_lastTimeOf_6 st needed frm n x3 (x4 + 1)
          else lp_X5_lastTimeOf_6 st needed frm n (st 9 x4.toInt.toNat) (x4 + 1)))))
set_option maxRecDepth 20000 in
theorem cl_X5_lastTimeOf_6 {G : xs_G} {base : Nat} (d : Nat) (st : xs_S) (needed : Int32) (frm : Int32) (hsz : 0 ≤ (st 7 3).toInt ∧ (st 7 3).toInt ≤ 15) : ∀ (n : Nat) (x3 : Int32) (x4 : Int32), xs_lo x4 (st 7 3) n → xs_R (xc G) base (d + 2) M_X5_lastTimeOf (6, [(0, .ref 7), (1, .int needed), (2, .int frm), (3, .int x3), (4, .int x4)], [], st) (xs_q (xc G) (fun v u => v = some (.int (lp_X5_lastTimeOf_6 st needed frm n x3 x4)) ∧ u = st)) := by
  intro n
  induction n with
  | zero =>
    intro x3 x4 hinv
    exact (xs_lo0 hinv).elim
  | succ n ih =>
    intro x3 x4 hinv
    refine xr_blk gd_X5_lastTimeOf 3 (c' := (12, [(0, .ref 7), (1, .int needed), (2, .int frm), (3, .int x3), (4, .int x4)], [.int (st 7 3), .int x4], st)) rfl ?_
    refine xr_br gd_X5_lastTimeOf rfl rfl (fun h1 => ?_) (fun h1 => ?_)
    · refine xr_blk gd_X5_lastTimeOf 1 (c' := (58, [(0, .ref 7), (1, .int needed), (2, .int frm), (3, .int x3), (4, .int x4)], [.int x3], st)) rfl ?_
      exact xr_iret gd_X5_lastTimeOf rfl rfl ⟨by first | (rw [lp_X5_lastTimeOf_6, if_pos h1]; done) | (rw [lp_X5_lastTimeOf_6, if_pos h1]; rfl), rfl⟩
    · refine xr_blk gd_X5_lastTimeOf 3 (c' := (21, [(0, .ref 7), (1, .int needed), (2, .int frm), (3, .int x3), (4, .int x4)], [.int x4, .ref 9], st)) rfl ?_
      refine xr_iald gd_X5_lastTimeOf rfl rfl (x4.toInt.toNat) (xs_h1 (n := 15) (xs_ix hsz (xs_lo_in hinv h1))) (xs_h2 (n := 15) (xs_ix hsz (xs_lo_in hinv h1))) ?_
      refine xr_blk gd_X5_lastTimeOf 3 (c' := (27, [(0, .ref 7), (1, .int needed), (2, .int frm), (3, .int x3), (4, .int x4), (5, .int (st 9 x4.toInt.toNat))], [.int frm, .int (st 9 x4.toInt.toNat)], st)) rfl ?_
      refine xr_br gd_X5_lastTimeOf rfl rfl (fun h2 => ?_) (fun h2 => ?_)
      · refine xr_blk gd_X5_lastTimeOf 2 (c' := (6, [(0, .ref 7), (1, .int needed), (2, .int frm), (3, .int x3), (4, .int (x4 + 1)), (5, .int (st 9 x4.toInt.toNat))], [], st)) rfl ?_
        refine xs_pk (lv' := [(0, .ref 7), (1, .int needed), (2, .int frm), (3, .int x3), (4, .int (x4 + 1))]) [0, 1, 2, 3, 4] rfl ?_
        refine xs_cons (ih x3 (x4 + 1) (xs_lo_up hinv h1)) (fun v u hq => ?_)
        rw [lp_X5_lastTimeOf_6, if_neg h1, if_pos h2]; exact hq
      · refine xr_blk gd_X5_lastTimeOf 2 (c' := (33, [(0, .ref 7), (1, .int needed), (2, .int frm), (3, .int x3), (4, .int x4), (5, .int (st 9 x4.toInt.toNat))], [.int x3, .int (st 9 x4.toInt.toNat)], st)) rfl ?_
        refine xr_br gd_X5_lastTimeOf rfl rfl (fun h3 => ?_) (fun h3 => ?_)
        · refine xr_blk gd_X5_lastTimeOf 2 (c' := (6, [(0, .ref 7), (1, .int needed), (2, .int frm), (3, .int x3), (4, .int (x4 + 1)), (5, .int (st 9 x4.toInt.toNat))], [], st)) rfl ?_
          refine xs_pk (lv' := [(0, .ref 7), (1, .int needed), (2, .int frm), (3, .int x3), (4, .int (x4 + 1))]) [0, 1, 2, 3, 4] rfl ?_
          refine xs_cons (ih x3 (x4 + 1) (xs_lo_up hinv h1)) (fun v u hq => ?_)
          rw [lp_X5_lastTimeOf_6, if_neg h1, if_neg h2, if_pos h3]; exact hq
        · refine xr_blk gd_X5_lastTimeOf 4 (c' := (41, [(0, .ref 7), (1, .int needed), (2, .int frm), (3, .int x3), (4, .int x4), (5, .int (st 9 x4.toInt.toNat))], [.int ((st 9 x4.toInt.toNat) + 1), .ref 7], st)) rfl ?_
          refine xr_callV gd_X5_lastTimeOf gd_X5_howManyAt k_X5_42 rfl (c_X5_howManyAt (d + 0) st ((st 9 x4.toInt.toNat) + 1) hsz) (by omega) rfl rfl rfl rfl rfl ?_
          refine xs_fun ?_
          refine xr_blk gd_X5_lastTimeOf 1 (c' := (45, [(0, .ref 7), (1, .int needed), (2, .int frm), (3, .int x3), (4, .int x4), (5, .int (st 9 x4.toInt.toNat))], [.int needed, .int (F_X5_howManyAt st ((st 9 x4.toInt.toNat) + 1))], st)) rfl ?_
          refine xr_br gd_X5_lastTimeOf rfl rfl (fun h4 => ?_) (fun h4 => ?_)
          · refine xr_blk gd_X5_lastTimeOf 2 (c' := (6, [(0, .ref 7), (1, .int needed), (2, .int frm), (3, .int x3), (4, .int (x4 + 1)), (5, .int (st 9 x4.toInt.toNat))], [], st)) rfl ?_
            refine xs_pk (lv' := [(0, .ref 7), (1, .int needed), (2, .int frm), (3, .int x3), (4, .int (x4 + 1))]) [0, 1, 2, 3, 4] rfl ?_
            refine xs_cons (ih x3 (x4 + 1) (xs_lo_up hinv h1)) (fun v u hq => ?_)
            rw [lp_X5_lastTimeOf_6, if_neg h1, if_neg h2, if_neg h3, if_pos h4]; exact hq
          · refine xr_blk gd_X5_lastTimeOf 4 (c' := (6, [(0, .ref 7), (1, .int needed), (2, .int frm), (3, .int (st 9 x4.toInt.toNat)), (4, .int (x4 + 1)), (5, .int (st 9 x4.toInt.toNat))], [], st)) rfl ?_
            refine xs_pk (lv' := [(0, .ref 7), (1, .int needed), (2, .int frm), (3, .int (st 9 x4.toInt.toNat)), (4, .int (x4 + 1))]) [0, 1, 2, 3, 4] rfl ?_
            refine xs_cons (ih (st 9 x4.toInt.toNat) (x4 + 1) (xs_lo_up hinv h1)) (fun v u hq => ?_)
            rw [lp_X5_lastTimeOf_6, if_neg h1, if_neg h2, if_neg h3, if_neg h4]; exact hq
def F_X5_lastTimeOf (st : xs_S) (needed : Int32) (frm : Int32) : Int32 := lp_X5_lastTimeOf_6 st needed frm 16 1000000 0
set_option maxRecDepth 20000 in
theorem c_X5_lastTimeOf {G : xs_G} {base : Nat} (d : Nat) (st : xs_S) (needed : Int32) (frm : Int32) (hsz : 0 ≤ (st 7 3).toInt ∧ (st 7 3).toInt ≤ 15) : xs_K (xc G) base (d + 2) M_X5_lastTimeOf [.ref 7, .int needed, .int frm] st (fun v u => v = some (.int (F_X5_lastTimeOf st needed frm)) ∧ u = st) := by
  refine xs_intro ok_X5_lastTimeOf [(0, .ref 7), (1, .int needed), (2, .int frm)] rfl rfl ?_
  refine xr_blk gd_X5_lastTimeOf 4 (c' := (6, [(0, .ref 7), (1, .int needed), (2, .int frm), (3, .int 1000000), (4, .int 0)], [], st)) rfl ?_
  refine xs_cons (cl_X5_lastTimeOf_6 d st needed frm hsz 16 1000000 0 (xs_lo_e hsz.1 (by omega))) (fun v u hq => ?_)
  rw [F_X5_lastTimeOf]; exact hq
def F_X5_bestLow (st : xs_S) : Int32 := (F_X5_firstTimeOf st (F_X5_most st))
set_option maxRecDepth 20000 in
theorem c_X5_bestLow {G : xs_G} {base : Nat} (d : Nat) (st : xs_S) (hsz : 0 ≤ (st 7 3).toInt ∧ (st 7 3).toInt ≤ 15) : xs_K (xc G) base (d + 3) M_X5_bestLow [.ref 7] st (fun v u => v = some (.int (F_X5_bestLow st)) ∧ u = st) := by
  refine xs_intro ok_X5_bestLow [(0, .ref 7)] rfl rfl ?_
  refine xr_blk gd_X5_bestLow 2 (c' := (2, [(0, .ref 7)], [.ref 7, .ref 7], st)) rfl ?_
  refine xr_callV gd_X5_bestLow gd_X5_most k_X5_52 rfl (c_X5_most (d + 0) st hsz) (by omega) rfl rfl rfl rfl rfl ?_
  refine xs_fun ?_
  refine xr_callV gd_X5_bestLow gd_X5_firstTimeOf k_X5_56 rfl (c_X5_firstTimeOf (d + 0) st (F_X5_most st) hsz) (by omega) rfl rfl rfl rfl rfl ?_
  refine xs_fun ?_
  exact xr_iret gd_X5_bestLow rfl rfl ⟨by first | (rw [F_X5_bestLow]; done) | (rw [F_X5_bestLow]; rfl), rfl⟩
def F_X5_bestHigh (st : xs_S) : Int32 := (F_X5_lastTimeOf st (F_X5_most st) (F_X5_firstTimeOf st (F_X5_most st)))
set_option maxRecDepth 20000 in
theorem c_X5_bestHigh {G : xs_G} {base : Nat} (d : Nat) (st : xs_S) (hsz : 0 ≤ (st 7 3).toInt ∧ (st 7 3).toInt ≤ 15) : xs_K (xc G) base (d + 3) M_X5_bestHigh [.ref 7] st (fun v u => v = some (.int (F_X5_bestHigh st)) ∧ u = st) := by
  refine xs_intro ok_X5_bestHigh [(0, .ref 7)] rfl rfl ?_
  refine xr_blk gd_X5_bestHigh 1 (c' := (1, [(0, .ref 7)], [.ref 7], st)) rfl ?_
  refine xr_callV gd_X5_bestHigh gd_X5_most k_X5_52 rfl (c_X5_most (d + 0) st hsz) (by omega) rfl rfl rfl rfl rfl ?_
  refine xs_fun ?_
  refine xr_blk gd_X5_bestHigh 5 (c' := (9, [(0, .ref 7), (1, .int (F_X5_most st))], [.int (F_X5_most st), .ref 7, .int (F_X5_most st), .ref 7], st)) rfl ?_
  refine xr_callV gd_X5_bestHigh gd_X5_firstTimeOf k_X5_56 rfl (c_X5_firstTimeOf (d + 0) st (F_X5_most st) hsz) (by omega) rfl rfl rfl rfl rfl ?_
  refine xs_fun ?_
  refine xr_callV gd_X5_bestHigh gd_X5_lastTimeOf k_X5_59 rfl (c_X5_lastTimeOf (d + 0) st (F_X5_most st) (F_X5_firstTimeOf st (F_X5_most st)) hsz) (by omega) rfl rfl rfl rfl rfl ?_
  refine xs_fun ?_
  exact xr_iret gd_X5_bestHigh rfl rfl ⟨by first | (rw [F_X5_bestHigh]; done) | (rw [F_X5_bestHigh]; rfl), rfl⟩
def F_X5_hour (st : xs_S) : Int32 := (F_floorDiv st ((F_X5_firstTimeOf st (F_X5_most st)) + (F_X5_lastTimeOf st (F_X5_most st) (F_X5_firstTimeOf st (F_X5_most st)))) 2)
set_option maxRecDepth 20000 in
theorem c_X5_hour {G : xs_G} {base : Nat} (d : Nat) (st : xs_S) (hsz : 0 ≤ (st 7 3).toInt ∧ (st 7 3).toInt ≤ 15) : xs_K (xc G) base (d + 3) M_X5_hour [.ref 7] st (fun v u => v = some (.int (F_X5_hour st)) ∧ u = st) := by
  refine xs_intro ok_X5_hour [(0, .ref 7)] rfl rfl ?_
  refine xr_blk gd_X5_hour 1 (c' := (1, [(0, .ref 7)], [.ref 7], st)) rfl ?_
  refine xr_callV gd_X5_hour gd_X5_most k_X5_52 rfl (c_X5_most (d + 0) st hsz) (by omega) rfl rfl rfl rfl rfl ?_
  refine xs_fun ?_
  refine xr_blk gd_X5_hour 3 (c' := (7, [(0, .ref 7), (1, .int (F_X5_most st))], [.int (F_X5_most st), .ref 7], st)) rfl ?_
  refine xr_callV gd_X5_hour gd_X5_firstTimeOf k_X5_56 rfl (c_X5_firstTimeOf (d + 0) st (F_X5_most st) hsz) (by omega) rfl rfl rfl rfl rfl ?_
  refine xs_fun ?_
  refine xr_blk gd_X5_hour 5 (c' := (15, [(0, .ref 7), (1, .int (F_X5_most st)), (2, .int (F_X5_firstTimeOf st (F_X5_most st)))], [.int (F_X5_firstTimeOf st (F_X5_most st)), .int (F_X5_most st), .ref 7, .int (F_X5_firstTimeOf st (F_X5_most st))], st)) rfl ?_
  refine xr_callV gd_X5_hour gd_X5_lastTimeOf k_X5_59 rfl (c_X5_lastTimeOf (d + 0) st (F_X5_most st) (F_X5_firstTimeOf st (F_X5_most st)) hsz) (by omega) rfl rfl rfl rfl rfl ?_
  refine xs_fun ?_
  refine xr_blk gd_X5_hour 2 (c' := (20, [(0, .ref 7), (1, .int (F_X5_most st)), (2, .int (F_X5_firstTimeOf st (F_X5_most st)))], [.int 2, .int ((F_X5_firstTimeOf st (F_X5_most st)) + (F_X5_lastTimeOf st (F_X5_most st) (F_X5_firstTimeOf st (F_X5_most st))))], st)) rfl ?_
  refine xr_callS gd_X5_hour gd_J9_floorDiv_7cf53 k_X5_62 rfl (c_floorDiv (d + 2) st ((F_X5_firstTimeOf st (F_X5_most st)) + (F_X5_lastTimeOf st (F_X5_most st) (F_X5_firstTimeOf st (F_X5_most st)))) 2 (by decide)) (by omega) rfl rfl rfl ?_
  refine xs_fun ?_
  exact xr_iret gd_X5_hour rfl rfl ⟨by first | (rw [F_X5_hour]; done) | (rw [F_X5_hour]; rfl), rfl⟩
def F_X5_keyOf (st : xs_S) (time : Int32) (side : Int32) (dial : Int32) : Int32 := (((time * 32) + (side * 16)) + dial)
set_option maxRecDepth 20000 in
theorem c_X5_keyOf {G : xs_G} {base : Nat} (d : Nat) (st : xs_S) (time : Int32) (side : Int32) (dial : Int32) : xs_K (xc G) base (d + 0) M_X5_keyOf [.int time, .int side, .int dial] st (fun v u => v = some (.int (F_X5_keyOf st time side dial)) ∧ u = st) := by
  refine xs_intro ok_X5_keyOf [(0, .int time), (1, .int side), (2, .int dial)] rfl rfl ?_
  refine xr_blk gd_X5_keyOf 9 (c' := (11, [(0, .int time), (1, .int side), (2, .int dial)], [.int (((time * 32) + (side * 16)) + dial)], st)) rfl ?_
  exact xr_iret gd_X5_keyOf rfl rfl ⟨by first | (rw [F_X5_keyOf]; done) | (rw [F_X5_keyOf]; rfl), rfl⟩
def F_X5_keyAt (st : xs_S) (index : Int32) : Int32 := (if (st 7 3) ≤ index then (F_X5_keyOf st (st 9 ((index - (st 7 3)).toInt.toNat)) 1 (st 10 ((index - (st 7 3)).toInt.toNat)))
    else (F_X5_keyOf st (st 8 index.toInt.toNat) 0 (st 10 index.toInt.toNat)))
set_option maxRecDepth 20000 in
theorem c_X5_keyAt {G : xs_G} {base : Nat} (d : Nat) (st : xs_S) (index : Int32) (hi : 0 ≤ index.toInt ∧ index.toInt < 2 * (st 7 3).toInt) (hsz : 0 ≤ (st 7 3).toInt ∧ (st 7 3).toInt ≤ 15) : xs_K (xc G) base (d + 1) M_X5_keyAt [.ref 7, .int index] st (fun v u => v = some (.int (F_X5_keyAt st index)) ∧ u = st) := by
  refine xs_intro ok_X5_keyAt [(0, .ref 7), (1, .int index)] rfl rfl ?_
  refine xr_blk gd_X5_keyAt 3 (c' := (5, [(0, .ref 7), (1, .int index)], [.int (st 7 3), .int index], st)) rfl ?_
  refine xr_br gd_X5_keyAt rfl rfl (fun h1 => ?_) (fun h1 => ?_)
  · refine xr_blk gd_X5_keyAt 6 (c' := (35, [(0, .ref 7), (1, .int index)], [.int (index - (st 7 3)), .ref 9], st)) rfl ?_
    refine xr_iald gd_X5_keyAt rfl rfl ((index - (st 7 3)).toInt.toNat) (xs_h1 (n := 15) (by rw [xi_le] at h1; rw [xi_sub (by omega)]; omega)) (xs_h2 (n := 15) (by rw [xi_le] at h1; rw [xi_sub (by omega)]; omega)) ?_
    refine xr_blk gd_X5_keyAt 7 (c' := (47, [(0, .ref 7), (1, .int index)], [.int (index - (st 7 3)), .ref 10, .int 1, .int (st 9 ((index - (st 7 3)).toInt.toNat))], st)) rfl ?_
    refine xr_iald gd_X5_keyAt rfl rfl ((index - (st 7 3)).toInt.toNat) (xs_h1 (n := 15) (by rw [xi_le] at h1; rw [xi_sub (by omega)]; omega)) (xs_h2 (n := 15) (by rw [xi_le] at h1; rw [xi_sub (by omega)]; omega)) ?_
    refine xr_callS gd_X5_keyAt gd_X5_keyOf k_X5_74 rfl (c_X5_keyOf (d + 0) st (st 9 ((index - (st 7 3)).toInt.toNat)) 1 (st 10 ((index - (st 7 3)).toInt.toNat))) (by omega) rfl rfl rfl ?_
    refine xs_fun ?_
    exact xr_iret gd_X5_keyAt rfl rfl ⟨by first | (rw [F_X5_keyAt, if_pos h1]; done) | (rw [F_X5_keyAt, if_pos h1]; rfl), rfl⟩
  · refine xr_blk gd_X5_keyAt 3 (c' := (13, [(0, .ref 7), (1, .int index)], [.int index, .ref 8], st)) rfl ?_
    refine xr_iald gd_X5_keyAt rfl rfl (index.toInt.toNat) (xs_h1 (n := 15) (by rw [xi_le] at h1; omega)) (xs_h2 (n := 15) (by rw [xi_le] at h1; omega)) ?_
    refine xr_blk gd_X5_keyAt 4 (c' := (20, [(0, .ref 7), (1, .int index)], [.int index, .ref 10, .int 0, .int (st 8 index.toInt.toNat)], st)) rfl ?_
    refine xr_iald gd_X5_keyAt rfl rfl (index.toInt.toNat) (xs_h1 (n := 15) (by rw [xi_le] at h1; omega)) (xs_h2 (n := 15) (by rw [xi_le] at h1; omega)) ?_
    refine xr_callS gd_X5_keyAt gd_X5_keyOf k_X5_74 rfl (c_X5_keyOf (d + 0) st (st 8 index.toInt.toNat) 0 (st 10 index.toInt.toNat)) (by omega) rfl rfl rfl ?_
    refine xs_fun ?_
    exact xr_iret gd_X5_keyAt rfl rfl ⟨by first | (rw [F_X5_keyAt, if_neg h1]; done) | (rw [F_X5_keyAt, if_neg h1]; rfl), rfl⟩
def lp_X5_keysBelow_4 (st : xs_S) (key : Int32) : Nat → Int32 → Int32 → Int32
  | 0, _, _ => 0
  | n + 1, x2, x3 => (if (F_X5_ends st) ≤ x3 then x2
    else (if key ≤ (F_X5_keyAt st x3) then lp_X5_keysBelow_4 st key n x2 (x3 + 1)
      else lp_X5_keysBelow_4 st key n (x2 + 1) (x3 + 1)))
set_option maxRecDepth 20000 in
theorem cl_X5_keysBelow_4 {G : xs_G} {base : Nat} (d : Nat) (st : xs_S) (key : Int32) (hsz : 0 ≤ (st 7 3).toInt ∧ (st 7 3).toInt ≤ 15) : ∀ (n : Nat) (x2 : Int32) (x3 : Int32), xs_lo x3 (F_X5_ends st) n → xs_R (xc G) base (d + 2) M_X5_keysBelow (4, [(0, .ref 7), (1, .int key), (2, .int x2), (3, .int x3)], [], st) (xs_q (xc G) (fun v u => v = some (.int (lp_X5_keysBelow_4 st key n x2 x3)) ∧ u = st)) := by
  intro n
  induction n with
  | zero =>
    intro x2 x3 hinv
    exact (xs_lo0 hinv).elim
  | succ n ih =>
    intro x2 x3 hinv
    refine xr_blk gd_X5_keysBelow 2 (c' := (6, [(0, .ref 7), (1, .int key), (2, .int x2), (3, .int x3)], [.ref 7, .int x3], st)) rfl ?_
    refine xr_callV gd_X5_keysBelow gd_X5_ends k_X5_65 rfl (c_X5_ends (d + 1) st) (by omega) rfl rfl rfl rfl rfl ?_
    refine xs_fun ?_
    refine xr_br gd_X5_keysBelow rfl rfl (fun h1 => ?_) (fun h1 => ?_)
    · refine xr_blk gd_X5_keysBelow 1 (c' := (31, [(0, .ref 7), (1, .int key), (2, .int x2), (3, .int x3)], [.int x2], st)) rfl ?_
      exact xr_iret gd_X5_keysBelow rfl rfl ⟨by first | (rw [lp_X5_keysBelow_4, if_pos h1]; done) | (rw [lp_X5_keysBelow_4, if_pos h1]; rfl), rfl⟩
    · refine xr_blk gd_X5_keysBelow 2 (c' := (14, [(0, .ref 7), (1, .int key), (2, .int x2), (3, .int x3)], [.int x3, .ref 7], st)) rfl ?_
      refine xr_callV gd_X5_keysBelow gd_X5_keyAt k_X5_68 rfl (c_X5_keyAt (d + 0) st x3 (xs_ke hsz (xs_lo_in hinv h1)) hsz) (by omega) rfl rfl rfl rfl rfl ?_
      refine xs_fun ?_
      refine xr_blk gd_X5_keysBelow 1 (c' := (18, [(0, .ref 7), (1, .int key), (2, .int x2), (3, .int x3)], [.int key, .int (F_X5_keyAt st x3)], st)) rfl ?_
      refine xr_br gd_X5_keysBelow rfl rfl (fun h2 => ?_) (fun h2 => ?_)
      · refine xr_blk gd_X5_keysBelow 2 (c' := (4, [(0, .ref 7), (1, .int key), (2, .int x2), (3, .int (x3 + 1))], [], st)) rfl ?_
        refine xs_cons (ih x2 (x3 + 1) (xs_lo_up hinv h1)) (fun v u hq => ?_)
        rw [lp_X5_keysBelow_4, if_neg h1, if_pos h2]; exact hq
      · refine xr_blk gd_X5_keysBelow 3 (c' := (4, [(0, .ref 7), (1, .int key), (2, .int (x2 + 1)), (3, .int (x3 + 1))], [], st)) rfl ?_
        refine xs_cons (ih (x2 + 1) (x3 + 1) (xs_lo_up hinv h1)) (fun v u hq => ?_)
        rw [lp_X5_keysBelow_4, if_neg h1, if_neg h2]; exact hq
def F_X5_keysBelow (st : xs_S) (key : Int32) : Int32 := lp_X5_keysBelow_4 st key 31 0 0
set_option maxRecDepth 20000 in
theorem c_X5_keysBelow {G : xs_G} {base : Nat} (d : Nat) (st : xs_S) (key : Int32) (hsz : 0 ≤ (st 7 3).toInt ∧ (st 7 3).toInt ≤ 15) : xs_K (xc G) base (d + 2) M_X5_keysBelow [.ref 7, .int key] st (fun v u => v = some (.int (F_X5_keysBelow st key)) ∧ u = st) := by
  refine xs_intro ok_X5_keysBelow [(0, .ref 7), (1, .int key)] rfl rfl ?_
  refine xr_blk gd_X5_keysBelow 4 (c' := (4, [(0, .ref 7), (1, .int key), (2, .int 0), (3, .int 0)], [], st)) rfl ?_
  refine xs_cons (cl_X5_keysBelow_4 d st key hsz 31 0 0 (xs_lo_e (xs_ends hsz).1 (xs_ends hsz).2)) (fun v u hq => ?_)
  rw [F_X5_keysBelow]; exact hq
def lp_X5_endKey_2 (st : xs_S) (rank : Int32) : Nat → Int32 → Int32
  | 0, _ => 0
  | n + 1, x2 => (if (F_X5_ends st) ≤ x2 then 1000000
    else (if (F_X5_keysBelow st (F_X5_keyAt st x2)) = rank then (F_X5_keyAt st x2)
      else lp_X5_endKey_2 st rank n (x2 + 1)))
set_option maxRecDepth 20000 in
theorem cl_X5_endKey_2 {G : xs_G} {base : Nat} (d : Nat) (st : xs_S) (rank : Int32) (hsz : 0 ≤ (st 7 3).toInt ∧ (st 7 3).toInt ≤ 15) : ∀ (n : Nat) (x2 : Int32), xs_lo x2 (F_X5_ends st) n → xs_R (xc G) base (d + 3) M_X5_endKey (2, [(0, .ref 7), (1, .int rank), (2, .int x2)], [], st) (xs_q (xc G) (fun v u => v = some (.int (lp_X5_endKey_2 st rank n x2)) ∧ u = st)) := by
  intro n
  induction n with
  | zero =>
    intro x2 hinv
    exact (xs_lo0 hinv).elim
  | succ n ih =>
    intro x2 hinv
    refine xr_blk gd_X5_endKey 2 (c' := (4, [(0, .ref 7), (1, .int rank), (2, .int x2)], [.ref 7, .int x2], st)) rfl ?_
    refine xr_callV gd_X5_endKey gd_X5_ends k_X5_65 rfl (c_X5_ends (d + 2) st) (by omega) rfl rfl rfl rfl rfl ?_
    refine xs_fun ?_
    refine xr_br gd_X5_endKey rfl rfl (fun h1 => ?_) (fun h1 => ?_)
    · refine xr_blk gd_X5_endKey 1 (c' := (35, [(0, .ref 7), (1, .int rank), (2, .int x2)], [.int 1000000], st)) rfl ?_
      exact xr_iret gd_X5_endKey rfl rfl ⟨by first | (rw [lp_X5_endKey_2, if_pos h1]; done) | (rw [lp_X5_endKey_2, if_pos h1]; rfl), rfl⟩
    · refine xr_blk gd_X5_endKey 2 (c' := (12, [(0, .ref 7), (1, .int rank), (2, .int x2)], [.int x2, .ref 7], st)) rfl ?_
      refine xr_callV gd_X5_endKey gd_X5_keyAt k_X5_68 rfl (c_X5_keyAt (d + 1) st x2 (xs_ke hsz (xs_lo_in hinv h1)) hsz) (by omega) rfl rfl rfl rfl rfl ?_
      refine xs_fun ?_
      refine xr_blk gd_X5_endKey 3 (c' := (18, [(0, .ref 7), (1, .int rank), (2, .int x2), (3, .int (F_X5_keyAt st x2))], [.int (F_X5_keyAt st x2), .ref 7], st)) rfl ?_
      refine xr_callV gd_X5_endKey gd_X5_keysBelow k_X5_71 rfl (c_X5_keysBelow (d + 0) st (F_X5_keyAt st x2) hsz) (by omega) rfl rfl rfl rfl rfl ?_
      refine xs_fun ?_
      refine xr_blk gd_X5_endKey 1 (c' := (22, [(0, .ref 7), (1, .int rank), (2, .int x2), (3, .int (F_X5_keyAt st x2))], [.int rank, .int (F_X5_keysBelow st (F_X5_keyAt st x2))], st)) rfl ?_
      refine xr_br gd_X5_endKey rfl rfl (fun h2 => ?_) (fun h2 => ?_)
      · refine xr_blk gd_X5_endKey 2 (c' := (2, [(0, .ref 7), (1, .int rank), (2, .int (x2 + 1)), (3, .int (F_X5_keyAt st x2))], [], st)) rfl ?_
        refine xs_pk (lv' := [(0, .ref 7), (1, .int rank), (2, .int (x2 + 1))]) [0, 1, 2] rfl ?_
        refine xs_cons (ih (x2 + 1) (xs_lo_up hinv h1)) (fun v u hq => ?_)
        rw [lp_X5_endKey_2, if_neg h1, if_neg h2]; exact hq
      · refine xr_blk gd_X5_endKey 1 (c' := (26, [(0, .ref 7), (1, .int rank), (2, .int x2), (3, .int (F_X5_keyAt st x2))], [.int (F_X5_keyAt st x2)], st)) rfl ?_
        exact xr_iret gd_X5_endKey rfl rfl ⟨by first | (rw [lp_X5_endKey_2, if_neg h1, if_pos h2]; done) | (rw [lp_X5_endKey_2, if_neg h1, if_pos h2]; rfl), rfl⟩
def F_X5_endKey (st : xs_S) (rank : Int32) : Int32 := lp_X5_endKey_2 st rank 31 0
set_option maxRecDepth 20000 in
theorem c_X5_endKey {G : xs_G} {base : Nat} (d : Nat) (st : xs_S) (rank : Int32) (hsz : 0 ≤ (st 7 3).toInt ∧ (st 7 3).toInt ≤ 15) : xs_K (xc G) base (d + 3) M_X5_endKey [.ref 7, .int rank] st (fun v u => v = some (.int (F_X5_endKey st rank)) ∧ u = st) := by
  refine xs_intro ok_X5_endKey [(0, .ref 7), (1, .int rank)] rfl rfl ?_
  refine xr_blk gd_X5_endKey 2 (c' := (2, [(0, .ref 7), (1, .int rank), (2, .int 0)], [], st)) rfl ?_
  refine xs_cons (cl_X5_endKey_2 d st rank hsz 31 0 (xs_lo_e (xs_ends hsz).1 (xs_ends hsz).2)) (fun v u hq => ?_)
  rw [F_X5_endKey]; exact hq
def F_X5_timeOfKey (st : xs_S) (key : Int32) : Int32 := (F_floorDiv st key 32)
set_option maxRecDepth 20000 in
theorem c_X5_timeOfKey {G : xs_G} {base : Nat} (d : Nat) (st : xs_S) (key : Int32) : xs_K (xc G) base (d + 1) M_X5_timeOfKey [.int key] st (fun v u => v = some (.int (F_X5_timeOfKey st key)) ∧ u = st) := by
  refine xs_intro ok_X5_timeOfKey [(0, .int key)] rfl rfl ?_
  refine xr_blk gd_X5_timeOfKey 2 (c' := (3, [(0, .int key)], [.int 32, .int key], st)) rfl ?_
  refine xr_callS gd_X5_timeOfKey gd_J9_floorDiv_7cf53 k_X5_62 rfl (c_floorDiv (d + 0) st key 32 (by decide)) (by omega) rfl rfl rfl ?_
  refine xs_fun ?_
  exact xr_iret gd_X5_timeOfKey rfl rfl ⟨by first | (rw [F_X5_timeOfKey]; done) | (rw [F_X5_timeOfKey]; rfl), rfl⟩
def F_X5_sideOfKey (st : xs_S) (key : Int32) : Int32 := ((F_floorMod st key 32) / 16)
set_option maxRecDepth 20000 in
theorem c_X5_sideOfKey {G : xs_G} {base : Nat} (d : Nat) (st : xs_S) (key : Int32) : xs_K (xc G) base (d + 1) M_X5_sideOfKey [.int key] st (fun v u => v = some (.int (F_X5_sideOfKey st key)) ∧ u = st) := by
  refine xs_intro ok_X5_sideOfKey [(0, .int key)] rfl rfl ?_
  refine xr_blk gd_X5_sideOfKey 2 (c' := (3, [(0, .int key)], [.int 32, .int key], st)) rfl ?_
  refine xr_callS gd_X5_sideOfKey gd_J9_floorMod_7cf53 k_X5_78 rfl (c_floorMod (d + 0) st key 32 (by decide)) (by omega) rfl rfl rfl ?_
  refine xs_fun ?_
  refine xr_blk gd_X5_sideOfKey 1 (c' := (8, [(0, .int key)], [.int 16, .int (F_floorMod st key 32)], st)) rfl ?_
  refine xr_idiv gd_X5_sideOfKey.1 rfl (by decide) ?_
  exact xr_iret gd_X5_sideOfKey rfl rfl ⟨by first | (rw [F_X5_sideOfKey]; done) | (rw [F_X5_sideOfKey]; rfl), rfl⟩
def F_X5_dialOfKey (st : xs_S) (key : Int32) : Int32 := (F_floorMod st key 16)
set_option maxRecDepth 20000 in
theorem c_X5_dialOfKey {G : xs_G} {base : Nat} (d : Nat) (st : xs_S) (key : Int32) : xs_K (xc G) base (d + 1) M_X5_dialOfKey [.int key] st (fun v u => v = some (.int (F_X5_dialOfKey st key)) ∧ u = st) := by
  refine xs_intro ok_X5_dialOfKey [(0, .int key)] rfl rfl ?_
  refine xr_blk gd_X5_dialOfKey 2 (c' := (3, [(0, .int key)], [.int 16, .int key], st)) rfl ?_
  refine xr_callS gd_X5_dialOfKey gd_J9_floorMod_7cf53 k_X5_78 rfl (c_floorMod (d + 0) st key 16 (by decide)) (by omega) rfl rfl rfl ?_
  refine xs_fun ?_
  exact xr_iret gd_X5_dialOfKey rfl rfl ⟨by first | (rw [F_X5_dialOfKey]; done) | (rw [F_X5_dialOfKey]; rfl), rfl⟩
