theorem ix2 {k : Int32} (h : 0 ≤ k.toInt ∧ k.toInt < 15) : 0 ≤ (2 * k).toInt ∧ (2 * k).toInt < 30 := by
  have e2 : (2 : Int32).toInt = 2 := by decide
  rw [xi_mul (by rw [e2]; omega), e2]
  omega
theorem ix2p {k : Int32} (h : 0 ≤ k.toInt ∧ k.toInt < 15) : 0 ≤ (2 * k + 1).toInt ∧ (2 * k + 1).toInt < 30 := by
  have e2 : (2 : Int32).toInt = 2 := by decide
  have h1 := ix2 h
  have h2 : (2 * k).toInt = 2 * k.toInt := by rw [xi_mul (by rw [e2]; omega), e2]
  rw [xi_add (by rw [xi_1]; omega), xi_1]
  omega
theorem ix3 {k : Int32} (h : 0 ≤ k.toInt ∧ k.toInt < 15) : (0 ≤ (3 * k).toInt ∧ (3 * k).toInt < 45) ∧ (0 ≤ (3 * k + 1).toInt ∧ (3 * k + 1).toInt < 45) ∧ (0 ≤ (3 * k + 2).toInt ∧ (3 * k + 2).toInt < 45) := by
  have e3 : (3 : Int32).toInt = 3 := by decide
  have e2 : (2 : Int32).toInt = 2 := by decide
  have h2 : (3 * k).toInt = 3 * k.toInt := by rw [xi_mul (by rw [e3]; omega), e3]
  rw [xi_add (by rw [xi_1]; omega), xi_1, xi_add (by rw [e2]; omega), e2]
  omega
theorem xi_na {a b : Int32} (h : a < b) (k : b ≤ a) : False := by
  rw [xi_lt] at h
  rw [xi_le] at k
  omega
theorem xi_nb {a b : Int32} (h : ¬ a < b) (k : ¬ b ≤ a) : False := by
  rw [xi_lt] at h
  rw [xi_le] at k
  omega
def F_L_low (st : xs_S) (val : Int32) (n : Int32) : Int32 := ((val &&& 2147483647) - (val &&& 2147483647) / n * n)
set_option maxRecDepth 20000 in
theorem c_L_low {G : xs_G} {base : Nat} (d : Nat) (st : xs_S) (val : Int32) (n : Int32) (hn : ¬ n = 0) : xs_K (xc G) base (d + 0) M_L_low [.int val, .int n] st (fun v u => v = some (.int (F_L_low st val n)) ∧ u = st) := by
  refine xs_intro ok_L_low [(0, .int val), (1, .int n)] rfl rfl ?_
  refine xr_blk gd_L_low 4 (c' := (5, [(0, .int val), (1, .int n)], [.int n, .int (val &&& 2147483647)], st)) rfl ?_
  refine xr_irem gd_L_low.1 rfl hn ?_
  exact xr_iret gd_L_low rfl rfl ⟨by first | (rw [F_L_low]; done) | (rw [F_L_low]; rfl), rfl⟩
def lp_L_size_4 (st : xs_S) (mask : Int32) : Nat → Int32 → Int32 → Int32
  | 0, _, _ => 0
  | n + 1, x1, x2 => (if 15 ≤ x2 then x1
    else lp_L_size_4 st mask n (x1 + ((mask >>> (x2 &&& 31)) &&& 1)) (x2 + 1))
set_option maxRecDepth 20000 in
theorem cl_L_size_4 {G : xs_G} {base : Nat} (d : Nat) (st : xs_S) (mask : Int32) : ∀ (n : Nat) (x1 : Int32) (x2 : Int32), xs_lo x2 15 n → xs_R (xc G) base (d + 0) M_L_size (4, [(0, .int mask), (1, .int x1), (2, .int x2)], [], st) (xs_q (xc G) (fun v u => v = some (.int (lp_L_size_4 st mask n x1 x2)) ∧ u = st)) := by
  intro n
  induction n with
  | zero =>
    intro x1 x2 hinv
    exact (xs_lo0 hinv).elim
  | succ n ih =>
    intro x1 x2 hinv
    refine xr_blk gd_L_size 2 (c' := (7, [(0, .int mask), (1, .int x1), (2, .int x2)], [.int 15, .int x2], st)) rfl ?_
    refine xr_br gd_L_size rfl rfl (fun h1 => ?_) (fun h1 => ?_)
    · refine xr_blk gd_L_size 1 (c' := (25, [(0, .int mask), (1, .int x1), (2, .int x2)], [.int x1], st)) rfl ?_
      exact xr_iret gd_L_size rfl rfl ⟨by first | (rw [lp_L_size_4, if_pos h1]; done) | (rw [lp_L_size_4, if_pos h1]; rfl), rfl⟩
    · refine xr_blk gd_L_size 10 (c' := (4, [(0, .int mask), (1, .int (x1 + ((mask >>> (x2 &&& 31)) &&& 1))), (2, .int (x2 + 1))], [], st)) rfl ?_
      refine xs_cons (ih (x1 + ((mask >>> (x2 &&& 31)) &&& 1)) (x2 + 1) (xs_lo_up hinv h1)) (fun v u hq => ?_)
      rw [lp_L_size_4, if_neg h1]; exact hq
def F_L_size (st : xs_S) (mask : Int32) : Int32 := lp_L_size_4 st mask 16 0 0
set_option maxRecDepth 20000 in
theorem c_L_size {G : xs_G} {base : Nat} (d : Nat) (st : xs_S) (mask : Int32) : xs_K (xc G) base (d + 0) M_L_size [.int mask] st (fun v u => v = some (.int (F_L_size st mask)) ∧ u = st) := by
  refine xs_intro ok_L_size [(0, .int mask)] rfl rfl ?_
  refine xr_blk gd_L_size 4 (c' := (4, [(0, .int mask), (1, .int 0), (2, .int 0)], [], st)) rfl ?_
  refine xs_cons (cl_L_size_4 d st mask 16 0 0 ⟨by decide, by decide, by decide⟩) (fun v u hq => ?_)
  rw [F_L_size]; exact hq
def F_L_has (st : xs_S) (dial : Int32) (time : Int32) : Int32 := (if (st 73 ((2 * dial).toInt.toNat)) = (-6) then 0
    else (if time < ((st 73 ((2 * dial).toInt.toNat)) - 100000) then 0
      else (if ((st 73 (((2 * dial) + 1).toInt.toNat)) - 100000) < time then 0
        else 1)))
set_option maxRecDepth 20000 in
theorem c_L_has {G : xs_G} {base a1 : Nat} (d : Nat) (st : xs_S) (dial : Int32) (time : Int32) (hd : 0 ≤ dial.toInt ∧ dial.toInt < 15) : xs_K (xc (xn (xg G 1 30) a1 30)) base (d + 0) M_L_has [.ref 73, .int dial, .int time] st (fun v u => v = some (.int (F_L_has st dial time)) ∧ u = st) := by
  refine xs_intro ok_L_has [(0, .ref 73), (1, .int dial), (2, .int time)] rfl rfl ?_
  refine xr_blk gd_L_has 4 (c' := (4, [(0, .ref 73), (1, .int dial), (2, .int time)], [.int (2 * dial), .ref 73], st)) rfl ?_
  refine xr_iald gd_L_has rfl rfl ((2 * dial).toInt.toNat) (xs_h1 (n := 30) (ix2 hd)) (xs_h2 (n := 30) (ix2 hd)) ?_
  refine xr_blk gd_L_has 1 (c' := (7, [(0, .ref 73), (1, .int dial), (2, .int time)], [.int (-6), .int (st 73 ((2 * dial).toInt.toNat))], st)) rfl ?_
  refine xr_br gd_L_has rfl rfl (fun h1 => ?_) (fun h1 => ?_)
  · refine xr_blk gd_L_has 1 (c' := (41, [(0, .ref 73), (1, .int dial), (2, .int time)], [.int 0], st)) rfl ?_
    exact xr_zret gd_L_has rfl rfl rfl ⟨by first | (rw [F_L_has, if_pos h1]; done) | (rw [F_L_has, if_pos h1]; rfl), rfl⟩
  · refine xr_blk gd_L_has 4 (c' := (14, [(0, .ref 73), (1, .int dial), (2, .int time)], [.int (2 * dial), .ref 73], st)) rfl ?_
    refine xr_iald gd_L_has rfl rfl ((2 * dial).toInt.toNat) (xs_h1 (n := 30) (ix2 hd)) (xs_h2 (n := 30) (ix2 hd)) ?_
    refine xr_blk gd_L_has 3 (c' := (19, [(0, .ref 73), (1, .int dial), (2, .int time)], [.int time, .int ((st 73 ((2 * dial).toInt.toNat)) - 100000)], st)) rfl ?_
    refine xr_br gd_L_has rfl rfl (fun h2 => ?_) (fun h2 => ?_)
    · refine xr_blk gd_L_has 1 (c' := (41, [(0, .ref 73), (1, .int dial), (2, .int time)], [.int 0], st)) rfl ?_
      exact xr_zret gd_L_has rfl rfl rfl ⟨by first | (rw [F_L_has, if_neg h1, if_pos h2]; done) | (rw [F_L_has, if_neg h1, if_pos h2]; rfl), rfl⟩
    · refine xr_blk gd_L_has 7 (c' := (29, [(0, .ref 73), (1, .int dial), (2, .int time)], [.int ((2 * dial) + 1), .ref 73, .int time], st)) rfl ?_
      refine xr_iald gd_L_has rfl rfl (((2 * dial) + 1).toInt.toNat) (xs_h1 (n := 30) (ix2p hd)) (xs_h2 (n := 30) (ix2p hd)) ?_
      refine xr_blk gd_L_has 2 (c' := (33, [(0, .ref 73), (1, .int dial), (2, .int time)], [.int ((st 73 (((2 * dial) + 1).toInt.toNat)) - 100000), .int time], st)) rfl ?_
      refine xr_br gd_L_has rfl rfl (fun h3 => ?_) (fun h3 => ?_)
      · refine xr_blk gd_L_has 1 (c' := (41, [(0, .ref 73), (1, .int dial), (2, .int time)], [.int 0], st)) rfl ?_
        exact xr_zret gd_L_has rfl rfl rfl ⟨by first | (rw [F_L_has, if_neg h1, if_neg h2, if_pos h3]; done) | (rw [F_L_has, if_neg h1, if_neg h2, if_pos h3]; rfl), rfl⟩
      · refine xr_blk gd_L_has 2 (c' := (41, [(0, .ref 73), (1, .int dial), (2, .int time)], [.int 1], st)) rfl ?_
        exact xr_zret gd_L_has rfl rfl rfl ⟨by first | (rw [F_L_has, if_neg h1, if_neg h2, if_neg h3]; done) | (rw [F_L_has, if_neg h1, if_neg h2, if_neg h3]; rfl), rfl⟩
def lp_L_overlap_4 (st : xs_S) (time : Int32) : Nat → Int32 → Int32 → Int32
  | 0, _, _ => 0
  | n + 1, x2, x3 => (if 15 ≤ x3 then x2
    else (if (F_L_has st x3 time) = 0 then lp_L_overlap_4 st time n (x2 + 0) (x3 + 1)
      else lp_L_overlap_4 st time n (x2 + 1) (x3 + 1)))
set_option maxRecDepth 20000 in
theorem cl_L_overlap_4 {G : xs_G} {base a1 : Nat} (d : Nat) (st : xs_S) (time : Int32) : ∀ (n : Nat) (x2 : Int32) (x3 : Int32), xs_lo x3 15 n → xs_R (xc (xn (xg G 1 30) a1 30)) base (d + 1) M_L_overlap (4, [(0, .ref 73), (1, .int time), (2, .int x2), (3, .int x3)], [], st) (xs_q (xc (xn (xg G 1 30) a1 30)) (fun v u => v = some (.int (lp_L_overlap_4 st time n x2 x3)) ∧ u = st)) := by
  intro n
  induction n with
  | zero =>
    intro x2 x3 hinv
    exact (xs_lo0 hinv).elim
  | succ n ih =>
    intro x2 x3 hinv
    refine xr_blk gd_L_overlap 2 (c' := (7, [(0, .ref 73), (1, .int time), (2, .int x2), (3, .int x3)], [.int 15, .int x3], st)) rfl ?_
    refine xr_br gd_L_overlap rfl rfl (fun h1 => ?_) (fun h1 => ?_)
    · refine xr_blk gd_L_overlap 1 (c' := (34, [(0, .ref 73), (1, .int time), (2, .int x2), (3, .int x3)], [.int x2], st)) rfl ?_
      exact xr_iret gd_L_overlap rfl rfl ⟨by first | (rw [lp_L_overlap_4, if_pos h1]; done) | (rw [lp_L_overlap_4, if_pos h1]; rfl), rfl⟩
    · refine xr_blk gd_L_overlap 4 (c' := (14, [(0, .ref 73), (1, .int time), (2, .int x2), (3, .int x3)], [.int time, .int x3, .ref 73, .int x2], st)) rfl ?_
      refine xr_callS gd_L_overlap gd_L_has k_L_10 rfl (c_L_has (d + 0) st x3 time (xs_lo15 hinv h1)) (by omega) rfl rfl rfl ?_
      refine xs_fun ?_
      refine xr_br gd_L_overlap rfl rfl (fun h2 => ?_) (fun h2 => ?_)
      · refine xr_blk gd_L_overlap 5 (c' := (4, [(0, .ref 73), (1, .int time), (2, .int (x2 + 0)), (3, .int (x3 + 1))], [], st)) rfl ?_
        refine xs_cons (ih (x2 + 0) (x3 + 1) (xs_lo_up hinv h1)) (fun v u hq => ?_)
        rw [lp_L_overlap_4, if_neg h1, if_pos h2]; exact hq
      · refine xr_blk gd_L_overlap 6 (c' := (4, [(0, .ref 73), (1, .int time), (2, .int (x2 + 1)), (3, .int (x3 + 1))], [], st)) rfl ?_
        refine xs_cons (ih (x2 + 1) (x3 + 1) (xs_lo_up hinv h1)) (fun v u hq => ?_)
        rw [lp_L_overlap_4, if_neg h1, if_neg h2]; exact hq
def F_L_overlap (st : xs_S) (time : Int32) : Int32 := lp_L_overlap_4 st time 16 0 0
set_option maxRecDepth 20000 in
theorem c_L_overlap {G : xs_G} {base a1 : Nat} (d : Nat) (st : xs_S) (time : Int32) : xs_K (xc (xn (xg G 1 30) a1 30)) base (d + 1) M_L_overlap [.ref 73, .int time] st (fun v u => v = some (.int (F_L_overlap st time)) ∧ u = st) := by
  refine xs_intro ok_L_overlap [(0, .ref 73), (1, .int time)] rfl rfl ?_
  refine xr_blk gd_L_overlap 4 (c' := (4, [(0, .ref 73), (1, .int time), (2, .int 0), (3, .int 0)], [], st)) rfl ?_
  refine xs_cons (cl_L_overlap_4 d st time 16 0 0 ⟨by decide, by decide, by decide⟩) (fun v u hq => ?_)
  rw [F_L_overlap]; exact hq
