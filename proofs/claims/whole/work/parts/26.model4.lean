/-- the reference's pad while it is read -/
def PM (st : xs_S) : Prop := (0 ≤ (st 72 8).toInt ∧ (st 72 8).toInt ≤ (st 72 7).toInt + 1) ∧ 0 ≤ (st 72 7).toInt ∧ (st 72 7).toInt ≤ 80
theorem pm_i {st : xs_S} (h : PM st) (h1 : ¬ st 72 7 ≤ st 72 8) : 0 ≤ (st 72 8).toInt ∧ (st 72 8).toInt < 80 := by
  obtain ⟨⟨a, b⟩, c, e⟩ := h
  rw [xi_le] at h1
  omega
theorem pm_j {st : xs_S} (h : PM st) (h1 : st 72 8 < st 72 7) : 0 ≤ (st 72 8).toInt ∧ (st 72 8).toInt < 80 := by
  obtain ⟨⟨a, b⟩, c, e⟩ := h
  rw [xi_lt] at h1
  omega
theorem pp_e {n : Int32} {s : Int32} (hn : 0 ≤ n.toInt ∧ n.toInt ≤ 8) (hl : 0 ≤ s.toInt ∧ s.toInt ≤ 80) (h : s + n ≤ 80) : (-1 ≤ (n - 1).toInt ∧ (n - 1).toInt < 8 ∧ (n - 1).toInt + 1 < ((9 : Nat) : Int)) ∧ 0 ≤ s.toInt ∧ s.toInt + (n - 1).toInt + 1 ≤ 80 := by
  have e80 : (80 : Int32).toInt = 80 := by decide
  rw [xi_le, xi_add (by omega), e80] at h
  have e : (n - 1).toInt = n.toInt - 1 := by rw [xi_sub (by rw [xi_1]; omega), xi_1]
  rw [e]
  omega
theorem pp_b {x s : Int32} {n : Nat} (h : (-1 ≤ x.toInt ∧ x.toInt < 8 ∧ x.toInt + 1 < ((n + 1 : Nat) : Int)) ∧ 0 ≤ s.toInt ∧ s.toInt + x.toInt + 1 ≤ 80) (h1 : ¬ x < 0) : (-1 ≤ (x + (-1)).toInt ∧ (x + (-1)).toInt < 8 ∧ (x + (-1)).toInt + 1 < (n : Int)) ∧ 0 ≤ (s + 1).toInt ∧ (s + 1).toInt + (x + (-1)).toInt + 1 ≤ 80 := by
  rw [xi_lt, xi_0] at h1
  have hm : (-1 : Int32).toInt = -1 := by decide
  rw [xi_inc (by omega), xi_add (by rw [hm]; omega), hm]
  omega
theorem pp_i {x s : Int32} {n : Nat} (h : (-1 ≤ x.toInt ∧ x.toInt < 8 ∧ x.toInt + 1 < (n : Int)) ∧ 0 ≤ s.toInt ∧ s.toInt + x.toInt + 1 ≤ 80) (h1 : ¬ x < 0) : (0 ≤ s.toInt ∧ s.toInt < 80) ∧ 0 ≤ x.toInt ∧ x.toInt < 8 := by
  rw [xi_lt, xi_0] at h1
  omega
theorem xs_lo8 {x : Int32} {n : Nat} (h : xs_lo x 8 n) (hc : ¬ 8 ≤ x) : 0 ≤ x.toInt ∧ x.toInt < 8 := xs_lo_in h hc
theorem xs_lo8b {x : Int32} {n : Nat} (h : xs_lo x 8 n) : 0 ≤ x.toInt ∧ x.toInt ≤ 8 := by
  have e : (8 : Int32).toInt = 8 := by decide
  obtain ⟨a, b, c⟩ := h
  omega
def lp_X7_put_92 (characters : Int64) : Nat → Int64 → Int32 → Int32 → xs_S → Int32 × xs_S
  | 0, _, _, _, st => (0, st)
  | n + 1, x3, x5, x6, st => (if x6 < 0 then (st 72 7, st)
    else lp_X7_put_92 characters n x3 x5 (x6 + (-1)) (xs_u (xs_u st 78 ((st 72 7).toInt.toNat) (st 79 x6.toInt.toNat)) 72 7 ((st 72 7) + 1)))
set_option maxRecDepth 20000 in
theorem cl_X7_put_92 {G : xs_G} {base : Nat} (d : Nat) (characters : Int64) : ∀ (n : Nat) (x3 : Int64) (x5 : Int32) (x6 : Int32) (st : xs_S), (-1 ≤ x6.toInt ∧ x6.toInt < 8 ∧ x6.toInt + 1 < (n : Int)) ∧ 0 ≤ (st 72 7).toInt ∧ (st 72 7).toInt + x6.toInt + 1 ≤ 80 → xs_R G base (d + 1) M_X7_put (92, [(0, .ref 72), (1, .long characters), (3, .long x3), (5, .int x5), (6, .int x6)], [], st) (fun v u => v = some (.int (lp_X7_put_92 characters n x3 x5 x6 st).1) ∧ u = (lp_X7_put_92 characters n x3 x5 x6 st).2) := by
  intro n
  induction n with
  | zero =>
    intro x3 x5 x6 st hinv
    exfalso
    omega
  | succ n ih =>
    intro x3 x5 x6 st hinv
    refine xr_blk gd_X7_put 1 (c' := (94, [(0, .ref 72), (1, .long characters), (3, .long x3), (5, .int x5), (6, .int x6)], [.int x6], st)) rfl ?_
    refine xr_br gd_X7_put rfl rfl (fun h1 => ?_) (fun h1 => ?_)
    · refine xr_blk gd_X7_put 2 (c' := (133, [(0, .ref 72), (1, .long characters), (3, .long x3), (5, .int x5), (6, .int x6)], [.int (st 72 7)], st)) rfl ?_
      exact xr_iret gd_X7_put rfl rfl ⟨by first | (rw [lp_X7_put_92, if_pos h1]; done) | (rw [lp_X7_put_92, if_pos h1]; rfl), by first | (rw [lp_X7_put_92, if_pos h1]; done) | (rw [lp_X7_put_92, if_pos h1]; rfl)⟩
    · refine xr_blk gd_X7_put 7 (c' := (111, [(0, .ref 72), (1, .long characters), (3, .long x3), (5, .int x5), (6, .int x6)], [.int x6, .ref 79, .int (st 72 7), .ref 78], st)) rfl ?_
      refine xr_iald gd_X7_put rfl rfl (x6.toInt.toNat) (xs_h1 (n := 8) (pp_i hinv h1).2) (xs_h2 (n := 8) (pp_i hinv h1).2) ?_
      refine xr_iast gd_X7_put rfl rfl ((st 72 7).toInt.toNat) (xs_h1 (n := 80) (pp_i hinv h1).1) (xs_h2 (n := 80) (pp_i hinv h1).1) ?_
      refine xr_blk gd_X7_put 8 (c' := (92, [(0, .ref 72), (1, .long characters), (3, .long x3), (5, .int x5), (6, .int (x6 + (-1)))], [], xs_u (xs_u st 78 ((st 72 7).toInt.toNat) (st 79 x6.toInt.toNat)) 72 7 ((st 72 7) + 1))) rfl ?_
      refine xs_cons (ih x3 x5 (x6 + (-1)) (xs_u (xs_u st 78 ((st 72 7).toInt.toNat) (st 79 x6.toInt.toNat)) 72 7 ((st 72 7) + 1)) (pp_b hinv h1)) (fun v u hq => ?_)
      rw [lp_X7_put_92, if_neg h1]; exact hq
def lp_X7_put_5 (characters : Int64) : Nat → Int64 → Int32 → xs_S → Int32 × xs_S
  | 0, _, _, st => (0, st)
  | n + 1, x3, x5, st => (if (lg_cmp x3 (Int64.ofNat 0)) = 0 then (if x5 = 0 then ((-2), st)
      else (if ((st 72 7) + x5) ≤ 80 then lp_X7_put_92 characters 9 x3 x5 (x5 - 1) st
        else ((-4), st)))
    else (if 8 ≤ x5 then (if x5 = 0 then ((-2), st)
        else (if ((st 72 7) + x5) ≤ 80 then lp_X7_put_92 characters 9 x3 x5 (x5 - 1) st
          else ((-4), st)))
      else (if (F_X7_in (xs_u st 79 x5.toInt.toNat ((x3 &&& 255).toInt32)) (((xs_u st 79 x5.toInt.toNat ((x3 &&& 255).toInt32)) 79 x5.toInt.toNat).toInt64) 33 126) = 0 then ((-2), xs_u st 79 x5.toInt.toNat ((x3 &&& 255).toInt32))
        else lp_X7_put_5 characters n ((x3.toUInt64 >>> ((8 : Int32).toInt64.toUInt64 &&& Int64.toUInt64 63)).toInt64) (x5 + 1) (xs_u st 79 x5.toInt.toNat ((x3 &&& 255).toInt32)))))
set_option maxRecDepth 20000 in
theorem cl_X7_put_5 {G : xs_G} {base : Nat} (d : Nat) (characters : Int64) : ∀ (n : Nat) (x3 : Int64) (x5 : Int32) (st : xs_S), xs_lo x5 8 n ∧ (0 ≤ (st 72 7).toInt ∧ (st 72 7).toInt ≤ 80) → xs_R G base (d + 1) M_X7_put (5, [(0, .ref 72), (1, .long characters), (3, .long x3), (5, .int x5)], [], st) (fun v u => v = some (.int (lp_X7_put_5 characters n x3 x5 st).1) ∧ u = (lp_X7_put_5 characters n x3 x5 st).2) := by
  intro n
  induction n with
  | zero =>
    intro x3 x5 st hinv
    exact (xs_lo0 hinv.1).elim
  | succ n ih =>
    intro x3 x5 st hinv
    refine xr_blk gd_X7_put 3 (c' := (8, [(0, .ref 72), (1, .long characters), (3, .long x3), (5, .int x5)], [.int (lg_cmp x3 (Int64.ofNat 0))], st)) rfl ?_
    refine xr_br gd_X7_put rfl rfl (fun h1 => ?_) (fun h1 => ?_)
    · refine xr_blk gd_X7_put 1 (c' := (65, [(0, .ref 72), (1, .long characters), (3, .long x3), (5, .int x5)], [.int x5], st)) rfl ?_
      refine xr_br gd_X7_put rfl rfl (fun h2 => ?_) (fun h2 => ?_)
      · refine xr_blk gd_X7_put 5 (c' := (80, [(0, .ref 72), (1, .long characters), (3, .long x3), (5, .int x5)], [.int 80, .int ((st 72 7) + x5)], st)) rfl ?_
        refine xr_br gd_X7_put rfl rfl (fun h3 => ?_) (fun h3 => ?_)
        · refine xr_blk gd_X7_put 4 (c' := (92, [(0, .ref 72), (1, .long characters), (3, .long x3), (5, .int x5), (6, .int (x5 - 1))], [], st)) rfl ?_
          refine xs_cons (cl_X7_put_92 d characters 9 x3 x5 (x5 - 1) st (pp_e (xs_lo8b hinv.1) hinv.2 (by assumption))) (fun v u hq => ?_)
          rw [lp_X7_put_5, if_pos h1, if_neg h2, if_pos h3]; exact hq
        · refine xr_blk gd_X7_put 1 (c' := (85, [(0, .ref 72), (1, .long characters), (3, .long x3), (5, .int x5)], [.int (-4)], st)) rfl ?_
          exact xr_iret gd_X7_put rfl rfl ⟨by first | (rw [lp_X7_put_5, if_pos h1, if_neg h2, if_neg h3]; done) | (rw [lp_X7_put_5, if_pos h1, if_neg h2, if_neg h3]; rfl), by first | (rw [lp_X7_put_5, if_pos h1, if_neg h2, if_neg h3]; done) | (rw [lp_X7_put_5, if_pos h1, if_neg h2, if_neg h3]; rfl)⟩
      · refine xr_blk gd_X7_put 1 (c' := (70, [(0, .ref 72), (1, .long characters), (3, .long x3), (5, .int x5)], [.int (-2)], st)) rfl ?_
        exact xr_iret gd_X7_put rfl rfl ⟨by first | (rw [lp_X7_put_5, if_pos h1, if_pos h2]; done) | (rw [lp_X7_put_5, if_pos h1, if_pos h2]; rfl), by first | (rw [lp_X7_put_5, if_pos h1, if_pos h2]; done) | (rw [lp_X7_put_5, if_pos h1, if_pos h2]; rfl)⟩
    · refine xr_blk gd_X7_put 2 (c' := (15, [(0, .ref 72), (1, .long characters), (3, .long x3), (5, .int x5)], [.int 8, .int x5], st)) rfl ?_
      refine xr_br gd_X7_put rfl rfl (fun h4 => ?_) (fun h4 => ?_)
      · refine xr_blk gd_X7_put 1 (c' := (65, [(0, .ref 72), (1, .long characters), (3, .long x3), (5, .int x5)], [.int x5], st)) rfl ?_
        refine xr_br gd_X7_put rfl rfl (fun h5 => ?_) (fun h5 => ?_)
        · refine xr_blk gd_X7_put 5 (c' := (80, [(0, .ref 72), (1, .long characters), (3, .long x3), (5, .int x5)], [.int 80, .int ((st 72 7) + x5)], st)) rfl ?_
          refine xr_br gd_X7_put rfl rfl (fun h6 => ?_) (fun h6 => ?_)
          · refine xr_blk gd_X7_put 4 (c' := (92, [(0, .ref 72), (1, .long characters), (3, .long x3), (5, .int x5), (6, .int (x5 - 1))], [], st)) rfl ?_
            refine xs_cons (cl_X7_put_92 d characters 9 x3 x5 (x5 - 1) st (pp_e (xs_lo8b hinv.1) hinv.2 (by assumption))) (fun v u hq => ?_)
            rw [lp_X7_put_5, if_neg h1, if_pos h4, if_neg h5, if_pos h6]; exact hq
          · refine xr_blk gd_X7_put 1 (c' := (85, [(0, .ref 72), (1, .long characters), (3, .long x3), (5, .int x5)], [.int (-4)], st)) rfl ?_
            exact xr_iret gd_X7_put rfl rfl ⟨by first | (rw [lp_X7_put_5, if_neg h1, if_pos h4, if_neg h5, if_neg h6]; done) | (rw [lp_X7_put_5, if_neg h1, if_pos h4, if_neg h5, if_neg h6]; rfl), by first | (rw [lp_X7_put_5, if_neg h1, if_pos h4, if_neg h5, if_neg h6]; done) | (rw [lp_X7_put_5, if_neg h1, if_pos h4, if_neg h5, if_neg h6]; rfl)⟩
        · refine xr_blk gd_X7_put 1 (c' := (70, [(0, .ref 72), (1, .long characters), (3, .long x3), (5, .int x5)], [.int (-2)], st)) rfl ?_
          exact xr_iret gd_X7_put rfl rfl ⟨by first | (rw [lp_X7_put_5, if_neg h1, if_pos h4, if_pos h5]; done) | (rw [lp_X7_put_5, if_neg h1, if_pos h4, if_pos h5]; rfl), by first | (rw [lp_X7_put_5, if_neg h1, if_pos h4, if_pos h5]; done) | (rw [lp_X7_put_5, if_neg h1, if_pos h4, if_pos h5]; rfl)⟩
      · refine xr_blk gd_X7_put 4 (c' := (25, [(0, .ref 72), (1, .long characters), (3, .long x3), (5, .int x5)], [.long x3, .int x5, .ref 79], st)) rfl ?_
        refine xr_ldc2 gd_X7_put.1 rfl xs_cL_X7_159 ?_
        refine xr_blk gd_X7_put 2 (c' := (30, [(0, .ref 72), (1, .long characters), (3, .long x3), (5, .int x5)], [.int ((x3 &&& 255).toInt32), .int x5, .ref 79], st)) rfl ?_
        refine xr_iast gd_X7_put rfl rfl (x5.toInt.toNat) (xs_h1 (n := 8) (xs_lo8 hinv.1 (by assumption))) (xs_h2 (n := 8) (xs_lo8 hinv.1 (by assumption))) ?_
        refine xr_blk gd_X7_put 3 (c' := (37, [(0, .ref 72), (1, .long characters), (3, .long x3), (5, .int x5)], [.int x5, .ref 79], xs_u st 79 x5.toInt.toNat ((x3 &&& 255).toInt32))) rfl ?_
        refine xr_iald gd_X7_put rfl rfl (x5.toInt.toNat) (xs_h1 (n := 8) (xs_lo8 hinv.1 (by assumption))) (xs_h2 (n := 8) (xs_lo8 hinv.1 (by assumption))) ?_
        refine xr_blk gd_X7_put 3 (c' := (43, [(0, .ref 72), (1, .long characters), (3, .long x3), (5, .int x5)], [.int 126, .int 33, .long (((xs_u st 79 x5.toInt.toNat ((x3 &&& 255).toInt32)) 79 x5.toInt.toNat).toInt64)], xs_u st 79 x5.toInt.toNat ((x3 &&& 255).toInt32))) rfl ?_
        refine xr_callS gd_X7_put gd_X7_in k_X7_41 rfl (c_X7_in (d + 0) (xs_u st 79 x5.toInt.toNat ((x3 &&& 255).toInt32)) (((xs_u st 79 x5.toInt.toNat ((x3 &&& 255).toInt32)) 79 x5.toInt.toNat).toInt64) 33 126) (by omega) rfl rfl rfl ?_
        refine xs_fun ?_
        refine xr_br gd_X7_put rfl rfl (fun h7 => ?_) (fun h7 => ?_)
        · refine xr_blk gd_X7_put 6 (c' := (5, [(0, .ref 72), (1, .long characters), (3, .long ((x3.toUInt64 >>> ((8 : Int32).toInt64.toUInt64 &&& Int64.toUInt64 63)).toInt64)), (5, .int (x5 + 1))], [], xs_u st 79 x5.toInt.toNat ((x3 &&& 255).toInt32))) rfl ?_
          refine xs_cons (ih ((x3.toUInt64 >>> ((8 : Int32).toInt64.toUInt64 &&& Int64.toUInt64 63)).toInt64) (x5 + 1) (xs_u st 79 x5.toInt.toNat ((x3 &&& 255).toInt32)) (by first | exact ⟨xs_lo_up hinv.1 h2, hinv.2⟩ | exact ⟨xs_lo_up hinv.1 h3, hinv.2⟩ | exact ⟨xs_lo_up hinv.1 h4, hinv.2⟩ | exact ⟨xs_lo_up hinv.1 h5, hinv.2⟩ | exact ⟨xs_lo_up hinv.1 h6, hinv.2⟩)) (fun v u hq => ?_)
          rw [lp_X7_put_5, if_neg h1, if_neg h4, if_neg h7]; exact hq
        · refine xr_blk gd_X7_put 1 (c' := (51, [(0, .ref 72), (1, .long characters), (3, .long x3), (5, .int x5)], [.int (-2)], xs_u st 79 x5.toInt.toNat ((x3 &&& 255).toInt32))) rfl ?_
          exact xr_iret gd_X7_put rfl rfl ⟨by first | (rw [lp_X7_put_5, if_neg h1, if_neg h4, if_pos h7]; done) | (rw [lp_X7_put_5, if_neg h1, if_neg h4, if_pos h7]; rfl), by first | (rw [lp_X7_put_5, if_neg h1, if_neg h4, if_pos h7]; done) | (rw [lp_X7_put_5, if_neg h1, if_neg h4, if_pos h7]; rfl)⟩
def F_X7_put (st : xs_S) (characters : Int64) : Int32 × xs_S := lp_X7_put_5 characters 9 characters 0 st
set_option maxRecDepth 20000 in
theorem c_X7_put {G : xs_G} {base : Nat} (d : Nat) (st : xs_S) (characters : Int64) (hl : 0 ≤ (st 72 7).toInt ∧ (st 72 7).toInt ≤ 80) : xs_K G base (d + 1) M_X7_put [.ref 72, .long characters] st (fun v u => v = some (.int (F_X7_put st characters).1) ∧ u = (F_X7_put st characters).2) := by
  refine xs_intro ok_X7_put [(0, .ref 72), (1, .long characters)] rfl rfl ?_
  refine xr_blk gd_X7_put 4 (c' := (5, [(0, .ref 72), (1, .long characters), (3, .long characters), (5, .int 0)], [], st)) rfl ?_
  refine xs_cons (cl_X7_put_5 d characters 9 characters 0 st ⟨⟨by decide, by decide, by decide⟩, hl⟩) (fun v u hq => ?_)
  rw [F_X7_put]; exact hq
def F_X7_wipe (st : xs_S) : Int32 × xs_S := (st 72 7, xs_u st 72 7 0)
set_option maxRecDepth 20000 in
theorem c_X7_wipe {G : xs_G} {base : Nat} (d : Nat) (st : xs_S) : xs_K G base (d + 0) M_X7_wipe [.ref 72] st (fun v u => v = some (.int (F_X7_wipe st).1) ∧ u = (F_X7_wipe st).2) := by
  refine xs_intro ok_X7_wipe [(0, .ref 72)] rfl rfl ?_
  refine xr_blk gd_X7_wipe 7 (c' := (11, [(0, .ref 72), (1, .int (st 72 7))], [.int (st 72 7)], xs_u st 72 7 0)) rfl ?_
  exact xr_iret gd_X7_wipe rfl rfl ⟨by first | (rw [F_X7_wipe]; done) | (rw [F_X7_wipe]; rfl), by first | (rw [F_X7_wipe]; done) | (rw [F_X7_wipe]; rfl)⟩
def F_X7_sees (st : xs_S) (least : Int32) (most : Int32) : Int32 := (if (st 72 7) ≤ (st 72 8) then 0
    else (if (F_X7_in st ((st 78 ((st 72 8).toInt.toNat)).toInt64) least most) = 0 then 0
      else 1))
set_option maxRecDepth 20000 in
theorem c_X7_sees {G : xs_G} {base : Nat} (d : Nat) (st : xs_S) (least : Int32) (most : Int32) (hq : PM st) : xs_K G base (d + 1) M_X7_sees [.ref 72, .int least, .int most] st (fun v u => v = some (.int (F_X7_sees st least most)) ∧ u = st) := by
  refine xs_intro ok_X7_sees [(0, .ref 72), (1, .int least), (2, .int most)] rfl rfl ?_
  refine xr_blk gd_X7_sees 4 (c' := (8, [(0, .ref 72), (1, .int least), (2, .int most)], [.int (st 72 7), .int (st 72 8)], st)) rfl ?_
  refine xr_br gd_X7_sees rfl rfl (fun h1 => ?_) (fun h1 => ?_)
  · refine xr_blk gd_X7_sees 1 (c' := (34, [(0, .ref 72), (1, .int least), (2, .int most)], [.int 0], st)) rfl ?_
    exact xr_zret gd_X7_sees rfl rfl rfl ⟨by first | (rw [F_X7_sees, if_pos h1]; done) | (rw [F_X7_sees, if_pos h1]; rfl), rfl⟩
  · refine xr_blk gd_X7_sees 4 (c' := (19, [(0, .ref 72), (1, .int least), (2, .int most)], [.int (st 72 8), .ref 78], st)) rfl ?_
    refine xr_iald gd_X7_sees rfl rfl ((st 72 8).toInt.toNat) (xs_h1 (n := 80) (by first | exact pm_i hq h1 | exact pm_j hq h1)) (xs_h2 (n := 80) (by first | exact pm_i hq h1 | exact pm_j hq h1)) ?_
    refine xr_blk gd_X7_sees 3 (c' := (23, [(0, .ref 72), (1, .int least), (2, .int most)], [.int most, .int least, .long ((st 78 ((st 72 8).toInt.toNat)).toInt64)], st)) rfl ?_
    refine xr_callS gd_X7_sees gd_X7_in k_X7_41 rfl (c_X7_in (d + 0) st ((st 78 ((st 72 8).toInt.toNat)).toInt64) least most) (by omega) rfl rfl rfl ?_
    refine xs_fun ?_
    refine xr_br gd_X7_sees rfl rfl (fun h2 => ?_) (fun h2 => ?_)
    · refine xr_blk gd_X7_sees 1 (c' := (34, [(0, .ref 72), (1, .int least), (2, .int most)], [.int 0], st)) rfl ?_
      exact xr_zret gd_X7_sees rfl rfl rfl ⟨by first | (rw [F_X7_sees, if_neg h1, if_pos h2]; done) | (rw [F_X7_sees, if_neg h1, if_pos h2]; rfl), rfl⟩
    · refine xr_blk gd_X7_sees 2 (c' := (34, [(0, .ref 72), (1, .int least), (2, .int most)], [.int 1], st)) rfl ?_
      exact xr_zret gd_X7_sees rfl rfl rfl ⟨by first | (rw [F_X7_sees, if_neg h1, if_neg h2]; done) | (rw [F_X7_sees, if_neg h1, if_neg h2]; rfl), rfl⟩
theorem sees_01 {st : xs_S} {a b : Int32} : F_X7_sees st a b = 0 ∨ F_X7_sees st a b = 1 := by
  unfold F_X7_sees
  repeat' split
  all_goals first | exact Or.inl rfl | exact Or.inr rfl
theorem sees_l {st : xs_S} {a b : Int32} (h : ¬ F_X7_sees st a b = 0) : st 72 8 < st 72 7 := by
  unfold F_X7_sees at h
  by_cases h1 : st 72 7 ≤ st 72 8
  · first
    | (rw [if_pos h1] at h; exact absurd rfl h)
    | (rw [if_neg (by rw [xi_lt]; rw [xi_le] at h1; omega)] at h; exact absurd rfl h)
  · rw [xi_le] at h1
    rw [xi_lt]
    omega
theorem pm_u {st : xs_S} {i : Nat} {v : Int32} (hi : i ≠ 7 ∧ i ≠ 8) (h : PM st) : PM (xs_u st 72 i v) := by
  unfold PM at h ⊢
  rw [xs_rd_i (fun e => hi.1 e.symm), xs_rd_i (fun e => hi.2 e.symm)]
  exact h
theorem pm_k {st : xs_S} {k i : Nat} {v : Int32} (hk : k ≠ 72) (h : PM st) : PM (xs_u st k i v) := by
  unfold PM at h ⊢
  rw [xs_rd_k (fun e => hk e.symm)]
  exact h
theorem pm_inc {st : xs_S} (h : PM st) (h1 : st 72 8 < st 72 7) : PM (xs_u st 72 8 (st 72 8 + 1)) := by
  unfold PM at h ⊢
  rw [xi_lt] at h1
  rw [xs_rd_s, xs_rd_i (by decide), xi_inc (by omega)]
  omega
theorem pm_c {s u : xs_S} (h7 : u 72 7 = s 72 7) (h8 : u 72 8 = s 72 8) (h : PM s) : PM u := by
  unfold PM at h ⊢
  rw [h7, h8]
  exact h
