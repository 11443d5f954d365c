def lp_L_act_174 (g : Int32) (h : Int32) : Nat → Int32 → Int32 → Int32 → Int32 → Int32 → xs_S → Int32 × xs_S
  | 0, _, _, _, _, _, st => (0, st)
  | n + 1, x4, x5, x6, x7, x8, st => (if (F_X6_of ((F_X6_read st x6 x7 x8).2) x6 6) = 1 then (if ((F_X6_read st x6 x7 x8).1) = (-5) then (if (F_X6_of ((F_X6_read st x6 x7 x8).2) x6 2) = (F_X6_of st x6 2) then (1, (F_X6_read st x6 x7 x8).2)
        else (0, (F_X6_read st x6 x7 x8).2))
      else (0, (F_X6_read st x6 x7 x8).2))
    else (if ((F_X6_read st x6 x7 x8).1) = (F_X6_of st x6 2) then (if (F_X6_of (xs_u (xs_u (xs_u ((F_X6_read st x6 x7 x8).2) 72 ((3 * x6).toInt.toNat) x7) 72 (((3 * x6) + 1).toInt.toNat) x8) 72 (((3 * x6) + 2).toInt.toNat) (F_X6_count (xs_u (xs_u ((F_X6_read st x6 x7 x8).2) 72 ((3 * x6).toInt.toNat) x7) 72 (((3 * x6) + 1).toInt.toNat) x8) 0)) x6 2) = 0 then (1, xs_u (xs_u (xs_u ((F_X6_read st x6 x7 x8).2) 72 ((3 * x6).toInt.toNat) x7) 72 (((3 * x6) + 1).toInt.toNat) x8) 72 (((3 * x6) + 2).toInt.toNat) (F_X6_count (xs_u (xs_u ((F_X6_read st x6 x7 x8).2) 72 ((3 * x6).toInt.toNat) x7) 72 (((3 * x6) + 1).toInt.toNat) x8) 0))
        else (0, xs_u (xs_u (xs_u ((F_X6_read st x6 x7 x8).2) 72 ((3 * x6).toInt.toNat) x7) 72 (((3 * x6) + 1).toInt.toNat) x8) 72 (((3 * x6) + 2).toInt.toNat) (F_X6_count (xs_u (xs_u ((F_X6_read st x6 x7 x8).2) 72 ((3 * x6).toInt.toNat) x7) 72 (((3 * x6) + 1).toInt.toNat) x8) 0)))
      else (0, xs_u (xs_u (xs_u ((F_X6_read st x6 x7 x8).2) 72 ((3 * x6).toInt.toNat) x7) 72 (((3 * x6) + 1).toInt.toNat) x8) 72 (((3 * x6) + 2).toInt.toNat) (F_X6_count (xs_u (xs_u ((F_X6_read st x6 x7 x8).2) 72 ((3 * x6).toInt.toNat) x7) 72 (((3 * x6) + 1).toInt.toNat) x8) 0))))
set_option maxRecDepth 20000 in
theorem cl_L_act_174 {G : xs_G} {base : Nat} (d : Nat) (g : Int32) (h : Int32) : ∀ (n : Nat) (x4 : Int32) (x5 : Int32) (x6 : Int32) (x7 : Int32) (x8 : Int32) (st : xs_S), 0 < n ∧ (0 ≤ x6.toInt ∧ x6.toInt < 15) ∧ (0 ≤ (st 1 3).toInt ∧ (st 1 3).toInt ≤ 15) → xs_R (xg G 3 45) base (d + 8) M_L_act (174, [(0, .ref 0), (1, .ref 72), (2, .int g), (3, .int h), (4, .int x4), (5, .int x5), (6, .int x6), (7, .int x7), (8, .int x8)], [], st) (xs_q (xg G 3 45) (fun v u => v = some (.int (lp_L_act_174 g h n x4 x5 x6 x7 x8 st).1) ∧ u = (lp_L_act_174 g h n x4 x5 x6 x7 x8 st).2)) := by
  intro n
  induction n with
  | zero =>
    intro x4 x5 x6 x7 x8 st hinv
    exact absurd hinv.1 (Nat.lt_irrefl 0)
  | succ n ih =>
    intro x4 x5 x6 x7 x8 st hinv
    have hds := hinv.2.2
    have hx6 := hinv.2.1
    refine xr_blk gd_L_act 3 (c' := (178, [(0, .ref 0), (1, .ref 72), (2, .int g), (3, .int h), (4, .int x4), (5, .int x5), (6, .int x6), (7, .int x7), (8, .int x8)], [.int 2, .int x6, .ref 0], st)) rfl ?_
    refine xr_callV gd_L_act gd_X6_of k_L_16 rfl (c_X6_of (d + 3) st x6 2 hds.2) (by omega) rfl rfl rfl rfl rfl ?_
    refine xs_fun ?_
    refine xr_blk gd_L_act 5 (c' := (190, [(0, .ref 0), (1, .ref 72), (2, .int g), (3, .int h), (4, .int x4), (5, .int x5), (6, .int x6), (7, .int x7), (8, .int x8), (9, .int (F_X6_of st x6 2))], [.int x8, .int x7, .int x6, .ref 0], st)) rfl ?_
    refine xr_callV gd_L_act gd_X6_read k_L_71 rfl (c_X6_read (d + 4) st x6 x7 x8 hds.2) (by omega) rfl rfl rfl rfl rfl ?_
    refine xs_fun ?_
    refine xr_blk gd_L_act 4 (c' := (200, [(0, .ref 0), (1, .ref 72), (2, .int g), (3, .int h), (4, .int x4), (5, .int x5), (6, .int x6), (7, .int x7), (8, .int x8), (9, .int (F_X6_of st x6 2)), (10, .int ((F_X6_read st x6 x7 x8).1))], [.int 6, .int x6, .ref 0], (F_X6_read st x6 x7 x8).2)) rfl ?_
    refine xr_callV gd_L_act gd_X6_of k_L_16 rfl (c_X6_of (d + 3) ((F_X6_read st x6 x7 x8).2) x6 6 (by rw [f13_read]; exact hds.2)) (by omega) rfl rfl rfl rfl rfl ?_
    refine xs_fun ?_
    refine xr_blk gd_L_act 1 (c' := (204, [(0, .ref 0), (1, .ref 72), (2, .int g), (3, .int h), (4, .int x4), (5, .int x5), (6, .int x6), (7, .int x7), (8, .int x8), (9, .int (F_X6_of st x6 2)), (10, .int ((F_X6_read st x6 x7 x8).1))], [.int 1, .int (F_X6_of ((F_X6_read st x6 x7 x8).2) x6 6)], (F_X6_read st x6 x7 x8).2)) rfl ?_
    refine xr_br gd_L_act rfl rfl (fun h1 => ?_) (fun h1 => ?_)
    · refine xr_blk gd_L_act 5 (c' := (239, [(0, .ref 0), (1, .ref 72), (2, .int g), (3, .int h), (4, .int x4), (5, .int x5), (6, .int x6), (7, .int x7), (8, .int x8), (9, .int (F_X6_of st x6 2)), (10, .int ((F_X6_read st x6 x7 x8).1))], [.int x7, .int (3 * x6), .ref 72], (F_X6_read st x6 x7 x8).2)) rfl ?_
      refine xr_iast gd_L_act rfl rfl ((3 * x6).toInt.toNat) (xs_h1 (n := 45) (ix3 hx6).1) (xs_h2 (n := 45) (ix3 hx6).1) ?_
      refine xr_blk gd_L_act 7 (c' := (249, [(0, .ref 0), (1, .ref 72), (2, .int g), (3, .int h), (4, .int x4), (5, .int x5), (6, .int x6), (7, .int x7), (8, .int x8), (9, .int (F_X6_of st x6 2)), (10, .int ((F_X6_read st x6 x7 x8).1))], [.int x8, .int ((3 * x6) + 1), .ref 72], xs_u ((F_X6_read st x6 x7 x8).2) 72 ((3 * x6).toInt.toNat) x7)) rfl ?_
      refine xr_iast gd_L_act rfl rfl (((3 * x6) + 1).toInt.toNat) (xs_h1 (n := 45) (ix3 hx6).2.1) (xs_h2 (n := 45) (ix3 hx6).2.1) ?_
      refine xr_blk gd_L_act 8 (c' := (259, [(0, .ref 0), (1, .ref 72), (2, .int g), (3, .int h), (4, .int x4), (5, .int x5), (6, .int x6), (7, .int x7), (8, .int x8), (9, .int (F_X6_of st x6 2)), (10, .int ((F_X6_read st x6 x7 x8).1))], [.int 0, .ref 0, .int ((3 * x6) + 2), .ref 72], xs_u (xs_u ((F_X6_read st x6 x7 x8).2) 72 ((3 * x6).toInt.toNat) x7) 72 (((3 * x6) + 1).toInt.toNat) x8)) rfl ?_
      refine xr_callV gd_L_act gd_X6_count k_L_22 rfl (c_X6_count (d + 5) (xs_u (xs_u ((F_X6_read st x6 x7 x8).2) 72 ((3 * x6).toInt.toNat) x7) 72 (((3 * x6) + 1).toInt.toNat) x8) 0) (by omega) rfl rfl rfl rfl rfl ?_
      refine xs_fun ?_
      refine xr_iast gd_L_act rfl rfl (((3 * x6) + 2).toInt.toNat) (xs_h1 (n := 45) (ix3 hx6).2.2) (xs_h2 (n := 45) (ix3 hx6).2.2) ?_
      refine xr_blk gd_L_act 2 (c' := (267, [(0, .ref 0), (1, .ref 72), (2, .int g), (3, .int h), (4, .int x4), (5, .int x5), (6, .int x6), (7, .int x7), (8, .int x8), (9, .int (F_X6_of st x6 2)), (10, .int ((F_X6_read st x6 x7 x8).1))], [.int (F_X6_of st x6 2), .int ((F_X6_read st x6 x7 x8).1)], xs_u (xs_u (xs_u ((F_X6_read st x6 x7 x8).2) 72 ((3 * x6).toInt.toNat) x7) 72 (((3 * x6) + 1).toInt.toNat) x8) 72 (((3 * x6) + 2).toInt.toNat) (F_X6_count (xs_u (xs_u ((F_X6_read st x6 x7 x8).2) 72 ((3 * x6).toInt.toNat) x7) 72 (((3 * x6) + 1).toInt.toNat) x8) 0))) rfl ?_
      refine xr_br gd_L_act rfl rfl (fun h2 => ?_) (fun h2 => ?_)
      · refine xr_blk gd_L_act 1 (c' := (285, [(0, .ref 0), (1, .ref 72), (2, .int g), (3, .int h), (4, .int x4), (5, .int x5), (6, .int x6), (7, .int x7), (8, .int x8), (9, .int (F_X6_of st x6 2)), (10, .int ((F_X6_read st x6 x7 x8).1))], [.int 0], xs_u (xs_u (xs_u ((F_X6_read st x6 x7 x8).2) 72 ((3 * x6).toInt.toNat) x7) 72 (((3 * x6) + 1).toInt.toNat) x8) 72 (((3 * x6) + 2).toInt.toNat) (F_X6_count (xs_u (xs_u ((F_X6_read st x6 x7 x8).2) 72 ((3 * x6).toInt.toNat) x7) 72 (((3 * x6) + 1).toInt.toNat) x8) 0))) rfl ?_
        exact xr_zret gd_L_act rfl rfl rfl ⟨by first | (rw [lp_L_act_174, if_neg h1, if_neg h2]; done) | (rw [lp_L_act_174, if_neg h1, if_neg h2]; rfl), by first | (rw [lp_L_act_174, if_neg h1, if_neg h2]; done) | (rw [lp_L_act_174, if_neg h1, if_neg h2]; rfl)⟩
      · refine xr_blk gd_L_act 3 (c' := (274, [(0, .ref 0), (1, .ref 72), (2, .int g), (3, .int h), (4, .int x4), (5, .int x5), (6, .int x6), (7, .int x7), (8, .int x8), (9, .int (F_X6_of st x6 2)), (10, .int ((F_X6_read st x6 x7 x8).1))], [.int 2, .int x6, .ref 0], xs_u (xs_u (xs_u ((F_X6_read st x6 x7 x8).2) 72 ((3 * x6).toInt.toNat) x7) 72 (((3 * x6) + 1).toInt.toNat) x8) 72 (((3 * x6) + 2).toInt.toNat) (F_X6_count (xs_u (xs_u ((F_X6_read st x6 x7 x8).2) 72 ((3 * x6).toInt.toNat) x7) 72 (((3 * x6) + 1).toInt.toNat) x8) 0))) rfl ?_
        refine xr_callV gd_L_act gd_X6_of k_L_16 rfl (c_X6_of (d + 3) (xs_u (xs_u (xs_u ((F_X6_read st x6 x7 x8).2) 72 ((3 * x6).toInt.toNat) x7) 72 (((3 * x6) + 1).toInt.toNat) x8) 72 (((3 * x6) + 2).toInt.toNat) (F_X6_count (xs_u (xs_u ((F_X6_read st x6 x7 x8).2) 72 ((3 * x6).toInt.toNat) x7) 72 (((3 * x6) + 1).toInt.toNat) x8) 0)) x6 2 (by rw [xs_u_72, xs_u_72, xs_u_72, f13_read]; exact hds.2)) (by omega) rfl rfl rfl rfl rfl ?_
        refine xs_fun ?_
        refine xr_br gd_L_act rfl rfl (fun h3 => ?_) (fun h3 => ?_)
        · refine xr_blk gd_L_act 1 (c' := (285, [(0, .ref 0), (1, .ref 72), (2, .int g), (3, .int h), (4, .int x4), (5, .int x5), (6, .int x6), (7, .int x7), (8, .int x8), (9, .int (F_X6_of st x6 2)), (10, .int ((F_X6_read st x6 x7 x8).1))], [.int 0], xs_u (xs_u (xs_u ((F_X6_read st x6 x7 x8).2) 72 ((3 * x6).toInt.toNat) x7) 72 (((3 * x6) + 1).toInt.toNat) x8) 72 (((3 * x6) + 2).toInt.toNat) (F_X6_count (xs_u (xs_u ((F_X6_read st x6 x7 x8).2) 72 ((3 * x6).toInt.toNat) x7) 72 (((3 * x6) + 1).toInt.toNat) x8) 0))) rfl ?_
          exact xr_zret gd_L_act rfl rfl rfl ⟨by first | (rw [lp_L_act_174, if_neg h1, if_pos h2, if_neg h3]; done) | (rw [lp_L_act_174, if_neg h1, if_pos h2, if_neg h3]; rfl), by first | (rw [lp_L_act_174, if_neg h1, if_pos h2, if_neg h3]; done) | (rw [lp_L_act_174, if_neg h1, if_pos h2, if_neg h3]; rfl)⟩
        · refine xr_blk gd_L_act 2 (c' := (285, [(0, .ref 0), (1, .ref 72), (2, .int g), (3, .int h), (4, .int x4), (5, .int x5), (6, .int x6), (7, .int x7), (8, .int x8), (9, .int (F_X6_of st x6 2)), (10, .int ((F_X6_read st x6 x7 x8).1))], [.int 1], xs_u (xs_u (xs_u ((F_X6_read st x6 x7 x8).2) 72 ((3 * x6).toInt.toNat) x7) 72 (((3 * x6) + 1).toInt.toNat) x8) 72 (((3 * x6) + 2).toInt.toNat) (F_X6_count (xs_u (xs_u ((F_X6_read st x6 x7 x8).2) 72 ((3 * x6).toInt.toNat) x7) 72 (((3 * x6) + 1).toInt.toNat) x8) 0))) rfl ?_
          exact xr_zret gd_L_act rfl rfl rfl ⟨by first | (rw [lp_L_act_174, if_neg h1, if_pos h2, if_pos h3]; done) | (rw [lp_L_act_174, if_neg h1, if_pos h2, if_pos h3]; rfl), by first | (rw [lp_L_act_174, if_neg h1, if_pos h2, if_pos h3]; done) | (rw [lp_L_act_174, if_neg h1, if_pos h2, if_pos h3]; rfl)⟩
    · refine xr_blk gd_L_act 2 (c' := (211, [(0, .ref 0), (1, .ref 72), (2, .int g), (3, .int h), (4, .int x4), (5, .int x5), (6, .int x6), (7, .int x7), (8, .int x8), (9, .int (F_X6_of st x6 2)), (10, .int ((F_X6_read st x6 x7 x8).1))], [.int (-5), .int ((F_X6_read st x6 x7 x8).1)], (F_X6_read st x6 x7 x8).2)) rfl ?_
      refine xr_br gd_L_act rfl rfl (fun h4 => ?_) (fun h4 => ?_)
      · refine xr_blk gd_L_act 1 (c' := (231, [(0, .ref 0), (1, .ref 72), (2, .int g), (3, .int h), (4, .int x4), (5, .int x5), (6, .int x6), (7, .int x7), (8, .int x8), (9, .int (F_X6_of st x6 2)), (10, .int ((F_X6_read st x6 x7 x8).1))], [.int 0], (F_X6_read st x6 x7 x8).2)) rfl ?_
        exact xr_zret gd_L_act rfl rfl rfl ⟨by first | (rw [lp_L_act_174, if_pos h1, if_neg h4]; done) | (rw [lp_L_act_174, if_pos h1, if_neg h4]; rfl), by first | (rw [lp_L_act_174, if_pos h1, if_neg h4]; done) | (rw [lp_L_act_174, if_pos h1, if_neg h4]; rfl)⟩
      · refine xr_blk gd_L_act 3 (c' := (218, [(0, .ref 0), (1, .ref 72), (2, .int g), (3, .int h), (4, .int x4), (5, .int x5), (6, .int x6), (7, .int x7), (8, .int x8), (9, .int (F_X6_of st x6 2)), (10, .int ((F_X6_read st x6 x7 x8).1))], [.int 2, .int x6, .ref 0], (F_X6_read st x6 x7 x8).2)) rfl ?_
        refine xr_callV gd_L_act gd_X6_of k_L_16 rfl (c_X6_of (d + 3) ((F_X6_read st x6 x7 x8).2) x6 2 (by rw [f13_read]; exact hds.2)) (by omega) rfl rfl rfl rfl rfl ?_
        refine xs_fun ?_
        refine xr_blk gd_L_act 1 (c' := (223, [(0, .ref 0), (1, .ref 72), (2, .int g), (3, .int h), (4, .int x4), (5, .int x5), (6, .int x6), (7, .int x7), (8, .int x8), (9, .int (F_X6_of st x6 2)), (10, .int ((F_X6_read st x6 x7 x8).1))], [.int (F_X6_of st x6 2), .int (F_X6_of ((F_X6_read st x6 x7 x8).2) x6 2)], (F_X6_read st x6 x7 x8).2)) rfl ?_
        refine xr_br gd_L_act rfl rfl (fun h5 => ?_) (fun h5 => ?_)
        · refine xr_blk gd_L_act 1 (c' := (231, [(0, .ref 0), (1, .ref 72), (2, .int g), (3, .int h), (4, .int x4), (5, .int x5), (6, .int x6), (7, .int x7), (8, .int x8), (9, .int (F_X6_of st x6 2)), (10, .int ((F_X6_read st x6 x7 x8).1))], [.int 0], (F_X6_read st x6 x7 x8).2)) rfl ?_
          exact xr_zret gd_L_act rfl rfl rfl ⟨by first | (rw [lp_L_act_174, if_pos h1, if_pos h4, if_neg h5]; done) | (rw [lp_L_act_174, if_pos h1, if_pos h4, if_neg h5]; rfl), by first | (rw [lp_L_act_174, if_pos h1, if_pos h4, if_neg h5]; done) | (rw [lp_L_act_174, if_pos h1, if_pos h4, if_neg h5]; rfl)⟩
        · refine xr_blk gd_L_act 2 (c' := (231, [(0, .ref 0), (1, .ref 72), (2, .int g), (3, .int h), (4, .int x4), (5, .int x5), (6, .int x6), (7, .int x7), (8, .int x8), (9, .int (F_X6_of st x6 2)), (10, .int ((F_X6_read st x6 x7 x8).1))], [.int 1], (F_X6_read st x6 x7 x8).2)) rfl ?_
          exact xr_zret gd_L_act rfl rfl rfl ⟨by first | (rw [lp_L_act_174, if_pos h1, if_pos h4, if_pos h5]; done) | (rw [lp_L_act_174, if_pos h1, if_pos h4, if_pos h5]; rfl), by first | (rw [lp_L_act_174, if_pos h1, if_pos h4, if_pos h5]; done) | (rw [lp_L_act_174, if_pos h1, if_pos h4, if_pos h5]; rfl)⟩
def lp_L_act_25 (g : Int32) (h : Int32) : Nat → Int32 → Int32 → xs_S → Int32 × xs_S
  | 0, _, _, st => (0, st)
  | n + 1, x4, x5, st => (if 15 ≤ x4 then (if x4 = 15 then (if ((F_X6_dial st).1) = (-4) then (1, (F_X6_dial st).2)
        else (0, (F_X6_dial st).2))
      else (if ((F_X6_dial st).1) = x4 then (if (F_X6_of ((F_X6_dial st).2) x4 2) = (-6) then (if (F_X6_of ((F_X6_dial st).2) x4 6) = 0 then (1, (F_X6_dial st).2)
            else (0, (F_X6_dial st).2))
          else (0, (F_X6_dial st).2))
        else (0, (F_X6_dial st).2)))
    else (if x4 = 15 then (if ((F_X6_dial st).1) = (-4) then (1, xs_u ((F_X6_dial st).2) 72 ((3 * x4).toInt.toNat) (-1))
        else (0, xs_u ((F_X6_dial st).2) 72 ((3 * x4).toInt.toNat) (-1)))
      else (if ((F_X6_dial st).1) = x4 then (if (F_X6_of (xs_u ((F_X6_dial st).2) 72 ((3 * x4).toInt.toNat) (-1)) x4 2) = (-6) then (if (F_X6_of (xs_u ((F_X6_dial st).2) 72 ((3 * x4).toInt.toNat) (-1)) x4 6) = 0 then (1, xs_u ((F_X6_dial st).2) 72 ((3 * x4).toInt.toNat) (-1))
            else (0, xs_u ((F_X6_dial st).2) 72 ((3 * x4).toInt.toNat) (-1)))
          else (0, xs_u ((F_X6_dial st).2) 72 ((3 * x4).toInt.toNat) (-1)))
        else (0, xs_u ((F_X6_dial st).2) 72 ((3 * x4).toInt.toNat) (-1)))))
set_option maxRecDepth 20000 in
theorem cl_L_act_25 {G : xs_G} {base : Nat} (d : Nat) (g : Int32) (h : Int32) : ∀ (n : Nat) (x4 : Int32) (x5 : Int32) (st : xs_S), 0 < n ∧ (0 ≤ x4.toInt ∧ x4.toInt ≤ 15) ∧ (0 ≤ (st 1 3).toInt ∧ (st 1 3).toInt ≤ 15) → xs_R (xg G 3 45) base (d + 8) M_L_act (25, [(0, .ref 0), (1, .ref 72), (2, .int g), (3, .int h), (4, .int x4), (5, .int x5)], [], st) (xs_q (xg G 3 45) (fun v u => v = some (.int (lp_L_act_25 g h n x4 x5 st).1) ∧ u = (lp_L_act_25 g h n x4 x5 st).2)) := by
  intro n
  induction n with
  | zero =>
    intro x4 x5 st hinv
    exact absurd hinv.1 (Nat.lt_irrefl 0)
  | succ n ih =>
    intro x4 x5 st hinv
    have hds := hinv.2.2
    refine xr_blk gd_L_act 1 (c' := (26, [(0, .ref 0), (1, .ref 72), (2, .int g), (3, .int h), (4, .int x4), (5, .int x5)], [.ref 0], st)) rfl ?_
    refine xr_callV gd_L_act gd_X6_dial k_L_68 rfl (c_X6_dial (d + 4) st) (by omega) rfl rfl rfl rfl rfl ?_
    refine xs_fun ?_
    refine xr_blk gd_L_act 3 (c' := (35, [(0, .ref 0), (1, .ref 72), (2, .int g), (3, .int h), (4, .int x4), (5, .int x5), (6, .int ((F_X6_dial st).1))], [.int 15, .int x4], (F_X6_dial st).2)) rfl ?_
    refine xr_br gd_L_act rfl rfl (fun h1 => ?_) (fun h1 => ?_)
    · refine xr_blk gd_L_act 2 (c' := (49, [(0, .ref 0), (1, .ref 72), (2, .int g), (3, .int h), (4, .int x4), (5, .int x5), (6, .int ((F_X6_dial st).1))], [.int 15, .int x4], (F_X6_dial st).2)) rfl ?_
      refine xr_br gd_L_act rfl rfl (fun h2 => ?_) (fun h2 => ?_)
      · refine xr_blk gd_L_act 2 (c' := (71, [(0, .ref 0), (1, .ref 72), (2, .int g), (3, .int h), (4, .int x4), (5, .int x5), (6, .int ((F_X6_dial st).1))], [.int x4, .int ((F_X6_dial st).1)], (F_X6_dial st).2)) rfl ?_
        refine xr_br gd_L_act rfl rfl (fun h3 => ?_) (fun h3 => ?_)
        · refine xr_blk gd_L_act 1 (c' := (102, [(0, .ref 0), (1, .ref 72), (2, .int g), (3, .int h), (4, .int x4), (5, .int x5), (6, .int ((F_X6_dial st).1))], [.int 0], (F_X6_dial st).2)) rfl ?_
          exact xr_zret gd_L_act rfl rfl rfl ⟨by first | (rw [lp_L_act_25, if_pos h1, if_neg h2, if_neg h3]; done) | (rw [lp_L_act_25, if_pos h1, if_neg h2, if_neg h3]; rfl), by first | (rw [lp_L_act_25, if_pos h1, if_neg h2, if_neg h3]; done) | (rw [lp_L_act_25, if_pos h1, if_neg h2, if_neg h3]; rfl)⟩
        · refine xr_blk gd_L_act 3 (c' := (78, [(0, .ref 0), (1, .ref 72), (2, .int g), (3, .int h), (4, .int x4), (5, .int x5), (6, .int ((F_X6_dial st).1))], [.int 2, .int x4, .ref 0], (F_X6_dial st).2)) rfl ?_
          refine xr_callV gd_L_act gd_X6_of k_L_16 rfl (c_X6_of (d + 3) ((F_X6_dial st).2) x4 2 (by first | (rw [xs_u_72]; exact f13_dial hds) | exact f13_dial hds)) (by omega) rfl rfl rfl rfl rfl ?_
          refine xs_fun ?_
          refine xr_blk gd_L_act 1 (c' := (83, [(0, .ref 0), (1, .ref 72), (2, .int g), (3, .int h), (4, .int x4), (5, .int x5), (6, .int ((F_X6_dial st).1))], [.int (-6), .int (F_X6_of ((F_X6_dial st).2) x4 2)], (F_X6_dial st).2)) rfl ?_
          refine xr_br gd_L_act rfl rfl (fun h4 => ?_) (fun h4 => ?_)
          · refine xr_blk gd_L_act 1 (c' := (102, [(0, .ref 0), (1, .ref 72), (2, .int g), (3, .int h), (4, .int x4), (5, .int x5), (6, .int ((F_X6_dial st).1))], [.int 0], (F_X6_dial st).2)) rfl ?_
            exact xr_zret gd_L_act rfl rfl rfl ⟨by first | (rw [lp_L_act_25, if_pos h1, if_neg h2, if_pos h3, if_neg h4]; done) | (rw [lp_L_act_25, if_pos h1, if_neg h2, if_pos h3, if_neg h4]; rfl), by first | (rw [lp_L_act_25, if_pos h1, if_neg h2, if_pos h3, if_neg h4]; done) | (rw [lp_L_act_25, if_pos h1, if_neg h2, if_pos h3, if_neg h4]; rfl)⟩
          · refine xr_blk gd_L_act 3 (c' := (91, [(0, .ref 0), (1, .ref 72), (2, .int g), (3, .int h), (4, .int x4), (5, .int x5), (6, .int ((F_X6_dial st).1))], [.int 6, .int x4, .ref 0], (F_X6_dial st).2)) rfl ?_
            refine xr_callV gd_L_act gd_X6_of k_L_16 rfl (c_X6_of (d + 3) ((F_X6_dial st).2) x4 6 (by first | (rw [xs_u_72]; exact f13_dial hds) | exact f13_dial hds)) (by omega) rfl rfl rfl rfl rfl ?_
            refine xs_fun ?_
            refine xr_br gd_L_act rfl rfl (fun h5 => ?_) (fun h5 => ?_)
            · refine xr_blk gd_L_act 1 (c' := (102, [(0, .ref 0), (1, .ref 72), (2, .int g), (3, .int h), (4, .int x4), (5, .int x5), (6, .int ((F_X6_dial st).1))], [.int 0], (F_X6_dial st).2)) rfl ?_
              exact xr_zret gd_L_act rfl rfl rfl ⟨by first | (rw [lp_L_act_25, if_pos h1, if_neg h2, if_pos h3, if_pos h4, if_neg h5]; done) | (rw [lp_L_act_25, if_pos h1, if_neg h2, if_pos h3, if_pos h4, if_neg h5]; rfl), by first | (rw [lp_L_act_25, if_pos h1, if_neg h2, if_pos h3, if_pos h4, if_neg h5]; done) | (rw [lp_L_act_25, if_pos h1, if_neg h2, if_pos h3, if_pos h4, if_neg h5]; rfl)⟩
            · refine xr_blk gd_L_act 2 (c' := (102, [(0, .ref 0), (1, .ref 72), (2, .int g), (3, .int h), (4, .int x4), (5, .int x5), (6, .int ((F_X6_dial st).1))], [.int 1], (F_X6_dial st).2)) rfl ?_
              exact xr_zret gd_L_act rfl rfl rfl ⟨by first | (rw [lp_L_act_25, if_pos h1, if_neg h2, if_pos h3, if_pos h4, if_pos h5]; done) | (rw [lp_L_act_25, if_pos h1, if_neg h2, if_pos h3, if_pos h4, if_pos h5]; rfl), by first | (rw [lp_L_act_25, if_pos h1, if_neg h2, if_pos h3, if_pos h4, if_pos h5]; done) | (rw [lp_L_act_25, if_pos h1, if_neg h2, if_pos h3, if_pos h4, if_pos h5]; rfl)⟩
      · refine xr_blk gd_L_act 2 (c' := (56, [(0, .ref 0), (1, .ref 72), (2, .int g), (3, .int h), (4, .int x4), (5, .int x5), (6, .int ((F_X6_dial st).1))], [.int (-4), .int ((F_X6_dial st).1)], (F_X6_dial st).2)) rfl ?_
        refine xr_br gd_L_act rfl rfl (fun h6 => ?_) (fun h6 => ?_)
        · refine xr_blk gd_L_act 2 (c' := (102, [(0, .ref 0), (1, .ref 72), (2, .int g), (3, .int h), (4, .int x4), (5, .int x5), (6, .int ((F_X6_dial st).1))], [.int 0], (F_X6_dial st).2)) rfl ?_
          exact xr_zret gd_L_act rfl rfl rfl ⟨by first | (rw [lp_L_act_25, if_pos h1, if_pos h2, if_neg h6]; done) | (rw [lp_L_act_25, if_pos h1, if_pos h2, if_neg h6]; rfl), by first | (rw [lp_L_act_25, if_pos h1, if_pos h2, if_neg h6]; done) | (rw [lp_L_act_25, if_pos h1, if_pos h2, if_neg h6]; rfl)⟩
        · refine xr_blk gd_L_act 2 (c' := (102, [(0, .ref 0), (1, .ref 72), (2, .int g), (3, .int h), (4, .int x4), (5, .int x5), (6, .int ((F_X6_dial st).1))], [.int 1], (F_X6_dial st).2)) rfl ?_
          exact xr_zret gd_L_act rfl rfl rfl ⟨by first | (rw [lp_L_act_25, if_pos h1, if_pos h2, if_pos h6]; done) | (rw [lp_L_act_25, if_pos h1, if_pos h2, if_pos h6]; rfl), by first | (rw [lp_L_act_25, if_pos h1, if_pos h2, if_pos h6]; done) | (rw [lp_L_act_25, if_pos h1, if_pos h2, if_pos h6]; rfl)⟩
    · refine xr_blk gd_L_act 5 (c' := (44, [(0, .ref 0), (1, .ref 72), (2, .int g), (3, .int h), (4, .int x4), (5, .int x5), (6, .int ((F_X6_dial st).1))], [.int (-1), .int (3 * x4), .ref 72], (F_X6_dial st).2)) rfl ?_
      refine xr_iast gd_L_act rfl rfl ((3 * x4).toInt.toNat) (xs_h1 (n := 45) (ix3 (act_i1 hinv.2.1 (by assumption))).1) (xs_h2 (n := 45) (ix3 (act_i1 hinv.2.1 (by assumption))).1) ?_
      refine xr_blk gd_L_act 2 (c' := (49, [(0, .ref 0), (1, .ref 72), (2, .int g), (3, .int h), (4, .int x4), (5, .int x5), (6, .int ((F_X6_dial st).1))], [.int 15, .int x4], xs_u ((F_X6_dial st).2) 72 ((3 * x4).toInt.toNat) (-1))) rfl ?_
      refine xr_br gd_L_act rfl rfl (fun h7 => ?_) (fun h7 => ?_)
      · refine xr_blk gd_L_act 2 (c' := (71, [(0, .ref 0), (1, .ref 72), (2, .int g), (3, .int h), (4, .int x4), (5, .int x5), (6, .int ((F_X6_dial st).1))], [.int x4, .int ((F_X6_dial st).1)], xs_u ((F_X6_dial st).2) 72 ((3 * x4).toInt.toNat) (-1))) rfl ?_
        refine xr_br gd_L_act rfl rfl (fun h8 => ?_) (fun h8 => ?_)
        · refine xr_blk gd_L_act 1 (c' := (102, [(0, .ref 0), (1, .ref 72), (2, .int g), (3, .int h), (4, .int x4), (5, .int x5), (6, .int ((F_X6_dial st).1))], [.int 0], xs_u ((F_X6_dial st).2) 72 ((3 * x4).toInt.toNat) (-1))) rfl ?_
          exact xr_zret gd_L_act rfl rfl rfl ⟨by first | (rw [lp_L_act_25, if_neg h1, if_neg h7, if_neg h8]; done) | (rw [lp_L_act_25, if_neg h1, if_neg h7, if_neg h8]; rfl), by first | (rw [lp_L_act_25, if_neg h1, if_neg h7, if_neg h8]; done) | (rw [lp_L_act_25, if_neg h1, if_neg h7, if_neg h8]; rfl)⟩
        · refine xr_blk gd_L_act 3 (c' := (78, [(0, .ref 0), (1, .ref 72), (2, .int g), (3, .int h), (4, .int x4), (5, .int x5), (6, .int ((F_X6_dial st).1))], [.int 2, .int x4, .ref 0], xs_u ((F_X6_dial st).2) 72 ((3 * x4).toInt.toNat) (-1))) rfl ?_
          refine xr_callV gd_L_act gd_X6_of k_L_16 rfl (c_X6_of (d + 3) (xs_u ((F_X6_dial st).2) 72 ((3 * x4).toInt.toNat) (-1)) x4 2 (by first | (rw [xs_u_72]; exact f13_dial hds) | exact f13_dial hds)) (by omega) rfl rfl rfl rfl rfl ?_
          refine xs_fun ?_
          refine xr_blk gd_L_act 1 (c' := (83, [(0, .ref 0), (1, .ref 72), (2, .int g), (3, .int h), (4, .int x4), (5, .int x5), (6, .int ((F_X6_dial st).1))], [.int (-6), .int (F_X6_of (xs_u ((F_X6_dial st).2) 72 ((3 * x4).toInt.toNat) (-1)) x4 2)], xs_u ((F_X6_dial st).2) 72 ((3 * x4).toInt.toNat) (-1))) rfl ?_
          refine xr_br gd_L_act rfl rfl (fun h9 => ?_) (fun h9 => ?_)
          · refine xr_blk gd_L_act 1 (c' := (102, [(0, .ref 0), (1, .ref 72), (2, .int g), (3, .int h), (4, .int x4), (5, .int x5), (6, .int ((F_X6_dial st).1))], [.int 0], xs_u ((F_X6_dial st).2) 72 ((3 * x4).toInt.toNat) (-1))) rfl ?_
            exact xr_zret gd_L_act rfl rfl rfl ⟨by first | (rw [lp_L_act_25, if_neg h1, if_neg h7, if_pos h8, if_neg h9]; done) | (rw [lp_L_act_25, if_neg h1, if_neg h7, if_pos h8, if_neg h9]; rfl), by first | (rw [lp_L_act_25, if_neg h1, if_neg h7, if_pos h8, if_neg h9]; done) | (rw [lp_L_act_25, if_neg h1, if_neg h7, if_pos h8, if_neg h9]; rfl)⟩
          · refine xr_blk gd_L_act 3 (c' := (91, [(0, .ref 0), (1, .ref 72), (2, .int g), (3, .int h), (4, .int x4), (5, .int x5), (6, .int ((F_X6_dial st).1))], [.int 6, .int x4, .ref 0], xs_u ((F_X6_dial st).2) 72 ((3 * x4).toInt.toNat) (-1))) rfl ?_
            refine xr_callV gd_L_act gd_X6_of k_L_16 rfl (c_X6_of (d + 3) (xs_u ((F_X6_dial st).2) 72 ((3 * x4).toInt.toNat) (-1)) x4 6 (by first | (rw [xs_u_72]; exact f13_dial hds) | exact f13_dial hds)) (by omega) rfl rfl rfl rfl rfl ?_
            refine xs_fun ?_
            refine xr_br gd_L_act rfl rfl (fun h10 => ?_) (fun h10 => ?_)
            · refine xr_blk gd_L_act 1 (c' := (102, [(0, .ref 0), (1, .ref 72), (2, .int g), (3, .int h), (4, .int x4), (5, .int x5), (6, .int ((F_X6_dial st).1))], [.int 0], xs_u ((F_X6_dial st).2) 72 ((3 * x4).toInt.toNat) (-1))) rfl ?_
              exact xr_zret gd_L_act rfl rfl rfl ⟨by first | (rw [lp_L_act_25, if_neg h1, if_neg h7, if_pos h8, if_pos h9, if_neg h10]; done) | (rw [lp_L_act_25, if_neg h1, if_neg h7, if_pos h8, if_pos h9, if_neg h10]; rfl), by first | (rw [lp_L_act_25, if_neg h1, if_neg h7, if_pos h8, if_pos h9, if_neg h10]; done) | (rw [lp_L_act_25, if_neg h1, if_neg h7, if_pos h8, if_pos h9, if_neg h10]; rfl)⟩
            · refine xr_blk gd_L_act 2 (c' := (102, [(0, .ref 0), (1, .ref 72), (2, .int g), (3, .int h), (4, .int x4), (5, .int x5), (6, .int ((F_X6_dial st).1))], [.int 1], xs_u ((F_X6_dial st).2) 72 ((3 * x4).toInt.toNat) (-1))) rfl ?_
              exact xr_zret gd_L_act rfl rfl rfl ⟨by first | (rw [lp_L_act_25, if_neg h1, if_neg h7, if_pos h8, if_pos h9, if_pos h10]; done) | (rw [lp_L_act_25, if_neg h1, if_neg h7, if_pos h8, if_pos h9, if_pos h10]; rfl), by first | (rw [lp_L_act_25, if_neg h1, if_neg h7, if_pos h8, if_pos h9, if_pos h10]; done) | (rw [lp_L_act_25, if_neg h1, if_neg h7, if_pos h8, if_pos h9, if_pos h10]; rfl)⟩
      · refine xr_blk gd_L_act 2 (c' := (56, [(0, .ref 0), (1, .ref 72), (2, .int g), (3, .int h), (4, .int x4), (5, .int x5), (6, .int ((F_X6_dial st).1))], [.int (-4), .int ((F_X6_dial st).1)], xs_u ((F_X6_dial st).2) 72 ((3 * x4).toInt.toNat) (-1))) rfl ?_
        refine xr_br gd_L_act rfl rfl (fun h11 => ?_) (fun h11 => ?_)
        · refine xr_blk gd_L_act 2 (c' := (102, [(0, .ref 0), (1, .ref 72), (2, .int g), (3, .int h), (4, .int x4), (5, .int x5), (6, .int ((F_X6_dial st).1))], [.int 0], xs_u ((F_X6_dial st).2) 72 ((3 * x4).toInt.toNat) (-1))) rfl ?_
          exact xr_zret gd_L_act rfl rfl rfl ⟨by first | (rw [lp_L_act_25, if_neg h1, if_pos h7, if_neg h11]; done) | (rw [lp_L_act_25, if_neg h1, if_pos h7, if_neg h11]; rfl), by first | (rw [lp_L_act_25, if_neg h1, if_pos h7, if_neg h11]; done) | (rw [lp_L_act_25, if_neg h1, if_pos h7, if_neg h11]; rfl)⟩
        · refine xr_blk gd_L_act 2 (c' := (102, [(0, .ref 0), (1, .ref 72), (2, .int g), (3, .int h), (4, .int x4), (5, .int x5), (6, .int ((F_X6_dial st).1))], [.int 1], xs_u ((F_X6_dial st).2) 72 ((3 * x4).toInt.toNat) (-1))) rfl ?_
          exact xr_zret gd_L_act rfl rfl rfl ⟨by first | (rw [lp_L_act_25, if_neg h1, if_pos h7, if_pos h11]; done) | (rw [lp_L_act_25, if_neg h1, if_pos h7, if_pos h11]; rfl), by first | (rw [lp_L_act_25, if_neg h1, if_pos h7, if_pos h11]; done) | (rw [lp_L_act_25, if_neg h1, if_pos h7, if_pos h11]; rfl)⟩
def F_L_act (st : xs_S) (g : Int32) (h : Int32) : Int32 × xs_S := (if (F_L_low st g 13) = 0 then lp_L_act_25 g h 1 (F_X6_count st 1) (F_L_low st g 13) st
    else (if (F_X6_count st 1) = 0 then lp_L_act_25 g h 1 (F_X6_count st 1) (F_L_low st g 13) st
      else (if 8 ≤ (F_L_low st g 13) then (if 10 ≤ (F_L_low st g 13) then (if (F_L_low st g 13) = 10 then (if (F_L_low st h 2) = 0 then (if ((F_X6_set st 0 (F_L_low st (h >>> ((2 : Int32) &&& 31)) 30)).1) = (F_X6_count st 6) then (if (F_X6_count ((F_X6_set st 0 (F_L_low st (h >>> ((2 : Int32) &&& 31)) 30)).2) 6) = (F_L_low st (h >>> ((2 : Int32) &&& 31)) 30) then (1, (F_X6_set st 0 (F_L_low st (h >>> ((2 : Int32) &&& 31)) 30)).2)
                  else (0, (F_X6_set st 0 (F_L_low st (h >>> ((2 : Int32) &&& 31)) 30)).2))
                else (0, (F_X6_set st 0 (F_L_low st (h >>> ((2 : Int32) &&& 31)) 30)).2))
              else (if ((F_X6_set st 1 (1 + (F_L_low st (h >>> ((2 : Int32) &&& 31)) 6))).1) = (F_X6_count st 7) then (if (F_X6_count ((F_X6_set st 1 (1 + (F_L_low st (h >>> ((2 : Int32) &&& 31)) 6))).2) 7) = (1 + (F_L_low st (h >>> ((2 : Int32) &&& 31)) 6)) then (1, (F_X6_set st 1 (1 + (F_L_low st (h >>> ((2 : Int32) &&& 31)) 6))).2)
                  else (0, (F_X6_set st 1 (1 + (F_L_low st (h >>> ((2 : Int32) &&& 31)) 6))).2))
                else (0, (F_X6_set st 1 (1 + (F_L_low st (h >>> ((2 : Int32) &&& 31)) 6))).2)))
            else ((F_L_agrees st).1, (F_L_agrees st).2))
          else (if ((F_X6_pass st (1 + (F_L_low st h 400))).1) = (((F_X6_count st 0) + 1) + (F_L_low ((F_X6_pass st (1 + (F_L_low st h 400))).2) h 400)) then (if (F_X6_count ((F_X6_pass st (1 + (F_L_low st h 400))).2) 0) = (((F_X6_count st 0) + 1) + (F_L_low ((F_X6_pass st (1 + (F_L_low st h 400))).2) h 400)) then (1, (F_X6_pass st (1 + (F_L_low st h 400))).2)
              else (0, (F_X6_pass st (1 + (F_L_low st h 400))).2))
            else (0, (F_X6_pass st (1 + (F_L_low st h 400))).2)))
        else (if (F_L_low st (g >>> ((9 : Int32) &&& 31)) 4) = 0 then (if (F_L_low st (g >>> ((12 : Int32) &&& 31)) 3) = 0 then lp_L_act_174 g h 1 (F_X6_count st 1) (F_L_low st g 13) (F_L_low st (g >>> ((4 : Int32) &&& 31)) (F_X6_count st 1)) (F_L_low st h 10000) (F_L_low st (h >>> ((8 : Int32) &&& 31)) 301) st
            else lp_L_act_174 g h 1 (F_X6_count st 1) (F_L_low st g 13) (F_L_low st (g >>> ((4 : Int32) &&& 31)) (F_X6_count st 1)) (F_L_low st h 10000) (F_L_low st (h >>> ((8 : Int32) &&& 31)) 60) st)
          else (if (F_L_low st (g >>> ((12 : Int32) &&& 31)) 3) = 0 then lp_L_act_174 g h 1 (F_X6_count st 1) (F_L_low st g 13) (F_L_low st (g >>> ((4 : Int32) &&& 31)) (F_X6_count st 1)) (F_L_low st h 600) (F_L_low st (h >>> ((8 : Int32) &&& 31)) 301) st
            else lp_L_act_174 g h 1 (F_X6_count st 1) (F_L_low st g 13) (F_L_low st (g >>> ((4 : Int32) &&& 31)) (F_X6_count st 1)) (F_L_low st h 600) (F_L_low st (h >>> ((8 : Int32) &&& 31)) 60) st)))))
set_option maxRecDepth 20000 in
theorem c_L_act {G : xs_G} {base : Nat} (d : Nat) (st : xs_S) (g : Int32) (h : Int32) (hds : 0 ≤ (st 1 3).toInt ∧ (st 1 3).toInt ≤ 15) : xs_K (xg G 3 45) base (d + 8) M_L_act [.ref 0, .ref 72, .int g, .int h] st (fun v u => v = some (.int (F_L_act st g h).1) ∧ u = (F_L_act st g h).2) := by
  refine xs_intro ok_L_act [(0, .ref 0), (1, .ref 72), (2, .int g), (3, .int h)] rfl rfl ?_
  refine xr_blk gd_L_act 2 (c' := (2, [(0, .ref 0), (1, .ref 72), (2, .int g), (3, .int h)], [.int 1, .ref 0], st)) rfl ?_
  refine xr_callV gd_L_act gd_X6_count k_L_22 rfl (c_X6_count (d + 5) st 1) (by omega) rfl rfl rfl rfl rfl ?_
  refine xs_fun ?_
  refine xr_blk gd_L_act 3 (c' := (10, [(0, .ref 0), (1, .ref 72), (2, .int g), (3, .int h), (4, .int (F_X6_count st 1))], [.int 13, .int g], st)) rfl ?_
  refine xr_callS gd_L_act gd_L_low k_L_65 rfl (c_L_low (d + 7) st g 13 (by decide)) (by omega) rfl rfl rfl ?_
  refine xs_fun ?_
  refine xr_blk gd_L_act 2 (c' := (17, [(0, .ref 0), (1, .ref 72), (2, .int g), (3, .int h), (4, .int (F_X6_count st 1)), (5, .int (F_L_low st g 13))], [.int (F_L_low st g 13)], st)) rfl ?_
  refine xr_br gd_L_act rfl rfl (fun h1 => ?_) (fun h1 => ?_)
  · refine xs_cons (cl_L_act_25 d g h 1 (F_X6_count st 1) (F_L_low st g 13) st ⟨Nat.zero_lt_one, hds, hds⟩) (fun v u hq => ?_)
    rw [F_L_act, if_pos h1]; exact hq
  · refine xr_blk gd_L_act 1 (c' := (22, [(0, .ref 0), (1, .ref 72), (2, .int g), (3, .int h), (4, .int (F_X6_count st 1)), (5, .int (F_L_low st g 13))], [.int (F_X6_count st 1)], st)) rfl ?_
    refine xr_br gd_L_act rfl rfl (fun h2 => ?_) (fun h2 => ?_)
    · refine xr_blk gd_L_act 4 (c' := (108, [(0, .ref 0), (1, .ref 72), (2, .int g), (3, .int h), (4, .int (F_X6_count st 1)), (5, .int (F_L_low st g 13))], [.int (F_X6_count st 1), .int (g >>> ((4 : Int32) &&& 31))], st)) rfl ?_
      refine xr_callS gd_L_act gd_L_low k_L_65 rfl (c_L_low (d + 7) st (g >>> ((4 : Int32) &&& 31)) (F_X6_count st 1) (by assumption)) (by omega) rfl rfl rfl ?_
      refine xs_fun ?_
      refine xr_blk gd_L_act 3 (c' := (117, [(0, .ref 0), (1, .ref 72), (2, .int g), (3, .int h), (4, .int (F_X6_count st 1)), (5, .int (F_L_low st g 13)), (6, .int (F_L_low st (g >>> ((4 : Int32) &&& 31)) (F_X6_count st 1)))], [.int 8, .int (F_L_low st g 13)], st)) rfl ?_
      refine xr_br gd_L_act rfl rfl (fun h3 => ?_) (fun h3 => ?_)
      · refine xr_blk gd_L_act 2 (c' := (290, [(0, .ref 0), (1, .ref 72), (2, .int g), (3, .int h), (4, .int (F_X6_count st 1)), (5, .int (F_L_low st g 13)), (6, .int (F_L_low st (g >>> ((4 : Int32) &&& 31)) (F_X6_count st 1)))], [.int 10, .int (F_L_low st g 13)], st)) rfl ?_
        refine xr_br gd_L_act rfl rfl (fun h4 => ?_) (fun h4 => ?_)
        · refine xr_blk gd_L_act 2 (c' := (358, [(0, .ref 0), (1, .ref 72), (2, .int g), (3, .int h), (4, .int (F_X6_count st 1)), (5, .int (F_L_low st g 13)), (6, .int (F_L_low st (g >>> ((4 : Int32) &&& 31)) (F_X6_count st 1)))], [.int 10, .int (F_L_low st g 13)], st)) rfl ?_
          refine xr_br gd_L_act rfl rfl (fun h5 => ?_) (fun h5 => ?_)
          · refine xr_blk gd_L_act 2 (c' := (472, [(0, .ref 0), (1, .ref 72), (2, .int g), (3, .int h), (4, .int (F_X6_count st 1)), (5, .int (F_L_low st g 13)), (6, .int (F_L_low st (g >>> ((4 : Int32) &&& 31)) (F_X6_count st 1)))], [.ref 72, .ref 0], st)) rfl ?_
            refine xr_callSm (a := 3) (b := 45) gd_L_act gd_L_agrees k_L_81 rfl (c_L_agrees (G := G) (d + 0) st hds) (by omega) rfl rfl rfl ⟨Nat.le_of_ble_eq_true rfl, Nat.le_of_ble_eq_true rfl⟩ ?_
            refine xs_fun ?_
            exact xr_zret gd_L_act rfl rfl (xz_01 (agrees_01 _)) ⟨by first | (rw [F_L_act, if_neg h1, if_neg h2, if_pos h3, if_pos h4, if_neg h5]; done) | (rw [F_L_act, if_neg h1, if_neg h2, if_pos h3, if_pos h4, if_neg h5]; rfl), by first | (rw [F_L_act, if_neg h1, if_neg h2, if_pos h3, if_pos h4, if_neg h5]; done) | (rw [F_L_act, if_neg h1, if_neg h2, if_pos h3, if_pos h4, if_neg h5]; rfl)⟩ (hle := xs_le_w rfl)
          · refine xr_blk gd_L_act 2 (c' := (363, [(0, .ref 0), (1, .ref 72), (2, .int g), (3, .int h), (4, .int (F_X6_count st 1)), (5, .int (F_L_low st g 13)), (6, .int (F_L_low st (g >>> ((4 : Int32) &&& 31)) (F_X6_count st 1)))], [.int 2, .int h], st)) rfl ?_
            refine xr_callS gd_L_act gd_L_low k_L_65 rfl (c_L_low (d + 7) st h 2 (by decide)) (by omega) rfl rfl rfl ?_
            refine xs_fun ?_
            refine xr_br gd_L_act rfl rfl (fun h6 => ?_) (fun h6 => ?_)
            · refine xr_blk gd_L_act 4 (c' := (379, [(0, .ref 0), (1, .ref 72), (2, .int g), (3, .int h), (4, .int (F_X6_count st 1)), (5, .int (F_L_low st g 13)), (6, .int (F_L_low st (g >>> ((4 : Int32) &&& 31)) (F_X6_count st 1))), (7, .int 0)], [.int 0, .ref 0], st)) rfl ?_
              refine xr_br gd_L_act rfl rfl (fun _ => ?_) (fun h => absurd h (by decide))
              refine xr_blk gd_L_act 1 (c' := (389, [(0, .ref 0), (1, .ref 72), (2, .int g), (3, .int h), (4, .int (F_X6_count st 1)), (5, .int (F_L_low st g 13)), (6, .int (F_L_low st (g >>> ((4 : Int32) &&& 31)) (F_X6_count st 1))), (7, .int 0)], [.int 7, .ref 0], st)) rfl ?_
              refine xr_callV gd_L_act gd_X6_count k_L_22 rfl (c_X6_count (d + 5) st 7) (by omega) rfl rfl rfl rfl rfl ?_
              refine xs_fun ?_
              refine xr_blk gd_L_act 2 (c' := (396, [(0, .ref 0), (1, .ref 72), (2, .int g), (3, .int h), (4, .int (F_X6_count st 1)), (5, .int (F_L_low st g 13)), (6, .int (F_L_low st (g >>> ((4 : Int32) &&& 31)) (F_X6_count st 1))), (7, .int 0), (8, .int (F_X6_count st 7))], [.int 0], st)) rfl ?_
              refine xr_br gd_L_act rfl rfl (fun _ => ?_) (fun h => absurd h (by decide))
              refine xr_blk gd_L_act 5 (c' := (416, [(0, .ref 0), (1, .ref 72), (2, .int g), (3, .int h), (4, .int (F_X6_count st 1)), (5, .int (F_L_low st g 13)), (6, .int (F_L_low st (g >>> ((4 : Int32) &&& 31)) (F_X6_count st 1))), (7, .int 0), (8, .int (F_X6_count st 7))], [.int 6, .int (h >>> ((2 : Int32) &&& 31)), .int 1], st)) rfl ?_
              refine xr_callS gd_L_act gd_L_low k_L_65 rfl (c_L_low (d + 7) st (h >>> ((2 : Int32) &&& 31)) 6 (by decide)) (by omega) rfl rfl rfl ?_
              refine xs_fun ?_
              refine xr_blk gd_L_act 4 (c' := (425, [(0, .ref 0), (1, .ref 72), (2, .int g), (3, .int h), (4, .int (F_X6_count st 1)), (5, .int (F_L_low st g 13)), (6, .int (F_L_low st (g >>> ((4 : Int32) &&& 31)) (F_X6_count st 1))), (7, .int 0), (8, .int (F_X6_count st 7)), (9, .int (1 + (F_L_low st (h >>> ((2 : Int32) &&& 31)) 6)))], [.int 0, .ref 0], st)) rfl ?_
              refine xr_br gd_L_act rfl rfl (fun _ => ?_) (fun h => absurd h (by decide))
              refine xr_blk gd_L_act 2 (c' := (435, [(0, .ref 0), (1, .ref 72), (2, .int g), (3, .int h), (4, .int (F_X6_count st 1)), (5, .int (F_L_low st g 13)), (6, .int (F_L_low st (g >>> ((4 : Int32) &&& 31)) (F_X6_count st 1))), (7, .int 0), (8, .int (F_X6_count st 7)), (9, .int (1 + (F_L_low st (h >>> ((2 : Int32) &&& 31)) 6)))], [.int (1 + (F_L_low st (h >>> ((2 : Int32) &&& 31)) 6)), .int 1, .ref 0], st)) rfl ?_
              refine xr_callV gd_L_act gd_X6_set k_L_78 rfl (c_X6_set (d + 4) st 1 (1 + (F_L_low st (h >>> ((2 : Int32) &&& 31)) 6))) (by omega) rfl rfl rfl rfl rfl ?_
              refine xs_fun ?_
              refine xr_blk gd_L_act 1 (c' := (440, [(0, .ref 0), (1, .ref 72), (2, .int g), (3, .int h), (4, .int (F_X6_count st 1)), (5, .int (F_L_low st g 13)), (6, .int (F_L_low st (g >>> ((4 : Int32) &&& 31)) (F_X6_count st 1))), (7, .int 0), (8, .int (F_X6_count st 7)), (9, .int (1 + (F_L_low st (h >>> ((2 : Int32) &&& 31)) 6)))], [.int (F_X6_count st 7), .int ((F_X6_set st 1 (1 + (F_L_low st (h >>> ((2 : Int32) &&& 31)) 6))).1)], (F_X6_set st 1 (1 + (F_L_low st (h >>> ((2 : Int32) &&& 31)) 6))).2)) rfl ?_
              refine xr_br gd_L_act rfl rfl (fun h7 => ?_) (fun h7 => ?_)
              · refine xr_blk gd_L_act 1 (c' := (469, [(0, .ref 0), (1, .ref 72), (2, .int g), (3, .int h), (4, .int (F_X6_count st 1)), (5, .int (F_L_low st g 13)), (6, .int (F_L_low st (g >>> ((4 : Int32) &&& 31)) (F_X6_count st 1))), (7, .int 0), (8, .int (F_X6_count st 7)), (9, .int (1 + (F_L_low st (h >>> ((2 : Int32) &&& 31)) 6)))], [.int 0], (F_X6_set st 1 (1 + (F_L_low st (h >>> ((2 : Int32) &&& 31)) 6))).2)) rfl ?_
                exact xr_zret gd_L_act rfl rfl rfl ⟨by first | (rw [F_L_act, if_neg h1, if_neg h2, if_pos h3, if_pos h4, if_pos h5, if_neg h6, if_neg h7]; done) | (rw [F_L_act, if_neg h1, if_neg h2, if_pos h3, if_pos h4, if_pos h5, if_neg h6, if_neg h7]; rfl), by first | (rw [F_L_act, if_neg h1, if_neg h2, if_pos h3, if_pos h4, if_pos h5, if_neg h6, if_neg h7]; done) | (rw [F_L_act, if_neg h1, if_neg h2, if_pos h3, if_pos h4, if_pos h5, if_neg h6, if_neg h7]; rfl)⟩
              · refine xr_blk gd_L_act 2 (c' := (446, [(0, .ref 0), (1, .ref 72), (2, .int g), (3, .int h), (4, .int (F_X6_count st 1)), (5, .int (F_L_low st g 13)), (6, .int (F_L_low st (g >>> ((4 : Int32) &&& 31)) (F_X6_count st 1))), (7, .int 0), (8, .int (F_X6_count st 7)), (9, .int (1 + (F_L_low st (h >>> ((2 : Int32) &&& 31)) 6)))], [.int 0, .ref 0], (F_X6_set st 1 (1 + (F_L_low st (h >>> ((2 : Int32) &&& 31)) 6))).2)) rfl ?_
                refine xr_br gd_L_act rfl rfl (fun _ => ?_) (fun h => absurd h (by decide))
                refine xr_blk gd_L_act 1 (c' := (456, [(0, .ref 0), (1, .ref 72), (2, .int g), (3, .int h), (4, .int (F_X6_count st 1)), (5, .int (F_L_low st g 13)), (6, .int (F_L_low st (g >>> ((4 : Int32) &&& 31)) (F_X6_count st 1))), (7, .int 0), (8, .int (F_X6_count st 7)), (9, .int (1 + (F_L_low st (h >>> ((2 : Int32) &&& 31)) 6)))], [.int 7, .ref 0], (F_X6_set st 1 (1 + (F_L_low st (h >>> ((2 : Int32) &&& 31)) 6))).2)) rfl ?_
                refine xr_callV gd_L_act gd_X6_count k_L_22 rfl (c_X6_count (d + 5) ((F_X6_set st 1 (1 + (F_L_low st (h >>> ((2 : Int32) &&& 31)) 6))).2) 7) (by omega) rfl rfl rfl rfl rfl ?_
                refine xs_fun ?_
                refine xr_blk gd_L_act 1 (c' := (461, [(0, .ref 0), (1, .ref 72), (2, .int g), (3, .int h), (4, .int (F_X6_count st 1)), (5, .int (F_L_low st g 13)), (6, .int (F_L_low st (g >>> ((4 : Int32) &&& 31)) (F_X6_count st 1))), (7, .int 0), (8, .int (F_X6_count st 7)), (9, .int (1 + (F_L_low st (h >>> ((2 : Int32) &&& 31)) 6)))], [.int (1 + (F_L_low st (h >>> ((2 : Int32) &&& 31)) 6)), .int (F_X6_count ((F_X6_set st 1 (1 + (F_L_low st (h >>> ((2 : Int32) &&& 31)) 6))).2) 7)], (F_X6_set st 1 (1 + (F_L_low st (h >>> ((2 : Int32) &&& 31)) 6))).2)) rfl ?_
                refine xr_br gd_L_act rfl rfl (fun h8 => ?_) (fun h8 => ?_)
                · refine xr_blk gd_L_act 1 (c' := (469, [(0, .ref 0), (1, .ref 72), (2, .int g), (3, .int h), (4, .int (F_X6_count st 1)), (5, .int (F_L_low st g 13)), (6, .int (F_L_low st (g >>> ((4 : Int32) &&& 31)) (F_X6_count st 1))), (7, .int 0), (8, .int (F_X6_count st 7)), (9, .int (1 + (F_L_low st (h >>> ((2 : Int32) &&& 31)) 6)))], [.int 0], (F_X6_set st 1 (1 + (F_L_low st (h >>> ((2 : Int32) &&& 31)) 6))).2)) rfl ?_
                  exact xr_zret gd_L_act rfl rfl rfl ⟨by first | (rw [F_L_act, if_neg h1, if_neg h2, if_pos h3, if_pos h4, if_pos h5, if_neg h6, if_pos h7, if_neg h8]; done) | (rw [F_L_act, if_neg h1, if_neg h2, if_pos h3, if_pos h4, if_pos h5, if_neg h6, if_pos h7, if_neg h8]; rfl), by first | (rw [F_L_act, if_neg h1, if_neg h2, if_pos h3, if_pos h4, if_pos h5, if_neg h6, if_pos h7, if_neg h8]; done) | (rw [F_L_act, if_neg h1, if_neg h2, if_pos h3, if_pos h4, if_pos h5, if_neg h6, if_pos h7, if_neg h8]; rfl)⟩
                · refine xr_blk gd_L_act 2 (c' := (469, [(0, .ref 0), (1, .ref 72), (2, .int g), (3, .int h), (4, .int (F_X6_count st 1)), (5, .int (F_L_low st g 13)), (6, .int (F_L_low st (g >>> ((4 : Int32) &&& 31)) (F_X6_count st 1))), (7, .int 0), (8, .int (F_X6_count st 7)), (9, .int (1 + (F_L_low st (h >>> ((2 : Int32) &&& 31)) 6)))], [.int 1], (F_X6_set st 1 (1 + (F_L_low st (h >>> ((2 : Int32) &&& 31)) 6))).2)) rfl ?_
                  exact xr_zret gd_L_act rfl rfl rfl ⟨by first | (rw [F_L_act, if_neg h1, if_neg h2, if_pos h3, if_pos h4, if_pos h5, if_neg h6, if_pos h7, if_pos h8]; done) | (rw [F_L_act, if_neg h1, if_neg h2, if_pos h3, if_pos h4, if_pos h5, if_neg h6, if_pos h7, if_pos h8]; rfl), by first | (rw [F_L_act, if_neg h1, if_neg h2, if_pos h3, if_pos h4, if_pos h5, if_neg h6, if_pos h7, if_pos h8]; done) | (rw [F_L_act, if_neg h1, if_neg h2, if_pos h3, if_pos h4, if_pos h5, if_neg h6, if_pos h7, if_pos h8]; rfl)⟩
            · refine xr_blk gd_L_act 5 (c' := (379, [(0, .ref 0), (1, .ref 72), (2, .int g), (3, .int h), (4, .int (F_X6_count st 1)), (5, .int (F_L_low st g 13)), (6, .int (F_L_low st (g >>> ((4 : Int32) &&& 31)) (F_X6_count st 1))), (7, .int 1)], [.int 1, .ref 0], st)) rfl ?_
              refine xr_br gd_L_act rfl rfl (fun h => absurd h (by decide)) (fun _ => ?_)
              refine xr_blk gd_L_act 2 (c' := (389, [(0, .ref 0), (1, .ref 72), (2, .int g), (3, .int h), (4, .int (F_X6_count st 1)), (5, .int (F_L_low st g 13)), (6, .int (F_L_low st (g >>> ((4 : Int32) &&& 31)) (F_X6_count st 1))), (7, .int 1)], [.int 6, .ref 0], st)) rfl ?_
              refine xr_callV gd_L_act gd_X6_count k_L_22 rfl (c_X6_count (d + 5) st 6) (by omega) rfl rfl rfl rfl rfl ?_
              refine xs_fun ?_
              refine xr_blk gd_L_act 2 (c' := (396, [(0, .ref 0), (1, .ref 72), (2, .int g), (3, .int h), (4, .int (F_X6_count st 1)), (5, .int (F_L_low st g 13)), (6, .int (F_L_low st (g >>> ((4 : Int32) &&& 31)) (F_X6_count st 1))), (7, .int 1), (8, .int (F_X6_count st 6))], [.int 1], st)) rfl ?_
              refine xr_br gd_L_act rfl rfl (fun h => absurd h (by decide)) (fun _ => ?_)
              refine xr_blk gd_L_act 4 (c' := (404, [(0, .ref 0), (1, .ref 72), (2, .int g), (3, .int h), (4, .int (F_X6_count st 1)), (5, .int (F_L_low st g 13)), (6, .int (F_L_low st (g >>> ((4 : Int32) &&& 31)) (F_X6_count st 1))), (7, .int 1), (8, .int (F_X6_count st 6))], [.int 30, .int (h >>> ((2 : Int32) &&& 31))], st)) rfl ?_
              refine xr_callS gd_L_act gd_L_low k_L_65 rfl (c_L_low (d + 7) st (h >>> ((2 : Int32) &&& 31)) 30 (by decide)) (by omega) rfl rfl rfl ?_
              refine xs_fun ?_
              refine xr_blk gd_L_act 4 (c' := (425, [(0, .ref 0), (1, .ref 72), (2, .int g), (3, .int h), (4, .int (F_X6_count st 1)), (5, .int (F_L_low st g 13)), (6, .int (F_L_low st (g >>> ((4 : Int32) &&& 31)) (F_X6_count st 1))), (7, .int 1), (8, .int (F_X6_count st 6)), (9, .int (F_L_low st (h >>> ((2 : Int32) &&& 31)) 30))], [.int 1, .ref 0], st)) rfl ?_
              refine xr_br gd_L_act rfl rfl (fun h => absurd h (by decide)) (fun _ => ?_)
              refine xr_blk gd_L_act 3 (c' := (435, [(0, .ref 0), (1, .ref 72), (2, .int g), (3, .int h), (4, .int (F_X6_count st 1)), (5, .int (F_L_low st g 13)), (6, .int (F_L_low st (g >>> ((4 : Int32) &&& 31)) (F_X6_count st 1))), (7, .int 1), (8, .int (F_X6_count st 6)), (9, .int (F_L_low st (h >>> ((2 : Int32) &&& 31)) 30))], [.int (F_L_low st (h >>> ((2 : Int32) &&& 31)) 30), .int 0, .ref 0], st)) rfl ?_
              refine xr_callV gd_L_act gd_X6_set k_L_78 rfl (c_X6_set (d + 4) st 0 (F_L_low st (h >>> ((2 : Int32) &&& 31)) 30)) (by omega) rfl rfl rfl rfl rfl ?_
              refine xs_fun ?_
              refine xr_blk gd_L_act 1 (c' := (440, [(0, .ref 0), (1, .ref 72), (2, .int g), (3, .int h), (4, .int (F_X6_count st 1)), (5, .int (F_L_low st g 13)), (6, .int (F_L_low st (g >>> ((4 : Int32) &&& 31)) (F_X6_count st 1))), (7, .int 1), (8, .int (F_X6_count st 6)), (9, .int (F_L_low st (h >>> ((2 : Int32) &&& 31)) 30))], [.int (F_X6_count st 6), .int ((F_X6_set st 0 (F_L_low st (h >>> ((2 : Int32) &&& 31)) 30)).1)], (F_X6_set st 0 (F_L_low st (h >>> ((2 : Int32) &&& 31)) 30)).2)) rfl ?_
              refine xr_br gd_L_act rfl rfl (fun h9 => ?_) (fun h9 => ?_)
              · refine xr_blk gd_L_act 1 (c' := (469, [(0, .ref 0), (1, .ref 72), (2, .int g), (3, .int h), (4, .int (F_X6_count st 1)), (5, .int (F_L_low st g 13)), (6, .int (F_L_low st (g >>> ((4 : Int32) &&& 31)) (F_X6_count st 1))), (7, .int 1), (8, .int (F_X6_count st 6)), (9, .int (F_L_low st (h >>> ((2 : Int32) &&& 31)) 30))], [.int 0], (F_X6_set st 0 (F_L_low st (h >>> ((2 : Int32) &&& 31)) 30)).2)) rfl ?_
                exact xr_zret gd_L_act rfl rfl rfl ⟨by first | (rw [F_L_act, if_neg h1, if_neg h2, if_pos h3, if_pos h4, if_pos h5, if_pos h6, if_neg h9]; done) | (rw [F_L_act, if_neg h1, if_neg h2, if_pos h3, if_pos h4, if_pos h5, if_pos h6, if_neg h9]; rfl), by first | (rw [F_L_act, if_neg h1, if_neg h2, if_pos h3, if_pos h4, if_pos h5, if_pos h6, if_neg h9]; done) | (rw [F_L_act, if_neg h1, if_neg h2, if_pos h3, if_pos h4, if_pos h5, if_pos h6, if_neg h9]; rfl)⟩
              · refine xr_blk gd_L_act 2 (c' := (446, [(0, .ref 0), (1, .ref 72), (2, .int g), (3, .int h), (4, .int (F_X6_count st 1)), (5, .int (F_L_low st g 13)), (6, .int (F_L_low st (g >>> ((4 : Int32) &&& 31)) (F_X6_count st 1))), (7, .int 1), (8, .int (F_X6_count st 6)), (9, .int (F_L_low st (h >>> ((2 : Int32) &&& 31)) 30))], [.int 1, .ref 0], (F_X6_set st 0 (F_L_low st (h >>> ((2 : Int32) &&& 31)) 30)).2)) rfl ?_
                refine xr_br gd_L_act rfl rfl (fun h => absurd h (by decide)) (fun _ => ?_)
                refine xr_blk gd_L_act 2 (c' := (456, [(0, .ref 0), (1, .ref 72), (2, .int g), (3, .int h), (4, .int (F_X6_count st 1)), (5, .int (F_L_low st g 13)), (6, .int (F_L_low st (g >>> ((4 : Int32) &&& 31)) (F_X6_count st 1))), (7, .int 1), (8, .int (F_X6_count st 6)), (9, .int (F_L_low st (h >>> ((2 : Int32) &&& 31)) 30))], [.int 6, .ref 0], (F_X6_set st 0 (F_L_low st (h >>> ((2 : Int32) &&& 31)) 30)).2)) rfl ?_
                refine xr_callV gd_L_act gd_X6_count k_L_22 rfl (c_X6_count (d + 5) ((F_X6_set st 0 (F_L_low st (h >>> ((2 : Int32) &&& 31)) 30)).2) 6) (by omega) rfl rfl rfl rfl rfl ?_
                refine xs_fun ?_
                refine xr_blk gd_L_act 1 (c' := (461, [(0, .ref 0), (1, .ref 72), (2, .int g), (3, .int h), (4, .int (F_X6_count st 1)), (5, .int (F_L_low st g 13)), (6, .int (F_L_low st (g >>> ((4 : Int32) &&& 31)) (F_X6_count st 1))), (7, .int 1), (8, .int (F_X6_count st 6)), (9, .int (F_L_low st (h >>> ((2 : Int32) &&& 31)) 30))], [.int (F_L_low st (h >>> ((2 : Int32) &&& 31)) 30), .int (F_X6_count ((F_X6_set st 0 (F_L_low st (h >>> ((2 : Int32) &&& 31)) 30)).2) 6)], (F_X6_set st 0 (F_L_low st (h >>> ((2 : Int32) &&& 31)) 30)).2)) rfl ?_
                refine xr_br gd_L_act rfl rfl (fun h10 => ?_) (fun h10 => ?_)
                · refine xr_blk gd_L_act 1 (c' := (469, [(0, .ref 0), (1, .ref 72), (2, .int g), (3, .int h), (4, .int (F_X6_count st 1)), (5, .int (F_L_low st g 13)), (6, .int (F_L_low st (g >>> ((4 : Int32) &&& 31)) (F_X6_count st 1))), (7, .int 1), (8, .int (F_X6_count st 6)), (9, .int (F_L_low st (h >>> ((2 : Int32) &&& 31)) 30))], [.int 0], (F_X6_set st 0 (F_L_low st (h >>> ((2 : Int32) &&& 31)) 30)).2)) rfl ?_
                  exact xr_zret gd_L_act rfl rfl rfl ⟨by first | (rw [F_L_act, if_neg h1, if_neg h2, if_pos h3, if_pos h4, if_pos h5, if_pos h6, if_pos h9, if_neg h10]; done) | (rw [F_L_act, if_neg h1, if_neg h2, if_pos h3, if_pos h4, if_pos h5, if_pos h6, if_pos h9, if_neg h10]; rfl), by first | (rw [F_L_act, if_neg h1, if_neg h2, if_pos h3, if_pos h4, if_pos h5, if_pos h6, if_pos h9, if_neg h10]; done) | (rw [F_L_act, if_neg h1, if_neg h2, if_pos h3, if_pos h4, if_pos h5, if_pos h6, if_pos h9, if_neg h10]; rfl)⟩
                · refine xr_blk gd_L_act 2 (c' := (469, [(0, .ref 0), (1, .ref 72), (2, .int g), (3, .int h), (4, .int (F_X6_count st 1)), (5, .int (F_L_low st g 13)), (6, .int (F_L_low st (g >>> ((4 : Int32) &&& 31)) (F_X6_count st 1))), (7, .int 1), (8, .int (F_X6_count st 6)), (9, .int (F_L_low st (h >>> ((2 : Int32) &&& 31)) 30))], [.int 1], (F_X6_set st 0 (F_L_low st (h >>> ((2 : Int32) &&& 31)) 30)).2)) rfl ?_
                  exact xr_zret gd_L_act rfl rfl rfl ⟨by first | (rw [F_L_act, if_neg h1, if_neg h2, if_pos h3, if_pos h4, if_pos h5, if_pos h6, if_pos h9, if_pos h10]; done) | (rw [F_L_act, if_neg h1, if_neg h2, if_pos h3, if_pos h4, if_pos h5, if_pos h6, if_pos h9, if_pos h10]; rfl), by first | (rw [F_L_act, if_neg h1, if_neg h2, if_pos h3, if_pos h4, if_pos h5, if_pos h6, if_pos h9, if_pos h10]; done) | (rw [F_L_act, if_neg h1, if_neg h2, if_pos h3, if_pos h4, if_pos h5, if_pos h6, if_pos h9, if_pos h10]; rfl)⟩
        · refine xr_blk gd_L_act 2 (c' := (295, [(0, .ref 0), (1, .ref 72), (2, .int g), (3, .int h), (4, .int (F_X6_count st 1)), (5, .int (F_L_low st g 13)), (6, .int (F_L_low st (g >>> ((4 : Int32) &&& 31)) (F_X6_count st 1)))], [.int 0, .ref 0], st)) rfl ?_
          refine xr_callV gd_L_act gd_X6_count k_L_22 rfl (c_X6_count (d + 5) st 0) (by omega) rfl rfl rfl rfl rfl ?_
          refine xs_fun ?_
          refine xr_blk gd_L_act 5 (c' := (306, [(0, .ref 0), (1, .ref 72), (2, .int g), (3, .int h), (4, .int (F_X6_count st 1)), (5, .int (F_L_low st g 13)), (6, .int (F_L_low st (g >>> ((4 : Int32) &&& 31)) (F_X6_count st 1))), (7, .int (F_X6_count st 0))], [.int 400, .int h, .int 1, .ref 0], st)) rfl ?_
          refine xr_callS gd_L_act gd_L_low k_L_65 rfl (c_L_low (d + 7) st h 400 (by decide)) (by omega) rfl rfl rfl ?_
          refine xs_fun ?_
          refine xr_blk gd_L_act 1 (c' := (310, [(0, .ref 0), (1, .ref 72), (2, .int g), (3, .int h), (4, .int (F_X6_count st 1)), (5, .int (F_L_low st g 13)), (6, .int (F_L_low st (g >>> ((4 : Int32) &&& 31)) (F_X6_count st 1))), (7, .int (F_X6_count st 0))], [.int (1 + (F_L_low st h 400)), .ref 0], st)) rfl ?_
          refine xr_callV gd_L_act gd_X6_pass k_L_75 rfl (c_X6_pass (d + 4) st (1 + (F_L_low st h 400))) (by omega) rfl rfl rfl rfl rfl ?_
          refine xs_fun ?_
          refine xr_blk gd_L_act 5 (c' := (321, [(0, .ref 0), (1, .ref 72), (2, .int g), (3, .int h), (4, .int (F_X6_count st 1)), (5, .int (F_L_low st g 13)), (6, .int (F_L_low st (g >>> ((4 : Int32) &&& 31)) (F_X6_count st 1))), (7, .int (F_X6_count st 0))], [.int 400, .int h, .int ((F_X6_count st 0) + 1), .int ((F_X6_pass st (1 + (F_L_low st h 400))).1)], (F_X6_pass st (1 + (F_L_low st h 400))).2)) rfl ?_
          refine xr_callS gd_L_act gd_L_low k_L_65 rfl (c_L_low (d + 7) ((F_X6_pass st (1 + (F_L_low st h 400))).2) h 400 (by decide)) (by omega) rfl rfl rfl ?_
          refine xs_fun ?_
          refine xr_blk gd_L_act 1 (c' := (325, [(0, .ref 0), (1, .ref 72), (2, .int g), (3, .int h), (4, .int (F_X6_count st 1)), (5, .int (F_L_low st g 13)), (6, .int (F_L_low st (g >>> ((4 : Int32) &&& 31)) (F_X6_count st 1))), (7, .int (F_X6_count st 0))], [.int (((F_X6_count st 0) + 1) + (F_L_low ((F_X6_pass st (1 + (F_L_low st h 400))).2) h 400)), .int ((F_X6_pass st (1 + (F_L_low st h 400))).1)], (F_X6_pass st (1 + (F_L_low st h 400))).2)) rfl ?_
          refine xr_br gd_L_act rfl rfl (fun h11 => ?_) (fun h11 => ?_)
          · refine xr_blk gd_L_act 1 (c' := (353, [(0, .ref 0), (1, .ref 72), (2, .int g), (3, .int h), (4, .int (F_X6_count st 1)), (5, .int (F_L_low st g 13)), (6, .int (F_L_low st (g >>> ((4 : Int32) &&& 31)) (F_X6_count st 1))), (7, .int (F_X6_count st 0))], [.int 0], (F_X6_pass st (1 + (F_L_low st h 400))).2)) rfl ?_
            exact xr_zret gd_L_act rfl rfl rfl ⟨by first | (rw [F_L_act, if_neg h1, if_neg h2, if_pos h3, if_neg h4, if_neg h11]; done) | (rw [F_L_act, if_neg h1, if_neg h2, if_pos h3, if_neg h4, if_neg h11]; rfl), by first | (rw [F_L_act, if_neg h1, if_neg h2, if_pos h3, if_neg h4, if_neg h11]; done) | (rw [F_L_act, if_neg h1, if_neg h2, if_pos h3, if_neg h4, if_neg h11]; rfl)⟩
          · refine xr_blk gd_L_act 2 (c' := (330, [(0, .ref 0), (1, .ref 72), (2, .int g), (3, .int h), (4, .int (F_X6_count st 1)), (5, .int (F_L_low st g 13)), (6, .int (F_L_low st (g >>> ((4 : Int32) &&& 31)) (F_X6_count st 1))), (7, .int (F_X6_count st 0))], [.int 0, .ref 0], (F_X6_pass st (1 + (F_L_low st h 400))).2)) rfl ?_
            refine xr_callV gd_L_act gd_X6_count k_L_22 rfl (c_X6_count (d + 5) ((F_X6_pass st (1 + (F_L_low st h 400))).2) 0) (by omega) rfl rfl rfl rfl rfl ?_
            refine xs_fun ?_
            refine xr_blk gd_L_act 5 (c' := (341, [(0, .ref 0), (1, .ref 72), (2, .int g), (3, .int h), (4, .int (F_X6_count st 1)), (5, .int (F_L_low st g 13)), (6, .int (F_L_low st (g >>> ((4 : Int32) &&& 31)) (F_X6_count st 1))), (7, .int (F_X6_count st 0))], [.int 400, .int h, .int ((F_X6_count st 0) + 1), .int (F_X6_count ((F_X6_pass st (1 + (F_L_low st h 400))).2) 0)], (F_X6_pass st (1 + (F_L_low st h 400))).2)) rfl ?_
            refine xr_callS gd_L_act gd_L_low k_L_65 rfl (c_L_low (d + 7) ((F_X6_pass st (1 + (F_L_low st h 400))).2) h 400 (by decide)) (by omega) rfl rfl rfl ?_
            refine xs_fun ?_
            refine xr_blk gd_L_act 1 (c' := (345, [(0, .ref 0), (1, .ref 72), (2, .int g), (3, .int h), (4, .int (F_X6_count st 1)), (5, .int (F_L_low st g 13)), (6, .int (F_L_low st (g >>> ((4 : Int32) &&& 31)) (F_X6_count st 1))), (7, .int (F_X6_count st 0))], [.int (((F_X6_count st 0) + 1) + (F_L_low ((F_X6_pass st (1 + (F_L_low st h 400))).2) h 400)), .int (F_X6_count ((F_X6_pass st (1 + (F_L_low st h 400))).2) 0)], (F_X6_pass st (1 + (F_L_low st h 400))).2)) rfl ?_
            refine xr_br gd_L_act rfl rfl (fun h12 => ?_) (fun h12 => ?_)
            · refine xr_blk gd_L_act 1 (c' := (353, [(0, .ref 0), (1, .ref 72), (2, .int g), (3, .int h), (4, .int (F_X6_count st 1)), (5, .int (F_L_low st g 13)), (6, .int (F_L_low st (g >>> ((4 : Int32) &&& 31)) (F_X6_count st 1))), (7, .int (F_X6_count st 0))], [.int 0], (F_X6_pass st (1 + (F_L_low st h 400))).2)) rfl ?_
              exact xr_zret gd_L_act rfl rfl rfl ⟨by first | (rw [F_L_act, if_neg h1, if_neg h2, if_pos h3, if_neg h4, if_pos h11, if_neg h12]; done) | (rw [F_L_act, if_neg h1, if_neg h2, if_pos h3, if_neg h4, if_pos h11, if_neg h12]; rfl), by first | (rw [F_L_act, if_neg h1, if_neg h2, if_pos h3, if_neg h4, if_pos h11, if_neg h12]; done) | (rw [F_L_act, if_neg h1, if_neg h2, if_pos h3, if_neg h4, if_pos h11, if_neg h12]; rfl)⟩
            · refine xr_blk gd_L_act 2 (c' := (353, [(0, .ref 0), (1, .ref 72), (2, .int g), (3, .int h), (4, .int (F_X6_count st 1)), (5, .int (F_L_low st g 13)), (6, .int (F_L_low st (g >>> ((4 : Int32) &&& 31)) (F_X6_count st 1))), (7, .int (F_X6_count st 0))], [.int 1], (F_X6_pass st (1 + (F_L_low st h 400))).2)) rfl ?_
              exact xr_zret gd_L_act rfl rfl rfl ⟨by first | (rw [F_L_act, if_neg h1, if_neg h2, if_pos h3, if_neg h4, if_pos h11, if_pos h12]; done) | (rw [F_L_act, if_neg h1, if_neg h2, if_pos h3, if_neg h4, if_pos h11, if_pos h12]; rfl), by first | (rw [F_L_act, if_neg h1, if_neg h2, if_pos h3, if_neg h4, if_pos h11, if_pos h12]; done) | (rw [F_L_act, if_neg h1, if_neg h2, if_pos h3, if_neg h4, if_pos h11, if_pos h12]; rfl)⟩
      · refine xr_blk gd_L_act 5 (c' := (126, [(0, .ref 0), (1, .ref 72), (2, .int g), (3, .int h), (4, .int (F_X6_count st 1)), (5, .int (F_L_low st g 13)), (6, .int (F_L_low st (g >>> ((4 : Int32) &&& 31)) (F_X6_count st 1)))], [.int 4, .int (g >>> ((9 : Int32) &&& 31)), .int h], st)) rfl ?_
        refine xr_callS gd_L_act gd_L_low k_L_65 rfl (c_L_low (d + 7) st (g >>> ((9 : Int32) &&& 31)) 4 (by decide)) (by omega) rfl rfl rfl ?_
        refine xs_fun ?_
        refine xr_br gd_L_act rfl rfl (fun h13 => ?_) (fun h13 => ?_)
        · refine xr_blk gd_L_act 1 (c' := (141, [(0, .ref 0), (1, .ref 72), (2, .int g), (3, .int h), (4, .int (F_X6_count st 1)), (5, .int (F_L_low st g 13)), (6, .int (F_L_low st (g >>> ((4 : Int32) &&& 31)) (F_X6_count st 1)))], [.int 600, .int h], st)) rfl ?_
          refine xr_callS gd_L_act gd_L_low k_L_65 rfl (c_L_low (d + 7) st h 600 (by decide)) (by omega) rfl rfl rfl ?_
          refine xs_fun ?_
          refine xr_blk gd_L_act 8 (c' := (155, [(0, .ref 0), (1, .ref 72), (2, .int g), (3, .int h), (4, .int (F_X6_count st 1)), (5, .int (F_L_low st g 13)), (6, .int (F_L_low st (g >>> ((4 : Int32) &&& 31)) (F_X6_count st 1))), (7, .int (F_L_low st h 600))], [.int 3, .int (g >>> ((12 : Int32) &&& 31)), .int (h >>> ((8 : Int32) &&& 31))], st)) rfl ?_
          refine xr_callS gd_L_act gd_L_low k_L_65 rfl (c_L_low (d + 7) st (g >>> ((12 : Int32) &&& 31)) 3 (by decide)) (by omega) rfl rfl rfl ?_
          refine xs_fun ?_
          refine xr_br gd_L_act rfl rfl (fun h14 => ?_) (fun h14 => ?_)
          · refine xr_blk gd_L_act 1 (c' := (169, [(0, .ref 0), (1, .ref 72), (2, .int g), (3, .int h), (4, .int (F_X6_count st 1)), (5, .int (F_L_low st g 13)), (6, .int (F_L_low st (g >>> ((4 : Int32) &&& 31)) (F_X6_count st 1))), (7, .int (F_L_low st h 600))], [.int 60, .int (h >>> ((8 : Int32) &&& 31))], st)) rfl ?_
            refine xr_callS gd_L_act gd_L_low k_L_65 rfl (c_L_low (d + 7) st (h >>> ((8 : Int32) &&& 31)) 60 (by decide)) (by omega) rfl rfl rfl ?_
            refine xs_fun ?_
            refine xr_blk gd_L_act 1 (c' := (174, [(0, .ref 0), (1, .ref 72), (2, .int g), (3, .int h), (4, .int (F_X6_count st 1)), (5, .int (F_L_low st g 13)), (6, .int (F_L_low st (g >>> ((4 : Int32) &&& 31)) (F_X6_count st 1))), (7, .int (F_L_low st h 600)), (8, .int (F_L_low st (h >>> ((8 : Int32) &&& 31)) 60))], [], st)) rfl ?_
            refine xs_cons (cl_L_act_174 d g h 1 (F_X6_count st 1) (F_L_low st g 13) (F_L_low st (g >>> ((4 : Int32) &&& 31)) (F_X6_count st 1)) (F_L_low st h 600) (F_L_low st (h >>> ((8 : Int32) &&& 31)) 60) st ⟨Nat.zero_lt_one, act_i hds (by assumption), hds⟩) (fun v u hq => ?_)
            rw [F_L_act, if_neg h1, if_neg h2, if_neg h3, if_neg h13, if_neg h14]; exact hq
          · refine xr_blk gd_L_act 2 (c' := (169, [(0, .ref 0), (1, .ref 72), (2, .int g), (3, .int h), (4, .int (F_X6_count st 1)), (5, .int (F_L_low st g 13)), (6, .int (F_L_low st (g >>> ((4 : Int32) &&& 31)) (F_X6_count st 1))), (7, .int (F_L_low st h 600))], [.int 301, .int (h >>> ((8 : Int32) &&& 31))], st)) rfl ?_
            refine xr_callS gd_L_act gd_L_low k_L_65 rfl (c_L_low (d + 7) st (h >>> ((8 : Int32) &&& 31)) 301 (by decide)) (by omega) rfl rfl rfl ?_
            refine xs_fun ?_
            refine xr_blk gd_L_act 1 (c' := (174, [(0, .ref 0), (1, .ref 72), (2, .int g), (3, .int h), (4, .int (F_X6_count st 1)), (5, .int (F_L_low st g 13)), (6, .int (F_L_low st (g >>> ((4 : Int32) &&& 31)) (F_X6_count st 1))), (7, .int (F_L_low st h 600)), (8, .int (F_L_low st (h >>> ((8 : Int32) &&& 31)) 301))], [], st)) rfl ?_
            refine xs_cons (cl_L_act_174 d g h 1 (F_X6_count st 1) (F_L_low st g 13) (F_L_low st (g >>> ((4 : Int32) &&& 31)) (F_X6_count st 1)) (F_L_low st h 600) (F_L_low st (h >>> ((8 : Int32) &&& 31)) 301) st ⟨Nat.zero_lt_one, act_i hds (by assumption), hds⟩) (fun v u hq => ?_)
            rw [F_L_act, if_neg h1, if_neg h2, if_neg h3, if_neg h13, if_pos h14]; exact hq
        · refine xr_blk gd_L_act 2 (c' := (141, [(0, .ref 0), (1, .ref 72), (2, .int g), (3, .int h), (4, .int (F_X6_count st 1)), (5, .int (F_L_low st g 13)), (6, .int (F_L_low st (g >>> ((4 : Int32) &&& 31)) (F_X6_count st 1)))], [.int 10000, .int h], st)) rfl ?_
          refine xr_callS gd_L_act gd_L_low k_L_65 rfl (c_L_low (d + 7) st h 10000 (by decide)) (by omega) rfl rfl rfl ?_
          refine xs_fun ?_
          refine xr_blk gd_L_act 8 (c' := (155, [(0, .ref 0), (1, .ref 72), (2, .int g), (3, .int h), (4, .int (F_X6_count st 1)), (5, .int (F_L_low st g 13)), (6, .int (F_L_low st (g >>> ((4 : Int32) &&& 31)) (F_X6_count st 1))), (7, .int (F_L_low st h 10000))], [.int 3, .int (g >>> ((12 : Int32) &&& 31)), .int (h >>> ((8 : Int32) &&& 31))], st)) rfl ?_
          refine xr_callS gd_L_act gd_L_low k_L_65 rfl (c_L_low (d + 7) st (g >>> ((12 : Int32) &&& 31)) 3 (by decide)) (by omega) rfl rfl rfl ?_
          refine xs_fun ?_
          refine xr_br gd_L_act rfl rfl (fun h15 => ?_) (fun h15 => ?_)
          · refine xr_blk gd_L_act 1 (c' := (169, [(0, .ref 0), (1, .ref 72), (2, .int g), (3, .int h), (4, .int (F_X6_count st 1)), (5, .int (F_L_low st g 13)), (6, .int (F_L_low st (g >>> ((4 : Int32) &&& 31)) (F_X6_count st 1))), (7, .int (F_L_low st h 10000))], [.int 60, .int (h >>> ((8 : Int32) &&& 31))], st)) rfl ?_
            refine xr_callS gd_L_act gd_L_low k_L_65 rfl (c_L_low (d + 7) st (h >>> ((8 : Int32) &&& 31)) 60 (by decide)) (by omega) rfl rfl rfl ?_
            refine xs_fun ?_
            refine xr_blk gd_L_act 1 (c' := (174, [(0, .ref 0), (1, .ref 72), (2, .int g), (3, .int h), (4, .int (F_X6_count st 1)), (5, .int (F_L_low st g 13)), (6, .int (F_L_low st (g >>> ((4 : Int32) &&& 31)) (F_X6_count st 1))), (7, .int (F_L_low st h 10000)), (8, .int (F_L_low st (h >>> ((8 : Int32) &&& 31)) 60))], [], st)) rfl ?_
            refine xs_cons (cl_L_act_174 d g h 1 (F_X6_count st 1) (F_L_low st g 13) (F_L_low st (g >>> ((4 : Int32) &&& 31)) (F_X6_count st 1)) (F_L_low st h 10000) (F_L_low st (h >>> ((8 : Int32) &&& 31)) 60) st ⟨Nat.zero_lt_one, act_i hds (by assumption), hds⟩) (fun v u hq => ?_)
            rw [F_L_act, if_neg h1, if_neg h2, if_neg h3, if_pos h13, if_neg h15]; exact hq
          · refine xr_blk gd_L_act 2 (c' := (169, [(0, .ref 0), (1, .ref 72), (2, .int g), (3, .int h), (4, .int (F_X6_count st 1)), (5, .int (F_L_low st g 13)), (6, .int (F_L_low st (g >>> ((4 : Int32) &&& 31)) (F_X6_count st 1))), (7, .int (F_L_low st h 10000))], [.int 301, .int (h >>> ((8 : Int32) &&& 31))], st)) rfl ?_
            refine xr_callS gd_L_act gd_L_low k_L_65 rfl (c_L_low (d + 7) st (h >>> ((8 : Int32) &&& 31)) 301 (by decide)) (by omega) rfl rfl rfl ?_
            refine xs_fun ?_
            refine xr_blk gd_L_act 1 (c' := (174, [(0, .ref 0), (1, .ref 72), (2, .int g), (3, .int h), (4, .int (F_X6_count st 1)), (5, .int (F_L_low st g 13)), (6, .int (F_L_low st (g >>> ((4 : Int32) &&& 31)) (F_X6_count st 1))), (7, .int (F_L_low st h 10000)), (8, .int (F_L_low st (h >>> ((8 : Int32) &&& 31)) 301))], [], st)) rfl ?_
            refine xs_cons (cl_L_act_174 d g h 1 (F_X6_count st 1) (F_L_low st g 13) (F_L_low st (g >>> ((4 : Int32) &&& 31)) (F_X6_count st 1)) (F_L_low st h 10000) (F_L_low st (h >>> ((8 : Int32) &&& 31)) 301) st ⟨Nat.zero_lt_one, act_i hds (by assumption), hds⟩) (fun v u hq => ?_)
            rw [F_L_act, if_neg h1, if_neg h2, if_neg h3, if_pos h13, if_pos h15]; exact hq
    · refine xs_cons (cl_L_act_25 d g h 1 (F_X6_count st 1) (F_L_low st g 13) st ⟨Nat.zero_lt_one, hds, hds⟩) (fun v u hq => ?_)
      rw [F_L_act, if_neg h1, if_pos h2]; exact hq
