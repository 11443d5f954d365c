def lp_L_spans_7 (st : xs_S) : Nat → Int32 → Int32 → Int32 → Int32
  | 0, _, _, _ => 0
  | n + 1, x2, x3, x4 => (if (F_X6_count st 1) ≤ x4 then (if (F_X6_count st 2) = x2 then (if (F_X6_count st 3) = x3 then 1
        else 0)
      else 0)
    else (if (F_X6_of st x4 2) < 0 then (if 0 ≤ (st 72 ((3 * x4).toInt.toNat)) then 0
        else (if (F_X6_of st x4 3) = (-6) then (if (F_X6_of st x4 0) = (-6) then (if (F_X6_of st x4 1) = (-6) then (if (F_X6_of st x4 5) ≤ (F_X6_of st x4 4) then lp_L_spans_7 st n (x2 ||| 0) (x3 ||| ((F_X6_of st x4 6) <<< (x4 &&& 31))) (x4 + 1)
                else 0)
              else 0)
            else 0)
          else 0))
      else (if (F_X6_of st x4 6) = 0 then (if 0 ≤ (st 72 ((3 * x4).toInt.toNat)) then (if (F_X6_of st x4 2) = ((F_X6_count st 0) - (st 72 (((3 * x4) + 2).toInt.toNat))) then (if (F_X6_of st x4 3) = (st 72 (((3 * x4) + 1).toInt.toNat)) then (if (F_X6_of st x4 0) = ((((st 72 ((3 * x4).toInt.toNat)) + (F_X6_of st x4 2)) + 100000) - ((st 72 (((3 * x4) + 1).toInt.toNat)) + ((F_X6_count st 6) * ((F_X6_of st x4 2) / 60)))) then (if (F_X6_of st x4 1) = ((((st 72 ((3 * x4).toInt.toNat)) + (F_X6_of st x4 2)) + 100000) + ((st 72 (((3 * x4) + 1).toInt.toNat)) + ((F_X6_count st 6) * ((F_X6_of st x4 2) / 60)))) then (if (F_X6_of st x4 5) ≤ (F_X6_of st x4 4) then lp_L_spans_7 st n (x2 ||| (1 <<< (x4 &&& 31))) (x3 ||| ((F_X6_of st x4 6) <<< (x4 &&& 31))) (x4 + 1)
                    else 0)
                  else 0)
                else 0)
              else 0)
            else 0)
          else 0)
        else (if 0 ≤ (st 72 ((3 * x4).toInt.toNat)) then (if (F_X6_of st x4 2) = ((F_X6_count st 0) - (st 72 (((3 * x4) + 2).toInt.toNat))) then (if (F_X6_of st x4 3) = (st 72 (((3 * x4) + 1).toInt.toNat)) then (if (F_X6_of st x4 0) = (-6) then (if (F_X6_of st x4 1) = (-6) then (if (F_X6_of st x4 5) ≤ (F_X6_of st x4 4) then lp_L_spans_7 st n (x2 ||| 0) (x3 ||| ((F_X6_of st x4 6) <<< (x4 &&& 31))) (x4 + 1)
                    else 0)
                  else 0)
                else 0)
              else 0)
            else 0)
          else 0))))
set_option maxRecDepth 20000 in
theorem cl_L_spans_7 {G : xs_G} {base : Nat} (d : Nat) (st : xs_S) (hds : 0 ≤ (st 1 3).toInt ∧ (st 1 3).toInt ≤ 15) : ∀ (n : Nat) (x2 : Int32) (x3 : Int32) (x4 : Int32), xs_lo x4 (F_X6_count st 1) n → xs_R (xc G) base (d + 5) M_L_spans (7, [(0, .ref 0), (1, .ref 72), (2, .int x2), (3, .int x3), (4, .int x4)], [], st) (xs_q (xc G) (fun v u => v = some (.int (lp_L_spans_7 st n x2 x3 x4)) ∧ u = st)) := by
  intro n
  induction n with
  | zero =>
    intro x2 x3 x4 hinv
    exact (xs_lo0 hinv).elim
  | succ n ih =>
    intro x2 x3 x4 hinv
    refine xr_blk gd_L_spans 3 (c' := (11, [(0, .ref 0), (1, .ref 72), (2, .int x2), (3, .int x3), (4, .int x4)], [.int 1, .ref 0, .int x4], st)) rfl ?_
    refine xr_callV gd_L_spans gd_X6_count k_L_22 rfl (c_X6_count (d + 2) st 1) (by omega) rfl rfl rfl rfl rfl ?_
    refine xs_fun ?_
    refine xr_br gd_L_spans rfl rfl (fun h1 => ?_) (fun h1 => ?_)
    · refine xr_blk gd_L_spans 2 (c' := (290, [(0, .ref 0), (1, .ref 72), (2, .int x2), (3, .int x3), (4, .int x4)], [.int 2, .ref 0], st)) rfl ?_
      refine xr_callV gd_L_spans gd_X6_count k_L_22 rfl (c_X6_count (d + 2) st 2) (by omega) rfl rfl rfl rfl rfl ?_
      refine xs_fun ?_
      refine xr_blk gd_L_spans 1 (c' := (294, [(0, .ref 0), (1, .ref 72), (2, .int x2), (3, .int x3), (4, .int x4)], [.int x2, .int (F_X6_count st 2)], st)) rfl ?_
      refine xr_br gd_L_spans rfl rfl (fun h2 => ?_) (fun h2 => ?_)
      · refine xr_blk gd_L_spans 1 (c' := (311, [(0, .ref 0), (1, .ref 72), (2, .int x2), (3, .int x3), (4, .int x4)], [.int 0], st)) rfl ?_
        exact xr_zret gd_L_spans rfl rfl rfl ⟨by first | (rw [lp_L_spans_7, if_pos h1, if_neg h2]; done) | (rw [lp_L_spans_7, if_pos h1, if_neg h2]; rfl), rfl⟩
      · refine xr_blk gd_L_spans 2 (c' := (299, [(0, .ref 0), (1, .ref 72), (2, .int x2), (3, .int x3), (4, .int x4)], [.int 3, .ref 0], st)) rfl ?_
        refine xr_callV gd_L_spans gd_X6_count k_L_22 rfl (c_X6_count (d + 2) st 3) (by omega) rfl rfl rfl rfl rfl ?_
        refine xs_fun ?_
        refine xr_blk gd_L_spans 1 (c' := (303, [(0, .ref 0), (1, .ref 72), (2, .int x2), (3, .int x3), (4, .int x4)], [.int x3, .int (F_X6_count st 3)], st)) rfl ?_
        refine xr_br gd_L_spans rfl rfl (fun h3 => ?_) (fun h3 => ?_)
        · refine xr_blk gd_L_spans 1 (c' := (311, [(0, .ref 0), (1, .ref 72), (2, .int x2), (3, .int x3), (4, .int x4)], [.int 0], st)) rfl ?_
          exact xr_zret gd_L_spans rfl rfl rfl ⟨by first | (rw [lp_L_spans_7, if_pos h1, if_pos h2, if_neg h3]; done) | (rw [lp_L_spans_7, if_pos h1, if_pos h2, if_neg h3]; rfl), rfl⟩
        · refine xr_blk gd_L_spans 2 (c' := (311, [(0, .ref 0), (1, .ref 72), (2, .int x2), (3, .int x3), (4, .int x4)], [.int 1], st)) rfl ?_
          exact xr_zret gd_L_spans rfl rfl rfl ⟨by first | (rw [lp_L_spans_7, if_pos h1, if_pos h2, if_pos h3]; done) | (rw [lp_L_spans_7, if_pos h1, if_pos h2, if_pos h3]; rfl), rfl⟩
    · refine xr_blk gd_L_spans 3 (c' := (21, [(0, .ref 0), (1, .ref 72), (2, .int x2), (3, .int x3), (4, .int x4)], [.int 2, .int x4, .ref 0], st)) rfl ?_
      refine xr_callV gd_L_spans gd_X6_of k_L_16 rfl (c_X6_of (d + 0) st x4 2 (by first | exact hds.2 | (simp only [xs_u_72, f1_best, f1_end, f1_fewest, f1_share, f1_mean, f1_allowing, f1_overlap, f1_widerIn, f13_read]; exact hds.2) | (simp only [xs_u_72]; exact f13_dial hds))) (by omega) rfl rfl rfl rfl rfl ?_
      refine xs_fun ?_
      refine xr_blk gd_L_spans 2 (c' := (28, [(0, .ref 0), (1, .ref 72), (2, .int x2), (3, .int x3), (4, .int x4), (5, .int (F_X6_of st x4 2))], [.int (F_X6_of st x4 2)], st)) rfl ?_
      refine xr_br gd_L_spans rfl rfl (fun h4 => ?_) (fun h4 => ?_)
      · refine xr_blk gd_L_spans 4 (c' := (52, [(0, .ref 0), (1, .ref 72), (2, .int x2), (3, .int x3), (4, .int x4), (5, .int (F_X6_of st x4 2)), (6, .int 0)], [.int 0, .int x2], st)) rfl ?_
        refine xr_br gd_L_spans rfl rfl (fun _ => ?_) (fun h => absurd h (by decide))
        refine xr_blk gd_L_spans 7 (c' := (71, [(0, .ref 0), (1, .ref 72), (2, .int (x2 ||| 0)), (3, .int x3), (4, .int x4), (5, .int (F_X6_of st x4 2)), (6, .int 0)], [.int 6, .int x4, .ref 0, .int x3], st)) rfl ?_
        refine xr_callV gd_L_spans gd_X6_of k_L_16 rfl (c_X6_of (d + 0) st x4 6 (by first | exact hds.2 | (simp only [xs_u_72, f1_best, f1_end, f1_fewest, f1_share, f1_mean, f1_allowing, f1_overlap, f1_widerIn, f13_read]; exact hds.2) | (simp only [xs_u_72]; exact f13_dial hds))) (by omega) rfl rfl rfl rfl rfl ?_
        refine xs_fun ?_
        refine xr_blk gd_L_spans 5 (c' := (81, [(0, .ref 0), (1, .ref 72), (2, .int (x2 ||| 0)), (3, .int (x3 ||| ((F_X6_of st x4 6) <<< (x4 &&& 31)))), (4, .int x4), (5, .int (F_X6_of st x4 2)), (6, .int 0)], [.int (F_X6_of st x4 2)], st)) rfl ?_
        refine xr_br gd_L_spans rfl rfl (fun h => (xi_na h4 h).elim) (fun _ => ?_)
        refine xr_blk gd_L_spans 6 (c' := (94, [(0, .ref 0), (1, .ref 72), (2, .int (x2 ||| 0)), (3, .int (x3 ||| ((F_X6_of st x4 6) <<< (x4 &&& 31)))), (4, .int x4), (5, .int (F_X6_of st x4 2)), (6, .int 0)], [.int (3 * x4), .ref 72, .int 1], st)) rfl ?_
        refine xr_iald gd_L_spans rfl rfl ((3 * x4).toInt.toNat) (xs_h1 (n := 45) (ix3 (cnt1_i hds hinv h1)).1) (xs_h2 (n := 45) (ix3 (cnt1_i hds hinv h1)).1) ?_
        refine xr_br gd_L_spans rfl rfl (fun h5 => ?_) (fun h5 => ?_)
        · refine xr_blk gd_L_spans 1 (c' := (103, [(0, .ref 0), (1, .ref 72), (2, .int (x2 ||| 0)), (3, .int (x3 ||| ((F_X6_of st x4 6) <<< (x4 &&& 31)))), (4, .int x4), (5, .int (F_X6_of st x4 2)), (6, .int 0)], [.int 0, .int 1], st)) rfl ?_
          refine xr_br gd_L_spans rfl rfl (fun _ => ?_) (fun h => absurd h (by decide))
          refine xr_blk gd_L_spans 1 (c' := (166, [(0, .ref 0), (1, .ref 72), (2, .int (x2 ||| 0)), (3, .int (x3 ||| ((F_X6_of st x4 6) <<< (x4 &&& 31)))), (4, .int x4), (5, .int (F_X6_of st x4 2)), (6, .int 0)], [.int 0], st)) rfl ?_
          exact xr_zret gd_L_spans rfl rfl rfl ⟨by first | (rw [lp_L_spans_7, if_neg h1, if_pos h4, if_pos h5]; done) | (rw [lp_L_spans_7, if_neg h1, if_pos h4, if_pos h5]; rfl), rfl⟩
        · refine xr_blk gd_L_spans 2 (c' := (103, [(0, .ref 0), (1, .ref 72), (2, .int (x2 ||| 0)), (3, .int (x3 ||| ((F_X6_of st x4 6) <<< (x4 &&& 31)))), (4, .int x4), (5, .int (F_X6_of st x4 2)), (6, .int 0)], [.int 1, .int 1], st)) rfl ?_
          refine xr_br gd_L_spans rfl rfl (fun h => absurd h (by decide)) (fun _ => ?_)
          refine xr_blk gd_L_spans 1 (c' := (108, [(0, .ref 0), (1, .ref 72), (2, .int (x2 ||| 0)), (3, .int (x3 ||| ((F_X6_of st x4 6) <<< (x4 &&& 31)))), (4, .int x4), (5, .int (F_X6_of st x4 2)), (6, .int 0)], [.int (F_X6_of st x4 2)], st)) rfl ?_
          refine xr_br gd_L_spans rfl rfl (fun _ => ?_) (fun h => (h h4).elim)
          refine xr_blk gd_L_spans 1 (c' := (150, [(0, .ref 0), (1, .ref 72), (2, .int (x2 ||| 0)), (3, .int (x3 ||| ((F_X6_of st x4 6) <<< (x4 &&& 31)))), (4, .int x4), (5, .int (F_X6_of st x4 2)), (6, .int 0)], [.int (F_X6_of st x4 2)], st)) rfl ?_
          refine xr_br gd_L_spans rfl rfl (fun h => (xi_na h4 h).elim) (fun _ => ?_)
          refine xr_blk gd_L_spans 3 (c' := (157, [(0, .ref 0), (1, .ref 72), (2, .int (x2 ||| 0)), (3, .int (x3 ||| ((F_X6_of st x4 6) <<< (x4 &&& 31)))), (4, .int x4), (5, .int (F_X6_of st x4 2)), (6, .int 0)], [.int 3, .int x4, .ref 0], st)) rfl ?_
          refine xr_callV gd_L_spans gd_X6_of k_L_16 rfl (c_X6_of (d + 0) st x4 3 (by first | exact hds.2 | (simp only [xs_u_72, f1_best, f1_end, f1_fewest, f1_share, f1_mean, f1_allowing, f1_overlap, f1_widerIn, f13_read]; exact hds.2) | (simp only [xs_u_72]; exact f13_dial hds))) (by omega) rfl rfl rfl rfl rfl ?_
          refine xs_fun ?_
          refine xr_blk gd_L_spans 1 (c' := (162, [(0, .ref 0), (1, .ref 72), (2, .int (x2 ||| 0)), (3, .int (x3 ||| ((F_X6_of st x4 6) <<< (x4 &&& 31)))), (4, .int x4), (5, .int (F_X6_of st x4 2)), (6, .int 0)], [.int (-6), .int (F_X6_of st x4 3)], st)) rfl ?_
          refine xr_br gd_L_spans rfl rfl (fun h6 => ?_) (fun h6 => ?_)
          · refine xr_blk gd_L_spans 1 (c' := (169, [(0, .ref 0), (1, .ref 72), (2, .int (x2 ||| 0)), (3, .int (x3 ||| ((F_X6_of st x4 6) <<< (x4 &&& 31)))), (4, .int x4), (5, .int (F_X6_of st x4 2)), (6, .int 0)], [.int 0], st)) rfl ?_
            refine xr_br gd_L_spans rfl rfl (fun _ => ?_) (fun h => absurd h (by decide))
            refine xr_blk gd_L_spans 6 (c' := (204, [(0, .ref 0), (1, .ref 72), (2, .int (x2 ||| 0)), (3, .int (x3 ||| ((F_X6_of st x4 6) <<< (x4 &&& 31)))), (4, .int x4), (5, .int (F_X6_of st x4 2)), (6, .int 0), (7, .int 0)], [.int (3 * x4), .ref 72], st)) rfl ?_
            refine xr_iald gd_L_spans rfl rfl ((3 * x4).toInt.toNat) (xs_h1 (n := 45) (ix3 (cnt1_i hds hinv h1)).1) (xs_h2 (n := 45) (ix3 (cnt1_i hds hinv h1)).1) ?_
            refine xr_blk gd_L_spans 8 (c' := (217, [(0, .ref 0), (1, .ref 72), (2, .int (x2 ||| 0)), (3, .int (x3 ||| ((F_X6_of st x4 6) <<< (x4 &&& 31)))), (4, .int x4), (5, .int (F_X6_of st x4 2)), (6, .int 0), (7, .int 0), (8, .int (((st 72 ((3 * x4).toInt.toNat)) + (F_X6_of st x4 2)) + 100000))], [.int 0, .int x4, .ref 0], st)) rfl ?_
            refine xr_callV gd_L_spans gd_X6_of k_L_16 rfl (c_X6_of (d + 0) st x4 0 (by first | exact hds.2 | (simp only [xs_u_72, f1_best, f1_end, f1_fewest, f1_share, f1_mean, f1_allowing, f1_overlap, f1_widerIn, f13_read]; exact hds.2) | (simp only [xs_u_72]; exact f13_dial hds))) (by omega) rfl rfl rfl rfl rfl ?_
            refine xs_fun ?_
            refine xr_blk gd_L_spans 1 (c' := (222, [(0, .ref 0), (1, .ref 72), (2, .int (x2 ||| 0)), (3, .int (x3 ||| ((F_X6_of st x4 6) <<< (x4 &&& 31)))), (4, .int x4), (5, .int (F_X6_of st x4 2)), (6, .int 0), (7, .int 0), (8, .int (((st 72 ((3 * x4).toInt.toNat)) + (F_X6_of st x4 2)) + 100000))], [.int 0, .int (F_X6_of st x4 0)], st)) rfl ?_
            refine xr_br gd_L_spans rfl rfl (fun _ => ?_) (fun h => absurd h (by decide))
            refine xr_blk gd_L_spans 1 (c' := (235, [(0, .ref 0), (1, .ref 72), (2, .int (x2 ||| 0)), (3, .int (x3 ||| ((F_X6_of st x4 6) <<< (x4 &&& 31)))), (4, .int x4), (5, .int (F_X6_of st x4 2)), (6, .int 0), (7, .int 0), (8, .int (((st 72 ((3 * x4).toInt.toNat)) + (F_X6_of st x4 2)) + 100000))], [.int (-6), .int (F_X6_of st x4 0)], st)) rfl ?_
            refine xr_br gd_L_spans rfl rfl (fun h7 => ?_) (fun h7 => ?_)
            · refine xr_blk gd_L_spans 1 (c' := (281, [(0, .ref 0), (1, .ref 72), (2, .int (x2 ||| 0)), (3, .int (x3 ||| ((F_X6_of st x4 6) <<< (x4 &&& 31)))), (4, .int x4), (5, .int (F_X6_of st x4 2)), (6, .int 0), (7, .int 0), (8, .int (((st 72 ((3 * x4).toInt.toNat)) + (F_X6_of st x4 2)) + 100000))], [.int 0], st)) rfl ?_
              exact xr_zret gd_L_spans rfl rfl rfl ⟨by first | (rw [lp_L_spans_7, if_neg h1, if_pos h4, if_neg h5, if_pos h6, if_neg h7]; done) | (rw [lp_L_spans_7, if_neg h1, if_pos h4, if_neg h5, if_pos h6, if_neg h7]; rfl), rfl⟩
            · refine xr_blk gd_L_spans 3 (c' := (242, [(0, .ref 0), (1, .ref 72), (2, .int (x2 ||| 0)), (3, .int (x3 ||| ((F_X6_of st x4 6) <<< (x4 &&& 31)))), (4, .int x4), (5, .int (F_X6_of st x4 2)), (6, .int 0), (7, .int 0), (8, .int (((st 72 ((3 * x4).toInt.toNat)) + (F_X6_of st x4 2)) + 100000))], [.int 1, .int x4, .ref 0], st)) rfl ?_
              refine xr_callV gd_L_spans gd_X6_of k_L_16 rfl (c_X6_of (d + 0) st x4 1 (by first | exact hds.2 | (simp only [xs_u_72, f1_best, f1_end, f1_fewest, f1_share, f1_mean, f1_allowing, f1_overlap, f1_widerIn, f13_read]; exact hds.2) | (simp only [xs_u_72]; exact f13_dial hds))) (by omega) rfl rfl rfl rfl rfl ?_
              refine xs_fun ?_
              refine xr_blk gd_L_spans 1 (c' := (247, [(0, .ref 0), (1, .ref 72), (2, .int (x2 ||| 0)), (3, .int (x3 ||| ((F_X6_of st x4 6) <<< (x4 &&& 31)))), (4, .int x4), (5, .int (F_X6_of st x4 2)), (6, .int 0), (7, .int 0), (8, .int (((st 72 ((3 * x4).toInt.toNat)) + (F_X6_of st x4 2)) + 100000))], [.int 0, .int (F_X6_of st x4 1)], st)) rfl ?_
              refine xr_br gd_L_spans rfl rfl (fun _ => ?_) (fun h => absurd h (by decide))
              refine xr_blk gd_L_spans 1 (c' := (260, [(0, .ref 0), (1, .ref 72), (2, .int (x2 ||| 0)), (3, .int (x3 ||| ((F_X6_of st x4 6) <<< (x4 &&& 31)))), (4, .int x4), (5, .int (F_X6_of st x4 2)), (6, .int 0), (7, .int 0), (8, .int (((st 72 ((3 * x4).toInt.toNat)) + (F_X6_of st x4 2)) + 100000))], [.int (-6), .int (F_X6_of st x4 1)], st)) rfl ?_
              refine xr_br gd_L_spans rfl rfl (fun h8 => ?_) (fun h8 => ?_)
              · refine xr_blk gd_L_spans 1 (c' := (281, [(0, .ref 0), (1, .ref 72), (2, .int (x2 ||| 0)), (3, .int (x3 ||| ((F_X6_of st x4 6) <<< (x4 &&& 31)))), (4, .int x4), (5, .int (F_X6_of st x4 2)), (6, .int 0), (7, .int 0), (8, .int (((st 72 ((3 * x4).toInt.toNat)) + (F_X6_of st x4 2)) + 100000))], [.int 0], st)) rfl ?_
                exact xr_zret gd_L_spans rfl rfl rfl ⟨by first | (rw [lp_L_spans_7, if_neg h1, if_pos h4, if_neg h5, if_pos h6, if_pos h7, if_neg h8]; done) | (rw [lp_L_spans_7, if_neg h1, if_pos h4, if_neg h5, if_pos h6, if_pos h7, if_neg h8]; rfl), rfl⟩
              · refine xr_blk gd_L_spans 3 (c' := (267, [(0, .ref 0), (1, .ref 72), (2, .int (x2 ||| 0)), (3, .int (x3 ||| ((F_X6_of st x4 6) <<< (x4 &&& 31)))), (4, .int x4), (5, .int (F_X6_of st x4 2)), (6, .int 0), (7, .int 0), (8, .int (((st 72 ((3 * x4).toInt.toNat)) + (F_X6_of st x4 2)) + 100000))], [.int 5, .int x4, .ref 0], st)) rfl ?_
                refine xr_callV gd_L_spans gd_X6_of k_L_16 rfl (c_X6_of (d + 0) st x4 5 (by first | exact hds.2 | (simp only [xs_u_72, f1_best, f1_end, f1_fewest, f1_share, f1_mean, f1_allowing, f1_overlap, f1_widerIn, f13_read]; exact hds.2) | (simp only [xs_u_72]; exact f13_dial hds))) (by omega) rfl rfl rfl rfl rfl ?_
                refine xs_fun ?_
                refine xr_blk gd_L_spans 3 (c' := (274, [(0, .ref 0), (1, .ref 72), (2, .int (x2 ||| 0)), (3, .int (x3 ||| ((F_X6_of st x4 6) <<< (x4 &&& 31)))), (4, .int x4), (5, .int (F_X6_of st x4 2)), (6, .int 0), (7, .int 0), (8, .int (((st 72 ((3 * x4).toInt.toNat)) + (F_X6_of st x4 2)) + 100000))], [.int 4, .int x4, .ref 0, .int (F_X6_of st x4 5)], st)) rfl ?_
                refine xr_callV gd_L_spans gd_X6_of k_L_16 rfl (c_X6_of (d + 0) st x4 4 (by first | exact hds.2 | (simp only [xs_u_72, f1_best, f1_end, f1_fewest, f1_share, f1_mean, f1_allowing, f1_overlap, f1_widerIn, f13_read]; exact hds.2) | (simp only [xs_u_72]; exact f13_dial hds))) (by omega) rfl rfl rfl rfl rfl ?_
                refine xs_fun ?_
                refine xr_br gd_L_spans rfl rfl (fun h9 => ?_) (fun h9 => ?_)
                · refine xr_blk gd_L_spans 2 (c' := (7, [(0, .ref 0), (1, .ref 72), (2, .int (x2 ||| 0)), (3, .int (x3 ||| ((F_X6_of st x4 6) <<< (x4 &&& 31)))), (4, .int (x4 + 1)), (5, .int (F_X6_of st x4 2)), (6, .int 0), (7, .int 0), (8, .int (((st 72 ((3 * x4).toInt.toNat)) + (F_X6_of st x4 2)) + 100000))], [], st)) rfl ?_
                  refine xs_pk (lv' := [(0, .ref 0), (1, .ref 72), (2, .int (x2 ||| 0)), (3, .int (x3 ||| ((F_X6_of st x4 6) <<< (x4 &&& 31)))), (4, .int (x4 + 1))]) [0, 1, 2, 3, 4] rfl ?_
                  refine xs_cons (ih (x2 ||| 0) (x3 ||| ((F_X6_of st x4 6) <<< (x4 &&& 31))) (x4 + 1) (xs_lo_up hinv h1)) (fun v u hq => ?_)
                  rw [lp_L_spans_7, if_neg h1, if_pos h4, if_neg h5, if_pos h6, if_pos h7, if_pos h8, if_pos h9]; exact hq
                · refine xr_blk gd_L_spans 1 (c' := (281, [(0, .ref 0), (1, .ref 72), (2, .int (x2 ||| 0)), (3, .int (x3 ||| ((F_X6_of st x4 6) <<< (x4 &&& 31)))), (4, .int x4), (5, .int (F_X6_of st x4 2)), (6, .int 0), (7, .int 0), (8, .int (((st 72 ((3 * x4).toInt.toNat)) + (F_X6_of st x4 2)) + 100000))], [.int 0], st)) rfl ?_
                  exact xr_zret gd_L_spans rfl rfl rfl ⟨by first | (rw [lp_L_spans_7, if_neg h1, if_pos h4, if_neg h5, if_pos h6, if_pos h7, if_pos h8, if_neg h9]; done) | (rw [lp_L_spans_7, if_neg h1, if_pos h4, if_neg h5, if_pos h6, if_pos h7, if_pos h8, if_neg h9]; rfl), rfl⟩
          · refine xr_blk gd_L_spans 1 (c' := (166, [(0, .ref 0), (1, .ref 72), (2, .int (x2 ||| 0)), (3, .int (x3 ||| ((F_X6_of st x4 6) <<< (x4 &&& 31)))), (4, .int x4), (5, .int (F_X6_of st x4 2)), (6, .int 0)], [.int 0], st)) rfl ?_
            exact xr_zret gd_L_spans rfl rfl rfl ⟨by first | (rw [lp_L_spans_7, if_neg h1, if_pos h4, if_neg h5, if_neg h6]; done) | (rw [lp_L_spans_7, if_neg h1, if_pos h4, if_neg h5, if_neg h6]; rfl), rfl⟩
      · refine xr_blk gd_L_spans 3 (c' := (36, [(0, .ref 0), (1, .ref 72), (2, .int x2), (3, .int x3), (4, .int x4), (5, .int (F_X6_of st x4 2))], [.int 6, .int x4, .ref 0], st)) rfl ?_
        refine xr_callV gd_L_spans gd_X6_of k_L_16 rfl (c_X6_of (d + 0) st x4 6 (by first | exact hds.2 | (simp only [xs_u_72, f1_best, f1_end, f1_fewest, f1_share, f1_mean, f1_allowing, f1_overlap, f1_widerIn, f13_read]; exact hds.2) | (simp only [xs_u_72]; exact f13_dial hds))) (by omega) rfl rfl rfl rfl rfl ?_
        refine xs_fun ?_
        refine xr_br gd_L_spans rfl rfl (fun h10 => ?_) (fun h10 => ?_)
        · refine xr_blk gd_L_spans 4 (c' := (52, [(0, .ref 0), (1, .ref 72), (2, .int x2), (3, .int x3), (4, .int x4), (5, .int (F_X6_of st x4 2)), (6, .int 0)], [.int 0, .int x2], st)) rfl ?_
          refine xr_br gd_L_spans rfl rfl (fun _ => ?_) (fun h => absurd h (by decide))
          refine xr_blk gd_L_spans 7 (c' := (71, [(0, .ref 0), (1, .ref 72), (2, .int (x2 ||| 0)), (3, .int x3), (4, .int x4), (5, .int (F_X6_of st x4 2)), (6, .int 0)], [.int 6, .int x4, .ref 0, .int x3], st)) rfl ?_
          refine xr_callV gd_L_spans gd_X6_of k_L_16 rfl (c_X6_of (d + 0) st x4 6 (by first | exact hds.2 | (simp only [xs_u_72, f1_best, f1_end, f1_fewest, f1_share, f1_mean, f1_allowing, f1_overlap, f1_widerIn, f13_read]; exact hds.2) | (simp only [xs_u_72]; exact f13_dial hds))) (by omega) rfl rfl rfl rfl rfl ?_
          refine xs_fun ?_
          refine xr_blk gd_L_spans 5 (c' := (81, [(0, .ref 0), (1, .ref 72), (2, .int (x2 ||| 0)), (3, .int (x3 ||| ((F_X6_of st x4 6) <<< (x4 &&& 31)))), (4, .int x4), (5, .int (F_X6_of st x4 2)), (6, .int 0)], [.int (F_X6_of st x4 2)], st)) rfl ?_
          refine xr_br gd_L_spans rfl rfl (fun _ => ?_) (fun h => (xi_nb h4 h).elim)
          refine xr_blk gd_L_spans 5 (c' := (94, [(0, .ref 0), (1, .ref 72), (2, .int (x2 ||| 0)), (3, .int (x3 ||| ((F_X6_of st x4 6) <<< (x4 &&& 31)))), (4, .int x4), (5, .int (F_X6_of st x4 2)), (6, .int 0)], [.int (3 * x4), .ref 72, .int 0], st)) rfl ?_
          refine xr_iald gd_L_spans rfl rfl ((3 * x4).toInt.toNat) (xs_h1 (n := 45) (ix3 (cnt1_i hds hinv h1)).1) (xs_h2 (n := 45) (ix3 (cnt1_i hds hinv h1)).1) ?_
          refine xr_br gd_L_spans rfl rfl (fun h11 => ?_) (fun h11 => ?_)
          · refine xr_blk gd_L_spans 1 (c' := (103, [(0, .ref 0), (1, .ref 72), (2, .int (x2 ||| 0)), (3, .int (x3 ||| ((F_X6_of st x4 6) <<< (x4 &&& 31)))), (4, .int x4), (5, .int (F_X6_of st x4 2)), (6, .int 0)], [.int 0, .int 0], st)) rfl ?_
            refine xr_br gd_L_spans rfl rfl (fun h => absurd h (by decide)) (fun _ => ?_)
            refine xr_blk gd_L_spans 1 (c' := (108, [(0, .ref 0), (1, .ref 72), (2, .int (x2 ||| 0)), (3, .int (x3 ||| ((F_X6_of st x4 6) <<< (x4 &&& 31)))), (4, .int x4), (5, .int (F_X6_of st x4 2)), (6, .int 0)], [.int (F_X6_of st x4 2)], st)) rfl ?_
            refine xr_br gd_L_spans rfl rfl (fun h => (h4 h).elim) (fun _ => ?_)
            refine xr_blk gd_L_spans 3 (c' := (115, [(0, .ref 0), (1, .ref 72), (2, .int (x2 ||| 0)), (3, .int (x3 ||| ((F_X6_of st x4 6) <<< (x4 &&& 31)))), (4, .int x4), (5, .int (F_X6_of st x4 2)), (6, .int 0)], [.int 0, .ref 0, .int (F_X6_of st x4 2)], st)) rfl ?_
            refine xr_callV gd_L_spans gd_X6_count k_L_22 rfl (c_X6_count (d + 2) st 0) (by omega) rfl rfl rfl rfl rfl ?_
            refine xs_fun ?_
            refine xr_blk gd_L_spans 6 (c' := (125, [(0, .ref 0), (1, .ref 72), (2, .int (x2 ||| 0)), (3, .int (x3 ||| ((F_X6_of st x4 6) <<< (x4 &&& 31)))), (4, .int x4), (5, .int (F_X6_of st x4 2)), (6, .int 0)], [.int ((3 * x4) + 2), .ref 72, .int (F_X6_count st 0), .int (F_X6_of st x4 2)], st)) rfl ?_
            refine xr_iald gd_L_spans rfl rfl (((3 * x4) + 2).toInt.toNat) (xs_h1 (n := 45) (ix3 (cnt1_i hds hinv h1)).2.2) (xs_h2 (n := 45) (ix3 (cnt1_i hds hinv h1)).2.2) ?_
            refine xr_blk gd_L_spans 1 (c' := (127, [(0, .ref 0), (1, .ref 72), (2, .int (x2 ||| 0)), (3, .int (x3 ||| ((F_X6_of st x4 6) <<< (x4 &&& 31)))), (4, .int x4), (5, .int (F_X6_of st x4 2)), (6, .int 0)], [.int ((F_X6_count st 0) - (st 72 (((3 * x4) + 2).toInt.toNat))), .int (F_X6_of st x4 2)], st)) rfl ?_
            refine xr_br gd_L_spans rfl rfl (fun h12 => ?_) (fun h12 => ?_)
            · refine xr_blk gd_L_spans 1 (c' := (166, [(0, .ref 0), (1, .ref 72), (2, .int (x2 ||| 0)), (3, .int (x3 ||| ((F_X6_of st x4 6) <<< (x4 &&& 31)))), (4, .int x4), (5, .int (F_X6_of st x4 2)), (6, .int 0)], [.int 0], st)) rfl ?_
              exact xr_zret gd_L_spans rfl rfl rfl ⟨by first | (rw [lp_L_spans_7, if_neg h1, if_neg h4, if_neg h10, if_pos h11, if_neg h12]; done) | (rw [lp_L_spans_7, if_neg h1, if_neg h4, if_neg h10, if_pos h11, if_neg h12]; rfl), rfl⟩
            · refine xr_blk gd_L_spans 3 (c' := (134, [(0, .ref 0), (1, .ref 72), (2, .int (x2 ||| 0)), (3, .int (x3 ||| ((F_X6_of st x4 6) <<< (x4 &&& 31)))), (4, .int x4), (5, .int (F_X6_of st x4 2)), (6, .int 0)], [.int 3, .int x4, .ref 0], st)) rfl ?_
              refine xr_callV gd_L_spans gd_X6_of k_L_16 rfl (c_X6_of (d + 0) st x4 3 (by first | exact hds.2 | (simp only [xs_u_72, f1_best, f1_end, f1_fewest, f1_share, f1_mean, f1_allowing, f1_overlap, f1_widerIn, f13_read]; exact hds.2) | (simp only [xs_u_72]; exact f13_dial hds))) (by omega) rfl rfl rfl rfl rfl ?_
              refine xs_fun ?_
              refine xr_blk gd_L_spans 6 (c' := (144, [(0, .ref 0), (1, .ref 72), (2, .int (x2 ||| 0)), (3, .int (x3 ||| ((F_X6_of st x4 6) <<< (x4 &&& 31)))), (4, .int x4), (5, .int (F_X6_of st x4 2)), (6, .int 0)], [.int ((3 * x4) + 1), .ref 72, .int (F_X6_of st x4 3)], st)) rfl ?_
              refine xr_iald gd_L_spans rfl rfl (((3 * x4) + 1).toInt.toNat) (xs_h1 (n := 45) (ix3 (cnt1_i hds hinv h1)).2.1) (xs_h2 (n := 45) (ix3 (cnt1_i hds hinv h1)).2.1) ?_
              refine xr_br gd_L_spans rfl rfl (fun h13 => ?_) (fun h13 => ?_)
              · refine xr_blk gd_L_spans 1 (c' := (166, [(0, .ref 0), (1, .ref 72), (2, .int (x2 ||| 0)), (3, .int (x3 ||| ((F_X6_of st x4 6) <<< (x4 &&& 31)))), (4, .int x4), (5, .int (F_X6_of st x4 2)), (6, .int 0)], [.int 0], st)) rfl ?_
                exact xr_zret gd_L_spans rfl rfl rfl ⟨by first | (rw [lp_L_spans_7, if_neg h1, if_neg h4, if_neg h10, if_pos h11, if_pos h12, if_neg h13]; done) | (rw [lp_L_spans_7, if_neg h1, if_neg h4, if_neg h10, if_pos h11, if_pos h12, if_neg h13]; rfl), rfl⟩
              · refine xr_blk gd_L_spans 1 (c' := (150, [(0, .ref 0), (1, .ref 72), (2, .int (x2 ||| 0)), (3, .int (x3 ||| ((F_X6_of st x4 6) <<< (x4 &&& 31)))), (4, .int x4), (5, .int (F_X6_of st x4 2)), (6, .int 0)], [.int (F_X6_of st x4 2)], st)) rfl ?_
                refine xr_br gd_L_spans rfl rfl (fun _ => ?_) (fun h => (xi_nb h4 h).elim)
                refine xr_blk gd_L_spans 1 (c' := (169, [(0, .ref 0), (1, .ref 72), (2, .int (x2 ||| 0)), (3, .int (x3 ||| ((F_X6_of st x4 6) <<< (x4 &&& 31)))), (4, .int x4), (5, .int (F_X6_of st x4 2)), (6, .int 0)], [.int 0], st)) rfl ?_
                refine xr_br gd_L_spans rfl rfl (fun _ => ?_) (fun h => absurd h (by decide))
                refine xr_blk gd_L_spans 6 (c' := (204, [(0, .ref 0), (1, .ref 72), (2, .int (x2 ||| 0)), (3, .int (x3 ||| ((F_X6_of st x4 6) <<< (x4 &&& 31)))), (4, .int x4), (5, .int (F_X6_of st x4 2)), (6, .int 0), (7, .int 0)], [.int (3 * x4), .ref 72], st)) rfl ?_
                refine xr_iald gd_L_spans rfl rfl ((3 * x4).toInt.toNat) (xs_h1 (n := 45) (ix3 (cnt1_i hds hinv h1)).1) (xs_h2 (n := 45) (ix3 (cnt1_i hds hinv h1)).1) ?_
                refine xr_blk gd_L_spans 8 (c' := (217, [(0, .ref 0), (1, .ref 72), (2, .int (x2 ||| 0)), (3, .int (x3 ||| ((F_X6_of st x4 6) <<< (x4 &&& 31)))), (4, .int x4), (5, .int (F_X6_of st x4 2)), (6, .int 0), (7, .int 0), (8, .int (((st 72 ((3 * x4).toInt.toNat)) + (F_X6_of st x4 2)) + 100000))], [.int 0, .int x4, .ref 0], st)) rfl ?_
                refine xr_callV gd_L_spans gd_X6_of k_L_16 rfl (c_X6_of (d + 0) st x4 0 (by first | exact hds.2 | (simp only [xs_u_72, f1_best, f1_end, f1_fewest, f1_share, f1_mean, f1_allowing, f1_overlap, f1_widerIn, f13_read]; exact hds.2) | (simp only [xs_u_72]; exact f13_dial hds))) (by omega) rfl rfl rfl rfl rfl ?_
                refine xs_fun ?_
                refine xr_blk gd_L_spans 1 (c' := (222, [(0, .ref 0), (1, .ref 72), (2, .int (x2 ||| 0)), (3, .int (x3 ||| ((F_X6_of st x4 6) <<< (x4 &&& 31)))), (4, .int x4), (5, .int (F_X6_of st x4 2)), (6, .int 0), (7, .int 0), (8, .int (((st 72 ((3 * x4).toInt.toNat)) + (F_X6_of st x4 2)) + 100000))], [.int 0, .int (F_X6_of st x4 0)], st)) rfl ?_
                refine xr_br gd_L_spans rfl rfl (fun _ => ?_) (fun h => absurd h (by decide))
                refine xr_blk gd_L_spans 1 (c' := (235, [(0, .ref 0), (1, .ref 72), (2, .int (x2 ||| 0)), (3, .int (x3 ||| ((F_X6_of st x4 6) <<< (x4 &&& 31)))), (4, .int x4), (5, .int (F_X6_of st x4 2)), (6, .int 0), (7, .int 0), (8, .int (((st 72 ((3 * x4).toInt.toNat)) + (F_X6_of st x4 2)) + 100000))], [.int (-6), .int (F_X6_of st x4 0)], st)) rfl ?_
                refine xr_br gd_L_spans rfl rfl (fun h14 => ?_) (fun h14 => ?_)
                · refine xr_blk gd_L_spans 1 (c' := (281, [(0, .ref 0), (1, .ref 72), (2, .int (x2 ||| 0)), (3, .int (x3 ||| ((F_X6_of st x4 6) <<< (x4 &&& 31)))), (4, .int x4), (5, .int (F_X6_of st x4 2)), (6, .int 0), (7, .int 0), (8, .int (((st 72 ((3 * x4).toInt.toNat)) + (F_X6_of st x4 2)) + 100000))], [.int 0], st)) rfl ?_
                  exact xr_zret gd_L_spans rfl rfl rfl ⟨by first | (rw [lp_L_spans_7, if_neg h1, if_neg h4, if_neg h10, if_pos h11, if_pos h12, if_pos h13, if_neg h14]; done) | (rw [lp_L_spans_7, if_neg h1, if_neg h4, if_neg h10, if_pos h11, if_pos h12, if_pos h13, if_neg h14]; rfl), rfl⟩
                · refine xr_blk gd_L_spans 3 (c' := (242, [(0, .ref 0), (1, .ref 72), (2, .int (x2 ||| 0)), (3, .int (x3 ||| ((F_X6_of st x4 6) <<< (x4 &&& 31)))), (4, .int x4), (5, .int (F_X6_of st x4 2)), (6, .int 0), (7, .int 0), (8, .int (((st 72 ((3 * x4).toInt.toNat)) + (F_X6_of st x4 2)) + 100000))], [.int 1, .int x4, .ref 0], st)) rfl ?_
                  refine xr_callV gd_L_spans gd_X6_of k_L_16 rfl (c_X6_of (d + 0) st x4 1 (by first | exact hds.2 | (simp only [xs_u_72, f1_best, f1_end, f1_fewest, f1_share, f1_mean, f1_allowing, f1_overlap, f1_widerIn, f13_read]; exact hds.2) | (simp only [xs_u_72]; exact f13_dial hds))) (by omega) rfl rfl rfl rfl rfl ?_
                  refine xs_fun ?_
                  refine xr_blk gd_L_spans 1 (c' := (247, [(0, .ref 0), (1, .ref 72), (2, .int (x2 ||| 0)), (3, .int (x3 ||| ((F_X6_of st x4 6) <<< (x4 &&& 31)))), (4, .int x4), (5, .int (F_X6_of st x4 2)), (6, .int 0), (7, .int 0), (8, .int (((st 72 ((3 * x4).toInt.toNat)) + (F_X6_of st x4 2)) + 100000))], [.int 0, .int (F_X6_of st x4 1)], st)) rfl ?_
                  refine xr_br gd_L_spans rfl rfl (fun _ => ?_) (fun h => absurd h (by decide))
                  refine xr_blk gd_L_spans 1 (c' := (260, [(0, .ref 0), (1, .ref 72), (2, .int (x2 ||| 0)), (3, .int (x3 ||| ((F_X6_of st x4 6) <<< (x4 &&& 31)))), (4, .int x4), (5, .int (F_X6_of st x4 2)), (6, .int 0), (7, .int 0), (8, .int (((st 72 ((3 * x4).toInt.toNat)) + (F_X6_of st x4 2)) + 100000))], [.int (-6), .int (F_X6_of st x4 1)], st)) rfl ?_
                  refine xr_br gd_L_spans rfl rfl (fun h15 => ?_) (fun h15 => ?_)
                  · refine xr_blk gd_L_spans 1 (c' := (281, [(0, .ref 0), (1, .ref 72), (2, .int (x2 ||| 0)), (3, .int (x3 ||| ((F_X6_of st x4 6) <<< (x4 &&& 31)))), (4, .int x4), (5, .int (F_X6_of st x4 2)), (6, .int 0), (7, .int 0), (8, .int (((st 72 ((3 * x4).toInt.toNat)) + (F_X6_of st x4 2)) + 100000))], [.int 0], st)) rfl ?_
                    exact xr_zret gd_L_spans rfl rfl rfl ⟨by first | (rw [lp_L_spans_7, if_neg h1, if_neg h4, if_neg h10, if_pos h11, if_pos h12, if_pos h13, if_pos h14, if_neg h15]; done) | (rw [lp_L_spans_7, if_neg h1, if_neg h4, if_neg h10, if_pos h11, if_pos h12, if_pos h13, if_pos h14, if_neg h15]; rfl), rfl⟩
                  · refine xr_blk gd_L_spans 3 (c' := (267, [(0, .ref 0), (1, .ref 72), (2, .int (x2 ||| 0)), (3, .int (x3 ||| ((F_X6_of st x4 6) <<< (x4 &&& 31)))), (4, .int x4), (5, .int (F_X6_of st x4 2)), (6, .int 0), (7, .int 0), (8, .int (((st 72 ((3 * x4).toInt.toNat)) + (F_X6_of st x4 2)) + 100000))], [.int 5, .int x4, .ref 0], st)) rfl ?_
                    refine xr_callV gd_L_spans gd_X6_of k_L_16 rfl (c_X6_of (d + 0) st x4 5 (by first | exact hds.2 | (simp only [xs_u_72, f1_best, f1_end, f1_fewest, f1_share, f1_mean, f1_allowing, f1_overlap, f1_widerIn, f13_read]; exact hds.2) | (simp only [xs_u_72]; exact f13_dial hds))) (by omega) rfl rfl rfl rfl rfl ?_
                    refine xs_fun ?_
                    refine xr_blk gd_L_spans 3 (c' := (274, [(0, .ref 0), (1, .ref 72), (2, .int (x2 ||| 0)), (3, .int (x3 ||| ((F_X6_of st x4 6) <<< (x4 &&& 31)))), (4, .int x4), (5, .int (F_X6_of st x4 2)), (6, .int 0), (7, .int 0), (8, .int (((st 72 ((3 * x4).toInt.toNat)) + (F_X6_of st x4 2)) + 100000))], [.int 4, .int x4, .ref 0, .int (F_X6_of st x4 5)], st)) rfl ?_
                    refine xr_callV gd_L_spans gd_X6_of k_L_16 rfl (c_X6_of (d + 0) st x4 4 (by first | exact hds.2 | (simp only [xs_u_72, f1_best, f1_end, f1_fewest, f1_share, f1_mean, f1_allowing, f1_overlap, f1_widerIn, f13_read]; exact hds.2) | (simp only [xs_u_72]; exact f13_dial hds))) (by omega) rfl rfl rfl rfl rfl ?_
                    refine xs_fun ?_
                    refine xr_br gd_L_spans rfl rfl (fun h16 => ?_) (fun h16 => ?_)
                    · refine xr_blk gd_L_spans 2 (c' := (7, [(0, .ref 0), (1, .ref 72), (2, .int (x2 ||| 0)), (3, .int (x3 ||| ((F_X6_of st x4 6) <<< (x4 &&& 31)))), (4, .int (x4 + 1)), (5, .int (F_X6_of st x4 2)), (6, .int 0), (7, .int 0), (8, .int (((st 72 ((3 * x4).toInt.toNat)) + (F_X6_of st x4 2)) + 100000))], [], st)) rfl ?_
                      refine xs_pk (lv' := [(0, .ref 0), (1, .ref 72), (2, .int (x2 ||| 0)), (3, .int (x3 ||| ((F_X6_of st x4 6) <<< (x4 &&& 31)))), (4, .int (x4 + 1))]) [0, 1, 2, 3, 4] rfl ?_
                      refine xs_cons (ih (x2 ||| 0) (x3 ||| ((F_X6_of st x4 6) <<< (x4 &&& 31))) (x4 + 1) (xs_lo_up hinv h1)) (fun v u hq => ?_)
                      rw [lp_L_spans_7, if_neg h1, if_neg h4, if_neg h10, if_pos h11, if_pos h12, if_pos h13, if_pos h14, if_pos h15, if_pos h16]; exact hq
                    · refine xr_blk gd_L_spans 1 (c' := (281, [(0, .ref 0), (1, .ref 72), (2, .int (x2 ||| 0)), (3, .int (x3 ||| ((F_X6_of st x4 6) <<< (x4 &&& 31)))), (4, .int x4), (5, .int (F_X6_of st x4 2)), (6, .int 0), (7, .int 0), (8, .int (((st 72 ((3 * x4).toInt.toNat)) + (F_X6_of st x4 2)) + 100000))], [.int 0], st)) rfl ?_
                      exact xr_zret gd_L_spans rfl rfl rfl ⟨by first | (rw [lp_L_spans_7, if_neg h1, if_neg h4, if_neg h10, if_pos h11, if_pos h12, if_pos h13, if_pos h14, if_pos h15, if_neg h16]; done) | (rw [lp_L_spans_7, if_neg h1, if_neg h4, if_neg h10, if_pos h11, if_pos h12, if_pos h13, if_pos h14, if_pos h15, if_neg h16]; rfl), rfl⟩
          · refine xr_blk gd_L_spans 2 (c' := (103, [(0, .ref 0), (1, .ref 72), (2, .int (x2 ||| 0)), (3, .int (x3 ||| ((F_X6_of st x4 6) <<< (x4 &&& 31)))), (4, .int x4), (5, .int (F_X6_of st x4 2)), (6, .int 0)], [.int 1, .int 0], st)) rfl ?_
            refine xr_br gd_L_spans rfl rfl (fun _ => ?_) (fun h => absurd h (by decide))
            refine xr_blk gd_L_spans 1 (c' := (166, [(0, .ref 0), (1, .ref 72), (2, .int (x2 ||| 0)), (3, .int (x3 ||| ((F_X6_of st x4 6) <<< (x4 &&& 31)))), (4, .int x4), (5, .int (F_X6_of st x4 2)), (6, .int 0)], [.int 0], st)) rfl ?_
            exact xr_zret gd_L_spans rfl rfl rfl ⟨by first | (rw [lp_L_spans_7, if_neg h1, if_neg h4, if_neg h10, if_neg h11]; done) | (rw [lp_L_spans_7, if_neg h1, if_neg h4, if_neg h10, if_neg h11]; rfl), rfl⟩
        · refine xr_blk gd_L_spans 5 (c' := (52, [(0, .ref 0), (1, .ref 72), (2, .int x2), (3, .int x3), (4, .int x4), (5, .int (F_X6_of st x4 2)), (6, .int 1)], [.int 1, .int x2], st)) rfl ?_
          refine xr_br gd_L_spans rfl rfl (fun h => absurd h (by decide)) (fun _ => ?_)
          refine xr_blk gd_L_spans 10 (c' := (71, [(0, .ref 0), (1, .ref 72), (2, .int (x2 ||| (1 <<< (x4 &&& 31)))), (3, .int x3), (4, .int x4), (5, .int (F_X6_of st x4 2)), (6, .int 1)], [.int 6, .int x4, .ref 0, .int x3], st)) rfl ?_
          refine xr_callV gd_L_spans gd_X6_of k_L_16 rfl (c_X6_of (d + 0) st x4 6 (by first | exact hds.2 | (simp only [xs_u_72, f1_best, f1_end, f1_fewest, f1_share, f1_mean, f1_allowing, f1_overlap, f1_widerIn, f13_read]; exact hds.2) | (simp only [xs_u_72]; exact f13_dial hds))) (by omega) rfl rfl rfl rfl rfl ?_
          refine xs_fun ?_
          refine xr_blk gd_L_spans 5 (c' := (81, [(0, .ref 0), (1, .ref 72), (2, .int (x2 ||| (1 <<< (x4 &&& 31)))), (3, .int (x3 ||| ((F_X6_of st x4 6) <<< (x4 &&& 31)))), (4, .int x4), (5, .int (F_X6_of st x4 2)), (6, .int 1)], [.int (F_X6_of st x4 2)], st)) rfl ?_
          refine xr_br gd_L_spans rfl rfl (fun _ => ?_) (fun h => (xi_nb h4 h).elim)
          refine xr_blk gd_L_spans 5 (c' := (94, [(0, .ref 0), (1, .ref 72), (2, .int (x2 ||| (1 <<< (x4 &&& 31)))), (3, .int (x3 ||| ((F_X6_of st x4 6) <<< (x4 &&& 31)))), (4, .int x4), (5, .int (F_X6_of st x4 2)), (6, .int 1)], [.int (3 * x4), .ref 72, .int 0], st)) rfl ?_
          refine xr_iald gd_L_spans rfl rfl ((3 * x4).toInt.toNat) (xs_h1 (n := 45) (ix3 (cnt1_i hds hinv h1)).1) (xs_h2 (n := 45) (ix3 (cnt1_i hds hinv h1)).1) ?_
          refine xr_br gd_L_spans rfl rfl (fun h17 => ?_) (fun h17 => ?_)
          · refine xr_blk gd_L_spans 1 (c' := (103, [(0, .ref 0), (1, .ref 72), (2, .int (x2 ||| (1 <<< (x4 &&& 31)))), (3, .int (x3 ||| ((F_X6_of st x4 6) <<< (x4 &&& 31)))), (4, .int x4), (5, .int (F_X6_of st x4 2)), (6, .int 1)], [.int 0, .int 0], st)) rfl ?_
            refine xr_br gd_L_spans rfl rfl (fun h => absurd h (by decide)) (fun _ => ?_)
            refine xr_blk gd_L_spans 1 (c' := (108, [(0, .ref 0), (1, .ref 72), (2, .int (x2 ||| (1 <<< (x4 &&& 31)))), (3, .int (x3 ||| ((F_X6_of st x4 6) <<< (x4 &&& 31)))), (4, .int x4), (5, .int (F_X6_of st x4 2)), (6, .int 1)], [.int (F_X6_of st x4 2)], st)) rfl ?_
            refine xr_br gd_L_spans rfl rfl (fun h => (h4 h).elim) (fun _ => ?_)
            refine xr_blk gd_L_spans 3 (c' := (115, [(0, .ref 0), (1, .ref 72), (2, .int (x2 ||| (1 <<< (x4 &&& 31)))), (3, .int (x3 ||| ((F_X6_of st x4 6) <<< (x4 &&& 31)))), (4, .int x4), (5, .int (F_X6_of st x4 2)), (6, .int 1)], [.int 0, .ref 0, .int (F_X6_of st x4 2)], st)) rfl ?_
            refine xr_callV gd_L_spans gd_X6_count k_L_22 rfl (c_X6_count (d + 2) st 0) (by omega) rfl rfl rfl rfl rfl ?_
            refine xs_fun ?_
            refine xr_blk gd_L_spans 6 (c' := (125, [(0, .ref 0), (1, .ref 72), (2, .int (x2 ||| (1 <<< (x4 &&& 31)))), (3, .int (x3 ||| ((F_X6_of st x4 6) <<< (x4 &&& 31)))), (4, .int x4), (5, .int (F_X6_of st x4 2)), (6, .int 1)], [.int ((3 * x4) + 2), .ref 72, .int (F_X6_count st 0), .int (F_X6_of st x4 2)], st)) rfl ?_
            refine xr_iald gd_L_spans rfl rfl (((3 * x4) + 2).toInt.toNat) (xs_h1 (n := 45) (ix3 (cnt1_i hds hinv h1)).2.2) (xs_h2 (n := 45) (ix3 (cnt1_i hds hinv h1)).2.2) ?_
            refine xr_blk gd_L_spans 1 (c' := (127, [(0, .ref 0), (1, .ref 72), (2, .int (x2 ||| (1 <<< (x4 &&& 31)))), (3, .int (x3 ||| ((F_X6_of st x4 6) <<< (x4 &&& 31)))), (4, .int x4), (5, .int (F_X6_of st x4 2)), (6, .int 1)], [.int ((F_X6_count st 0) - (st 72 (((3 * x4) + 2).toInt.toNat))), .int (F_X6_of st x4 2)], st)) rfl ?_
            refine xr_br gd_L_spans rfl rfl (fun h18 => ?_) (fun h18 => ?_)
            · refine xr_blk gd_L_spans 1 (c' := (166, [(0, .ref 0), (1, .ref 72), (2, .int (x2 ||| (1 <<< (x4 &&& 31)))), (3, .int (x3 ||| ((F_X6_of st x4 6) <<< (x4 &&& 31)))), (4, .int x4), (5, .int (F_X6_of st x4 2)), (6, .int 1)], [.int 0], st)) rfl ?_
              exact xr_zret gd_L_spans rfl rfl rfl ⟨by first | (rw [lp_L_spans_7, if_neg h1, if_neg h4, if_pos h10, if_pos h17, if_neg h18]; done) | (rw [lp_L_spans_7, if_neg h1, if_neg h4, if_pos h10, if_pos h17, if_neg h18]; rfl), rfl⟩
            · refine xr_blk gd_L_spans 3 (c' := (134, [(0, .ref 0), (1, .ref 72), (2, .int (x2 ||| (1 <<< (x4 &&& 31)))), (3, .int (x3 ||| ((F_X6_of st x4 6) <<< (x4 &&& 31)))), (4, .int x4), (5, .int (F_X6_of st x4 2)), (6, .int 1)], [.int 3, .int x4, .ref 0], st)) rfl ?_
              refine xr_callV gd_L_spans gd_X6_of k_L_16 rfl (c_X6_of (d + 0) st x4 3 (by first | exact hds.2 | (simp only [xs_u_72, f1_best, f1_end, f1_fewest, f1_share, f1_mean, f1_allowing, f1_overlap, f1_widerIn, f13_read]; exact hds.2) | (simp only [xs_u_72]; exact f13_dial hds))) (by omega) rfl rfl rfl rfl rfl ?_
              refine xs_fun ?_
              refine xr_blk gd_L_spans 6 (c' := (144, [(0, .ref 0), (1, .ref 72), (2, .int (x2 ||| (1 <<< (x4 &&& 31)))), (3, .int (x3 ||| ((F_X6_of st x4 6) <<< (x4 &&& 31)))), (4, .int x4), (5, .int (F_X6_of st x4 2)), (6, .int 1)], [.int ((3 * x4) + 1), .ref 72, .int (F_X6_of st x4 3)], st)) rfl ?_
              refine xr_iald gd_L_spans rfl rfl (((3 * x4) + 1).toInt.toNat) (xs_h1 (n := 45) (ix3 (cnt1_i hds hinv h1)).2.1) (xs_h2 (n := 45) (ix3 (cnt1_i hds hinv h1)).2.1) ?_
              refine xr_br gd_L_spans rfl rfl (fun h19 => ?_) (fun h19 => ?_)
              · refine xr_blk gd_L_spans 1 (c' := (166, [(0, .ref 0), (1, .ref 72), (2, .int (x2 ||| (1 <<< (x4 &&& 31)))), (3, .int (x3 ||| ((F_X6_of st x4 6) <<< (x4 &&& 31)))), (4, .int x4), (5, .int (F_X6_of st x4 2)), (6, .int 1)], [.int 0], st)) rfl ?_
                exact xr_zret gd_L_spans rfl rfl rfl ⟨by first | (rw [lp_L_spans_7, if_neg h1, if_neg h4, if_pos h10, if_pos h17, if_pos h18, if_neg h19]; done) | (rw [lp_L_spans_7, if_neg h1, if_neg h4, if_pos h10, if_pos h17, if_pos h18, if_neg h19]; rfl), rfl⟩
              · refine xr_blk gd_L_spans 1 (c' := (150, [(0, .ref 0), (1, .ref 72), (2, .int (x2 ||| (1 <<< (x4 &&& 31)))), (3, .int (x3 ||| ((F_X6_of st x4 6) <<< (x4 &&& 31)))), (4, .int x4), (5, .int (F_X6_of st x4 2)), (6, .int 1)], [.int (F_X6_of st x4 2)], st)) rfl ?_
                refine xr_br gd_L_spans rfl rfl (fun _ => ?_) (fun h => (xi_nb h4 h).elim)
                refine xr_blk gd_L_spans 1 (c' := (169, [(0, .ref 0), (1, .ref 72), (2, .int (x2 ||| (1 <<< (x4 &&& 31)))), (3, .int (x3 ||| ((F_X6_of st x4 6) <<< (x4 &&& 31)))), (4, .int x4), (5, .int (F_X6_of st x4 2)), (6, .int 1)], [.int 1], st)) rfl ?_
                refine xr_br gd_L_spans rfl rfl (fun h => absurd h (by decide)) (fun _ => ?_)
                refine xr_blk gd_L_spans 6 (c' := (179, [(0, .ref 0), (1, .ref 72), (2, .int (x2 ||| (1 <<< (x4 &&& 31)))), (3, .int (x3 ||| ((F_X6_of st x4 6) <<< (x4 &&& 31)))), (4, .int x4), (5, .int (F_X6_of st x4 2)), (6, .int 1)], [.int ((3 * x4) + 1), .ref 72], st)) rfl ?_
                refine xr_iald gd_L_spans rfl rfl (((3 * x4) + 1).toInt.toNat) (xs_h1 (n := 45) (ix3 (cnt1_i hds hinv h1)).2.1) (xs_h2 (n := 45) (ix3 (cnt1_i hds hinv h1)).2.1) ?_
                refine xr_blk gd_L_spans 2 (c' := (183, [(0, .ref 0), (1, .ref 72), (2, .int (x2 ||| (1 <<< (x4 &&& 31)))), (3, .int (x3 ||| ((F_X6_of st x4 6) <<< (x4 &&& 31)))), (4, .int x4), (5, .int (F_X6_of st x4 2)), (6, .int 1)], [.int 6, .ref 0, .int (st 72 (((3 * x4) + 1).toInt.toNat))], st)) rfl ?_
                refine xr_callV gd_L_spans gd_X6_count k_L_22 rfl (c_X6_count (d + 2) st 6) (by omega) rfl rfl rfl rfl rfl ?_
                refine xs_fun ?_
                refine xr_blk gd_L_spans 2 (c' := (190, [(0, .ref 0), (1, .ref 72), (2, .int (x2 ||| (1 <<< (x4 &&& 31)))), (3, .int (x3 ||| ((F_X6_of st x4 6) <<< (x4 &&& 31)))), (4, .int x4), (5, .int (F_X6_of st x4 2)), (6, .int 1)], [.int 60, .int (F_X6_of st x4 2), .int (F_X6_count st 6), .int (st 72 (((3 * x4) + 1).toInt.toNat))], st)) rfl ?_
                refine xr_idiv gd_L_spans.1 rfl (by decide) ?_
                refine xr_blk gd_L_spans 8 (c' := (204, [(0, .ref 0), (1, .ref 72), (2, .int (x2 ||| (1 <<< (x4 &&& 31)))), (3, .int (x3 ||| ((F_X6_of st x4 6) <<< (x4 &&& 31)))), (4, .int x4), (5, .int (F_X6_of st x4 2)), (6, .int 1), (7, .int ((st 72 (((3 * x4) + 1).toInt.toNat)) + ((F_X6_count st 6) * ((F_X6_of st x4 2) / 60))))], [.int (3 * x4), .ref 72], st)) rfl ?_
                refine xr_iald gd_L_spans rfl rfl ((3 * x4).toInt.toNat) (xs_h1 (n := 45) (ix3 (cnt1_i hds hinv h1)).1) (xs_h2 (n := 45) (ix3 (cnt1_i hds hinv h1)).1) ?_
                refine xr_blk gd_L_spans 8 (c' := (217, [(0, .ref 0), (1, .ref 72), (2, .int (x2 ||| (1 <<< (x4 &&& 31)))), (3, .int (x3 ||| ((F_X6_of st x4 6) <<< (x4 &&& 31)))), (4, .int x4), (5, .int (F_X6_of st x4 2)), (6, .int 1), (7, .int ((st 72 (((3 * x4) + 1).toInt.toNat)) + ((F_X6_count st 6) * ((F_X6_of st x4 2) / 60)))), (8, .int (((st 72 ((3 * x4).toInt.toNat)) + (F_X6_of st x4 2)) + 100000))], [.int 0, .int x4, .ref 0], st)) rfl ?_
                refine xr_callV gd_L_spans gd_X6_of k_L_16 rfl (c_X6_of (d + 0) st x4 0 (by first | exact hds.2 | (simp only [xs_u_72, f1_best, f1_end, f1_fewest, f1_share, f1_mean, f1_allowing, f1_overlap, f1_widerIn, f13_read]; exact hds.2) | (simp only [xs_u_72]; exact f13_dial hds))) (by omega) rfl rfl rfl rfl rfl ?_
                refine xs_fun ?_
                refine xr_blk gd_L_spans 1 (c' := (222, [(0, .ref 0), (1, .ref 72), (2, .int (x2 ||| (1 <<< (x4 &&& 31)))), (3, .int (x3 ||| ((F_X6_of st x4 6) <<< (x4 &&& 31)))), (4, .int x4), (5, .int (F_X6_of st x4 2)), (6, .int 1), (7, .int ((st 72 (((3 * x4) + 1).toInt.toNat)) + ((F_X6_count st 6) * ((F_X6_of st x4 2) / 60)))), (8, .int (((st 72 ((3 * x4).toInt.toNat)) + (F_X6_of st x4 2)) + 100000))], [.int 1, .int (F_X6_of st x4 0)], st)) rfl ?_
                refine xr_br gd_L_spans rfl rfl (fun h => absurd h (by decide)) (fun _ => ?_)
                refine xr_blk gd_L_spans 4 (c' := (235, [(0, .ref 0), (1, .ref 72), (2, .int (x2 ||| (1 <<< (x4 &&& 31)))), (3, .int (x3 ||| ((F_X6_of st x4 6) <<< (x4 &&& 31)))), (4, .int x4), (5, .int (F_X6_of st x4 2)), (6, .int 1), (7, .int ((st 72 (((3 * x4) + 1).toInt.toNat)) + ((F_X6_count st 6) * ((F_X6_of st x4 2) / 60)))), (8, .int (((st 72 ((3 * x4).toInt.toNat)) + (F_X6_of st x4 2)) + 100000))], [.int ((((st 72 ((3 * x4).toInt.toNat)) + (F_X6_of st x4 2)) + 100000) - ((st 72 (((3 * x4) + 1).toInt.toNat)) + ((F_X6_count st 6) * ((F_X6_of st x4 2) / 60)))), .int (F_X6_of st x4 0)], st)) rfl ?_
                refine xr_br gd_L_spans rfl rfl (fun h20 => ?_) (fun h20 => ?_)
                · refine xr_blk gd_L_spans 1 (c' := (281, [(0, .ref 0), (1, .ref 72), (2, .int (x2 ||| (1 <<< (x4 &&& 31)))), (3, .int (x3 ||| ((F_X6_of st x4 6) <<< (x4 &&& 31)))), (4, .int x4), (5, .int (F_X6_of st x4 2)), (6, .int 1), (7, .int ((st 72 (((3 * x4) + 1).toInt.toNat)) + ((F_X6_count st 6) * ((F_X6_of st x4 2) / 60)))), (8, .int (((st 72 ((3 * x4).toInt.toNat)) + (F_X6_of st x4 2)) + 100000))], [.int 0], st)) rfl ?_
                  exact xr_zret gd_L_spans rfl rfl rfl ⟨by first | (rw [lp_L_spans_7, if_neg h1, if_neg h4, if_pos h10, if_pos h17, if_pos h18, if_pos h19, if_neg h20]; done) | (rw [lp_L_spans_7, if_neg h1, if_neg h4, if_pos h10, if_pos h17, if_pos h18, if_pos h19, if_neg h20]; rfl), rfl⟩
                · refine xr_blk gd_L_spans 3 (c' := (242, [(0, .ref 0), (1, .ref 72), (2, .int (x2 ||| (1 <<< (x4 &&& 31)))), (3, .int (x3 ||| ((F_X6_of st x4 6) <<< (x4 &&& 31)))), (4, .int x4), (5, .int (F_X6_of st x4 2)), (6, .int 1), (7, .int ((st 72 (((3 * x4) + 1).toInt.toNat)) + ((F_X6_count st 6) * ((F_X6_of st x4 2) / 60)))), (8, .int (((st 72 ((3 * x4).toInt.toNat)) + (F_X6_of st x4 2)) + 100000))], [.int 1, .int x4, .ref 0], st)) rfl ?_
                  refine xr_callV gd_L_spans gd_X6_of k_L_16 rfl (c_X6_of (d + 0) st x4 1 (by first | exact hds.2 | (simp only [xs_u_72, f1_best, f1_end, f1_fewest, f1_share, f1_mean, f1_allowing, f1_overlap, f1_widerIn, f13_read]; exact hds.2) | (simp only [xs_u_72]; exact f13_dial hds))) (by omega) rfl rfl rfl rfl rfl ?_
                  refine xs_fun ?_
                  refine xr_blk gd_L_spans 1 (c' := (247, [(0, .ref 0), (1, .ref 72), (2, .int (x2 ||| (1 <<< (x4 &&& 31)))), (3, .int (x3 ||| ((F_X6_of st x4 6) <<< (x4 &&& 31)))), (4, .int x4), (5, .int (F_X6_of st x4 2)), (6, .int 1), (7, .int ((st 72 (((3 * x4) + 1).toInt.toNat)) + ((F_X6_count st 6) * ((F_X6_of st x4 2) / 60)))), (8, .int (((st 72 ((3 * x4).toInt.toNat)) + (F_X6_of st x4 2)) + 100000))], [.int 1, .int (F_X6_of st x4 1)], st)) rfl ?_
                  refine xr_br gd_L_spans rfl rfl (fun h => absurd h (by decide)) (fun _ => ?_)
                  refine xr_blk gd_L_spans 4 (c' := (260, [(0, .ref 0), (1, .ref 72), (2, .int (x2 ||| (1 <<< (x4 &&& 31)))), (3, .int (x3 ||| ((F_X6_of st x4 6) <<< (x4 &&& 31)))), (4, .int x4), (5, .int (F_X6_of st x4 2)), (6, .int 1), (7, .int ((st 72 (((3 * x4) + 1).toInt.toNat)) + ((F_X6_count st 6) * ((F_X6_of st x4 2) / 60)))), (8, .int (((st 72 ((3 * x4).toInt.toNat)) + (F_X6_of st x4 2)) + 100000))], [.int ((((st 72 ((3 * x4).toInt.toNat)) + (F_X6_of st x4 2)) + 100000) + ((st 72 (((3 * x4) + 1).toInt.toNat)) + ((F_X6_count st 6) * ((F_X6_of st x4 2) / 60)))), .int (F_X6_of st x4 1)], st)) rfl ?_
                  refine xr_br gd_L_spans rfl rfl (fun h21 => ?_) (fun h21 => ?_)
                  · refine xr_blk gd_L_spans 1 (c' := (281, [(0, .ref 0), (1, .ref 72), (2, .int (x2 ||| (1 <<< (x4 &&& 31)))), (3, .int (x3 ||| ((F_X6_of st x4 6) <<< (x4 &&& 31)))), (4, .int x4), (5, .int (F_X6_of st x4 2)), (6, .int 1), (7, .int ((st 72 (((3 * x4) + 1).toInt.toNat)) + ((F_X6_count st 6) * ((F_X6_of st x4 2) / 60)))), (8, .int (((st 72 ((3 * x4).toInt.toNat)) + (F_X6_of st x4 2)) + 100000))], [.int 0], st)) rfl ?_
                    exact xr_zret gd_L_spans rfl rfl rfl ⟨by first | (rw [lp_L_spans_7, if_neg h1, if_neg h4, if_pos h10, if_pos h17, if_pos h18, if_pos h19, if_pos h20, if_neg h21]; done) | (rw [lp_L_spans_7, if_neg h1, if_neg h4, if_pos h10, if_pos h17, if_pos h18, if_pos h19, if_pos h20, if_neg h21]; rfl), rfl⟩
                  · refine xr_blk gd_L_spans 3 (c' := (267, [(0, .ref 0), (1, .ref 72), (2, .int (x2 ||| (1 <<< (x4 &&& 31)))), (3, .int (x3 ||| ((F_X6_of st x4 6) <<< (x4 &&& 31)))), (4, .int x4), (5, .int (F_X6_of st x4 2)), (6, .int 1), (7, .int ((st 72 (((3 * x4) + 1).toInt.toNat)) + ((F_X6_count st 6) * ((F_X6_of st x4 2) / 60)))), (8, .int (((st 72 ((3 * x4).toInt.toNat)) + (F_X6_of st x4 2)) + 100000))], [.int 5, .int x4, .ref 0], st)) rfl ?_
                    refine xr_callV gd_L_spans gd_X6_of k_L_16 rfl (c_X6_of (d + 0) st x4 5 (by first | exact hds.2 | (simp only [xs_u_72, f1_best, f1_end, f1_fewest, f1_share, f1_mean, f1_allowing, f1_overlap, f1_widerIn, f13_read]; exact hds.2) | (simp only [xs_u_72]; exact f13_dial hds))) (by omega) rfl rfl rfl rfl rfl ?_
                    refine xs_fun ?_
                    refine xr_blk gd_L_spans 3 (c' := (274, [(0, .ref 0), (1, .ref 72), (2, .int (x2 ||| (1 <<< (x4 &&& 31)))), (3, .int (x3 ||| ((F_X6_of st x4 6) <<< (x4 &&& 31)))), (4, .int x4), (5, .int (F_X6_of st x4 2)), (6, .int 1), (7, .int ((st 72 (((3 * x4) + 1).toInt.toNat)) + ((F_X6_count st 6) * ((F_X6_of st x4 2) / 60)))), (8, .int (((st 72 ((3 * x4).toInt.toNat)) + (F_X6_of st x4 2)) + 100000))], [.int 4, .int x4, .ref 0, .int (F_X6_of st x4 5)], st)) rfl ?_
                    refine xr_callV gd_L_spans gd_X6_of k_L_16 rfl (c_X6_of (d + 0) st x4 4 (by first | exact hds.2 | (simp only [xs_u_72, f1_best, f1_end, f1_fewest, f1_share, f1_mean, f1_allowing, f1_overlap, f1_widerIn, f13_read]; exact hds.2) | (simp only [xs_u_72]; exact f13_dial hds))) (by omega) rfl rfl rfl rfl rfl ?_
                    refine xs_fun ?_
                    refine xr_br gd_L_spans rfl rfl (fun h22 => ?_) (fun h22 => ?_)
                    · refine xr_blk gd_L_spans 2 (c' := (7, [(0, .ref 0), (1, .ref 72), (2, .int (x2 ||| (1 <<< (x4 &&& 31)))), (3, .int (x3 ||| ((F_X6_of st x4 6) <<< (x4 &&& 31)))), (4, .int (x4 + 1)), (5, .int (F_X6_of st x4 2)), (6, .int 1), (7, .int ((st 72 (((3 * x4) + 1).toInt.toNat)) + ((F_X6_count st 6) * ((F_X6_of st x4 2) / 60)))), (8, .int (((st 72 ((3 * x4).toInt.toNat)) + (F_X6_of st x4 2)) + 100000))], [], st)) rfl ?_
                      refine xs_pk (lv' := [(0, .ref 0), (1, .ref 72), (2, .int (x2 ||| (1 <<< (x4 &&& 31)))), (3, .int (x3 ||| ((F_X6_of st x4 6) <<< (x4 &&& 31)))), (4, .int (x4 + 1))]) [0, 1, 2, 3, 4] rfl ?_
                      refine xs_cons (ih (x2 ||| (1 <<< (x4 &&& 31))) (x3 ||| ((F_X6_of st x4 6) <<< (x4 &&& 31))) (x4 + 1) (xs_lo_up hinv h1)) (fun v u hq => ?_)
                      rw [lp_L_spans_7, if_neg h1, if_neg h4, if_pos h10, if_pos h17, if_pos h18, if_pos h19, if_pos h20, if_pos h21, if_pos h22]; exact hq
                    · refine xr_blk gd_L_spans 1 (c' := (281, [(0, .ref 0), (1, .ref 72), (2, .int (x2 ||| (1 <<< (x4 &&& 31)))), (3, .int (x3 ||| ((F_X6_of st x4 6) <<< (x4 &&& 31)))), (4, .int x4), (5, .int (F_X6_of st x4 2)), (6, .int 1), (7, .int ((st 72 (((3 * x4) + 1).toInt.toNat)) + ((F_X6_count st 6) * ((F_X6_of st x4 2) / 60)))), (8, .int (((st 72 ((3 * x4).toInt.toNat)) + (F_X6_of st x4 2)) + 100000))], [.int 0], st)) rfl ?_
                      exact xr_zret gd_L_spans rfl rfl rfl ⟨by first | (rw [lp_L_spans_7, if_neg h1, if_neg h4, if_pos h10, if_pos h17, if_pos h18, if_pos h19, if_pos h20, if_pos h21, if_neg h22]; done) | (rw [lp_L_spans_7, if_neg h1, if_neg h4, if_pos h10, if_pos h17, if_pos h18, if_pos h19, if_pos h20, if_pos h21, if_neg h22]; rfl), rfl⟩
          · refine xr_blk gd_L_spans 2 (c' := (103, [(0, .ref 0), (1, .ref 72), (2, .int (x2 ||| (1 <<< (x4 &&& 31)))), (3, .int (x3 ||| ((F_X6_of st x4 6) <<< (x4 &&& 31)))), (4, .int x4), (5, .int (F_X6_of st x4 2)), (6, .int 1)], [.int 1, .int 0], st)) rfl ?_
            refine xr_br gd_L_spans rfl rfl (fun _ => ?_) (fun h => absurd h (by decide))
            refine xr_blk gd_L_spans 1 (c' := (166, [(0, .ref 0), (1, .ref 72), (2, .int (x2 ||| (1 <<< (x4 &&& 31)))), (3, .int (x3 ||| ((F_X6_of st x4 6) <<< (x4 &&& 31)))), (4, .int x4), (5, .int (F_X6_of st x4 2)), (6, .int 1)], [.int 0], st)) rfl ?_
            exact xr_zret gd_L_spans rfl rfl rfl ⟨by first | (rw [lp_L_spans_7, if_neg h1, if_neg h4, if_pos h10, if_neg h17]; done) | (rw [lp_L_spans_7, if_neg h1, if_neg h4, if_pos h10, if_neg h17]; rfl), rfl⟩
def F_L_spans (st : xs_S) : Int32 := lp_L_spans_7 st 16 0 0 0
set_option maxRecDepth 20000 in
theorem c_L_spans {G : xs_G} {base : Nat} (d : Nat) (st : xs_S) (hds : 0 ≤ (st 1 3).toInt ∧ (st 1 3).toInt ≤ 15) : xs_K (xc G) base (d + 5) M_L_spans [.ref 0, .ref 72] st (fun v u => v = some (.int (F_L_spans st)) ∧ u = st) := by
  refine xs_intro ok_L_spans [(0, .ref 0), (1, .ref 72)] rfl rfl ?_
  refine xr_blk gd_L_spans 6 (c' := (7, [(0, .ref 0), (1, .ref 72), (2, .int 0), (3, .int 0), (4, .int 0)], [], st)) rfl ?_
  refine xs_cons (cl_L_spans_7 d st hds 16 0 0 0 (cnt1_e hds)) (fun v u hq => ?_)
  rw [F_L_spans]; exact hq
