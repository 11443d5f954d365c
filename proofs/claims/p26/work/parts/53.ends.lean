def lp_L_ends_7 (nn : Int32) : Nat → Int32 → xs_S → xs_S
  | 0, _, st => st
  | n + 1, x3, st => (if 30 ≤ x3 then st
    else (if (2 * nn) ≤ x3 then lp_L_ends_7 nn n (x3 + 1) (xs_u st 73 x3.toInt.toNat (-6))
      else lp_L_ends_7 nn n (x3 + 1) (xs_u st 73 x3.toInt.toNat (F_X6_of st (x3 / 2) (x3 - x3 / 2 * 2)))))
set_option maxRecDepth 20000 in
theorem cl_L_ends_7 {G : xs_G} {base a1 : Nat} (d : Nat) (nn : Int32) : ∀ (n : Nat) (x3 : Int32) (st : xs_S), xs_lo x3 30 n ∧ (0 ≤ (st 1 3).toInt ∧ (st 1 3).toInt ≤ 15) → xs_R (xn (xg G 1 30) a1 30) base (d + 5) M_L_ends (7, [(0, .ref 0), (1, .int nn), (2, .ref 73), (3, .int x3)], [], st) ((fun G' v u => (∃ a : Nat, G' = xn (xg G 1 30) a 30) ∧ v = some (.ref 73) ∧ u = lp_L_ends_7 nn n x3 st)) := by
  intro n
  induction n with
  | zero =>
    intro x3 st hinv
    exact (xs_lo0 hinv.1).elim
  | succ n ih =>
    intro x3 st hinv
    have hds := hinv.2
    refine xr_blk gd_L_ends 2 (c' := (10, [(0, .ref 0), (1, .int nn), (2, .ref 73), (3, .int x3)], [.int 30, .int x3], st)) rfl ?_
    refine xr_br gd_L_ends rfl rfl (fun h1 => ?_) (fun h1 => ?_)
    · refine xr_blk gd_L_ends 1 (c' := (45, [(0, .ref 0), (1, .int nn), (2, .ref 73), (3, .int x3)], [.ref 73], st)) rfl ?_
      exact xr_aretZ gd_L_ends rfl rfl (Or.inr ⟨_, rfl⟩) ⟨⟨_, rfl⟩, rfl, by first | (rw [lp_L_ends_7, if_pos h1]; done) | (rw [lp_L_ends_7, if_pos h1]; rfl)⟩
    · refine xr_blk gd_L_ends 6 (c' := (19, [(0, .ref 0), (1, .int nn), (2, .ref 73), (3, .int x3)], [.int (2 * nn), .int x3, .int x3, .ref 73], st)) rfl ?_
      refine xr_br gd_L_ends rfl rfl (fun h2 => ?_) (fun h2 => ?_)
      · refine xr_blk gd_L_ends 1 (c' := (37, [(0, .ref 0), (1, .int nn), (2, .ref 73), (3, .int x3)], [.int (-6), .int x3, .ref 73], st)) rfl ?_
        refine xr_iast gd_L_ends rfl rfl (x3.toInt.toNat) (xs_h1 (n := 30) (xs_lo_in hinv.1 h1)) (xs_h2 (n := 30) (xs_lo_in hinv.1 h1)) ?_
        refine xr_blk gd_L_ends 2 (c' := (7, [(0, .ref 0), (1, .int nn), (2, .ref 73), (3, .int (x3 + 1))], [], xs_u st 73 x3.toInt.toNat (-6))) rfl ?_
        refine xs_consZ (ih (x3 + 1) (xs_u st 73 x3.toInt.toNat (-6)) ⟨xs_lo_up hinv.1 h1, by first | exact hds | (rw [xs_rd_k (by decide)]; exact hds)⟩) (fun G' v u hq => ?_)
        rw [lp_L_ends_7, if_neg h1, if_pos h2]; exact hq
      · refine xr_blk gd_L_ends 3 (c' := (25, [(0, .ref 0), (1, .int nn), (2, .ref 73), (3, .int x3)], [.int 2, .int x3, .ref 0, .int x3, .ref 73], st)) rfl ?_
        refine xr_idiv gd_L_ends.1 rfl (by decide) ?_
        refine xr_blk gd_L_ends 2 (c' := (28, [(0, .ref 0), (1, .int nn), (2, .ref 73), (3, .int x3)], [.int 2, .int x3, .int (x3 / 2), .ref 0, .int x3, .ref 73], st)) rfl ?_
        refine xr_irem gd_L_ends.1 rfl (by decide) ?_
        refine xr_callV gd_L_ends gd_X6_of k_L_16 rfl (c_X6_of (d + 0) st (x3 / 2) (x3 - x3 / 2 * 2) (by first | exact hds.2 | (simp only [xs_u_72, f1_best, f1_end, f1_fewest, f1_share, f1_mean, f1_allowing, f1_overlap, f1_widerIn, f13_read]; exact hds.2) | (simp only [xs_u_72]; exact f13_dial hds))) (by omega) rfl rfl rfl rfl rfl ?_
        refine xs_fun ?_
        refine xr_blk gd_L_ends 1 (c' := (37, [(0, .ref 0), (1, .int nn), (2, .ref 73), (3, .int x3)], [.int (F_X6_of st (x3 / 2) (x3 - x3 / 2 * 2)), .int x3, .ref 73], st)) rfl ?_
        refine xr_iast gd_L_ends rfl rfl (x3.toInt.toNat) (xs_h1 (n := 30) (xs_lo_in hinv.1 h1)) (xs_h2 (n := 30) (xs_lo_in hinv.1 h1)) ?_
        refine xr_blk gd_L_ends 2 (c' := (7, [(0, .ref 0), (1, .int nn), (2, .ref 73), (3, .int (x3 + 1))], [], xs_u st 73 x3.toInt.toNat (F_X6_of st (x3 / 2) (x3 - x3 / 2 * 2)))) rfl ?_
        refine xs_consZ (ih (x3 + 1) (xs_u st 73 x3.toInt.toNat (F_X6_of st (x3 / 2) (x3 - x3 / 2 * 2))) ⟨xs_lo_up hinv.1 h1, by first | exact hds | (rw [xs_rd_k (by decide)]; exact hds)⟩) (fun G' v u hq => ?_)
        rw [lp_L_ends_7, if_neg h1, if_neg h2]; exact hq
def F_L_ends (st : xs_S) (nn : Int32) : xs_S := lp_L_ends_7 nn 31 0 (xs_ur st 73 (fun _ => 0))
set_option maxRecDepth 20000 in
theorem c_L_ends {G : xs_G} {base : Nat} (d : Nat) (st : xs_S) (nn : Int32) (hds : 0 ≤ (st 1 3).toInt ∧ (st 1 3).toInt ≤ 15) : xs_KZ (xg G 1 30) base (d + 5) M_L_ends [.ref 0, .int nn] st (fun G' v u => (∃ a : Nat, G' = xn (xg G 1 30) a 30) ∧ v = some (.ref 73) ∧ u = F_L_ends st nn) := by
  refine xs_intro ok_L_ends [(0, .ref 0), (1, .int nn)] rfl rfl ?_
  refine xr_blk gd_L_ends 1 (c' := (2, [(0, .ref 0), (1, .int nn)], [.int 30], st)) rfl ?_
  refine xr_newI 30 gd_L_ends rfl (by decide) (by decide) rfl ⟨Nat.le_of_ble_eq_true rfl, Nat.le_of_ble_eq_true rfl⟩ (Or.inl rfl) rfl rfl (fun a1 => ?_)
  refine xr_blk gd_L_ends 3 (c' := (7, [(0, .ref 0), (1, .int nn), (2, .ref 73), (3, .int 0)], [], xs_ur st 73 (fun _ => 0))) rfl ?_
  refine xs_consZ (cl_L_ends_7 d nn 31 0 (xs_ur st 73 (fun _ => 0)) ⟨⟨by decide, by decide, by decide⟩, hds⟩) (fun G' v u hq => ?_)
  rw [F_L_ends]; exact hq
