/-- the row's loop of agrees: a counter below the dials, dials within 15 -/
def IR (st : xs_S) (x : Int32) (n : Nat) : Prop := xs_lo x (st 73 3) n ∧ (0 ≤ (st 73 3).toInt ∧ (st 73 3).toInt ≤ 15)
theorem ir_up {st : xs_S} {x : Int32} {n : Nat} (h : IR st x (n + 1)) (h1 : ¬ st 73 3 ≤ x) : IR st (x + 1) n := ⟨xs_lo_up h.1 h1, h.2⟩
theorem ir_d {st : xs_S} {x : Int32} {n : Nat} (h : IR st x n) (h1 : ¬ st 73 3 ≤ x) : 0 ≤ x.toInt ∧ x.toInt < 15 := xs_ix h.2 (xs_lo_in h.1 h1)
theorem la_3 {st : xs_S} {d w v : Int32} {i : Nat} (hd : 0 ≤ d.toInt ∧ d.toInt < 15) (hw : 0 ≤ w.toInt ∧ w.toInt ≤ 6) (hi : i < 6) : F_X7_lay st d w v 73 i = st 73 i := by
  unfold F_X7_lay
  rw [xs_rd_i]
  have e := xm_itsv hd hw
  omega
theorem ir_lay {st : xs_S} {x d w v : Int32} {n : Nat} (hd : 0 ≤ d.toInt ∧ d.toInt < 15) (hw : 0 ≤ w.toInt ∧ w.toInt ≤ 6) (h : IR st x n) : IR (F_X7_lay st d w v) x n := by
  unfold IR
  rw [la_3 hd hw (by decide)]
  exact h
theorem ir_e {st : xs_S} (h : 0 ≤ (st 73 3).toInt ∧ (st 73 3).toInt ≤ 15) : IR st 0 16 := ⟨xs_lo_e h.1 (xm_16 h), h⟩
theorem ly_n {st : xs_S} {d w v : Int32} {k : Nat} (hk : k ≠ 73) : F_X7_lay st d w v k = st k := xs_rd_k hk
theorem fi_nl {m : Int32} : ∀ (n : Nat) (x y : Int32) (s : xs_S) (k : Nat), k ≠ 72 → (lp_X7_find_4 m n x y s).2 k = s k := by
  intro n
  induction n with
  | zero => intro x y s k h; rfl
  | succ n ih =>
    intro x y s k h
    unfold lp_X7_find_4
    repeat' split
    all_goals try dsimp only
    all_goals first | with_reducible rfl | rw [xs_rd_k h] | (rw [ih _ _ _ _ h]; done) | rw [ih _ _ _ _ h, xs_rd_k h]
theorem fi_n {st : xs_S} {m : Int32} {k : Nat} (hk : k ≠ 72) : (F_X7_find st m).2 k = st k := fi_nl _ _ _ _ _ hk
theorem se_n {st : xs_S} {k : Nat} (hk : k ≠ 72) : (F_X7_seek st).2 k = st k := by
  have key : ∀ (n : Nat) (x : Int32) (s : xs_S), (lp_X7_seek_7 n x s).2 k = s k := by
    intro n
    induction n with
    | zero => intro x s; rfl
    | succ n ih =>
      intro x s
      unfold lp_X7_seek_7
      repeat' split
      all_goals try dsimp only
      all_goals first | with_reducible rfl | (rw [fi_n hk]; done) | (rw [ih]; done) | rw [ih, xs_rd_k hk]
  unfold F_X7_seek
  rw [key, xs_rd_k hk]
theorem as_3 {st : xs_S} {l w : Int32} (h : RowOK (st 73)) : 0 ≤ ((F_X7_seek (F_X7_layOut st l w)).2 73 3).toInt ∧ ((F_X7_seek (F_X7_layOut st l w)).2 73 3).toInt ≤ 15 := by
  rw [se_n (by decide), lay_n 73 (by decide) (by decide) (by decide)]
  exact ro_D h
def lp_X7_agrees_24 : Nat → Int32 → Int32 → xs_S → Int32 × xs_S
  | 0, _, _, st => (0, st)
  | n + 1, x1, x2, st => (if (st 73 3) ≤ x2 then ((x1 + 100000), xs_u (xs_u st 73 4 ((st 73 4) + 1)) 73 5 x1)
    else (if (F_X7_has st x2 x1) = 0 then (if (((st 72 11) >>> (x2 &&& 31)) &&& 1) = 1 then (if (F_X7_its (F_X7_lay (F_X7_lay st x2 4 ((F_X7_its st x2 4) + 1)) x2 5 ((F_X7_its (F_X7_lay st x2 4 ((F_X7_its st x2 4) + 1)) x2 5) + 1)) x2 5) < ((F_X7_lay (F_X7_lay st x2 4 ((F_X7_its st x2 4) + 1)) x2 5 ((F_X7_its (F_X7_lay st x2 4 ((F_X7_its st x2 4) + 1)) x2 5) + 1)) 73 1) then lp_X7_agrees_24 n x1 (x2 + 1) (F_X7_lay (F_X7_lay (F_X7_lay st x2 4 ((F_X7_its st x2 4) + 1)) x2 5 ((F_X7_its (F_X7_lay st x2 4 ((F_X7_its st x2 4) + 1)) x2 5) + 1)) x2 6 0)
          else lp_X7_agrees_24 n x1 (x2 + 1) (F_X7_lay (F_X7_lay (F_X7_lay st x2 4 ((F_X7_its st x2 4) + 1)) x2 5 ((F_X7_its (F_X7_lay st x2 4 ((F_X7_its st x2 4) + 1)) x2 5) + 1)) x2 6 1))
        else lp_X7_agrees_24 n x1 (x2 + 1) st)
      else lp_X7_agrees_24 n x1 (x2 + 1) (F_X7_lay st x2 5 0)))
set_option maxRecDepth 20000 in
theorem cl_X7_agrees_24 {G : xs_G} {base : Nat} (d : Nat) : ∀ (n : Nat) (x1 : Int32) (x2 : Int32) (st : xs_S), IR st x2 n → xs_R G base (d + 5) M_X7_agrees (24, [(0, .ref 72), (1, .int x1), (2, .int x2)], [], st) (fun v u => v = some (.int (lp_X7_agrees_24 n x1 x2 st).1) ∧ u = (lp_X7_agrees_24 n x1 x2 st).2) := by
  intro n
  induction n with
  | zero =>
    intro x1 x2 st hinv
    exact (xs_lo0 hinv.1).elim
  | succ n ih =>
    intro x1 x2 st hinv
    refine xr_blk gd_X7_agrees 4 (c' := (30, [(0, .ref 72), (1, .int x1), (2, .int x2)], [.int 3, .ref 73, .int x2], st)) rfl ?_
    refine xr_iald gd_X7_agrees rfl rfl (3) (by decide) (by decide) ?_
    refine xr_br gd_X7_agrees rfl rfl (fun h1 => ?_) (fun h1 => ?_)
    · refine xr_blk gd_X7_agrees 4 (c' := (132, [(0, .ref 72), (1, .int x1), (2, .int x2)], [.int 4, .ref 73, .int 4, .ref 73], st)) rfl ?_
      refine xr_iald gd_X7_agrees rfl rfl (4) (by decide) (by decide) ?_
      refine xr_blk gd_X7_agrees 2 (c' := (135, [(0, .ref 72), (1, .int x1), (2, .int x2)], [.int ((st 73 4) + 1), .int 4, .ref 73], st)) rfl ?_
      refine xr_iast gd_X7_agrees rfl rfl (4) (by decide) (by decide) ?_
      refine xr_blk gd_X7_agrees 4 (c' := (142, [(0, .ref 72), (1, .int x1), (2, .int x2)], [.int x1, .int 5, .ref 73], xs_u st 73 4 ((st 73 4) + 1))) rfl ?_
      refine xr_iast gd_X7_agrees rfl rfl (5) (by decide) (by decide) ?_
      refine xr_blk gd_X7_agrees 3 (c' := (147, [(0, .ref 72), (1, .int x1), (2, .int x2)], [.int (x1 + 100000)], xs_u (xs_u st 73 4 ((st 73 4) + 1)) 73 5 x1)) rfl ?_
      exact xr_iret gd_X7_agrees rfl rfl ⟨by first | (rw [lp_X7_agrees_24, if_pos h1]; done) | (rw [lp_X7_agrees_24, if_pos h1]; rfl), by first | (rw [lp_X7_agrees_24, if_pos h1]; done) | (rw [lp_X7_agrees_24, if_pos h1]; rfl)⟩
    · refine xr_blk gd_X7_agrees 3 (c' := (37, [(0, .ref 72), (1, .int x1), (2, .int x2)], [.int x1, .int x2, .ref 72], st)) rfl ?_
      refine xr_callV gd_X7_agrees gd_X7_has k_X7_63 rfl (c_X7_has (d + 4) st x2 x1 (ir_d hinv h1)) (by omega) rfl rfl rfl rfl rfl ?_
      refine xs_fun ?_
      refine xr_br gd_X7_agrees rfl rfl (fun h2 => ?_) (fun h2 => ?_)
      · refine xr_blk gd_X7_agrees 7 (c' := (62, [(0, .ref 72), (1, .int x1), (2, .int x2)], [.int 1, .int (((st 72 11) >>> (x2 &&& 31)) &&& 1)], st)) rfl ?_
        refine xr_br gd_X7_agrees rfl rfl (fun h3 => ?_) (fun h3 => ?_)
        · refine xr_blk gd_X7_agrees 2 (c' := (24, [(0, .ref 72), (1, .int x1), (2, .int (x2 + 1))], [], st)) rfl ?_
          refine xs_cons (ih x1 (x2 + 1) st (by repeat first | with_reducible exact ir_up hinv h1 | with_reducible exact ir_d hinv h1 | with_reducible refine ir_lay ?_ ?_ ?_ | decide)) (fun v u hq => ?_)
          rw [lp_X7_agrees_24, if_neg h1, if_pos h2, if_neg h3]; exact hq
        · refine xr_blk gd_X7_agrees 6 (c' := (71, [(0, .ref 72), (1, .int x1), (2, .int x2)], [.int 4, .int x2, .ref 72, .int 4, .int x2, .ref 72], st)) rfl ?_
          refine xr_callV gd_X7_agrees gd_X7_its k_X7_59 rfl (c_X7_its (d + 4) st x2 4 (xm_its (ir_d hinv h1) (by decide))) (by omega) rfl rfl rfl rfl rfl ?_
          refine xs_fun ?_
          refine xr_blk gd_X7_agrees 2 (c' := (76, [(0, .ref 72), (1, .int x1), (2, .int x2)], [.int ((F_X7_its st x2 4) + 1), .int 4, .int x2, .ref 72], st)) rfl ?_
          refine xr_callV gd_X7_agrees gd_X7_lay k_X7_94 rfl (c_X7_lay (d + 4) st x2 4 ((F_X7_its st x2 4) + 1) (xm_its (ir_d hinv h1) (by decide))) (by omega) rfl rfl rfl rfl rfl ?_
          refine xs_fun ?_
          refine xr_blk gd_X7_agrees 6 (c' := (85, [(0, .ref 72), (1, .int x1), (2, .int x2)], [.int 5, .int x2, .ref 72, .int 5, .int x2, .ref 72], (F_X7_lay st x2 4 ((F_X7_its st x2 4) + 1)))) rfl ?_
          refine xr_callV gd_X7_agrees gd_X7_its k_X7_59 rfl (c_X7_its (d + 4) (F_X7_lay st x2 4 ((F_X7_its st x2 4) + 1)) x2 5 (xm_its (ir_d hinv h1) (by decide))) (by omega) rfl rfl rfl rfl rfl ?_
          refine xs_fun ?_
          refine xr_blk gd_X7_agrees 2 (c' := (90, [(0, .ref 72), (1, .int x1), (2, .int x2)], [.int ((F_X7_its (F_X7_lay st x2 4 ((F_X7_its st x2 4) + 1)) x2 5) + 1), .int 5, .int x2, .ref 72], (F_X7_lay st x2 4 ((F_X7_its st x2 4) + 1)))) rfl ?_
          refine xr_callV gd_X7_agrees gd_X7_lay k_X7_94 rfl (c_X7_lay (d + 4) (F_X7_lay st x2 4 ((F_X7_its st x2 4) + 1)) x2 5 ((F_X7_its (F_X7_lay st x2 4 ((F_X7_its st x2 4) + 1)) x2 5) + 1) (xm_its (ir_d hinv h1) (by decide))) (by omega) rfl rfl rfl rfl rfl ?_
          refine xs_fun ?_
          refine xr_blk gd_X7_agrees 6 (c' := (100, [(0, .ref 72), (1, .int x1), (2, .int x2)], [.int 5, .int x2, .ref 72, .int 6, .int x2, .ref 72], (F_X7_lay (F_X7_lay st x2 4 ((F_X7_its st x2 4) + 1)) x2 5 ((F_X7_its (F_X7_lay st x2 4 ((F_X7_its st x2 4) + 1)) x2 5) + 1)))) rfl ?_
          refine xr_callV gd_X7_agrees gd_X7_its k_X7_59 rfl (c_X7_its (d + 4) (F_X7_lay (F_X7_lay st x2 4 ((F_X7_its st x2 4) + 1)) x2 5 ((F_X7_its (F_X7_lay st x2 4 ((F_X7_its st x2 4) + 1)) x2 5) + 1)) x2 5 (xm_its (ir_d hinv h1) (by decide))) (by omega) rfl rfl rfl rfl rfl ?_
          refine xs_fun ?_
          refine xr_blk gd_X7_agrees 3 (c' := (108, [(0, .ref 72), (1, .int x1), (2, .int x2)], [.int 1, .ref 73, .int (F_X7_its (F_X7_lay (F_X7_lay st x2 4 ((F_X7_its st x2 4) + 1)) x2 5 ((F_X7_its (F_X7_lay st x2 4 ((F_X7_its st x2 4) + 1)) x2 5) + 1)) x2 5), .int 6, .int x2, .ref 72], (F_X7_lay (F_X7_lay st x2 4 ((F_X7_its st x2 4) + 1)) x2 5 ((F_X7_its (F_X7_lay st x2 4 ((F_X7_its st x2 4) + 1)) x2 5) + 1)))) rfl ?_
          refine xr_iald gd_X7_agrees rfl rfl (1) (by decide) (by decide) ?_
          refine xr_br gd_X7_agrees rfl rfl (fun h4 => ?_) (fun h4 => ?_)
          · refine xr_blk gd_X7_agrees 1 (c' := (117, [(0, .ref 72), (1, .int x1), (2, .int x2)], [.int 0, .int 6, .int x2, .ref 72], (F_X7_lay (F_X7_lay st x2 4 ((F_X7_its st x2 4) + 1)) x2 5 ((F_X7_its (F_X7_lay st x2 4 ((F_X7_its st x2 4) + 1)) x2 5) + 1)))) rfl ?_
            refine xr_callV gd_X7_agrees gd_X7_lay k_X7_94 rfl (c_X7_lay (d + 4) (F_X7_lay (F_X7_lay st x2 4 ((F_X7_its st x2 4) + 1)) x2 5 ((F_X7_its (F_X7_lay st x2 4 ((F_X7_its st x2 4) + 1)) x2 5) + 1)) x2 6 0 (xm_its (ir_d hinv h1) (by decide))) (by omega) rfl rfl rfl rfl rfl ?_
            refine xs_fun ?_
            refine xr_blk gd_X7_agrees 2 (c' := (24, [(0, .ref 72), (1, .int x1), (2, .int (x2 + 1))], [], (F_X7_lay (F_X7_lay (F_X7_lay st x2 4 ((F_X7_its st x2 4) + 1)) x2 5 ((F_X7_its (F_X7_lay st x2 4 ((F_X7_its st x2 4) + 1)) x2 5) + 1)) x2 6 0))) rfl ?_
            refine xs_cons (ih x1 (x2 + 1) (F_X7_lay (F_X7_lay (F_X7_lay st x2 4 ((F_X7_its st x2 4) + 1)) x2 5 ((F_X7_its (F_X7_lay st x2 4 ((F_X7_its st x2 4) + 1)) x2 5) + 1)) x2 6 0) (by repeat first | with_reducible exact ir_up hinv h1 | with_reducible exact ir_d hinv h1 | with_reducible refine ir_lay ?_ ?_ ?_ | decide)) (fun v u hq => ?_)
            rw [lp_X7_agrees_24, if_neg h1, if_pos h2, if_pos h3, if_pos h4]; exact hq
          · refine xr_blk gd_X7_agrees 2 (c' := (117, [(0, .ref 72), (1, .int x1), (2, .int x2)], [.int 1, .int 6, .int x2, .ref 72], (F_X7_lay (F_X7_lay st x2 4 ((F_X7_its st x2 4) + 1)) x2 5 ((F_X7_its (F_X7_lay st x2 4 ((F_X7_its st x2 4) + 1)) x2 5) + 1)))) rfl ?_
            refine xr_callV gd_X7_agrees gd_X7_lay k_X7_94 rfl (c_X7_lay (d + 4) (F_X7_lay (F_X7_lay st x2 4 ((F_X7_its st x2 4) + 1)) x2 5 ((F_X7_its (F_X7_lay st x2 4 ((F_X7_its st x2 4) + 1)) x2 5) + 1)) x2 6 1 (xm_its (ir_d hinv h1) (by decide))) (by omega) rfl rfl rfl rfl rfl ?_
            refine xs_fun ?_
            refine xr_blk gd_X7_agrees 2 (c' := (24, [(0, .ref 72), (1, .int x1), (2, .int (x2 + 1))], [], (F_X7_lay (F_X7_lay (F_X7_lay st x2 4 ((F_X7_its st x2 4) + 1)) x2 5 ((F_X7_its (F_X7_lay st x2 4 ((F_X7_its st x2 4) + 1)) x2 5) + 1)) x2 6 1))) rfl ?_
            refine xs_cons (ih x1 (x2 + 1) (F_X7_lay (F_X7_lay (F_X7_lay st x2 4 ((F_X7_its st x2 4) + 1)) x2 5 ((F_X7_its (F_X7_lay st x2 4 ((F_X7_its st x2 4) + 1)) x2 5) + 1)) x2 6 1) (by repeat first | with_reducible exact ir_up hinv h1 | with_reducible exact ir_d hinv h1 | with_reducible refine ir_lay ?_ ?_ ?_ | decide)) (fun v u hq => ?_)
            rw [lp_X7_agrees_24, if_neg h1, if_pos h2, if_pos h3, if_neg h4]; exact hq
      · refine xr_blk gd_X7_agrees 4 (c' := (47, [(0, .ref 72), (1, .int x1), (2, .int x2)], [.int 0, .int 5, .int x2, .ref 72], st)) rfl ?_
        refine xr_callV gd_X7_agrees gd_X7_lay k_X7_94 rfl (c_X7_lay (d + 4) st x2 5 0 (xm_its (ir_d hinv h1) (by decide))) (by omega) rfl rfl rfl rfl rfl ?_
        refine xs_fun ?_
        refine xr_blk gd_X7_agrees 3 (c' := (24, [(0, .ref 72), (1, .int x1), (2, .int (x2 + 1))], [], (F_X7_lay st x2 5 0))) rfl ?_
        refine xs_cons (ih x1 (x2 + 1) (F_X7_lay st x2 5 0) (by repeat first | with_reducible exact ir_up hinv h1 | with_reducible exact ir_d hinv h1 | with_reducible refine ir_lay ?_ ?_ ?_ | decide)) (fun v u hq => ?_)
        rw [lp_X7_agrees_24, if_neg h1, if_neg h2]; exact hq
def F_X7_agrees (st : xs_S) : Int32 × xs_S := (if ((F_X7_seek (F_X7_layOut st 0 (-6))).1) = 0 then ((-5), (F_X7_seek (F_X7_layOut st 0 (-6))).2)
    else lp_X7_agrees_24 16 (F_X7_hour ((F_X7_seek (F_X7_layOut st 0 (-6))).2)) 0 ((F_X7_seek (F_X7_layOut st 0 (-6))).2))
set_option maxRecDepth 20000 in
theorem c_X7_agrees {G : xs_G} {base : Nat} (d : Nat) (st : xs_S) (hR : RowOK (st 73)) : xs_K G base (d + 5) M_X7_agrees [.ref 72] st (fun v u => v = some (.int (F_X7_agrees st).1) ∧ u = (F_X7_agrees st).2) := by
  refine xs_intro ok_X7_agrees [(0, .ref 72)] rfl rfl ?_
  refine xr_blk gd_X7_agrees 3 (c' := (4, [(0, .ref 72)], [.int (-6), .int 0, .ref 72], st)) rfl ?_
  refine xr_callV gd_X7_agrees gd_X7_layOut k_X7_99 rfl (c_X7_layOut (d + 3) st 0 (-6) (ro_D hR)) (by omega) rfl rfl rfl rfl rfl ?_
  refine xs_fun ?_
  refine xr_blk gd_X7_agrees 1 (c' := (8, [(0, .ref 72)], [.ref 72], (F_X7_layOut st 0 (-6)))) rfl ?_
  refine xr_callV gd_X7_agrees gd_X7_seek k_X7_103 rfl (c_X7_seek (d + 0) (F_X7_layOut st 0 (-6)) (lay_LF hR (by decide))) (by omega) rfl rfl rfl rfl rfl ?_
  refine xs_fun ?_
  refine xr_br gd_X7_agrees rfl rfl (fun h1 => ?_) (fun h1 => ?_)
  · refine xr_blk gd_X7_agrees 1 (c' := (18, [(0, .ref 72)], [.ref 72], (F_X7_seek (F_X7_layOut st 0 (-6))).2)) rfl ?_
    refine xr_callV gd_X7_agrees gd_X7_hour k_X7_107 rfl (c_X7_hour (d + 3) ((F_X7_seek (F_X7_layOut st 0 (-6))).2)) (by omega) rfl rfl rfl rfl rfl ?_
    refine xs_fun ?_
    refine xr_blk gd_X7_agrees 3 (c' := (24, [(0, .ref 72), (1, .int (F_X7_hour ((F_X7_seek (F_X7_layOut st 0 (-6))).2))), (2, .int 0)], [], (F_X7_seek (F_X7_layOut st 0 (-6))).2)) rfl ?_
    refine xs_cons (cl_X7_agrees_24 d 16 (F_X7_hour ((F_X7_seek (F_X7_layOut st 0 (-6))).2)) 0 ((F_X7_seek (F_X7_layOut st 0 (-6))).2) (ir_e (as_3 hR))) (fun v u hq => ?_)
    rw [F_X7_agrees, if_neg h1]; exact hq
  · refine xr_blk gd_X7_agrees 1 (c' := (16, [(0, .ref 72)], [.int (-5)], (F_X7_seek (F_X7_layOut st 0 (-6))).2)) rfl ?_
    exact xr_iret gd_X7_agrees rfl rfl ⟨by first | (rw [F_X7_agrees, if_pos h1]; done) | (rw [F_X7_agrees, if_pos h1]; rfl), by first | (rw [F_X7_agrees, if_pos h1]; done) | (rw [F_X7_agrees, if_pos h1]; rfl)⟩
theorem cm_n {st : xs_S} {k : Nat} (hk : k ≠ 73) : (F_X7_comes st).2 k = st k := by
  unfold F_X7_comes
  split
  · rfl
  · dsimp only
    rw [xs_rd_k hk]
theorem rs_n {st : xs_S} {a b c : Int32} {k : Nat} (hk : k ≠ 73) : (F_X7_reads st a b c).2 k = st k := by
  unfold F_X7_reads
  repeat' split
  all_goals try dsimp only
  all_goals first | with_reducible rfl | rw [ly_n hk, ly_n hk, ly_n hk, ly_n hk]
theorem wa_n {st : xs_S} {a : Int32} {k : Nat} (hk : k ≠ 73) : (F_X7_waits st a).2 k = st k := by
  unfold F_X7_waits
  repeat' split
  all_goals try dsimp only
  all_goals first | with_reducible rfl | rw [xs_rd_k hk]
theorem lay_f {st : xs_S} {l w : Int32} {i : Nat} (hi : i ≠ 11) : F_X7_layOut st l w 72 i = st 72 i := by
  have key : ∀ (n : Nat) (x : Int32) (s : xs_S), lp_X7_layOut_7 l w n x s 72 i = s 72 i := by
    intro n
    induction n with
    | zero => intro x s; rfl
    | succ n ih =>
      intro x s
      unfold lp_X7_layOut_7
      repeat' split
      all_goals first | with_reducible rfl | (rw [ih]; done) | rw [ih, xs_rd_k (by decide), xs_rd_k (by decide), xs_rd_i hi]
  unfold F_X7_layOut
  rw [key, xs_rd_i hi]
theorem fi_f {st : xs_S} {m : Int32} {i : Nat} (h5 : i ≠ 15) (h6 : i ≠ 16) : (F_X7_find st m).2 72 i = st 72 i := by
  have key : ∀ (n : Nat) (x y : Int32) (s : xs_S), (lp_X7_find_4 m n x y s).2 72 i = s 72 i := by
    intro n
    induction n with
    | zero => intro x y s; rfl
    | succ n ih =>
      intro x y s
      unfold lp_X7_find_4
      repeat' split
      all_goals try dsimp only
      all_goals first | with_reducible rfl | rw [xs_rd_i h6] | (rw [ih]; done) | rw [ih, xs_rd_i h5]
  unfold F_X7_find
  exact key _ _ _ _
theorem se_f {st : xs_S} {i : Nat} (h4 : i ≠ 14) (h5 : i ≠ 15) (h6 : i ≠ 16) : (F_X7_seek st).2 72 i = st 72 i := by
  have key : ∀ (n : Nat) (x : Int32) (s : xs_S), (lp_X7_seek_7 n x s).2 72 i = s 72 i := by
    intro n
    induction n with
    | zero => intro x s; rfl
    | succ n ih =>
      intro x s
      unfold lp_X7_seek_7
      repeat' split
      all_goals try dsimp only
      all_goals first | with_reducible rfl | (rw [fi_f h5 h6]; done) | (rw [ih]; done) | rw [ih, xs_rd_i h4]
  unfold F_X7_seek
  rw [key, xs_rd_i h4]
theorem al_n {hr : Int32} : ∀ (n : Nat) (x : Int32) (s : xs_S) (k : Nat), k ≠ 73 → (lp_X7_agrees_24 n hr x s).2 k = s k := by
  intro n
  induction n with
  | zero => intro x s k h; rfl
  | succ n ih =>
    intro x s k h
    unfold lp_X7_agrees_24
    repeat' split
    all_goals try dsimp only
    all_goals first | rw [xs_rd_k h, xs_rd_k h] | (rw [ih _ _ _ h]; done) | rw [ih _ _ _ h, ly_n h, ly_n h, ly_n h] | rw [ih _ _ _ h, ly_n h]
theorem ag_n {st : xs_S} {k : Nat} (h2 : k ≠ 72) (h3 : k ≠ 73) (h81 : k ≠ 81) (h82 : k ≠ 82) : (F_X7_agrees st).2 k = st k := by
  unfold F_X7_agrees
  split
  · dsimp only
    rw [se_n h2, lay_n _ h2 h81 h82]
  · rw [al_n _ _ _ _ h3, se_n h2, lay_n _ h2 h81 h82]
theorem ag_f {st : xs_S} {i : Nat} (h1 : i ≠ 11) (h4 : i ≠ 14) (h5 : i ≠ 15) (h6 : i ≠ 16) : (F_X7_agrees st).2 72 i = st 72 i := by
  unfold F_X7_agrees
  split
  · dsimp only
    rw [se_f h4 h5 h6, lay_f h1]
  · rw [al_n _ _ _ _ (by decide), se_f h4 h5 h6, lay_f h1]
theorem xm_s01 {s : Int32} (h : s = 0 ∨ s = 1) : 0 ≤ s.toInt ∧ s.toInt < 111 := by
  rcases h with h | h <;> rw [h] <;> decide
def F_X7_set (st : xs_S) (setting : Int32) (value : Int32) : Int32 × xs_S := (if setting = 0 then (if (F_X7_in st value.toInt64 0 60) = 0 then ((-2), st)
      else ((F_X7_record (xs_u (F_X7_remember st) 73 setting.toInt.toNat value) ((F_X7_remember st) 73 setting.toInt.toNat)).1, (F_X7_record (xs_u (F_X7_remember st) 73 setting.toInt.toNat value) ((F_X7_remember st) 73 setting.toInt.toNat)).2))
    else (if setting = 1 then (if (F_X7_in st value.toInt64 1 20) = 0 then ((-2), st)
        else ((F_X7_record (xs_u (F_X7_remember st) 73 setting.toInt.toNat value) ((F_X7_remember st) 73 setting.toInt.toNat)).1, (F_X7_record (xs_u (F_X7_remember st) 73 setting.toInt.toNat value) ((F_X7_remember st) 73 setting.toInt.toNat)).2))
      else ((-2), st)))
set_option maxRecDepth 20000 in
theorem c_X7_set {G : xs_G} {base : Nat} (d : Nat) (st : xs_S) (setting : Int32) (value : Int32) (hst : 0 ≤ (st 72 5).toInt ∧ (st 72 5).toInt ≤ 6) : xs_K G base (d + 1) M_X7_set [.ref 72, .int setting, .int value] st (fun v u => v = some (.int (F_X7_set st setting value).1) ∧ u = (F_X7_set st setting value).2) := by
  refine xs_intro ok_X7_set [(0, .ref 72), (1, .int setting), (2, .int value)] rfl rfl ?_
  refine xr_blk gd_X7_set 1 (c' := (1, [(0, .ref 72), (1, .int setting), (2, .int value)], [.int setting], st)) rfl ?_
  refine xr_br gd_X7_set rfl rfl (fun h1 => ?_) (fun h1 => ?_)
  · refine xr_blk gd_X7_set 2 (c' := (20, [(0, .ref 72), (1, .int setting), (2, .int value)], [.int 1, .int setting], st)) rfl ?_
    refine xr_br gd_X7_set rfl rfl (fun h2 => ?_) (fun h2 => ?_)
    · refine xr_blk gd_X7_set 1 (c' := (36, [(0, .ref 72), (1, .int setting), (2, .int value)], [.int (-2)], st)) rfl ?_
      exact xr_iret gd_X7_set rfl rfl ⟨by first | (rw [F_X7_set, if_neg h1, if_neg h2]; done) | (rw [F_X7_set, if_neg h1, if_neg h2]; rfl), by first | (rw [F_X7_set, if_neg h1, if_neg h2]; done) | (rw [F_X7_set, if_neg h1, if_neg h2]; rfl)⟩
    · refine xr_blk gd_X7_set 4 (c' := (28, [(0, .ref 72), (1, .int setting), (2, .int value)], [.int 20, .int 1, .long value.toInt64], st)) rfl ?_
      refine xr_callS gd_X7_set gd_X7_in k_X7_41 rfl (c_X7_in (d + 0) st value.toInt64 1 20) (by omega) rfl rfl rfl ?_
      refine xs_fun ?_
      refine xr_br gd_X7_set rfl rfl (fun h3 => ?_) (fun h3 => ?_)
      · refine xr_blk gd_X7_set 1 (c' := (38, [(0, .ref 72), (1, .int setting), (2, .int value)], [.ref 72], st)) rfl ?_
        refine xr_callV gd_X7_set gd_X7_remember k_X7_49 rfl (c_X7_remember (d + 0) st) (by omega) rfl rfl rfl rfl rfl ?_
        refine xs_fun ?_
        refine xr_blk gd_X7_set 3 (c' := (46, [(0, .ref 72), (1, .int setting), (2, .int value)], [.int setting, .ref 73], (F_X7_remember st))) rfl ?_
        refine xr_iald gd_X7_set rfl rfl (setting.toInt.toNat) (xs_h1 (n := 111) (xm_s01 (by first | exact Or.inl h1 | exact Or.inr h2 | exact Or.inr h3 | exact Or.inr h4 | exact Or.inr h5))) (xs_h2 (n := 111) (xm_s01 (by first | exact Or.inl h1 | exact Or.inr h2 | exact Or.inr h3 | exact Or.inr h4 | exact Or.inr h5))) ?_
        refine xr_blk gd_X7_set 5 (c' := (54, [(0, .ref 72), (1, .int setting), (2, .int value), (3, .int ((F_X7_remember st) 73 setting.toInt.toNat))], [.int value, .int setting, .ref 73], (F_X7_remember st))) rfl ?_
        refine xr_iast gd_X7_set rfl rfl (setting.toInt.toNat) (xs_h1 (n := 111) (xm_s01 (by first | exact Or.inl h1 | exact Or.inr h2 | exact Or.inr h3 | exact Or.inr h4 | exact Or.inr h5))) (xs_h2 (n := 111) (xm_s01 (by first | exact Or.inl h1 | exact Or.inr h2 | exact Or.inr h3 | exact Or.inr h4 | exact Or.inr h5))) ?_
        refine xr_blk gd_X7_set 2 (c' := (57, [(0, .ref 72), (1, .int setting), (2, .int value), (3, .int ((F_X7_remember st) 73 setting.toInt.toNat))], [.int ((F_X7_remember st) 73 setting.toInt.toNat), .ref 72], xs_u (F_X7_remember st) 73 setting.toInt.toNat value)) rfl ?_
        refine xr_callV gd_X7_set gd_X7_record k_X7_52 rfl (c_X7_record (d + 0) (xs_u (F_X7_remember st) 73 setting.toInt.toNat value) ((F_X7_remember st) 73 setting.toInt.toNat) (by rw [xs_rd_k (by decide), re_n (by decide)]; exact hst)) (by omega) rfl rfl rfl rfl rfl ?_
        refine xs_fun ?_
        exact xr_iret gd_X7_set rfl rfl ⟨by first | (rw [F_X7_set, if_neg h1, if_pos h2, if_neg h3]; done) | (rw [F_X7_set, if_neg h1, if_pos h2, if_neg h3]; rfl), by first | (rw [F_X7_set, if_neg h1, if_pos h2, if_neg h3]; done) | (rw [F_X7_set, if_neg h1, if_pos h2, if_neg h3]; rfl)⟩
      · refine xr_blk gd_X7_set 1 (c' := (36, [(0, .ref 72), (1, .int setting), (2, .int value)], [.int (-2)], st)) rfl ?_
        exact xr_iret gd_X7_set rfl rfl ⟨by first | (rw [F_X7_set, if_neg h1, if_pos h2, if_pos h3]; done) | (rw [F_X7_set, if_neg h1, if_pos h2, if_pos h3]; rfl), by first | (rw [F_X7_set, if_neg h1, if_pos h2, if_pos h3]; done) | (rw [F_X7_set, if_neg h1, if_pos h2, if_pos h3]; rfl)⟩
  · refine xr_blk gd_X7_set 4 (c' := (9, [(0, .ref 72), (1, .int setting), (2, .int value)], [.int 60, .int 0, .long value.toInt64], st)) rfl ?_
    refine xr_callS gd_X7_set gd_X7_in k_X7_41 rfl (c_X7_in (d + 0) st value.toInt64 0 60) (by omega) rfl rfl rfl ?_
    refine xs_fun ?_
    refine xr_br gd_X7_set rfl rfl (fun h4 => ?_) (fun h4 => ?_)
    · refine xr_blk gd_X7_set 1 (c' := (38, [(0, .ref 72), (1, .int setting), (2, .int value)], [.ref 72], st)) rfl ?_
      refine xr_callV gd_X7_set gd_X7_remember k_X7_49 rfl (c_X7_remember (d + 0) st) (by omega) rfl rfl rfl rfl rfl ?_
      refine xs_fun ?_
      refine xr_blk gd_X7_set 3 (c' := (46, [(0, .ref 72), (1, .int setting), (2, .int value)], [.int setting, .ref 73], (F_X7_remember st))) rfl ?_
      refine xr_iald gd_X7_set rfl rfl (setting.toInt.toNat) (xs_h1 (n := 111) (xm_s01 (by first | exact Or.inl h1 | exact Or.inr h2 | exact Or.inr h3 | exact Or.inr h4 | exact Or.inr h5))) (xs_h2 (n := 111) (xm_s01 (by first | exact Or.inl h1 | exact Or.inr h2 | exact Or.inr h3 | exact Or.inr h4 | exact Or.inr h5))) ?_
      refine xr_blk gd_X7_set 5 (c' := (54, [(0, .ref 72), (1, .int setting), (2, .int value), (3, .int ((F_X7_remember st) 73 setting.toInt.toNat))], [.int value, .int setting, .ref 73], (F_X7_remember st))) rfl ?_
      refine xr_iast gd_X7_set rfl rfl (setting.toInt.toNat) (xs_h1 (n := 111) (xm_s01 (by first | exact Or.inl h1 | exact Or.inr h2 | exact Or.inr h3 | exact Or.inr h4 | exact Or.inr h5))) (xs_h2 (n := 111) (xm_s01 (by first | exact Or.inl h1 | exact Or.inr h2 | exact Or.inr h3 | exact Or.inr h4 | exact Or.inr h5))) ?_
      refine xr_blk gd_X7_set 2 (c' := (57, [(0, .ref 72), (1, .int setting), (2, .int value), (3, .int ((F_X7_remember st) 73 setting.toInt.toNat))], [.int ((F_X7_remember st) 73 setting.toInt.toNat), .ref 72], xs_u (F_X7_remember st) 73 setting.toInt.toNat value)) rfl ?_
      refine xr_callV gd_X7_set gd_X7_record k_X7_52 rfl (c_X7_record (d + 0) (xs_u (F_X7_remember st) 73 setting.toInt.toNat value) ((F_X7_remember st) 73 setting.toInt.toNat) (by rw [xs_rd_k (by decide), re_n (by decide)]; exact hst)) (by omega) rfl rfl rfl rfl rfl ?_
      refine xs_fun ?_
      exact xr_iret gd_X7_set rfl rfl ⟨by first | (rw [F_X7_set, if_pos h1, if_neg h4]; done) | (rw [F_X7_set, if_pos h1, if_neg h4]; rfl), by first | (rw [F_X7_set, if_pos h1, if_neg h4]; done) | (rw [F_X7_set, if_pos h1, if_neg h4]; rfl)⟩
    · refine xr_blk gd_X7_set 2 (c' := (36, [(0, .ref 72), (1, .int setting), (2, .int value)], [.int (-2)], st)) rfl ?_
      exact xr_iret gd_X7_set rfl rfl ⟨by first | (rw [F_X7_set, if_pos h1, if_pos h4]; done) | (rw [F_X7_set, if_pos h1, if_pos h4]; rfl), by first | (rw [F_X7_set, if_pos h1, if_pos h4]; done) | (rw [F_X7_set, if_pos h1, if_pos h4]; rfl)⟩
def F_X7_dial (st : xs_S) : Int32 × xs_S := ((F_X7_record ((F_X7_comes (F_X7_remember st)).2) ((F_X7_comes (F_X7_remember st)).1)).1, (F_X7_record ((F_X7_comes (F_X7_remember st)).2) ((F_X7_comes (F_X7_remember st)).1)).2)
set_option maxRecDepth 20000 in
theorem c_X7_dial {G : xs_G} {base : Nat} (d : Nat) (st : xs_S) (hst : 0 ≤ (st 72 5).toInt ∧ (st 72 5).toInt ≤ 6) : xs_K G base (d + 1) M_X7_dial [.ref 72] st (fun v u => v = some (.int (F_X7_dial st).1) ∧ u = (F_X7_dial st).2) := by
  refine xs_intro ok_X7_dial [(0, .ref 72)] rfl rfl ?_
  refine xr_blk gd_X7_dial 1 (c' := (1, [(0, .ref 72)], [.ref 72], st)) rfl ?_
  refine xr_callV gd_X7_dial gd_X7_remember k_X7_49 rfl (c_X7_remember (d + 0) st) (by omega) rfl rfl rfl rfl rfl ?_
  refine xs_fun ?_
  refine xr_blk gd_X7_dial 2 (c' := (6, [(0, .ref 72)], [.ref 72, .ref 72], (F_X7_remember st))) rfl ?_
  refine xr_callV gd_X7_dial gd_X7_comes k_X7_112 rfl (c_X7_comes (d + 0) (F_X7_remember st)) (by omega) rfl rfl rfl rfl rfl ?_
  refine xs_fun ?_
  refine xr_callV gd_X7_dial gd_X7_record k_X7_52 rfl (c_X7_record (d + 0) ((F_X7_comes (F_X7_remember st)).2) ((F_X7_comes (F_X7_remember st)).1) (by rw [cm_n (by decide), re_n (by decide)]; exact hst)) (by omega) rfl rfl rfl rfl rfl ?_
  refine xs_fun ?_
  exact xr_iret gd_X7_dial rfl rfl ⟨by first | (rw [F_X7_dial]; done) | (rw [F_X7_dial]; rfl), by first | (rw [F_X7_dial]; done) | (rw [F_X7_dial]; rfl)⟩
def F_X7_read (st : xs_S) (dial : Int32) (time : Int32) (doubt : Int32) : Int32 × xs_S := ((F_X7_record ((F_X7_reads (F_X7_remember st) dial time doubt).2) ((F_X7_reads (F_X7_remember st) dial time doubt).1)).1, (F_X7_record ((F_X7_reads (F_X7_remember st) dial time doubt).2) ((F_X7_reads (F_X7_remember st) dial time doubt).1)).2)
set_option maxRecDepth 20000 in
theorem c_X7_read {G : xs_G} {base : Nat} (d : Nat) (st : xs_S) (dial : Int32) (time : Int32) (doubt : Int32) (hst : 0 ≤ (st 72 5).toInt ∧ (st 72 5).toInt ≤ 6) (hD : 0 ≤ (st 73 3).toInt ∧ (st 73 3).toInt ≤ 15) : xs_K G base (d + 3) M_X7_read [.ref 72, .int dial, .int time, .int doubt] st (fun v u => v = some (.int (F_X7_read st dial time doubt).1) ∧ u = (F_X7_read st dial time doubt).2) := by
  refine xs_intro ok_X7_read [(0, .ref 72), (1, .int dial), (2, .int time), (3, .int doubt)] rfl rfl ?_
  refine xr_blk gd_X7_read 1 (c' := (1, [(0, .ref 72), (1, .int dial), (2, .int time), (3, .int doubt)], [.ref 72], st)) rfl ?_
  refine xr_callV gd_X7_read gd_X7_remember k_X7_49 rfl (c_X7_remember (d + 2) st) (by omega) rfl rfl rfl rfl rfl ?_
  refine xs_fun ?_
  refine xr_blk gd_X7_read 5 (c' := (9, [(0, .ref 72), (1, .int dial), (2, .int time), (3, .int doubt)], [.int doubt, .int time, .int dial, .ref 72, .ref 72], (F_X7_remember st))) rfl ?_
  refine xr_callV gd_X7_read gd_X7_reads k_X7_115 rfl (c_X7_reads (d + 0) (F_X7_remember st) dial time doubt (by rw [re_n (by decide)]; exact hD)) (by omega) rfl rfl rfl rfl rfl ?_
  refine xs_fun ?_
  refine xr_callV gd_X7_read gd_X7_record k_X7_52 rfl (c_X7_record (d + 2) ((F_X7_reads (F_X7_remember st) dial time doubt).2) ((F_X7_reads (F_X7_remember st) dial time doubt).1) (by rw [rs_n (by decide), re_n (by decide)]; exact hst)) (by omega) rfl rfl rfl rfl rfl ?_
  refine xs_fun ?_
  exact xr_iret gd_X7_read rfl rfl ⟨by first | (rw [F_X7_read]; done) | (rw [F_X7_read]; rfl), by first | (rw [F_X7_read]; done) | (rw [F_X7_read]; rfl)⟩
def F_X7_pass (st : xs_S) (minutes : Int32) : Int32 × xs_S := ((F_X7_record ((F_X7_waits (F_X7_remember st) minutes).2) ((F_X7_waits (F_X7_remember st) minutes).1)).1, (F_X7_record ((F_X7_waits (F_X7_remember st) minutes).2) ((F_X7_waits (F_X7_remember st) minutes).1)).2)
set_option maxRecDepth 20000 in
theorem c_X7_pass {G : xs_G} {base : Nat} (d : Nat) (st : xs_S) (minutes : Int32) (hst : 0 ≤ (st 72 5).toInt ∧ (st 72 5).toInt ≤ 6) : xs_K G base (d + 2) M_X7_pass [.ref 72, .int minutes] st (fun v u => v = some (.int (F_X7_pass st minutes).1) ∧ u = (F_X7_pass st minutes).2) := by
  refine xs_intro ok_X7_pass [(0, .ref 72), (1, .int minutes)] rfl rfl ?_
  refine xr_blk gd_X7_pass 1 (c' := (1, [(0, .ref 72), (1, .int minutes)], [.ref 72], st)) rfl ?_
  refine xr_callV gd_X7_pass gd_X7_remember k_X7_49 rfl (c_X7_remember (d + 1) st) (by omega) rfl rfl rfl rfl rfl ?_
  refine xs_fun ?_
  refine xr_blk gd_X7_pass 3 (c' := (7, [(0, .ref 72), (1, .int minutes)], [.int minutes, .ref 72, .ref 72], (F_X7_remember st))) rfl ?_
  refine xr_callV gd_X7_pass gd_X7_waits k_X7_119 rfl (c_X7_waits (d + 0) (F_X7_remember st) minutes) (by omega) rfl rfl rfl rfl rfl ?_
  refine xs_fun ?_
  refine xr_callV gd_X7_pass gd_X7_record k_X7_52 rfl (c_X7_record (d + 1) ((F_X7_waits (F_X7_remember st) minutes).2) ((F_X7_waits (F_X7_remember st) minutes).1) (by rw [wa_n (by decide), re_n (by decide)]; exact hst)) (by omega) rfl rfl rfl rfl rfl ?_
  refine xs_fun ?_
  exact xr_iret gd_X7_pass rfl rfl ⟨by first | (rw [F_X7_pass]; done) | (rw [F_X7_pass]; rfl), by first | (rw [F_X7_pass]; done) | (rw [F_X7_pass]; rfl)⟩
def F_X7_agree (st : xs_S) : Int32 × xs_S := ((F_X7_record ((F_X7_agrees (F_X7_remember st)).2) ((F_X7_agrees (F_X7_remember st)).1)).1, (F_X7_record ((F_X7_agrees (F_X7_remember st)).2) ((F_X7_agrees (F_X7_remember st)).1)).2)
set_option maxRecDepth 20000 in
theorem c_X7_agree {G : xs_G} {base : Nat} (d : Nat) (st : xs_S) (hst : 0 ≤ (st 72 5).toInt ∧ (st 72 5).toInt ≤ 6) (hR : RowOK (st 73)) : xs_K G base (d + 6) M_X7_agree [.ref 72] st (fun v u => v = some (.int (F_X7_agree st).1) ∧ u = (F_X7_agree st).2) := by
  refine xs_intro ok_X7_agree [(0, .ref 72)] rfl rfl ?_
  refine xr_blk gd_X7_agree 1 (c' := (1, [(0, .ref 72)], [.ref 72], st)) rfl ?_
  refine xr_callV gd_X7_agree gd_X7_remember k_X7_49 rfl (c_X7_remember (d + 5) st) (by omega) rfl rfl rfl rfl rfl ?_
  refine xs_fun ?_
  refine xr_blk gd_X7_agree 2 (c' := (6, [(0, .ref 72)], [.ref 72, .ref 72], (F_X7_remember st))) rfl ?_
  refine xr_callV gd_X7_agree gd_X7_agrees k_X7_122 rfl (c_X7_agrees (d + 0) (F_X7_remember st) (by rw [re_n (by decide)]; exact hR)) (by omega) rfl rfl rfl rfl rfl ?_
  refine xs_fun ?_
  refine xr_callV gd_X7_agree gd_X7_record k_X7_52 rfl (c_X7_record (d + 5) ((F_X7_agrees (F_X7_remember st)).2) ((F_X7_agrees (F_X7_remember st)).1) (by rw [ag_f (by decide) (by decide) (by decide) (by decide), re_n (by decide)]; exact hst)) (by omega) rfl rfl rfl rfl rfl ?_
  refine xs_fun ?_
  exact xr_iret gd_X7_agree rfl rfl ⟨by first | (rw [F_X7_agree]; done) | (rw [F_X7_agree]; rfl), by first | (rw [F_X7_agree]; done) | (rw [F_X7_agree]; rfl)⟩
