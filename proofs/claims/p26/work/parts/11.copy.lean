def F_X1_copy_1_13 (st : xs_S) : xs_S := xs_ur (xs_ur (xs_ur (xs_ur (xs_ur (xs_u (xs_u (xs_u (xs_u (xs_u (xs_u (xs_u (xs_u st 13 0 (st 1 0)) 13 1 (st 1 1)) 13 2 (st 1 2)) 13 3 (st 1 3)) 13 4 (st 1 4)) 13 5 (st 1 5)) 13 6 (st 1 6)) 13 7 (st 1 7)) 14 (xs_cp15 (st 2) (st 14))) 15 (xs_cp15 (st 3) (st 15))) 16 (xs_cp15 (st 4) (st 16))) 17 (xs_cp15 (st 5) (st 17))) 18 (xs_cp15 (st 6) (st 18))
set_option maxRecDepth 20000 in
theorem c_X1_copy_1_13 {G : xs_G} {base : Nat} (d : Nat) (st : xs_S) : xs_K (xc G) base (d + 1) M_X1_copy [.ref 1, .ref 13] st (fun v u => v = none ∧ u = F_X1_copy_1_13 st) := by
  refine xs_intro ok_X1_copy [(0, .ref 1), (1, .ref 13)] rfl rfl ?_
  refine xr_blk gd_X1_copy 1 (c' := (1, [(0, .ref 1), (1, .ref 13)], [.ref 1], st)) rfl ?_
  refine xr_br gd_X1_copy rfl rfl (fun h => h.elim) (fun _ => ?_)
  refine xr_blk gd_X1_copy 1 (c' := (5, [(0, .ref 1), (1, .ref 13)], [.ref 13], st)) rfl ?_
  refine xr_br gd_X1_copy rfl rfl (fun _ => ?_) (fun h => h.elim)
  refine xr_blk gd_X1_copy 39 (c' := (85, [(0, .ref 1), (1, .ref 13)], [.int 15, .int 0, .ref 14, .int 0, .ref 2], xs_u (xs_u (xs_u (xs_u (xs_u (xs_u (xs_u (xs_u st 13 0 (st 1 0)) 13 1 (st 1 1)) 13 2 (st 1 2)) 13 3 (st 1 3)) 13 4 (st 1 4)) 13 5 (st 1 5)) 13 6 (st 1 6)) 13 7 (st 1 7))) rfl ?_
  refine xr_acopy gd_X1_copy rfl xs_l_ac rfl rfl rfl rfl ?_
  refine xr_blk gd_X1_copy 7 (c' := (100, [(0, .ref 1), (1, .ref 13)], [.int 15, .int 0, .ref 15, .int 0, .ref 3], xs_ur (xs_u (xs_u (xs_u (xs_u (xs_u (xs_u (xs_u (xs_u st 13 0 (st 1 0)) 13 1 (st 1 1)) 13 2 (st 1 2)) 13 3 (st 1 3)) 13 4 (st 1 4)) 13 5 (st 1 5)) 13 6 (st 1 6)) 13 7 (st 1 7)) 14 (xs_cp15 (st 2) (st 14)))) rfl ?_
  refine xr_acopy gd_X1_copy rfl xs_l_ac rfl rfl rfl rfl ?_
  refine xr_blk gd_X1_copy 7 (c' := (115, [(0, .ref 1), (1, .ref 13)], [.int 15, .int 0, .ref 16, .int 0, .ref 4], xs_ur (xs_ur (xs_u (xs_u (xs_u (xs_u (xs_u (xs_u (xs_u (xs_u st 13 0 (st 1 0)) 13 1 (st 1 1)) 13 2 (st 1 2)) 13 3 (st 1 3)) 13 4 (st 1 4)) 13 5 (st 1 5)) 13 6 (st 1 6)) 13 7 (st 1 7)) 14 (xs_cp15 (st 2) (st 14))) 15 (xs_cp15 (st 3) (st 15)))) rfl ?_
  refine xr_acopy gd_X1_copy rfl xs_l_ac rfl rfl rfl rfl ?_
  refine xr_blk gd_X1_copy 7 (c' := (130, [(0, .ref 1), (1, .ref 13)], [.int 15, .int 0, .ref 17, .int 0, .ref 5], xs_ur (xs_ur (xs_ur (xs_u (xs_u (xs_u (xs_u (xs_u (xs_u (xs_u (xs_u st 13 0 (st 1 0)) 13 1 (st 1 1)) 13 2 (st 1 2)) 13 3 (st 1 3)) 13 4 (st 1 4)) 13 5 (st 1 5)) 13 6 (st 1 6)) 13 7 (st 1 7)) 14 (xs_cp15 (st 2) (st 14))) 15 (xs_cp15 (st 3) (st 15))) 16 (xs_cp15 (st 4) (st 16)))) rfl ?_
  refine xr_acopy gd_X1_copy rfl xs_l_ac rfl rfl rfl rfl ?_
  refine xr_blk gd_X1_copy 7 (c' := (145, [(0, .ref 1), (1, .ref 13)], [.int 15, .int 0, .ref 18, .int 0, .ref 6], xs_ur (xs_ur (xs_ur (xs_ur (xs_u (xs_u (xs_u (xs_u (xs_u (xs_u (xs_u (xs_u st 13 0 (st 1 0)) 13 1 (st 1 1)) 13 2 (st 1 2)) 13 3 (st 1 3)) 13 4 (st 1 4)) 13 5 (st 1 5)) 13 6 (st 1 6)) 13 7 (st 1 7)) 14 (xs_cp15 (st 2) (st 14))) 15 (xs_cp15 (st 3) (st 15))) 16 (xs_cp15 (st 4) (st 16))) 17 (xs_cp15 (st 5) (st 17)))) rfl ?_
  refine xr_acopy gd_X1_copy rfl xs_l_ac rfl rfl rfl rfl ?_
  exact xr_vret gd_X1_copy rfl rfl ⟨rfl, by first | (rw [F_X1_copy_1_13]; done) | (rw [F_X1_copy_1_13]; rfl)⟩
def F_X1_copy_1_19 (st : xs_S) : xs_S := xs_ur (xs_ur (xs_ur (xs_ur (xs_ur (xs_u (xs_u (xs_u (xs_u (xs_u (xs_u (xs_u (xs_u st 19 0 (st 1 0)) 19 1 (st 1 1)) 19 2 (st 1 2)) 19 3 (st 1 3)) 19 4 (st 1 4)) 19 5 (st 1 5)) 19 6 (st 1 6)) 19 7 (st 1 7)) 20 (xs_cp15 (st 2) (st 20))) 21 (xs_cp15 (st 3) (st 21))) 22 (xs_cp15 (st 4) (st 22))) 23 (xs_cp15 (st 5) (st 23))) 24 (xs_cp15 (st 6) (st 24))
set_option maxRecDepth 20000 in
theorem c_X1_copy_1_19 {G : xs_G} {base : Nat} (d : Nat) (st : xs_S) : xs_K (xc G) base (d + 1) M_X1_copy [.ref 1, .ref 19] st (fun v u => v = none ∧ u = F_X1_copy_1_19 st) := by
  refine xs_intro ok_X1_copy [(0, .ref 1), (1, .ref 19)] rfl rfl ?_
  refine xr_blk gd_X1_copy 1 (c' := (1, [(0, .ref 1), (1, .ref 19)], [.ref 1], st)) rfl ?_
  refine xr_br gd_X1_copy rfl rfl (fun h => h.elim) (fun _ => ?_)
  refine xr_blk gd_X1_copy 1 (c' := (5, [(0, .ref 1), (1, .ref 19)], [.ref 19], st)) rfl ?_
  refine xr_br gd_X1_copy rfl rfl (fun _ => ?_) (fun h => h.elim)
  refine xr_blk gd_X1_copy 39 (c' := (85, [(0, .ref 1), (1, .ref 19)], [.int 15, .int 0, .ref 20, .int 0, .ref 2], xs_u (xs_u (xs_u (xs_u (xs_u (xs_u (xs_u (xs_u st 19 0 (st 1 0)) 19 1 (st 1 1)) 19 2 (st 1 2)) 19 3 (st 1 3)) 19 4 (st 1 4)) 19 5 (st 1 5)) 19 6 (st 1 6)) 19 7 (st 1 7))) rfl ?_
  refine xr_acopy gd_X1_copy rfl xs_l_ac rfl rfl rfl rfl ?_
  refine xr_blk gd_X1_copy 7 (c' := (100, [(0, .ref 1), (1, .ref 19)], [.int 15, .int 0, .ref 21, .int 0, .ref 3], xs_ur (xs_u (xs_u (xs_u (xs_u (xs_u (xs_u (xs_u (xs_u st 19 0 (st 1 0)) 19 1 (st 1 1)) 19 2 (st 1 2)) 19 3 (st 1 3)) 19 4 (st 1 4)) 19 5 (st 1 5)) 19 6 (st 1 6)) 19 7 (st 1 7)) 20 (xs_cp15 (st 2) (st 20)))) rfl ?_
  refine xr_acopy gd_X1_copy rfl xs_l_ac rfl rfl rfl rfl ?_
  refine xr_blk gd_X1_copy 7 (c' := (115, [(0, .ref 1), (1, .ref 19)], [.int 15, .int 0, .ref 22, .int 0, .ref 4], xs_ur (xs_ur (xs_u (xs_u (xs_u (xs_u (xs_u (xs_u (xs_u (xs_u st 19 0 (st 1 0)) 19 1 (st 1 1)) 19 2 (st 1 2)) 19 3 (st 1 3)) 19 4 (st 1 4)) 19 5 (st 1 5)) 19 6 (st 1 6)) 19 7 (st 1 7)) 20 (xs_cp15 (st 2) (st 20))) 21 (xs_cp15 (st 3) (st 21)))) rfl ?_
  refine xr_acopy gd_X1_copy rfl xs_l_ac rfl rfl rfl rfl ?_
  refine xr_blk gd_X1_copy 7 (c' := (130, [(0, .ref 1), (1, .ref 19)], [.int 15, .int 0, .ref 23, .int 0, .ref 5], xs_ur (xs_ur (xs_ur (xs_u (xs_u (xs_u (xs_u (xs_u (xs_u (xs_u (xs_u st 19 0 (st 1 0)) 19 1 (st 1 1)) 19 2 (st 1 2)) 19 3 (st 1 3)) 19 4 (st 1 4)) 19 5 (st 1 5)) 19 6 (st 1 6)) 19 7 (st 1 7)) 20 (xs_cp15 (st 2) (st 20))) 21 (xs_cp15 (st 3) (st 21))) 22 (xs_cp15 (st 4) (st 22)))) rfl ?_
  refine xr_acopy gd_X1_copy rfl xs_l_ac rfl rfl rfl rfl ?_
  refine xr_blk gd_X1_copy 7 (c' := (145, [(0, .ref 1), (1, .ref 19)], [.int 15, .int 0, .ref 24, .int 0, .ref 6], xs_ur (xs_ur (xs_ur (xs_ur (xs_u (xs_u (xs_u (xs_u (xs_u (xs_u (xs_u (xs_u st 19 0 (st 1 0)) 19 1 (st 1 1)) 19 2 (st 1 2)) 19 3 (st 1 3)) 19 4 (st 1 4)) 19 5 (st 1 5)) 19 6 (st 1 6)) 19 7 (st 1 7)) 20 (xs_cp15 (st 2) (st 20))) 21 (xs_cp15 (st 3) (st 21))) 22 (xs_cp15 (st 4) (st 22))) 23 (xs_cp15 (st 5) (st 23)))) rfl ?_
  refine xr_acopy gd_X1_copy rfl xs_l_ac rfl rfl rfl rfl ?_
  exact xr_vret gd_X1_copy rfl rfl ⟨rfl, by first | (rw [F_X1_copy_1_19]; done) | (rw [F_X1_copy_1_19]; rfl)⟩
def F_X1_copy_1_25 (st : xs_S) : xs_S := xs_ur (xs_ur (xs_ur (xs_ur (xs_ur (xs_u (xs_u (xs_u (xs_u (xs_u (xs_u (xs_u (xs_u st 25 0 (st 1 0)) 25 1 (st 1 1)) 25 2 (st 1 2)) 25 3 (st 1 3)) 25 4 (st 1 4)) 25 5 (st 1 5)) 25 6 (st 1 6)) 25 7 (st 1 7)) 26 (xs_cp15 (st 2) (st 26))) 27 (xs_cp15 (st 3) (st 27))) 28 (xs_cp15 (st 4) (st 28))) 29 (xs_cp15 (st 5) (st 29))) 30 (xs_cp15 (st 6) (st 30))
set_option maxRecDepth 20000 in
theorem c_X1_copy_1_25 {G : xs_G} {base : Nat} (d : Nat) (st : xs_S) : xs_K (xc G) base (d + 1) M_X1_copy [.ref 1, .ref 25] st (fun v u => v = none ∧ u = F_X1_copy_1_25 st) := by
  refine xs_intro ok_X1_copy [(0, .ref 1), (1, .ref 25)] rfl rfl ?_
  refine xr_blk gd_X1_copy 1 (c' := (1, [(0, .ref 1), (1, .ref 25)], [.ref 1], st)) rfl ?_
  refine xr_br gd_X1_copy rfl rfl (fun h => h.elim) (fun _ => ?_)
  refine xr_blk gd_X1_copy 1 (c' := (5, [(0, .ref 1), (1, .ref 25)], [.ref 25], st)) rfl ?_
  refine xr_br gd_X1_copy rfl rfl (fun _ => ?_) (fun h => h.elim)
  refine xr_blk gd_X1_copy 39 (c' := (85, [(0, .ref 1), (1, .ref 25)], [.int 15, .int 0, .ref 26, .int 0, .ref 2], xs_u (xs_u (xs_u (xs_u (xs_u (xs_u (xs_u (xs_u st 25 0 (st 1 0)) 25 1 (st 1 1)) 25 2 (st 1 2)) 25 3 (st 1 3)) 25 4 (st 1 4)) 25 5 (st 1 5)) 25 6 (st 1 6)) 25 7 (st 1 7))) rfl ?_
  refine xr_acopy gd_X1_copy rfl xs_l_ac rfl rfl rfl rfl ?_
  refine xr_blk gd_X1_copy 7 (c' := (100, [(0, .ref 1), (1, .ref 25)], [.int 15, .int 0, .ref 27, .int 0, .ref 3], xs_ur (xs_u (xs_u (xs_u (xs_u (xs_u (xs_u (xs_u (xs_u st 25 0 (st 1 0)) 25 1 (st 1 1)) 25 2 (st 1 2)) 25 3 (st 1 3)) 25 4 (st 1 4)) 25 5 (st 1 5)) 25 6 (st 1 6)) 25 7 (st 1 7)) 26 (xs_cp15 (st 2) (st 26)))) rfl ?_
  refine xr_acopy gd_X1_copy rfl xs_l_ac rfl rfl rfl rfl ?_
  refine xr_blk gd_X1_copy 7 (c' := (115, [(0, .ref 1), (1, .ref 25)], [.int 15, .int 0, .ref 28, .int 0, .ref 4], xs_ur (xs_ur (xs_u (xs_u (xs_u (xs_u (xs_u (xs_u (xs_u (xs_u st 25 0 (st 1 0)) 25 1 (st 1 1)) 25 2 (st 1 2)) 25 3 (st 1 3)) 25 4 (st 1 4)) 25 5 (st 1 5)) 25 6 (st 1 6)) 25 7 (st 1 7)) 26 (xs_cp15 (st 2) (st 26))) 27 (xs_cp15 (st 3) (st 27)))) rfl ?_
  refine xr_acopy gd_X1_copy rfl xs_l_ac rfl rfl rfl rfl ?_
  refine xr_blk gd_X1_copy 7 (c' := (130, [(0, .ref 1), (1, .ref 25)], [.int 15, .int 0, .ref 29, .int 0, .ref 5], xs_ur (xs_ur (xs_ur (xs_u (xs_u (xs_u (xs_u (xs_u (xs_u (xs_u (xs_u st 25 0 (st 1 0)) 25 1 (st 1 1)) 25 2 (st 1 2)) 25 3 (st 1 3)) 25 4 (st 1 4)) 25 5 (st 1 5)) 25 6 (st 1 6)) 25 7 (st 1 7)) 26 (xs_cp15 (st 2) (st 26))) 27 (xs_cp15 (st 3) (st 27))) 28 (xs_cp15 (st 4) (st 28)))) rfl ?_
  refine xr_acopy gd_X1_copy rfl xs_l_ac rfl rfl rfl rfl ?_
  refine xr_blk gd_X1_copy 7 (c' := (145, [(0, .ref 1), (1, .ref 25)], [.int 15, .int 0, .ref 30, .int 0, .ref 6], xs_ur (xs_ur (xs_ur (xs_ur (xs_u (xs_u (xs_u (xs_u (xs_u (xs_u (xs_u (xs_u st 25 0 (st 1 0)) 25 1 (st 1 1)) 25 2 (st 1 2)) 25 3 (st 1 3)) 25 4 (st 1 4)) 25 5 (st 1 5)) 25 6 (st 1 6)) 25 7 (st 1 7)) 26 (xs_cp15 (st 2) (st 26))) 27 (xs_cp15 (st 3) (st 27))) 28 (xs_cp15 (st 4) (st 28))) 29 (xs_cp15 (st 5) (st 29)))) rfl ?_
  refine xr_acopy gd_X1_copy rfl xs_l_ac rfl rfl rfl rfl ?_
  exact xr_vret gd_X1_copy rfl rfl ⟨rfl, by first | (rw [F_X1_copy_1_25]; done) | (rw [F_X1_copy_1_25]; rfl)⟩
def F_X1_copy_1_31 (st : xs_S) : xs_S := xs_ur (xs_ur (xs_ur (xs_ur (xs_ur (xs_u (xs_u (xs_u (xs_u (xs_u (xs_u (xs_u (xs_u st 31 0 (st 1 0)) 31 1 (st 1 1)) 31 2 (st 1 2)) 31 3 (st 1 3)) 31 4 (st 1 4)) 31 5 (st 1 5)) 31 6 (st 1 6)) 31 7 (st 1 7)) 32 (xs_cp15 (st 2) (st 32))) 33 (xs_cp15 (st 3) (st 33))) 34 (xs_cp15 (st 4) (st 34))) 35 (xs_cp15 (st 5) (st 35))) 36 (xs_cp15 (st 6) (st 36))
set_option maxRecDepth 20000 in
theorem c_X1_copy_1_31 {G : xs_G} {base : Nat} (d : Nat) (st : xs_S) : xs_K (xc G) base (d + 1) M_X1_copy [.ref 1, .ref 31] st (fun v u => v = none ∧ u = F_X1_copy_1_31 st) := by
  refine xs_intro ok_X1_copy [(0, .ref 1), (1, .ref 31)] rfl rfl ?_
  refine xr_blk gd_X1_copy 1 (c' := (1, [(0, .ref 1), (1, .ref 31)], [.ref 1], st)) rfl ?_
  refine xr_br gd_X1_copy rfl rfl (fun h => h.elim) (fun _ => ?_)
  refine xr_blk gd_X1_copy 1 (c' := (5, [(0, .ref 1), (1, .ref 31)], [.ref 31], st)) rfl ?_
  refine xr_br gd_X1_copy rfl rfl (fun _ => ?_) (fun h => h.elim)
  refine xr_blk gd_X1_copy 39 (c' := (85, [(0, .ref 1), (1, .ref 31)], [.int 15, .int 0, .ref 32, .int 0, .ref 2], xs_u (xs_u (xs_u (xs_u (xs_u (xs_u (xs_u (xs_u st 31 0 (st 1 0)) 31 1 (st 1 1)) 31 2 (st 1 2)) 31 3 (st 1 3)) 31 4 (st 1 4)) 31 5 (st 1 5)) 31 6 (st 1 6)) 31 7 (st 1 7))) rfl ?_
  refine xr_acopy gd_X1_copy rfl xs_l_ac rfl rfl rfl rfl ?_
  refine xr_blk gd_X1_copy 7 (c' := (100, [(0, .ref 1), (1, .ref 31)], [.int 15, .int 0, .ref 33, .int 0, .ref 3], xs_ur (xs_u (xs_u (xs_u (xs_u (xs_u (xs_u (xs_u (xs_u st 31 0 (st 1 0)) 31 1 (st 1 1)) 31 2 (st 1 2)) 31 3 (st 1 3)) 31 4 (st 1 4)) 31 5 (st 1 5)) 31 6 (st 1 6)) 31 7 (st 1 7)) 32 (xs_cp15 (st 2) (st 32)))) rfl ?_
  refine xr_acopy gd_X1_copy rfl xs_l_ac rfl rfl rfl rfl ?_
  refine xr_blk gd_X1_copy 7 (c' := (115, [(0, .ref 1), (1, .ref 31)], [.int 15, .int 0, .ref 34, .int 0, .ref 4], xs_ur (xs_ur (xs_u (xs_u (xs_u (xs_u (xs_u (xs_u (xs_u (xs_u st 31 0 (st 1 0)) 31 1 (st 1 1)) 31 2 (st 1 2)) 31 3 (st 1 3)) 31 4 (st 1 4)) 31 5 (st 1 5)) 31 6 (st 1 6)) 31 7 (st 1 7)) 32 (xs_cp15 (st 2) (st 32))) 33 (xs_cp15 (st 3) (st 33)))) rfl ?_
  refine xr_acopy gd_X1_copy rfl xs_l_ac rfl rfl rfl rfl ?_
  refine xr_blk gd_X1_copy 7 (c' := (130, [(0, .ref 1), (1, .ref 31)], [.int 15, .int 0, .ref 35, .int 0, .ref 5], xs_ur (xs_ur (xs_ur (xs_u (xs_u (xs_u (xs_u (xs_u (xs_u (xs_u (xs_u st 31 0 (st 1 0)) 31 1 (st 1 1)) 31 2 (st 1 2)) 31 3 (st 1 3)) 31 4 (st 1 4)) 31 5 (st 1 5)) 31 6 (st 1 6)) 31 7 (st 1 7)) 32 (xs_cp15 (st 2) (st 32))) 33 (xs_cp15 (st 3) (st 33))) 34 (xs_cp15 (st 4) (st 34)))) rfl ?_
  refine xr_acopy gd_X1_copy rfl xs_l_ac rfl rfl rfl rfl ?_
  refine xr_blk gd_X1_copy 7 (c' := (145, [(0, .ref 1), (1, .ref 31)], [.int 15, .int 0, .ref 36, .int 0, .ref 6], xs_ur (xs_ur (xs_ur (xs_ur (xs_u (xs_u (xs_u (xs_u (xs_u (xs_u (xs_u (xs_u st 31 0 (st 1 0)) 31 1 (st 1 1)) 31 2 (st 1 2)) 31 3 (st 1 3)) 31 4 (st 1 4)) 31 5 (st 1 5)) 31 6 (st 1 6)) 31 7 (st 1 7)) 32 (xs_cp15 (st 2) (st 32))) 33 (xs_cp15 (st 3) (st 33))) 34 (xs_cp15 (st 4) (st 34))) 35 (xs_cp15 (st 5) (st 35)))) rfl ?_
  refine xr_acopy gd_X1_copy rfl xs_l_ac rfl rfl rfl rfl ?_
  exact xr_vret gd_X1_copy rfl rfl ⟨rfl, by first | (rw [F_X1_copy_1_31]; done) | (rw [F_X1_copy_1_31]; rfl)⟩
def F_X1_copy_1_37 (st : xs_S) : xs_S := xs_ur (xs_ur (xs_ur (xs_ur (xs_ur (xs_u (xs_u (xs_u (xs_u (xs_u (xs_u (xs_u (xs_u st 37 0 (st 1 0)) 37 1 (st 1 1)) 37 2 (st 1 2)) 37 3 (st 1 3)) 37 4 (st 1 4)) 37 5 (st 1 5)) 37 6 (st 1 6)) 37 7 (st 1 7)) 38 (xs_cp15 (st 2) (st 38))) 39 (xs_cp15 (st 3) (st 39))) 40 (xs_cp15 (st 4) (st 40))) 41 (xs_cp15 (st 5) (st 41))) 42 (xs_cp15 (st 6) (st 42))
set_option maxRecDepth 20000 in
theorem c_X1_copy_1_37 {G : xs_G} {base : Nat} (d : Nat) (st : xs_S) : xs_K (xc G) base (d + 1) M_X1_copy [.ref 1, .ref 37] st (fun v u => v = none ∧ u = F_X1_copy_1_37 st) := by
  refine xs_intro ok_X1_copy [(0, .ref 1), (1, .ref 37)] rfl rfl ?_
  refine xr_blk gd_X1_copy 1 (c' := (1, [(0, .ref 1), (1, .ref 37)], [.ref 1], st)) rfl ?_
  refine xr_br gd_X1_copy rfl rfl (fun h => h.elim) (fun _ => ?_)
  refine xr_blk gd_X1_copy 1 (c' := (5, [(0, .ref 1), (1, .ref 37)], [.ref 37], st)) rfl ?_
  refine xr_br gd_X1_copy rfl rfl (fun _ => ?_) (fun h => h.elim)
  refine xr_blk gd_X1_copy 39 (c' := (85, [(0, .ref 1), (1, .ref 37)], [.int 15, .int 0, .ref 38, .int 0, .ref 2], xs_u (xs_u (xs_u (xs_u (xs_u (xs_u (xs_u (xs_u st 37 0 (st 1 0)) 37 1 (st 1 1)) 37 2 (st 1 2)) 37 3 (st 1 3)) 37 4 (st 1 4)) 37 5 (st 1 5)) 37 6 (st 1 6)) 37 7 (st 1 7))) rfl ?_
  refine xr_acopy gd_X1_copy rfl xs_l_ac rfl rfl rfl rfl ?_
  refine xr_blk gd_X1_copy 7 (c' := (100, [(0, .ref 1), (1, .ref 37)], [.int 15, .int 0, .ref 39, .int 0, .ref 3], xs_ur (xs_u (xs_u (xs_u (xs_u (xs_u (xs_u (xs_u (xs_u st 37 0 (st 1 0)) 37 1 (st 1 1)) 37 2 (st 1 2)) 37 3 (st 1 3)) 37 4 (st 1 4)) 37 5 (st 1 5)) 37 6 (st 1 6)) 37 7 (st 1 7)) 38 (xs_cp15 (st 2) (st 38)))) rfl ?_
  refine xr_acopy gd_X1_copy rfl xs_l_ac rfl rfl rfl rfl ?_
  refine xr_blk gd_X1_copy 7 (c' := (115, [(0, .ref 1), (1, .ref 37)], [.int 15, .int 0, .ref 40, .int 0, .ref 4], xs_ur (xs_ur (xs_u (xs_u (xs_u (xs_u (xs_u (xs_u (xs_u (xs_u st 37 0 (st 1 0)) 37 1 (st 1 1)) 37 2 (st 1 2)) 37 3 (st 1 3)) 37 4 (st 1 4)) 37 5 (st 1 5)) 37 6 (st 1 6)) 37 7 (st 1 7)) 38 (xs_cp15 (st 2) (st 38))) 39 (xs_cp15 (st 3) (st 39)))) rfl ?_
  refine xr_acopy gd_X1_copy rfl xs_l_ac rfl rfl rfl rfl ?_
  refine xr_blk gd_X1_copy 7 (c' := (130, [(0, .ref 1), (1, .ref 37)], [.int 15, .int 0, .ref 41, .int 0, .ref 5], xs_ur (xs_ur (xs_ur (xs_u (xs_u (xs_u (xs_u (xs_u (xs_u (xs_u (xs_u st 37 0 (st 1 0)) 37 1 (st 1 1)) 37 2 (st 1 2)) 37 3 (st 1 3)) 37 4 (st 1 4)) 37 5 (st 1 5)) 37 6 (st 1 6)) 37 7 (st 1 7)) 38 (xs_cp15 (st 2) (st 38))) 39 (xs_cp15 (st 3) (st 39))) 40 (xs_cp15 (st 4) (st 40)))) rfl ?_
  refine xr_acopy gd_X1_copy rfl xs_l_ac rfl rfl rfl rfl ?_
  refine xr_blk gd_X1_copy 7 (c' := (145, [(0, .ref 1), (1, .ref 37)], [.int 15, .int 0, .ref 42, .int 0, .ref 6], xs_ur (xs_ur (xs_ur (xs_ur (xs_u (xs_u (xs_u (xs_u (xs_u (xs_u (xs_u (xs_u st 37 0 (st 1 0)) 37 1 (st 1 1)) 37 2 (st 1 2)) 37 3 (st 1 3)) 37 4 (st 1 4)) 37 5 (st 1 5)) 37 6 (st 1 6)) 37 7 (st 1 7)) 38 (xs_cp15 (st 2) (st 38))) 39 (xs_cp15 (st 3) (st 39))) 40 (xs_cp15 (st 4) (st 40))) 41 (xs_cp15 (st 5) (st 41)))) rfl ?_
  refine xr_acopy gd_X1_copy rfl xs_l_ac rfl rfl rfl rfl ?_
  exact xr_vret gd_X1_copy rfl rfl ⟨rfl, by first | (rw [F_X1_copy_1_37]; done) | (rw [F_X1_copy_1_37]; rfl)⟩
def F_X1_copy_1_43 (st : xs_S) : xs_S := xs_ur (xs_ur (xs_ur (xs_ur (xs_ur (xs_u (xs_u (xs_u (xs_u (xs_u (xs_u (xs_u (xs_u st 43 0 (st 1 0)) 43 1 (st 1 1)) 43 2 (st 1 2)) 43 3 (st 1 3)) 43 4 (st 1 4)) 43 5 (st 1 5)) 43 6 (st 1 6)) 43 7 (st 1 7)) 44 (xs_cp15 (st 2) (st 44))) 45 (xs_cp15 (st 3) (st 45))) 46 (xs_cp15 (st 4) (st 46))) 47 (xs_cp15 (st 5) (st 47))) 48 (xs_cp15 (st 6) (st 48))
set_option maxRecDepth 20000 in
theorem c_X1_copy_1_43 {G : xs_G} {base : Nat} (d : Nat) (st : xs_S) : xs_K (xc G) base (d + 1) M_X1_copy [.ref 1, .ref 43] st (fun v u => v = none ∧ u = F_X1_copy_1_43 st) := by
  refine xs_intro ok_X1_copy [(0, .ref 1), (1, .ref 43)] rfl rfl ?_
  refine xr_blk gd_X1_copy 1 (c' := (1, [(0, .ref 1), (1, .ref 43)], [.ref 1], st)) rfl ?_
  refine xr_br gd_X1_copy rfl rfl (fun h => h.elim) (fun _ => ?_)
  refine xr_blk gd_X1_copy 1 (c' := (5, [(0, .ref 1), (1, .ref 43)], [.ref 43], st)) rfl ?_
  refine xr_br gd_X1_copy rfl rfl (fun _ => ?_) (fun h => h.elim)
  refine xr_blk gd_X1_copy 39 (c' := (85, [(0, .ref 1), (1, .ref 43)], [.int 15, .int 0, .ref 44, .int 0, .ref 2], xs_u (xs_u (xs_u (xs_u (xs_u (xs_u (xs_u (xs_u st 43 0 (st 1 0)) 43 1 (st 1 1)) 43 2 (st 1 2)) 43 3 (st 1 3)) 43 4 (st 1 4)) 43 5 (st 1 5)) 43 6 (st 1 6)) 43 7 (st 1 7))) rfl ?_
  refine xr_acopy gd_X1_copy rfl xs_l_ac rfl rfl rfl rfl ?_
  refine xr_blk gd_X1_copy 7 (c' := (100, [(0, .ref 1), (1, .ref 43)], [.int 15, .int 0, .ref 45, .int 0, .ref 3], xs_ur (xs_u (xs_u (xs_u (xs_u (xs_u (xs_u (xs_u (xs_u st 43 0 (st 1 0)) 43 1 (st 1 1)) 43 2 (st 1 2)) 43 3 (st 1 3)) 43 4 (st 1 4)) 43 5 (st 1 5)) 43 6 (st 1 6)) 43 7 (st 1 7)) 44 (xs_cp15 (st 2) (st 44)))) rfl ?_
  refine xr_acopy gd_X1_copy rfl xs_l_ac rfl rfl rfl rfl ?_
  refine xr_blk gd_X1_copy 7 (c' := (115, [(0, .ref 1), (1, .ref 43)], [.int 15, .int 0, .ref 46, .int 0, .ref 4], xs_ur (xs_ur (xs_u (xs_u (xs_u (xs_u (xs_u (xs_u (xs_u (xs_u st 43 0 (st 1 0)) 43 1 (st 1 1)) 43 2 (st 1 2)) 43 3 (st 1 3)) 43 4 (st 1 4)) 43 5 (st 1 5)) 43 6 (st 1 6)) 43 7 (st 1 7)) 44 (xs_cp15 (st 2) (st 44))) 45 (xs_cp15 (st 3) (st 45)))) rfl ?_
  refine xr_acopy gd_X1_copy rfl xs_l_ac rfl rfl rfl rfl ?_
  refine xr_blk gd_X1_copy 7 (c' := (130, [(0, .ref 1), (1, .ref 43)], [.int 15, .int 0, .ref 47, .int 0, .ref 5], xs_ur (xs_ur (xs_ur (xs_u (xs_u (xs_u (xs_u (xs_u (xs_u (xs_u (xs_u st 43 0 (st 1 0)) 43 1 (st 1 1)) 43 2 (st 1 2)) 43 3 (st 1 3)) 43 4 (st 1 4)) 43 5 (st 1 5)) 43 6 (st 1 6)) 43 7 (st 1 7)) 44 (xs_cp15 (st 2) (st 44))) 45 (xs_cp15 (st 3) (st 45))) 46 (xs_cp15 (st 4) (st 46)))) rfl ?_
  refine xr_acopy gd_X1_copy rfl xs_l_ac rfl rfl rfl rfl ?_
  refine xr_blk gd_X1_copy 7 (c' := (145, [(0, .ref 1), (1, .ref 43)], [.int 15, .int 0, .ref 48, .int 0, .ref 6], xs_ur (xs_ur (xs_ur (xs_ur (xs_u (xs_u (xs_u (xs_u (xs_u (xs_u (xs_u (xs_u st 43 0 (st 1 0)) 43 1 (st 1 1)) 43 2 (st 1 2)) 43 3 (st 1 3)) 43 4 (st 1 4)) 43 5 (st 1 5)) 43 6 (st 1 6)) 43 7 (st 1 7)) 44 (xs_cp15 (st 2) (st 44))) 45 (xs_cp15 (st 3) (st 45))) 46 (xs_cp15 (st 4) (st 46))) 47 (xs_cp15 (st 5) (st 47)))) rfl ?_
  refine xr_acopy gd_X1_copy rfl xs_l_ac rfl rfl rfl rfl ?_
  exact xr_vret gd_X1_copy rfl rfl ⟨rfl, by first | (rw [F_X1_copy_1_43]; done) | (rw [F_X1_copy_1_43]; rfl)⟩
def F_X1_copy_1_49 (st : xs_S) : xs_S := xs_ur (xs_ur (xs_ur (xs_ur (xs_ur (xs_u (xs_u (xs_u (xs_u (xs_u (xs_u (xs_u (xs_u st 49 0 (st 1 0)) 49 1 (st 1 1)) 49 2 (st 1 2)) 49 3 (st 1 3)) 49 4 (st 1 4)) 49 5 (st 1 5)) 49 6 (st 1 6)) 49 7 (st 1 7)) 50 (xs_cp15 (st 2) (st 50))) 51 (xs_cp15 (st 3) (st 51))) 52 (xs_cp15 (st 4) (st 52))) 53 (xs_cp15 (st 5) (st 53))) 54 (xs_cp15 (st 6) (st 54))
set_option maxRecDepth 20000 in
theorem c_X1_copy_1_49 {G : xs_G} {base : Nat} (d : Nat) (st : xs_S) : xs_K (xc G) base (d + 1) M_X1_copy [.ref 1, .ref 49] st (fun v u => v = none ∧ u = F_X1_copy_1_49 st) := by
  refine xs_intro ok_X1_copy [(0, .ref 1), (1, .ref 49)] rfl rfl ?_
  refine xr_blk gd_X1_copy 1 (c' := (1, [(0, .ref 1), (1, .ref 49)], [.ref 1], st)) rfl ?_
  refine xr_br gd_X1_copy rfl rfl (fun h => h.elim) (fun _ => ?_)
  refine xr_blk gd_X1_copy 1 (c' := (5, [(0, .ref 1), (1, .ref 49)], [.ref 49], st)) rfl ?_
  refine xr_br gd_X1_copy rfl rfl (fun _ => ?_) (fun h => h.elim)
  refine xr_blk gd_X1_copy 39 (c' := (85, [(0, .ref 1), (1, .ref 49)], [.int 15, .int 0, .ref 50, .int 0, .ref 2], xs_u (xs_u (xs_u (xs_u (xs_u (xs_u (xs_u (xs_u st 49 0 (st 1 0)) 49 1 (st 1 1)) 49 2 (st 1 2)) 49 3 (st 1 3)) 49 4 (st 1 4)) 49 5 (st 1 5)) 49 6 (st 1 6)) 49 7 (st 1 7))) rfl ?_
  refine xr_acopy gd_X1_copy rfl xs_l_ac rfl rfl rfl rfl ?_
  refine xr_blk gd_X1_copy 7 (c' := (100, [(0, .ref 1), (1, .ref 49)], [.int 15, .int 0, .ref 51, .int 0, .ref 3], xs_ur (xs_u (xs_u (xs_u (xs_u (xs_u (xs_u (xs_u (xs_u st 49 0 (st 1 0)) 49 1 (st 1 1)) 49 2 (st 1 2)) 49 3 (st 1 3)) 49 4 (st 1 4)) 49 5 (st 1 5)) 49 6 (st 1 6)) 49 7 (st 1 7)) 50 (xs_cp15 (st 2) (st 50)))) rfl ?_
  refine xr_acopy gd_X1_copy rfl xs_l_ac rfl rfl rfl rfl ?_
  refine xr_blk gd_X1_copy 7 (c' := (115, [(0, .ref 1), (1, .ref 49)], [.int 15, .int 0, .ref 52, .int 0, .ref 4], xs_ur (xs_ur (xs_u (xs_u (xs_u (xs_u (xs_u (xs_u (xs_u (xs_u st 49 0 (st 1 0)) 49 1 (st 1 1)) 49 2 (st 1 2)) 49 3 (st 1 3)) 49 4 (st 1 4)) 49 5 (st 1 5)) 49 6 (st 1 6)) 49 7 (st 1 7)) 50 (xs_cp15 (st 2) (st 50))) 51 (xs_cp15 (st 3) (st 51)))) rfl ?_
  refine xr_acopy gd_X1_copy rfl xs_l_ac rfl rfl rfl rfl ?_
  refine xr_blk gd_X1_copy 7 (c' := (130, [(0, .ref 1), (1, .ref 49)], [.int 15, .int 0, .ref 53, .int 0, .ref 5], xs_ur (xs_ur (xs_ur (xs_u (xs_u (xs_u (xs_u (xs_u (xs_u (xs_u (xs_u st 49 0 (st 1 0)) 49 1 (st 1 1)) 49 2 (st 1 2)) 49 3 (st 1 3)) 49 4 (st 1 4)) 49 5 (st 1 5)) 49 6 (st 1 6)) 49 7 (st 1 7)) 50 (xs_cp15 (st 2) (st 50))) 51 (xs_cp15 (st 3) (st 51))) 52 (xs_cp15 (st 4) (st 52)))) rfl ?_
  refine xr_acopy gd_X1_copy rfl xs_l_ac rfl rfl rfl rfl ?_
  refine xr_blk gd_X1_copy 7 (c' := (145, [(0, .ref 1), (1, .ref 49)], [.int 15, .int 0, .ref 54, .int 0, .ref 6], xs_ur (xs_ur (xs_ur (xs_ur (xs_u (xs_u (xs_u (xs_u (xs_u (xs_u (xs_u (xs_u st 49 0 (st 1 0)) 49 1 (st 1 1)) 49 2 (st 1 2)) 49 3 (st 1 3)) 49 4 (st 1 4)) 49 5 (st 1 5)) 49 6 (st 1 6)) 49 7 (st 1 7)) 50 (xs_cp15 (st 2) (st 50))) 51 (xs_cp15 (st 3) (st 51))) 52 (xs_cp15 (st 4) (st 52))) 53 (xs_cp15 (st 5) (st 53)))) rfl ?_
  refine xr_acopy gd_X1_copy rfl xs_l_ac rfl rfl rfl rfl ?_
  exact xr_vret gd_X1_copy rfl rfl ⟨rfl, by first | (rw [F_X1_copy_1_49]; done) | (rw [F_X1_copy_1_49]; rfl)⟩
def F_X1_copy_13_1 (st : xs_S) : xs_S := xs_ur (xs_ur (xs_ur (xs_ur (xs_ur (xs_u (xs_u (xs_u (xs_u (xs_u (xs_u (xs_u (xs_u st 1 0 (st 13 0)) 1 1 (st 13 1)) 1 2 (st 13 2)) 1 3 (st 13 3)) 1 4 (st 13 4)) 1 5 (st 13 5)) 1 6 (st 13 6)) 1 7 (st 13 7)) 2 (xs_cp15 (st 14) (st 2))) 3 (xs_cp15 (st 15) (st 3))) 4 (xs_cp15 (st 16) (st 4))) 5 (xs_cp15 (st 17) (st 5))) 6 (xs_cp15 (st 18) (st 6))
set_option maxRecDepth 20000 in
theorem c_X1_copy_13_1 {G : xs_G} {base : Nat} (d : Nat) (st : xs_S) : xs_K (xc G) base (d + 1) M_X1_copy [.ref 13, .ref 1] st (fun v u => v = none ∧ u = F_X1_copy_13_1 st) := by
  refine xs_intro ok_X1_copy [(0, .ref 13), (1, .ref 1)] rfl rfl ?_
  refine xr_blk gd_X1_copy 1 (c' := (1, [(0, .ref 13), (1, .ref 1)], [.ref 13], st)) rfl ?_
  refine xr_br gd_X1_copy rfl rfl (fun h => h.elim) (fun _ => ?_)
  refine xr_blk gd_X1_copy 1 (c' := (5, [(0, .ref 13), (1, .ref 1)], [.ref 1], st)) rfl ?_
  refine xr_br gd_X1_copy rfl rfl (fun _ => ?_) (fun h => h.elim)
  refine xr_blk gd_X1_copy 39 (c' := (85, [(0, .ref 13), (1, .ref 1)], [.int 15, .int 0, .ref 2, .int 0, .ref 14], xs_u (xs_u (xs_u (xs_u (xs_u (xs_u (xs_u (xs_u st 1 0 (st 13 0)) 1 1 (st 13 1)) 1 2 (st 13 2)) 1 3 (st 13 3)) 1 4 (st 13 4)) 1 5 (st 13 5)) 1 6 (st 13 6)) 1 7 (st 13 7))) rfl ?_
  refine xr_acopy gd_X1_copy rfl xs_l_ac rfl rfl rfl rfl ?_
  refine xr_blk gd_X1_copy 7 (c' := (100, [(0, .ref 13), (1, .ref 1)], [.int 15, .int 0, .ref 3, .int 0, .ref 15], xs_ur (xs_u (xs_u (xs_u (xs_u (xs_u (xs_u (xs_u (xs_u st 1 0 (st 13 0)) 1 1 (st 13 1)) 1 2 (st 13 2)) 1 3 (st 13 3)) 1 4 (st 13 4)) 1 5 (st 13 5)) 1 6 (st 13 6)) 1 7 (st 13 7)) 2 (xs_cp15 (st 14) (st 2)))) rfl ?_
  refine xr_acopy gd_X1_copy rfl xs_l_ac rfl rfl rfl rfl ?_
  refine xr_blk gd_X1_copy 7 (c' := (115, [(0, .ref 13), (1, .ref 1)], [.int 15, .int 0, .ref 4, .int 0, .ref 16], xs_ur (xs_ur (xs_u (xs_u (xs_u (xs_u (xs_u (xs_u (xs_u (xs_u st 1 0 (st 13 0)) 1 1 (st 13 1)) 1 2 (st 13 2)) 1 3 (st 13 3)) 1 4 (st 13 4)) 1 5 (st 13 5)) 1 6 (st 13 6)) 1 7 (st 13 7)) 2 (xs_cp15 (st 14) (st 2))) 3 (xs_cp15 (st 15) (st 3)))) rfl ?_
  refine xr_acopy gd_X1_copy rfl xs_l_ac rfl rfl rfl rfl ?_
  refine xr_blk gd_X1_copy 7 (c' := (130, [(0, .ref 13), (1, .ref 1)], [.int 15, .int 0, .ref 5, .int 0, .ref 17], xs_ur (xs_ur (xs_ur (xs_u (xs_u (xs_u (xs_u (xs_u (xs_u (xs_u (xs_u st 1 0 (st 13 0)) 1 1 (st 13 1)) 1 2 (st 13 2)) 1 3 (st 13 3)) 1 4 (st 13 4)) 1 5 (st 13 5)) 1 6 (st 13 6)) 1 7 (st 13 7)) 2 (xs_cp15 (st 14) (st 2))) 3 (xs_cp15 (st 15) (st 3))) 4 (xs_cp15 (st 16) (st 4)))) rfl ?_
  refine xr_acopy gd_X1_copy rfl xs_l_ac rfl rfl rfl rfl ?_
  refine xr_blk gd_X1_copy 7 (c' := (145, [(0, .ref 13), (1, .ref 1)], [.int 15, .int 0, .ref 6, .int 0, .ref 18], xs_ur (xs_ur (xs_ur (xs_ur (xs_u (xs_u (xs_u (xs_u (xs_u (xs_u (xs_u (xs_u st 1 0 (st 13 0)) 1 1 (st 13 1)) 1 2 (st 13 2)) 1 3 (st 13 3)) 1 4 (st 13 4)) 1 5 (st 13 5)) 1 6 (st 13 6)) 1 7 (st 13 7)) 2 (xs_cp15 (st 14) (st 2))) 3 (xs_cp15 (st 15) (st 3))) 4 (xs_cp15 (st 16) (st 4))) 5 (xs_cp15 (st 17) (st 5)))) rfl ?_
  refine xr_acopy gd_X1_copy rfl xs_l_ac rfl rfl rfl rfl ?_
  exact xr_vret gd_X1_copy rfl rfl ⟨rfl, by first | (rw [F_X1_copy_13_1]; done) | (rw [F_X1_copy_13_1]; rfl)⟩
def F_X1_copy_19_1 (st : xs_S) : xs_S := xs_ur (xs_ur (xs_ur (xs_ur (xs_ur (xs_u (xs_u (xs_u (xs_u (xs_u (xs_u (xs_u (xs_u st 1 0 (st 19 0)) 1 1 (st 19 1)) 1 2 (st 19 2)) 1 3 (st 19 3)) 1 4 (st 19 4)) 1 5 (st 19 5)) 1 6 (st 19 6)) 1 7 (st 19 7)) 2 (xs_cp15 (st 20) (st 2))) 3 (xs_cp15 (st 21) (st 3))) 4 (xs_cp15 (st 22) (st 4))) 5 (xs_cp15 (st 23) (st 5))) 6 (xs_cp15 (st 24) (st 6))
set_option maxRecDepth 20000 in
theorem c_X1_copy_19_1 {G : xs_G} {base : Nat} (d : Nat) (st : xs_S) : xs_K (xc G) base (d + 1) M_X1_copy [.ref 19, .ref 1] st (fun v u => v = none ∧ u = F_X1_copy_19_1 st) := by
  refine xs_intro ok_X1_copy [(0, .ref 19), (1, .ref 1)] rfl rfl ?_
  refine xr_blk gd_X1_copy 1 (c' := (1, [(0, .ref 19), (1, .ref 1)], [.ref 19], st)) rfl ?_
  refine xr_br gd_X1_copy rfl rfl (fun h => h.elim) (fun _ => ?_)
  refine xr_blk gd_X1_copy 1 (c' := (5, [(0, .ref 19), (1, .ref 1)], [.ref 1], st)) rfl ?_
  refine xr_br gd_X1_copy rfl rfl (fun _ => ?_) (fun h => h.elim)
  refine xr_blk gd_X1_copy 39 (c' := (85, [(0, .ref 19), (1, .ref 1)], [.int 15, .int 0, .ref 2, .int 0, .ref 20], xs_u (xs_u (xs_u (xs_u (xs_u (xs_u (xs_u (xs_u st 1 0 (st 19 0)) 1 1 (st 19 1)) 1 2 (st 19 2)) 1 3 (st 19 3)) 1 4 (st 19 4)) 1 5 (st 19 5)) 1 6 (st 19 6)) 1 7 (st 19 7))) rfl ?_
  refine xr_acopy gd_X1_copy rfl xs_l_ac rfl rfl rfl rfl ?_
  refine xr_blk gd_X1_copy 7 (c' := (100, [(0, .ref 19), (1, .ref 1)], [.int 15, .int 0, .ref 3, .int 0, .ref 21], xs_ur (xs_u (xs_u (xs_u (xs_u (xs_u (xs_u (xs_u (xs_u st 1 0 (st 19 0)) 1 1 (st 19 1)) 1 2 (st 19 2)) 1 3 (st 19 3)) 1 4 (st 19 4)) 1 5 (st 19 5)) 1 6 (st 19 6)) 1 7 (st 19 7)) 2 (xs_cp15 (st 20) (st 2)))) rfl ?_
  refine xr_acopy gd_X1_copy rfl xs_l_ac rfl rfl rfl rfl ?_
  refine xr_blk gd_X1_copy 7 (c' := (115, [(0, .ref 19), (1, .ref 1)], [.int 15, .int 0, .ref 4, .int 0, .ref 22], xs_ur (xs_ur (xs_u (xs_u (xs_u (xs_u (xs_u (xs_u (xs_u (xs_u st 1 0 (st 19 0)) 1 1 (st 19 1)) 1 2 (st 19 2)) 1 3 (st 19 3)) 1 4 (st 19 4)) 1 5 (st 19 5)) 1 6 (st 19 6)) 1 7 (st 19 7)) 2 (xs_cp15 (st 20) (st 2))) 3 (xs_cp15 (st 21) (st 3)))) rfl ?_
  refine xr_acopy gd_X1_copy rfl xs_l_ac rfl rfl rfl rfl ?_
  refine xr_blk gd_X1_copy 7 (c' := (130, [(0, .ref 19), (1, .ref 1)], [.int 15, .int 0, .ref 5, .int 0, .ref 23], xs_ur (xs_ur (xs_ur (xs_u (xs_u (xs_u (xs_u (xs_u (xs_u (xs_u (xs_u st 1 0 (st 19 0)) 1 1 (st 19 1)) 1 2 (st 19 2)) 1 3 (st 19 3)) 1 4 (st 19 4)) 1 5 (st 19 5)) 1 6 (st 19 6)) 1 7 (st 19 7)) 2 (xs_cp15 (st 20) (st 2))) 3 (xs_cp15 (st 21) (st 3))) 4 (xs_cp15 (st 22) (st 4)))) rfl ?_
  refine xr_acopy gd_X1_copy rfl xs_l_ac rfl rfl rfl rfl ?_
  refine xr_blk gd_X1_copy 7 (c' := (145, [(0, .ref 19), (1, .ref 1)], [.int 15, .int 0, .ref 6, .int 0, .ref 24], xs_ur (xs_ur (xs_ur (xs_ur (xs_u (xs_u (xs_u (xs_u (xs_u (xs_u (xs_u (xs_u st 1 0 (st 19 0)) 1 1 (st 19 1)) 1 2 (st 19 2)) 1 3 (st 19 3)) 1 4 (st 19 4)) 1 5 (st 19 5)) 1 6 (st 19 6)) 1 7 (st 19 7)) 2 (xs_cp15 (st 20) (st 2))) 3 (xs_cp15 (st 21) (st 3))) 4 (xs_cp15 (st 22) (st 4))) 5 (xs_cp15 (st 23) (st 5)))) rfl ?_
  refine xr_acopy gd_X1_copy rfl xs_l_ac rfl rfl rfl rfl ?_
  exact xr_vret gd_X1_copy rfl rfl ⟨rfl, by first | (rw [F_X1_copy_19_1]; done) | (rw [F_X1_copy_19_1]; rfl)⟩
def F_X1_copy_25_1 (st : xs_S) : xs_S := xs_ur (xs_ur (xs_ur (xs_ur (xs_ur (xs_u (xs_u (xs_u (xs_u (xs_u (xs_u (xs_u (xs_u st 1 0 (st 25 0)) 1 1 (st 25 1)) 1 2 (st 25 2)) 1 3 (st 25 3)) 1 4 (st 25 4)) 1 5 (st 25 5)) 1 6 (st 25 6)) 1 7 (st 25 7)) 2 (xs_cp15 (st 26) (st 2))) 3 (xs_cp15 (st 27) (st 3))) 4 (xs_cp15 (st 28) (st 4))) 5 (xs_cp15 (st 29) (st 5))) 6 (xs_cp15 (st 30) (st 6))
set_option maxRecDepth 20000 in
theorem c_X1_copy_25_1 {G : xs_G} {base : Nat} (d : Nat) (st : xs_S) : xs_K (xc G) base (d + 1) M_X1_copy [.ref 25, .ref 1] st (fun v u => v = none ∧ u = F_X1_copy_25_1 st) := by
  refine xs_intro ok_X1_copy [(0, .ref 25), (1, .ref 1)] rfl rfl ?_
  refine xr_blk gd_X1_copy 1 (c' := (1, [(0, .ref 25), (1, .ref 1)], [.ref 25], st)) rfl ?_
  refine xr_br gd_X1_copy rfl rfl (fun h => h.elim) (fun _ => ?_)
  refine xr_blk gd_X1_copy 1 (c' := (5, [(0, .ref 25), (1, .ref 1)], [.ref 1], st)) rfl ?_
  refine xr_br gd_X1_copy rfl rfl (fun _ => ?_) (fun h => h.elim)
  refine xr_blk gd_X1_copy 39 (c' := (85, [(0, .ref 25), (1, .ref 1)], [.int 15, .int 0, .ref 2, .int 0, .ref 26], xs_u (xs_u (xs_u (xs_u (xs_u (xs_u (xs_u (xs_u st 1 0 (st 25 0)) 1 1 (st 25 1)) 1 2 (st 25 2)) 1 3 (st 25 3)) 1 4 (st 25 4)) 1 5 (st 25 5)) 1 6 (st 25 6)) 1 7 (st 25 7))) rfl ?_
  refine xr_acopy gd_X1_copy rfl xs_l_ac rfl rfl rfl rfl ?_
  refine xr_blk gd_X1_copy 7 (c' := (100, [(0, .ref 25), (1, .ref 1)], [.int 15, .int 0, .ref 3, .int 0, .ref 27], xs_ur (xs_u (xs_u (xs_u (xs_u (xs_u (xs_u (xs_u (xs_u st 1 0 (st 25 0)) 1 1 (st 25 1)) 1 2 (st 25 2)) 1 3 (st 25 3)) 1 4 (st 25 4)) 1 5 (st 25 5)) 1 6 (st 25 6)) 1 7 (st 25 7)) 2 (xs_cp15 (st 26) (st 2)))) rfl ?_
  refine xr_acopy gd_X1_copy rfl xs_l_ac rfl rfl rfl rfl ?_
  refine xr_blk gd_X1_copy 7 (c' := (115, [(0, .ref 25), (1, .ref 1)], [.int 15, .int 0, .ref 4, .int 0, .ref 28], xs_ur (xs_ur (xs_u (xs_u (xs_u (xs_u (xs_u (xs_u (xs_u (xs_u st 1 0 (st 25 0)) 1 1 (st 25 1)) 1 2 (st 25 2)) 1 3 (st 25 3)) 1 4 (st 25 4)) 1 5 (st 25 5)) 1 6 (st 25 6)) 1 7 (st 25 7)) 2 (xs_cp15 (st 26) (st 2))) 3 (xs_cp15 (st 27) (st 3)))) rfl ?_
  refine xr_acopy gd_X1_copy rfl xs_l_ac rfl rfl rfl rfl ?_
  refine xr_blk gd_X1_copy 7 (c' := (130, [(0, .ref 25), (1, .ref 1)], [.int 15, .int 0, .ref 5, .int 0, .ref 29], xs_ur (xs_ur (xs_ur (xs_u (xs_u (xs_u (xs_u (xs_u (xs_u (xs_u (xs_u st 1 0 (st 25 0)) 1 1 (st 25 1)) 1 2 (st 25 2)) 1 3 (st 25 3)) 1 4 (st 25 4)) 1 5 (st 25 5)) 1 6 (st 25 6)) 1 7 (st 25 7)) 2 (xs_cp15 (st 26) (st 2))) 3 (xs_cp15 (st 27) (st 3))) 4 (xs_cp15 (st 28) (st 4)))) rfl ?_
  refine xr_acopy gd_X1_copy rfl xs_l_ac rfl rfl rfl rfl ?_
  refine xr_blk gd_X1_copy 7 (c' := (145, [(0, .ref 25), (1, .ref 1)], [.int 15, .int 0, .ref 6, .int 0, .ref 30], xs_ur (xs_ur (xs_ur (xs_ur (xs_u (xs_u (xs_u (xs_u (xs_u (xs_u (xs_u (xs_u st 1 0 (st 25 0)) 1 1 (st 25 1)) 1 2 (st 25 2)) 1 3 (st 25 3)) 1 4 (st 25 4)) 1 5 (st 25 5)) 1 6 (st 25 6)) 1 7 (st 25 7)) 2 (xs_cp15 (st 26) (st 2))) 3 (xs_cp15 (st 27) (st 3))) 4 (xs_cp15 (st 28) (st 4))) 5 (xs_cp15 (st 29) (st 5)))) rfl ?_
  refine xr_acopy gd_X1_copy rfl xs_l_ac rfl rfl rfl rfl ?_
  exact xr_vret gd_X1_copy rfl rfl ⟨rfl, by first | (rw [F_X1_copy_25_1]; done) | (rw [F_X1_copy_25_1]; rfl)⟩
def F_X1_copy_31_1 (st : xs_S) : xs_S := xs_ur (xs_ur (xs_ur (xs_ur (xs_ur (xs_u (xs_u (xs_u (xs_u (xs_u (xs_u (xs_u (xs_u st 1 0 (st 31 0)) 1 1 (st 31 1)) 1 2 (st 31 2)) 1 3 (st 31 3)) 1 4 (st 31 4)) 1 5 (st 31 5)) 1 6 (st 31 6)) 1 7 (st 31 7)) 2 (xs_cp15 (st 32) (st 2))) 3 (xs_cp15 (st 33) (st 3))) 4 (xs_cp15 (st 34) (st 4))) 5 (xs_cp15 (st 35) (st 5))) 6 (xs_cp15 (st 36) (st 6))
set_option maxRecDepth 20000 in
theorem c_X1_copy_31_1 {G : xs_G} {base : Nat} (d : Nat) (st : xs_S) : xs_K (xc G) base (d + 1) M_X1_copy [.ref 31, .ref 1] st (fun v u => v = none ∧ u = F_X1_copy_31_1 st) := by
  refine xs_intro ok_X1_copy [(0, .ref 31), (1, .ref 1)] rfl rfl ?_
  refine xr_blk gd_X1_copy 1 (c' := (1, [(0, .ref 31), (1, .ref 1)], [.ref 31], st)) rfl ?_
  refine xr_br gd_X1_copy rfl rfl (fun h => h.elim) (fun _ => ?_)
  refine xr_blk gd_X1_copy 1 (c' := (5, [(0, .ref 31), (1, .ref 1)], [.ref 1], st)) rfl ?_
  refine xr_br gd_X1_copy rfl rfl (fun _ => ?_) (fun h => h.elim)
  refine xr_blk gd_X1_copy 39 (c' := (85, [(0, .ref 31), (1, .ref 1)], [.int 15, .int 0, .ref 2, .int 0, .ref 32], xs_u (xs_u (xs_u (xs_u (xs_u (xs_u (xs_u (xs_u st 1 0 (st 31 0)) 1 1 (st 31 1)) 1 2 (st 31 2)) 1 3 (st 31 3)) 1 4 (st 31 4)) 1 5 (st 31 5)) 1 6 (st 31 6)) 1 7 (st 31 7))) rfl ?_
  refine xr_acopy gd_X1_copy rfl xs_l_ac rfl rfl rfl rfl ?_
  refine xr_blk gd_X1_copy 7 (c' := (100, [(0, .ref 31), (1, .ref 1)], [.int 15, .int 0, .ref 3, .int 0, .ref 33], xs_ur (xs_u (xs_u (xs_u (xs_u (xs_u (xs_u (xs_u (xs_u st 1 0 (st 31 0)) 1 1 (st 31 1)) 1 2 (st 31 2)) 1 3 (st 31 3)) 1 4 (st 31 4)) 1 5 (st 31 5)) 1 6 (st 31 6)) 1 7 (st 31 7)) 2 (xs_cp15 (st 32) (st 2)))) rfl ?_
  refine xr_acopy gd_X1_copy rfl xs_l_ac rfl rfl rfl rfl ?_
  refine xr_blk gd_X1_copy 7 (c' := (115, [(0, .ref 31), (1, .ref 1)], [.int 15, .int 0, .ref 4, .int 0, .ref 34], xs_ur (xs_ur (xs_u (xs_u (xs_u (xs_u (xs_u (xs_u (xs_u (xs_u st 1 0 (st 31 0)) 1 1 (st 31 1)) 1 2 (st 31 2)) 1 3 (st 31 3)) 1 4 (st 31 4)) 1 5 (st 31 5)) 1 6 (st 31 6)) 1 7 (st 31 7)) 2 (xs_cp15 (st 32) (st 2))) 3 (xs_cp15 (st 33) (st 3)))) rfl ?_
  refine xr_acopy gd_X1_copy rfl xs_l_ac rfl rfl rfl rfl ?_
  refine xr_blk gd_X1_copy 7 (c' := (130, [(0, .ref 31), (1, .ref 1)], [.int 15, .int 0, .ref 5, .int 0, .ref 35], xs_ur (xs_ur (xs_ur (xs_u (xs_u (xs_u (xs_u (xs_u (xs_u (xs_u (xs_u st 1 0 (st 31 0)) 1 1 (st 31 1)) 1 2 (st 31 2)) 1 3 (st 31 3)) 1 4 (st 31 4)) 1 5 (st 31 5)) 1 6 (st 31 6)) 1 7 (st 31 7)) 2 (xs_cp15 (st 32) (st 2))) 3 (xs_cp15 (st 33) (st 3))) 4 (xs_cp15 (st 34) (st 4)))) rfl ?_
  refine xr_acopy gd_X1_copy rfl xs_l_ac rfl rfl rfl rfl ?_
  refine xr_blk gd_X1_copy 7 (c' := (145, [(0, .ref 31), (1, .ref 1)], [.int 15, .int 0, .ref 6, .int 0, .ref 36], xs_ur (xs_ur (xs_ur (xs_ur (xs_u (xs_u (xs_u (xs_u (xs_u (xs_u (xs_u (xs_u st 1 0 (st 31 0)) 1 1 (st 31 1)) 1 2 (st 31 2)) 1 3 (st 31 3)) 1 4 (st 31 4)) 1 5 (st 31 5)) 1 6 (st 31 6)) 1 7 (st 31 7)) 2 (xs_cp15 (st 32) (st 2))) 3 (xs_cp15 (st 33) (st 3))) 4 (xs_cp15 (st 34) (st 4))) 5 (xs_cp15 (st 35) (st 5)))) rfl ?_
  refine xr_acopy gd_X1_copy rfl xs_l_ac rfl rfl rfl rfl ?_
  exact xr_vret gd_X1_copy rfl rfl ⟨rfl, by first | (rw [F_X1_copy_31_1]; done) | (rw [F_X1_copy_31_1]; rfl)⟩
def F_X1_copy_37_1 (st : xs_S) : xs_S := xs_ur (xs_ur (xs_ur (xs_ur (xs_ur (xs_u (xs_u (xs_u (xs_u (xs_u (xs_u (xs_u (xs_u st 1 0 (st 37 0)) 1 1 (st 37 1)) 1 2 (st 37 2)) 1 3 (st 37 3)) 1 4 (st 37 4)) 1 5 (st 37 5)) 1 6 (st 37 6)) 1 7 (st 37 7)) 2 (xs_cp15 (st 38) (st 2))) 3 (xs_cp15 (st 39) (st 3))) 4 (xs_cp15 (st 40) (st 4))) 5 (xs_cp15 (st 41) (st 5))) 6 (xs_cp15 (st 42) (st 6))
set_option maxRecDepth 20000 in
theorem c_X1_copy_37_1 {G : xs_G} {base : Nat} (d : Nat) (st : xs_S) : xs_K (xc G) base (d + 1) M_X1_copy [.ref 37, .ref 1] st (fun v u => v = none ∧ u = F_X1_copy_37_1 st) := by
  refine xs_intro ok_X1_copy [(0, .ref 37), (1, .ref 1)] rfl rfl ?_
  refine xr_blk gd_X1_copy 1 (c' := (1, [(0, .ref 37), (1, .ref 1)], [.ref 37], st)) rfl ?_
  refine xr_br gd_X1_copy rfl rfl (fun h => h.elim) (fun _ => ?_)
  refine xr_blk gd_X1_copy 1 (c' := (5, [(0, .ref 37), (1, .ref 1)], [.ref 1], st)) rfl ?_
  refine xr_br gd_X1_copy rfl rfl (fun _ => ?_) (fun h => h.elim)
  refine xr_blk gd_X1_copy 39 (c' := (85, [(0, .ref 37), (1, .ref 1)], [.int 15, .int 0, .ref 2, .int 0, .ref 38], xs_u (xs_u (xs_u (xs_u (xs_u (xs_u (xs_u (xs_u st 1 0 (st 37 0)) 1 1 (st 37 1)) 1 2 (st 37 2)) 1 3 (st 37 3)) 1 4 (st 37 4)) 1 5 (st 37 5)) 1 6 (st 37 6)) 1 7 (st 37 7))) rfl ?_
  refine xr_acopy gd_X1_copy rfl xs_l_ac rfl rfl rfl rfl ?_
  refine xr_blk gd_X1_copy 7 (c' := (100, [(0, .ref 37), (1, .ref 1)], [.int 15, .int 0, .ref 3, .int 0, .ref 39], xs_ur (xs_u (xs_u (xs_u (xs_u (xs_u (xs_u (xs_u (xs_u st 1 0 (st 37 0)) 1 1 (st 37 1)) 1 2 (st 37 2)) 1 3 (st 37 3)) 1 4 (st 37 4)) 1 5 (st 37 5)) 1 6 (st 37 6)) 1 7 (st 37 7)) 2 (xs_cp15 (st 38) (st 2)))) rfl ?_
  refine xr_acopy gd_X1_copy rfl xs_l_ac rfl rfl rfl rfl ?_
  refine xr_blk gd_X1_copy 7 (c' := (115, [(0, .ref 37), (1, .ref 1)], [.int 15, .int 0, .ref 4, .int 0, .ref 40], xs_ur (xs_ur (xs_u (xs_u (xs_u (xs_u (xs_u (xs_u (xs_u (xs_u st 1 0 (st 37 0)) 1 1 (st 37 1)) 1 2 (st 37 2)) 1 3 (st 37 3)) 1 4 (st 37 4)) 1 5 (st 37 5)) 1 6 (st 37 6)) 1 7 (st 37 7)) 2 (xs_cp15 (st 38) (st 2))) 3 (xs_cp15 (st 39) (st 3)))) rfl ?_
  refine xr_acopy gd_X1_copy rfl xs_l_ac rfl rfl rfl rfl ?_
  refine xr_blk gd_X1_copy 7 (c' := (130, [(0, .ref 37), (1, .ref 1)], [.int 15, .int 0, .ref 5, .int 0, .ref 41], xs_ur (xs_ur (xs_ur (xs_u (xs_u (xs_u (xs_u (xs_u (xs_u (xs_u (xs_u st 1 0 (st 37 0)) 1 1 (st 37 1)) 1 2 (st 37 2)) 1 3 (st 37 3)) 1 4 (st 37 4)) 1 5 (st 37 5)) 1 6 (st 37 6)) 1 7 (st 37 7)) 2 (xs_cp15 (st 38) (st 2))) 3 (xs_cp15 (st 39) (st 3))) 4 (xs_cp15 (st 40) (st 4)))) rfl ?_
  refine xr_acopy gd_X1_copy rfl xs_l_ac rfl rfl rfl rfl ?_
  refine xr_blk gd_X1_copy 7 (c' := (145, [(0, .ref 37), (1, .ref 1)], [.int 15, .int 0, .ref 6, .int 0, .ref 42], xs_ur (xs_ur (xs_ur (xs_ur (xs_u (xs_u (xs_u (xs_u (xs_u (xs_u (xs_u (xs_u st 1 0 (st 37 0)) 1 1 (st 37 1)) 1 2 (st 37 2)) 1 3 (st 37 3)) 1 4 (st 37 4)) 1 5 (st 37 5)) 1 6 (st 37 6)) 1 7 (st 37 7)) 2 (xs_cp15 (st 38) (st 2))) 3 (xs_cp15 (st 39) (st 3))) 4 (xs_cp15 (st 40) (st 4))) 5 (xs_cp15 (st 41) (st 5)))) rfl ?_
  refine xr_acopy gd_X1_copy rfl xs_l_ac rfl rfl rfl rfl ?_
  exact xr_vret gd_X1_copy rfl rfl ⟨rfl, by first | (rw [F_X1_copy_37_1]; done) | (rw [F_X1_copy_37_1]; rfl)⟩
def F_X1_copy_43_1 (st : xs_S) : xs_S := xs_ur (xs_ur (xs_ur (xs_ur (xs_ur (xs_u (xs_u (xs_u (xs_u (xs_u (xs_u (xs_u (xs_u st 1 0 (st 43 0)) 1 1 (st 43 1)) 1 2 (st 43 2)) 1 3 (st 43 3)) 1 4 (st 43 4)) 1 5 (st 43 5)) 1 6 (st 43 6)) 1 7 (st 43 7)) 2 (xs_cp15 (st 44) (st 2))) 3 (xs_cp15 (st 45) (st 3))) 4 (xs_cp15 (st 46) (st 4))) 5 (xs_cp15 (st 47) (st 5))) 6 (xs_cp15 (st 48) (st 6))
set_option maxRecDepth 20000 in
theorem c_X1_copy_43_1 {G : xs_G} {base : Nat} (d : Nat) (st : xs_S) : xs_K (xc G) base (d + 1) M_X1_copy [.ref 43, .ref 1] st (fun v u => v = none ∧ u = F_X1_copy_43_1 st) := by
  refine xs_intro ok_X1_copy [(0, .ref 43), (1, .ref 1)] rfl rfl ?_
  refine xr_blk gd_X1_copy 1 (c' := (1, [(0, .ref 43), (1, .ref 1)], [.ref 43], st)) rfl ?_
  refine xr_br gd_X1_copy rfl rfl (fun h => h.elim) (fun _ => ?_)
  refine xr_blk gd_X1_copy 1 (c' := (5, [(0, .ref 43), (1, .ref 1)], [.ref 1], st)) rfl ?_
  refine xr_br gd_X1_copy rfl rfl (fun _ => ?_) (fun h => h.elim)
  refine xr_blk gd_X1_copy 39 (c' := (85, [(0, .ref 43), (1, .ref 1)], [.int 15, .int 0, .ref 2, .int 0, .ref 44], xs_u (xs_u (xs_u (xs_u (xs_u (xs_u (xs_u (xs_u st 1 0 (st 43 0)) 1 1 (st 43 1)) 1 2 (st 43 2)) 1 3 (st 43 3)) 1 4 (st 43 4)) 1 5 (st 43 5)) 1 6 (st 43 6)) 1 7 (st 43 7))) rfl ?_
  refine xr_acopy gd_X1_copy rfl xs_l_ac rfl rfl rfl rfl ?_
  refine xr_blk gd_X1_copy 7 (c' := (100, [(0, .ref 43), (1, .ref 1)], [.int 15, .int 0, .ref 3, .int 0, .ref 45], xs_ur (xs_u (xs_u (xs_u (xs_u (xs_u (xs_u (xs_u (xs_u st 1 0 (st 43 0)) 1 1 (st 43 1)) 1 2 (st 43 2)) 1 3 (st 43 3)) 1 4 (st 43 4)) 1 5 (st 43 5)) 1 6 (st 43 6)) 1 7 (st 43 7)) 2 (xs_cp15 (st 44) (st 2)))) rfl ?_
  refine xr_acopy gd_X1_copy rfl xs_l_ac rfl rfl rfl rfl ?_
  refine xr_blk gd_X1_copy 7 (c' := (115, [(0, .ref 43), (1, .ref 1)], [.int 15, .int 0, .ref 4, .int 0, .ref 46], xs_ur (xs_ur (xs_u (xs_u (xs_u (xs_u (xs_u (xs_u (xs_u (xs_u st 1 0 (st 43 0)) 1 1 (st 43 1)) 1 2 (st 43 2)) 1 3 (st 43 3)) 1 4 (st 43 4)) 1 5 (st 43 5)) 1 6 (st 43 6)) 1 7 (st 43 7)) 2 (xs_cp15 (st 44) (st 2))) 3 (xs_cp15 (st 45) (st 3)))) rfl ?_
  refine xr_acopy gd_X1_copy rfl xs_l_ac rfl rfl rfl rfl ?_
  refine xr_blk gd_X1_copy 7 (c' := (130, [(0, .ref 43), (1, .ref 1)], [.int 15, .int 0, .ref 5, .int 0, .ref 47], xs_ur (xs_ur (xs_ur (xs_u (xs_u (xs_u (xs_u (xs_u (xs_u (xs_u (xs_u st 1 0 (st 43 0)) 1 1 (st 43 1)) 1 2 (st 43 2)) 1 3 (st 43 3)) 1 4 (st 43 4)) 1 5 (st 43 5)) 1 6 (st 43 6)) 1 7 (st 43 7)) 2 (xs_cp15 (st 44) (st 2))) 3 (xs_cp15 (st 45) (st 3))) 4 (xs_cp15 (st 46) (st 4)))) rfl ?_
  refine xr_acopy gd_X1_copy rfl xs_l_ac rfl rfl rfl rfl ?_
  refine xr_blk gd_X1_copy 7 (c' := (145, [(0, .ref 43), (1, .ref 1)], [.int 15, .int 0, .ref 6, .int 0, .ref 48], xs_ur (xs_ur (xs_ur (xs_ur (xs_u (xs_u (xs_u (xs_u (xs_u (xs_u (xs_u (xs_u st 1 0 (st 43 0)) 1 1 (st 43 1)) 1 2 (st 43 2)) 1 3 (st 43 3)) 1 4 (st 43 4)) 1 5 (st 43 5)) 1 6 (st 43 6)) 1 7 (st 43 7)) 2 (xs_cp15 (st 44) (st 2))) 3 (xs_cp15 (st 45) (st 3))) 4 (xs_cp15 (st 46) (st 4))) 5 (xs_cp15 (st 47) (st 5)))) rfl ?_
  refine xr_acopy gd_X1_copy rfl xs_l_ac rfl rfl rfl rfl ?_
  exact xr_vret gd_X1_copy rfl rfl ⟨rfl, by first | (rw [F_X1_copy_43_1]; done) | (rw [F_X1_copy_43_1]; rfl)⟩
def F_X1_copy_49_1 (st : xs_S) : xs_S := xs_ur (xs_ur (xs_ur (xs_ur (xs_ur (xs_u (xs_u (xs_u (xs_u (xs_u (xs_u (xs_u (xs_u st 1 0 (st 49 0)) 1 1 (st 49 1)) 1 2 (st 49 2)) 1 3 (st 49 3)) 1 4 (st 49 4)) 1 5 (st 49 5)) 1 6 (st 49 6)) 1 7 (st 49 7)) 2 (xs_cp15 (st 50) (st 2))) 3 (xs_cp15 (st 51) (st 3))) 4 (xs_cp15 (st 52) (st 4))) 5 (xs_cp15 (st 53) (st 5))) 6 (xs_cp15 (st 54) (st 6))
set_option maxRecDepth 20000 in
theorem c_X1_copy_49_1 {G : xs_G} {base : Nat} (d : Nat) (st : xs_S) : xs_K (xc G) base (d + 1) M_X1_copy [.ref 49, .ref 1] st (fun v u => v = none ∧ u = F_X1_copy_49_1 st) := by
  refine xs_intro ok_X1_copy [(0, .ref 49), (1, .ref 1)] rfl rfl ?_
  refine xr_blk gd_X1_copy 1 (c' := (1, [(0, .ref 49), (1, .ref 1)], [.ref 49], st)) rfl ?_
  refine xr_br gd_X1_copy rfl rfl (fun h => h.elim) (fun _ => ?_)
  refine xr_blk gd_X1_copy 1 (c' := (5, [(0, .ref 49), (1, .ref 1)], [.ref 1], st)) rfl ?_
  refine xr_br gd_X1_copy rfl rfl (fun _ => ?_) (fun h => h.elim)
  refine xr_blk gd_X1_copy 39 (c' := (85, [(0, .ref 49), (1, .ref 1)], [.int 15, .int 0, .ref 2, .int 0, .ref 50], xs_u (xs_u (xs_u (xs_u (xs_u (xs_u (xs_u (xs_u st 1 0 (st 49 0)) 1 1 (st 49 1)) 1 2 (st 49 2)) 1 3 (st 49 3)) 1 4 (st 49 4)) 1 5 (st 49 5)) 1 6 (st 49 6)) 1 7 (st 49 7))) rfl ?_
  refine xr_acopy gd_X1_copy rfl xs_l_ac rfl rfl rfl rfl ?_
  refine xr_blk gd_X1_copy 7 (c' := (100, [(0, .ref 49), (1, .ref 1)], [.int 15, .int 0, .ref 3, .int 0, .ref 51], xs_ur (xs_u (xs_u (xs_u (xs_u (xs_u (xs_u (xs_u (xs_u st 1 0 (st 49 0)) 1 1 (st 49 1)) 1 2 (st 49 2)) 1 3 (st 49 3)) 1 4 (st 49 4)) 1 5 (st 49 5)) 1 6 (st 49 6)) 1 7 (st 49 7)) 2 (xs_cp15 (st 50) (st 2)))) rfl ?_
  refine xr_acopy gd_X1_copy rfl xs_l_ac rfl rfl rfl rfl ?_
  refine xr_blk gd_X1_copy 7 (c' := (115, [(0, .ref 49), (1, .ref 1)], [.int 15, .int 0, .ref 4, .int 0, .ref 52], xs_ur (xs_ur (xs_u (xs_u (xs_u (xs_u (xs_u (xs_u (xs_u (xs_u st 1 0 (st 49 0)) 1 1 (st 49 1)) 1 2 (st 49 2)) 1 3 (st 49 3)) 1 4 (st 49 4)) 1 5 (st 49 5)) 1 6 (st 49 6)) 1 7 (st 49 7)) 2 (xs_cp15 (st 50) (st 2))) 3 (xs_cp15 (st 51) (st 3)))) rfl ?_
  refine xr_acopy gd_X1_copy rfl xs_l_ac rfl rfl rfl rfl ?_
  refine xr_blk gd_X1_copy 7 (c' := (130, [(0, .ref 49), (1, .ref 1)], [.int 15, .int 0, .ref 5, .int 0, .ref 53], xs_ur (xs_ur (xs_ur (xs_u (xs_u (xs_u (xs_u (xs_u (xs_u (xs_u (xs_u st 1 0 (st 49 0)) 1 1 (st 49 1)) 1 2 (st 49 2)) 1 3 (st 49 3)) 1 4 (st 49 4)) 1 5 (st 49 5)) 1 6 (st 49 6)) 1 7 (st 49 7)) 2 (xs_cp15 (st 50) (st 2))) 3 (xs_cp15 (st 51) (st 3))) 4 (xs_cp15 (st 52) (st 4)))) rfl ?_
  refine xr_acopy gd_X1_copy rfl xs_l_ac rfl rfl rfl rfl ?_
  refine xr_blk gd_X1_copy 7 (c' := (145, [(0, .ref 49), (1, .ref 1)], [.int 15, .int 0, .ref 6, .int 0, .ref 54], xs_ur (xs_ur (xs_ur (xs_ur (xs_u (xs_u (xs_u (xs_u (xs_u (xs_u (xs_u (xs_u st 1 0 (st 49 0)) 1 1 (st 49 1)) 1 2 (st 49 2)) 1 3 (st 49 3)) 1 4 (st 49 4)) 1 5 (st 49 5)) 1 6 (st 49 6)) 1 7 (st 49 7)) 2 (xs_cp15 (st 50) (st 2))) 3 (xs_cp15 (st 51) (st 3))) 4 (xs_cp15 (st 52) (st 4))) 5 (xs_cp15 (st 53) (st 5)))) rfl ?_
  refine xr_acopy gd_X1_copy rfl xs_l_ac rfl rfl rfl rfl ?_
  exact xr_vret gd_X1_copy rfl rfl ⟨rfl, by first | (rw [F_X1_copy_49_1]; done) | (rw [F_X1_copy_49_1]; rfl)⟩
def F_X1_copy_1_58 (st : xs_S) : xs_S := xs_ur (xs_ur (xs_ur (xs_ur (xs_ur (xs_u (xs_u (xs_u (xs_u (xs_u (xs_u (xs_u (xs_u st 58 0 (st 1 0)) 58 1 (st 1 1)) 58 2 (st 1 2)) 58 3 (st 1 3)) 58 4 (st 1 4)) 58 5 (st 1 5)) 58 6 (st 1 6)) 58 7 (st 1 7)) 59 (xs_cp15 (st 2) (st 59))) 60 (xs_cp15 (st 3) (st 60))) 61 (xs_cp15 (st 4) (st 61))) 62 (xs_cp15 (st 5) (st 62))) 63 (xs_cp15 (st 6) (st 63))
set_option maxRecDepth 20000 in
theorem c_X1_copy_1_58 {G : xs_G} {base : Nat} (d : Nat) (st : xs_S) : xs_K (xc G) base (d + 1) M_X1_copy [.ref 1, .ref 58] st (fun v u => v = none ∧ u = F_X1_copy_1_58 st) := by
  refine xs_intro ok_X1_copy [(0, .ref 1), (1, .ref 58)] rfl rfl ?_
  refine xr_blk gd_X1_copy 1 (c' := (1, [(0, .ref 1), (1, .ref 58)], [.ref 1], st)) rfl ?_
  refine xr_br gd_X1_copy rfl rfl (fun h => h.elim) (fun _ => ?_)
  refine xr_blk gd_X1_copy 1 (c' := (5, [(0, .ref 1), (1, .ref 58)], [.ref 58], st)) rfl ?_
  refine xr_br gd_X1_copy rfl rfl (fun _ => ?_) (fun h => h.elim)
  refine xr_blk gd_X1_copy 39 (c' := (85, [(0, .ref 1), (1, .ref 58)], [.int 15, .int 0, .ref 59, .int 0, .ref 2], xs_u (xs_u (xs_u (xs_u (xs_u (xs_u (xs_u (xs_u st 58 0 (st 1 0)) 58 1 (st 1 1)) 58 2 (st 1 2)) 58 3 (st 1 3)) 58 4 (st 1 4)) 58 5 (st 1 5)) 58 6 (st 1 6)) 58 7 (st 1 7))) rfl ?_
  refine xr_acopy gd_X1_copy rfl xs_l_ac rfl rfl rfl rfl ?_
  refine xr_blk gd_X1_copy 7 (c' := (100, [(0, .ref 1), (1, .ref 58)], [.int 15, .int 0, .ref 60, .int 0, .ref 3], xs_ur (xs_u (xs_u (xs_u (xs_u (xs_u (xs_u (xs_u (xs_u st 58 0 (st 1 0)) 58 1 (st 1 1)) 58 2 (st 1 2)) 58 3 (st 1 3)) 58 4 (st 1 4)) 58 5 (st 1 5)) 58 6 (st 1 6)) 58 7 (st 1 7)) 59 (xs_cp15 (st 2) (st 59)))) rfl ?_
  refine xr_acopy gd_X1_copy rfl xs_l_ac rfl rfl rfl rfl ?_
  refine xr_blk gd_X1_copy 7 (c' := (115, [(0, .ref 1), (1, .ref 58)], [.int 15, .int 0, .ref 61, .int 0, .ref 4], xs_ur (xs_ur (xs_u (xs_u (xs_u (xs_u (xs_u (xs_u (xs_u (xs_u st 58 0 (st 1 0)) 58 1 (st 1 1)) 58 2 (st 1 2)) 58 3 (st 1 3)) 58 4 (st 1 4)) 58 5 (st 1 5)) 58 6 (st 1 6)) 58 7 (st 1 7)) 59 (xs_cp15 (st 2) (st 59))) 60 (xs_cp15 (st 3) (st 60)))) rfl ?_
  refine xr_acopy gd_X1_copy rfl xs_l_ac rfl rfl rfl rfl ?_
  refine xr_blk gd_X1_copy 7 (c' := (130, [(0, .ref 1), (1, .ref 58)], [.int 15, .int 0, .ref 62, .int 0, .ref 5], xs_ur (xs_ur (xs_ur (xs_u (xs_u (xs_u (xs_u (xs_u (xs_u (xs_u (xs_u st 58 0 (st 1 0)) 58 1 (st 1 1)) 58 2 (st 1 2)) 58 3 (st 1 3)) 58 4 (st 1 4)) 58 5 (st 1 5)) 58 6 (st 1 6)) 58 7 (st 1 7)) 59 (xs_cp15 (st 2) (st 59))) 60 (xs_cp15 (st 3) (st 60))) 61 (xs_cp15 (st 4) (st 61)))) rfl ?_
  refine xr_acopy gd_X1_copy rfl xs_l_ac rfl rfl rfl rfl ?_
  refine xr_blk gd_X1_copy 7 (c' := (145, [(0, .ref 1), (1, .ref 58)], [.int 15, .int 0, .ref 63, .int 0, .ref 6], xs_ur (xs_ur (xs_ur (xs_ur (xs_u (xs_u (xs_u (xs_u (xs_u (xs_u (xs_u (xs_u st 58 0 (st 1 0)) 58 1 (st 1 1)) 58 2 (st 1 2)) 58 3 (st 1 3)) 58 4 (st 1 4)) 58 5 (st 1 5)) 58 6 (st 1 6)) 58 7 (st 1 7)) 59 (xs_cp15 (st 2) (st 59))) 60 (xs_cp15 (st 3) (st 60))) 61 (xs_cp15 (st 4) (st 61))) 62 (xs_cp15 (st 5) (st 62)))) rfl ?_
  refine xr_acopy gd_X1_copy rfl xs_l_ac rfl rfl rfl rfl ?_
  exact xr_vret gd_X1_copy rfl rfl ⟨rfl, by first | (rw [F_X1_copy_1_58]; done) | (rw [F_X1_copy_1_58]; rfl)⟩
def F_X1_copy_1_64 (st : xs_S) : xs_S := xs_ur (xs_ur (xs_ur (xs_ur (xs_ur (xs_u (xs_u (xs_u (xs_u (xs_u (xs_u (xs_u (xs_u st 64 0 (st 1 0)) 64 1 (st 1 1)) 64 2 (st 1 2)) 64 3 (st 1 3)) 64 4 (st 1 4)) 64 5 (st 1 5)) 64 6 (st 1 6)) 64 7 (st 1 7)) 65 (xs_cp15 (st 2) (st 65))) 66 (xs_cp15 (st 3) (st 66))) 67 (xs_cp15 (st 4) (st 67))) 68 (xs_cp15 (st 5) (st 68))) 69 (xs_cp15 (st 6) (st 69))
set_option maxRecDepth 20000 in
theorem c_X1_copy_1_64 {G : xs_G} {base : Nat} (d : Nat) (st : xs_S) : xs_K (xc G) base (d + 1) M_X1_copy [.ref 1, .ref 64] st (fun v u => v = none ∧ u = F_X1_copy_1_64 st) := by
  refine xs_intro ok_X1_copy [(0, .ref 1), (1, .ref 64)] rfl rfl ?_
  refine xr_blk gd_X1_copy 1 (c' := (1, [(0, .ref 1), (1, .ref 64)], [.ref 1], st)) rfl ?_
  refine xr_br gd_X1_copy rfl rfl (fun h => h.elim) (fun _ => ?_)
  refine xr_blk gd_X1_copy 1 (c' := (5, [(0, .ref 1), (1, .ref 64)], [.ref 64], st)) rfl ?_
  refine xr_br gd_X1_copy rfl rfl (fun _ => ?_) (fun h => h.elim)
  refine xr_blk gd_X1_copy 39 (c' := (85, [(0, .ref 1), (1, .ref 64)], [.int 15, .int 0, .ref 65, .int 0, .ref 2], xs_u (xs_u (xs_u (xs_u (xs_u (xs_u (xs_u (xs_u st 64 0 (st 1 0)) 64 1 (st 1 1)) 64 2 (st 1 2)) 64 3 (st 1 3)) 64 4 (st 1 4)) 64 5 (st 1 5)) 64 6 (st 1 6)) 64 7 (st 1 7))) rfl ?_
  refine xr_acopy gd_X1_copy rfl xs_l_ac rfl rfl rfl rfl ?_
  refine xr_blk gd_X1_copy 7 (c' := (100, [(0, .ref 1), (1, .ref 64)], [.int 15, .int 0, .ref 66, .int 0, .ref 3], xs_ur (xs_u (xs_u (xs_u (xs_u (xs_u (xs_u (xs_u (xs_u st 64 0 (st 1 0)) 64 1 (st 1 1)) 64 2 (st 1 2)) 64 3 (st 1 3)) 64 4 (st 1 4)) 64 5 (st 1 5)) 64 6 (st 1 6)) 64 7 (st 1 7)) 65 (xs_cp15 (st 2) (st 65)))) rfl ?_
  refine xr_acopy gd_X1_copy rfl xs_l_ac rfl rfl rfl rfl ?_
  refine xr_blk gd_X1_copy 7 (c' := (115, [(0, .ref 1), (1, .ref 64)], [.int 15, .int 0, .ref 67, .int 0, .ref 4], xs_ur (xs_ur (xs_u (xs_u (xs_u (xs_u (xs_u (xs_u (xs_u (xs_u st 64 0 (st 1 0)) 64 1 (st 1 1)) 64 2 (st 1 2)) 64 3 (st 1 3)) 64 4 (st 1 4)) 64 5 (st 1 5)) 64 6 (st 1 6)) 64 7 (st 1 7)) 65 (xs_cp15 (st 2) (st 65))) 66 (xs_cp15 (st 3) (st 66)))) rfl ?_
  refine xr_acopy gd_X1_copy rfl xs_l_ac rfl rfl rfl rfl ?_
  refine xr_blk gd_X1_copy 7 (c' := (130, [(0, .ref 1), (1, .ref 64)], [.int 15, .int 0, .ref 68, .int 0, .ref 5], xs_ur (xs_ur (xs_ur (xs_u (xs_u (xs_u (xs_u (xs_u (xs_u (xs_u (xs_u st 64 0 (st 1 0)) 64 1 (st 1 1)) 64 2 (st 1 2)) 64 3 (st 1 3)) 64 4 (st 1 4)) 64 5 (st 1 5)) 64 6 (st 1 6)) 64 7 (st 1 7)) 65 (xs_cp15 (st 2) (st 65))) 66 (xs_cp15 (st 3) (st 66))) 67 (xs_cp15 (st 4) (st 67)))) rfl ?_
  refine xr_acopy gd_X1_copy rfl xs_l_ac rfl rfl rfl rfl ?_
  refine xr_blk gd_X1_copy 7 (c' := (145, [(0, .ref 1), (1, .ref 64)], [.int 15, .int 0, .ref 69, .int 0, .ref 6], xs_ur (xs_ur (xs_ur (xs_ur (xs_u (xs_u (xs_u (xs_u (xs_u (xs_u (xs_u (xs_u st 64 0 (st 1 0)) 64 1 (st 1 1)) 64 2 (st 1 2)) 64 3 (st 1 3)) 64 4 (st 1 4)) 64 5 (st 1 5)) 64 6 (st 1 6)) 64 7 (st 1 7)) 65 (xs_cp15 (st 2) (st 65))) 66 (xs_cp15 (st 3) (st 66))) 67 (xs_cp15 (st 4) (st 67))) 68 (xs_cp15 (st 5) (st 68)))) rfl ?_
  refine xr_acopy gd_X1_copy rfl xs_l_ac rfl rfl rfl rfl ?_
  exact xr_vret gd_X1_copy rfl rfl ⟨rfl, by first | (rw [F_X1_copy_1_64]; done) | (rw [F_X1_copy_1_64]; rfl)⟩
def F_X1_copy_58_1 (st : xs_S) : xs_S := xs_ur (xs_ur (xs_ur (xs_ur (xs_ur (xs_u (xs_u (xs_u (xs_u (xs_u (xs_u (xs_u (xs_u st 1 0 (st 58 0)) 1 1 (st 58 1)) 1 2 (st 58 2)) 1 3 (st 58 3)) 1 4 (st 58 4)) 1 5 (st 58 5)) 1 6 (st 58 6)) 1 7 (st 58 7)) 2 (xs_cp15 (st 59) (st 2))) 3 (xs_cp15 (st 60) (st 3))) 4 (xs_cp15 (st 61) (st 4))) 5 (xs_cp15 (st 62) (st 5))) 6 (xs_cp15 (st 63) (st 6))
set_option maxRecDepth 20000 in
theorem c_X1_copy_58_1 {G : xs_G} {base : Nat} (d : Nat) (st : xs_S) : xs_K (xc G) base (d + 1) M_X1_copy [.ref 58, .ref 1] st (fun v u => v = none ∧ u = F_X1_copy_58_1 st) := by
  refine xs_intro ok_X1_copy [(0, .ref 58), (1, .ref 1)] rfl rfl ?_
  refine xr_blk gd_X1_copy 1 (c' := (1, [(0, .ref 58), (1, .ref 1)], [.ref 58], st)) rfl ?_
  refine xr_br gd_X1_copy rfl rfl (fun h => h.elim) (fun _ => ?_)
  refine xr_blk gd_X1_copy 1 (c' := (5, [(0, .ref 58), (1, .ref 1)], [.ref 1], st)) rfl ?_
  refine xr_br gd_X1_copy rfl rfl (fun _ => ?_) (fun h => h.elim)
  refine xr_blk gd_X1_copy 39 (c' := (85, [(0, .ref 58), (1, .ref 1)], [.int 15, .int 0, .ref 2, .int 0, .ref 59], xs_u (xs_u (xs_u (xs_u (xs_u (xs_u (xs_u (xs_u st 1 0 (st 58 0)) 1 1 (st 58 1)) 1 2 (st 58 2)) 1 3 (st 58 3)) 1 4 (st 58 4)) 1 5 (st 58 5)) 1 6 (st 58 6)) 1 7 (st 58 7))) rfl ?_
  refine xr_acopy gd_X1_copy rfl xs_l_ac rfl rfl rfl rfl ?_
  refine xr_blk gd_X1_copy 7 (c' := (100, [(0, .ref 58), (1, .ref 1)], [.int 15, .int 0, .ref 3, .int 0, .ref 60], xs_ur (xs_u (xs_u (xs_u (xs_u (xs_u (xs_u (xs_u (xs_u st 1 0 (st 58 0)) 1 1 (st 58 1)) 1 2 (st 58 2)) 1 3 (st 58 3)) 1 4 (st 58 4)) 1 5 (st 58 5)) 1 6 (st 58 6)) 1 7 (st 58 7)) 2 (xs_cp15 (st 59) (st 2)))) rfl ?_
  refine xr_acopy gd_X1_copy rfl xs_l_ac rfl rfl rfl rfl ?_
  refine xr_blk gd_X1_copy 7 (c' := (115, [(0, .ref 58), (1, .ref 1)], [.int 15, .int 0, .ref 4, .int 0, .ref 61], xs_ur (xs_ur (xs_u (xs_u (xs_u (xs_u (xs_u (xs_u (xs_u (xs_u st 1 0 (st 58 0)) 1 1 (st 58 1)) 1 2 (st 58 2)) 1 3 (st 58 3)) 1 4 (st 58 4)) 1 5 (st 58 5)) 1 6 (st 58 6)) 1 7 (st 58 7)) 2 (xs_cp15 (st 59) (st 2))) 3 (xs_cp15 (st 60) (st 3)))) rfl ?_
  refine xr_acopy gd_X1_copy rfl xs_l_ac rfl rfl rfl rfl ?_
  refine xr_blk gd_X1_copy 7 (c' := (130, [(0, .ref 58), (1, .ref 1)], [.int 15, .int 0, .ref 5, .int 0, .ref 62], xs_ur (xs_ur (xs_ur (xs_u (xs_u (xs_u (xs_u (xs_u (xs_u (xs_u (xs_u st 1 0 (st 58 0)) 1 1 (st 58 1)) 1 2 (st 58 2)) 1 3 (st 58 3)) 1 4 (st 58 4)) 1 5 (st 58 5)) 1 6 (st 58 6)) 1 7 (st 58 7)) 2 (xs_cp15 (st 59) (st 2))) 3 (xs_cp15 (st 60) (st 3))) 4 (xs_cp15 (st 61) (st 4)))) rfl ?_
  refine xr_acopy gd_X1_copy rfl xs_l_ac rfl rfl rfl rfl ?_
  refine xr_blk gd_X1_copy 7 (c' := (145, [(0, .ref 58), (1, .ref 1)], [.int 15, .int 0, .ref 6, .int 0, .ref 63], xs_ur (xs_ur (xs_ur (xs_ur (xs_u (xs_u (xs_u (xs_u (xs_u (xs_u (xs_u (xs_u st 1 0 (st 58 0)) 1 1 (st 58 1)) 1 2 (st 58 2)) 1 3 (st 58 3)) 1 4 (st 58 4)) 1 5 (st 58 5)) 1 6 (st 58 6)) 1 7 (st 58 7)) 2 (xs_cp15 (st 59) (st 2))) 3 (xs_cp15 (st 60) (st 3))) 4 (xs_cp15 (st 61) (st 4))) 5 (xs_cp15 (st 62) (st 5)))) rfl ?_
  refine xr_acopy gd_X1_copy rfl xs_l_ac rfl rfl rfl rfl ?_
  exact xr_vret gd_X1_copy rfl rfl ⟨rfl, by first | (rw [F_X1_copy_58_1]; done) | (rw [F_X1_copy_58_1]; rfl)⟩
def F_X1_copy_64_1 (st : xs_S) : xs_S := xs_ur (xs_ur (xs_ur (xs_ur (xs_ur (xs_u (xs_u (xs_u (xs_u (xs_u (xs_u (xs_u (xs_u st 1 0 (st 64 0)) 1 1 (st 64 1)) 1 2 (st 64 2)) 1 3 (st 64 3)) 1 4 (st 64 4)) 1 5 (st 64 5)) 1 6 (st 64 6)) 1 7 (st 64 7)) 2 (xs_cp15 (st 65) (st 2))) 3 (xs_cp15 (st 66) (st 3))) 4 (xs_cp15 (st 67) (st 4))) 5 (xs_cp15 (st 68) (st 5))) 6 (xs_cp15 (st 69) (st 6))
set_option maxRecDepth 20000 in
theorem c_X1_copy_64_1 {G : xs_G} {base : Nat} (d : Nat) (st : xs_S) : xs_K (xc G) base (d + 1) M_X1_copy [.ref 64, .ref 1] st (fun v u => v = none ∧ u = F_X1_copy_64_1 st) := by
  refine xs_intro ok_X1_copy [(0, .ref 64), (1, .ref 1)] rfl rfl ?_
  refine xr_blk gd_X1_copy 1 (c' := (1, [(0, .ref 64), (1, .ref 1)], [.ref 64], st)) rfl ?_
  refine xr_br gd_X1_copy rfl rfl (fun h => h.elim) (fun _ => ?_)
  refine xr_blk gd_X1_copy 1 (c' := (5, [(0, .ref 64), (1, .ref 1)], [.ref 1], st)) rfl ?_
  refine xr_br gd_X1_copy rfl rfl (fun _ => ?_) (fun h => h.elim)
  refine xr_blk gd_X1_copy 39 (c' := (85, [(0, .ref 64), (1, .ref 1)], [.int 15, .int 0, .ref 2, .int 0, .ref 65], xs_u (xs_u (xs_u (xs_u (xs_u (xs_u (xs_u (xs_u st 1 0 (st 64 0)) 1 1 (st 64 1)) 1 2 (st 64 2)) 1 3 (st 64 3)) 1 4 (st 64 4)) 1 5 (st 64 5)) 1 6 (st 64 6)) 1 7 (st 64 7))) rfl ?_
  refine xr_acopy gd_X1_copy rfl xs_l_ac rfl rfl rfl rfl ?_
  refine xr_blk gd_X1_copy 7 (c' := (100, [(0, .ref 64), (1, .ref 1)], [.int 15, .int 0, .ref 3, .int 0, .ref 66], xs_ur (xs_u (xs_u (xs_u (xs_u (xs_u (xs_u (xs_u (xs_u st 1 0 (st 64 0)) 1 1 (st 64 1)) 1 2 (st 64 2)) 1 3 (st 64 3)) 1 4 (st 64 4)) 1 5 (st 64 5)) 1 6 (st 64 6)) 1 7 (st 64 7)) 2 (xs_cp15 (st 65) (st 2)))) rfl ?_
  refine xr_acopy gd_X1_copy rfl xs_l_ac rfl rfl rfl rfl ?_
  refine xr_blk gd_X1_copy 7 (c' := (115, [(0, .ref 64), (1, .ref 1)], [.int 15, .int 0, .ref 4, .int 0, .ref 67], xs_ur (xs_ur (xs_u (xs_u (xs_u (xs_u (xs_u (xs_u (xs_u (xs_u st 1 0 (st 64 0)) 1 1 (st 64 1)) 1 2 (st 64 2)) 1 3 (st 64 3)) 1 4 (st 64 4)) 1 5 (st 64 5)) 1 6 (st 64 6)) 1 7 (st 64 7)) 2 (xs_cp15 (st 65) (st 2))) 3 (xs_cp15 (st 66) (st 3)))) rfl ?_
  refine xr_acopy gd_X1_copy rfl xs_l_ac rfl rfl rfl rfl ?_
  refine xr_blk gd_X1_copy 7 (c' := (130, [(0, .ref 64), (1, .ref 1)], [.int 15, .int 0, .ref 5, .int 0, .ref 68], xs_ur (xs_ur (xs_ur (xs_u (xs_u (xs_u (xs_u (xs_u (xs_u (xs_u (xs_u st 1 0 (st 64 0)) 1 1 (st 64 1)) 1 2 (st 64 2)) 1 3 (st 64 3)) 1 4 (st 64 4)) 1 5 (st 64 5)) 1 6 (st 64 6)) 1 7 (st 64 7)) 2 (xs_cp15 (st 65) (st 2))) 3 (xs_cp15 (st 66) (st 3))) 4 (xs_cp15 (st 67) (st 4)))) rfl ?_
  refine xr_acopy gd_X1_copy rfl xs_l_ac rfl rfl rfl rfl ?_
  refine xr_blk gd_X1_copy 7 (c' := (145, [(0, .ref 64), (1, .ref 1)], [.int 15, .int 0, .ref 6, .int 0, .ref 69], xs_ur (xs_ur (xs_ur (xs_ur (xs_u (xs_u (xs_u (xs_u (xs_u (xs_u (xs_u (xs_u st 1 0 (st 64 0)) 1 1 (st 64 1)) 1 2 (st 64 2)) 1 3 (st 64 3)) 1 4 (st 64 4)) 1 5 (st 64 5)) 1 6 (st 64 6)) 1 7 (st 64 7)) 2 (xs_cp15 (st 65) (st 2))) 3 (xs_cp15 (st 66) (st 3))) 4 (xs_cp15 (st 67) (st 4))) 5 (xs_cp15 (st 68) (st 5)))) rfl ?_
  refine xr_acopy gd_X1_copy rfl xs_l_ac rfl rfl rfl rfl ?_
  exact xr_vret gd_X1_copy rfl rfl ⟨rfl, by first | (rw [F_X1_copy_64_1]; done) | (rw [F_X1_copy_64_1]; rfl)⟩
