def F_floorDiv (st : xs_S) (x : Int32) (y : Int32) : Int32 := (if 0 ≤ (x ^^^ y) then (x / y)
    else (if ((x / y) * y) = x then (x / y)
      else ((x / y) - 1)))
set_option maxRecDepth 20000 in
theorem c_floorDiv {G : xs_G} {base : Nat} (d : Nat) (st : xs_S) (x : Int32) (y : Int32) (hy : ¬ y = 0) : xs_K (xc G) base (d + 0) M_J9_floorDiv_7cf53 [.int x, .int y] st (fun v u => v = some (.int (F_floorDiv st x y)) ∧ u = st) := by
  refine xs_intro ok_J9_floorDiv_7cf53 [(0, .int x), (1, .int y)] rfl rfl ?_
  refine xr_blk gd_J9_floorDiv_7cf53 2 (c' := (2, [(0, .int x), (1, .int y)], [.int y, .int x], st)) rfl ?_
  refine xr_idiv gd_J9_floorDiv_7cf53.1 rfl hy ?_
  refine xr_blk gd_J9_floorDiv_7cf53 4 (c' := (7, [(0, .int x), (1, .int y), (2, .int (x / y))], [.int (x ^^^ y)], st)) rfl ?_
  refine xr_br gd_J9_floorDiv_7cf53 rfl rfl (fun h1 => ?_) (fun h1 => ?_)
  · refine xr_blk gd_J9_floorDiv_7cf53 1 (c' := (22, [(0, .int x), (1, .int y), (2, .int (x / y))], [.int (x / y)], st)) rfl ?_
    exact xr_iret gd_J9_floorDiv_7cf53 rfl rfl ⟨by first | (rw [F_floorDiv, if_pos h1]; done) | (rw [F_floorDiv, if_pos h1]; rfl), rfl⟩
  · refine xr_blk gd_J9_floorDiv_7cf53 4 (c' := (14, [(0, .int x), (1, .int y), (2, .int (x / y))], [.int x, .int ((x / y) * y)], st)) rfl ?_
    refine xr_br gd_J9_floorDiv_7cf53 rfl rfl (fun h2 => ?_) (fun h2 => ?_)
    · refine xr_blk gd_J9_floorDiv_7cf53 1 (c' := (22, [(0, .int x), (1, .int y), (2, .int (x / y))], [.int (x / y)], st)) rfl ?_
      exact xr_iret gd_J9_floorDiv_7cf53 rfl rfl ⟨by first | (rw [F_floorDiv, if_neg h1, if_pos h2]; done) | (rw [F_floorDiv, if_neg h1, if_pos h2]; rfl), rfl⟩
    · refine xr_blk gd_J9_floorDiv_7cf53 3 (c' := (20, [(0, .int x), (1, .int y), (2, .int (x / y))], [.int ((x / y) - 1)], st)) rfl ?_
      exact xr_iret gd_J9_floorDiv_7cf53 rfl rfl ⟨by first | (rw [F_floorDiv, if_neg h1, if_neg h2]; done) | (rw [F_floorDiv, if_neg h1, if_neg h2]; rfl), rfl⟩
def F_floorMod (st : xs_S) (x : Int32) (y : Int32) : Int32 := (if 0 ≤ (x ^^^ y) then (x - x / y * y)
    else (if (x - x / y * y) = 0 then (x - x / y * y)
      else ((x - x / y * y) + y)))
set_option maxRecDepth 20000 in
theorem c_floorMod {G : xs_G} {base : Nat} (d : Nat) (st : xs_S) (x : Int32) (y : Int32) (hy : ¬ y = 0) : xs_K (xc G) base (d + 0) M_J9_floorMod_7cf53 [.int x, .int y] st (fun v u => v = some (.int (F_floorMod st x y)) ∧ u = st) := by
  refine xs_intro ok_J9_floorMod_7cf53 [(0, .int x), (1, .int y)] rfl rfl ?_
  refine xr_blk gd_J9_floorMod_7cf53 2 (c' := (2, [(0, .int x), (1, .int y)], [.int y, .int x], st)) rfl ?_
  refine xr_irem gd_J9_floorMod_7cf53.1 rfl hy ?_
  refine xr_blk gd_J9_floorMod_7cf53 4 (c' := (7, [(0, .int x), (1, .int y), (2, .int (x - x / y * y))], [.int (x ^^^ y)], st)) rfl ?_
  refine xr_br gd_J9_floorMod_7cf53 rfl rfl (fun h1 => ?_) (fun h1 => ?_)
  · refine xr_blk gd_J9_floorMod_7cf53 1 (c' := (19, [(0, .int x), (1, .int y), (2, .int (x - x / y * y))], [.int (x - x / y * y)], st)) rfl ?_
    exact xr_iret gd_J9_floorMod_7cf53 rfl rfl ⟨by first | (rw [F_floorMod, if_pos h1]; done) | (rw [F_floorMod, if_pos h1]; rfl), rfl⟩
  · refine xr_blk gd_J9_floorMod_7cf53 1 (c' := (11, [(0, .int x), (1, .int y), (2, .int (x - x / y * y))], [.int (x - x / y * y)], st)) rfl ?_
    refine xr_br gd_J9_floorMod_7cf53 rfl rfl (fun h2 => ?_) (fun h2 => ?_)
    · refine xr_blk gd_J9_floorMod_7cf53 1 (c' := (19, [(0, .int x), (1, .int y), (2, .int (x - x / y * y))], [.int (x - x / y * y)], st)) rfl ?_
      exact xr_iret gd_J9_floorMod_7cf53 rfl rfl ⟨by first | (rw [F_floorMod, if_neg h1, if_pos h2]; done) | (rw [F_floorMod, if_neg h1, if_pos h2]; rfl), rfl⟩
    · refine xr_blk gd_J9_floorMod_7cf53 3 (c' := (17, [(0, .int x), (1, .int y), (2, .int (x - x / y * y))], [.int ((x - x / y * y) + y)], st)) rfl ?_
      exact xr_iret gd_J9_floorMod_7cf53 rfl rfl ⟨by first | (rw [F_floorMod, if_neg h1, if_neg h2]; done) | (rw [F_floorMod, if_neg h1, if_neg h2]; rfl), rfl⟩
