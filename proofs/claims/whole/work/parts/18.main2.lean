theorem hasSlot_in {st : xs_S} {slot : Int32} (h : ¬ F_X4_hasSlot st slot = 0) : 0 ≤ slot.toInt ∧ slot.toInt < 2 := by
  unfold F_X4_hasSlot at h
  have h2 : (2 : Int32).toInt = 2 := by decide
  by_cases h1 : slot < 0
  · rw [if_pos h1] at h; exact absurd rfl h
  · rw [if_neg h1] at h
    by_cases h3 : 2 ≤ slot
    · rw [if_pos h3] at h; exact absurd rfl h
    · rw [xi_lt, xi_0] at h1
      rw [xi_le] at h3
      omega
theorem si_bl {st : xs_S} {c : Int64} : ∀ (n : Nat) (x : Int32) (y : Int64), xs_lo x 8 n → 0 ≤ (lp_X3_signsIn_4 st c n x y).toInt ∧ (lp_X3_signsIn_4 st c n x y).toInt ≤ 8 := by
  intro n
  induction n with
  | zero => intro x y h; exact (xs_lo0 h).elim
  | succ n ih =>
    intro x y h
    have h8 : (8 : Int32).toInt = 8 := by decide
    have hb : 0 ≤ x.toInt ∧ x.toInt ≤ 8 := ⟨h.1, by have := h.2.1; omega⟩
    unfold lp_X3_signsIn_4
    by_cases hc : 8 ≤ x
    · rw [if_pos hc]
      split
      · exact hb
      · decide
    · rw [if_neg hc]
      repeat' split
      all_goals try dsimp only
      all_goals first | exact ih _ _ (xs_lo_up h hc) | exact hb | decide
theorem si_b {st : xs_S} {c : Int64} : 0 ≤ (F_X3_signsIn st c).toInt ∧ (F_X3_signsIn st c).toInt ≤ 8 := by
  unfold F_X3_signsIn
  exact si_bl _ _ _ ⟨by decide, by decide, by decide⟩
def F_X6_put (st : xs_S) (characters : Int64) : Int32 × xs_S := (if (F_X3_signsIn st characters) = 0 then ((-2), st)
    else (if ((F_X3_length st) + (F_X3_signsIn st characters)) ≤ 80 then ((F_X3_length (F_X3_append st characters (F_X3_signsIn st characters))), (F_X3_append st characters (F_X3_signsIn st characters)))
      else ((-4), st)))
set_option maxRecDepth 20000 in
theorem c_X6_put {G : xs_G} {base : Nat} (d : Nat) (st : xs_S) (characters : Int64) (hl : 0 ≤ (st 70 1).toInt) : xs_K G base (d + 2) M_X6_put [.ref 0, .long characters] st (fun v u => v = some (.int (F_X6_put st characters).1) ∧ u = (F_X6_put st characters).2) := by
  refine xs_intro ok_X6_put [(0, .ref 0), (1, .long characters)] rfl rfl ?_
  refine xr_blk gd_X6_put 1 (c' := (1, [(0, .ref 0), (1, .long characters)], [.long characters], st)) rfl ?_
  refine xr_callS gd_X6_put gd_X3_signsIn k_X6_175 rfl (c_X3_signsIn (d + 0) st characters) (by omega) rfl rfl rfl ?_
  refine xs_fun ?_
  refine xr_blk gd_X6_put 2 (c' := (6, [(0, .ref 0), (1, .long characters), (3, .int (F_X3_signsIn st characters))], [.int (F_X3_signsIn st characters)], st)) rfl ?_
  refine xr_br gd_X6_put rfl rfl (fun h1 => ?_) (fun h1 => ?_)
  · refine xr_blk gd_X6_put 2 (c' := (16, [(0, .ref 0), (1, .long characters), (3, .int (F_X3_signsIn st characters))], [.ref 70], st)) rfl ?_
    refine xr_callV gd_X6_put gd_X3_length k_X6_132 rfl (c_X3_length (d + 1) st) (by omega) rfl rfl rfl rfl rfl ?_
    refine xs_fun ?_
    refine xr_blk gd_X6_put 3 (c' := (23, [(0, .ref 0), (1, .long characters), (3, .int (F_X3_signsIn st characters))], [.int 80, .int ((F_X3_length st) + (F_X3_signsIn st characters))], st)) rfl ?_
    refine xr_br gd_X6_put rfl rfl (fun h2 => ?_) (fun h2 => ?_)
    · refine xr_blk gd_X6_put 4 (c' := (35, [(0, .ref 0), (1, .long characters), (3, .int (F_X3_signsIn st characters))], [.int (F_X3_signsIn st characters), .long characters, .ref 70], st)) rfl ?_
      refine xr_callV gd_X6_put gd_X3_append k_X6_179 rfl (c_X3_append (d + 1) st characters (F_X3_signsIn st characters) si_b hl) (by omega) rfl rfl rfl rfl rfl ?_
      refine xs_fun ?_
      refine xr_blk gd_X6_put 2 (c' := (42, [(0, .ref 0), (1, .long characters), (3, .int (F_X3_signsIn st characters))], [.ref 70], (F_X3_append st characters (F_X3_signsIn st characters)))) rfl ?_
      refine xr_callV gd_X6_put gd_X3_length k_X6_132 rfl (c_X3_length (d + 1) (F_X3_append st characters (F_X3_signsIn st characters))) (by omega) rfl rfl rfl rfl rfl ?_
      refine xs_fun ?_
      exact xr_iret gd_X6_put rfl rfl ⟨by first | (rw [F_X6_put, if_neg h1, if_pos h2]; done) | (rw [F_X6_put, if_neg h1, if_pos h2]; rfl), by first | (rw [F_X6_put, if_neg h1, if_pos h2]; done) | (rw [F_X6_put, if_neg h1, if_pos h2]; rfl)⟩
    · refine xr_blk gd_X6_put 1 (c' := (28, [(0, .ref 0), (1, .long characters), (3, .int (F_X3_signsIn st characters))], [.int (-4)], st)) rfl ?_
      exact xr_iret gd_X6_put rfl rfl ⟨by first | (rw [F_X6_put, if_neg h1, if_neg h2]; done) | (rw [F_X6_put, if_neg h1, if_neg h2]; rfl), by first | (rw [F_X6_put, if_neg h1, if_neg h2]; done) | (rw [F_X6_put, if_neg h1, if_neg h2]; rfl)⟩
  · refine xr_blk gd_X6_put 1 (c' := (11, [(0, .ref 0), (1, .long characters), (3, .int (F_X3_signsIn st characters))], [.int (-2)], st)) rfl ?_
    exact xr_iret gd_X6_put rfl rfl ⟨by first | (rw [F_X6_put, if_pos h1]; done) | (rw [F_X6_put, if_pos h1]; rfl), by first | (rw [F_X6_put, if_pos h1]; done) | (rw [F_X6_put, if_pos h1]; rfl)⟩
def F_X6_wipe (st : xs_S) : Int32 × xs_S := ((F_X3_length st), (F_X3_clear st))
set_option maxRecDepth 20000 in
theorem c_X6_wipe {G : xs_G} {base : Nat} (d : Nat) (st : xs_S) : xs_K G base (d + 1) M_X6_wipe [.ref 0] st (fun v u => v = some (.int (F_X6_wipe st).1) ∧ u = (F_X6_wipe st).2) := by
  refine xs_intro ok_X6_wipe [(0, .ref 0)] rfl rfl ?_
  refine xr_blk gd_X6_wipe 2 (c' := (4, [(0, .ref 0)], [.ref 70], st)) rfl ?_
  refine xr_callV gd_X6_wipe gd_X3_length k_X6_132 rfl (c_X3_length (d + 0) st) (by omega) rfl rfl rfl rfl rfl ?_
  refine xs_fun ?_
  refine xr_blk gd_X6_wipe 3 (c' := (12, [(0, .ref 0), (1, .int (F_X3_length st))], [.ref 70], st)) rfl ?_
  refine xr_callV gd_X6_wipe gd_X3_clear k_X6_183 rfl (c_X3_clear (d + 0) st) (by omega) rfl rfl rfl rfl rfl ?_
  refine xs_fun ?_
  refine xr_blk gd_X6_wipe 1 (c' := (16, [(0, .ref 0), (1, .int (F_X3_length st))], [.int (F_X3_length st)], (F_X3_clear st))) rfl ?_
  exact xr_iret gd_X6_wipe rfl rfl ⟨by first | (rw [F_X6_wipe]; done) | (rw [F_X6_wipe]; rfl), by first | (rw [F_X6_wipe]; done) | (rw [F_X6_wipe]; rfl)⟩
def F_X6_fault (st : xs_S) : Int32 × xs_S := ((F_X3_firstFault st).1, (F_X3_firstFault st).2)
set_option maxRecDepth 20000 in
theorem c_X6_fault {G : xs_G} {base : Nat} (d : Nat) (st : xs_S) (hp : PW (F_X3_startReading st)) : xs_K G base (d + 5) M_X6_fault [.ref 0] st (fun v u => v = some (.int (F_X6_fault st).1) ∧ u = (F_X6_fault st).2) := by
  refine xs_intro ok_X6_fault [(0, .ref 0)] rfl rfl ?_
  refine xr_blk gd_X6_fault 2 (c' := (4, [(0, .ref 0)], [.ref 70], st)) rfl ?_
  refine xr_callV gd_X6_fault gd_X3_firstFault k_X6_186 rfl (c_X3_firstFault (d + 0) st hp) (by omega) rfl rfl rfl rfl rfl ?_
  refine xs_fun ?_
  exact xr_iret gd_X6_fault rfl rfl ⟨by first | (rw [F_X6_fault]; done) | (rw [F_X6_fault]; rfl), by first | (rw [F_X6_fault]; done) | (rw [F_X6_fault]; rfl)⟩
def F_X6_undo (st : xs_S) : Int32 × xs_S := ((F_X2_takeBack st).1, (F_X2_takeBack st).2)
set_option maxRecDepth 20000 in
theorem c_X6_undo {G : xs_G} {base : Nat} (d : Nat) (st : xs_S) : xs_K G base (d + 3) M_X6_undo [.ref 0] st (fun v u => v = some (.int (F_X6_undo st).1) ∧ u = (F_X6_undo st).2) := by
  refine xs_intro ok_X6_undo [(0, .ref 0)] rfl rfl ?_
  refine xr_blk gd_X6_undo 4 (c' := (8, [(0, .ref 0)], [.ref 1, .ref 11], st)) rfl ?_
  refine xr_callV gd_X6_undo gd_X2_takeBack k_X6_214 rfl (c_X2_takeBack (d + 0) st) (by omega) rfl rfl rfl rfl rfl ?_
  refine xs_fun ?_
  exact xr_iret gd_X6_undo rfl rfl ⟨by first | (rw [F_X6_undo]; done) | (rw [F_X6_undo]; rfl), by first | (rw [F_X6_undo]; done) | (rw [F_X6_undo]; rfl)⟩
def F_X6_save (st : xs_S) (slot : Int32) : Int32 × xs_S := (if (F_X4_hasSlot st slot) = 0 then ((-2), st)
    else ((F_X1_dials (F_X4_keepIn st slot)), (F_X4_keepIn st slot)))
set_option maxRecDepth 20000 in
theorem c_X6_save {G : xs_G} {base : Nat} (d : Nat) (st : xs_S) (slot : Int32) : xs_K G base (d + 3) M_X6_save [.ref 0, .int slot] st (fun v u => v = some (.int (F_X6_save st slot).1) ∧ u = (F_X6_save st slot).2) := by
  refine xs_intro ok_X6_save [(0, .ref 0), (1, .int slot)] rfl rfl ?_
  refine xr_blk gd_X6_save 1 (c' := (1, [(0, .ref 0), (1, .int slot)], [.int slot], st)) rfl ?_
  refine xr_callS gd_X6_save gd_X4_hasSlot k_X6_218 rfl (c_X4_hasSlot (d + 2) st slot) (by omega) rfl rfl rfl ?_
  refine xs_fun ?_
  refine xr_br gd_X6_save rfl rfl (fun h1 => ?_) (fun h1 => ?_)
  · have hs : 0 ≤ slot.toInt ∧ slot.toInt < 2 := hasSlot_in h1
    refine xr_blk gd_X6_save 5 (c' := (19, [(0, .ref 0), (1, .int slot)], [.ref 1, .int slot, .ref 55], st)) rfl ?_
    refine xr_callV gd_X6_save gd_X4_keepIn k_X6_221 rfl (c_X4_keepIn (d + 0) st slot hs) (by omega) rfl rfl rfl rfl rfl ?_
    refine xs_fun ?_
    refine xr_blk gd_X6_save 2 (c' := (26, [(0, .ref 0), (1, .int slot)], [.ref 1], (F_X4_keepIn st slot))) rfl ?_
    refine xr_callV gd_X6_save gd_X1_dials k_X6_225 rfl (c_X1_dials (d + 2) (F_X4_keepIn st slot)) (by omega) rfl rfl rfl rfl rfl ?_
    refine xs_fun ?_
    exact xr_iret gd_X6_save rfl rfl ⟨by first | (rw [F_X6_save, if_neg h1]; done) | (rw [F_X6_save, if_neg h1]; rfl), by first | (rw [F_X6_save, if_neg h1]; done) | (rw [F_X6_save, if_neg h1]; rfl)⟩
  · refine xr_blk gd_X6_save 1 (c' := (9, [(0, .ref 0), (1, .int slot)], [.int (-2)], st)) rfl ?_
    exact xr_iret gd_X6_save rfl rfl ⟨by first | (rw [F_X6_save, if_pos h1]; done) | (rw [F_X6_save, if_pos h1]; rfl), by first | (rw [F_X6_save, if_pos h1]; done) | (rw [F_X6_save, if_pos h1]; rfl)⟩
def F_X6_restore (st : xs_S) (slot : Int32) : Int32 × xs_S := (if (F_X4_hasSlot st slot) = 0 then ((-2), st)
    else (if (F_X4_isFilled st slot) = 0 then ((-5), st)
      else ((F_X2_keep (F_X4_giveBack (F_X2_draft st) slot) (F_X1_dials (F_X4_giveBack (F_X2_draft st) slot))).1, (F_X2_keep (F_X4_giveBack (F_X2_draft st) slot) (F_X1_dials (F_X4_giveBack (F_X2_draft st) slot))).2)))
set_option maxRecDepth 20000 in
theorem c_X6_restore {G : xs_G} {base : Nat} (d : Nat) (st : xs_S) (slot : Int32) (hfl : ∀ j : Nat, j < 2 → st 57 j = 0 ∨ st 57 j = 1) : xs_K G base (d + 3) M_X6_restore [.ref 0, .int slot] st (fun v u => v = some (.int (F_X6_restore st slot).1) ∧ u = (F_X6_restore st slot).2) := by
  refine xs_intro ok_X6_restore [(0, .ref 0), (1, .int slot)] rfl rfl ?_
  refine xr_blk gd_X6_restore 1 (c' := (1, [(0, .ref 0), (1, .int slot)], [.int slot], st)) rfl ?_
  refine xr_callS gd_X6_restore gd_X4_hasSlot k_X6_218 rfl (c_X4_hasSlot (d + 2) st slot) (by omega) rfl rfl rfl ?_
  refine xs_fun ?_
  refine xr_br gd_X6_restore rfl rfl (fun h1 => ?_) (fun h1 => ?_)
  · have hs : 0 ≤ slot.toInt ∧ slot.toInt < 2 := hasSlot_in h1
    refine xr_blk gd_X6_restore 3 (c' := (15, [(0, .ref 0), (1, .int slot)], [.int slot, .ref 55], st)) rfl ?_
    refine xr_callV gd_X6_restore gd_X4_isFilled k_X6_228 rfl (c_X4_isFilled (d + 2) st slot hs hfl) (by omega) rfl rfl rfl rfl rfl ?_
    refine xs_fun ?_
    refine xr_br gd_X6_restore rfl rfl (fun h2 => ?_) (fun h2 => ?_)
    · refine xr_blk gd_X6_restore 4 (c' := (32, [(0, .ref 0), (1, .int slot)], [.ref 1, .ref 11], st)) rfl ?_
      refine xr_callV gd_X6_restore gd_X2_draft k_X6_44 rfl (c_X2_draft (d + 0) st) (by omega) rfl rfl rfl rfl rfl ?_
      refine xs_fun ?_
      refine xr_blk gd_X6_restore 5 (c' := (44, [(0, .ref 0), (1, .int slot)], [.ref 1, .int slot, .ref 55], (F_X2_draft st))) rfl ?_
      refine xr_callV gd_X6_restore gd_X4_giveBack k_X6_231 rfl (c_X4_giveBack (d + 0) (F_X2_draft st) slot hs) (by omega) rfl rfl rfl rfl rfl ?_
      refine xs_fun ?_
      refine xr_blk gd_X6_restore 4 (c' := (55, [(0, .ref 0), (1, .int slot)], [.ref 1, .ref 11], (F_X4_giveBack (F_X2_draft st) slot))) rfl ?_
      refine xr_callV gd_X6_restore gd_X1_dials k_X6_225 rfl (c_X1_dials (d + 2) (F_X4_giveBack (F_X2_draft st) slot)) (by omega) rfl rfl rfl rfl rfl ?_
      refine xs_fun ?_
      refine xr_callV gd_X6_restore gd_X2_keep k_X6_52 rfl (c_X2_keep (d + 1) (F_X4_giveBack (F_X2_draft st) slot) (F_X1_dials (F_X4_giveBack (F_X2_draft st) slot))) (by omega) rfl rfl rfl rfl rfl ?_
      refine xs_fun ?_
      exact xr_iret gd_X6_restore rfl rfl ⟨by first | (rw [F_X6_restore, if_neg h1, if_neg h2]; done) | (rw [F_X6_restore, if_neg h1, if_neg h2]; rfl), by first | (rw [F_X6_restore, if_neg h1, if_neg h2]; done) | (rw [F_X6_restore, if_neg h1, if_neg h2]; rfl)⟩
    · refine xr_blk gd_X6_restore 1 (c' := (23, [(0, .ref 0), (1, .int slot)], [.int (-5)], st)) rfl ?_
      exact xr_iret gd_X6_restore rfl rfl ⟨by first | (rw [F_X6_restore, if_neg h1, if_pos h2]; done) | (rw [F_X6_restore, if_neg h1, if_pos h2]; rfl), by first | (rw [F_X6_restore, if_neg h1, if_pos h2]; done) | (rw [F_X6_restore, if_neg h1, if_pos h2]; rfl)⟩
  · refine xr_blk gd_X6_restore 1 (c' := (9, [(0, .ref 0), (1, .int slot)], [.int (-2)], st)) rfl ?_
    exact xr_iret gd_X6_restore rfl rfl ⟨by first | (rw [F_X6_restore, if_pos h1]; done) | (rw [F_X6_restore, if_pos h1]; rfl), by first | (rw [F_X6_restore, if_pos h1]; done) | (rw [F_X6_restore, if_pos h1]; rfl)⟩
theorem fh_n {st : xs_S} {k : Nat} (hk : k = 0 ∨ 10 < k) : (F_X6_findHour st).2 k = st k := by
  unfold F_X6_findHour
  split
  · dsimp only
    rw [ju_n (by omega), gn_n (by omega)]
  · dsimp only
    rw [gn_n (by omega)]
theorem fh_1 {st : xs_S} {i : Nat} (hi : i ≠ 5 ∧ i ≠ 6 ∧ i ≠ 7) : (F_X6_findHour st).2 1 i = st 1 i := by
  unfold F_X6_findHour
  split
  · dsimp only
    rw [ju_1 hi, gn_n (by omega)]
  · dsimp only
    rw [gn_n (by omega)]
def F_X6_carryOrder (st : xs_S) : Int32 × xs_S := (if (F_X3_kind st) = 100 then ((F_X1_addDial st).1, (F_X1_addDial st).2)
    else (if (F_X3_kind st) = 114 then ((F_X1_takeReading st (F_X3_first st) (F_X3_second st) (F_X3_third st)).1, (F_X1_takeReading st (F_X3_first st) (F_X3_second st) (F_X3_third st)).2)
      else (if (F_X3_kind st) = 116 then ((F_X1_letPass st (F_X3_first st)).1, (F_X1_letPass st (F_X3_first st)).2)
        else ((F_X6_findHour st).1, (F_X6_findHour st).2))))
set_option maxRecDepth 20000 in
theorem c_X6_carryOrder {G : xs_G} {base : Nat} (d : Nat) (st : xs_S) (hds : (st 1 3).toInt ≤ 15) (hk : 0 ≤ (st 70 3).toInt ∧ (st 70 3).toInt < 65536) : xs_K G base (d + 6) M_X6_carryOrder [.ref 0] st (fun v u => v = some (.int (F_X6_carryOrder st).1) ∧ u = (F_X6_carryOrder st).2) := by
  refine xs_intro ok_X6_carryOrder [(0, .ref 0)] rfl rfl ?_
  refine xr_blk gd_X6_carryOrder 2 (c' := (4, [(0, .ref 0)], [.ref 70], st)) rfl ?_
  refine xr_callV gd_X6_carryOrder gd_X3_kind k_X6_201 rfl (c_X3_kind (d + 5) st hk) (by omega) rfl rfl rfl rfl rfl ?_
  refine xs_fun ?_
  refine xr_blk gd_X6_carryOrder 3 (c' := (11, [(0, .ref 0), (1, .int (F_X3_kind st))], [.int 100, .int (F_X3_kind st)], st)) rfl ?_
  refine xr_br gd_X6_carryOrder rfl rfl (fun h1 => ?_) (fun h1 => ?_)
  · refine xr_blk gd_X6_carryOrder 2 (c' := (25, [(0, .ref 0), (1, .int (F_X3_kind st))], [.int 114, .int (F_X3_kind st)], st)) rfl ?_
    refine xr_br gd_X6_carryOrder rfl rfl (fun h2 => ?_) (fun h2 => ?_)
    · refine xr_blk gd_X6_carryOrder 2 (c' := (60, [(0, .ref 0), (1, .int (F_X3_kind st))], [.int 116, .int (F_X3_kind st)], st)) rfl ?_
      refine xr_br gd_X6_carryOrder rfl rfl (fun h3 => ?_) (fun h3 => ?_)
      · refine xr_blk gd_X6_carryOrder 1 (c' := (79, [(0, .ref 0), (1, .int (F_X3_kind st))], [.ref 0], st)) rfl ?_
        refine xr_callV gd_X6_carryOrder gd_X6_findHour k_X6_67 rfl (c_X6_findHour (d + 0) st) (by omega) rfl rfl rfl rfl rfl ?_
        refine xs_fun ?_
        exact xr_iret gd_X6_carryOrder rfl rfl ⟨by first | (rw [F_X6_carryOrder, if_neg h1, if_neg h2, if_neg h3]; done) | (rw [F_X6_carryOrder, if_neg h1, if_neg h2, if_neg h3]; rfl), by first | (rw [F_X6_carryOrder, if_neg h1, if_neg h2, if_neg h3]; done) | (rw [F_X6_carryOrder, if_neg h1, if_neg h2, if_neg h3]; rfl)⟩
      · refine xr_blk gd_X6_carryOrder 4 (c' := (71, [(0, .ref 0), (1, .int (F_X3_kind st))], [.ref 70, .ref 1], st)) rfl ?_
        refine xr_callV gd_X6_carryOrder gd_X3_first k_X6_205 rfl (c_X3_first (d + 5) st) (by omega) rfl rfl rfl rfl rfl ?_
        refine xs_fun ?_
        refine xr_callV gd_X6_carryOrder gd_X1_letPass k_X6_64 rfl (c_X1_letPass (d + 5) st (F_X3_first st)) (by omega) rfl rfl rfl rfl rfl ?_
        refine xs_fun ?_
        exact xr_iret gd_X6_carryOrder rfl rfl ⟨by first | (rw [F_X6_carryOrder, if_neg h1, if_neg h2, if_pos h3]; done) | (rw [F_X6_carryOrder, if_neg h1, if_neg h2, if_pos h3]; rfl), by first | (rw [F_X6_carryOrder, if_neg h1, if_neg h2, if_pos h3]; done) | (rw [F_X6_carryOrder, if_neg h1, if_neg h2, if_pos h3]; rfl)⟩
    · refine xr_blk gd_X6_carryOrder 4 (c' := (36, [(0, .ref 0), (1, .int (F_X3_kind st))], [.ref 70, .ref 1], st)) rfl ?_
      refine xr_callV gd_X6_carryOrder gd_X3_first k_X6_205 rfl (c_X3_first (d + 5) st) (by omega) rfl rfl rfl rfl rfl ?_
      refine xs_fun ?_
      refine xr_blk gd_X6_carryOrder 2 (c' := (43, [(0, .ref 0), (1, .int (F_X3_kind st))], [.ref 70, .int (F_X3_first st), .ref 1], st)) rfl ?_
      refine xr_callV gd_X6_carryOrder gd_X3_second k_X6_208 rfl (c_X3_second (d + 5) st) (by omega) rfl rfl rfl rfl rfl ?_
      refine xs_fun ?_
      refine xr_blk gd_X6_carryOrder 2 (c' := (50, [(0, .ref 0), (1, .int (F_X3_kind st))], [.ref 70, .int (F_X3_second st), .int (F_X3_first st), .ref 1], st)) rfl ?_
      refine xr_callV gd_X6_carryOrder gd_X3_third k_X6_211 rfl (c_X3_third (d + 5) st) (by omega) rfl rfl rfl rfl rfl ?_
      refine xs_fun ?_
      refine xr_callV gd_X6_carryOrder gd_X1_takeReading k_X6_60 rfl (c_X1_takeReading (d + 4) st (F_X3_first st) (F_X3_second st) (F_X3_third st) hds) (by omega) rfl rfl rfl rfl rfl ?_
      refine xs_fun ?_
      exact xr_iret gd_X6_carryOrder rfl rfl ⟨by first | (rw [F_X6_carryOrder, if_neg h1, if_pos h2]; done) | (rw [F_X6_carryOrder, if_neg h1, if_pos h2]; rfl), by first | (rw [F_X6_carryOrder, if_neg h1, if_pos h2]; done) | (rw [F_X6_carryOrder, if_neg h1, if_pos h2]; rfl)⟩
  · refine xr_blk gd_X6_carryOrder 2 (c' := (18, [(0, .ref 0), (1, .int (F_X3_kind st))], [.ref 1], st)) rfl ?_
    refine xr_callV gd_X6_carryOrder gd_X1_addDial k_X6_56 rfl (c_X1_addDial (d + 5) st) (by omega) rfl rfl rfl rfl rfl ?_
    refine xs_fun ?_
    exact xr_iret gd_X6_carryOrder rfl rfl ⟨by first | (rw [F_X6_carryOrder, if_pos h1]; done) | (rw [F_X6_carryOrder, if_pos h1]; rfl), by first | (rw [F_X6_carryOrder, if_pos h1]; done) | (rw [F_X6_carryOrder, if_pos h1]; rfl)⟩
theorem pw_c {s u : xs_S} (h0 : u 70 = s 70) (h1 : u 71 = s 71) (h : PW s) : PW u := by
  unfold PW at h ⊢
  rw [h0, h1]
  exact h
theorem ad_n {st : xs_S} {k : Nat} (hk : k ≠ 1) : (F_X1_addDial st).2 k = st k := by
  unfold F_X1_addDial
  split
  · dsimp only
    rw [xs_rd_k hk]
  · rfl
theorem tr_n {st : xs_S} {a b c : Int32} {k : Nat} (hk : k = 0 ∨ 4 < k) : (F_X1_takeReading st a b c).2 k = st k := by
  unfold F_X1_takeReading
  repeat' split
  all_goals try dsimp only
  all_goals first | with_reducible rfl | rw [xs_rd_k (by omega), xs_rd_k (by omega), xs_rd_k (by omega), xs_rd_k (by omega)]
theorem lpass_n {st : xs_S} {a : Int32} {k : Nat} (hk : k ≠ 1) : (F_X1_letPass st a).2 k = st k := by
  unfold F_X1_letPass
  repeat' split
  all_goals try dsimp only
  all_goals first | with_reducible rfl | rw [xs_rd_k hk]
theorem co_n {st : xs_S} {k : Nat} (hk : k = 0 ∨ 10 < k) : (F_X6_carryOrder st).2 k = st k := by
  unfold F_X6_carryOrder
  repeat' split
  · exact ad_n (by omega)
  · exact tr_n (by omega)
  · exact lpass_n (by omega)
  · exact fh_n hk
theorem co_d {st : xs_S} (h : (st 1 3).toInt ≤ 15) (h0 : 0 ≤ (st 1 3).toInt) : ((F_X6_carryOrder st).2 1 3).toInt ≤ 15 ∧ 0 ≤ ((F_X6_carryOrder st).2 1 3).toInt := by
  have h15 : (15 : Int32).toInt = 15 := by decide
  unfold F_X6_carryOrder
  repeat' split
  · unfold F_X1_addDial
    by_cases h1 : st 1 3 < 15
    rotate_left
    · rw [if_neg h1]; exact ⟨h, h0⟩
    · rw [if_pos h1]
      rw [xi_lt] at h1
      dsimp only
      rw [xs_rd_s, xi_inc (by omega)]
      omega
  · have e : ∀ a b c, (F_X1_takeReading st a b c).2 1 3 = st 1 3 := by
      intro a b c
      unfold F_X1_takeReading
      repeat' split
      all_goals try dsimp only
      all_goals first | with_reducible rfl | rw [xs_rd_i (by decide), xs_rd_k (by decide), xs_rd_k (by decide), xs_rd_k (by decide)]
    rw [e]; exact ⟨h, h0⟩
  · have e : ∀ a, (F_X1_letPass st a).2 1 3 = st 1 3 := by
      intro a
      unfold F_X1_letPass
      repeat' split
      all_goals try dsimp only
      all_goals first | with_reducible rfl | rw [xs_rd_i (by decide)]
    rw [e]; exact ⟨h, h0⟩
  · rw [fh_1 (by decide)]; exact ⟨h, h0⟩
theorem ta_n {st : xs_S} {w : Int32} {k : Nat} (hk : k ≠ 70) : (F_X3_take st w).2 k = st k := by
  unfold F_X3_take
  split
  · dsimp only
    rw [xs_rd_k hk]
  · rfl
theorem tn_n {st : xs_S} {k : Nat} (hk : k ≠ 70) : (F_X3_takeNumber st).2 k = st k := by
  have key : ∀ (n : Nat) (x : Int32) (s : xs_S), (lp_X3_takeNumber_10 n x s).2 k = s k := by
    intro n
    induction n with
    | zero => intro x s; rfl
    | succ n ih =>
      intro x s
      unfold lp_X3_takeNumber_10
      repeat' split
      all_goals try dsimp only
      all_goals first | with_reducible rfl | rw [ih, xs_rd_k hk, xs_rd_k hk]
  unfold F_X3_takeNumber
  rw [key, xs_rd_k hk]
theorem tf_n {st : xs_S} {k : Nat} (hk : k ≠ 70) : (F_X3_takeFirst st).2 k = st k := by
  unfold F_X3_takeFirst
  dsimp only
  rw [xs_rd_k hk, tn_n hk]
theorem ts_n {st : xs_S} {k : Nat} (hk : k ≠ 70) : (F_X3_takeSecond st).2 k = st k := by
  unfold F_X3_takeSecond
  dsimp only
  rw [xs_rd_k hk, tn_n hk]
theorem tt_n {st : xs_S} {k : Nat} (hk : k ≠ 70) : (F_X3_takeThird st).2 k = st k := by
  unfold F_X3_takeThird
  dsimp only
  rw [xs_rd_k hk, tn_n hk]
theorem it_n {c : Prop} [Decidable c] {a b : Int32 × xs_S} {k : Nat} {f : Nat → Int32} (ha : a.2 k = f) (hb : b.2 k = f) : (if c then a else b).2 k = f := by
  by_cases h : c
  · rw [if_pos h]; exact ha
  · rw [if_neg h]; exact hb
theorem no_n {st : xs_S} {k : Nat} (hk : k ≠ 70) : (F_X3_nextOrder st).2 k = st k := by
  unfold F_X3_nextOrder
  repeat' (with_reducible refine it_n ?_ ?_)
  all_goals try dsimp only
  all_goals simp only [ta_n hk, tf_n hk, ts_n hk, tt_n hk, xs_rd_k hk]
theorem ta_3 {st : xs_S} {w : Int32} : (F_X3_take st w).2 70 3 = st 70 3 := by
  unfold F_X3_take
  split
  · dsimp only
    rw [xs_rd_i (by decide)]
  · rfl
theorem tn_3 {st : xs_S} : (F_X3_takeNumber st).2 70 3 = st 70 3 := by
  have key : ∀ (n : Nat) (x : Int32) (s : xs_S), (lp_X3_takeNumber_10 n x s).2 70 3 = s 70 3 := by
    intro n
    induction n with
    | zero => intro x s; rfl
    | succ n ih =>
      intro x s
      unfold lp_X3_takeNumber_10
      repeat' split
      all_goals try dsimp only
      all_goals first | with_reducible rfl | rw [ih, xs_rd_i (by decide), xs_rd_i (by decide)]
  unfold F_X3_takeNumber
  rw [key, xs_rd_i (by decide)]
theorem tf_3 {st : xs_S} : (F_X3_takeFirst st).2 70 3 = st 70 3 := by
  unfold F_X3_takeFirst
  dsimp only
  rw [xs_rd_i (by decide), tn_3]
theorem ts_3 {st : xs_S} : (F_X3_takeSecond st).2 70 3 = st 70 3 := by
  unfold F_X3_takeSecond
  dsimp only
  rw [xs_rd_i (by decide), tn_3]
theorem tt_3 {st : xs_S} : (F_X3_takeThird st).2 70 3 = st 70 3 := by
  unfold F_X3_takeThird
  dsimp only
  rw [xs_rd_i (by decide), tn_3]
def KR (x : Int32) : Prop := 0 ≤ x.toInt ∧ x.toInt < 65536
theorem kr_i (P : Int32 → Prop) {c : Prop} [Decidable c] {a b : Int32 × xs_S} (ha : P (a.2 70 3)) (hb : P (b.2 70 3)) : P ((if c then a else b).2 70 3) := by
  by_cases h : c
  · rw [if_pos h]; exact ha
  · rw [if_neg h]; exact hb
theorem no_P {st : xs_S} (P : Int32 → Prop) (h0 : P (st 70 3)) (h1 : P (F_X3_sign st)) (h2 : P (F_X3_sign (F_X3_take st 59).2)) : P ((F_X3_nextOrder st).2 70 3) := by
  unfold F_X3_nextOrder
  repeat' (with_reducible refine kr_i P ?_ ?_)
  all_goals try dsimp only
  all_goals simp only [ta_3, tf_3, ts_3, tt_3]
  all_goals first | with_reducible exact h0 | (rw [xs_rd_i (by decide), xs_rd_s]; first | with_reducible exact h1 | with_reducible exact h2)
theorem no_k {st : xs_S} (hp : PW st) (h3 : KR (st 70 3)) : KR ((F_X3_nextOrder st).2 70 3) := no_P KR h3 (sign_in hp) (sign_in (pw_take (by decide) hp))
theorem ff_n {st : xs_S} {k : Nat} (hk : k ≠ 70) : (F_X3_firstFault st).2 k = st k := by
  have key : ∀ (n : Nat) (x : Int32) (s : xs_S), (lp_X3_firstFault_6 n x s).2 k = s k := by
    intro n
    induction n with
    | zero => intro x s; rfl
    | succ n ih =>
      intro x s
      unfold lp_X3_firstFault_6
      repeat' split
      all_goals try dsimp only
      all_goals first | with_reducible rfl | (rw [no_n hk]; done) | rw [ih, no_n hk]
  unfold F_X3_firstFault
  rw [key]
  exact xs_rd_k hk
theorem ff_w {st : xs_S} (hp : PW (F_X3_startReading st)) : PW (F_X3_firstFault st).2 := by
  have key : ∀ (n : Nat) (x : Int32) (s : xs_S), PW s → PW (lp_X3_firstFault_6 n x s).2 := by
    intro n
    induction n with
    | zero => intro x s h; exact h
    | succ n ih =>
      intro x s h
      unfold lp_X3_firstFault_6
      repeat' split
      all_goals try dsimp only
      all_goals first | with_reducible exact ih _ _ (pw_no h) | with_reducible exact pw_no h | with_reducible exact h
  unfold F_X3_firstFault
  exact key _ _ _ hp
theorem ff_k {st : xs_S} (hp : PW (F_X3_startReading st)) (h3 : KR (st 70 3)) : KR ((F_X3_firstFault st).2 70 3) := by
  have key : ∀ (n : Nat) (x : Int32) (s : xs_S), PW s → KR (s 70 3) → KR ((lp_X3_firstFault_6 n x s).2 70 3) := by
    intro n
    induction n with
    | zero => intro x s h h3; exact h3
    | succ n ih =>
      intro x s h h3
      unfold lp_X3_firstFault_6
      repeat' split
      all_goals try dsimp only
      all_goals first | with_reducible exact ih _ _ (pw_no h) (no_k h h3) | with_reducible exact no_k h h3 | with_reducible exact h3
  unfold F_X3_firstFault
  exact key _ _ _ hp h3
theorem xc_e {st : xs_S} (hp : PW (F_X3_startReading st)) (hd0 : 0 ≤ (st 1 3).toInt ∧ (st 1 3).toInt ≤ 15) (hk : KR (st 70 3)) : xs_lo 0 80 81 ∧ PW (F_X3_startReading (F_X2_draft (F_X3_firstFault st).2)) ∧ (0 ≤ (F_X3_startReading (F_X2_draft (F_X3_firstFault st).2) 1 3).toInt ∧ (F_X3_startReading (F_X2_draft (F_X3_firstFault st).2) 1 3).toInt ≤ 15) ∧ KR (F_X3_startReading (F_X2_draft (F_X3_firstFault st).2) 70 3) := by
  have h1 := ff_w hp
  have e70 : F_X2_draft (F_X3_firstFault st).2 70 = (F_X3_firstFault st).2 70 := dr_n (by omega)
  have e71 : F_X2_draft (F_X3_firstFault st).2 71 = (F_X3_firstFault st).2 71 := dr_n (by omega)
  have hw : PW (F_X2_draft (F_X3_firstFault st).2) := pw_c e70 e71 h1
  refine ⟨⟨by decide, by decide, by decide⟩, ?_, ?_, ?_⟩
  · unfold F_X3_startReading
    exact pw_at hw (by have h2 := hw.1; rw [xi_0]; omega)
  · unfold F_X3_startReading
    rw [xs_rd_k (by decide), dr_n (by omega), ff_n (by decide)]
    exact hd0
  · unfold F_X3_startReading
    rw [xs_rd_i (by decide), e70]
    exact ff_k hp hk
theorem xc_b {x : Int32} {n : Nat} {st : xs_S} (h : xs_lo x 80 (n + 1) ∧ PW st ∧ (0 ≤ (st 1 3).toInt ∧ (st 1 3).toInt ≤ 15) ∧ KR (st 70 3)) (h1 : ¬ 80 ≤ x) : xs_lo (x + 1) 80 n ∧ PW (F_X6_carryOrder (F_X3_nextOrder st).2).2 ∧ (0 ≤ ((F_X6_carryOrder (F_X3_nextOrder st).2).2 1 3).toInt ∧ ((F_X6_carryOrder (F_X3_nextOrder st).2).2 1 3).toInt ≤ 15) ∧ KR ((F_X6_carryOrder (F_X3_nextOrder st).2).2 70 3) := by
  obtain ⟨g1, g2, g3, g4⟩ := h
  have e13 : (F_X3_nextOrder st).2 1 3 = st 1 3 := by rw [no_n (by decide)]
  have hd := co_d (st := (F_X3_nextOrder st).2) (by rw [e13]; exact g3.2) (by rw [e13]; exact g3.1)
  refine ⟨xs_lo_up g1 h1, pw_c (co_n (by omega)) (co_n (by omega)) (pw_no g2), ⟨hd.2, hd.1⟩, ?_⟩
  rw [co_n (by omega)]
  exact no_k g2 g4
def lp_X6_carryOut_35 : Nat → Int32 → xs_S → Int32 × xs_S
  | 0, _, st => (0, st)
  | n + 1, x1, st => (if 80 ≤ x1 then ((F_X2_keep (F_X3_clear st) x1).1, (F_X2_keep (F_X3_clear st) x1).2)
    else (if ((F_X3_nextOrder st).1) = 0 then ((F_X2_keep (F_X3_clear ((F_X3_nextOrder st).2)) x1).1, (F_X2_keep (F_X3_clear ((F_X3_nextOrder st).2)) x1).2)
      else (if (F_X6_isError ((F_X6_carryOrder ((F_X3_nextOrder st).2)).2) ((F_X6_carryOrder ((F_X3_nextOrder st).2)).1)) = 0 then lp_X6_carryOut_35 n (x1 + 1) ((F_X6_carryOrder ((F_X3_nextOrder st).2)).2)
        else ((F_X2_keep (F_X3_clear ((F_X6_carryOrder ((F_X3_nextOrder st).2)).2)) x1).1, (F_X2_keep (F_X3_clear ((F_X6_carryOrder ((F_X3_nextOrder st).2)).2)) x1).2))))
set_option maxRecDepth 20000 in
theorem cl_X6_carryOut_35 {G : xs_G} {base : Nat} (d : Nat) : ∀ (n : Nat) (x1 : Int32) (st : xs_S), xs_lo x1 80 n ∧ PW st ∧ (0 ≤ (st 1 3).toInt ∧ (st 1 3).toInt ≤ 15) ∧ KR (st 70 3) → xs_R G base (d + 7) M_X6_carryOut (35, [(0, .ref 0), (1, .int x1)], [], st) (fun v u => v = some (.int (lp_X6_carryOut_35 n x1 st).1) ∧ u = (lp_X6_carryOut_35 n x1 st).2) := by
  intro n
  induction n with
  | zero =>
    intro x1 st hinv
    exact (xs_lo0 hinv.1).elim
  | succ n ih =>
    intro x1 st hinv
    refine xr_blk gd_X6_carryOut 2 (c' := (38, [(0, .ref 0), (1, .int x1)], [.int 80, .int x1], st)) rfl ?_
    refine xr_br gd_X6_carryOut rfl rfl (fun h1 => ?_) (fun h1 => ?_)
    · refine xr_blk gd_X6_carryOut 2 (c' := (71, [(0, .ref 0), (1, .int x1)], [.ref 70], st)) rfl ?_
      refine xr_callV gd_X6_carryOut gd_X3_clear k_X6_183 rfl (c_X3_clear (d + 6) st) (by omega) rfl rfl rfl rfl rfl ?_
      refine xs_fun ?_
      refine xr_blk gd_X6_carryOut 3 (c' := (79, [(0, .ref 0), (1, .int x1)], [.int x1, .ref 11], (F_X3_clear st))) rfl ?_
      refine xr_callV gd_X6_carryOut gd_X2_keep k_X6_52 rfl (c_X2_keep (d + 5) (F_X3_clear st) x1) (by omega) rfl rfl rfl rfl rfl ?_
      refine xs_fun ?_
      exact xr_iret gd_X6_carryOut rfl rfl ⟨by first | (rw [lp_X6_carryOut_35, if_pos h1]; done) | (rw [lp_X6_carryOut_35, if_pos h1]; rfl), by first | (rw [lp_X6_carryOut_35, if_pos h1]; done) | (rw [lp_X6_carryOut_35, if_pos h1]; rfl)⟩
    · refine xr_blk gd_X6_carryOut 2 (c' := (45, [(0, .ref 0), (1, .int x1)], [.ref 70], st)) rfl ?_
      refine xr_callV gd_X6_carryOut gd_X3_nextOrder k_X6_192 rfl (c_X3_nextOrder (d + 3) st hinv.2.1) (by omega) rfl rfl rfl rfl rfl ?_
      refine xs_fun ?_
      refine xr_br gd_X6_carryOut rfl rfl (fun h2 => ?_) (fun h2 => ?_)
      · refine xr_blk gd_X6_carryOut 2 (c' := (71, [(0, .ref 0), (1, .int x1)], [.ref 70], (F_X3_nextOrder st).2)) rfl ?_
        refine xr_callV gd_X6_carryOut gd_X3_clear k_X6_183 rfl (c_X3_clear (d + 6) ((F_X3_nextOrder st).2)) (by omega) rfl rfl rfl rfl rfl ?_
        refine xs_fun ?_
        refine xr_blk gd_X6_carryOut 3 (c' := (79, [(0, .ref 0), (1, .int x1)], [.int x1, .ref 11], (F_X3_clear ((F_X3_nextOrder st).2)))) rfl ?_
        refine xr_callV gd_X6_carryOut gd_X2_keep k_X6_52 rfl (c_X2_keep (d + 5) (F_X3_clear ((F_X3_nextOrder st).2)) x1) (by omega) rfl rfl rfl rfl rfl ?_
        refine xs_fun ?_
        exact xr_iret gd_X6_carryOut rfl rfl ⟨by first | (rw [lp_X6_carryOut_35, if_neg h1, if_pos h2]; done) | (rw [lp_X6_carryOut_35, if_neg h1, if_pos h2]; rfl), by first | (rw [lp_X6_carryOut_35, if_neg h1, if_pos h2]; done) | (rw [lp_X6_carryOut_35, if_neg h1, if_pos h2]; rfl)⟩
      · refine xr_blk gd_X6_carryOut 1 (c' := (52, [(0, .ref 0), (1, .int x1)], [.ref 0], (F_X3_nextOrder st).2)) rfl ?_
        refine xr_callV gd_X6_carryOut gd_X6_carryOrder k_X6_195 rfl (c_X6_carryOrder (d + 0) ((F_X3_nextOrder st).2) (by rw [no_n (by decide)]; exact hinv.2.2.1.2) (no_k hinv.2.1 hinv.2.2.2)) (by omega) rfl rfl rfl rfl rfl ?_
        refine xs_fun ?_
        refine xr_callS gd_X6_carryOut gd_X6_isError k_X6_198 rfl (c_X6_isError (d + 6) ((F_X6_carryOrder ((F_X3_nextOrder st).2)).2) ((F_X6_carryOrder ((F_X3_nextOrder st).2)).1)) (by omega) rfl rfl rfl ?_
        refine xs_fun ?_
        refine xr_br gd_X6_carryOut rfl rfl (fun h3 => ?_) (fun h3 => ?_)
        · refine xr_blk gd_X6_carryOut 2 (c' := (71, [(0, .ref 0), (1, .int x1)], [.ref 70], (F_X6_carryOrder ((F_X3_nextOrder st).2)).2)) rfl ?_
          refine xr_callV gd_X6_carryOut gd_X3_clear k_X6_183 rfl (c_X3_clear (d + 6) ((F_X6_carryOrder ((F_X3_nextOrder st).2)).2)) (by omega) rfl rfl rfl rfl rfl ?_
          refine xs_fun ?_
          refine xr_blk gd_X6_carryOut 3 (c' := (79, [(0, .ref 0), (1, .int x1)], [.int x1, .ref 11], (F_X3_clear ((F_X6_carryOrder ((F_X3_nextOrder st).2)).2)))) rfl ?_
          refine xr_callV gd_X6_carryOut gd_X2_keep k_X6_52 rfl (c_X2_keep (d + 5) (F_X3_clear ((F_X6_carryOrder ((F_X3_nextOrder st).2)).2)) x1) (by omega) rfl rfl rfl rfl rfl ?_
          refine xs_fun ?_
          exact xr_iret gd_X6_carryOut rfl rfl ⟨by first | (rw [lp_X6_carryOut_35, if_neg h1, if_neg h2, if_neg h3]; done) | (rw [lp_X6_carryOut_35, if_neg h1, if_neg h2, if_neg h3]; rfl), by first | (rw [lp_X6_carryOut_35, if_neg h1, if_neg h2, if_neg h3]; done) | (rw [lp_X6_carryOut_35, if_neg h1, if_neg h2, if_neg h3]; rfl)⟩
        · refine xr_blk gd_X6_carryOut 2 (c' := (35, [(0, .ref 0), (1, .int (x1 + 1))], [], (F_X6_carryOrder ((F_X3_nextOrder st).2)).2)) rfl ?_
          refine xs_cons (ih (x1 + 1) ((F_X6_carryOrder ((F_X3_nextOrder st).2)).2) (xc_b hinv h1)) (fun v u hq => ?_)
          rw [lp_X6_carryOut_35, if_neg h1, if_neg h2, if_pos h3]; exact hq
def F_X6_carryOut (st : xs_S) : Int32 × xs_S := (if ((F_X3_firstFault st).1) = (-6) then lp_X6_carryOut_35 81 0 (F_X3_startReading (F_X2_draft ((F_X3_firstFault st).2)))
    else ((-3), (F_X3_firstFault st).2))
set_option maxRecDepth 20000 in
theorem c_X6_carryOut {G : xs_G} {base : Nat} (d : Nat) (st : xs_S) (hp : PW (F_X3_startReading st)) (hd0 : 0 ≤ (st 1 3).toInt ∧ (st 1 3).toInt ≤ 15) (hk : KR (st 70 3)) : xs_K G base (d + 7) M_X6_carryOut [.ref 0] st (fun v u => v = some (.int (F_X6_carryOut st).1) ∧ u = (F_X6_carryOut st).2) := by
  refine xs_intro ok_X6_carryOut [(0, .ref 0)] rfl rfl ?_
  refine xr_blk gd_X6_carryOut 2 (c' := (4, [(0, .ref 0)], [.ref 70], st)) rfl ?_
  refine xr_callV gd_X6_carryOut gd_X3_firstFault k_X6_186 rfl (c_X3_firstFault (d + 2) st hp) (by omega) rfl rfl rfl rfl rfl ?_
  refine xs_fun ?_
  refine xr_blk gd_X6_carryOut 1 (c' := (9, [(0, .ref 0)], [.int (-6), .int ((F_X3_firstFault st).1)], (F_X3_firstFault st).2)) rfl ?_
  refine xr_br gd_X6_carryOut rfl rfl (fun h1 => ?_) (fun h1 => ?_)
  · refine xr_blk gd_X6_carryOut 4 (c' := (23, [(0, .ref 0)], [.ref 1, .ref 11], (F_X3_firstFault st).2)) rfl ?_
    refine xr_callV gd_X6_carryOut gd_X2_draft k_X6_44 rfl (c_X2_draft (d + 4) ((F_X3_firstFault st).2)) (by omega) rfl rfl rfl rfl rfl ?_
    refine xs_fun ?_
    refine xr_blk gd_X6_carryOut 4 (c' := (32, [(0, .ref 0), (1, .int 0)], [.ref 70], (F_X2_draft ((F_X3_firstFault st).2)))) rfl ?_
    refine xr_callV gd_X6_carryOut gd_X3_startReading k_X6_189 rfl (c_X3_startReading (d + 6) (F_X2_draft ((F_X3_firstFault st).2))) (by omega) rfl rfl rfl rfl rfl ?_
    refine xs_fun ?_
    refine xs_cons (cl_X6_carryOut_35 d 81 0 (F_X3_startReading (F_X2_draft ((F_X3_firstFault st).2))) (xc_e hp hd0 hk)) (fun v u hq => ?_)
    rw [F_X6_carryOut, if_pos h1]; exact hq
  · refine xr_blk gd_X6_carryOut 1 (c' := (14, [(0, .ref 0)], [.int (-3)], (F_X3_firstFault st).2)) rfl ?_
    exact xr_iret gd_X6_carryOut rfl rfl ⟨by first | (rw [F_X6_carryOut, if_neg h1]; done) | (rw [F_X6_carryOut, if_neg h1]; rfl), by first | (rw [F_X6_carryOut, if_neg h1]; done) | (rw [F_X6_carryOut, if_neg h1]; rfl)⟩
