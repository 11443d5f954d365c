def F_X6_findHour (st : xs_S) : Int32 × xs_S := (if (F_X5_isEmpty (F_X6_gatherNow st (-1))) = 0 then (((F_X5_hour (F_X6_gatherNow st (-1))) + 100000), (F_X1_judge (F_X6_gatherNow st (-1)) (F_X5_hour (F_X6_gatherNow st (-1))) (F_X5_dialsAt (F_X6_gatherNow st (-1)) (F_X5_hour (F_X6_gatherNow st (-1))))))
    else ((-5), (F_X6_gatherNow st (-1))))
set_option maxRecDepth 20000 in
theorem c_X6_findHour {G : xs_G} {base : Nat} (d : Nat) (st : xs_S) : xs_K (xc G) base (d + 5) M_X6_findHour [.ref 0] st (fun v u => v = some (.int (F_X6_findHour st).1) ∧ u = (F_X6_findHour st).2) := by
  refine xs_intro ok_X6_findHour [(0, .ref 0)] rfl rfl ?_
  refine xr_blk gd_X6_findHour 2 (c' := (2, [(0, .ref 0)], [.int (-1), .ref 0], st)) rfl ?_
  refine xr_callV gd_X6_findHour gd_X6_gatherNow k_X6_70 rfl (c_X6_gatherNow (d + 0) st (-1)) (by omega) rfl rfl rfl rfl rfl ?_
  refine xs_fun ?_
  refine xr_blk gd_X6_findHour 2 (c' := (9, [(0, .ref 0)], [.ref 7], (F_X6_gatherNow st (-1)))) rfl ?_
  refine xr_callV gd_X6_findHour gd_X5_isEmpty k_X6_74 rfl (c_X5_isEmpty (d + 4) (F_X6_gatherNow st (-1))) (by omega) rfl rfl rfl rfl rfl ?_
  refine xs_fun ?_
  refine xr_br gd_X6_findHour rfl rfl (fun h1 => ?_) (fun h1 => ?_)
  · refine xr_blk gd_X6_findHour 2 (c' := (22, [(0, .ref 0)], [.ref 7], (F_X6_gatherNow st (-1)))) rfl ?_
    refine xr_callV gd_X6_findHour gd_X5_hour k_X6_78 rfl (c_X5_hour (d + 1) (F_X6_gatherNow st (-1)) gn_sz) (by omega) rfl rfl rfl rfl rfl ?_
    refine xs_fun ?_
    refine xr_blk gd_X6_findHour 7 (c' := (36, [(0, .ref 0), (1, .int (F_X5_hour (F_X6_gatherNow st (-1))))], [.int (F_X5_hour (F_X6_gatherNow st (-1))), .ref 7, .int (F_X5_hour (F_X6_gatherNow st (-1))), .ref 1], (F_X6_gatherNow st (-1)))) rfl ?_
    refine xr_callV gd_X6_findHour gd_X5_dialsAt k_X6_81 rfl (c_X5_dialsAt (d + 3) (F_X6_gatherNow st (-1)) (F_X5_hour (F_X6_gatherNow st (-1))) gn_sz) (by omega) rfl rfl rfl rfl rfl ?_
    refine xs_fun ?_
    refine xr_callV gd_X6_findHour gd_X1_judge k_X6_84 rfl (c_X1_judge (d + 3) (F_X6_gatherNow st (-1)) (F_X5_hour (F_X6_gatherNow st (-1))) (F_X5_dialsAt (F_X6_gatherNow st (-1)) (F_X5_hour (F_X6_gatherNow st (-1))))) (by omega) rfl rfl rfl rfl rfl ?_
    refine xs_fun ?_
    refine xr_blk gd_X6_findHour 3 (c' := (46, [(0, .ref 0), (1, .int (F_X5_hour (F_X6_gatherNow st (-1))))], [.int ((F_X5_hour (F_X6_gatherNow st (-1))) + 100000)], (F_X1_judge (F_X6_gatherNow st (-1)) (F_X5_hour (F_X6_gatherNow st (-1))) (F_X5_dialsAt (F_X6_gatherNow st (-1)) (F_X5_hour (F_X6_gatherNow st (-1))))))) rfl ?_
    exact xr_iret gd_X6_findHour rfl rfl ⟨by first | (rw [F_X6_findHour, if_pos h1]; done) | (rw [F_X6_findHour, if_pos h1]; rfl), by first | (rw [F_X6_findHour, if_pos h1]; done) | (rw [F_X6_findHour, if_pos h1]; rfl)⟩
  · refine xr_blk gd_X6_findHour 1 (c' := (17, [(0, .ref 0)], [.int (-5)], (F_X6_gatherNow st (-1)))) rfl ?_
    exact xr_iret gd_X6_findHour rfl rfl ⟨by first | (rw [F_X6_findHour, if_neg h1]; done) | (rw [F_X6_findHour, if_neg h1]; rfl), by first | (rw [F_X6_findHour, if_neg h1]; done) | (rw [F_X6_findHour, if_neg h1]; rfl)⟩
def F_X6_set (st : xs_S) (setting : Int32) (value : Int32) : Int32 × xs_S := ((F_X2_keep ((F_X1_changeSetting (F_X2_draft st) setting value).2) ((F_X1_changeSetting (F_X2_draft st) setting value).1)).1, (F_X2_keep ((F_X1_changeSetting (F_X2_draft st) setting value).2) ((F_X1_changeSetting (F_X2_draft st) setting value).1)).2)
set_option maxRecDepth 20000 in
theorem c_X6_set {G : xs_G} {base : Nat} (d : Nat) (st : xs_S) (setting : Int32) (value : Int32) : xs_K (xc G) base (d + 3) M_X6_set [.ref 0, .int setting, .int value] st (fun v u => v = some (.int (F_X6_set st setting value).1) ∧ u = (F_X6_set st setting value).2) := by
  refine xs_intro ok_X6_set [(0, .ref 0), (1, .int setting), (2, .int value)] rfl rfl ?_
  refine xr_blk gd_X6_set 4 (c' := (8, [(0, .ref 0), (1, .int setting), (2, .int value)], [.ref 1, .ref 11], st)) rfl ?_
  refine xr_callV gd_X6_set gd_X2_draft k_X6_44 rfl (c_X2_draft (d + 0) st) (by omega) rfl rfl rfl rfl rfl ?_
  refine xs_fun ?_
  refine xr_blk gd_X6_set 6 (c' := (21, [(0, .ref 0), (1, .int setting), (2, .int value)], [.int value, .int setting, .ref 1, .ref 11], (F_X2_draft st))) rfl ?_
  refine xr_callV gd_X6_set gd_X1_changeSetting k_X6_48 rfl (c_X1_changeSetting (d + 2) (F_X2_draft st) setting value) (by omega) rfl rfl rfl rfl rfl ?_
  refine xs_fun ?_
  refine xr_callV gd_X6_set gd_X2_keep k_X6_52 rfl (c_X2_keep (d + 1) ((F_X1_changeSetting (F_X2_draft st) setting value).2) ((F_X1_changeSetting (F_X2_draft st) setting value).1)) (by omega) rfl rfl rfl rfl rfl ?_
  refine xs_fun ?_
  exact xr_iret gd_X6_set rfl rfl ⟨by first | (rw [F_X6_set]; done) | (rw [F_X6_set]; rfl), by first | (rw [F_X6_set]; done) | (rw [F_X6_set]; rfl)⟩
def F_X6_dial (st : xs_S) : Int32 × xs_S := ((F_X2_keep ((F_X1_addDial (F_X2_draft st)).2) ((F_X1_addDial (F_X2_draft st)).1)).1, (F_X2_keep ((F_X1_addDial (F_X2_draft st)).2) ((F_X1_addDial (F_X2_draft st)).1)).2)
set_option maxRecDepth 20000 in
theorem c_X6_dial {G : xs_G} {base : Nat} (d : Nat) (st : xs_S) : xs_K (xc G) base (d + 3) M_X6_dial [.ref 0] st (fun v u => v = some (.int (F_X6_dial st).1) ∧ u = (F_X6_dial st).2) := by
  refine xs_intro ok_X6_dial [(0, .ref 0)] rfl rfl ?_
  refine xr_blk gd_X6_dial 4 (c' := (8, [(0, .ref 0)], [.ref 1, .ref 11], st)) rfl ?_
  refine xr_callV gd_X6_dial gd_X2_draft k_X6_44 rfl (c_X2_draft (d + 0) st) (by omega) rfl rfl rfl rfl rfl ?_
  refine xs_fun ?_
  refine xr_blk gd_X6_dial 4 (c' := (19, [(0, .ref 0)], [.ref 1, .ref 11], (F_X2_draft st))) rfl ?_
  refine xr_callV gd_X6_dial gd_X1_addDial k_X6_56 rfl (c_X1_addDial (d + 2) (F_X2_draft st)) (by omega) rfl rfl rfl rfl rfl ?_
  refine xs_fun ?_
  refine xr_callV gd_X6_dial gd_X2_keep k_X6_52 rfl (c_X2_keep (d + 1) ((F_X1_addDial (F_X2_draft st)).2) ((F_X1_addDial (F_X2_draft st)).1)) (by omega) rfl rfl rfl rfl rfl ?_
  refine xs_fun ?_
  exact xr_iret gd_X6_dial rfl rfl ⟨by first | (rw [F_X6_dial]; done) | (rw [F_X6_dial]; rfl), by first | (rw [F_X6_dial]; done) | (rw [F_X6_dial]; rfl)⟩
def F_X6_read (st : xs_S) (dial : Int32) (time : Int32) (doubt : Int32) : Int32 × xs_S := ((F_X2_keep ((F_X1_takeReading (F_X2_draft st) dial time doubt).2) ((F_X1_takeReading (F_X2_draft st) dial time doubt).1)).1, (F_X2_keep ((F_X1_takeReading (F_X2_draft st) dial time doubt).2) ((F_X1_takeReading (F_X2_draft st) dial time doubt).1)).2)
set_option maxRecDepth 20000 in
theorem c_X6_read {G : xs_G} {base : Nat} (d : Nat) (st : xs_S) (dial : Int32) (time : Int32) (doubt : Int32) (hds : (st 1 3).toInt ≤ 15) : xs_K (xc G) base (d + 3) M_X6_read [.ref 0, .int dial, .int time, .int doubt] st (fun v u => v = some (.int (F_X6_read st dial time doubt).1) ∧ u = (F_X6_read st dial time doubt).2) := by
  refine xs_intro ok_X6_read [(0, .ref 0), (1, .int dial), (2, .int time), (3, .int doubt)] rfl rfl ?_
  refine xr_blk gd_X6_read 4 (c' := (8, [(0, .ref 0), (1, .int dial), (2, .int time), (3, .int doubt)], [.ref 1, .ref 11], st)) rfl ?_
  refine xr_callV gd_X6_read gd_X2_draft k_X6_44 rfl (c_X2_draft (d + 0) st) (by omega) rfl rfl rfl rfl rfl ?_
  refine xs_fun ?_
  refine xr_blk gd_X6_read 7 (c' := (22, [(0, .ref 0), (1, .int dial), (2, .int time), (3, .int doubt)], [.int doubt, .int time, .int dial, .ref 1, .ref 11], (F_X2_draft st))) rfl ?_
  refine xr_callV gd_X6_read gd_X1_takeReading k_X6_60 rfl (c_X1_takeReading (d + 1) (F_X2_draft st) dial time doubt (by rw [dr_n (by omega)]; exact hds)) (by omega) rfl rfl rfl rfl rfl ?_
  refine xs_fun ?_
  refine xr_callV gd_X6_read gd_X2_keep k_X6_52 rfl (c_X2_keep (d + 1) ((F_X1_takeReading (F_X2_draft st) dial time doubt).2) ((F_X1_takeReading (F_X2_draft st) dial time doubt).1)) (by omega) rfl rfl rfl rfl rfl ?_
  refine xs_fun ?_
  exact xr_iret gd_X6_read rfl rfl ⟨by first | (rw [F_X6_read]; done) | (rw [F_X6_read]; rfl), by first | (rw [F_X6_read]; done) | (rw [F_X6_read]; rfl)⟩
def F_X6_pass (st : xs_S) (minutes : Int32) : Int32 × xs_S := ((F_X2_keep ((F_X1_letPass (F_X2_draft st) minutes).2) ((F_X1_letPass (F_X2_draft st) minutes).1)).1, (F_X2_keep ((F_X1_letPass (F_X2_draft st) minutes).2) ((F_X1_letPass (F_X2_draft st) minutes).1)).2)
set_option maxRecDepth 20000 in
theorem c_X6_pass {G : xs_G} {base : Nat} (d : Nat) (st : xs_S) (minutes : Int32) : xs_K (xc G) base (d + 3) M_X6_pass [.ref 0, .int minutes] st (fun v u => v = some (.int (F_X6_pass st minutes).1) ∧ u = (F_X6_pass st minutes).2) := by
  refine xs_intro ok_X6_pass [(0, .ref 0), (1, .int minutes)] rfl rfl ?_
  refine xr_blk gd_X6_pass 4 (c' := (8, [(0, .ref 0), (1, .int minutes)], [.ref 1, .ref 11], st)) rfl ?_
  refine xr_callV gd_X6_pass gd_X2_draft k_X6_44 rfl (c_X2_draft (d + 0) st) (by omega) rfl rfl rfl rfl rfl ?_
  refine xs_fun ?_
  refine xr_blk gd_X6_pass 5 (c' := (20, [(0, .ref 0), (1, .int minutes)], [.int minutes, .ref 1, .ref 11], (F_X2_draft st))) rfl ?_
  refine xr_callV gd_X6_pass gd_X1_letPass k_X6_64 rfl (c_X1_letPass (d + 2) (F_X2_draft st) minutes) (by omega) rfl rfl rfl rfl rfl ?_
  refine xs_fun ?_
  refine xr_callV gd_X6_pass gd_X2_keep k_X6_52 rfl (c_X2_keep (d + 1) ((F_X1_letPass (F_X2_draft st) minutes).2) ((F_X1_letPass (F_X2_draft st) minutes).1)) (by omega) rfl rfl rfl rfl rfl ?_
  refine xs_fun ?_
  exact xr_iret gd_X6_pass rfl rfl ⟨by first | (rw [F_X6_pass]; done) | (rw [F_X6_pass]; rfl), by first | (rw [F_X6_pass]; done) | (rw [F_X6_pass]; rfl)⟩
def F_X6_agree (st : xs_S) : Int32 × xs_S := ((F_X2_keep ((F_X6_findHour (F_X2_draft st)).2) ((F_X6_findHour (F_X2_draft st)).1)).1, (F_X2_keep ((F_X6_findHour (F_X2_draft st)).2) ((F_X6_findHour (F_X2_draft st)).1)).2)
set_option maxRecDepth 20000 in
theorem c_X6_agree {G : xs_G} {base : Nat} (d : Nat) (st : xs_S) : xs_K (xc G) base (d + 6) M_X6_agree [.ref 0] st (fun v u => v = some (.int (F_X6_agree st).1) ∧ u = (F_X6_agree st).2) := by
  refine xs_intro ok_X6_agree [(0, .ref 0)] rfl rfl ?_
  refine xr_blk gd_X6_agree 4 (c' := (8, [(0, .ref 0)], [.ref 1, .ref 11], st)) rfl ?_
  refine xr_callV gd_X6_agree gd_X2_draft k_X6_44 rfl (c_X2_draft (d + 3) st) (by omega) rfl rfl rfl rfl rfl ?_
  refine xs_fun ?_
  refine xr_blk gd_X6_agree 3 (c' := (16, [(0, .ref 0)], [.ref 0, .ref 11], (F_X2_draft st))) rfl ?_
  refine xr_callV gd_X6_agree gd_X6_findHour k_X6_67 rfl (c_X6_findHour (d + 0) (F_X2_draft st)) (by omega) rfl rfl rfl rfl rfl ?_
  refine xs_fun ?_
  refine xr_callV gd_X6_agree gd_X2_keep k_X6_52 rfl (c_X2_keep (d + 4) ((F_X6_findHour (F_X2_draft st)).2) ((F_X6_findHour (F_X2_draft st)).1)) (by omega) rfl rfl rfl rfl rfl ?_
  refine xs_fun ?_
  exact xr_iret gd_X6_agree rfl rfl ⟨by first | (rw [F_X6_agree]; done) | (rw [F_X6_agree]; rfl), by first | (rw [F_X6_agree]; done) | (rw [F_X6_agree]; rfl)⟩
def F_X6_of (st : xs_S) (dial : Int32) (what : Int32) : Int32 := (if (F_X1_hasDial st dial) = 0 then (-1)
    else (F_X1_about st dial what))
set_option maxRecDepth 20000 in
theorem c_X6_of {G : xs_G} {base : Nat} (d : Nat) (st : xs_S) (dial : Int32) (what : Int32) (hds : (st 1 3).toInt ≤ 15) : xs_K (xc G) base (d + 4) M_X6_of [.ref 0, .int dial, .int what] st (fun v u => v = some (.int (F_X6_of st dial what)) ∧ u = st) := by
  refine xs_intro ok_X6_of [(0, .ref 0), (1, .int dial), (2, .int what)] rfl rfl ?_
  refine xr_blk gd_X6_of 3 (c' := (5, [(0, .ref 0), (1, .int dial), (2, .int what)], [.int dial, .ref 1], st)) rfl ?_
  refine xr_callV gd_X6_of gd_X1_hasDial k_X6_96 rfl (c_X1_hasDial (d + 3) st dial) (by omega) rfl rfl rfl rfl rfl ?_
  refine xs_fun ?_
  refine xr_br gd_X6_of rfl rfl (fun h1 => ?_) (fun h1 => ?_)
  · have hd : 0 ≤ dial.toInt ∧ dial.toInt < 15 := by have hq := hasDial_in h1; omega
    refine xr_blk gd_X6_of 4 (c' := (19, [(0, .ref 0), (1, .int dial), (2, .int what)], [.int what, .int dial, .ref 1], st)) rfl ?_
    refine xr_callV gd_X6_of gd_X1_about k_X6_100 rfl (c_X1_about (d + 0) st dial what hd) (by omega) rfl rfl rfl rfl rfl ?_
    refine xs_fun ?_
    exact xr_iret gd_X6_of rfl rfl ⟨by first | (rw [F_X6_of, if_neg h1]; done) | (rw [F_X6_of, if_neg h1]; rfl), rfl⟩
  · refine xr_blk gd_X6_of 1 (c' := (12, [(0, .ref 0), (1, .int dial), (2, .int what)], [.int (-1)], st)) rfl ?_
    exact xr_iret gd_X6_of rfl rfl ⟨by first | (rw [F_X6_of, if_pos h1]; done) | (rw [F_X6_of, if_pos h1]; rfl), rfl⟩
def F_X6_best (st : xs_S) (what : Int32) : Int32 × xs_S := (if what < 0 then ((-2), st)
    else (if what ≤ 4 then (if (F_X5_isEmpty (F_X6_gatherNow st (-1))) = 0 then (if what.toInt = 0 then ((F_X5_most (F_X6_gatherNow st (-1))), (F_X6_gatherNow st (-1)))
          else (if what.toInt = 1 then (((F_X5_bestLow (F_X6_gatherNow st (-1))) + 100000), (F_X6_gatherNow st (-1)))
            else (if what.toInt = 2 then (((F_X5_bestHigh (F_X6_gatherNow st (-1))) + 100000), (F_X6_gatherNow st (-1)))
              else (if what.toInt = 3 then (((F_X5_hour (F_X6_gatherNow st (-1))) + 100000), (F_X6_gatherNow st (-1)))
                else ((F_X5_dialsAt (F_X6_gatherNow st (-1)) (F_X5_hour (F_X6_gatherNow st (-1)))), (F_X6_gatherNow st (-1)))))))
        else ((-6), (F_X6_gatherNow st (-1))))
      else ((-2), st)))
set_option maxRecDepth 20000 in
theorem c_X6_best {G : xs_G} {base : Nat} (d : Nat) (st : xs_S) (what : Int32) : xs_K (xc G) base (d + 5) M_X6_best [.ref 0, .int what] st (fun v u => v = some (.int (F_X6_best st what).1) ∧ u = (F_X6_best st what).2) := by
  refine xs_intro ok_X6_best [(0, .ref 0), (1, .int what)] rfl rfl ?_
  refine xr_blk gd_X6_best 1 (c' := (1, [(0, .ref 0), (1, .int what)], [.int what], st)) rfl ?_
  refine xr_br gd_X6_best rfl rfl (fun h1 => ?_) (fun h1 => ?_)
  · refine xr_blk gd_X6_best 1 (c' := (11, [(0, .ref 0), (1, .int what)], [.int (-2)], st)) rfl ?_
    exact xr_iret gd_X6_best rfl rfl ⟨by first | (rw [F_X6_best, if_pos h1]; done) | (rw [F_X6_best, if_pos h1]; rfl), by first | (rw [F_X6_best, if_pos h1]; done) | (rw [F_X6_best, if_pos h1]; rfl)⟩
  · refine xr_blk gd_X6_best 2 (c' := (6, [(0, .ref 0), (1, .int what)], [.int 4, .int what], st)) rfl ?_
    refine xr_br gd_X6_best rfl rfl (fun h2 => ?_) (fun h2 => ?_)
    · refine xr_blk gd_X6_best 2 (c' := (14, [(0, .ref 0), (1, .int what)], [.int (-1), .ref 0], st)) rfl ?_
      refine xr_callV gd_X6_best gd_X6_gatherNow k_X6_70 rfl (c_X6_gatherNow (d + 0) st (-1)) (by omega) rfl rfl rfl rfl rfl ?_
      refine xs_fun ?_
      refine xr_blk gd_X6_best 2 (c' := (21, [(0, .ref 0), (1, .int what)], [.ref 7], (F_X6_gatherNow st (-1)))) rfl ?_
      refine xr_callV gd_X6_best gd_X5_isEmpty k_X6_74 rfl (c_X5_isEmpty (d + 4) (F_X6_gatherNow st (-1))) (by omega) rfl rfl rfl rfl rfl ?_
      refine xs_fun ?_
      refine xr_br gd_X6_best rfl rfl (fun h3 => ?_) (fun h3 => ?_)
      · refine xr_blk gd_X6_best 1 (c' := (31, [(0, .ref 0), (1, .int what)], [.int what], (F_X6_gatherNow st (-1)))) rfl ?_
        by_cases h4 : what.toInt = 0
        · refine xr_swi (tgt := 60) gd_X6_best rfl 0 (by omega) (by omega) rfl (by decide) ?_
          refine xr_blk gd_X6_best 2 (c' := (64, [(0, .ref 0), (1, .int what)], [.ref 7], (F_X6_gatherNow st (-1)))) rfl ?_
          refine xr_callV gd_X6_best gd_X5_most k_X6_103 rfl (c_X5_most (d + 2) (F_X6_gatherNow st (-1)) gn_sz) (by omega) rfl rfl rfl rfl rfl ?_
          refine xs_fun ?_
          exact xr_iret gd_X6_best rfl rfl ⟨by first | (rw [F_X6_best, if_neg h1, if_pos h2, if_pos h3, if_pos h4]; done) | (rw [F_X6_best, if_neg h1, if_pos h2, if_pos h3, if_pos h4]; rfl), by first | (rw [F_X6_best, if_neg h1, if_pos h2, if_pos h3, if_pos h4]; done) | (rw [F_X6_best, if_neg h1, if_pos h2, if_pos h3, if_pos h4]; rfl)⟩
        · by_cases h5 : what.toInt = 1
          · refine xr_swi (tgt := 68) gd_X6_best rfl 1 (by omega) (by omega) rfl (by decide) ?_
            refine xr_blk gd_X6_best 2 (c' := (72, [(0, .ref 0), (1, .int what)], [.ref 7], (F_X6_gatherNow st (-1)))) rfl ?_
            refine xr_callV gd_X6_best gd_X5_bestLow k_X6_106 rfl (c_X5_bestLow (d + 1) (F_X6_gatherNow st (-1)) gn_sz) (by omega) rfl rfl rfl rfl rfl ?_
            refine xs_fun ?_
            refine xr_blk gd_X6_best 2 (c' := (78, [(0, .ref 0), (1, .int what)], [.int ((F_X5_bestLow (F_X6_gatherNow st (-1))) + 100000)], (F_X6_gatherNow st (-1)))) rfl ?_
            exact xr_iret gd_X6_best rfl rfl ⟨by first | (rw [F_X6_best, if_neg h1, if_pos h2, if_pos h3, if_neg h4, if_pos h5]; done) | (rw [F_X6_best, if_neg h1, if_pos h2, if_pos h3, if_neg h4, if_pos h5]; rfl), by first | (rw [F_X6_best, if_neg h1, if_pos h2, if_pos h3, if_neg h4, if_pos h5]; done) | (rw [F_X6_best, if_neg h1, if_pos h2, if_pos h3, if_neg h4, if_pos h5]; rfl)⟩
          · by_cases h6 : what.toInt = 2
            · refine xr_swi (tgt := 79) gd_X6_best rfl 2 (by omega) (by omega) rfl (by decide) ?_
              refine xr_blk gd_X6_best 2 (c' := (83, [(0, .ref 0), (1, .int what)], [.ref 7], (F_X6_gatherNow st (-1)))) rfl ?_
              refine xr_callV gd_X6_best gd_X5_bestHigh k_X6_109 rfl (c_X5_bestHigh (d + 1) (F_X6_gatherNow st (-1)) gn_sz) (by omega) rfl rfl rfl rfl rfl ?_
              refine xs_fun ?_
              refine xr_blk gd_X6_best 2 (c' := (89, [(0, .ref 0), (1, .int what)], [.int ((F_X5_bestHigh (F_X6_gatherNow st (-1))) + 100000)], (F_X6_gatherNow st (-1)))) rfl ?_
              exact xr_iret gd_X6_best rfl rfl ⟨by first | (rw [F_X6_best, if_neg h1, if_pos h2, if_pos h3, if_neg h4, if_neg h5, if_pos h6]; done) | (rw [F_X6_best, if_neg h1, if_pos h2, if_pos h3, if_neg h4, if_neg h5, if_pos h6]; rfl), by first | (rw [F_X6_best, if_neg h1, if_pos h2, if_pos h3, if_neg h4, if_neg h5, if_pos h6]; done) | (rw [F_X6_best, if_neg h1, if_pos h2, if_pos h3, if_neg h4, if_neg h5, if_pos h6]; rfl)⟩
            · by_cases h7 : what.toInt = 3
              · refine xr_swi (tgt := 90) gd_X6_best rfl 3 (by omega) (by omega) rfl (by decide) ?_
                refine xr_blk gd_X6_best 2 (c' := (94, [(0, .ref 0), (1, .int what)], [.ref 7], (F_X6_gatherNow st (-1)))) rfl ?_
                refine xr_callV gd_X6_best gd_X5_hour k_X6_78 rfl (c_X5_hour (d + 1) (F_X6_gatherNow st (-1)) gn_sz) (by omega) rfl rfl rfl rfl rfl ?_
                refine xs_fun ?_
                refine xr_blk gd_X6_best 2 (c' := (100, [(0, .ref 0), (1, .int what)], [.int ((F_X5_hour (F_X6_gatherNow st (-1))) + 100000)], (F_X6_gatherNow st (-1)))) rfl ?_
                exact xr_iret gd_X6_best rfl rfl ⟨by first | (rw [F_X6_best, if_neg h1, if_pos h2, if_pos h3, if_neg h4, if_neg h5, if_neg h6, if_pos h7]; done) | (rw [F_X6_best, if_neg h1, if_pos h2, if_pos h3, if_neg h4, if_neg h5, if_neg h6, if_pos h7]; rfl), by first | (rw [F_X6_best, if_neg h1, if_pos h2, if_pos h3, if_neg h4, if_neg h5, if_neg h6, if_pos h7]; done) | (rw [F_X6_best, if_neg h1, if_pos h2, if_pos h3, if_neg h4, if_neg h5, if_neg h6, if_pos h7]; rfl)⟩
              · refine xr_swo (tgt := 101) gd_X6_best rfl (by omega) (by decide) ?_
                refine xr_blk gd_X6_best 4 (c' := (109, [(0, .ref 0), (1, .int what)], [.ref 7, .ref 7], (F_X6_gatherNow st (-1)))) rfl ?_
                refine xr_callV gd_X6_best gd_X5_hour k_X6_78 rfl (c_X5_hour (d + 1) (F_X6_gatherNow st (-1)) gn_sz) (by omega) rfl rfl rfl rfl rfl ?_
                refine xs_fun ?_
                refine xr_callV gd_X6_best gd_X5_dialsAt k_X6_81 rfl (c_X5_dialsAt (d + 3) (F_X6_gatherNow st (-1)) (F_X5_hour (F_X6_gatherNow st (-1))) gn_sz) (by omega) rfl rfl rfl rfl rfl ?_
                refine xs_fun ?_
                exact xr_iret gd_X6_best rfl rfl ⟨by first | (rw [F_X6_best, if_neg h1, if_pos h2, if_pos h3, if_neg h4, if_neg h5, if_neg h6, if_neg h7]; done) | (rw [F_X6_best, if_neg h1, if_pos h2, if_pos h3, if_neg h4, if_neg h5, if_neg h6, if_neg h7]; rfl), by first | (rw [F_X6_best, if_neg h1, if_pos h2, if_pos h3, if_neg h4, if_neg h5, if_neg h6, if_neg h7]; done) | (rw [F_X6_best, if_neg h1, if_pos h2, if_pos h3, if_neg h4, if_neg h5, if_neg h6, if_neg h7]; rfl)⟩
      · refine xr_blk gd_X6_best 1 (c' := (29, [(0, .ref 0), (1, .int what)], [.int (-6)], (F_X6_gatherNow st (-1)))) rfl ?_
        exact xr_iret gd_X6_best rfl rfl ⟨by first | (rw [F_X6_best, if_neg h1, if_pos h2, if_neg h3]; done) | (rw [F_X6_best, if_neg h1, if_pos h2, if_neg h3]; rfl), by first | (rw [F_X6_best, if_neg h1, if_pos h2, if_neg h3]; done) | (rw [F_X6_best, if_neg h1, if_pos h2, if_neg h3]; rfl)⟩
    · refine xr_blk gd_X6_best 1 (c' := (11, [(0, .ref 0), (1, .int what)], [.int (-2)], st)) rfl ?_
      exact xr_iret gd_X6_best rfl rfl ⟨by first | (rw [F_X6_best, if_neg h1, if_neg h2]; done) | (rw [F_X6_best, if_neg h1, if_neg h2]; rfl), by first | (rw [F_X6_best, if_neg h1, if_neg h2]; done) | (rw [F_X6_best, if_neg h1, if_neg h2]; rfl)⟩
def F_X6_end (st : xs_S) (rank : Int32) (what : Int32) : Int32 × xs_S := (if rank < 0 then ((-1), (F_X6_gatherNow st (-1)))
    else (if rank < (F_X5_ends (F_X6_gatherNow st (-1))) then (if what.toInt = 0 then (((F_X5_timeOfKey (F_X6_gatherNow st (-1)) (F_X5_endKey (F_X6_gatherNow st (-1)) rank)) + 100000), (F_X6_gatherNow st (-1)))
        else (if what.toInt = 1 then ((F_X5_dialOfKey (F_X6_gatherNow st (-1)) (F_X5_endKey (F_X6_gatherNow st (-1)) rank)), (F_X6_gatherNow st (-1)))
          else (if what.toInt = 2 then ((F_X5_sideOfKey (F_X6_gatherNow st (-1)) (F_X5_endKey (F_X6_gatherNow st (-1)) rank)), (F_X6_gatherNow st (-1)))
            else ((-2), (F_X6_gatherNow st (-1))))))
      else ((-1), (F_X6_gatherNow st (-1)))))
set_option maxRecDepth 20000 in
theorem c_X6_end {G : xs_G} {base : Nat} (d : Nat) (st : xs_S) (rank : Int32) (what : Int32) : xs_K (xc G) base (d + 5) M_X6_end [.ref 0, .int rank, .int what] st (fun v u => v = some (.int (F_X6_end st rank what).1) ∧ u = (F_X6_end st rank what).2) := by
  refine xs_intro ok_X6_end [(0, .ref 0), (1, .int rank), (2, .int what)] rfl rfl ?_
  refine xr_blk gd_X6_end 2 (c' := (2, [(0, .ref 0), (1, .int rank), (2, .int what)], [.int (-1), .ref 0], st)) rfl ?_
  refine xr_callV gd_X6_end gd_X6_gatherNow k_X6_70 rfl (c_X6_gatherNow (d + 0) st (-1)) (by omega) rfl rfl rfl rfl rfl ?_
  refine xs_fun ?_
  refine xr_blk gd_X6_end 1 (c' := (6, [(0, .ref 0), (1, .int rank), (2, .int what)], [.int rank], (F_X6_gatherNow st (-1)))) rfl ?_
  refine xr_br gd_X6_end rfl rfl (fun h1 => ?_) (fun h1 => ?_)
  · refine xr_blk gd_X6_end 1 (c' := (21, [(0, .ref 0), (1, .int rank), (2, .int what)], [.int (-1)], (F_X6_gatherNow st (-1)))) rfl ?_
    exact xr_iret gd_X6_end rfl rfl ⟨by first | (rw [F_X6_end, if_pos h1]; done) | (rw [F_X6_end, if_pos h1]; rfl), by first | (rw [F_X6_end, if_pos h1]; done) | (rw [F_X6_end, if_pos h1]; rfl)⟩
  · refine xr_blk gd_X6_end 3 (c' := (14, [(0, .ref 0), (1, .int rank), (2, .int what)], [.ref 7, .int rank], (F_X6_gatherNow st (-1)))) rfl ?_
    refine xr_callV gd_X6_end gd_X5_ends k_X6_112 rfl (c_X5_ends (d + 4) (F_X6_gatherNow st (-1))) (by omega) rfl rfl rfl rfl rfl ?_
    refine xs_fun ?_
    refine xr_br gd_X6_end rfl rfl (fun h2 => ?_) (fun h2 => ?_)
    · refine xr_blk gd_X6_end 3 (c' := (27, [(0, .ref 0), (1, .int rank), (2, .int what)], [.int rank, .ref 7], (F_X6_gatherNow st (-1)))) rfl ?_
      refine xr_callV gd_X6_end gd_X5_endKey k_X6_115 rfl (c_X5_endKey (d + 1) (F_X6_gatherNow st (-1)) rank gn_sz) (by omega) rfl rfl rfl rfl rfl ?_
      refine xs_fun ?_
      refine xr_blk gd_X6_end 2 (c' := (32, [(0, .ref 0), (1, .int rank), (2, .int what), (3, .int (F_X5_endKey (F_X6_gatherNow st (-1)) rank))], [.int what], (F_X6_gatherNow st (-1)))) rfl ?_
      by_cases h3 : what.toInt = 0
      · refine xr_swi (tgt := 60) gd_X6_end rfl 0 (by omega) (by omega) rfl (by decide) ?_
        refine xr_blk gd_X6_end 1 (c' := (61, [(0, .ref 0), (1, .int rank), (2, .int what), (3, .int (F_X5_endKey (F_X6_gatherNow st (-1)) rank))], [.int (F_X5_endKey (F_X6_gatherNow st (-1)) rank)], (F_X6_gatherNow st (-1)))) rfl ?_
        refine xr_callS gd_X6_end gd_X5_timeOfKey k_X6_118 rfl (c_X5_timeOfKey (d + 3) (F_X6_gatherNow st (-1)) (F_X5_endKey (F_X6_gatherNow st (-1)) rank)) (by omega) rfl rfl rfl ?_
        refine xs_fun ?_
        refine xr_blk gd_X6_end 2 (c' := (67, [(0, .ref 0), (1, .int rank), (2, .int what), (3, .int (F_X5_endKey (F_X6_gatherNow st (-1)) rank))], [.int ((F_X5_timeOfKey (F_X6_gatherNow st (-1)) (F_X5_endKey (F_X6_gatherNow st (-1)) rank)) + 100000)], (F_X6_gatherNow st (-1)))) rfl ?_
        exact xr_iret gd_X6_end rfl rfl ⟨by first | (rw [F_X6_end, if_neg h1, if_pos h2, if_pos h3]; done) | (rw [F_X6_end, if_neg h1, if_pos h2, if_pos h3]; rfl), by first | (rw [F_X6_end, if_neg h1, if_pos h2, if_pos h3]; done) | (rw [F_X6_end, if_neg h1, if_pos h2, if_pos h3]; rfl)⟩
      · by_cases h4 : what.toInt = 1
        · refine xr_swi (tgt := 68) gd_X6_end rfl 1 (by omega) (by omega) rfl (by decide) ?_
          refine xr_blk gd_X6_end 1 (c' := (69, [(0, .ref 0), (1, .int rank), (2, .int what), (3, .int (F_X5_endKey (F_X6_gatherNow st (-1)) rank))], [.int (F_X5_endKey (F_X6_gatherNow st (-1)) rank)], (F_X6_gatherNow st (-1)))) rfl ?_
          refine xr_callS gd_X6_end gd_X5_dialOfKey k_X6_121 rfl (c_X5_dialOfKey (d + 3) (F_X6_gatherNow st (-1)) (F_X5_endKey (F_X6_gatherNow st (-1)) rank)) (by omega) rfl rfl rfl ?_
          refine xs_fun ?_
          exact xr_iret gd_X6_end rfl rfl ⟨by first | (rw [F_X6_end, if_neg h1, if_pos h2, if_neg h3, if_pos h4]; done) | (rw [F_X6_end, if_neg h1, if_pos h2, if_neg h3, if_pos h4]; rfl), by first | (rw [F_X6_end, if_neg h1, if_pos h2, if_neg h3, if_pos h4]; done) | (rw [F_X6_end, if_neg h1, if_pos h2, if_neg h3, if_pos h4]; rfl)⟩
        · by_cases h5 : what.toInt = 2
          · refine xr_swi (tgt := 73) gd_X6_end rfl 2 (by omega) (by omega) rfl (by decide) ?_
            refine xr_blk gd_X6_end 1 (c' := (74, [(0, .ref 0), (1, .int rank), (2, .int what), (3, .int (F_X5_endKey (F_X6_gatherNow st (-1)) rank))], [.int (F_X5_endKey (F_X6_gatherNow st (-1)) rank)], (F_X6_gatherNow st (-1)))) rfl ?_
            refine xr_callS gd_X6_end gd_X5_sideOfKey k_X6_124 rfl (c_X5_sideOfKey (d + 3) (F_X6_gatherNow st (-1)) (F_X5_endKey (F_X6_gatherNow st (-1)) rank)) (by omega) rfl rfl rfl ?_
            refine xs_fun ?_
            exact xr_iret gd_X6_end rfl rfl ⟨by first | (rw [F_X6_end, if_neg h1, if_pos h2, if_neg h3, if_neg h4, if_pos h5]; done) | (rw [F_X6_end, if_neg h1, if_pos h2, if_neg h3, if_neg h4, if_pos h5]; rfl), by first | (rw [F_X6_end, if_neg h1, if_pos h2, if_neg h3, if_neg h4, if_pos h5]; done) | (rw [F_X6_end, if_neg h1, if_pos h2, if_neg h3, if_neg h4, if_pos h5]; rfl)⟩
          · refine xr_swo (tgt := 78) gd_X6_end rfl (by omega) (by decide) ?_
            refine xr_blk gd_X6_end 1 (c' := (80, [(0, .ref 0), (1, .int rank), (2, .int what), (3, .int (F_X5_endKey (F_X6_gatherNow st (-1)) rank))], [.int (-2)], (F_X6_gatherNow st (-1)))) rfl ?_
            exact xr_iret gd_X6_end rfl rfl ⟨by first | (rw [F_X6_end, if_neg h1, if_pos h2, if_neg h3, if_neg h4, if_neg h5]; done) | (rw [F_X6_end, if_neg h1, if_pos h2, if_neg h3, if_neg h4, if_neg h5]; rfl), by first | (rw [F_X6_end, if_neg h1, if_pos h2, if_neg h3, if_neg h4, if_neg h5]; done) | (rw [F_X6_end, if_neg h1, if_pos h2, if_neg h3, if_neg h4, if_neg h5]; rfl)⟩
    · refine xr_blk gd_X6_end 1 (c' := (21, [(0, .ref 0), (1, .int rank), (2, .int what)], [.int (-1)], (F_X6_gatherNow st (-1)))) rfl ?_
      exact xr_iret gd_X6_end rfl rfl ⟨by first | (rw [F_X6_end, if_neg h1, if_neg h2]; done) | (rw [F_X6_end, if_neg h1, if_neg h2]; rfl), by first | (rw [F_X6_end, if_neg h1, if_neg h2]; done) | (rw [F_X6_end, if_neg h1, if_neg h2]; rfl)⟩
def F_X6_overlap (st : xs_S) (time : Int32) : Int32 × xs_S := (if time < (-99999) then ((-2), st)
    else (if time ≤ 299999 then ((F_X5_howManyAt (F_X6_gatherNow st (-1)) time), (F_X6_gatherNow st (-1)))
      else ((-2), st)))
set_option maxRecDepth 20000 in
theorem c_X6_overlap {G : xs_G} {base : Nat} (d : Nat) (st : xs_S) (time : Int32) : xs_K (xc G) base (d + 5) M_X6_overlap [.ref 0, .int time] st (fun v u => v = some (.int (F_X6_overlap st time).1) ∧ u = (F_X6_overlap st time).2) := by
  refine xs_intro ok_X6_overlap [(0, .ref 0), (1, .int time)] rfl rfl ?_
  refine xr_blk gd_X6_overlap 2 (c' := (3, [(0, .ref 0), (1, .int time)], [.int (-99999), .int time], st)) rfl ?_
  refine xr_br gd_X6_overlap rfl rfl (fun h1 => ?_) (fun h1 => ?_)
  · refine xr_blk gd_X6_overlap 1 (c' := (14, [(0, .ref 0), (1, .int time)], [.int (-2)], st)) rfl ?_
    exact xr_iret gd_X6_overlap rfl rfl ⟨by first | (rw [F_X6_overlap, if_pos h1]; done) | (rw [F_X6_overlap, if_pos h1]; rfl), by first | (rw [F_X6_overlap, if_pos h1]; done) | (rw [F_X6_overlap, if_pos h1]; rfl)⟩
  · refine xr_blk gd_X6_overlap 2 (c' := (9, [(0, .ref 0), (1, .int time)], [.int 299999, .int time], st)) rfl ?_
    refine xr_br gd_X6_overlap rfl rfl (fun h2 => ?_) (fun h2 => ?_)
    · refine xr_blk gd_X6_overlap 2 (c' := (17, [(0, .ref 0), (1, .int time)], [.int (-1), .ref 0], st)) rfl ?_
      refine xr_callV gd_X6_overlap gd_X6_gatherNow k_X6_70 rfl (c_X6_gatherNow (d + 0) st (-1)) (by omega) rfl rfl rfl rfl rfl ?_
      refine xs_fun ?_
      refine xr_blk gd_X6_overlap 3 (c' := (25, [(0, .ref 0), (1, .int time)], [.int time, .ref 7], (F_X6_gatherNow st (-1)))) rfl ?_
      refine xr_callV gd_X6_overlap gd_X5_howManyAt k_X6_129 rfl (c_X5_howManyAt (d + 3) (F_X6_gatherNow st (-1)) time gn_sz) (by omega) rfl rfl rfl rfl rfl ?_
      refine xs_fun ?_
      exact xr_iret gd_X6_overlap rfl rfl ⟨by first | (rw [F_X6_overlap, if_neg h1, if_pos h2]; done) | (rw [F_X6_overlap, if_neg h1, if_pos h2]; rfl), by first | (rw [F_X6_overlap, if_neg h1, if_pos h2]; done) | (rw [F_X6_overlap, if_neg h1, if_pos h2]; rfl)⟩
    · refine xr_blk gd_X6_overlap 1 (c' := (14, [(0, .ref 0), (1, .int time)], [.int (-2)], st)) rfl ?_
      exact xr_iret gd_X6_overlap rfl rfl ⟨by first | (rw [F_X6_overlap, if_neg h1, if_neg h2]; done) | (rw [F_X6_overlap, if_neg h1, if_neg h2]; rfl), by first | (rw [F_X6_overlap, if_neg h1, if_neg h2]; done) | (rw [F_X6_overlap, if_neg h1, if_neg h2]; rfl)⟩
def F_X6_count (st : xs_S) (what : Int32) : Int32 := (if what = 8 then (F_X3_length st)
    else (if what = 9 then (F_X2_size st)
      else (F_X1_number st what)))
set_option maxRecDepth 20000 in
theorem c_X6_count {G : xs_G} {base : Nat} (d : Nat) (st : xs_S) (what : Int32) : xs_K (xc G) base (d + 2) M_X6_count [.ref 0, .int what] st (fun v u => v = some (.int (F_X6_count st what)) ∧ u = st) := by
  refine xs_intro ok_X6_count [(0, .ref 0), (1, .int what)] rfl rfl ?_
  refine xr_blk gd_X6_count 2 (c' := (3, [(0, .ref 0), (1, .int what)], [.int 8, .int what], st)) rfl ?_
  refine xr_br gd_X6_count rfl rfl (fun h1 => ?_) (fun h1 => ?_)
  · refine xr_blk gd_X6_count 2 (c' := (17, [(0, .ref 0), (1, .int what)], [.int 9, .int what], st)) rfl ?_
    refine xr_br gd_X6_count rfl rfl (fun h2 => ?_) (fun h2 => ?_)
    · refine xr_blk gd_X6_count 3 (c' := (33, [(0, .ref 0), (1, .int what)], [.int what, .ref 1], st)) rfl ?_
      refine xr_callV gd_X6_count gd_X1_number k_X6_138 rfl (c_X1_number (d + 0) st what) (by omega) rfl rfl rfl rfl rfl ?_
      refine xs_fun ?_
      exact xr_iret gd_X6_count rfl rfl ⟨by first | (rw [F_X6_count, if_neg h1, if_neg h2]; done) | (rw [F_X6_count, if_neg h1, if_neg h2]; rfl), rfl⟩
    · refine xr_blk gd_X6_count 2 (c' := (24, [(0, .ref 0), (1, .int what)], [.ref 11], st)) rfl ?_
      refine xr_callV gd_X6_count gd_X2_size k_X6_135 rfl (c_X2_size (d + 1) st) (by omega) rfl rfl rfl rfl rfl ?_
      refine xs_fun ?_
      exact xr_iret gd_X6_count rfl rfl ⟨by first | (rw [F_X6_count, if_neg h1, if_pos h2]; done) | (rw [F_X6_count, if_neg h1, if_pos h2]; rfl), rfl⟩
  · refine xr_blk gd_X6_count 2 (c' := (10, [(0, .ref 0), (1, .int what)], [.ref 70], st)) rfl ?_
    refine xr_callV gd_X6_count gd_X3_length k_X6_132 rfl (c_X3_length (d + 1) st) (by omega) rfl rfl rfl rfl rfl ?_
    refine xs_fun ?_
    exact xr_iret gd_X6_count rfl rfl ⟨by first | (rw [F_X6_count, if_pos h1]; done) | (rw [F_X6_count, if_pos h1]; rfl), rfl⟩
def F_X6_allowing (st : xs_S) (liars : Int32) (what : Int32) : Int32 × xs_S := (if liars < 0 then ((-2), st)
    else (if 15 ≤ liars then ((-2), st)
      else (if what < 0 then ((-2), st)
        else (if what ≤ 1 then (if (F_X5_firstTimeOf (F_X6_gatherNow st (-1)) (if 1 < ((F_X5_size (F_X6_gatherNow st (-1))) - liars) then ((F_X5_size (F_X6_gatherNow st (-1))) - liars) else 1)) = 1000000 then ((-6), (F_X6_gatherNow st (-1)))
            else (if what = 0 then ((100000 + (F_X5_firstTimeOf (F_X6_gatherNow st (-1)) (if 1 < ((F_X5_size (F_X6_gatherNow st (-1))) - liars) then ((F_X5_size (F_X6_gatherNow st (-1))) - liars) else 1))), (F_X6_gatherNow st (-1)))
              else ((100000 + (F_X5_lastTimeOf (F_X6_gatherNow st (-1)) (if 1 < ((F_X5_size (F_X6_gatherNow st (-1))) - liars) then ((F_X5_size (F_X6_gatherNow st (-1))) - liars) else 1) (F_X5_firstTimeOf (F_X6_gatherNow st (-1)) (if 1 < ((F_X5_size (F_X6_gatherNow st (-1))) - liars) then ((F_X5_size (F_X6_gatherNow st (-1))) - liars) else 1)))), (F_X6_gatherNow st (-1)))))
          else ((-2), st)))))
set_option maxRecDepth 20000 in
theorem c_X6_allowing {G : xs_G} {base : Nat} (d : Nat) (st : xs_S) (liars : Int32) (what : Int32) : xs_K (xc G) base (d + 5) M_X6_allowing [.ref 0, .int liars, .int what] st (fun v u => v = some (.int (F_X6_allowing st liars what).1) ∧ u = (F_X6_allowing st liars what).2) := by
  refine xs_intro ok_X6_allowing [(0, .ref 0), (1, .int liars), (2, .int what)] rfl rfl ?_
  refine xr_blk gd_X6_allowing 1 (c' := (1, [(0, .ref 0), (1, .int liars), (2, .int what)], [.int liars], st)) rfl ?_
  refine xr_br gd_X6_allowing rfl rfl (fun h1 => ?_) (fun h1 => ?_)
  · refine xr_blk gd_X6_allowing 1 (c' := (21, [(0, .ref 0), (1, .int liars), (2, .int what)], [.int (-2)], st)) rfl ?_
    exact xr_iret gd_X6_allowing rfl rfl ⟨by first | (rw [F_X6_allowing, if_pos h1]; done) | (rw [F_X6_allowing, if_pos h1]; rfl), by first | (rw [F_X6_allowing, if_pos h1]; done) | (rw [F_X6_allowing, if_pos h1]; rfl)⟩
  · refine xr_blk gd_X6_allowing 2 (c' := (7, [(0, .ref 0), (1, .int liars), (2, .int what)], [.int 15, .int liars], st)) rfl ?_
    refine xr_br gd_X6_allowing rfl rfl (fun h2 => ?_) (fun h2 => ?_)
    · refine xr_blk gd_X6_allowing 1 (c' := (21, [(0, .ref 0), (1, .int liars), (2, .int what)], [.int (-2)], st)) rfl ?_
      exact xr_iret gd_X6_allowing rfl rfl ⟨by first | (rw [F_X6_allowing, if_neg h1, if_pos h2]; done) | (rw [F_X6_allowing, if_neg h1, if_pos h2]; rfl), by first | (rw [F_X6_allowing, if_neg h1, if_pos h2]; done) | (rw [F_X6_allowing, if_neg h1, if_pos h2]; rfl)⟩
    · refine xr_blk gd_X6_allowing 1 (c' := (11, [(0, .ref 0), (1, .int liars), (2, .int what)], [.int what], st)) rfl ?_
      refine xr_br gd_X6_allowing rfl rfl (fun h3 => ?_) (fun h3 => ?_)
      · refine xr_blk gd_X6_allowing 1 (c' := (21, [(0, .ref 0), (1, .int liars), (2, .int what)], [.int (-2)], st)) rfl ?_
        exact xr_iret gd_X6_allowing rfl rfl ⟨by first | (rw [F_X6_allowing, if_neg h1, if_neg h2, if_pos h3]; done) | (rw [F_X6_allowing, if_neg h1, if_neg h2, if_pos h3]; rfl), by first | (rw [F_X6_allowing, if_neg h1, if_neg h2, if_pos h3]; done) | (rw [F_X6_allowing, if_neg h1, if_neg h2, if_pos h3]; rfl)⟩
      · refine xr_blk gd_X6_allowing 2 (c' := (16, [(0, .ref 0), (1, .int liars), (2, .int what)], [.int 1, .int what], st)) rfl ?_
        refine xr_br gd_X6_allowing rfl rfl (fun h4 => ?_) (fun h4 => ?_)
        · refine xr_blk gd_X6_allowing 2 (c' := (24, [(0, .ref 0), (1, .int liars), (2, .int what)], [.int (-1), .ref 0], st)) rfl ?_
          refine xr_callV gd_X6_allowing gd_X6_gatherNow k_X6_70 rfl (c_X6_gatherNow (d + 0) st (-1)) (by omega) rfl rfl rfl rfl rfl ?_
          refine xs_fun ?_
          refine xr_blk gd_X6_allowing 3 (c' := (32, [(0, .ref 0), (1, .int liars), (2, .int what)], [.ref 7, .int 1], (F_X6_gatherNow st (-1)))) rfl ?_
          refine xr_callV gd_X6_allowing gd_X5_size k_X6_159 rfl (c_X5_size (d + 4) (F_X6_gatherNow st (-1))) (by omega) rfl rfl rfl rfl rfl ?_
          refine xs_fun ?_
          refine xr_blk gd_X6_allowing 2 (c' := (37, [(0, .ref 0), (1, .int liars), (2, .int what)], [.int ((F_X5_size (F_X6_gatherNow st (-1))) - liars), .int 1], (F_X6_gatherNow st (-1)))) rfl ?_
          refine xr_max gd_X6_allowing rfl xs_l_mx_X6_160 rfl rfl ?_
          refine xr_blk gd_X6_allowing 4 (c' := (46, [(0, .ref 0), (1, .int liars), (2, .int what), (3, .int (if 1 < ((F_X5_size (F_X6_gatherNow st (-1))) - liars) then ((F_X5_size (F_X6_gatherNow st (-1))) - liars) else 1))], [.int (if 1 < ((F_X5_size (F_X6_gatherNow st (-1))) - liars) then ((F_X5_size (F_X6_gatherNow st (-1))) - liars) else 1), .ref 7], (F_X6_gatherNow st (-1)))) rfl ?_
          refine xr_callV gd_X6_allowing gd_X5_firstTimeOf k_X6_165 rfl (c_X5_firstTimeOf (d + 2) (F_X6_gatherNow st (-1)) (if 1 < ((F_X5_size (F_X6_gatherNow st (-1))) - liars) then ((F_X5_size (F_X6_gatherNow st (-1))) - liars) else 1) gn_sz) (by omega) rfl rfl rfl rfl rfl ?_
          refine xs_fun ?_
          refine xr_blk gd_X6_allowing 3 (c' := (55, [(0, .ref 0), (1, .int liars), (2, .int what), (3, .int (if 1 < ((F_X5_size (F_X6_gatherNow st (-1))) - liars) then ((F_X5_size (F_X6_gatherNow st (-1))) - liars) else 1)), (4, .int (F_X5_firstTimeOf (F_X6_gatherNow st (-1)) (if 1 < ((F_X5_size (F_X6_gatherNow st (-1))) - liars) then ((F_X5_size (F_X6_gatherNow st (-1))) - liars) else 1)))], [.int 1000000, .int (F_X5_firstTimeOf (F_X6_gatherNow st (-1)) (if 1 < ((F_X5_size (F_X6_gatherNow st (-1))) - liars) then ((F_X5_size (F_X6_gatherNow st (-1))) - liars) else 1))], (F_X6_gatherNow st (-1)))) rfl ?_
          refine xr_br gd_X6_allowing rfl rfl (fun h5 => ?_) (fun h5 => ?_)
          · refine xr_blk gd_X6_allowing 2 (c' := (64, [(0, .ref 0), (1, .int liars), (2, .int what), (3, .int (if 1 < ((F_X5_size (F_X6_gatherNow st (-1))) - liars) then ((F_X5_size (F_X6_gatherNow st (-1))) - liars) else 1)), (4, .int (F_X5_firstTimeOf (F_X6_gatherNow st (-1)) (if 1 < ((F_X5_size (F_X6_gatherNow st (-1))) - liars) then ((F_X5_size (F_X6_gatherNow st (-1))) - liars) else 1)))], [.int what, .int 100000], (F_X6_gatherNow st (-1)))) rfl ?_
            refine xr_br gd_X6_allowing rfl rfl (fun h6 => ?_) (fun h6 => ?_)
            · refine xr_blk gd_X6_allowing 4 (c' := (79, [(0, .ref 0), (1, .int liars), (2, .int what), (3, .int (if 1 < ((F_X5_size (F_X6_gatherNow st (-1))) - liars) then ((F_X5_size (F_X6_gatherNow st (-1))) - liars) else 1)), (4, .int (F_X5_firstTimeOf (F_X6_gatherNow st (-1)) (if 1 < ((F_X5_size (F_X6_gatherNow st (-1))) - liars) then ((F_X5_size (F_X6_gatherNow st (-1))) - liars) else 1)))], [.int (F_X5_firstTimeOf (F_X6_gatherNow st (-1)) (if 1 < ((F_X5_size (F_X6_gatherNow st (-1))) - liars) then ((F_X5_size (F_X6_gatherNow st (-1))) - liars) else 1)), .int (if 1 < ((F_X5_size (F_X6_gatherNow st (-1))) - liars) then ((F_X5_size (F_X6_gatherNow st (-1))) - liars) else 1), .ref 7, .int 100000], (F_X6_gatherNow st (-1)))) rfl ?_
              refine xr_callV gd_X6_allowing gd_X5_lastTimeOf k_X6_169 rfl (c_X5_lastTimeOf (d + 2) (F_X6_gatherNow st (-1)) (if 1 < ((F_X5_size (F_X6_gatherNow st (-1))) - liars) then ((F_X5_size (F_X6_gatherNow st (-1))) - liars) else 1) (F_X5_firstTimeOf (F_X6_gatherNow st (-1)) (if 1 < ((F_X5_size (F_X6_gatherNow st (-1))) - liars) then ((F_X5_size (F_X6_gatherNow st (-1))) - liars) else 1)) gn_sz) (by omega) rfl rfl rfl rfl rfl ?_
              refine xs_fun ?_
              refine xr_blk gd_X6_allowing 1 (c' := (83, [(0, .ref 0), (1, .int liars), (2, .int what), (3, .int (if 1 < ((F_X5_size (F_X6_gatherNow st (-1))) - liars) then ((F_X5_size (F_X6_gatherNow st (-1))) - liars) else 1)), (4, .int (F_X5_firstTimeOf (F_X6_gatherNow st (-1)) (if 1 < ((F_X5_size (F_X6_gatherNow st (-1))) - liars) then ((F_X5_size (F_X6_gatherNow st (-1))) - liars) else 1)))], [.int (100000 + (F_X5_lastTimeOf (F_X6_gatherNow st (-1)) (if 1 < ((F_X5_size (F_X6_gatherNow st (-1))) - liars) then ((F_X5_size (F_X6_gatherNow st (-1))) - liars) else 1) (F_X5_firstTimeOf (F_X6_gatherNow st (-1)) (if 1 < ((F_X5_size (F_X6_gatherNow st (-1))) - liars) then ((F_X5_size (F_X6_gatherNow st (-1))) - liars) else 1))))], (F_X6_gatherNow st (-1)))) rfl ?_
              exact xr_iret gd_X6_allowing rfl rfl ⟨by first | (rw [F_X6_allowing, if_neg h1, if_neg h2, if_neg h3, if_pos h4, if_neg h5, if_neg h6]; done) | (rw [F_X6_allowing, if_neg h1, if_neg h2, if_neg h3, if_pos h4, if_neg h5, if_neg h6]; rfl), by first | (rw [F_X6_allowing, if_neg h1, if_neg h2, if_neg h3, if_pos h4, if_neg h5, if_neg h6]; done) | (rw [F_X6_allowing, if_neg h1, if_neg h2, if_neg h3, if_pos h4, if_neg h5, if_neg h6]; rfl)⟩
            · refine xr_blk gd_X6_allowing 3 (c' := (83, [(0, .ref 0), (1, .int liars), (2, .int what), (3, .int (if 1 < ((F_X5_size (F_X6_gatherNow st (-1))) - liars) then ((F_X5_size (F_X6_gatherNow st (-1))) - liars) else 1)), (4, .int (F_X5_firstTimeOf (F_X6_gatherNow st (-1)) (if 1 < ((F_X5_size (F_X6_gatherNow st (-1))) - liars) then ((F_X5_size (F_X6_gatherNow st (-1))) - liars) else 1)))], [.int (100000 + (F_X5_firstTimeOf (F_X6_gatherNow st (-1)) (if 1 < ((F_X5_size (F_X6_gatherNow st (-1))) - liars) then ((F_X5_size (F_X6_gatherNow st (-1))) - liars) else 1)))], (F_X6_gatherNow st (-1)))) rfl ?_
              exact xr_iret gd_X6_allowing rfl rfl ⟨by first | (rw [F_X6_allowing, if_neg h1, if_neg h2, if_neg h3, if_pos h4, if_neg h5, if_pos h6]; done) | (rw [F_X6_allowing, if_neg h1, if_neg h2, if_neg h3, if_pos h4, if_neg h5, if_pos h6]; rfl), by first | (rw [F_X6_allowing, if_neg h1, if_neg h2, if_neg h3, if_pos h4, if_neg h5, if_pos h6]; done) | (rw [F_X6_allowing, if_neg h1, if_neg h2, if_neg h3, if_pos h4, if_neg h5, if_pos h6]; rfl)⟩
          · refine xr_blk gd_X6_allowing 1 (c' := (60, [(0, .ref 0), (1, .int liars), (2, .int what), (3, .int (if 1 < ((F_X5_size (F_X6_gatherNow st (-1))) - liars) then ((F_X5_size (F_X6_gatherNow st (-1))) - liars) else 1)), (4, .int (F_X5_firstTimeOf (F_X6_gatherNow st (-1)) (if 1 < ((F_X5_size (F_X6_gatherNow st (-1))) - liars) then ((F_X5_size (F_X6_gatherNow st (-1))) - liars) else 1)))], [.int (-6)], (F_X6_gatherNow st (-1)))) rfl ?_
            exact xr_iret gd_X6_allowing rfl rfl ⟨by first | (rw [F_X6_allowing, if_neg h1, if_neg h2, if_neg h3, if_pos h4, if_pos h5]; done) | (rw [F_X6_allowing, if_neg h1, if_neg h2, if_neg h3, if_pos h4, if_pos h5]; rfl), by first | (rw [F_X6_allowing, if_neg h1, if_neg h2, if_neg h3, if_pos h4, if_pos h5]; done) | (rw [F_X6_allowing, if_neg h1, if_neg h2, if_neg h3, if_pos h4, if_pos h5]; rfl)⟩
        · refine xr_blk gd_X6_allowing 1 (c' := (21, [(0, .ref 0), (1, .int liars), (2, .int what)], [.int (-2)], st)) rfl ?_
          exact xr_iret gd_X6_allowing rfl rfl ⟨by first | (rw [F_X6_allowing, if_neg h1, if_neg h2, if_neg h3, if_neg h4]; done) | (rw [F_X6_allowing, if_neg h1, if_neg h2, if_neg h3, if_neg h4]; rfl), by first | (rw [F_X6_allowing, if_neg h1, if_neg h2, if_neg h3, if_neg h4]; done) | (rw [F_X6_allowing, if_neg h1, if_neg h2, if_neg h3, if_neg h4]; rfl)⟩
def F_X6_fewest (st : xs_S) : Int32 × xs_S := (if (F_X5_isEmpty (F_X6_gatherNow st (-1))) = 0 then (((F_X5_size (F_X6_gatherNow st (-1))) - (F_X5_most (F_X6_gatherNow st (-1)))), (F_X6_gatherNow st (-1)))
    else ((-6), (F_X6_gatherNow st (-1))))
set_option maxRecDepth 20000 in
theorem c_X6_fewest {G : xs_G} {base : Nat} (d : Nat) (st : xs_S) : xs_K (xc G) base (d + 5) M_X6_fewest [.ref 0] st (fun v u => v = some (.int (F_X6_fewest st).1) ∧ u = (F_X6_fewest st).2) := by
  refine xs_intro ok_X6_fewest [(0, .ref 0)] rfl rfl ?_
  refine xr_blk gd_X6_fewest 2 (c' := (2, [(0, .ref 0)], [.int (-1), .ref 0], st)) rfl ?_
  refine xr_callV gd_X6_fewest gd_X6_gatherNow k_X6_70 rfl (c_X6_gatherNow (d + 0) st (-1)) (by omega) rfl rfl rfl rfl rfl ?_
  refine xs_fun ?_
  refine xr_blk gd_X6_fewest 2 (c' := (9, [(0, .ref 0)], [.ref 7], (F_X6_gatherNow st (-1)))) rfl ?_
  refine xr_callV gd_X6_fewest gd_X5_isEmpty k_X6_74 rfl (c_X5_isEmpty (d + 4) (F_X6_gatherNow st (-1))) (by omega) rfl rfl rfl rfl rfl ?_
  refine xs_fun ?_
  refine xr_br gd_X6_fewest rfl rfl (fun h1 => ?_) (fun h1 => ?_)
  · refine xr_blk gd_X6_fewest 2 (c' := (24, [(0, .ref 0)], [.ref 7], (F_X6_gatherNow st (-1)))) rfl ?_
    refine xr_callV gd_X6_fewest gd_X5_size k_X6_159 rfl (c_X5_size (d + 4) (F_X6_gatherNow st (-1))) (by omega) rfl rfl rfl rfl rfl ?_
    refine xs_fun ?_
    refine xr_blk gd_X6_fewest 2 (c' := (31, [(0, .ref 0)], [.ref 7, .int (F_X5_size (F_X6_gatherNow st (-1)))], (F_X6_gatherNow st (-1)))) rfl ?_
    refine xr_callV gd_X6_fewest gd_X5_most k_X6_103 rfl (c_X5_most (d + 2) (F_X6_gatherNow st (-1)) gn_sz) (by omega) rfl rfl rfl rfl rfl ?_
    refine xs_fun ?_
    refine xr_blk gd_X6_fewest 1 (c' := (35, [(0, .ref 0)], [.int ((F_X5_size (F_X6_gatherNow st (-1))) - (F_X5_most (F_X6_gatherNow st (-1))))], (F_X6_gatherNow st (-1)))) rfl ?_
    exact xr_iret gd_X6_fewest rfl rfl ⟨by first | (rw [F_X6_fewest, if_pos h1]; done) | (rw [F_X6_fewest, if_pos h1]; rfl), by first | (rw [F_X6_fewest, if_pos h1]; done) | (rw [F_X6_fewest, if_pos h1]; rfl)⟩
  · refine xr_blk gd_X6_fewest 2 (c' := (35, [(0, .ref 0)], [.int (-6)], (F_X6_gatherNow st (-1)))) rfl ?_
    exact xr_iret gd_X6_fewest rfl rfl ⟨by first | (rw [F_X6_fewest, if_neg h1]; done) | (rw [F_X6_fewest, if_neg h1]; rfl), by first | (rw [F_X6_fewest, if_neg h1]; done) | (rw [F_X6_fewest, if_neg h1]; rfl)⟩
def lp_X6_hoursTooEarly_6 (many : Int32) : Nat → Int32 → Int32 → xs_S → Int32 × xs_S
  | 0, _, _, st => (0, st)
  | n + 1, x2, x3, st => (if x3 ≤ 0 then (x2, st)
    else (if many ≤ (F_X5_most (F_X5_gather st ((F_X1_now st) + (((x2 + x3) - 1) * 60)) (-1))) then lp_X6_hoursTooEarly_6 many n x2 (x3 / 2) (F_X5_gather st ((F_X1_now st) + (((x2 + x3) - 1) * 60)) (-1))
      else lp_X6_hoursTooEarly_6 many n (x2 + x3) (x3 / 2) (F_X5_gather st ((F_X1_now st) + (((x2 + x3) - 1) * 60)) (-1))))
set_option maxRecDepth 20000 in
theorem cl_X6_hoursTooEarly_6 {G : xs_G} {base : Nat} (d : Nat) (many : Int32) : ∀ (n : Nat) (x2 : Int32) (x3 : Int32) (st : xs_S), 0 < n ∧ 0 ≤ x3.toInt ∧ 2 * x3.toInt < ((2 ^ n : Nat) : Int) → xs_R (xc G) base (d + 4) M_X6_hoursTooEarly (6, [(0, .ref 0), (1, .int many), (2, .int x2), (3, .int x3)], [], st) (xs_q (xc G) (fun v u => v = some (.int (lp_X6_hoursTooEarly_6 many n x2 x3 st).1) ∧ u = (lp_X6_hoursTooEarly_6 many n x2 x3 st).2)) := by
  intro n
  induction n with
  | zero =>
    intro x2 x3 st hinv
    exact absurd hinv.1 (by omega)
  | succ n ih =>
    intro x2 x3 st hinv
    refine xr_blk gd_X6_hoursTooEarly 1 (c' := (7, [(0, .ref 0), (1, .int many), (2, .int x2), (3, .int x3)], [.int x3], st)) rfl ?_
    refine xr_br gd_X6_hoursTooEarly rfl rfl (fun h1 => ?_) (fun h1 => ?_)
    · refine xr_blk gd_X6_hoursTooEarly 1 (c' := (65, [(0, .ref 0), (1, .int many), (2, .int x2), (3, .int x3)], [.int x2], st)) rfl ?_
      exact xr_iret gd_X6_hoursTooEarly rfl rfl ⟨by first | (rw [lp_X6_hoursTooEarly_6, if_pos h1]; done) | (rw [lp_X6_hoursTooEarly_6, if_pos h1]; rfl), by first | (rw [lp_X6_hoursTooEarly_6, if_pos h1]; done) | (rw [lp_X6_hoursTooEarly_6, if_pos h1]; rfl)⟩
    · refine xr_blk gd_X6_hoursTooEarly 12 (c' := (29, [(0, .ref 0), (1, .int many), (2, .int x2), (3, .int x3), (4, .int ((x2 + x3) - 1))], [.ref 1, .ref 1, .ref 7], st)) rfl ?_
      refine xr_callV gd_X6_hoursTooEarly gd_X1_now k_X6_89 rfl (c_X1_now (d + 3) st) (by omega) rfl rfl rfl rfl rfl ?_
      refine xs_fun ?_
      refine xr_blk gd_X6_hoursTooEarly 5 (c' := (39, [(0, .ref 0), (1, .int many), (2, .int x2), (3, .int x3), (4, .int ((x2 + x3) - 1))], [.int (-1), .int ((F_X1_now st) + (((x2 + x3) - 1) * 60)), .ref 1, .ref 7], st)) rfl ?_
      refine xr_callV gd_X6_hoursTooEarly gd_X5_gather k_X6_92 rfl (c_X5_gather (d + 0) st ((F_X1_now st) + (((x2 + x3) - 1) * 60)) (-1)) (by omega) rfl rfl rfl rfl rfl ?_
      refine xs_fun ?_
      refine xr_blk gd_X6_hoursTooEarly 2 (c' := (46, [(0, .ref 0), (1, .int many), (2, .int x2), (3, .int x3), (4, .int ((x2 + x3) - 1))], [.ref 7], (F_X5_gather st ((F_X1_now st) + (((x2 + x3) - 1) * 60)) (-1)))) rfl ?_
      refine xr_callV gd_X6_hoursTooEarly gd_X5_most k_X6_103 rfl (c_X5_most (d + 1) (F_X5_gather st ((F_X1_now st) + (((x2 + x3) - 1) * 60)) (-1)) ga_sz) (by omega) rfl rfl rfl rfl rfl ?_
      refine xs_fun ?_
      refine xr_blk gd_X6_hoursTooEarly 1 (c' := (50, [(0, .ref 0), (1, .int many), (2, .int x2), (3, .int x3), (4, .int ((x2 + x3) - 1))], [.int many, .int (F_X5_most (F_X5_gather st ((F_X1_now st) + (((x2 + x3) - 1) * 60)) (-1)))], (F_X5_gather st ((F_X1_now st) + (((x2 + x3) - 1) * 60)) (-1)))) rfl ?_
      refine xr_br gd_X6_hoursTooEarly rfl rfl (fun h2 => ?_) (fun h2 => ?_)
      · refine xr_blk gd_X6_hoursTooEarly 2 (c' := (59, [(0, .ref 0), (1, .int many), (2, .int x2), (3, .int x3), (4, .int ((x2 + x3) - 1))], [.int 2, .int x3], (F_X5_gather st ((F_X1_now st) + (((x2 + x3) - 1) * 60)) (-1)))) rfl ?_
        refine xr_idiv gd_X6_hoursTooEarly.1 rfl (by decide) ?_
        refine xr_blk gd_X6_hoursTooEarly 2 (c' := (6, [(0, .ref 0), (1, .int many), (2, .int x2), (3, .int (x3 / 2)), (4, .int ((x2 + x3) - 1))], [], (F_X5_gather st ((F_X1_now st) + (((x2 + x3) - 1) * 60)) (-1)))) rfl ?_
        refine xs_pk (lv' := [(0, .ref 0), (1, .int many), (2, .int x2), (3, .int (x3 / 2))]) [0, 1, 2, 3] rfl ?_
        refine xs_cons (ih x2 (x3 / 2) (F_X5_gather st ((F_X1_now st) + (((x2 + x3) - 1) * 60)) (-1)) (xs_hv hinv h1)) (fun v u hq => ?_)
        rw [lp_X6_hoursTooEarly_6, if_neg h1, if_pos h2]; exact hq
      · refine xr_blk gd_X6_hoursTooEarly 6 (c' := (59, [(0, .ref 0), (1, .int many), (2, .int (x2 + x3)), (3, .int x3), (4, .int ((x2 + x3) - 1))], [.int 2, .int x3], (F_X5_gather st ((F_X1_now st) + (((x2 + x3) - 1) * 60)) (-1)))) rfl ?_
        refine xr_idiv gd_X6_hoursTooEarly.1 rfl (by decide) ?_
        refine xr_blk gd_X6_hoursTooEarly 2 (c' := (6, [(0, .ref 0), (1, .int many), (2, .int (x2 + x3)), (3, .int (x3 / 2)), (4, .int ((x2 + x3) - 1))], [], (F_X5_gather st ((F_X1_now st) + (((x2 + x3) - 1) * 60)) (-1)))) rfl ?_
        refine xs_pk (lv' := [(0, .ref 0), (1, .int many), (2, .int (x2 + x3)), (3, .int (x3 / 2))]) [0, 1, 2, 3] rfl ?_
        refine xs_cons (ih (x2 + x3) (x3 / 2) (F_X5_gather st ((F_X1_now st) + (((x2 + x3) - 1) * 60)) (-1)) (xs_hv hinv h1)) (fun v u hq => ?_)
        rw [lp_X6_hoursTooEarly_6, if_neg h1, if_neg h2]; exact hq
def F_X6_hoursTooEarly (st : xs_S) (many : Int32) : Int32 × xs_S := lp_X6_hoursTooEarly_6 many 9 0 128 st
set_option maxRecDepth 20000 in
theorem c_X6_hoursTooEarly {G : xs_G} {base : Nat} (d : Nat) (st : xs_S) (many : Int32) : xs_K (xc G) base (d + 4) M_X6_hoursTooEarly [.ref 0, .int many] st (fun v u => v = some (.int (F_X6_hoursTooEarly st many).1) ∧ u = (F_X6_hoursTooEarly st many).2) := by
  refine xs_intro ok_X6_hoursTooEarly [(0, .ref 0), (1, .int many)] rfl rfl ?_
  refine xr_blk gd_X6_hoursTooEarly 4 (c' := (6, [(0, .ref 0), (1, .int many), (2, .int 0), (3, .int 128)], [], st)) rfl ?_
  refine xs_cons (cl_X6_hoursTooEarly_6 d many 9 0 128 st ⟨by decide, by decide, by decide⟩) (fun v u hq => ?_)
  rw [F_X6_hoursTooEarly]; exact hq
def F_X6_widerIn (st : xs_S) (many : Int32) : Int32 × xs_S := (if many < 1 then ((-2), st)
    else (if many ≤ 15 then (if ((F_X6_hoursTooEarly st many).1) ≤ 200 then ((F_X6_hoursTooEarly st many).1, (F_X6_hoursTooEarly st many).2)
        else ((-6), (F_X6_hoursTooEarly st many).2))
      else ((-2), st)))
set_option maxRecDepth 20000 in
theorem c_X6_widerIn {G : xs_G} {base : Nat} (d : Nat) (st : xs_S) (many : Int32) : xs_K (xc G) base (d + 5) M_X6_widerIn [.ref 0, .int many] st (fun v u => v = some (.int (F_X6_widerIn st many).1) ∧ u = (F_X6_widerIn st many).2) := by
  refine xs_intro ok_X6_widerIn [(0, .ref 0), (1, .int many)] rfl rfl ?_
  refine xr_blk gd_X6_widerIn 2 (c' := (2, [(0, .ref 0), (1, .int many)], [.int 1, .int many], st)) rfl ?_
  refine xr_br gd_X6_widerIn rfl rfl (fun h1 => ?_) (fun h1 => ?_)
  · refine xr_blk gd_X6_widerIn 1 (c' := (13, [(0, .ref 0), (1, .int many)], [.int (-2)], st)) rfl ?_
    exact xr_iret gd_X6_widerIn rfl rfl ⟨by first | (rw [F_X6_widerIn, if_pos h1]; done) | (rw [F_X6_widerIn, if_pos h1]; rfl), by first | (rw [F_X6_widerIn, if_pos h1]; done) | (rw [F_X6_widerIn, if_pos h1]; rfl)⟩
  · refine xr_blk gd_X6_widerIn 2 (c' := (8, [(0, .ref 0), (1, .int many)], [.int 15, .int many], st)) rfl ?_
    refine xr_br gd_X6_widerIn rfl rfl (fun h2 => ?_) (fun h2 => ?_)
    · refine xr_blk gd_X6_widerIn 2 (c' := (16, [(0, .ref 0), (1, .int many)], [.int many, .ref 0], st)) rfl ?_
      refine xr_callV gd_X6_widerIn gd_X6_hoursTooEarly k_X6_172 rfl (c_X6_hoursTooEarly (d + 0) st many) (by omega) rfl rfl rfl rfl rfl ?_
      refine xs_fun ?_
      refine xr_blk gd_X6_widerIn 3 (c' := (24, [(0, .ref 0), (1, .int many), (2, .int ((F_X6_hoursTooEarly st many).1))], [.int 200, .int ((F_X6_hoursTooEarly st many).1)], (F_X6_hoursTooEarly st many).2)) rfl ?_
      refine xr_br gd_X6_widerIn rfl rfl (fun h3 => ?_) (fun h3 => ?_)
      · refine xr_blk gd_X6_widerIn 1 (c' := (33, [(0, .ref 0), (1, .int many), (2, .int ((F_X6_hoursTooEarly st many).1))], [.int ((F_X6_hoursTooEarly st many).1)], (F_X6_hoursTooEarly st many).2)) rfl ?_
        exact xr_iret gd_X6_widerIn rfl rfl ⟨by first | (rw [F_X6_widerIn, if_neg h1, if_pos h2, if_pos h3]; done) | (rw [F_X6_widerIn, if_neg h1, if_pos h2, if_pos h3]; rfl), by first | (rw [F_X6_widerIn, if_neg h1, if_pos h2, if_pos h3]; done) | (rw [F_X6_widerIn, if_neg h1, if_pos h2, if_pos h3]; rfl)⟩
      · refine xr_blk gd_X6_widerIn 2 (c' := (33, [(0, .ref 0), (1, .int many), (2, .int ((F_X6_hoursTooEarly st many).1))], [.int (-6)], (F_X6_hoursTooEarly st many).2)) rfl ?_
        exact xr_iret gd_X6_widerIn rfl rfl ⟨by first | (rw [F_X6_widerIn, if_neg h1, if_pos h2, if_neg h3]; done) | (rw [F_X6_widerIn, if_neg h1, if_pos h2, if_neg h3]; rfl), by first | (rw [F_X6_widerIn, if_neg h1, if_pos h2, if_neg h3]; done) | (rw [F_X6_widerIn, if_neg h1, if_pos h2, if_neg h3]; rfl)⟩
    · refine xr_blk gd_X6_widerIn 1 (c' := (13, [(0, .ref 0), (1, .int many)], [.int (-2)], st)) rfl ?_
      exact xr_iret gd_X6_widerIn rfl rfl ⟨by first | (rw [F_X6_widerIn, if_neg h1, if_neg h2]; done) | (rw [F_X6_widerIn, if_neg h1, if_neg h2]; rfl), by first | (rw [F_X6_widerIn, if_neg h1, if_neg h2]; done) | (rw [F_X6_widerIn, if_neg h1, if_neg h2]; rfl)⟩
def F_X6_without (st : xs_S) (dial : Int32) : Int32 × xs_S := (if (F_X1_hasDial st dial) = 0 then ((-1), st)
    else (if (F_X5_isEmpty (F_X6_gatherNow st dial)) = 0 then (((F_X5_hour (F_X6_gatherNow st dial)) + 100000), (F_X6_gatherNow st dial))
      else ((-6), (F_X6_gatherNow st dial))))
set_option maxRecDepth 20000 in
theorem c_X6_without {G : xs_G} {base : Nat} (d : Nat) (st : xs_S) (dial : Int32) : xs_K (xc G) base (d + 5) M_X6_without [.ref 0, .int dial] st (fun v u => v = some (.int (F_X6_without st dial).1) ∧ u = (F_X6_without st dial).2) := by
  refine xs_intro ok_X6_without [(0, .ref 0), (1, .int dial)] rfl rfl ?_
  refine xr_blk gd_X6_without 3 (c' := (5, [(0, .ref 0), (1, .int dial)], [.int dial, .ref 1], st)) rfl ?_
  refine xr_callV gd_X6_without gd_X1_hasDial k_X6_96 rfl (c_X1_hasDial (d + 4) st dial) (by omega) rfl rfl rfl rfl rfl ?_
  refine xs_fun ?_
  refine xr_br gd_X6_without rfl rfl (fun h1 => ?_) (fun h1 => ?_)
  · refine xr_blk gd_X6_without 2 (c' := (15, [(0, .ref 0), (1, .int dial)], [.int dial, .ref 0], st)) rfl ?_
    refine xr_callV gd_X6_without gd_X6_gatherNow k_X6_70 rfl (c_X6_gatherNow (d + 0) st dial) (by omega) rfl rfl rfl rfl rfl ?_
    refine xs_fun ?_
    refine xr_blk gd_X6_without 2 (c' := (22, [(0, .ref 0), (1, .int dial)], [.ref 7], (F_X6_gatherNow st dial))) rfl ?_
    refine xr_callV gd_X6_without gd_X5_isEmpty k_X6_74 rfl (c_X5_isEmpty (d + 4) (F_X6_gatherNow st dial)) (by omega) rfl rfl rfl rfl rfl ?_
    refine xs_fun ?_
    refine xr_br gd_X6_without rfl rfl (fun h2 => ?_) (fun h2 => ?_)
    · refine xr_blk gd_X6_without 2 (c' := (37, [(0, .ref 0), (1, .int dial)], [.ref 7], (F_X6_gatherNow st dial))) rfl ?_
      refine xr_callV gd_X6_without gd_X5_hour k_X6_78 rfl (c_X5_hour (d + 1) (F_X6_gatherNow st dial) gn_sz) (by omega) rfl rfl rfl rfl rfl ?_
      refine xs_fun ?_
      refine xr_blk gd_X6_without 2 (c' := (43, [(0, .ref 0), (1, .int dial)], [.int ((F_X5_hour (F_X6_gatherNow st dial)) + 100000)], (F_X6_gatherNow st dial))) rfl ?_
      exact xr_iret gd_X6_without rfl rfl ⟨by first | (rw [F_X6_without, if_neg h1, if_pos h2]; done) | (rw [F_X6_without, if_neg h1, if_pos h2]; rfl), by first | (rw [F_X6_without, if_neg h1, if_pos h2]; done) | (rw [F_X6_without, if_neg h1, if_pos h2]; rfl)⟩
    · refine xr_blk gd_X6_without 2 (c' := (43, [(0, .ref 0), (1, .int dial)], [.int (-6)], (F_X6_gatherNow st dial))) rfl ?_
      exact xr_iret gd_X6_without rfl rfl ⟨by first | (rw [F_X6_without, if_neg h1, if_neg h2]; done) | (rw [F_X6_without, if_neg h1, if_neg h2]; rfl), by first | (rw [F_X6_without, if_neg h1, if_neg h2]; done) | (rw [F_X6_without, if_neg h1, if_neg h2]; rfl)⟩
  · refine xr_blk gd_X6_without 1 (c' := (12, [(0, .ref 0), (1, .int dial)], [.int (-1)], st)) rfl ?_
    exact xr_iret gd_X6_without rfl rfl ⟨by first | (rw [F_X6_without, if_pos h1]; done) | (rw [F_X6_without, if_pos h1]; rfl), by first | (rw [F_X6_without, if_pos h1]; done) | (rw [F_X6_without, if_pos h1]; rfl)⟩
