def F_X1_now (st : xs_S) : Int32 := st 1 2
set_option maxRecDepth 20000 in
theorem c_X1_now {G : xs_G} {base : Nat} (d : Nat) (st : xs_S) : xs_K (xc G) base (d + 0) M_X1_now [.ref 1] st (fun v u => v = some (.int (F_X1_now st)) ∧ u = st) := by
  refine xs_intro ok_X1_now [(0, .ref 1)] rfl rfl ?_
  refine xr_blk gd_X1_now 2 (c' := (4, [(0, .ref 1)], [.int (st 1 2)], st)) rfl ?_
  exact xr_iret gd_X1_now rfl rfl ⟨by first | (rw [F_X1_now]; done) | (rw [F_X1_now]; rfl), rfl⟩
def F_X1_hasDial (st : xs_S) (dial : Int32) : Int32 := (if dial < 0 then 0
    else (if (st 1 3) ≤ dial then 0
      else 1))
set_option maxRecDepth 20000 in
theorem c_X1_hasDial {G : xs_G} {base : Nat} (d : Nat) (st : xs_S) (dial : Int32) : xs_K (xc G) base (d + 0) M_X1_hasDial [.ref 1, .int dial] st (fun v u => v = some (.int (F_X1_hasDial st dial)) ∧ u = st) := by
  refine xs_intro ok_X1_hasDial [(0, .ref 1), (1, .int dial)] rfl rfl ?_
  refine xr_blk gd_X1_hasDial 1 (c' := (1, [(0, .ref 1), (1, .int dial)], [.int dial], st)) rfl ?_
  refine xr_br gd_X1_hasDial rfl rfl (fun h1 => ?_) (fun h1 => ?_)
  · refine xr_blk gd_X1_hasDial 1 (c' := (17, [(0, .ref 1), (1, .int dial)], [.int 0], st)) rfl ?_
    exact xr_zret gd_X1_hasDial rfl rfl rfl ⟨by first | (rw [F_X1_hasDial, if_pos h1]; done) | (rw [F_X1_hasDial, if_pos h1]; rfl), rfl⟩
  · refine xr_blk gd_X1_hasDial 3 (c' := (9, [(0, .ref 1), (1, .int dial)], [.int (st 1 3), .int dial], st)) rfl ?_
    refine xr_br gd_X1_hasDial rfl rfl (fun h2 => ?_) (fun h2 => ?_)
    · refine xr_blk gd_X1_hasDial 1 (c' := (17, [(0, .ref 1), (1, .int dial)], [.int 0], st)) rfl ?_
      exact xr_zret gd_X1_hasDial rfl rfl rfl ⟨by first | (rw [F_X1_hasDial, if_neg h1, if_pos h2]; done) | (rw [F_X1_hasDial, if_neg h1, if_pos h2]; rfl), rfl⟩
    · refine xr_blk gd_X1_hasDial 2 (c' := (17, [(0, .ref 1), (1, .int dial)], [.int 1], st)) rfl ?_
      exact xr_zret gd_X1_hasDial rfl rfl rfl ⟨by first | (rw [F_X1_hasDial, if_neg h1, if_neg h2]; done) | (rw [F_X1_hasDial, if_neg h1, if_neg h2]; rfl), rfl⟩
def F_X1_hasReading (st : xs_S) (dial : Int32) : Int32 := (if (((st 1 4) >>> (dial &&& 31)) &&& 1) = 1 then 1
    else 0)
set_option maxRecDepth 20000 in
theorem c_X1_hasReading {G : xs_G} {base : Nat} (d : Nat) (st : xs_S) (dial : Int32) : xs_K (xc G) base (d + 0) M_X1_hasReading [.ref 1, .int dial] st (fun v u => v = some (.int (F_X1_hasReading st dial)) ∧ u = st) := by
  refine xs_intro ok_X1_hasReading [(0, .ref 1), (1, .int dial)] rfl rfl ?_
  refine xr_blk gd_X1_hasReading 7 (c' := (9, [(0, .ref 1), (1, .int dial)], [.int 1, .int (((st 1 4) >>> (dial &&& 31)) &&& 1)], st)) rfl ?_
  refine xr_br gd_X1_hasReading rfl rfl (fun h1 => ?_) (fun h1 => ?_)
  · refine xr_blk gd_X1_hasReading 1 (c' := (17, [(0, .ref 1), (1, .int dial)], [.int 0], st)) rfl ?_
    exact xr_zret gd_X1_hasReading rfl rfl rfl ⟨by first | (rw [F_X1_hasReading, if_neg h1]; done) | (rw [F_X1_hasReading, if_neg h1]; rfl), rfl⟩
  · refine xr_blk gd_X1_hasReading 2 (c' := (17, [(0, .ref 1), (1, .int dial)], [.int 1], st)) rfl ?_
    exact xr_zret gd_X1_hasReading rfl rfl rfl ⟨by first | (rw [F_X1_hasReading, if_pos h1]; done) | (rw [F_X1_hasReading, if_pos h1]; rfl), rfl⟩
def F_X1_isStruck (st : xs_S) (dial : Int32) : Int32 := (if (((st 1 5) >>> (dial &&& 31)) &&& 1) = 1 then 1
    else 0)
set_option maxRecDepth 20000 in
theorem c_X1_isStruck {G : xs_G} {base : Nat} (d : Nat) (st : xs_S) (dial : Int32) : xs_K (xc G) base (d + 0) M_X1_isStruck [.ref 1, .int dial] st (fun v u => v = some (.int (F_X1_isStruck st dial)) ∧ u = st) := by
  refine xs_intro ok_X1_isStruck [(0, .ref 1), (1, .int dial)] rfl rfl ?_
  refine xr_blk gd_X1_isStruck 7 (c' := (9, [(0, .ref 1), (1, .int dial)], [.int 1, .int (((st 1 5) >>> (dial &&& 31)) &&& 1)], st)) rfl ?_
  refine xr_br gd_X1_isStruck rfl rfl (fun h1 => ?_) (fun h1 => ?_)
  · refine xr_blk gd_X1_isStruck 1 (c' := (17, [(0, .ref 1), (1, .int dial)], [.int 0], st)) rfl ?_
    exact xr_zret gd_X1_isStruck rfl rfl rfl ⟨by first | (rw [F_X1_isStruck, if_neg h1]; done) | (rw [F_X1_isStruck, if_neg h1]; rfl), rfl⟩
  · refine xr_blk gd_X1_isStruck 2 (c' := (17, [(0, .ref 1), (1, .int dial)], [.int 1], st)) rfl ?_
    exact xr_zret gd_X1_isStruck rfl rfl rfl ⟨by first | (rw [F_X1_isStruck, if_pos h1]; done) | (rw [F_X1_isStruck, if_pos h1]; rfl), rfl⟩
def F_X1_dialsWithSpans (st : xs_S) : Int32 := ((st 1 4) &&& ((st 1 5) ^^^ (-1)))
set_option maxRecDepth 20000 in
theorem c_X1_dialsWithSpans {G : xs_G} {base : Nat} (d : Nat) (st : xs_S) : xs_K (xc G) base (d + 0) M_X1_dialsWithSpans [.ref 1] st (fun v u => v = some (.int (F_X1_dialsWithSpans st)) ∧ u = st) := by
  refine xs_intro ok_X1_dialsWithSpans [(0, .ref 1)] rfl rfl ?_
  refine xr_blk gd_X1_dialsWithSpans 7 (c' := (11, [(0, .ref 1)], [.int ((st 1 4) &&& ((st 1 5) ^^^ (-1)))], st)) rfl ?_
  exact xr_iret gd_X1_dialsWithSpans rfl rfl ⟨by first | (rw [F_X1_dialsWithSpans]; done) | (rw [F_X1_dialsWithSpans]; rfl), rfl⟩
def F_X1_hasSpan (st : xs_S) (dial : Int32) : Int32 := (if (((F_X1_dialsWithSpans st) >>> (dial &&& 31)) &&& 1) = 1 then 1
    else 0)
set_option maxRecDepth 20000 in
theorem c_X1_hasSpan {G : xs_G} {base : Nat} (d : Nat) (st : xs_S) (dial : Int32) : xs_K (xc G) base (d + 1) M_X1_hasSpan [.ref 1, .int dial] st (fun v u => v = some (.int (F_X1_hasSpan st dial)) ∧ u = st) := by
  refine xs_intro ok_X1_hasSpan [(0, .ref 1), (1, .int dial)] rfl rfl ?_
  refine xr_blk gd_X1_hasSpan 1 (c' := (1, [(0, .ref 1), (1, .int dial)], [.ref 1], st)) rfl ?_
  refine xr_callV gd_X1_hasSpan gd_X1_dialsWithSpans k_X1_58 rfl (c_X1_dialsWithSpans (d + 0) st) (by omega) rfl rfl rfl rfl rfl ?_
  refine xs_fun ?_
  refine xr_blk gd_X1_hasSpan 5 (c' := (9, [(0, .ref 1), (1, .int dial)], [.int 1, .int (((F_X1_dialsWithSpans st) >>> (dial &&& 31)) &&& 1)], st)) rfl ?_
  refine xr_br gd_X1_hasSpan rfl rfl (fun h1 => ?_) (fun h1 => ?_)
  · refine xr_blk gd_X1_hasSpan 1 (c' := (17, [(0, .ref 1), (1, .int dial)], [.int 0], st)) rfl ?_
    exact xr_zret gd_X1_hasSpan rfl rfl rfl ⟨by first | (rw [F_X1_hasSpan, if_neg h1]; done) | (rw [F_X1_hasSpan, if_neg h1]; rfl), rfl⟩
  · refine xr_blk gd_X1_hasSpan 2 (c' := (17, [(0, .ref 1), (1, .int dial)], [.int 1], st)) rfl ?_
    exact xr_zret gd_X1_hasSpan rfl rfl rfl ⟨by first | (rw [F_X1_hasSpan, if_pos h1]; done) | (rw [F_X1_hasSpan, if_pos h1]; rfl), rfl⟩
def F_X1_ageAt (st : xs_S) (dial : Int32) (time : Int32) : Int32 := (time - (st 4 dial.toInt.toNat))
set_option maxRecDepth 20000 in
theorem c_X1_ageAt {G : xs_G} {base : Nat} (d : Nat) (st : xs_S) (dial : Int32) (time : Int32) (hd : 0 ≤ dial.toInt ∧ dial.toInt < 15) : xs_K (xc G) base (d + 0) M_X1_ageAt [.ref 1, .int dial, .int time] st (fun v u => v = some (.int (F_X1_ageAt st dial time)) ∧ u = st) := by
  refine xs_intro ok_X1_ageAt [(0, .ref 1), (1, .int dial), (2, .int time)] rfl rfl ?_
  refine xr_blk gd_X1_ageAt 4 (c' := (6, [(0, .ref 1), (1, .int dial), (2, .int time)], [.int dial, .ref 4, .int time], st)) rfl ?_
  refine xr_iald gd_X1_ageAt rfl rfl (dial.toInt.toNat) (xs_h1 (n := 15) hd) (xs_h2 (n := 15) hd) ?_
  refine xr_blk gd_X1_ageAt 1 (c' := (8, [(0, .ref 1), (1, .int dial), (2, .int time)], [.int (time - (st 4 dial.toInt.toNat))], st)) rfl ?_
  exact xr_iret gd_X1_ageAt rfl rfl ⟨by first | (rw [F_X1_ageAt]; done) | (rw [F_X1_ageAt]; rfl), rfl⟩
def F_X1_reach (st : xs_S) (dial : Int32) (age : Int32) : Int32 := ((st 3 dial.toInt.toNat) + ((st 1 0) * (age / 60)))
set_option maxRecDepth 20000 in
theorem c_X1_reach {G : xs_G} {base : Nat} (d : Nat) (st : xs_S) (dial : Int32) (age : Int32) (hd : 0 ≤ dial.toInt ∧ dial.toInt < 15) : xs_K (xc G) base (d + 0) M_X1_reach [.ref 1, .int dial, .int age] st (fun v u => v = some (.int (F_X1_reach st dial age)) ∧ u = st) := by
  refine xs_intro ok_X1_reach [(0, .ref 1), (1, .int dial), (2, .int age)] rfl rfl ?_
  refine xr_blk gd_X1_reach 3 (c' := (5, [(0, .ref 1), (1, .int dial), (2, .int age)], [.int dial, .ref 3], st)) rfl ?_
  refine xr_iald gd_X1_reach rfl rfl (dial.toInt.toNat) (xs_h1 (n := 15) (by omega)) (xs_h2 (n := 15) (by omega)) ?_
  refine xr_blk gd_X1_reach 4 (c' := (13, [(0, .ref 1), (1, .int dial), (2, .int age)], [.int 60, .int age, .int (st 1 0), .int (st 3 dial.toInt.toNat)], st)) rfl ?_
  refine xr_idiv gd_X1_reach.1 rfl (by decide) ?_
  refine xr_blk gd_X1_reach 2 (c' := (16, [(0, .ref 1), (1, .int dial), (2, .int age)], [.int ((st 3 dial.toInt.toNat) + ((st 1 0) * (age / 60)))], st)) rfl ?_
  exact xr_iret gd_X1_reach rfl rfl ⟨by first | (rw [F_X1_reach]; done) | (rw [F_X1_reach]; rfl), rfl⟩
def F_X1_lowEnd (st : xs_S) (dial : Int32) (time : Int32) : Int32 := (((st 2 dial.toInt.toNat) + (F_X1_ageAt st dial time)) - (F_X1_reach st dial (F_X1_ageAt st dial time)))
set_option maxRecDepth 20000 in
theorem c_X1_lowEnd {G : xs_G} {base : Nat} (d : Nat) (st : xs_S) (dial : Int32) (time : Int32) (hd : 0 ≤ dial.toInt ∧ dial.toInt < 15) : xs_K (xc G) base (d + 2) M_X1_lowEnd [.ref 1, .int dial, .int time] st (fun v u => v = some (.int (F_X1_lowEnd st dial time)) ∧ u = st) := by
  refine xs_intro ok_X1_lowEnd [(0, .ref 1), (1, .int dial), (2, .int time)] rfl rfl ?_
  refine xr_blk gd_X1_lowEnd 3 (c' := (3, [(0, .ref 1), (1, .int dial), (2, .int time)], [.int time, .int dial, .ref 1], st)) rfl ?_
  refine xr_callV gd_X1_lowEnd gd_X1_ageAt k_X1_62 rfl (c_X1_ageAt (d + 1) st dial time hd) (by omega) rfl rfl rfl rfl rfl ?_
  refine xs_fun ?_
  refine xr_blk gd_X1_lowEnd 4 (c' := (12, [(0, .ref 1), (1, .int dial), (2, .int time), (3, .int (F_X1_ageAt st dial time))], [.int dial, .ref 2], st)) rfl ?_
  refine xr_iald gd_X1_lowEnd rfl rfl (dial.toInt.toNat) (xs_h1 (n := 15) (by omega)) (xs_h2 (n := 15) (by omega)) ?_
  refine xr_blk gd_X1_lowEnd 5 (c' := (18, [(0, .ref 1), (1, .int dial), (2, .int time), (3, .int (F_X1_ageAt st dial time))], [.int (F_X1_ageAt st dial time), .int dial, .ref 1, .int ((st 2 dial.toInt.toNat) + (F_X1_ageAt st dial time))], st)) rfl ?_
  refine xr_callV gd_X1_lowEnd gd_X1_reach k_X1_66 rfl (c_X1_reach (d + 1) st dial (F_X1_ageAt st dial time) hd) (by omega) rfl rfl rfl rfl rfl ?_
  refine xs_fun ?_
  refine xr_blk gd_X1_lowEnd 1 (c' := (22, [(0, .ref 1), (1, .int dial), (2, .int time), (3, .int (F_X1_ageAt st dial time))], [.int (((st 2 dial.toInt.toNat) + (F_X1_ageAt st dial time)) - (F_X1_reach st dial (F_X1_ageAt st dial time)))], st)) rfl ?_
  exact xr_iret gd_X1_lowEnd rfl rfl ⟨by first | (rw [F_X1_lowEnd]; done) | (rw [F_X1_lowEnd]; rfl), rfl⟩
def F_X1_highEnd (st : xs_S) (dial : Int32) (time : Int32) : Int32 := (((st 2 dial.toInt.toNat) + (F_X1_ageAt st dial time)) + (F_X1_reach st dial (F_X1_ageAt st dial time)))
set_option maxRecDepth 20000 in
theorem c_X1_highEnd {G : xs_G} {base : Nat} (d : Nat) (st : xs_S) (dial : Int32) (time : Int32) (hd : 0 ≤ dial.toInt ∧ dial.toInt < 15) : xs_K (xc G) base (d + 2) M_X1_highEnd [.ref 1, .int dial, .int time] st (fun v u => v = some (.int (F_X1_highEnd st dial time)) ∧ u = st) := by
  refine xs_intro ok_X1_highEnd [(0, .ref 1), (1, .int dial), (2, .int time)] rfl rfl ?_
  refine xr_blk gd_X1_highEnd 3 (c' := (3, [(0, .ref 1), (1, .int dial), (2, .int time)], [.int time, .int dial, .ref 1], st)) rfl ?_
  refine xr_callV gd_X1_highEnd gd_X1_ageAt k_X1_62 rfl (c_X1_ageAt (d + 1) st dial time hd) (by omega) rfl rfl rfl rfl rfl ?_
  refine xs_fun ?_
  refine xr_blk gd_X1_highEnd 4 (c' := (12, [(0, .ref 1), (1, .int dial), (2, .int time), (3, .int (F_X1_ageAt st dial time))], [.int dial, .ref 2], st)) rfl ?_
  refine xr_iald gd_X1_highEnd rfl rfl (dial.toInt.toNat) (xs_h1 (n := 15) (by omega)) (xs_h2 (n := 15) (by omega)) ?_
  refine xr_blk gd_X1_highEnd 5 (c' := (18, [(0, .ref 1), (1, .int dial), (2, .int time), (3, .int (F_X1_ageAt st dial time))], [.int (F_X1_ageAt st dial time), .int dial, .ref 1, .int ((st 2 dial.toInt.toNat) + (F_X1_ageAt st dial time))], st)) rfl ?_
  refine xr_callV gd_X1_highEnd gd_X1_reach k_X1_66 rfl (c_X1_reach (d + 1) st dial (F_X1_ageAt st dial time) hd) (by omega) rfl rfl rfl rfl rfl ?_
  refine xs_fun ?_
  refine xr_blk gd_X1_highEnd 1 (c' := (22, [(0, .ref 1), (1, .int dial), (2, .int time), (3, .int (F_X1_ageAt st dial time))], [.int (((st 2 dial.toInt.toNat) + (F_X1_ageAt st dial time)) + (F_X1_reach st dial (F_X1_ageAt st dial time)))], st)) rfl ?_
  exact xr_iret gd_X1_highEnd rfl rfl ⟨by first | (rw [F_X1_highEnd]; done) | (rw [F_X1_highEnd]; rfl), rfl⟩
def F_X1_changeSetting (st : xs_S) (setting : Int32) (value : Int32) : Int32 × xs_S := (if setting = 0 then (if value < 0 then (if setting = 1 then (if value < 1 then ((-2), st)
          else (if 20 < value then ((-2), st)
            else (st 1 1, xs_u st 1 1 value)))
        else ((-2), st))
      else (if 60 < value then (if setting = 1 then (if value < 1 then ((-2), st)
            else (if 20 < value then ((-2), st)
              else (st 1 1, xs_u st 1 1 value)))
          else ((-2), st))
        else (st 1 0, xs_u st 1 0 value)))
    else (if setting = 1 then (if value < 1 then ((-2), st)
        else (if 20 < value then ((-2), st)
          else (st 1 1, xs_u st 1 1 value)))
      else ((-2), st)))
set_option maxRecDepth 20000 in
theorem c_X1_changeSetting {G : xs_G} {base : Nat} (d : Nat) (st : xs_S) (setting : Int32) (value : Int32) : xs_K (xc G) base (d + 0) M_X1_changeSetting [.ref 1, .int setting, .int value] st (fun v u => v = some (.int (F_X1_changeSetting st setting value).1) ∧ u = (F_X1_changeSetting st setting value).2) := by
  refine xs_intro ok_X1_changeSetting [(0, .ref 1), (1, .int setting), (2, .int value)] rfl rfl ?_
  refine xr_blk gd_X1_changeSetting 1 (c' := (1, [(0, .ref 1), (1, .int setting), (2, .int value)], [.int setting], st)) rfl ?_
  refine xr_br gd_X1_changeSetting rfl rfl (fun h1 => ?_) (fun h1 => ?_)
  · refine xr_blk gd_X1_changeSetting 2 (c' := (28, [(0, .ref 1), (1, .int setting), (2, .int value)], [.int 1, .int setting], st)) rfl ?_
    refine xr_br gd_X1_changeSetting rfl rfl (fun h2 => ?_) (fun h2 => ?_)
    · refine xr_blk gd_X1_changeSetting 1 (c' := (56, [(0, .ref 1), (1, .int setting), (2, .int value)], [.int (-2)], st)) rfl ?_
      exact xr_iret gd_X1_changeSetting rfl rfl ⟨by first | (rw [F_X1_changeSetting, if_neg h1, if_neg h2]; done) | (rw [F_X1_changeSetting, if_neg h1, if_neg h2]; rfl), by first | (rw [F_X1_changeSetting, if_neg h1, if_neg h2]; done) | (rw [F_X1_changeSetting, if_neg h1, if_neg h2]; rfl)⟩
    · refine xr_blk gd_X1_changeSetting 2 (c' := (33, [(0, .ref 1), (1, .int setting), (2, .int value)], [.int 1, .int value], st)) rfl ?_
      refine xr_br gd_X1_changeSetting rfl rfl (fun h3 => ?_) (fun h3 => ?_)
      · refine xr_blk gd_X1_changeSetting 1 (c' := (56, [(0, .ref 1), (1, .int setting), (2, .int value)], [.int (-2)], st)) rfl ?_
        exact xr_iret gd_X1_changeSetting rfl rfl ⟨by first | (rw [F_X1_changeSetting, if_neg h1, if_pos h2, if_pos h3]; done) | (rw [F_X1_changeSetting, if_neg h1, if_pos h2, if_pos h3]; rfl), by first | (rw [F_X1_changeSetting, if_neg h1, if_pos h2, if_pos h3]; done) | (rw [F_X1_changeSetting, if_neg h1, if_pos h2, if_pos h3]; rfl)⟩
      · refine xr_blk gd_X1_changeSetting 2 (c' := (39, [(0, .ref 1), (1, .int setting), (2, .int value)], [.int 20, .int value], st)) rfl ?_
        refine xr_br gd_X1_changeSetting rfl rfl (fun h4 => ?_) (fun h4 => ?_)
        · refine xr_blk gd_X1_changeSetting 1 (c' := (56, [(0, .ref 1), (1, .int setting), (2, .int value)], [.int (-2)], st)) rfl ?_
          exact xr_iret gd_X1_changeSetting rfl rfl ⟨by first | (rw [F_X1_changeSetting, if_neg h1, if_pos h2, if_neg h3, if_pos h4]; done) | (rw [F_X1_changeSetting, if_neg h1, if_pos h2, if_neg h3, if_pos h4]; rfl), by first | (rw [F_X1_changeSetting, if_neg h1, if_pos h2, if_neg h3, if_pos h4]; done) | (rw [F_X1_changeSetting, if_neg h1, if_pos h2, if_neg h3, if_pos h4]; rfl)⟩
        · refine xr_blk gd_X1_changeSetting 7 (c' := (53, [(0, .ref 1), (1, .int setting), (2, .int value), (3, .int (st 1 1))], [.int (st 1 1)], xs_u st 1 1 value)) rfl ?_
          exact xr_iret gd_X1_changeSetting rfl rfl ⟨by first | (rw [F_X1_changeSetting, if_neg h1, if_pos h2, if_neg h3, if_neg h4]; done) | (rw [F_X1_changeSetting, if_neg h1, if_pos h2, if_neg h3, if_neg h4]; rfl), by first | (rw [F_X1_changeSetting, if_neg h1, if_pos h2, if_neg h3, if_neg h4]; done) | (rw [F_X1_changeSetting, if_neg h1, if_pos h2, if_neg h3, if_neg h4]; rfl)⟩
  · refine xr_blk gd_X1_changeSetting 1 (c' := (5, [(0, .ref 1), (1, .int setting), (2, .int value)], [.int value], st)) rfl ?_
    refine xr_br gd_X1_changeSetting rfl rfl (fun h5 => ?_) (fun h5 => ?_)
    · refine xr_blk gd_X1_changeSetting 2 (c' := (28, [(0, .ref 1), (1, .int setting), (2, .int value)], [.int 1, .int setting], st)) rfl ?_
      refine xr_br gd_X1_changeSetting rfl rfl (fun h6 => ?_) (fun h6 => ?_)
      · refine xr_blk gd_X1_changeSetting 1 (c' := (56, [(0, .ref 1), (1, .int setting), (2, .int value)], [.int (-2)], st)) rfl ?_
        exact xr_iret gd_X1_changeSetting rfl rfl ⟨by first | (rw [F_X1_changeSetting, if_pos h1, if_pos h5, if_neg h6]; done) | (rw [F_X1_changeSetting, if_pos h1, if_pos h5, if_neg h6]; rfl), by first | (rw [F_X1_changeSetting, if_pos h1, if_pos h5, if_neg h6]; done) | (rw [F_X1_changeSetting, if_pos h1, if_pos h5, if_neg h6]; rfl)⟩
      · refine xr_blk gd_X1_changeSetting 2 (c' := (33, [(0, .ref 1), (1, .int setting), (2, .int value)], [.int 1, .int value], st)) rfl ?_
        refine xr_br gd_X1_changeSetting rfl rfl (fun h7 => ?_) (fun h7 => ?_)
        · refine xr_blk gd_X1_changeSetting 1 (c' := (56, [(0, .ref 1), (1, .int setting), (2, .int value)], [.int (-2)], st)) rfl ?_
          exact xr_iret gd_X1_changeSetting rfl rfl ⟨by first | (rw [F_X1_changeSetting, if_pos h1, if_pos h5, if_pos h6, if_pos h7]; done) | (rw [F_X1_changeSetting, if_pos h1, if_pos h5, if_pos h6, if_pos h7]; rfl), by first | (rw [F_X1_changeSetting, if_pos h1, if_pos h5, if_pos h6, if_pos h7]; done) | (rw [F_X1_changeSetting, if_pos h1, if_pos h5, if_pos h6, if_pos h7]; rfl)⟩
        · refine xr_blk gd_X1_changeSetting 2 (c' := (39, [(0, .ref 1), (1, .int setting), (2, .int value)], [.int 20, .int value], st)) rfl ?_
          refine xr_br gd_X1_changeSetting rfl rfl (fun h8 => ?_) (fun h8 => ?_)
          · refine xr_blk gd_X1_changeSetting 1 (c' := (56, [(0, .ref 1), (1, .int setting), (2, .int value)], [.int (-2)], st)) rfl ?_
            exact xr_iret gd_X1_changeSetting rfl rfl ⟨by first | (rw [F_X1_changeSetting, if_pos h1, if_pos h5, if_pos h6, if_neg h7, if_pos h8]; done) | (rw [F_X1_changeSetting, if_pos h1, if_pos h5, if_pos h6, if_neg h7, if_pos h8]; rfl), by first | (rw [F_X1_changeSetting, if_pos h1, if_pos h5, if_pos h6, if_neg h7, if_pos h8]; done) | (rw [F_X1_changeSetting, if_pos h1, if_pos h5, if_pos h6, if_neg h7, if_pos h8]; rfl)⟩
          · refine xr_blk gd_X1_changeSetting 7 (c' := (53, [(0, .ref 1), (1, .int setting), (2, .int value), (3, .int (st 1 1))], [.int (st 1 1)], xs_u st 1 1 value)) rfl ?_
            exact xr_iret gd_X1_changeSetting rfl rfl ⟨by first | (rw [F_X1_changeSetting, if_pos h1, if_pos h5, if_pos h6, if_neg h7, if_neg h8]; done) | (rw [F_X1_changeSetting, if_pos h1, if_pos h5, if_pos h6, if_neg h7, if_neg h8]; rfl), by first | (rw [F_X1_changeSetting, if_pos h1, if_pos h5, if_pos h6, if_neg h7, if_neg h8]; done) | (rw [F_X1_changeSetting, if_pos h1, if_pos h5, if_pos h6, if_neg h7, if_neg h8]; rfl)⟩
    · refine xr_blk gd_X1_changeSetting 2 (c' := (11, [(0, .ref 1), (1, .int setting), (2, .int value)], [.int 60, .int value], st)) rfl ?_
      refine xr_br gd_X1_changeSetting rfl rfl (fun h9 => ?_) (fun h9 => ?_)
      · refine xr_blk gd_X1_changeSetting 2 (c' := (28, [(0, .ref 1), (1, .int setting), (2, .int value)], [.int 1, .int setting], st)) rfl ?_
        refine xr_br gd_X1_changeSetting rfl rfl (fun h10 => ?_) (fun h10 => ?_)
        · refine xr_blk gd_X1_changeSetting 1 (c' := (56, [(0, .ref 1), (1, .int setting), (2, .int value)], [.int (-2)], st)) rfl ?_
          exact xr_iret gd_X1_changeSetting rfl rfl ⟨by first | (rw [F_X1_changeSetting, if_pos h1, if_neg h5, if_pos h9, if_neg h10]; done) | (rw [F_X1_changeSetting, if_pos h1, if_neg h5, if_pos h9, if_neg h10]; rfl), by first | (rw [F_X1_changeSetting, if_pos h1, if_neg h5, if_pos h9, if_neg h10]; done) | (rw [F_X1_changeSetting, if_pos h1, if_neg h5, if_pos h9, if_neg h10]; rfl)⟩
        · refine xr_blk gd_X1_changeSetting 2 (c' := (33, [(0, .ref 1), (1, .int setting), (2, .int value)], [.int 1, .int value], st)) rfl ?_
          refine xr_br gd_X1_changeSetting rfl rfl (fun h11 => ?_) (fun h11 => ?_)
          · refine xr_blk gd_X1_changeSetting 1 (c' := (56, [(0, .ref 1), (1, .int setting), (2, .int value)], [.int (-2)], st)) rfl ?_
            exact xr_iret gd_X1_changeSetting rfl rfl ⟨by first | (rw [F_X1_changeSetting, if_pos h1, if_neg h5, if_pos h9, if_pos h10, if_pos h11]; done) | (rw [F_X1_changeSetting, if_pos h1, if_neg h5, if_pos h9, if_pos h10, if_pos h11]; rfl), by first | (rw [F_X1_changeSetting, if_pos h1, if_neg h5, if_pos h9, if_pos h10, if_pos h11]; done) | (rw [F_X1_changeSetting, if_pos h1, if_neg h5, if_pos h9, if_pos h10, if_pos h11]; rfl)⟩
          · refine xr_blk gd_X1_changeSetting 2 (c' := (39, [(0, .ref 1), (1, .int setting), (2, .int value)], [.int 20, .int value], st)) rfl ?_
            refine xr_br gd_X1_changeSetting rfl rfl (fun h12 => ?_) (fun h12 => ?_)
            · refine xr_blk gd_X1_changeSetting 1 (c' := (56, [(0, .ref 1), (1, .int setting), (2, .int value)], [.int (-2)], st)) rfl ?_
              exact xr_iret gd_X1_changeSetting rfl rfl ⟨by first | (rw [F_X1_changeSetting, if_pos h1, if_neg h5, if_pos h9, if_pos h10, if_neg h11, if_pos h12]; done) | (rw [F_X1_changeSetting, if_pos h1, if_neg h5, if_pos h9, if_pos h10, if_neg h11, if_pos h12]; rfl), by first | (rw [F_X1_changeSetting, if_pos h1, if_neg h5, if_pos h9, if_pos h10, if_neg h11, if_pos h12]; done) | (rw [F_X1_changeSetting, if_pos h1, if_neg h5, if_pos h9, if_pos h10, if_neg h11, if_pos h12]; rfl)⟩
            · refine xr_blk gd_X1_changeSetting 7 (c' := (53, [(0, .ref 1), (1, .int setting), (2, .int value), (3, .int (st 1 1))], [.int (st 1 1)], xs_u st 1 1 value)) rfl ?_
              exact xr_iret gd_X1_changeSetting rfl rfl ⟨by first | (rw [F_X1_changeSetting, if_pos h1, if_neg h5, if_pos h9, if_pos h10, if_neg h11, if_neg h12]; done) | (rw [F_X1_changeSetting, if_pos h1, if_neg h5, if_pos h9, if_pos h10, if_neg h11, if_neg h12]; rfl), by first | (rw [F_X1_changeSetting, if_pos h1, if_neg h5, if_pos h9, if_pos h10, if_neg h11, if_neg h12]; done) | (rw [F_X1_changeSetting, if_pos h1, if_neg h5, if_pos h9, if_pos h10, if_neg h11, if_neg h12]; rfl)⟩
      · refine xr_blk gd_X1_changeSetting 7 (c' := (25, [(0, .ref 1), (1, .int setting), (2, .int value), (3, .int (st 1 0))], [.int (st 1 0)], xs_u st 1 0 value)) rfl ?_
        exact xr_iret gd_X1_changeSetting rfl rfl ⟨by first | (rw [F_X1_changeSetting, if_pos h1, if_neg h5, if_neg h9]; done) | (rw [F_X1_changeSetting, if_pos h1, if_neg h5, if_neg h9]; rfl), by first | (rw [F_X1_changeSetting, if_pos h1, if_neg h5, if_neg h9]; done) | (rw [F_X1_changeSetting, if_pos h1, if_neg h5, if_neg h9]; rfl)⟩
def F_X1_addDial (st : xs_S) : Int32 × xs_S := (if (st 1 3) < 15 then ((((st 1 3) + 1) - 1), xs_u st 1 3 ((st 1 3) + 1))
    else ((-4), st))
set_option maxRecDepth 20000 in
theorem c_X1_addDial {G : xs_G} {base : Nat} (d : Nat) (st : xs_S) : xs_K (xc G) base (d + 0) M_X1_addDial [.ref 1] st (fun v u => v = some (.int (F_X1_addDial st).1) ∧ u = (F_X1_addDial st).2) := by
  refine xs_intro ok_X1_addDial [(0, .ref 1)] rfl rfl ?_
  refine xr_blk gd_X1_addDial 3 (c' := (6, [(0, .ref 1)], [.int 15, .int (st 1 3)], st)) rfl ?_
  refine xr_br gd_X1_addDial rfl rfl (fun h1 => ?_) (fun h1 => ?_)
  · refine xr_blk gd_X1_addDial 10 (c' := (28, [(0, .ref 1)], [.int (((st 1 3) + 1) - 1)], xs_u st 1 3 ((st 1 3) + 1))) rfl ?_
    exact xr_iret gd_X1_addDial rfl rfl ⟨by first | (rw [F_X1_addDial, if_pos h1]; done) | (rw [F_X1_addDial, if_pos h1]; rfl), by first | (rw [F_X1_addDial, if_pos h1]; done) | (rw [F_X1_addDial, if_pos h1]; rfl)⟩
  · refine xr_blk gd_X1_addDial 1 (c' := (11, [(0, .ref 1)], [.int (-4)], st)) rfl ?_
    exact xr_iret gd_X1_addDial rfl rfl ⟨by first | (rw [F_X1_addDial, if_neg h1]; done) | (rw [F_X1_addDial, if_neg h1]; rfl), by first | (rw [F_X1_addDial, if_neg h1]; done) | (rw [F_X1_addDial, if_neg h1]; rfl)⟩
theorem hasDial_in {st : xs_S} {dial : Int32} (h : ¬ F_X1_hasDial st dial = 0) : 0 ≤ dial.toInt ∧ dial.toInt < (st 1 3).toInt := by
  unfold F_X1_hasDial at h
  by_cases h1 : dial < 0
  · rw [if_pos h1] at h; exact absurd rfl h
  · rw [if_neg h1] at h
    by_cases h2 : st 1 3 ≤ dial
    · rw [if_pos h2] at h; exact absurd rfl h
    · rw [xi_lt, xi_0] at h1
      rw [xi_le] at h2
      omega
def F_X1_takeReading (st : xs_S) (dial : Int32) (time : Int32) (doubt : Int32) : Int32 × xs_S := (if (F_X1_hasDial st dial) = 0 then ((-1), st)
    else (if time < 0 then ((-2), st)
      else (if 9999 < time then ((-2), st)
        else (if doubt < 0 then ((-2), st)
          else (if doubt ≤ 300 then (if (F_X1_isStruck st dial) = 0 then (if (F_X1_hasReading st dial) = 0 then ((-6), xs_u (xs_u (xs_u (xs_u st 2 dial.toInt.toNat time) 3 dial.toInt.toNat doubt) 4 dial.toInt.toNat (st 1 2)) 1 4 ((st 1 4) ||| (1 <<< (dial &&& 31))))
                else ((F_X1_ageAt st dial (st 1 2)), xs_u (xs_u (xs_u (xs_u st 2 dial.toInt.toNat time) 3 dial.toInt.toNat doubt) 4 dial.toInt.toNat (st 1 2)) 1 4 ((st 1 4) ||| (1 <<< (dial &&& 31)))))
              else ((-5), st))
            else ((-2), st))))))
set_option maxRecDepth 20000 in
theorem c_X1_takeReading {G : xs_G} {base : Nat} (d : Nat) (st : xs_S) (dial : Int32) (time : Int32) (doubt : Int32) (hds : (st 1 3).toInt ≤ 15) : xs_K (xc G) base (d + 1) M_X1_takeReading [.ref 1, .int dial, .int time, .int doubt] st (fun v u => v = some (.int (F_X1_takeReading st dial time doubt).1) ∧ u = (F_X1_takeReading st dial time doubt).2) := by
  refine xs_intro ok_X1_takeReading [(0, .ref 1), (1, .int dial), (2, .int time), (3, .int doubt)] rfl rfl ?_
  refine xr_blk gd_X1_takeReading 2 (c' := (2, [(0, .ref 1), (1, .int dial), (2, .int time), (3, .int doubt)], [.int dial, .ref 1], st)) rfl ?_
  refine xr_callV gd_X1_takeReading gd_X1_hasDial k_X1_69 rfl (c_X1_hasDial (d + 0) st dial) (by omega) rfl rfl rfl rfl rfl ?_
  refine xs_fun ?_
  refine xr_br gd_X1_takeReading rfl rfl (fun h1 => ?_) (fun h1 => ?_)
  · have hd : 0 ≤ dial.toInt ∧ dial.toInt < 15 := by have hq := hasDial_in h1; omega
    refine xr_blk gd_X1_takeReading 1 (c' := (11, [(0, .ref 1), (1, .int dial), (2, .int time), (3, .int doubt)], [.int time], st)) rfl ?_
    refine xr_br gd_X1_takeReading rfl rfl (fun h2 => ?_) (fun h2 => ?_)
    · refine xr_blk gd_X1_takeReading 1 (c' := (34, [(0, .ref 1), (1, .int dial), (2, .int time), (3, .int doubt)], [.int (-2)], st)) rfl ?_
      exact xr_iret gd_X1_takeReading rfl rfl ⟨by first | (rw [F_X1_takeReading, if_neg h1, if_pos h2]; done) | (rw [F_X1_takeReading, if_neg h1, if_pos h2]; rfl), by first | (rw [F_X1_takeReading, if_neg h1, if_pos h2]; done) | (rw [F_X1_takeReading, if_neg h1, if_pos h2]; rfl)⟩
    · refine xr_blk gd_X1_takeReading 2 (c' := (18, [(0, .ref 1), (1, .int dial), (2, .int time), (3, .int doubt)], [.int 9999, .int time], st)) rfl ?_
      refine xr_br gd_X1_takeReading rfl rfl (fun h3 => ?_) (fun h3 => ?_)
      · refine xr_blk gd_X1_takeReading 1 (c' := (34, [(0, .ref 1), (1, .int dial), (2, .int time), (3, .int doubt)], [.int (-2)], st)) rfl ?_
        exact xr_iret gd_X1_takeReading rfl rfl ⟨by first | (rw [F_X1_takeReading, if_neg h1, if_neg h2, if_pos h3]; done) | (rw [F_X1_takeReading, if_neg h1, if_neg h2, if_pos h3]; rfl), by first | (rw [F_X1_takeReading, if_neg h1, if_neg h2, if_pos h3]; done) | (rw [F_X1_takeReading, if_neg h1, if_neg h2, if_pos h3]; rfl)⟩
      · refine xr_blk gd_X1_takeReading 1 (c' := (22, [(0, .ref 1), (1, .int dial), (2, .int time), (3, .int doubt)], [.int doubt], st)) rfl ?_
        refine xr_br gd_X1_takeReading rfl rfl (fun h4 => ?_) (fun h4 => ?_)
        · refine xr_blk gd_X1_takeReading 1 (c' := (34, [(0, .ref 1), (1, .int dial), (2, .int time), (3, .int doubt)], [.int (-2)], st)) rfl ?_
          exact xr_iret gd_X1_takeReading rfl rfl ⟨by first | (rw [F_X1_takeReading, if_neg h1, if_neg h2, if_neg h3, if_pos h4]; done) | (rw [F_X1_takeReading, if_neg h1, if_neg h2, if_neg h3, if_pos h4]; rfl), by first | (rw [F_X1_takeReading, if_neg h1, if_neg h2, if_neg h3, if_pos h4]; done) | (rw [F_X1_takeReading, if_neg h1, if_neg h2, if_neg h3, if_pos h4]; rfl)⟩
        · refine xr_blk gd_X1_takeReading 2 (c' := (29, [(0, .ref 1), (1, .int dial), (2, .int time), (3, .int doubt)], [.int 300, .int doubt], st)) rfl ?_
          refine xr_br gd_X1_takeReading rfl rfl (fun h5 => ?_) (fun h5 => ?_)
          · refine xr_blk gd_X1_takeReading 2 (c' := (37, [(0, .ref 1), (1, .int dial), (2, .int time), (3, .int doubt)], [.int dial, .ref 1], st)) rfl ?_
            refine xr_callV gd_X1_takeReading gd_X1_isStruck k_X1_73 rfl (c_X1_isStruck (d + 0) st dial) (by omega) rfl rfl rfl rfl rfl ?_
            refine xs_fun ?_
            refine xr_br gd_X1_takeReading rfl rfl (fun h6 => ?_) (fun h6 => ?_)
            · refine xr_blk gd_X1_takeReading 2 (c' := (48, [(0, .ref 1), (1, .int dial), (2, .int time), (3, .int doubt)], [.int dial, .ref 1], st)) rfl ?_
              refine xr_callV gd_X1_takeReading gd_X1_hasReading k_X1_76 rfl (c_X1_hasReading (d + 0) st dial) (by omega) rfl rfl rfl rfl rfl ?_
              refine xs_fun ?_
              refine xr_br gd_X1_takeReading rfl rfl (fun h7 => ?_) (fun h7 => ?_)
              · refine xr_blk gd_X1_takeReading 6 (c' := (76, [(0, .ref 1), (1, .int dial), (2, .int time), (3, .int doubt), (4, .int (-6))], [.int time, .int dial, .ref 2], st)) rfl ?_
                refine xr_iast gd_X1_takeReading rfl rfl (dial.toInt.toNat) (xs_h1 (n := 15) hd) (xs_h2 (n := 15) hd) ?_
                refine xr_blk gd_X1_takeReading 4 (c' := (83, [(0, .ref 1), (1, .int dial), (2, .int time), (3, .int doubt), (4, .int (-6))], [.int doubt, .int dial, .ref 3], xs_u st 2 dial.toInt.toNat time)) rfl ?_
                refine xr_iast gd_X1_takeReading rfl rfl (dial.toInt.toNat) (xs_h1 (n := 15) hd) (xs_h2 (n := 15) hd) ?_
                refine xr_blk gd_X1_takeReading 5 (c' := (93, [(0, .ref 1), (1, .int dial), (2, .int time), (3, .int doubt), (4, .int (-6))], [.int (st 1 2), .int dial, .ref 4], xs_u (xs_u st 2 dial.toInt.toNat time) 3 dial.toInt.toNat doubt)) rfl ?_
                refine xr_iast gd_X1_takeReading rfl rfl (dial.toInt.toNat) (xs_h1 (n := 15) hd) (xs_h2 (n := 15) hd) ?_
                refine xr_blk gd_X1_takeReading 9 (c' := (108, [(0, .ref 1), (1, .int dial), (2, .int time), (3, .int doubt), (4, .int (-6))], [.int (-6)], xs_u (xs_u (xs_u (xs_u st 2 dial.toInt.toNat time) 3 dial.toInt.toNat doubt) 4 dial.toInt.toNat (st 1 2)) 1 4 ((st 1 4) ||| (1 <<< (dial &&& 31))))) rfl ?_
                exact xr_iret gd_X1_takeReading rfl rfl ⟨by first | (rw [F_X1_takeReading, if_neg h1, if_neg h2, if_neg h3, if_neg h4, if_pos h5, if_pos h6, if_pos h7]; done) | (rw [F_X1_takeReading, if_neg h1, if_neg h2, if_neg h3, if_neg h4, if_pos h5, if_pos h6, if_pos h7]; rfl), by first | (rw [F_X1_takeReading, if_neg h1, if_neg h2, if_neg h3, if_neg h4, if_pos h5, if_pos h6, if_pos h7]; done) | (rw [F_X1_takeReading, if_neg h1, if_neg h2, if_neg h3, if_neg h4, if_pos h5, if_pos h6, if_pos h7]; rfl)⟩
              · refine xr_blk gd_X1_takeReading 4 (c' := (60, [(0, .ref 1), (1, .int dial), (2, .int time), (3, .int doubt)], [.int (st 1 2), .int dial, .ref 1], st)) rfl ?_
                refine xr_callV gd_X1_takeReading gd_X1_ageAt k_X1_62 rfl (c_X1_ageAt (d + 0) st dial (st 1 2) hd) (by omega) rfl rfl rfl rfl rfl ?_
                refine xs_fun ?_
                refine xr_blk gd_X1_takeReading 6 (c' := (76, [(0, .ref 1), (1, .int dial), (2, .int time), (3, .int doubt), (4, .int (F_X1_ageAt st dial (st 1 2)))], [.int time, .int dial, .ref 2], st)) rfl ?_
                refine xr_iast gd_X1_takeReading rfl rfl (dial.toInt.toNat) (xs_h1 (n := 15) hd) (xs_h2 (n := 15) hd) ?_
                refine xr_blk gd_X1_takeReading 4 (c' := (83, [(0, .ref 1), (1, .int dial), (2, .int time), (3, .int doubt), (4, .int (F_X1_ageAt st dial (st 1 2)))], [.int doubt, .int dial, .ref 3], xs_u st 2 dial.toInt.toNat time)) rfl ?_
                refine xr_iast gd_X1_takeReading rfl rfl (dial.toInt.toNat) (xs_h1 (n := 15) hd) (xs_h2 (n := 15) hd) ?_
                refine xr_blk gd_X1_takeReading 5 (c' := (93, [(0, .ref 1), (1, .int dial), (2, .int time), (3, .int doubt), (4, .int (F_X1_ageAt st dial (st 1 2)))], [.int (st 1 2), .int dial, .ref 4], xs_u (xs_u st 2 dial.toInt.toNat time) 3 dial.toInt.toNat doubt)) rfl ?_
                refine xr_iast gd_X1_takeReading rfl rfl (dial.toInt.toNat) (xs_h1 (n := 15) hd) (xs_h2 (n := 15) hd) ?_
                refine xr_blk gd_X1_takeReading 9 (c' := (108, [(0, .ref 1), (1, .int dial), (2, .int time), (3, .int doubt), (4, .int (F_X1_ageAt st dial (st 1 2)))], [.int (F_X1_ageAt st dial (st 1 2))], xs_u (xs_u (xs_u (xs_u st 2 dial.toInt.toNat time) 3 dial.toInt.toNat doubt) 4 dial.toInt.toNat (st 1 2)) 1 4 ((st 1 4) ||| (1 <<< (dial &&& 31))))) rfl ?_
                exact xr_iret gd_X1_takeReading rfl rfl ⟨by first | (rw [F_X1_takeReading, if_neg h1, if_neg h2, if_neg h3, if_neg h4, if_pos h5, if_pos h6, if_neg h7]; done) | (rw [F_X1_takeReading, if_neg h1, if_neg h2, if_neg h3, if_neg h4, if_pos h5, if_pos h6, if_neg h7]; rfl), by first | (rw [F_X1_takeReading, if_neg h1, if_neg h2, if_neg h3, if_neg h4, if_pos h5, if_pos h6, if_neg h7]; done) | (rw [F_X1_takeReading, if_neg h1, if_neg h2, if_neg h3, if_neg h4, if_pos h5, if_pos h6, if_neg h7]; rfl)⟩
            · refine xr_blk gd_X1_takeReading 1 (c' := (45, [(0, .ref 1), (1, .int dial), (2, .int time), (3, .int doubt)], [.int (-5)], st)) rfl ?_
              exact xr_iret gd_X1_takeReading rfl rfl ⟨by first | (rw [F_X1_takeReading, if_neg h1, if_neg h2, if_neg h3, if_neg h4, if_pos h5, if_neg h6]; done) | (rw [F_X1_takeReading, if_neg h1, if_neg h2, if_neg h3, if_neg h4, if_pos h5, if_neg h6]; rfl), by first | (rw [F_X1_takeReading, if_neg h1, if_neg h2, if_neg h3, if_neg h4, if_pos h5, if_neg h6]; done) | (rw [F_X1_takeReading, if_neg h1, if_neg h2, if_neg h3, if_neg h4, if_pos h5, if_neg h6]; rfl)⟩
          · refine xr_blk gd_X1_takeReading 1 (c' := (34, [(0, .ref 1), (1, .int dial), (2, .int time), (3, .int doubt)], [.int (-2)], st)) rfl ?_
            exact xr_iret gd_X1_takeReading rfl rfl ⟨by first | (rw [F_X1_takeReading, if_neg h1, if_neg h2, if_neg h3, if_neg h4, if_neg h5]; done) | (rw [F_X1_takeReading, if_neg h1, if_neg h2, if_neg h3, if_neg h4, if_neg h5]; rfl), by first | (rw [F_X1_takeReading, if_neg h1, if_neg h2, if_neg h3, if_neg h4, if_neg h5]; done) | (rw [F_X1_takeReading, if_neg h1, if_neg h2, if_neg h3, if_neg h4, if_neg h5]; rfl)⟩
  · refine xr_blk gd_X1_takeReading 1 (c' := (9, [(0, .ref 1), (1, .int dial), (2, .int time), (3, .int doubt)], [.int (-1)], st)) rfl ?_
    exact xr_iret gd_X1_takeReading rfl rfl ⟨by first | (rw [F_X1_takeReading, if_pos h1]; done) | (rw [F_X1_takeReading, if_pos h1]; rfl), by first | (rw [F_X1_takeReading, if_pos h1]; done) | (rw [F_X1_takeReading, if_pos h1]; rfl)⟩
def F_X1_letPass (st : xs_S) (minutes : Int32) : Int32 × xs_S := (if minutes < 1 then ((-2), st)
    else (if minutes ≤ 1440 then (if ((st 1 2) + minutes) ≤ 99999 then (((st 1 2) + minutes), xs_u st 1 2 ((st 1 2) + minutes))
        else ((-5), st))
      else ((-2), st)))
set_option maxRecDepth 20000 in
theorem c_X1_letPass {G : xs_G} {base : Nat} (d : Nat) (st : xs_S) (minutes : Int32) : xs_K (xc G) base (d + 0) M_X1_letPass [.ref 1, .int minutes] st (fun v u => v = some (.int (F_X1_letPass st minutes).1) ∧ u = (F_X1_letPass st minutes).2) := by
  refine xs_intro ok_X1_letPass [(0, .ref 1), (1, .int minutes)] rfl rfl ?_
  refine xr_blk gd_X1_letPass 2 (c' := (2, [(0, .ref 1), (1, .int minutes)], [.int 1, .int minutes], st)) rfl ?_
  refine xr_br gd_X1_letPass rfl rfl (fun h1 => ?_) (fun h1 => ?_)
  · refine xr_blk gd_X1_letPass 1 (c' := (14, [(0, .ref 1), (1, .int minutes)], [.int (-2)], st)) rfl ?_
    exact xr_iret gd_X1_letPass rfl rfl ⟨by first | (rw [F_X1_letPass, if_pos h1]; done) | (rw [F_X1_letPass, if_pos h1]; rfl), by first | (rw [F_X1_letPass, if_pos h1]; done) | (rw [F_X1_letPass, if_pos h1]; rfl)⟩
  · refine xr_blk gd_X1_letPass 2 (c' := (9, [(0, .ref 1), (1, .int minutes)], [.int 1440, .int minutes], st)) rfl ?_
    refine xr_br gd_X1_letPass rfl rfl (fun h2 => ?_) (fun h2 => ?_)
    · refine xr_blk gd_X1_letPass 5 (c' := (23, [(0, .ref 1), (1, .int minutes)], [.int 99999, .int ((st 1 2) + minutes)], st)) rfl ?_
      refine xr_br gd_X1_letPass rfl rfl (fun h3 => ?_) (fun h3 => ?_)
      · refine xr_blk gd_X1_letPass 8 (c' := (43, [(0, .ref 1), (1, .int minutes)], [.int ((st 1 2) + minutes)], xs_u st 1 2 ((st 1 2) + minutes))) rfl ?_
        exact xr_iret gd_X1_letPass rfl rfl ⟨by first | (rw [F_X1_letPass, if_neg h1, if_pos h2, if_pos h3]; done) | (rw [F_X1_letPass, if_neg h1, if_pos h2, if_pos h3]; rfl), by first | (rw [F_X1_letPass, if_neg h1, if_pos h2, if_pos h3]; done) | (rw [F_X1_letPass, if_neg h1, if_pos h2, if_pos h3]; rfl)⟩
      · refine xr_blk gd_X1_letPass 1 (c' := (28, [(0, .ref 1), (1, .int minutes)], [.int (-5)], st)) rfl ?_
        exact xr_iret gd_X1_letPass rfl rfl ⟨by first | (rw [F_X1_letPass, if_neg h1, if_pos h2, if_neg h3]; done) | (rw [F_X1_letPass, if_neg h1, if_pos h2, if_neg h3]; rfl), by first | (rw [F_X1_letPass, if_neg h1, if_pos h2, if_neg h3]; done) | (rw [F_X1_letPass, if_neg h1, if_pos h2, if_neg h3]; rfl)⟩
    · refine xr_blk gd_X1_letPass 1 (c' := (14, [(0, .ref 1), (1, .int minutes)], [.int (-2)], st)) rfl ?_
      exact xr_iret gd_X1_letPass rfl rfl ⟨by first | (rw [F_X1_letPass, if_neg h1, if_neg h2]; done) | (rw [F_X1_letPass, if_neg h1, if_neg h2]; rfl), by first | (rw [F_X1_letPass, if_neg h1, if_neg h2]; done) | (rw [F_X1_letPass, if_neg h1, if_neg h2]; rfl)⟩
def F_X1_countLie (st : xs_S) (dial : Int32) : xs_S := (if ((xs_u (xs_u st 5 dial.toInt.toNat ((st 5 dial.toInt.toNat) + 1)) 6 dial.toInt.toNat ((st 6 dial.toInt.toNat) + 1)) 6 dial.toInt.toNat) < (st 1 1) then xs_u (xs_u st 5 dial.toInt.toNat ((st 5 dial.toInt.toNat) + 1)) 6 dial.toInt.toNat ((st 6 dial.toInt.toNat) + 1)
    else xs_u (xs_u (xs_u st 5 dial.toInt.toNat ((st 5 dial.toInt.toNat) + 1)) 6 dial.toInt.toNat ((st 6 dial.toInt.toNat) + 1)) 1 5 ((st 1 5) ||| (1 <<< (dial &&& 31))))
set_option maxRecDepth 20000 in
theorem c_X1_countLie {G : xs_G} {base : Nat} (d : Nat) (st : xs_S) (dial : Int32) (hd : 0 ≤ dial.toInt ∧ dial.toInt < 15) : xs_K (xc G) base (d + 0) M_X1_countLie [.ref 1, .int dial] st (fun v u => v = none ∧ u = F_X1_countLie st dial) := by
  refine xs_intro ok_X1_countLie [(0, .ref 1), (1, .int dial)] rfl rfl ?_
  refine xr_blk gd_X1_countLie 4 (c' := (6, [(0, .ref 1), (1, .int dial)], [.int dial, .ref 5, .int dial, .ref 5], st)) rfl ?_
  refine xr_iald gd_X1_countLie rfl rfl (dial.toInt.toNat) (xs_h1 (n := 15) hd) (xs_h2 (n := 15) hd) ?_
  refine xr_blk gd_X1_countLie 2 (c' := (9, [(0, .ref 1), (1, .int dial)], [.int ((st 5 dial.toInt.toNat) + 1), .int dial, .ref 5], st)) rfl ?_
  refine xr_iast gd_X1_countLie rfl rfl (dial.toInt.toNat) (xs_h1 (n := 15) hd) (xs_h2 (n := 15) hd) ?_
  refine xr_blk gd_X1_countLie 4 (c' := (16, [(0, .ref 1), (1, .int dial)], [.int dial, .ref 6, .int dial, .ref 6], xs_u st 5 dial.toInt.toNat ((st 5 dial.toInt.toNat) + 1))) rfl ?_
  refine xr_iald gd_X1_countLie rfl rfl (dial.toInt.toNat) (xs_h1 (n := 15) hd) (xs_h2 (n := 15) hd) ?_
  refine xr_blk gd_X1_countLie 2 (c' := (19, [(0, .ref 1), (1, .int dial)], [.int ((st 6 dial.toInt.toNat) + 1), .int dial, .ref 6], xs_u st 5 dial.toInt.toNat ((st 5 dial.toInt.toNat) + 1))) rfl ?_
  refine xr_iast gd_X1_countLie rfl rfl (dial.toInt.toNat) (xs_h1 (n := 15) hd) (xs_h2 (n := 15) hd) ?_
  refine xr_blk gd_X1_countLie 3 (c' := (25, [(0, .ref 1), (1, .int dial)], [.int dial, .ref 6], xs_u (xs_u st 5 dial.toInt.toNat ((st 5 dial.toInt.toNat) + 1)) 6 dial.toInt.toNat ((st 6 dial.toInt.toNat) + 1))) rfl ?_
  refine xr_iald gd_X1_countLie rfl rfl (dial.toInt.toNat) (xs_h1 (n := 15) hd) (xs_h2 (n := 15) hd) ?_
  refine xr_blk gd_X1_countLie 2 (c' := (30, [(0, .ref 1), (1, .int dial)], [.int (st 1 1), .int ((xs_u (xs_u st 5 dial.toInt.toNat ((st 5 dial.toInt.toNat) + 1)) 6 dial.toInt.toNat ((st 6 dial.toInt.toNat) + 1)) 6 dial.toInt.toNat)], xs_u (xs_u st 5 dial.toInt.toNat ((st 5 dial.toInt.toNat) + 1)) 6 dial.toInt.toNat ((st 6 dial.toInt.toNat) + 1))) rfl ?_
  refine xr_br gd_X1_countLie rfl rfl (fun h1 => ?_) (fun h1 => ?_)
  · exact xr_vret gd_X1_countLie rfl rfl ⟨rfl, by first | (rw [F_X1_countLie, if_pos h1]; done) | (rw [F_X1_countLie, if_pos h1]; rfl)⟩
  · refine xr_blk gd_X1_countLie 8 (c' := (45, [(0, .ref 1), (1, .int dial)], [], xs_u (xs_u (xs_u st 5 dial.toInt.toNat ((st 5 dial.toInt.toNat) + 1)) 6 dial.toInt.toNat ((st 6 dial.toInt.toNat) + 1)) 1 5 ((st 1 5) ||| (1 <<< (dial &&& 31))))) rfl ?_
    exact xr_vret gd_X1_countLie rfl rfl ⟨rfl, by first | (rw [F_X1_countLie, if_neg h1]; done) | (rw [F_X1_countLie, if_neg h1]; rfl)⟩
def lp_X1_judge_8 (hour : Int32) (honest : Int32) : Nat → Int32 → Int32 → xs_S → xs_S
  | 0, _, _, st => st
  | n + 1, x3, x4, st => (if 15 ≤ x4 then xs_u (xs_u st 1 6 ((st 1 6) + 1)) 1 7 hour
    else (if ((honest >>> (x4 &&& 31)) &&& 1) = 1 then lp_X1_judge_8 hour honest n x3 (x4 + 1) (xs_u st 6 x4.toInt.toNat 0)
      else (if ((x3 >>> (x4 &&& 31)) &&& 1) = 1 then lp_X1_judge_8 hour honest n x3 (x4 + 1) (F_X1_countLie st x4)
        else lp_X1_judge_8 hour honest n x3 (x4 + 1) st)))
set_option maxRecDepth 20000 in
theorem cl_X1_judge_8 {G : xs_G} {base : Nat} (d : Nat) (hour : Int32) (honest : Int32) : ∀ (n : Nat) (x3 : Int32) (x4 : Int32) (st : xs_S), xs_lo x4 15 n → xs_R (xc G) base (d + 1) M_X1_judge (8, [(0, .ref 1), (1, .int hour), (2, .int honest), (3, .int x3), (4, .int x4)], [], st) (xs_q (xc G) (fun v u => v = none ∧ u = lp_X1_judge_8 hour honest n x3 x4 st)) := by
  intro n
  induction n with
  | zero =>
    intro x3 x4 st hinv
    exact (xs_lo0 hinv).elim
  | succ n ih =>
    intro x3 x4 st hinv
    refine xr_blk gd_X1_judge 2 (c' := (12, [(0, .ref 1), (1, .int hour), (2, .int honest), (3, .int x3), (4, .int x4)], [.int 15, .int x4], st)) rfl ?_
    refine xr_br gd_X1_judge rfl rfl (fun h1 => ?_) (fun h1 => ?_)
    · refine xr_blk gd_X1_judge 9 (c' := (73, [(0, .ref 1), (1, .int hour), (2, .int honest), (3, .int x3), (4, .int x4)], [], xs_u (xs_u st 1 6 ((st 1 6) + 1)) 1 7 hour)) rfl ?_
      exact xr_vret gd_X1_judge rfl rfl ⟨rfl, by first | (rw [lp_X1_judge_8, if_pos h1]; done) | (rw [lp_X1_judge_8, if_pos h1]; rfl)⟩
    · refine xr_blk gd_X1_judge 6 (c' := (22, [(0, .ref 1), (1, .int hour), (2, .int honest), (3, .int x3), (4, .int x4)], [.int 1, .int ((honest >>> (x4 &&& 31)) &&& 1)], st)) rfl ?_
      refine xr_br gd_X1_judge rfl rfl (fun h2 => ?_) (fun h2 => ?_)
      · refine xr_blk gd_X1_judge 6 (c' := (43, [(0, .ref 1), (1, .int hour), (2, .int honest), (3, .int x3), (4, .int x4)], [.int 1, .int ((x3 >>> (x4 &&& 31)) &&& 1)], st)) rfl ?_
        refine xr_br gd_X1_judge rfl rfl (fun h3 => ?_) (fun h3 => ?_)
        · refine xr_blk gd_X1_judge 2 (c' := (8, [(0, .ref 1), (1, .int hour), (2, .int honest), (3, .int x3), (4, .int (x4 + 1))], [], st)) rfl ?_
          refine xs_cons (ih x3 (x4 + 1) st (xs_lo_up hinv h1)) (fun v u hq => ?_)
          rw [lp_X1_judge_8, if_neg h1, if_neg h2, if_neg h3]; exact hq
        · refine xr_blk gd_X1_judge 2 (c' := (49, [(0, .ref 1), (1, .int hour), (2, .int honest), (3, .int x3), (4, .int x4)], [.int x4, .ref 1], st)) rfl ?_
          refine xr_callV gd_X1_judge gd_X1_countLie k_X1_80 rfl (c_X1_countLie (d + 0) st x4 (xs_lo15 hinv h1)) (by omega) rfl rfl rfl rfl rfl ?_
          refine xs_fun ?_
          refine xr_blk gd_X1_judge 2 (c' := (8, [(0, .ref 1), (1, .int hour), (2, .int honest), (3, .int x3), (4, .int (x4 + 1))], [], (F_X1_countLie st x4))) rfl ?_
          refine xs_cons (ih x3 (x4 + 1) (F_X1_countLie st x4) (xs_lo_up hinv h1)) (fun v u hq => ?_)
          rw [lp_X1_judge_8, if_neg h1, if_neg h2, if_pos h3]; exact hq
      · refine xr_blk gd_X1_judge 4 (c' := (32, [(0, .ref 1), (1, .int hour), (2, .int honest), (3, .int x3), (4, .int x4)], [.int 0, .int x4, .ref 6], st)) rfl ?_
        refine xr_iast gd_X1_judge rfl rfl (x4.toInt.toNat) (xs_h1 (n := 15) (xs_lo15 hinv h1)) (xs_h2 (n := 15) (xs_lo15 hinv h1)) ?_
        refine xr_blk gd_X1_judge 3 (c' := (8, [(0, .ref 1), (1, .int hour), (2, .int honest), (3, .int x3), (4, .int (x4 + 1))], [], xs_u st 6 x4.toInt.toNat 0)) rfl ?_
        refine xs_cons (ih x3 (x4 + 1) (xs_u st 6 x4.toInt.toNat 0) (xs_lo_up hinv h1)) (fun v u hq => ?_)
        rw [lp_X1_judge_8, if_neg h1, if_pos h2]; exact hq
def F_X1_judge (st : xs_S) (hour : Int32) (honest : Int32) : xs_S := lp_X1_judge_8 hour honest 16 (F_X1_dialsWithSpans st) 0 st
set_option maxRecDepth 20000 in
theorem c_X1_judge {G : xs_G} {base : Nat} (d : Nat) (st : xs_S) (hour : Int32) (honest : Int32) : xs_K (xc G) base (d + 1) M_X1_judge [.ref 1, .int hour, .int honest] st (fun v u => v = none ∧ u = F_X1_judge st hour honest) := by
  refine xs_intro ok_X1_judge [(0, .ref 1), (1, .int hour), (2, .int honest)] rfl rfl ?_
  refine xr_blk gd_X1_judge 1 (c' := (1, [(0, .ref 1), (1, .int hour), (2, .int honest)], [.ref 1], st)) rfl ?_
  refine xr_callV gd_X1_judge gd_X1_dialsWithSpans k_X1_58 rfl (c_X1_dialsWithSpans (d + 0) st) (by omega) rfl rfl rfl rfl rfl ?_
  refine xs_fun ?_
  refine xr_blk gd_X1_judge 3 (c' := (8, [(0, .ref 1), (1, .int hour), (2, .int honest), (3, .int (F_X1_dialsWithSpans st)), (4, .int 0)], [], st)) rfl ?_
  refine xs_cons (cl_X1_judge_8 d hour honest 16 (F_X1_dialsWithSpans st) 0 st ⟨by decide, by decide, by decide⟩) (fun v u hq => ?_)
  rw [F_X1_judge]; exact hq
def F_X1_about (st : xs_S) (dial : Int32) (what : Int32) : Int32 := (if what.toInt = 0 then (if (F_X1_hasSpan st dial) = 0 then (-6)
      else ((F_X1_lowEnd st dial (st 1 2)) + 100000))
    else (if what.toInt = 1 then (if (F_X1_hasSpan st dial) = 0 then (-6)
        else ((F_X1_highEnd st dial (st 1 2)) + 100000))
      else (if what.toInt = 2 then (if (F_X1_hasReading st dial) = 0 then (-6)
          else (F_X1_ageAt st dial (st 1 2)))
        else (if what.toInt = 3 then (if (F_X1_hasReading st dial) = 0 then (-6)
            else st 3 dial.toInt.toNat)
          else (if what.toInt = 4 then st 5 dial.toInt.toNat
            else (if what.toInt = 5 then st 6 dial.toInt.toNat
              else (if what.toInt = 6 then (if (F_X1_isStruck st dial) = 0 then 0
                  else 1)
                else (-2))))))))
set_option maxRecDepth 20000 in
theorem c_X1_about {G : xs_G} {base : Nat} (d : Nat) (st : xs_S) (dial : Int32) (what : Int32) (hd : 0 ≤ dial.toInt ∧ dial.toInt < 15) : xs_K (xc G) base (d + 3) M_X1_about [.ref 1, .int dial, .int what] st (fun v u => v = some (.int (F_X1_about st dial what)) ∧ u = st) := by
  refine xs_intro ok_X1_about [(0, .ref 1), (1, .int dial), (2, .int what)] rfl rfl ?_
  refine xr_blk gd_X1_about 1 (c' := (1, [(0, .ref 1), (1, .int dial), (2, .int what)], [.int what], st)) rfl ?_
  by_cases h1 : what.toInt = 0
  · refine xr_swi (tgt := 44) gd_X1_about rfl 0 (by omega) (by omega) rfl (by decide) ?_
    refine xr_blk gd_X1_about 2 (c' := (46, [(0, .ref 1), (1, .int dial), (2, .int what)], [.int dial, .ref 1], st)) rfl ?_
    refine xr_callV gd_X1_about gd_X1_hasSpan k_X1_84 rfl (c_X1_hasSpan (d + 1) st dial) (by omega) rfl rfl rfl rfl rfl ?_
    refine xs_fun ?_
    refine xr_br gd_X1_about rfl rfl (fun h2 => ?_) (fun h2 => ?_)
    · refine xr_blk gd_X1_about 1 (c' := (69, [(0, .ref 1), (1, .int dial), (2, .int what)], [.int (-6)], st)) rfl ?_
      exact xr_iret gd_X1_about rfl rfl ⟨by first | (rw [F_X1_about, if_pos h1, if_pos h2]; done) | (rw [F_X1_about, if_pos h1, if_pos h2]; rfl), rfl⟩
    · refine xr_blk gd_X1_about 4 (c' := (58, [(0, .ref 1), (1, .int dial), (2, .int what)], [.int (st 1 2), .int dial, .ref 1], st)) rfl ?_
      refine xr_callV gd_X1_about gd_X1_lowEnd k_X1_87 rfl (c_X1_lowEnd (d + 0) st dial (st 1 2) hd) (by omega) rfl rfl rfl rfl rfl ?_
      refine xs_fun ?_
      refine xr_blk gd_X1_about 3 (c' := (69, [(0, .ref 1), (1, .int dial), (2, .int what)], [.int ((F_X1_lowEnd st dial (st 1 2)) + 100000)], st)) rfl ?_
      exact xr_iret gd_X1_about rfl rfl ⟨by first | (rw [F_X1_about, if_pos h1, if_neg h2]; done) | (rw [F_X1_about, if_pos h1, if_neg h2]; rfl), rfl⟩
  · by_cases h3 : what.toInt = 1
    · refine xr_swi (tgt := 70) gd_X1_about rfl 1 (by omega) (by omega) rfl (by decide) ?_
      refine xr_blk gd_X1_about 2 (c' := (72, [(0, .ref 1), (1, .int dial), (2, .int what)], [.int dial, .ref 1], st)) rfl ?_
      refine xr_callV gd_X1_about gd_X1_hasSpan k_X1_84 rfl (c_X1_hasSpan (d + 1) st dial) (by omega) rfl rfl rfl rfl rfl ?_
      refine xs_fun ?_
      refine xr_br gd_X1_about rfl rfl (fun h4 => ?_) (fun h4 => ?_)
      · refine xr_blk gd_X1_about 1 (c' := (95, [(0, .ref 1), (1, .int dial), (2, .int what)], [.int (-6)], st)) rfl ?_
        exact xr_iret gd_X1_about rfl rfl ⟨by first | (rw [F_X1_about, if_neg h1, if_pos h3, if_pos h4]; done) | (rw [F_X1_about, if_neg h1, if_pos h3, if_pos h4]; rfl), rfl⟩
      · refine xr_blk gd_X1_about 4 (c' := (84, [(0, .ref 1), (1, .int dial), (2, .int what)], [.int (st 1 2), .int dial, .ref 1], st)) rfl ?_
        refine xr_callV gd_X1_about gd_X1_highEnd k_X1_91 rfl (c_X1_highEnd (d + 0) st dial (st 1 2) hd) (by omega) rfl rfl rfl rfl rfl ?_
        refine xs_fun ?_
        refine xr_blk gd_X1_about 3 (c' := (95, [(0, .ref 1), (1, .int dial), (2, .int what)], [.int ((F_X1_highEnd st dial (st 1 2)) + 100000)], st)) rfl ?_
        exact xr_iret gd_X1_about rfl rfl ⟨by first | (rw [F_X1_about, if_neg h1, if_pos h3, if_neg h4]; done) | (rw [F_X1_about, if_neg h1, if_pos h3, if_neg h4]; rfl), rfl⟩
    · by_cases h5 : what.toInt = 2
      · refine xr_swi (tgt := 96) gd_X1_about rfl 2 (by omega) (by omega) rfl (by decide) ?_
        refine xr_blk gd_X1_about 2 (c' := (98, [(0, .ref 1), (1, .int dial), (2, .int what)], [.int dial, .ref 1], st)) rfl ?_
        refine xr_callV gd_X1_about gd_X1_hasReading k_X1_76 rfl (c_X1_hasReading (d + 2) st dial) (by omega) rfl rfl rfl rfl rfl ?_
        refine xs_fun ?_
        refine xr_br gd_X1_about rfl rfl (fun h6 => ?_) (fun h6 => ?_)
        · refine xr_blk gd_X1_about 1 (c' := (118, [(0, .ref 1), (1, .int dial), (2, .int what)], [.int (-6)], st)) rfl ?_
          exact xr_iret gd_X1_about rfl rfl ⟨by first | (rw [F_X1_about, if_neg h1, if_neg h3, if_pos h5, if_pos h6]; done) | (rw [F_X1_about, if_neg h1, if_neg h3, if_pos h5, if_pos h6]; rfl), rfl⟩
        · refine xr_blk gd_X1_about 4 (c' := (110, [(0, .ref 1), (1, .int dial), (2, .int what)], [.int (st 1 2), .int dial, .ref 1], st)) rfl ?_
          refine xr_callV gd_X1_about gd_X1_ageAt k_X1_62 rfl (c_X1_ageAt (d + 2) st dial (st 1 2) hd) (by omega) rfl rfl rfl rfl rfl ?_
          refine xs_fun ?_
          refine xr_blk gd_X1_about 1 (c' := (118, [(0, .ref 1), (1, .int dial), (2, .int what)], [.int (F_X1_ageAt st dial (st 1 2))], st)) rfl ?_
          exact xr_iret gd_X1_about rfl rfl ⟨by first | (rw [F_X1_about, if_neg h1, if_neg h3, if_pos h5, if_neg h6]; done) | (rw [F_X1_about, if_neg h1, if_neg h3, if_pos h5, if_neg h6]; rfl), rfl⟩
      · by_cases h7 : what.toInt = 3
        · refine xr_swi (tgt := 119) gd_X1_about rfl 3 (by omega) (by omega) rfl (by decide) ?_
          refine xr_blk gd_X1_about 2 (c' := (121, [(0, .ref 1), (1, .int dial), (2, .int what)], [.int dial, .ref 1], st)) rfl ?_
          refine xr_callV gd_X1_about gd_X1_hasReading k_X1_76 rfl (c_X1_hasReading (d + 2) st dial) (by omega) rfl rfl rfl rfl rfl ?_
          refine xs_fun ?_
          refine xr_br gd_X1_about rfl rfl (fun h8 => ?_) (fun h8 => ?_)
          · refine xr_blk gd_X1_about 1 (c' := (138, [(0, .ref 1), (1, .int dial), (2, .int what)], [.int (-6)], st)) rfl ?_
            exact xr_iret gd_X1_about rfl rfl ⟨by first | (rw [F_X1_about, if_neg h1, if_neg h3, if_neg h5, if_pos h7, if_pos h8]; done) | (rw [F_X1_about, if_neg h1, if_neg h3, if_neg h5, if_pos h7, if_pos h8]; rfl), rfl⟩
          · refine xr_blk gd_X1_about 3 (c' := (132, [(0, .ref 1), (1, .int dial), (2, .int what)], [.int dial, .ref 3], st)) rfl ?_
            refine xr_iald gd_X1_about rfl rfl (dial.toInt.toNat) (xs_h1 (n := 15) hd) (xs_h2 (n := 15) hd) ?_
            refine xr_blk gd_X1_about 1 (c' := (138, [(0, .ref 1), (1, .int dial), (2, .int what)], [.int (st 3 dial.toInt.toNat)], st)) rfl ?_
            exact xr_iret gd_X1_about rfl rfl ⟨by first | (rw [F_X1_about, if_neg h1, if_neg h3, if_neg h5, if_pos h7, if_neg h8]; done) | (rw [F_X1_about, if_neg h1, if_neg h3, if_neg h5, if_pos h7, if_neg h8]; rfl), rfl⟩
        · by_cases h9 : what.toInt = 4
          · refine xr_swi (tgt := 139) gd_X1_about rfl 4 (by omega) (by omega) rfl (by decide) ?_
            refine xr_blk gd_X1_about 3 (c' := (144, [(0, .ref 1), (1, .int dial), (2, .int what)], [.int dial, .ref 5], st)) rfl ?_
            refine xr_iald gd_X1_about rfl rfl (dial.toInt.toNat) (xs_h1 (n := 15) hd) (xs_h2 (n := 15) hd) ?_
            exact xr_iret gd_X1_about rfl rfl ⟨by first | (rw [F_X1_about, if_neg h1, if_neg h3, if_neg h5, if_neg h7, if_pos h9]; done) | (rw [F_X1_about, if_neg h1, if_neg h3, if_neg h5, if_neg h7, if_pos h9]; rfl), rfl⟩
          · by_cases h10 : what.toInt = 5
            · refine xr_swi (tgt := 146) gd_X1_about rfl 5 (by omega) (by omega) rfl (by decide) ?_
              refine xr_blk gd_X1_about 3 (c' := (151, [(0, .ref 1), (1, .int dial), (2, .int what)], [.int dial, .ref 6], st)) rfl ?_
              refine xr_iald gd_X1_about rfl rfl (dial.toInt.toNat) (xs_h1 (n := 15) hd) (xs_h2 (n := 15) hd) ?_
              exact xr_iret gd_X1_about rfl rfl ⟨by first | (rw [F_X1_about, if_neg h1, if_neg h3, if_neg h5, if_neg h7, if_neg h9, if_pos h10]; done) | (rw [F_X1_about, if_neg h1, if_neg h3, if_neg h5, if_neg h7, if_neg h9, if_pos h10]; rfl), rfl⟩
            · by_cases h11 : what.toInt = 6
              · refine xr_swi (tgt := 153) gd_X1_about rfl 6 (by omega) (by omega) rfl (by decide) ?_
                refine xr_blk gd_X1_about 2 (c' := (155, [(0, .ref 1), (1, .int dial), (2, .int what)], [.int dial, .ref 1], st)) rfl ?_
                refine xr_callV gd_X1_about gd_X1_isStruck k_X1_73 rfl (c_X1_isStruck (d + 2) st dial) (by omega) rfl rfl rfl rfl rfl ?_
                refine xs_fun ?_
                refine xr_br gd_X1_about rfl rfl (fun h12 => ?_) (fun h12 => ?_)
                · refine xr_blk gd_X1_about 1 (c' := (166, [(0, .ref 1), (1, .int dial), (2, .int what)], [.int 0], st)) rfl ?_
                  exact xr_iret gd_X1_about rfl rfl ⟨by first | (rw [F_X1_about, if_neg h1, if_neg h3, if_neg h5, if_neg h7, if_neg h9, if_neg h10, if_pos h11, if_pos h12]; done) | (rw [F_X1_about, if_neg h1, if_neg h3, if_neg h5, if_neg h7, if_neg h9, if_neg h10, if_pos h11, if_pos h12]; rfl), rfl⟩
                · refine xr_blk gd_X1_about 2 (c' := (166, [(0, .ref 1), (1, .int dial), (2, .int what)], [.int 1], st)) rfl ?_
                  exact xr_iret gd_X1_about rfl rfl ⟨by first | (rw [F_X1_about, if_neg h1, if_neg h3, if_neg h5, if_neg h7, if_neg h9, if_neg h10, if_pos h11, if_neg h12]; done) | (rw [F_X1_about, if_neg h1, if_neg h3, if_neg h5, if_neg h7, if_neg h9, if_neg h10, if_pos h11, if_neg h12]; rfl), rfl⟩
              · refine xr_swo (tgt := 167) gd_X1_about rfl (by omega) (by decide) ?_
                refine xr_blk gd_X1_about 1 (c' := (169, [(0, .ref 1), (1, .int dial), (2, .int what)], [.int (-2)], st)) rfl ?_
                exact xr_iret gd_X1_about rfl rfl ⟨by first | (rw [F_X1_about, if_neg h1, if_neg h3, if_neg h5, if_neg h7, if_neg h9, if_neg h10, if_neg h11]; done) | (rw [F_X1_about, if_neg h1, if_neg h3, if_neg h5, if_neg h7, if_neg h9, if_neg h10, if_neg h11]; rfl), rfl⟩
def F_X1_number (st : xs_S) (what : Int32) : Int32 := (if what.toInt = 0 then st 1 2
    else (if what.toInt = 1 then st 1 3
      else (if what.toInt = 2 then (F_X1_dialsWithSpans st)
        else (if what.toInt = 3 then st 1 5
          else (if what.toInt = 4 then st 1 6
            else (if what.toInt = 5 then (if (st 1 6) = 0 then (-6)
                else ((st 1 7) + 100000))
              else (if what.toInt = 6 then st 1 0
                else (if what.toInt = 7 then st 1 1
                  else (-2)))))))))
set_option maxRecDepth 20000 in
theorem c_X1_number {G : xs_G} {base : Nat} (d : Nat) (st : xs_S) (what : Int32) : xs_K (xc G) base (d + 1) M_X1_number [.ref 1, .int what] st (fun v u => v = some (.int (F_X1_number st what)) ∧ u = st) := by
  refine xs_intro ok_X1_number [(0, .ref 1), (1, .int what)] rfl rfl ?_
  refine xr_blk gd_X1_number 1 (c' := (1, [(0, .ref 1), (1, .int what)], [.int what], st)) rfl ?_
  by_cases h1 : what.toInt = 0
  · refine xr_swi (tgt := 48) gd_X1_number rfl 0 (by omega) (by omega) rfl (by decide) ?_
    refine xr_blk gd_X1_number 2 (c' := (52, [(0, .ref 1), (1, .int what)], [.int (st 1 2)], st)) rfl ?_
    exact xr_iret gd_X1_number rfl rfl ⟨by first | (rw [F_X1_number, if_pos h1]; done) | (rw [F_X1_number, if_pos h1]; rfl), rfl⟩
  · by_cases h2 : what.toInt = 1
    · refine xr_swi (tgt := 53) gd_X1_number rfl 1 (by omega) (by omega) rfl (by decide) ?_
      refine xr_blk gd_X1_number 2 (c' := (57, [(0, .ref 1), (1, .int what)], [.int (st 1 3)], st)) rfl ?_
      exact xr_iret gd_X1_number rfl rfl ⟨by first | (rw [F_X1_number, if_neg h1, if_pos h2]; done) | (rw [F_X1_number, if_neg h1, if_pos h2]; rfl), rfl⟩
    · by_cases h3 : what.toInt = 2
      · refine xr_swi (tgt := 58) gd_X1_number rfl 2 (by omega) (by omega) rfl (by decide) ?_
        refine xr_blk gd_X1_number 1 (c' := (59, [(0, .ref 1), (1, .int what)], [.ref 1], st)) rfl ?_
        refine xr_callV gd_X1_number gd_X1_dialsWithSpans k_X1_58 rfl (c_X1_dialsWithSpans (d + 0) st) (by omega) rfl rfl rfl rfl rfl ?_
        refine xs_fun ?_
        exact xr_iret gd_X1_number rfl rfl ⟨by first | (rw [F_X1_number, if_neg h1, if_neg h2, if_pos h3]; done) | (rw [F_X1_number, if_neg h1, if_neg h2, if_pos h3]; rfl), rfl⟩
      · by_cases h4 : what.toInt = 3
        · refine xr_swi (tgt := 63) gd_X1_number rfl 3 (by omega) (by omega) rfl (by decide) ?_
          refine xr_blk gd_X1_number 2 (c' := (67, [(0, .ref 1), (1, .int what)], [.int (st 1 5)], st)) rfl ?_
          exact xr_iret gd_X1_number rfl rfl ⟨by first | (rw [F_X1_number, if_neg h1, if_neg h2, if_neg h3, if_pos h4]; done) | (rw [F_X1_number, if_neg h1, if_neg h2, if_neg h3, if_pos h4]; rfl), rfl⟩
        · by_cases h5 : what.toInt = 4
          · refine xr_swi (tgt := 68) gd_X1_number rfl 4 (by omega) (by omega) rfl (by decide) ?_
            refine xr_blk gd_X1_number 2 (c' := (72, [(0, .ref 1), (1, .int what)], [.int (st 1 6)], st)) rfl ?_
            exact xr_iret gd_X1_number rfl rfl ⟨by first | (rw [F_X1_number, if_neg h1, if_neg h2, if_neg h3, if_neg h4, if_pos h5]; done) | (rw [F_X1_number, if_neg h1, if_neg h2, if_neg h3, if_neg h4, if_pos h5]; rfl), rfl⟩
          · by_cases h6 : what.toInt = 5
            · refine xr_swi (tgt := 73) gd_X1_number rfl 5 (by omega) (by omega) rfl (by decide) ?_
              refine xr_blk gd_X1_number 2 (c' := (77, [(0, .ref 1), (1, .int what)], [.int (st 1 6)], st)) rfl ?_
              refine xr_br gd_X1_number rfl rfl (fun h7 => ?_) (fun h7 => ?_)
              · refine xr_blk gd_X1_number 4 (c' := (92, [(0, .ref 1), (1, .int what)], [.int ((st 1 7) + 100000)], st)) rfl ?_
                exact xr_iret gd_X1_number rfl rfl ⟨by first | (rw [F_X1_number, if_neg h1, if_neg h2, if_neg h3, if_neg h4, if_neg h5, if_pos h6, if_neg h7]; done) | (rw [F_X1_number, if_neg h1, if_neg h2, if_neg h3, if_neg h4, if_neg h5, if_pos h6, if_neg h7]; rfl), rfl⟩
              · refine xr_blk gd_X1_number 2 (c' := (92, [(0, .ref 1), (1, .int what)], [.int (-6)], st)) rfl ?_
                exact xr_iret gd_X1_number rfl rfl ⟨by first | (rw [F_X1_number, if_neg h1, if_neg h2, if_neg h3, if_neg h4, if_neg h5, if_pos h6, if_pos h7]; done) | (rw [F_X1_number, if_neg h1, if_neg h2, if_neg h3, if_neg h4, if_neg h5, if_pos h6, if_pos h7]; rfl), rfl⟩
            · by_cases h8 : what.toInt = 6
              · refine xr_swi (tgt := 93) gd_X1_number rfl 6 (by omega) (by omega) rfl (by decide) ?_
                refine xr_blk gd_X1_number 2 (c' := (97, [(0, .ref 1), (1, .int what)], [.int (st 1 0)], st)) rfl ?_
                exact xr_iret gd_X1_number rfl rfl ⟨by first | (rw [F_X1_number, if_neg h1, if_neg h2, if_neg h3, if_neg h4, if_neg h5, if_neg h6, if_pos h8]; done) | (rw [F_X1_number, if_neg h1, if_neg h2, if_neg h3, if_neg h4, if_neg h5, if_neg h6, if_pos h8]; rfl), rfl⟩
              · by_cases h9 : what.toInt = 7
                · refine xr_swi (tgt := 98) gd_X1_number rfl 7 (by omega) (by omega) rfl (by decide) ?_
                  refine xr_blk gd_X1_number 2 (c' := (102, [(0, .ref 1), (1, .int what)], [.int (st 1 1)], st)) rfl ?_
                  exact xr_iret gd_X1_number rfl rfl ⟨by first | (rw [F_X1_number, if_neg h1, if_neg h2, if_neg h3, if_neg h4, if_neg h5, if_neg h6, if_neg h8, if_pos h9]; done) | (rw [F_X1_number, if_neg h1, if_neg h2, if_neg h3, if_neg h4, if_neg h5, if_neg h6, if_neg h8, if_pos h9]; rfl), rfl⟩
                · refine xr_swo (tgt := 103) gd_X1_number rfl (by omega) (by decide) ?_
                  refine xr_blk gd_X1_number 1 (c' := (105, [(0, .ref 1), (1, .int what)], [.int (-2)], st)) rfl ?_
                  exact xr_iret gd_X1_number rfl rfl ⟨by first | (rw [F_X1_number, if_neg h1, if_neg h2, if_neg h3, if_neg h4, if_neg h5, if_neg h6, if_neg h8, if_neg h9]; done) | (rw [F_X1_number, if_neg h1, if_neg h2, if_neg h3, if_neg h4, if_neg h5, if_neg h6, if_neg h8, if_neg h9]; rfl), rfl⟩
