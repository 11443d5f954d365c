def F_X1_now (st : xs_S) : Int32 := st 1 2
set_option maxRecDepth 20000 in
theorem c_X1_now {G : xs_G} {base : Nat} (d : Nat) (st : xs_S) : xs_K G base (d + 0) M_X1_now [.ref 1] st (fun v u => v = some (.int (F_X1_now st)) ∧ u = st) := by
  refine xs_intro ok_X1_now [(0, .ref 1)] rfl rfl ?_
  refine xr_blk gd_X1_now 2 (c' := (4, [(0, .ref 1)], [.int (st 1 2)], st)) rfl ?_
  exact xr_iret gd_X1_now rfl rfl ⟨by rw [F_X1_now], rfl⟩
def F_X1_dials (st : xs_S) : Int32 := st 1 3
set_option maxRecDepth 20000 in
theorem c_X1_dials {G : xs_G} {base : Nat} (d : Nat) (st : xs_S) : xs_K G base (d + 0) M_X1_dials [.ref 1] st (fun v u => v = some (.int (F_X1_dials st)) ∧ u = st) := by
  refine xs_intro ok_X1_dials [(0, .ref 1)] rfl rfl ?_
  refine xr_blk gd_X1_dials 2 (c' := (4, [(0, .ref 1)], [.int (st 1 3)], st)) rfl ?_
  exact xr_iret gd_X1_dials rfl rfl ⟨by rw [F_X1_dials], rfl⟩
def F_X1_hasDial (st : xs_S) (dial : Int32) : Int32 := (if dial < 0 then 0
    else (if (st 1 3) ≤ dial then 0
      else 1))
set_option maxRecDepth 20000 in
theorem c_X1_hasDial {G : xs_G} {base : Nat} (d : Nat) (st : xs_S) (dial : Int32) : xs_K G base (d + 0) M_X1_hasDial [.ref 1, .int dial] st (fun v u => v = some (.int (F_X1_hasDial st dial)) ∧ u = st) := by
  refine xs_intro ok_X1_hasDial [(0, .ref 1), (1, .int dial)] rfl rfl ?_
  refine xr_blk gd_X1_hasDial 1 (c' := (1, [(0, .ref 1), (1, .int dial)], [.int dial], st)) rfl ?_
  refine xr_br gd_X1_hasDial rfl rfl (fun h1 => ?_) (fun h1 => ?_)
  · refine xr_blk gd_X1_hasDial 1 (c' := (17, [(0, .ref 1), (1, .int dial)], [.int 0], st)) rfl ?_
    exact xr_zret gd_X1_hasDial rfl rfl rfl ⟨by rw [F_X1_hasDial, if_pos h1], rfl⟩
  · refine xr_blk gd_X1_hasDial 3 (c' := (9, [(0, .ref 1), (1, .int dial)], [.int (st 1 3), .int dial], st)) rfl ?_
    refine xr_br gd_X1_hasDial rfl rfl (fun h2 => ?_) (fun h2 => ?_)
    · refine xr_blk gd_X1_hasDial 1 (c' := (17, [(0, .ref 1), (1, .int dial)], [.int 0], st)) rfl ?_
      exact xr_zret gd_X1_hasDial rfl rfl rfl ⟨by rw [F_X1_hasDial, if_neg h1, if_pos h2], rfl⟩
    · refine xr_blk gd_X1_hasDial 2 (c' := (17, [(0, .ref 1), (1, .int dial)], [.int 1], st)) rfl ?_
      exact xr_zret gd_X1_hasDial rfl rfl rfl ⟨by rw [F_X1_hasDial, if_neg h1, if_neg h2], rfl⟩
def F_X1_hasReading (st : xs_S) (dial : Int32) : Int32 := (if (((st 1 4) >>> (dial &&& 31)) &&& 1) = 1 then 1
    else 0)
set_option maxRecDepth 20000 in
theorem c_X1_hasReading {G : xs_G} {base : Nat} (d : Nat) (st : xs_S) (dial : Int32) : xs_K G base (d + 0) M_X1_hasReading [.ref 1, .int dial] st (fun v u => v = some (.int (F_X1_hasReading st dial)) ∧ u = st) := by
  refine xs_intro ok_X1_hasReading [(0, .ref 1), (1, .int dial)] rfl rfl ?_
  refine xr_blk gd_X1_hasReading 7 (c' := (9, [(0, .ref 1), (1, .int dial)], [.int 1, .int (((st 1 4) >>> (dial &&& 31)) &&& 1)], st)) rfl ?_
  refine xr_br gd_X1_hasReading rfl rfl (fun h1 => ?_) (fun h1 => ?_)
  · refine xr_blk gd_X1_hasReading 1 (c' := (17, [(0, .ref 1), (1, .int dial)], [.int 0], st)) rfl ?_
    exact xr_zret gd_X1_hasReading rfl rfl rfl ⟨by rw [F_X1_hasReading, if_neg h1], rfl⟩
  · refine xr_blk gd_X1_hasReading 2 (c' := (17, [(0, .ref 1), (1, .int dial)], [.int 1], st)) rfl ?_
    exact xr_zret gd_X1_hasReading rfl rfl rfl ⟨by rw [F_X1_hasReading, if_pos h1], rfl⟩
def F_X1_isStruck (st : xs_S) (dial : Int32) : Int32 := (if (((st 1 5) >>> (dial &&& 31)) &&& 1) = 1 then 1
    else 0)
set_option maxRecDepth 20000 in
theorem c_X1_isStruck {G : xs_G} {base : Nat} (d : Nat) (st : xs_S) (dial : Int32) : xs_K G base (d + 0) M_X1_isStruck [.ref 1, .int dial] st (fun v u => v = some (.int (F_X1_isStruck st dial)) ∧ u = st) := by
  refine xs_intro ok_X1_isStruck [(0, .ref 1), (1, .int dial)] rfl rfl ?_
  refine xr_blk gd_X1_isStruck 7 (c' := (9, [(0, .ref 1), (1, .int dial)], [.int 1, .int (((st 1 5) >>> (dial &&& 31)) &&& 1)], st)) rfl ?_
  refine xr_br gd_X1_isStruck rfl rfl (fun h1 => ?_) (fun h1 => ?_)
  · refine xr_blk gd_X1_isStruck 1 (c' := (17, [(0, .ref 1), (1, .int dial)], [.int 0], st)) rfl ?_
    exact xr_zret gd_X1_isStruck rfl rfl rfl ⟨by rw [F_X1_isStruck, if_neg h1], rfl⟩
  · refine xr_blk gd_X1_isStruck 2 (c' := (17, [(0, .ref 1), (1, .int dial)], [.int 1], st)) rfl ?_
    exact xr_zret gd_X1_isStruck rfl rfl rfl ⟨by rw [F_X1_isStruck, if_pos h1], rfl⟩
def F_X1_dialsWithSpans (st : xs_S) : Int32 := ((st 1 4) &&& ((st 1 5) ^^^ (-1)))
set_option maxRecDepth 20000 in
theorem c_X1_dialsWithSpans {G : xs_G} {base : Nat} (d : Nat) (st : xs_S) : xs_K G base (d + 0) M_X1_dialsWithSpans [.ref 1] st (fun v u => v = some (.int (F_X1_dialsWithSpans st)) ∧ u = st) := by
  refine xs_intro ok_X1_dialsWithSpans [(0, .ref 1)] rfl rfl ?_
  refine xr_blk gd_X1_dialsWithSpans 7 (c' := (11, [(0, .ref 1)], [.int ((st 1 4) &&& ((st 1 5) ^^^ (-1)))], st)) rfl ?_
  exact xr_iret gd_X1_dialsWithSpans rfl rfl ⟨by rw [F_X1_dialsWithSpans], rfl⟩
def F_X1_hasSpan (st : xs_S) (dial : Int32) : Int32 := (if (((F_X1_dialsWithSpans st) >>> (dial &&& 31)) &&& 1) = 1 then 1
    else 0)
set_option maxRecDepth 20000 in
theorem c_X1_hasSpan {G : xs_G} {base : Nat} (d : Nat) (st : xs_S) (dial : Int32) : xs_K G base (d + 1) M_X1_hasSpan [.ref 1, .int dial] st (fun v u => v = some (.int (F_X1_hasSpan st dial)) ∧ u = st) := by
  refine xs_intro ok_X1_hasSpan [(0, .ref 1), (1, .int dial)] rfl rfl ?_
  refine xr_blk gd_X1_hasSpan 1 (c' := (1, [(0, .ref 1), (1, .int dial)], [.ref 1], st)) rfl ?_
  refine xr_callV gd_X1_hasSpan gd_X1_dialsWithSpans k_X1_58 rfl (c_X1_dialsWithSpans (d + 0) st) (by omega) rfl rfl rfl rfl rfl ?_
  refine xs_fun ?_
  refine xr_blk gd_X1_hasSpan 5 (c' := (9, [(0, .ref 1), (1, .int dial)], [.int 1, .int (((F_X1_dialsWithSpans st) >>> (dial &&& 31)) &&& 1)], st)) rfl ?_
  refine xr_br gd_X1_hasSpan rfl rfl (fun h1 => ?_) (fun h1 => ?_)
  · refine xr_blk gd_X1_hasSpan 1 (c' := (17, [(0, .ref 1), (1, .int dial)], [.int 0], st)) rfl ?_
    exact xr_zret gd_X1_hasSpan rfl rfl rfl ⟨by rw [F_X1_hasSpan, if_neg h1], rfl⟩
  · refine xr_blk gd_X1_hasSpan 2 (c' := (17, [(0, .ref 1), (1, .int dial)], [.int 1], st)) rfl ?_
    exact xr_zret gd_X1_hasSpan rfl rfl rfl ⟨by rw [F_X1_hasSpan, if_pos h1], rfl⟩
def F_X1_ageAt (st : xs_S) (dial : Int32) (time : Int32) : Int32 := (time - (st 4 dial.toInt.toNat))
set_option maxRecDepth 20000 in
theorem c_X1_ageAt {G : xs_G} {base : Nat} (d : Nat) (st : xs_S) (dial : Int32) (time : Int32) (hd : 0 ≤ dial.toInt ∧ dial.toInt < 15) : xs_K G base (d + 0) M_X1_ageAt [.ref 1, .int dial, .int time] st (fun v u => v = some (.int (F_X1_ageAt st dial time)) ∧ u = st) := by
  refine xs_intro ok_X1_ageAt [(0, .ref 1), (1, .int dial), (2, .int time)] rfl rfl ?_
  refine xr_blk gd_X1_ageAt 4 (c' := (6, [(0, .ref 1), (1, .int dial), (2, .int time)], [.int dial, .ref 4, .int time], st)) rfl ?_
  refine xr_iald gd_X1_ageAt rfl rfl (dial.toInt.toNat) (xs_h1 (n := 15) hd) (xs_h2 (n := 15) hd) ?_
  refine xr_blk gd_X1_ageAt 1 (c' := (8, [(0, .ref 1), (1, .int dial), (2, .int time)], [.int (time - (st 4 dial.toInt.toNat))], st)) rfl ?_
  exact xr_iret gd_X1_ageAt rfl rfl ⟨by rw [F_X1_ageAt], rfl⟩
def F_X1_reachAt (st : xs_S) (dial : Int32) (time : Int32) : Int32 := ((st 3 dial.toInt.toNat) + ((st 1 0) * ((F_X1_ageAt st dial time) / 60)))
set_option maxRecDepth 20000 in
theorem c_X1_reachAt {G : xs_G} {base : Nat} (d : Nat) (st : xs_S) (dial : Int32) (time : Int32) (hd : 0 ≤ dial.toInt ∧ dial.toInt < 15) : xs_K G base (d + 1) M_X1_reachAt [.ref 1, .int dial, .int time] st (fun v u => v = some (.int (F_X1_reachAt st dial time)) ∧ u = st) := by
  refine xs_intro ok_X1_reachAt [(0, .ref 1), (1, .int dial), (2, .int time)] rfl rfl ?_
  refine xr_blk gd_X1_reachAt 3 (c' := (5, [(0, .ref 1), (1, .int dial), (2, .int time)], [.int dial, .ref 3], st)) rfl ?_
  refine xr_iald gd_X1_reachAt rfl rfl (dial.toInt.toNat) (xs_h1 (n := 15) (by omega)) (xs_h2 (n := 15) (by omega)) ?_
  refine xr_blk gd_X1_reachAt 5 (c' := (13, [(0, .ref 1), (1, .int dial), (2, .int time)], [.int time, .int dial, .ref 1, .int (st 1 0), .int (st 3 dial.toInt.toNat)], st)) rfl ?_
  refine xr_callV gd_X1_reachAt gd_X1_ageAt k_X1_62 rfl (c_X1_ageAt (d + 0) st dial time hd) (by omega) rfl rfl rfl rfl rfl ?_
  refine xs_fun ?_
  refine xr_blk gd_X1_reachAt 1 (c' := (18, [(0, .ref 1), (1, .int dial), (2, .int time)], [.int 60, .int (F_X1_ageAt st dial time), .int (st 1 0), .int (st 3 dial.toInt.toNat)], st)) rfl ?_
  refine xr_idiv gd_X1_reachAt.1 rfl (by decide) ?_
  refine xr_blk gd_X1_reachAt 2 (c' := (21, [(0, .ref 1), (1, .int dial), (2, .int time)], [.int ((st 3 dial.toInt.toNat) + ((st 1 0) * ((F_X1_ageAt st dial time) / 60)))], st)) rfl ?_
  exact xr_iret gd_X1_reachAt rfl rfl ⟨by rw [F_X1_reachAt], rfl⟩
def F_X1_lowEnd (st : xs_S) (dial : Int32) (time : Int32) : Int32 := (((st 2 dial.toInt.toNat) + (F_X1_ageAt st dial time)) - (F_X1_reachAt st dial time))
set_option maxRecDepth 20000 in
theorem c_X1_lowEnd {G : xs_G} {base : Nat} (d : Nat) (st : xs_S) (dial : Int32) (time : Int32) (hd : 0 ≤ dial.toInt ∧ dial.toInt < 15) : xs_K G base (d + 2) M_X1_lowEnd [.ref 1, .int dial, .int time] st (fun v u => v = some (.int (F_X1_lowEnd st dial time)) ∧ u = st) := by
  refine xs_intro ok_X1_lowEnd [(0, .ref 1), (1, .int dial), (2, .int time)] rfl rfl ?_
  refine xr_blk gd_X1_lowEnd 3 (c' := (5, [(0, .ref 1), (1, .int dial), (2, .int time)], [.int dial, .ref 2], st)) rfl ?_
  refine xr_iald gd_X1_lowEnd rfl rfl (dial.toInt.toNat) (xs_h1 (n := 15) (by omega)) (xs_h2 (n := 15) (by omega)) ?_
  refine xr_blk gd_X1_lowEnd 3 (c' := (9, [(0, .ref 1), (1, .int dial), (2, .int time)], [.int time, .int dial, .ref 1, .int (st 2 dial.toInt.toNat)], st)) rfl ?_
  refine xr_callV gd_X1_lowEnd gd_X1_ageAt k_X1_62 rfl (c_X1_ageAt (d + 1) st dial time hd) (by omega) rfl rfl rfl rfl rfl ?_
  refine xs_fun ?_
  refine xr_blk gd_X1_lowEnd 4 (c' := (16, [(0, .ref 1), (1, .int dial), (2, .int time)], [.int time, .int dial, .ref 1, .int ((st 2 dial.toInt.toNat) + (F_X1_ageAt st dial time))], st)) rfl ?_
  refine xr_callV gd_X1_lowEnd gd_X1_reachAt k_X1_66 rfl (c_X1_reachAt (d + 0) st dial time hd) (by omega) rfl rfl rfl rfl rfl ?_
  refine xs_fun ?_
  refine xr_blk gd_X1_lowEnd 1 (c' := (20, [(0, .ref 1), (1, .int dial), (2, .int time)], [.int (((st 2 dial.toInt.toNat) + (F_X1_ageAt st dial time)) - (F_X1_reachAt st dial time))], st)) rfl ?_
  exact xr_iret gd_X1_lowEnd rfl rfl ⟨by rw [F_X1_lowEnd], rfl⟩
def F_X1_highEnd (st : xs_S) (dial : Int32) (time : Int32) : Int32 := (((st 2 dial.toInt.toNat) + (F_X1_ageAt st dial time)) + (F_X1_reachAt st dial time))
set_option maxRecDepth 20000 in
theorem c_X1_highEnd {G : xs_G} {base : Nat} (d : Nat) (st : xs_S) (dial : Int32) (time : Int32) (hd : 0 ≤ dial.toInt ∧ dial.toInt < 15) : xs_K G base (d + 2) M_X1_highEnd [.ref 1, .int dial, .int time] st (fun v u => v = some (.int (F_X1_highEnd st dial time)) ∧ u = st) := by
  refine xs_intro ok_X1_highEnd [(0, .ref 1), (1, .int dial), (2, .int time)] rfl rfl ?_
  refine xr_blk gd_X1_highEnd 3 (c' := (5, [(0, .ref 1), (1, .int dial), (2, .int time)], [.int dial, .ref 2], st)) rfl ?_
  refine xr_iald gd_X1_highEnd rfl rfl (dial.toInt.toNat) (xs_h1 (n := 15) (by omega)) (xs_h2 (n := 15) (by omega)) ?_
  refine xr_blk gd_X1_highEnd 3 (c' := (9, [(0, .ref 1), (1, .int dial), (2, .int time)], [.int time, .int dial, .ref 1, .int (st 2 dial.toInt.toNat)], st)) rfl ?_
  refine xr_callV gd_X1_highEnd gd_X1_ageAt k_X1_62 rfl (c_X1_ageAt (d + 1) st dial time hd) (by omega) rfl rfl rfl rfl rfl ?_
  refine xs_fun ?_
  refine xr_blk gd_X1_highEnd 4 (c' := (16, [(0, .ref 1), (1, .int dial), (2, .int time)], [.int time, .int dial, .ref 1, .int ((st 2 dial.toInt.toNat) + (F_X1_ageAt st dial time))], st)) rfl ?_
  refine xr_callV gd_X1_highEnd gd_X1_reachAt k_X1_66 rfl (c_X1_reachAt (d + 0) st dial time hd) (by omega) rfl rfl rfl rfl rfl ?_
  refine xs_fun ?_
  refine xr_blk gd_X1_highEnd 1 (c' := (20, [(0, .ref 1), (1, .int dial), (2, .int time)], [.int (((st 2 dial.toInt.toNat) + (F_X1_ageAt st dial time)) + (F_X1_reachAt st dial time))], st)) rfl ?_
  exact xr_iret gd_X1_highEnd rfl rfl ⟨by rw [F_X1_highEnd], rfl⟩
def F_X1_changeSetting (st : xs_S) (setting : Int32) (value : Int32) : Int32 × xs_S := (if setting = 0 then (if value < 0 then (if setting = 1 then (if value < 1 then ((-2), st)
          else (if 20 < value then ((-2), st)
            else (st 1 1, xs_u st 1 1 value)))
        else ((-2), st))
      else (if 60 < value then (if setting = 1 then (if value < 1 then ((-2), st)
            else (if 20 < value then ((-2), st)
              else (st 1 1, xs_u st 1 1 value)))
          else ((-2), st))
        else (st 1 0, xs_u st 1 0 value)))
    else (if setting = 1 then (if value < 1 then ((-2), st)
        else (if 20 < value then ((-2), st)
          else (st 1 1, xs_u st 1 1 value)))
      else ((-2), st)))
set_option maxRecDepth 20000 in
theorem c_X1_changeSetting {G : xs_G} {base : Nat} (d : Nat) (st : xs_S) (setting : Int32) (value : Int32) : xs_K G base (d + 0) M_X1_changeSetting [.ref 1, .int setting, .int value] st (fun v u => v = some (.int (F_X1_changeSetting st setting value).1) ∧ u = (F_X1_changeSetting st setting value).2) := by
  refine xs_intro ok_X1_changeSetting [(0, .ref 1), (1, .int setting), (2, .int value)] rfl rfl ?_
  refine xr_blk gd_X1_changeSetting 1 (c' := (1, [(0, .ref 1), (1, .int setting), (2, .int value)], [.int setting], st)) rfl ?_
  refine xr_br gd_X1_changeSetting rfl rfl (fun h1 => ?_) (fun h1 => ?_)
  · refine xr_blk gd_X1_changeSetting 2 (c' := (28, [(0, .ref 1), (1, .int setting), (2, .int value)], [.int 1, .int setting], st)) rfl ?_
    refine xr_br gd_X1_changeSetting rfl rfl (fun h2 => ?_) (fun h2 => ?_)
    · refine xr_blk gd_X1_changeSetting 1 (c' := (56, [(0, .ref 1), (1, .int setting), (2, .int value)], [.int (-2)], st)) rfl ?_
      exact xr_iret gd_X1_changeSetting rfl rfl ⟨by rw [F_X1_changeSetting, if_neg h1, if_neg h2], by rw [F_X1_changeSetting, if_neg h1, if_neg h2]⟩
    · refine xr_blk gd_X1_changeSetting 2 (c' := (33, [(0, .ref 1), (1, .int setting), (2, .int value)], [.int 1, .int value], st)) rfl ?_
      refine xr_br gd_X1_changeSetting rfl rfl (fun h3 => ?_) (fun h3 => ?_)
      · refine xr_blk gd_X1_changeSetting 1 (c' := (56, [(0, .ref 1), (1, .int setting), (2, .int value)], [.int (-2)], st)) rfl ?_
        exact xr_iret gd_X1_changeSetting rfl rfl ⟨by rw [F_X1_changeSetting, if_neg h1, if_pos h2, if_pos h3], by rw [F_X1_changeSetting, if_neg h1, if_pos h2, if_pos h3]⟩
      · refine xr_blk gd_X1_changeSetting 2 (c' := (39, [(0, .ref 1), (1, .int setting), (2, .int value)], [.int 20, .int value], st)) rfl ?_
        refine xr_br gd_X1_changeSetting rfl rfl (fun h4 => ?_) (fun h4 => ?_)
        · refine xr_blk gd_X1_changeSetting 1 (c' := (56, [(0, .ref 1), (1, .int setting), (2, .int value)], [.int (-2)], st)) rfl ?_
          exact xr_iret gd_X1_changeSetting rfl rfl ⟨by rw [F_X1_changeSetting, if_neg h1, if_pos h2, if_neg h3, if_pos h4], by rw [F_X1_changeSetting, if_neg h1, if_pos h2, if_neg h3, if_pos h4]⟩
        · refine xr_blk gd_X1_changeSetting 7 (c' := (53, [(0, .ref 1), (1, .int setting), (2, .int value), (3, .int (st 1 1))], [.int (st 1 1)], xs_u st 1 1 value)) rfl ?_
          exact xr_iret gd_X1_changeSetting rfl rfl ⟨by rw [F_X1_changeSetting, if_neg h1, if_pos h2, if_neg h3, if_neg h4], by rw [F_X1_changeSetting, if_neg h1, if_pos h2, if_neg h3, if_neg h4]⟩
  · refine xr_blk gd_X1_changeSetting 1 (c' := (5, [(0, .ref 1), (1, .int setting), (2, .int value)], [.int value], st)) rfl ?_
    refine xr_br gd_X1_changeSetting rfl rfl (fun h5 => ?_) (fun h5 => ?_)
    · refine xr_blk gd_X1_changeSetting 2 (c' := (28, [(0, .ref 1), (1, .int setting), (2, .int value)], [.int 1, .int setting], st)) rfl ?_
      refine xr_br gd_X1_changeSetting rfl rfl (fun h6 => ?_) (fun h6 => ?_)
      · refine xr_blk gd_X1_changeSetting 1 (c' := (56, [(0, .ref 1), (1, .int setting), (2, .int value)], [.int (-2)], st)) rfl ?_
        exact xr_iret gd_X1_changeSetting rfl rfl ⟨by rw [F_X1_changeSetting, if_pos h1, if_pos h5, if_neg h6], by rw [F_X1_changeSetting, if_pos h1, if_pos h5, if_neg h6]⟩
      · refine xr_blk gd_X1_changeSetting 2 (c' := (33, [(0, .ref 1), (1, .int setting), (2, .int value)], [.int 1, .int value], st)) rfl ?_
        refine xr_br gd_X1_changeSetting rfl rfl (fun h7 => ?_) (fun h7 => ?_)
        · refine xr_blk gd_X1_changeSetting 1 (c' := (56, [(0, .ref 1), (1, .int setting), (2, .int value)], [.int (-2)], st)) rfl ?_
          exact xr_iret gd_X1_changeSetting rfl rfl ⟨by rw [F_X1_changeSetting, if_pos h1, if_pos h5, if_pos h6, if_pos h7], by rw [F_X1_changeSetting, if_pos h1, if_pos h5, if_pos h6, if_pos h7]⟩
        · refine xr_blk gd_X1_changeSetting 2 (c' := (39, [(0, .ref 1), (1, .int setting), (2, .int value)], [.int 20, .int value], st)) rfl ?_
          refine xr_br gd_X1_changeSetting rfl rfl (fun h8 => ?_) (fun h8 => ?_)
          · refine xr_blk gd_X1_changeSetting 1 (c' := (56, [(0, .ref 1), (1, .int setting), (2, .int value)], [.int (-2)], st)) rfl ?_
            exact xr_iret gd_X1_changeSetting rfl rfl ⟨by rw [F_X1_changeSetting, if_pos h1, if_pos h5, if_pos h6, if_neg h7, if_pos h8], by rw [F_X1_changeSetting, if_pos h1, if_pos h5, if_pos h6, if_neg h7, if_pos h8]⟩
          · refine xr_blk gd_X1_changeSetting 7 (c' := (53, [(0, .ref 1), (1, .int setting), (2, .int value), (3, .int (st 1 1))], [.int (st 1 1)], xs_u st 1 1 value)) rfl ?_
            exact xr_iret gd_X1_changeSetting rfl rfl ⟨by rw [F_X1_changeSetting, if_pos h1, if_pos h5, if_pos h6, if_neg h7, if_neg h8], by rw [F_X1_changeSetting, if_pos h1, if_pos h5, if_pos h6, if_neg h7, if_neg h8]⟩
    · refine xr_blk gd_X1_changeSetting 2 (c' := (11, [(0, .ref 1), (1, .int setting), (2, .int value)], [.int 60, .int value], st)) rfl ?_
      refine xr_br gd_X1_changeSetting rfl rfl (fun h9 => ?_) (fun h9 => ?_)
      · refine xr_blk gd_X1_changeSetting 2 (c' := (28, [(0, .ref 1), (1, .int setting), (2, .int value)], [.int 1, .int setting], st)) rfl ?_
        refine xr_br gd_X1_changeSetting rfl rfl (fun h10 => ?_) (fun h10 => ?_)
        · refine xr_blk gd_X1_changeSetting 1 (c' := (56, [(0, .ref 1), (1, .int setting), (2, .int value)], [.int (-2)], st)) rfl ?_
          exact xr_iret gd_X1_changeSetting rfl rfl ⟨by rw [F_X1_changeSetting, if_pos h1, if_neg h5, if_pos h9, if_neg h10], by rw [F_X1_changeSetting, if_pos h1, if_neg h5, if_pos h9, if_neg h10]⟩
        · refine xr_blk gd_X1_changeSetting 2 (c' := (33, [(0, .ref 1), (1, .int setting), (2, .int value)], [.int 1, .int value], st)) rfl ?_
          refine xr_br gd_X1_changeSetting rfl rfl (fun h11 => ?_) (fun h11 => ?_)
          · refine xr_blk gd_X1_changeSetting 1 (c' := (56, [(0, .ref 1), (1, .int setting), (2, .int value)], [.int (-2)], st)) rfl ?_
            exact xr_iret gd_X1_changeSetting rfl rfl ⟨by rw [F_X1_changeSetting, if_pos h1, if_neg h5, if_pos h9, if_pos h10, if_pos h11], by rw [F_X1_changeSetting, if_pos h1, if_neg h5, if_pos h9, if_pos h10, if_pos h11]⟩
          · refine xr_blk gd_X1_changeSetting 2 (c' := (39, [(0, .ref 1), (1, .int setting), (2, .int value)], [.int 20, .int value], st)) rfl ?_
            refine xr_br gd_X1_changeSetting rfl rfl (fun h12 => ?_) (fun h12 => ?_)
            · refine xr_blk gd_X1_changeSetting 1 (c' := (56, [(0, .ref 1), (1, .int setting), (2, .int value)], [.int (-2)], st)) rfl ?_
              exact xr_iret gd_X1_changeSetting rfl rfl ⟨by rw [F_X1_changeSetting, if_pos h1, if_neg h5, if_pos h9, if_pos h10, if_neg h11, if_pos h12], by rw [F_X1_changeSetting, if_pos h1, if_neg h5, if_pos h9, if_pos h10, if_neg h11, if_pos h12]⟩
            · refine xr_blk gd_X1_changeSetting 7 (c' := (53, [(0, .ref 1), (1, .int setting), (2, .int value), (3, .int (st 1 1))], [.int (st 1 1)], xs_u st 1 1 value)) rfl ?_
              exact xr_iret gd_X1_changeSetting rfl rfl ⟨by rw [F_X1_changeSetting, if_pos h1, if_neg h5, if_pos h9, if_pos h10, if_neg h11, if_neg h12], by rw [F_X1_changeSetting, if_pos h1, if_neg h5, if_pos h9, if_pos h10, if_neg h11, if_neg h12]⟩
      · refine xr_blk gd_X1_changeSetting 7 (c' := (25, [(0, .ref 1), (1, .int setting), (2, .int value), (3, .int (st 1 0))], [.int (st 1 0)], xs_u st 1 0 value)) rfl ?_
        exact xr_iret gd_X1_changeSetting rfl rfl ⟨by rw [F_X1_changeSetting, if_pos h1, if_neg h5, if_neg h9], by rw [F_X1_changeSetting, if_pos h1, if_neg h5, if_neg h9]⟩
def F_X1_addDial (st : xs_S) : Int32 × xs_S := (if (st 1 3) < 15 then ((((st 1 3) + 1) - 1), xs_u st 1 3 ((st 1 3) + 1))
    else ((-4), st))
set_option maxRecDepth 20000 in
theorem c_X1_addDial {G : xs_G} {base : Nat} (d : Nat) (st : xs_S) : xs_K G base (d + 0) M_X1_addDial [.ref 1] st (fun v u => v = some (.int (F_X1_addDial st).1) ∧ u = (F_X1_addDial st).2) := by
  refine xs_intro ok_X1_addDial [(0, .ref 1)] rfl rfl ?_
  refine xr_blk gd_X1_addDial 3 (c' := (6, [(0, .ref 1)], [.int 15, .int (st 1 3)], st)) rfl ?_
  refine xr_br gd_X1_addDial rfl rfl (fun h1 => ?_) (fun h1 => ?_)
  · refine xr_blk gd_X1_addDial 10 (c' := (28, [(0, .ref 1)], [.int (((st 1 3) + 1) - 1)], xs_u st 1 3 ((st 1 3) + 1))) rfl ?_
    exact xr_iret gd_X1_addDial rfl rfl ⟨by rw [F_X1_addDial, if_pos h1], by rw [F_X1_addDial, if_pos h1]⟩
  · refine xr_blk gd_X1_addDial 1 (c' := (11, [(0, .ref 1)], [.int (-4)], st)) rfl ?_
    exact xr_iret gd_X1_addDial rfl rfl ⟨by rw [F_X1_addDial, if_neg h1], by rw [F_X1_addDial, if_neg h1]⟩
