def F_X6_isError (st : xs_S) (answer : Int32) : Int32 := (if 0 ≤ answer then 0
    else (if answer = (-6) then 0
      else 1))
set_option maxRecDepth 20000 in
theorem c_X6_isError {G : xs_G} {base : Nat} (d : Nat) (st : xs_S) (answer : Int32) : xs_K (xc G) base (d + 0) M_X6_isError [.int answer] st (fun v u => v = some (.int (F_X6_isError st answer)) ∧ u = st) := by
  refine xs_intro ok_X6_isError [(0, .int answer)] rfl rfl ?_
  refine xr_blk gd_X6_isError 1 (c' := (1, [(0, .int answer)], [.int answer], st)) rfl ?_
  refine xr_br gd_X6_isError rfl rfl (fun h1 => ?_) (fun h1 => ?_)
  · refine xr_blk gd_X6_isError 1 (c' := (15, [(0, .int answer)], [.int 0], st)) rfl ?_
    exact xr_zret gd_X6_isError rfl rfl rfl ⟨by first | (rw [F_X6_isError, if_pos h1]; done) | (rw [F_X6_isError, if_pos h1]; rfl), rfl⟩
  · refine xr_blk gd_X6_isError 2 (c' := (7, [(0, .int answer)], [.int (-6), .int answer], st)) rfl ?_
    refine xr_br gd_X6_isError rfl rfl (fun h2 => ?_) (fun h2 => ?_)
    · refine xr_blk gd_X6_isError 1 (c' := (15, [(0, .int answer)], [.int 0], st)) rfl ?_
      exact xr_zret gd_X6_isError rfl rfl rfl ⟨by first | (rw [F_X6_isError, if_neg h1, if_pos h2]; done) | (rw [F_X6_isError, if_neg h1, if_pos h2]; rfl), rfl⟩
    · refine xr_blk gd_X6_isError 2 (c' := (15, [(0, .int answer)], [.int 1], st)) rfl ?_
      exact xr_zret gd_X6_isError rfl rfl rfl ⟨by first | (rw [F_X6_isError, if_neg h1, if_neg h2]; done) | (rw [F_X6_isError, if_neg h1, if_neg h2]; rfl), rfl⟩
def F_X2_size (st : xs_S) : Int32 := st 11 2
set_option maxRecDepth 20000 in
theorem c_X2_size {G : xs_G} {base : Nat} (d : Nat) (st : xs_S) : xs_K (xc G) base (d + 0) M_X2_size [.ref 11] st (fun v u => v = some (.int (F_X2_size st)) ∧ u = st) := by
  refine xs_intro ok_X2_size [(0, .ref 11)] rfl rfl ?_
  refine xr_blk gd_X2_size 2 (c' := (4, [(0, .ref 11)], [.int (st 11 2)], st)) rfl ?_
  exact xr_iret gd_X2_size rfl rfl ⟨by first | (rw [F_X2_size]; done) | (rw [F_X2_size]; rfl), rfl⟩
/-- floorMod by 7 is a place -/
theorem fm_pos {st : xs_S} {x y : Int32} (hy : 0 < y.toInt) : (F_floorMod st x y).toInt = x.toInt % y.toInt := by
  have hy0 : ¬ y = 0 := by
    intro h
    rw [h, xi_0] at hy
    omega
  have hb := xi_b x
  have hyb := xi_b y
  have hd : -2147483648 ≤ x.toInt.tdiv y.toInt ∧ x.toInt.tdiv y.toInt < 2147483648 := by
    rcases Int.lt_or_le x.toInt 0 with hx | hx
    · have h1 := Int.neg_tdiv x.toInt y.toInt
      have h2 := Int.tdiv_nonneg (a := -x.toInt) (b := y.toInt) (by omega) (by omega)
      have h3 := Int.tdiv_le_self (a := -x.toInt) y.toInt (by omega)
      omega
    · have h2 := Int.tdiv_nonneg (a := x.toInt) (b := y.toInt) (by omega) (by omega)
      have h3 := Int.tdiv_le_self (a := x.toInt) y.toInt (by omega)
      omega
  have hneg : x.toInt < 0 → x.toInt.tmod y.toInt ≤ 0 := by
    intro hx
    have h1 := Int.neg_tmod x.toInt y.toInt
    have h2 := Int.tmod_nonneg (a := -x.toInt) y.toInt (by omega)
    omega
  have hr : x.toInt - x.toInt.tdiv y.toInt * y.toInt = x.toInt.tmod y.toInt := by
    have h1 := Int.tmod_add_tdiv_mul x.toInt y.toInt
    omega
  have hm1 : -y.toInt < x.toInt.tmod y.toInt := by
    have h1 := Int.lt_tmod_of_pos x.toInt hy
    omega
  have hm2 : x.toInt.tmod y.toInt < y.toInt := Int.tmod_lt_of_pos x.toInt hy
  have hq : (x / y).toInt = x.toInt.tdiv y.toInt := xi_div hd
  have hpb : -2147483648 ≤ x.toInt.tdiv y.toInt * y.toInt ∧ x.toInt.tdiv y.toInt * y.toInt < 2147483648 := by
    rcases Int.lt_or_le x.toInt 0 with hx | hx
    · have h1 := hneg hx
      omega
    · have h1 := Int.tmod_nonneg y.toInt hx
      omega
  have hp : (x / y * y).toInt = x.toInt.tdiv y.toInt * y.toInt := by
    rw [xi_mul (by rw [hq]; exact hpb), hq]
  have hs : (x - x / y * y).toInt = x.toInt.tmod y.toInt := by
    rw [xi_sub (by rw [hp]; omega), hp, hr]
  have hx : (0 ≤ x ^^^ y) ↔ 0 ≤ x.toInt := by
    rw [xi_le, xi_0]
    have e1 : (x ^^^ y).toInt = (x.toBitVec ^^^ y.toBitVec).toInt := by rw [← Int32.toBitVec_xor]; rfl
    have e2 : (x ^^^ y).toBitVec.msb = (x.toBitVec.msb ^^ y.toBitVec.msb) := by rw [Int32.toBitVec_xor, BitVec.msb_xor]
    have e3 : y.toBitVec.msb = false := by
      rw [BitVec.msb_eq_toInt]
      exact decide_eq_false (by show ¬ y.toInt < 0; omega)
    rw [e3, Bool.xor_false] at e2
    rw [BitVec.msb_eq_toInt, BitVec.msb_eq_toInt] at e2
    have e4 : ((x ^^^ y).toInt < 0) ↔ (x.toInt < 0) := decide_eq_decide.mp e2
    omega
  have hem : x.toInt % y.toInt = if 0 ≤ x.toInt ∨ y.toInt ∣ x.toInt then x.toInt.tmod y.toInt else x.toInt.tmod y.toInt + y.toInt.natAbs := by
    have h1 := Int.tmod_eq_emod (a := x.toInt) (b := y.toInt)
    split at h1 <;> rename_i hc
    · rw [if_pos hc, h1]
      omega
    · rw [if_neg hc, h1]
      omega
  have hdv : y.toInt ∣ x.toInt ↔ x.toInt.tmod y.toInt = 0 := Int.dvd_iff_tmod_eq_zero
  unfold F_floorMod
  by_cases h1 : 0 ≤ x ^^^ y
  · rw [if_pos h1, hs, hem, if_pos (Or.inl (hx.mp h1))]
  · rw [if_neg h1]
    by_cases h2 : x - x / y * y = 0
    · rw [if_pos h2, hs, hem, if_pos (Or.inr (hdv.mpr (by rw [← hs, h2, xi_0])))]
    · rw [if_neg h2]
      have h3 : ¬ x.toInt.tmod y.toInt = 0 := by
        intro h
        exact h2 (xi_eq.mpr (by rw [hs, h, xi_0]))
      have h4 : ¬ 0 ≤ x.toInt := fun h => h1 (hx.mpr h)
      have h5 := hneg (by omega)
      rw [xi_add (by rw [hs]; omega), hs, hem, if_neg (by rw [hdv]; omega)]
      omega
theorem fm7 {st : xs_S} (x : Int32) : 0 ≤ (F_floorMod st x 7).toInt ∧ (F_floorMod st x 7).toInt < 7 := by
  have h7 : (7 : Int32).toInt = 7 := by decide
  rw [fm_pos (by rw [h7]; omega), h7]
  omega
def F_X2_placeOf (st : xs_S) (rank : Int32) : Nat := 13 + 6 * ((F_floorMod st ((st 11 1) + rank) 7).toInt.toNat)
set_option maxRecDepth 20000 in
theorem c_X2_placeOf {G : xs_G} {base : Nat} (d : Nat) (st : xs_S) (rank : Int32) : xs_K (xc G) base (d + 1) M_X2_placeOf [.ref 11, .int rank] st (fun v u => v = some (.ref (F_X2_placeOf st rank)) ∧ u = st) := by
  refine xs_intro ok_X2_placeOf [(0, .ref 11), (1, .int rank)] rfl rfl ?_
  refine xr_blk gd_X2_placeOf 7 (c' := (12, [(0, .ref 11), (1, .int rank)], [.int 7, .int ((st 11 1) + rank), .ref 12], st)) rfl ?_
  refine xr_callS gd_X2_placeOf gd_J9_floorMod_7cf53 k_X2_25 rfl (c_floorMod (d + 0) st ((st 11 1) + rank) 7 (by decide)) (by omega) rfl rfl rfl ?_
  refine xs_fun ?_
  refine xr_aald gd_X2_placeOf rfl rfl rfl ((F_floorMod st ((st 11 1) + rank) 7).toInt.toNat) (xs_h1 (n := 7) (fm7 _)) (xs_h2 (n := 7) (fm7 _)) ?_
  exact xr_aret gd_X2_placeOf rfl rfl ⟨by first | (rw [F_X2_placeOf]; done) | (rw [F_X2_placeOf]; rfl), rfl⟩
def F_X2_keep (st : xs_S) (answer : Int32) : Int32 × xs_S := (if (F_X6_isError st answer) = 0 then (if 6 ≤ (st 11 2) then (answer, xs_u st 11 1 (F_floorMod st ((st 11 1) + 1) 7))
      else (answer, xs_u st 11 2 ((st 11 2) + 1)))
    else (answer, st))
set_option maxRecDepth 20000 in
theorem c_X2_keep {G : xs_G} {base : Nat} (d : Nat) (st : xs_S) (answer : Int32) : xs_K (xc G) base (d + 1) M_X2_keep [.ref 11, .int answer] st (fun v u => v = some (.int (F_X2_keep st answer).1) ∧ u = (F_X2_keep st answer).2) := by
  refine xs_intro ok_X2_keep [(0, .ref 11), (1, .int answer)] rfl rfl ?_
  refine xr_blk gd_X2_keep 1 (c' := (1, [(0, .ref 11), (1, .int answer)], [.int answer], st)) rfl ?_
  refine xr_callN gd_X2_keep rfl gd_X6_isError rfl (c_X6_isError (d + 0) st answer) (by omega) rfl rfl rfl ?_
  refine xs_fun ?_
  refine xr_br gd_X2_keep rfl rfl (fun h1 => ?_) (fun h1 => ?_)
  · refine xr_blk gd_X2_keep 3 (c' := (15, [(0, .ref 11), (1, .int answer)], [.int 6, .int (st 11 2)], st)) rfl ?_
    refine xr_br gd_X2_keep rfl rfl (fun h2 => ?_) (fun h2 => ?_)
    · refine xr_blk gd_X2_keep 6 (c' := (40, [(0, .ref 11), (1, .int answer)], [.int 7, .int ((st 11 1) + 1), .ref 11], st)) rfl ?_
      refine xr_callS gd_X2_keep gd_J9_floorMod_7cf53 k_X2_25 rfl (c_floorMod (d + 0) st ((st 11 1) + 1) 7 (by decide)) (by omega) rfl rfl rfl ?_
      refine xs_fun ?_
      refine xr_blk gd_X2_keep 2 (c' := (47, [(0, .ref 11), (1, .int answer)], [.int answer], xs_u st 11 1 (F_floorMod st ((st 11 1) + 1) 7))) rfl ?_
      exact xr_iret gd_X2_keep rfl rfl ⟨by first | (rw [F_X2_keep, if_pos h1, if_pos h2]; done) | (rw [F_X2_keep, if_pos h1, if_pos h2]; rfl), by first | (rw [F_X2_keep, if_pos h1, if_pos h2]; done) | (rw [F_X2_keep, if_pos h1, if_pos h2]; rfl)⟩
    · refine xr_blk gd_X2_keep 8 (c' := (47, [(0, .ref 11), (1, .int answer)], [.int answer], xs_u st 11 2 ((st 11 2) + 1))) rfl ?_
      exact xr_iret gd_X2_keep rfl rfl ⟨by first | (rw [F_X2_keep, if_pos h1, if_neg h2]; done) | (rw [F_X2_keep, if_pos h1, if_neg h2]; rfl), by first | (rw [F_X2_keep, if_pos h1, if_neg h2]; done) | (rw [F_X2_keep, if_pos h1, if_neg h2]; rfl)⟩
  · refine xr_blk gd_X2_keep 1 (c' := (8, [(0, .ref 11), (1, .int answer)], [.int answer], st)) rfl ?_
    exact xr_iret gd_X2_keep rfl rfl ⟨by first | (rw [F_X2_keep, if_neg h1]; done) | (rw [F_X2_keep, if_neg h1]; rfl), by first | (rw [F_X2_keep, if_neg h1]; done) | (rw [F_X2_keep, if_neg h1]; rfl)⟩
/-- a court's copy, at cells that are names -/
def xs_cpc (st : xs_S) (a b : Nat) : xs_S := xs_ur (xs_ur (xs_ur (xs_ur (xs_ur (xs_u (xs_u (xs_u (xs_u (xs_u (xs_u (xs_u (xs_u st b 0 (st a 0)) b 1 (st a 1)) b 2 (st a 2)) b 3 (st a 3)) b 4 (st a 4)) b 5 (st a 5)) b 6 (st a 6)) b 7 (st a 7)) (b + 1) (xs_cp15 (st (a + 1)) (st (b + 1)))) (b + 2) (xs_cp15 (st (a + 2)) (st (b + 2)))) (b + 3) (xs_cp15 (st (a + 3)) (st (b + 3)))) (b + 4) (xs_cp15 (st (a + 4)) (st (b + 4)))) (b + 5) (xs_cp15 (st (a + 5)) (st (b + 5)))
theorem c_copyTo {G : xs_G} {base : Nat} (d : Nat) (st : xs_S) (j : Nat) (hj : j < 7) : xs_K (xc G) base (d + 1) M_X1_copy [.ref 1, .ref (13 + 6 * j)] st (fun v u => v = none ∧ u = xs_cpc st 1 (13 + 6 * j)) := by
  match j, hj with
  | 0, _ => exact c_X1_copy_1_13 d st
  | 1, _ => exact c_X1_copy_1_19 d st
  | 2, _ => exact c_X1_copy_1_25 d st
  | 3, _ => exact c_X1_copy_1_31 d st
  | 4, _ => exact c_X1_copy_1_37 d st
  | 5, _ => exact c_X1_copy_1_43 d st
  | 6, _ => exact c_X1_copy_1_49 d st
theorem c_copyFrom {G : xs_G} {base : Nat} (d : Nat) (st : xs_S) (j : Nat) (hj : j < 7) : xs_K (xc G) base (d + 1) M_X1_copy [.ref (13 + 6 * j), .ref 1] st (fun v u => v = none ∧ u = xs_cpc st (13 + 6 * j) 1) := by
  match j, hj with
  | 0, _ => exact c_X1_copy_13_1 d st
  | 1, _ => exact c_X1_copy_19_1 d st
  | 2, _ => exact c_X1_copy_25_1 d st
  | 3, _ => exact c_X1_copy_31_1 d st
  | 4, _ => exact c_X1_copy_37_1 d st
  | 5, _ => exact c_X1_copy_43_1 d st
  | 6, _ => exact c_X1_copy_49_1 d st
theorem c_copyToS {G : xs_G} {base : Nat} (d : Nat) (st : xs_S) (j : Nat) (hj : j < 2) : xs_K (xc G) base (d + 1) M_X1_copy [.ref 1, .ref (58 + 6 * j)] st (fun v u => v = none ∧ u = xs_cpc st 1 (58 + 6 * j)) := by
  match j, hj with
  | 0, _ => exact c_X1_copy_1_58 d st
  | 1, _ => exact c_X1_copy_1_64 d st
theorem c_copyFromS {G : xs_G} {base : Nat} (d : Nat) (st : xs_S) (j : Nat) (hj : j < 2) : xs_K (xc G) base (d + 1) M_X1_copy [.ref (58 + 6 * j), .ref 1] st (fun v u => v = none ∧ u = xs_cpc st (58 + 6 * j) 1) := by
  match j, hj with
  | 0, _ => exact c_X1_copy_58_1 d st
  | 1, _ => exact c_X1_copy_64_1 d st
def pl_at (st : xs_S) (rank : Int32) : Nat := (F_floorMod st ((st 11 1) + rank) 7).toInt.toNat
theorem pl_lt (st : xs_S) (rank : Int32) : pl_at st rank < 7 := xs_h2 (n := 7) (fm7 _)
def F_X2_draft (st : xs_S) : xs_S := xs_cpc st 1 (13 + 6 * pl_at st (st 11 2))
set_option maxRecDepth 20000 in
theorem c_X2_draft {G : xs_G} {base : Nat} (d : Nat) (st : xs_S) : xs_K (xc G) base (d + 2) M_X2_draft [.ref 11, .ref 1] st (fun v u => v = none ∧ u = F_X2_draft st) := by
  refine xs_intro ok_X2_draft [(0, .ref 11), (1, .ref 1)] rfl rfl ?_
  refine xr_blk gd_X2_draft 4 (c' := (6, [(0, .ref 11), (1, .ref 1)], [.int (st 11 2), .ref 11, .ref 1], st)) rfl ?_
  refine xr_callV gd_X2_draft gd_X2_placeOf k_X2_31 rfl (c_X2_placeOf (d + 0) st (st 11 2)) (by omega) rfl rfl rfl rfl rfl ?_
  refine xs_fun ?_
  refine xr_callS gd_X2_draft gd_X1_copy k_X2_35 rfl (c_copyTo (d + 0) st (pl_at st (st 11 2)) (pl_lt _ _)) (by omega) rfl rfl rfl ?_
  refine xs_fun ?_
  exact xr_vret gd_X2_draft rfl rfl ⟨rfl, rfl⟩