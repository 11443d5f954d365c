/-- what holds of the pad while it is read -/
def PW (st : xs_S) : Prop := (0 ≤ (st 70 2).toInt ∧ (st 70 2).toInt ≤ (st 70 1).toInt ∧ (st 70 1).toInt ≤ 80) ∧ ∀ i : Nat, (i : Int) < (st 70 1).toInt → 33 ≤ (st 71 i).toInt ∧ (st 71 i).toInt ≤ 126
theorem xc_nar {x : Int32} (h : 0 ≤ x.toInt ∧ x.toInt < 65536) : narrow .char (.int x) = .int x ∧ fits .char (.int x) = true := by
  have e : x = nI x.toInt.toNat := by
    apply xi_eq.mpr
    rw [nI_toInt (by omega)]
    omega
  rw [e]
  exact pk_charN (by omega)
theorem pw_u {st : xs_S} {i : Nat} {v : Int32} (hi : i ≠ 1 ∧ i ≠ 2) (h : PW st) : PW (xs_u st 70 i v) := by
  unfold PW at h ⊢
  rw [xs_rd_i (fun e => hi.1 e.symm), xs_rd_i (fun e => hi.2 e.symm), xs_rd_k (by decide)]
  exact h
def F_X3_isSign (st : xs_S) (code : Int64) : Int32 := (if (lg_cmp code 33) < 0 then 0
    else (if 0 < (lg_cmp code 126) then 0
      else 1))
set_option maxRecDepth 20000 in
theorem c_X3_isSign {G : xs_G} {base : Nat} (d : Nat) (st : xs_S) (code : Int64) : xs_K G base (d + 0) M_X3_isSign [.long code] st (fun v u => v = some (.int (F_X3_isSign st code)) ∧ u = st) := by
  refine xs_intro ok_X3_isSign [(0, .long code)] rfl rfl ?_
  refine xr_blk gd_X3_isSign 1 (c' := (1, [(0, .long code)], [.long code], st)) rfl ?_
  refine xr_ldc2 gd_X3_isSign.1 rfl xs_cL_X3_21 ?_
  refine xr_blk gd_X3_isSign 1 (c' := (5, [(0, .long code)], [.int (lg_cmp code 33)], st)) rfl ?_
  refine xr_br gd_X3_isSign rfl rfl (fun h1 => ?_) (fun h1 => ?_)
  · refine xr_blk gd_X3_isSign 1 (c' := (21, [(0, .long code)], [.int 0], st)) rfl ?_
    exact xr_zret gd_X3_isSign rfl rfl rfl ⟨by first | (rw [F_X3_isSign, if_pos h1]; done) | (rw [F_X3_isSign, if_pos h1]; rfl), rfl⟩
  · refine xr_blk gd_X3_isSign 1 (c' := (9, [(0, .long code)], [.long code], st)) rfl ?_
    refine xr_ldc2 gd_X3_isSign.1 rfl xs_cL_X3_23 ?_
    refine xr_blk gd_X3_isSign 1 (c' := (13, [(0, .long code)], [.int (lg_cmp code 126)], st)) rfl ?_
    refine xr_br gd_X3_isSign rfl rfl (fun h2 => ?_) (fun h2 => ?_)
    · refine xr_blk gd_X3_isSign 1 (c' := (21, [(0, .long code)], [.int 0], st)) rfl ?_
      exact xr_zret gd_X3_isSign rfl rfl rfl ⟨by first | (rw [F_X3_isSign, if_neg h1, if_pos h2]; done) | (rw [F_X3_isSign, if_neg h1, if_pos h2]; rfl), rfl⟩
    · refine xr_blk gd_X3_isSign 2 (c' := (21, [(0, .long code)], [.int 1], st)) rfl ?_
      exact xr_zret gd_X3_isSign rfl rfl rfl ⟨by first | (rw [F_X3_isSign, if_neg h1, if_neg h2]; done) | (rw [F_X3_isSign, if_neg h1, if_neg h2]; rfl), rfl⟩
def lp_X3_signsIn_4 (st : xs_S) (characters : Int64) : Nat → Int32 → Int64 → Int32
  | 0, _, _ => 0
  | n + 1, x2, x3 => (if 8 ≤ x2 then (if (lg_cmp x3 (Int64.ofNat 0)) = 0 then x2
      else 0)
    else (if (F_X3_isSign st (x3 &&& 255)) = 0 then (if (lg_cmp x3 (Int64.ofNat 0)) = 0 then x2
        else 0)
      else lp_X3_signsIn_4 st characters n (x2 + 1) ((x3.toUInt64 >>> ((8 : Int32).toInt64.toUInt64 &&& Int64.toUInt64 63)).toInt64)))
set_option maxRecDepth 20000 in
theorem cl_X3_signsIn_4 {G : xs_G} {base : Nat} (d : Nat) (st : xs_S) (characters : Int64) : ∀ (n : Nat) (x2 : Int32) (x3 : Int64), xs_lo x2 8 n → xs_R G base (d + 1) M_X3_signsIn (4, [(0, .long characters), (2, .int x2), (3, .long x3)], [], st) (fun v u => v = some (.int (lp_X3_signsIn_4 st characters n x2 x3)) ∧ u = st) := by
  intro n
  induction n with
  | zero =>
    intro x2 x3 hinv
    exact (xs_lo0 hinv).elim
  | succ n ih =>
    intro x2 x3 hinv
    refine xr_blk gd_X3_signsIn 2 (c' := (7, [(0, .long characters), (2, .int x2), (3, .long x3)], [.int 8, .int x2], st)) rfl ?_
    refine xr_br gd_X3_signsIn rfl rfl (fun h1 => ?_) (fun h1 => ?_)
    · refine xr_blk gd_X3_signsIn 3 (c' := (35, [(0, .long characters), (2, .int x2), (3, .long x3)], [.int (lg_cmp x3 (Int64.ofNat 0))], st)) rfl ?_
      refine xr_br gd_X3_signsIn rfl rfl (fun h2 => ?_) (fun h2 => ?_)
      · refine xr_blk gd_X3_signsIn 1 (c' := (43, [(0, .long characters), (2, .int x2), (3, .long x3)], [.int 0], st)) rfl ?_
        exact xr_iret gd_X3_signsIn rfl rfl ⟨by first | (rw [lp_X3_signsIn_4, if_pos h1, if_neg h2]; done) | (rw [lp_X3_signsIn_4, if_pos h1, if_neg h2]; rfl), rfl⟩
      · refine xr_blk gd_X3_signsIn 2 (c' := (43, [(0, .long characters), (2, .int x2), (3, .long x3)], [.int x2], st)) rfl ?_
        exact xr_iret gd_X3_signsIn rfl rfl ⟨by first | (rw [lp_X3_signsIn_4, if_pos h1, if_pos h2]; done) | (rw [lp_X3_signsIn_4, if_pos h1, if_pos h2]; rfl), rfl⟩
    · refine xr_blk gd_X3_signsIn 1 (c' := (11, [(0, .long characters), (2, .int x2), (3, .long x3)], [.long x3], st)) rfl ?_
      refine xr_ldc2 gd_X3_signsIn.1 rfl xs_cL_X3_15 ?_
      refine xr_blk gd_X3_signsIn 1 (c' := (15, [(0, .long characters), (2, .int x2), (3, .long x3)], [.long (x3 &&& 255)], st)) rfl ?_
      refine xr_callS gd_X3_signsIn gd_X3_isSign k_X3_17 rfl (c_X3_isSign (d + 0) st (x3 &&& 255)) (by omega) rfl rfl rfl ?_
      refine xs_fun ?_
      refine xr_br gd_X3_signsIn rfl rfl (fun h3 => ?_) (fun h3 => ?_)
      · refine xr_blk gd_X3_signsIn 3 (c' := (35, [(0, .long characters), (2, .int x2), (3, .long x3)], [.int (lg_cmp x3 (Int64.ofNat 0))], st)) rfl ?_
        refine xr_br gd_X3_signsIn rfl rfl (fun h4 => ?_) (fun h4 => ?_)
        · refine xr_blk gd_X3_signsIn 1 (c' := (43, [(0, .long characters), (2, .int x2), (3, .long x3)], [.int 0], st)) rfl ?_
          exact xr_iret gd_X3_signsIn rfl rfl ⟨by first | (rw [lp_X3_signsIn_4, if_neg h1, if_pos h3, if_neg h4]; done) | (rw [lp_X3_signsIn_4, if_neg h1, if_pos h3, if_neg h4]; rfl), rfl⟩
        · refine xr_blk gd_X3_signsIn 2 (c' := (43, [(0, .long characters), (2, .int x2), (3, .long x3)], [.int x2], st)) rfl ?_
          exact xr_iret gd_X3_signsIn rfl rfl ⟨by first | (rw [lp_X3_signsIn_4, if_neg h1, if_pos h3, if_pos h4]; done) | (rw [lp_X3_signsIn_4, if_neg h1, if_pos h3, if_pos h4]; rfl), rfl⟩
      · refine xr_blk gd_X3_signsIn 6 (c' := (4, [(0, .long characters), (2, .int (x2 + 1)), (3, .long ((x3.toUInt64 >>> ((8 : Int32).toInt64.toUInt64 &&& Int64.toUInt64 63)).toInt64))], [], st)) rfl ?_
        refine xs_cons (ih (x2 + 1) ((x3.toUInt64 >>> ((8 : Int32).toInt64.toUInt64 &&& Int64.toUInt64 63)).toInt64) (xs_lo_up hinv h1)) (fun v u hq => ?_)
        rw [lp_X3_signsIn_4, if_neg h1, if_neg h3]; exact hq
def F_X3_signsIn (st : xs_S) (characters : Int64) : Int32 := lp_X3_signsIn_4 st characters 9 0 characters
set_option maxRecDepth 20000 in
theorem c_X3_signsIn {G : xs_G} {base : Nat} (d : Nat) (st : xs_S) (characters : Int64) : xs_K G base (d + 1) M_X3_signsIn [.long characters] st (fun v u => v = some (.int (F_X3_signsIn st characters)) ∧ u = st) := by
  refine xs_intro ok_X3_signsIn [(0, .long characters)] rfl rfl ?_
  refine xr_blk gd_X3_signsIn 4 (c' := (4, [(0, .long characters), (2, .int 0), (3, .long characters)], [], st)) rfl ?_
  refine xs_cons (cl_X3_signsIn_4 d st characters 9 0 characters ⟨by decide, by decide, by decide⟩) (fun v u hq => ?_)
  rw [F_X3_signsIn]; exact hq
def lp_X3_append_5 (characters : Int64) (many : Int32) : Nat → Int32 → xs_S → xs_S
  | 0, _, st => st
  | n + 1, x4, st => (if x4 < 0 then st
    else (if 80 ≤ (st 70 1) then st
      else lp_X3_append_5 characters many n (x4 + (-1)) (xs_u (xs_u st 71 ((st 70 1).toInt.toNat) ((((((characters.toUInt64 >>> ((x4 * 8).toInt64.toUInt64 &&& Int64.toUInt64 63)).toInt64) &&& 255).toInt32).toUInt32 % 65536).toInt32)) 70 1 ((st 70 1) + 1))))
set_option maxRecDepth 20000 in
theorem cl_X3_append_5 {G : xs_G} {base : Nat} (d : Nat) (characters : Int64) (many : Int32) : ∀ (n : Nat) (x4 : Int32) (st : xs_S), (-1 ≤ x4.toInt ∧ x4.toInt < 8 ∧ x4.toInt + 1 < (n : Int)) ∧ 0 ≤ (st 70 1).toInt → xs_R G base (d + 0) M_X3_append (5, [(0, .ref 70), (1, .long characters), (3, .int many), (4, .int x4)], [], st) (fun v u => v = none ∧ u = lp_X3_append_5 characters many n x4 st) := by
  intro n
  induction n with
  | zero =>
    intro x4 st hinv
    exfalso
    omega
  | succ n ih =>
    intro x4 st hinv
    refine xr_blk gd_X3_append 1 (c' := (7, [(0, .ref 70), (1, .long characters), (3, .int many), (4, .int x4)], [.int x4], st)) rfl ?_
    refine xr_br gd_X3_append rfl rfl (fun h1 => ?_) (fun h1 => ?_)
    · exact xr_vret gd_X3_append rfl rfl ⟨rfl, by first | (rw [lp_X3_append_5, if_pos h1]; done) | (rw [lp_X3_append_5, if_pos h1]; rfl)⟩
    · refine xr_blk gd_X3_append 3 (c' := (16, [(0, .ref 70), (1, .long characters), (3, .int many), (4, .int x4)], [.int 80, .int (st 70 1)], st)) rfl ?_
      refine xr_br gd_X3_append rfl rfl (fun h2 => ?_) (fun h2 => ?_)
      · exact xr_vret gd_X3_append rfl rfl ⟨rfl, by first | (rw [lp_X3_append_5, if_neg h1, if_pos h2]; done) | (rw [lp_X3_append_5, if_neg h1, if_pos h2]; rfl)⟩
      · refine xr_blk gd_X3_append 9 (c' := (34, [(0, .ref 70), (1, .long characters), (3, .int many), (4, .int x4)], [.long ((characters.toUInt64 >>> ((x4 * 8).toInt64.toUInt64 &&& Int64.toUInt64 63)).toInt64), .int (st 70 1), .ref 71], st)) rfl ?_
        refine xr_ldc2 gd_X3_append.1 rfl xs_cL_X3_15 ?_
        refine xr_blk gd_X3_append 3 (c' := (40, [(0, .ref 70), (1, .long characters), (3, .int many), (4, .int x4)], [.int ((((((characters.toUInt64 >>> ((x4 * 8).toInt64.toUInt64 &&& Int64.toUInt64 63)).toInt64) &&& 255).toInt32).toUInt32 % 65536).toInt32), .int (st 70 1), .ref 71], st)) rfl ?_
        refine xr_cast gd_X3_append rfl rfl ((st 70 1).toInt.toNat) (xs_h1 (n := 80) (xp_i hinv h2)) (xs_h2 (n := 80) (xp_i hinv h2)) (pk_vc _) ?_
        refine xr_blk gd_X3_append 8 (c' := (5, [(0, .ref 70), (1, .long characters), (3, .int many), (4, .int (x4 + (-1)))], [], xs_u (xs_u st 71 ((st 70 1).toInt.toNat) ((((((characters.toUInt64 >>> ((x4 * 8).toInt64.toUInt64 &&& Int64.toUInt64 63)).toInt64) &&& 255).toInt32).toUInt32 % 65536).toInt32)) 70 1 ((st 70 1) + 1))) rfl ?_
        refine xs_cons (ih (x4 + (-1)) (xs_u (xs_u st 71 ((st 70 1).toInt.toNat) ((((((characters.toUInt64 >>> ((x4 * 8).toInt64.toUInt64 &&& Int64.toUInt64 63)).toInt64) &&& 255).toInt32).toUInt32 % 65536).toInt32)) 70 1 ((st 70 1) + 1)) (xp_b hinv h1 h2)) (fun v u hq => ?_)
        rw [lp_X3_append_5, if_neg h1, if_neg h2]; exact hq
def F_X3_append (st : xs_S) (characters : Int64) (many : Int32) : xs_S := lp_X3_append_5 characters many 9 (many - 1) st
set_option maxRecDepth 20000 in
theorem c_X3_append {G : xs_G} {base : Nat} (d : Nat) (st : xs_S) (characters : Int64) (many : Int32) (hm : 0 ≤ many.toInt ∧ many.toInt ≤ 8) (hl : 0 ≤ (st 70 1).toInt) : xs_K G base (d + 0) M_X3_append [.ref 70, .long characters, .int many] st (fun v u => v = none ∧ u = F_X3_append st characters many) := by
  refine xs_intro ok_X3_append [(0, .ref 70), (1, .long characters), (3, .int many)] rfl rfl ?_
  refine xr_blk gd_X3_append 4 (c' := (5, [(0, .ref 70), (1, .long characters), (3, .int many), (4, .int (many - 1))], [], st)) rfl ?_
  refine xs_cons (cl_X3_append_5 d characters many 9 (many - 1) st (xp_e hm hl)) (fun v u hq => ?_)
  rw [F_X3_append]; exact hq
def F_X3_clear (st : xs_S) : xs_S := xs_u st 70 1 0
set_option maxRecDepth 20000 in
theorem c_X3_clear {G : xs_G} {base : Nat} (d : Nat) (st : xs_S) : xs_K G base (d + 0) M_X3_clear [.ref 70] st (fun v u => v = none ∧ u = F_X3_clear st) := by
  refine xs_intro ok_X3_clear [(0, .ref 70)] rfl rfl ?_
  refine xr_blk gd_X3_clear 3 (c' := (5, [(0, .ref 70)], [], xs_u st 70 1 0)) rfl ?_
  exact xr_vret gd_X3_clear rfl rfl ⟨rfl, by first | (rw [F_X3_clear]; done) | (rw [F_X3_clear]; rfl)⟩
def F_X3_length (st : xs_S) : Int32 := st 70 1
set_option maxRecDepth 20000 in
theorem c_X3_length {G : xs_G} {base : Nat} (d : Nat) (st : xs_S) : xs_K G base (d + 0) M_X3_length [.ref 70] st (fun v u => v = some (.int (F_X3_length st)) ∧ u = st) := by
  refine xs_intro ok_X3_length [(0, .ref 70)] rfl rfl ?_
  refine xr_blk gd_X3_length 2 (c' := (4, [(0, .ref 70)], [.int (st 70 1)], st)) rfl ?_
  exact xr_iret gd_X3_length rfl rfl ⟨by first | (rw [F_X3_length]; done) | (rw [F_X3_length]; rfl), rfl⟩
def F_X3_kind (st : xs_S) : Int32 := st 70 3
set_option maxRecDepth 20000 in
theorem c_X3_kind {G : xs_G} {base : Nat} (d : Nat) (st : xs_S) (hk : 0 ≤ (st 70 3).toInt ∧ (st 70 3).toInt < 65536) : xs_K G base (d + 0) M_X3_kind [.ref 70] st (fun v u => v = some (.int (F_X3_kind st)) ∧ u = st) := by
  refine xs_intro ok_X3_kind [(0, .ref 70)] rfl rfl ?_
  refine xr_blk gd_X3_kind 2 (c' := (4, [(0, .ref 70)], [.int (st 70 3)], st)) rfl ?_
  exact xr_zret gd_X3_kind rfl rfl (xc_nar hk).1 ⟨by first | (rw [F_X3_kind]; done) | (rw [F_X3_kind]; rfl), rfl⟩
def F_X3_first (st : xs_S) : Int32 := st 70 4
set_option maxRecDepth 20000 in
theorem c_X3_first {G : xs_G} {base : Nat} (d : Nat) (st : xs_S) : xs_K G base (d + 0) M_X3_first [.ref 70] st (fun v u => v = some (.int (F_X3_first st)) ∧ u = st) := by
  refine xs_intro ok_X3_first [(0, .ref 70)] rfl rfl ?_
  refine xr_blk gd_X3_first 2 (c' := (4, [(0, .ref 70)], [.int (st 70 4)], st)) rfl ?_
  exact xr_iret gd_X3_first rfl rfl ⟨by first | (rw [F_X3_first]; done) | (rw [F_X3_first]; rfl), rfl⟩
def F_X3_second (st : xs_S) : Int32 := st 70 5
set_option maxRecDepth 20000 in
theorem c_X3_second {G : xs_G} {base : Nat} (d : Nat) (st : xs_S) : xs_K G base (d + 0) M_X3_second [.ref 70] st (fun v u => v = some (.int (F_X3_second st)) ∧ u = st) := by
  refine xs_intro ok_X3_second [(0, .ref 70)] rfl rfl ?_
  refine xr_blk gd_X3_second 2 (c' := (4, [(0, .ref 70)], [.int (st 70 5)], st)) rfl ?_
  exact xr_iret gd_X3_second rfl rfl ⟨by first | (rw [F_X3_second]; done) | (rw [F_X3_second]; rfl), rfl⟩
def F_X3_third (st : xs_S) : Int32 := st 70 6
set_option maxRecDepth 20000 in
theorem c_X3_third {G : xs_G} {base : Nat} (d : Nat) (st : xs_S) : xs_K G base (d + 0) M_X3_third [.ref 70] st (fun v u => v = some (.int (F_X3_third st)) ∧ u = st) := by
  refine xs_intro ok_X3_third [(0, .ref 70)] rfl rfl ?_
  refine xr_blk gd_X3_third 2 (c' := (4, [(0, .ref 70)], [.int (st 70 6)], st)) rfl ?_
  exact xr_iret gd_X3_third rfl rfl ⟨by first | (rw [F_X3_third]; done) | (rw [F_X3_third]; rfl), rfl⟩
def F_X3_startReading (st : xs_S) : xs_S := xs_u st 70 2 0
set_option maxRecDepth 20000 in
theorem c_X3_startReading {G : xs_G} {base : Nat} (d : Nat) (st : xs_S) : xs_K G base (d + 0) M_X3_startReading [.ref 70] st (fun v u => v = none ∧ u = F_X3_startReading st) := by
  refine xs_intro ok_X3_startReading [(0, .ref 70)] rfl rfl ?_
  refine xr_blk gd_X3_startReading 3 (c' := (5, [(0, .ref 70)], [], xs_u st 70 2 0)) rfl ?_
  exact xr_vret gd_X3_startReading rfl rfl ⟨rfl, by first | (rw [F_X3_startReading]; done) | (rw [F_X3_startReading]; rfl)⟩
def F_X3_isDigit (st : xs_S) (sign : Int32) : Int32 := (if sign < 48 then 0
    else (if 57 < sign then 0
      else 1))
set_option maxRecDepth 20000 in
theorem c_X3_isDigit {G : xs_G} {base : Nat} (d : Nat) (st : xs_S) (sign : Int32) : xs_K G base (d + 0) M_X3_isDigit [.int sign] st (fun v u => v = some (.int (F_X3_isDigit st sign)) ∧ u = st) := by
  refine xs_intro ok_X3_isDigit [(0, .int sign)] rfl rfl ?_
  refine xr_blk gd_X3_isDigit 2 (c' := (3, [(0, .int sign)], [.int 48, .int sign], st)) rfl ?_
  refine xr_br gd_X3_isDigit rfl rfl (fun h1 => ?_) (fun h1 => ?_)
  · refine xr_blk gd_X3_isDigit 1 (c' := (17, [(0, .int sign)], [.int 0], st)) rfl ?_
    exact xr_zret gd_X3_isDigit rfl rfl rfl ⟨by first | (rw [F_X3_isDigit, if_pos h1]; done) | (rw [F_X3_isDigit, if_pos h1]; rfl), rfl⟩
  · refine xr_blk gd_X3_isDigit 2 (c' := (9, [(0, .int sign)], [.int 57, .int sign], st)) rfl ?_
    refine xr_br gd_X3_isDigit rfl rfl (fun h2 => ?_) (fun h2 => ?_)
    · refine xr_blk gd_X3_isDigit 1 (c' := (17, [(0, .int sign)], [.int 0], st)) rfl ?_
      exact xr_zret gd_X3_isDigit rfl rfl rfl ⟨by first | (rw [F_X3_isDigit, if_neg h1, if_pos h2]; done) | (rw [F_X3_isDigit, if_neg h1, if_pos h2]; rfl), rfl⟩
    · refine xr_blk gd_X3_isDigit 2 (c' := (17, [(0, .int sign)], [.int 1], st)) rfl ?_
      exact xr_zret gd_X3_isDigit rfl rfl rfl ⟨by first | (rw [F_X3_isDigit, if_neg h1, if_neg h2]; done) | (rw [F_X3_isDigit, if_neg h1, if_neg h2]; rfl), rfl⟩
def F_X3_withDigit (st : xs_S) (digit : Int32) : Int32 := (((st 70 7) * 10) + (digit - 48))
set_option maxRecDepth 20000 in
theorem c_X3_withDigit {G : xs_G} {base : Nat} (d : Nat) (st : xs_S) (digit : Int32) : xs_K G base (d + 0) M_X3_withDigit [.ref 70, .int digit] st (fun v u => v = some (.int (F_X3_withDigit st digit)) ∧ u = st) := by
  refine xs_intro ok_X3_withDigit [(0, .ref 70), (1, .int digit)] rfl rfl ?_
  refine xr_blk gd_X3_withDigit 8 (c' := (12, [(0, .ref 70), (1, .int digit)], [.int (((st 70 7) * 10) + (digit - 48))], st)) rfl ?_
  exact xr_iret gd_X3_withDigit rfl rfl ⟨by first | (rw [F_X3_withDigit]; done) | (rw [F_X3_withDigit]; rfl), rfl⟩
def F_X3_sign (st : xs_S) : Int32 := (if (st 70 2) < 0 then 0
    else (if (st 70 1) ≤ (st 70 2) then 0
      else st 71 ((st 70 2).toInt.toNat)))
set_option maxRecDepth 20000 in
theorem c_X3_sign {G : xs_G} {base : Nat} (d : Nat) (st : xs_S) (hp : PW st) : xs_K G base (d + 0) M_X3_sign [.ref 70] st (fun v u => v = some (.int (F_X3_sign st)) ∧ u = st) := by
  refine xs_intro ok_X3_sign [(0, .ref 70)] rfl rfl ?_
  refine xr_blk gd_X3_sign 2 (c' := (4, [(0, .ref 70)], [.int (st 70 2)], st)) rfl ?_
  refine xr_br gd_X3_sign rfl rfl (fun h1 => ?_) (fun h1 => ?_)
  · refine xr_blk gd_X3_sign 1 (c' := (31, [(0, .ref 70)], [.int 0], st)) rfl ?_
    exact xr_zret gd_X3_sign rfl rfl rfl ⟨by first | (rw [F_X3_sign, if_pos h1]; done) | (rw [F_X3_sign, if_pos h1]; rfl), rfl⟩
  · refine xr_blk gd_X3_sign 4 (c' := (15, [(0, .ref 70)], [.int (st 70 1), .int (st 70 2)], st)) rfl ?_
    refine xr_br gd_X3_sign rfl rfl (fun h2 => ?_) (fun h2 => ?_)
    · refine xr_blk gd_X3_sign 1 (c' := (31, [(0, .ref 70)], [.int 0], st)) rfl ?_
      exact xr_zret gd_X3_sign rfl rfl rfl ⟨by first | (rw [F_X3_sign, if_neg h1, if_pos h2]; done) | (rw [F_X3_sign, if_neg h1, if_pos h2]; rfl), rfl⟩
    · refine xr_blk gd_X3_sign 4 (c' := (26, [(0, .ref 70)], [.int (st 70 2), .ref 71], st)) rfl ?_
      refine xr_cald gd_X3_sign rfl rfl ((st 70 2).toInt.toNat) (xs_h1 (n := 80) (by rw [xi_lt, xi_0] at h1; rw [xi_le] at h2; have hq := hp.1; omega)) (xs_h2 (n := 80) (by rw [xi_lt, xi_0] at h1; rw [xi_le] at h2; have hq := hp.1; omega)) ?_
      refine xr_blk gd_X3_sign 1 (c' := (31, [(0, .ref 70)], [.int (st 71 ((st 70 2).toInt.toNat))], st)) rfl ?_
      exact xr_zret gd_X3_sign rfl rfl (xc_nar (by rw [xi_lt, xi_0] at h1; rw [xi_le] at h2; have hq := hp.2 (st 70 2).toInt.toNat (by omega); omega)).1 ⟨by first | (rw [F_X3_sign, if_neg h1, if_neg h2]; done) | (rw [F_X3_sign, if_neg h1, if_neg h2]; rfl), rfl⟩
theorem sign_in {st : xs_S} (hp : PW st) : 0 ≤ (F_X3_sign st).toInt ∧ (F_X3_sign st).toInt < 65536 := by
  unfold F_X3_sign
  by_cases h1 : st 70 2 < 0
  · rw [if_pos h1]; decide
  · rw [if_neg h1]
    by_cases h2 : st 70 1 ≤ st 70 2
    · rw [if_pos h2]; decide
    · rw [if_neg h2]
      rw [xi_lt, xi_0] at h1
      rw [xi_le] at h2
      have hq := hp.2 (st 70 2).toInt.toNat (by omega)
      omega
def F_X3_take (st : xs_S) (wanted : Int32) : Int32 × xs_S := (if (F_X3_sign st) = wanted then (1, xs_u st 70 2 ((st 70 2) + 1))
    else (0, st))
set_option maxRecDepth 20000 in
theorem c_X3_take {G : xs_G} {base : Nat} (d : Nat) (st : xs_S) (wanted : Int32) (hp : PW st) : xs_K G base (d + 1) M_X3_take [.ref 70, .int wanted] st (fun v u => v = some (.int (F_X3_take st wanted).1) ∧ u = (F_X3_take st wanted).2) := by
  refine xs_intro ok_X3_take [(0, .ref 70), (1, .int wanted)] rfl rfl ?_
  refine xr_blk gd_X3_take 1 (c' := (1, [(0, .ref 70), (1, .int wanted)], [.ref 70], st)) rfl ?_
  refine xr_callV gd_X3_take gd_X3_sign k_X3_56 rfl (c_X3_sign (d + 0) st hp) (by omega) rfl rfl rfl rfl rfl ?_
  refine xs_fun ?_
  refine xr_blk gd_X3_take 1 (c' := (5, [(0, .ref 70), (1, .int wanted)], [.int wanted, .int (F_X3_sign st)], st)) rfl ?_
  refine xr_br gd_X3_take rfl rfl (fun h1 => ?_) (fun h1 => ?_)
  · refine xr_blk gd_X3_take 7 (c' := (21, [(0, .ref 70), (1, .int wanted)], [.int 1], xs_u st 70 2 ((st 70 2) + 1))) rfl ?_
    exact xr_zret gd_X3_take rfl rfl rfl ⟨by first | (rw [F_X3_take, if_pos h1]; done) | (rw [F_X3_take, if_pos h1]; rfl), by first | (rw [F_X3_take, if_pos h1]; done) | (rw [F_X3_take, if_pos h1]; rfl)⟩
  · refine xr_blk gd_X3_take 1 (c' := (9, [(0, .ref 70), (1, .int wanted)], [.int 0], st)) rfl ?_
    exact xr_zret gd_X3_take rfl rfl rfl ⟨by first | (rw [F_X3_take, if_neg h1]; done) | (rw [F_X3_take, if_neg h1]; rfl), by first | (rw [F_X3_take, if_neg h1]; done) | (rw [F_X3_take, if_neg h1]; rfl)⟩
theorem sign_at {st : xs_S} (h : ¬ F_X3_sign st = 0) : 0 ≤ (st 70 2).toInt ∧ (st 70 2).toInt < (st 70 1).toInt := by
  unfold F_X3_sign at h
  by_cases h1 : st 70 2 < 0
  · rw [if_pos h1] at h; exact absurd rfl h
  · rw [if_neg h1] at h
    by_cases h2 : st 70 1 ≤ st 70 2
    · rw [if_pos h2] at h; exact absurd rfl h
    · rw [xi_lt, xi_0] at h1
      rw [xi_le] at h2
      omega
theorem pw_at {st : xs_S} {v : Int32} (h : PW st) (hv : 0 ≤ v.toInt ∧ v.toInt ≤ (st 70 1).toInt) : PW (xs_u st 70 2 v) := by
  unfold PW at h ⊢
  rw [xs_rd_s, xs_rd_i (by decide), xs_rd_k (by decide)]
  exact ⟨⟨hv.1, hv.2, h.1.2.2⟩, h.2⟩
theorem pw_take {st : xs_S} {w : Int32} (hw : ¬ w = 0) (hp : PW st) : PW (F_X3_take st w).2 := by
  unfold F_X3_take
  by_cases h1 : F_X3_sign st = w
  · rw [if_pos h1]
    have h2 := sign_at (st := st) (by rw [h1]; exact hw)
    have hb := hp.1
    exact pw_at hp (by rw [xi_inc (by omega)]; omega)
  · rw [if_neg h1]
    exact hp
theorem xp_t0 {st : xs_S} (hp : PW st) : PW (xs_u st 70 7 0) ∧ (xs_u st 70 7 0 70 1).toInt < (xs_u st 70 7 0 70 2).toInt + ((82 : Nat) : Int) := by
  refine ⟨pw_u (by decide) hp, ?_⟩
  show (st 70 1).toInt < (st 70 2).toInt + ((82 : Nat) : Int)
  have hb := hp.1
  omega
theorem xp_t {st : xs_S} {v : Int32} {n : Nat} (h : PW st ∧ (st 70 1).toInt < (st 70 2).toInt + ((n + 1 : Nat) : Int)) (h1 : ¬ st 70 1 ≤ st 70 2) : PW (xs_u (xs_u st 70 7 v) 70 2 (st 70 2 + 1)) ∧ (xs_u (xs_u st 70 7 v) 70 2 (st 70 2 + 1) 70 1).toInt < (xs_u (xs_u st 70 7 v) 70 2 (st 70 2 + 1) 70 2).toInt + (n : Int) := by
  have hb := h.1.1
  rw [xi_le] at h1
  refine ⟨pw_at (pw_u (by decide) h.1) (by rw [xi_inc (by omega)]; show _ ∧ _ ≤ (st 70 1).toInt; omega), ?_⟩
  show (st 70 1).toInt < (st 70 2 + 1).toInt + (n : Int)
  rw [xi_inc (by omega)]
  omega
def lp_X3_takeNumber_10 : Nat → Int32 → xs_S → Int32 × xs_S
  | 0, _, st => (0, st)
  | n + 1, x1, st => (if (st 70 1) ≤ (st 70 2) then (if (st 70 2) ≤ x1 then (0, st)
      else (1, st))
    else (if (F_X3_isDigit st (F_X3_sign st)) = 0 then (if (st 70 2) ≤ x1 then (0, st)
        else (1, st))
      else (if (st 70 2) = x1 then (if 9999 < (F_X3_withDigit st (F_X3_sign st)) then (if (st 70 2) ≤ x1 then (0, st)
            else (1, st))
          else lp_X3_takeNumber_10 n x1 (xs_u (xs_u st 70 7 (F_X3_withDigit st (F_X3_sign st))) 70 2 ((st 70 2) + 1)))
        else (if (st 70 7) ≤ 0 then (if (st 70 2) ≤ x1 then (0, st)
            else (1, st))
          else (if 9999 < (F_X3_withDigit st (F_X3_sign st)) then (if (st 70 2) ≤ x1 then (0, st)
              else (1, st))
            else lp_X3_takeNumber_10 n x1 (xs_u (xs_u st 70 7 (F_X3_withDigit st (F_X3_sign st))) 70 2 ((st 70 2) + 1)))))))
set_option maxRecDepth 20000 in
theorem cl_X3_takeNumber_10 {G : xs_G} {base : Nat} (d : Nat) : ∀ (n : Nat) (x1 : Int32) (st : xs_S), PW st ∧ (st 70 1).toInt < (st 70 2).toInt + (n : Int) → xs_R G base (d + 1) M_X3_takeNumber (10, [(0, .ref 70), (1, .int x1)], [], st) (fun v u => v = some (.int (lp_X3_takeNumber_10 n x1 st).1) ∧ u = (lp_X3_takeNumber_10 n x1 st).2) := by
  intro n
  induction n with
  | zero =>
    intro x1 st hinv
    exfalso
    have hq := hinv.1.1
    omega
  | succ n ih =>
    intro x1 st hinv
    have hp := hinv.1
    refine xr_blk gd_X3_takeNumber 4 (c' := (18, [(0, .ref 70), (1, .int x1)], [.int (st 70 1), .int (st 70 2)], st)) rfl ?_
    refine xr_br gd_X3_takeNumber rfl rfl (fun h1 => ?_) (fun h1 => ?_)
    · refine xr_blk gd_X3_takeNumber 3 (c' := (90, [(0, .ref 70), (1, .int x1)], [.int x1, .int (st 70 2)], st)) rfl ?_
      refine xr_br gd_X3_takeNumber rfl rfl (fun h2 => ?_) (fun h2 => ?_)
      · refine xr_blk gd_X3_takeNumber 1 (c' := (98, [(0, .ref 70), (1, .int x1)], [.int 0], st)) rfl ?_
        exact xr_zret gd_X3_takeNumber rfl rfl rfl ⟨by first | (rw [lp_X3_takeNumber_10, if_pos h1, if_pos h2]; done) | (rw [lp_X3_takeNumber_10, if_pos h1, if_pos h2]; rfl), by first | (rw [lp_X3_takeNumber_10, if_pos h1, if_pos h2]; done) | (rw [lp_X3_takeNumber_10, if_pos h1, if_pos h2]; rfl)⟩
      · refine xr_blk gd_X3_takeNumber 2 (c' := (98, [(0, .ref 70), (1, .int x1)], [.int 1], st)) rfl ?_
        exact xr_zret gd_X3_takeNumber rfl rfl rfl ⟨by first | (rw [lp_X3_takeNumber_10, if_pos h1, if_neg h2]; done) | (rw [lp_X3_takeNumber_10, if_pos h1, if_neg h2]; rfl), by first | (rw [lp_X3_takeNumber_10, if_pos h1, if_neg h2]; done) | (rw [lp_X3_takeNumber_10, if_pos h1, if_neg h2]; rfl)⟩
    · refine xr_blk gd_X3_takeNumber 1 (c' := (22, [(0, .ref 70), (1, .int x1)], [.ref 70], st)) rfl ?_
      refine xr_callV gd_X3_takeNumber gd_X3_sign k_X3_56 rfl (c_X3_sign (d + 0) st hp) (by omega) rfl rfl rfl rfl rfl ?_
      refine xs_fun ?_
      refine xr_callS gd_X3_takeNumber gd_X3_isDigit k_X3_75 rfl (c_X3_isDigit (d + 0) st (F_X3_sign st)) (by omega) rfl rfl rfl ?_
      refine xs_fun ?_
      refine xr_br gd_X3_takeNumber rfl rfl (fun h3 => ?_) (fun h3 => ?_)
      · refine xr_blk gd_X3_takeNumber 3 (c' := (90, [(0, .ref 70), (1, .int x1)], [.int x1, .int (st 70 2)], st)) rfl ?_
        refine xr_br gd_X3_takeNumber rfl rfl (fun h4 => ?_) (fun h4 => ?_)
        · refine xr_blk gd_X3_takeNumber 1 (c' := (98, [(0, .ref 70), (1, .int x1)], [.int 0], st)) rfl ?_
          exact xr_zret gd_X3_takeNumber rfl rfl rfl ⟨by first | (rw [lp_X3_takeNumber_10, if_neg h1, if_pos h3, if_pos h4]; done) | (rw [lp_X3_takeNumber_10, if_neg h1, if_pos h3, if_pos h4]; rfl), by first | (rw [lp_X3_takeNumber_10, if_neg h1, if_pos h3, if_pos h4]; done) | (rw [lp_X3_takeNumber_10, if_neg h1, if_pos h3, if_pos h4]; rfl)⟩
        · refine xr_blk gd_X3_takeNumber 2 (c' := (98, [(0, .ref 70), (1, .int x1)], [.int 1], st)) rfl ?_
          exact xr_zret gd_X3_takeNumber rfl rfl rfl ⟨by first | (rw [lp_X3_takeNumber_10, if_neg h1, if_pos h3, if_neg h4]; done) | (rw [lp_X3_takeNumber_10, if_neg h1, if_pos h3, if_neg h4]; rfl), by first | (rw [lp_X3_takeNumber_10, if_neg h1, if_pos h3, if_neg h4]; done) | (rw [lp_X3_takeNumber_10, if_neg h1, if_pos h3, if_neg h4]; rfl)⟩
      · refine xr_blk gd_X3_takeNumber 3 (c' := (36, [(0, .ref 70), (1, .int x1)], [.int x1, .int (st 70 2)], st)) rfl ?_
        refine xr_br gd_X3_takeNumber rfl rfl (fun h5 => ?_) (fun h5 => ?_)
        · refine xr_blk gd_X3_takeNumber 2 (c' := (48, [(0, .ref 70), (1, .int x1)], [.ref 70, .ref 70], st)) rfl ?_
          refine xr_callV gd_X3_takeNumber gd_X3_sign k_X3_56 rfl (c_X3_sign (d + 0) st hp) (by omega) rfl rfl rfl rfl rfl ?_
          refine xs_fun ?_
          refine xr_callV gd_X3_takeNumber gd_X3_withDigit k_X3_78 rfl (c_X3_withDigit (d + 0) st (F_X3_sign st)) (by omega) rfl rfl rfl rfl rfl ?_
          refine xs_fun ?_
          refine xr_blk gd_X3_takeNumber 1 (c' := (57, [(0, .ref 70), (1, .int x1)], [.int 9999, .int (F_X3_withDigit st (F_X3_sign st))], st)) rfl ?_
          refine xr_br gd_X3_takeNumber rfl rfl (fun h6 => ?_) (fun h6 => ?_)
          · refine xr_blk gd_X3_takeNumber 3 (c' := (90, [(0, .ref 70), (1, .int x1)], [.int x1, .int (st 70 2)], st)) rfl ?_
            refine xr_br gd_X3_takeNumber rfl rfl (fun h7 => ?_) (fun h7 => ?_)
            · refine xr_blk gd_X3_takeNumber 1 (c' := (98, [(0, .ref 70), (1, .int x1)], [.int 0], st)) rfl ?_
              exact xr_zret gd_X3_takeNumber rfl rfl rfl ⟨by first | (rw [lp_X3_takeNumber_10, if_neg h1, if_neg h3, if_pos h5, if_pos h6, if_pos h7]; done) | (rw [lp_X3_takeNumber_10, if_neg h1, if_neg h3, if_pos h5, if_pos h6, if_pos h7]; rfl), by first | (rw [lp_X3_takeNumber_10, if_neg h1, if_neg h3, if_pos h5, if_pos h6, if_pos h7]; done) | (rw [lp_X3_takeNumber_10, if_neg h1, if_neg h3, if_pos h5, if_pos h6, if_pos h7]; rfl)⟩
            · refine xr_blk gd_X3_takeNumber 2 (c' := (98, [(0, .ref 70), (1, .int x1)], [.int 1], st)) rfl ?_
              exact xr_zret gd_X3_takeNumber rfl rfl rfl ⟨by first | (rw [lp_X3_takeNumber_10, if_neg h1, if_neg h3, if_pos h5, if_pos h6, if_neg h7]; done) | (rw [lp_X3_takeNumber_10, if_neg h1, if_neg h3, if_pos h5, if_pos h6, if_neg h7]; rfl), by first | (rw [lp_X3_takeNumber_10, if_neg h1, if_neg h3, if_pos h5, if_pos h6, if_neg h7]; done) | (rw [lp_X3_takeNumber_10, if_neg h1, if_neg h3, if_pos h5, if_pos h6, if_neg h7]; rfl)⟩
          · refine xr_blk gd_X3_takeNumber 3 (c' := (63, [(0, .ref 70), (1, .int x1)], [.ref 70, .ref 70, .ref 70], st)) rfl ?_
            refine xr_callV gd_X3_takeNumber gd_X3_sign k_X3_56 rfl (c_X3_sign (d + 0) st hp) (by omega) rfl rfl rfl rfl rfl ?_
            refine xs_fun ?_
            refine xr_callV gd_X3_takeNumber gd_X3_withDigit k_X3_78 rfl (c_X3_withDigit (d + 0) st (F_X3_sign st)) (by omega) rfl rfl rfl rfl rfl ?_
            refine xs_fun ?_
            refine xr_blk gd_X3_takeNumber 8 (c' := (10, [(0, .ref 70), (1, .int x1)], [], xs_u (xs_u st 70 7 (F_X3_withDigit st (F_X3_sign st))) 70 2 ((st 70 2) + 1))) rfl ?_
            refine xs_cons (ih x1 (xs_u (xs_u st 70 7 (F_X3_withDigit st (F_X3_sign st))) 70 2 ((st 70 2) + 1)) (by first | exact xp_t hinv h1)) (fun v u hq => ?_)
            rw [lp_X3_takeNumber_10, if_neg h1, if_neg h3, if_pos h5, if_neg h6]; exact hq
        · refine xr_blk gd_X3_takeNumber 2 (c' := (43, [(0, .ref 70), (1, .int x1)], [.int (st 70 7)], st)) rfl ?_
          refine xr_br gd_X3_takeNumber rfl rfl (fun h8 => ?_) (fun h8 => ?_)
          · refine xr_blk gd_X3_takeNumber 3 (c' := (90, [(0, .ref 70), (1, .int x1)], [.int x1, .int (st 70 2)], st)) rfl ?_
            refine xr_br gd_X3_takeNumber rfl rfl (fun h9 => ?_) (fun h9 => ?_)
            · refine xr_blk gd_X3_takeNumber 1 (c' := (98, [(0, .ref 70), (1, .int x1)], [.int 0], st)) rfl ?_
              exact xr_zret gd_X3_takeNumber rfl rfl rfl ⟨by first | (rw [lp_X3_takeNumber_10, if_neg h1, if_neg h3, if_neg h5, if_pos h8, if_pos h9]; done) | (rw [lp_X3_takeNumber_10, if_neg h1, if_neg h3, if_neg h5, if_pos h8, if_pos h9]; rfl), by first | (rw [lp_X3_takeNumber_10, if_neg h1, if_neg h3, if_neg h5, if_pos h8, if_pos h9]; done) | (rw [lp_X3_takeNumber_10, if_neg h1, if_neg h3, if_neg h5, if_pos h8, if_pos h9]; rfl)⟩
            · refine xr_blk gd_X3_takeNumber 2 (c' := (98, [(0, .ref 70), (1, .int x1)], [.int 1], st)) rfl ?_
              exact xr_zret gd_X3_takeNumber rfl rfl rfl ⟨by first | (rw [lp_X3_takeNumber_10, if_neg h1, if_neg h3, if_neg h5, if_pos h8, if_neg h9]; done) | (rw [lp_X3_takeNumber_10, if_neg h1, if_neg h3, if_neg h5, if_pos h8, if_neg h9]; rfl), by first | (rw [lp_X3_takeNumber_10, if_neg h1, if_neg h3, if_neg h5, if_pos h8, if_neg h9]; done) | (rw [lp_X3_takeNumber_10, if_neg h1, if_neg h3, if_neg h5, if_pos h8, if_neg h9]; rfl)⟩
          · refine xr_blk gd_X3_takeNumber 2 (c' := (48, [(0, .ref 70), (1, .int x1)], [.ref 70, .ref 70], st)) rfl ?_
            refine xr_callV gd_X3_takeNumber gd_X3_sign k_X3_56 rfl (c_X3_sign (d + 0) st hp) (by omega) rfl rfl rfl rfl rfl ?_
            refine xs_fun ?_
            refine xr_callV gd_X3_takeNumber gd_X3_withDigit k_X3_78 rfl (c_X3_withDigit (d + 0) st (F_X3_sign st)) (by omega) rfl rfl rfl rfl rfl ?_
            refine xs_fun ?_
            refine xr_blk gd_X3_takeNumber 1 (c' := (57, [(0, .ref 70), (1, .int x1)], [.int 9999, .int (F_X3_withDigit st (F_X3_sign st))], st)) rfl ?_
            refine xr_br gd_X3_takeNumber rfl rfl (fun h10 => ?_) (fun h10 => ?_)
            · refine xr_blk gd_X3_takeNumber 3 (c' := (90, [(0, .ref 70), (1, .int x1)], [.int x1, .int (st 70 2)], st)) rfl ?_
              refine xr_br gd_X3_takeNumber rfl rfl (fun h11 => ?_) (fun h11 => ?_)
              · refine xr_blk gd_X3_takeNumber 1 (c' := (98, [(0, .ref 70), (1, .int x1)], [.int 0], st)) rfl ?_
                exact xr_zret gd_X3_takeNumber rfl rfl rfl ⟨by first | (rw [lp_X3_takeNumber_10, if_neg h1, if_neg h3, if_neg h5, if_neg h8, if_pos h10, if_pos h11]; done) | (rw [lp_X3_takeNumber_10, if_neg h1, if_neg h3, if_neg h5, if_neg h8, if_pos h10, if_pos h11]; rfl), by first | (rw [lp_X3_takeNumber_10, if_neg h1, if_neg h3, if_neg h5, if_neg h8, if_pos h10, if_pos h11]; done) | (rw [lp_X3_takeNumber_10, if_neg h1, if_neg h3, if_neg h5, if_neg h8, if_pos h10, if_pos h11]; rfl)⟩
              · refine xr_blk gd_X3_takeNumber 2 (c' := (98, [(0, .ref 70), (1, .int x1)], [.int 1], st)) rfl ?_
                exact xr_zret gd_X3_takeNumber rfl rfl rfl ⟨by first | (rw [lp_X3_takeNumber_10, if_neg h1, if_neg h3, if_neg h5, if_neg h8, if_pos h10, if_neg h11]; done) | (rw [lp_X3_takeNumber_10, if_neg h1, if_neg h3, if_neg h5, if_neg h8, if_pos h10, if_neg h11]; rfl), by first | (rw [lp_X3_takeNumber_10, if_neg h1, if_neg h3, if_neg h5, if_neg h8, if_pos h10, if_neg h11]; done) | (rw [lp_X3_takeNumber_10, if_neg h1, if_neg h3, if_neg h5, if_neg h8, if_pos h10, if_neg h11]; rfl)⟩
            · refine xr_blk gd_X3_takeNumber 3 (c' := (63, [(0, .ref 70), (1, .int x1)], [.ref 70, .ref 70, .ref 70], st)) rfl ?_
              refine xr_callV gd_X3_takeNumber gd_X3_sign k_X3_56 rfl (c_X3_sign (d + 0) st hp) (by omega) rfl rfl rfl rfl rfl ?_
              refine xs_fun ?_
              refine xr_callV gd_X3_takeNumber gd_X3_withDigit k_X3_78 rfl (c_X3_withDigit (d + 0) st (F_X3_sign st)) (by omega) rfl rfl rfl rfl rfl ?_
              refine xs_fun ?_
              refine xr_blk gd_X3_takeNumber 8 (c' := (10, [(0, .ref 70), (1, .int x1)], [], xs_u (xs_u st 70 7 (F_X3_withDigit st (F_X3_sign st))) 70 2 ((st 70 2) + 1))) rfl ?_
              refine xs_cons (ih x1 (xs_u (xs_u st 70 7 (F_X3_withDigit st (F_X3_sign st))) 70 2 ((st 70 2) + 1)) (by first | exact xp_t hinv h1)) (fun v u hq => ?_)
              rw [lp_X3_takeNumber_10, if_neg h1, if_neg h3, if_neg h5, if_neg h8, if_neg h10]; exact hq
def F_X3_takeNumber (st : xs_S) : Int32 × xs_S := lp_X3_takeNumber_10 82 (st 70 2) (xs_u st 70 7 0)
set_option maxRecDepth 20000 in
theorem c_X3_takeNumber {G : xs_G} {base : Nat} (d : Nat) (st : xs_S) (hp : PW st) : xs_K G base (d + 1) M_X3_takeNumber [.ref 70] st (fun v u => v = some (.int (F_X3_takeNumber st).1) ∧ u = (F_X3_takeNumber st).2) := by
  refine xs_intro ok_X3_takeNumber [(0, .ref 70)] rfl rfl ?_
  refine xr_blk gd_X3_takeNumber 6 (c' := (10, [(0, .ref 70), (1, .int (st 70 2))], [], xs_u st 70 7 0)) rfl ?_
  refine xs_cons (cl_X3_takeNumber_10 d 82 (st 70 2) (xs_u st 70 7 0) (xp_t0 hp)) (fun v u hq => ?_)
  rw [F_X3_takeNumber]; exact hq
theorem tn_01 {st : xs_S} : (F_X3_takeNumber st).1 = 0 ∨ (F_X3_takeNumber st).1 = 1 := by
  unfold F_X3_takeNumber
  have key : ∀ (n : Nat) (x : Int32) (s : xs_S), (lp_X3_takeNumber_10 n x s).1 = 0 ∨ (lp_X3_takeNumber_10 n x s).1 = 1 := by
    intro n
    induction n with
    | zero => intro x s; exact Or.inl rfl
    | succ n ih =>
      intro x s
      unfold lp_X3_takeNumber_10
      repeat' split
      all_goals first | with_reducible exact ih _ _ | with_reducible exact Or.inl rfl | with_reducible exact Or.inr rfl
  exact key _ _ _
theorem pw_tn {st : xs_S} (hp : PW st) : PW (F_X3_takeNumber st).2 := by
  unfold F_X3_takeNumber
  have key : ∀ (n : Nat) (x : Int32) (s : xs_S), PW s → PW (lp_X3_takeNumber_10 n x s).2 := by
    intro n
    induction n with
    | zero => intro x s h; exact h
    | succ n ih =>
      intro x s h
      unfold lp_X3_takeNumber_10
      split
      · split <;> with_reducible exact h
      · rename_i h1
        have hb := h.1
        rw [xi_le] at h1
        have hn : PW (xs_u (xs_u s 70 7 (F_X3_withDigit s (F_X3_sign s))) 70 2 (s 70 2 + 1)) := pw_at (pw_u (by decide) h) (by rw [xi_inc (by omega)]; show _ ∧ _ ≤ (s 70 1).toInt; omega)
        repeat' split
        all_goals first | with_reducible exact h | with_reducible exact ih _ _ hn
  exact key _ _ _ (pw_u (by decide) hp)
def F_X3_takeFirst (st : xs_S) : Int32 × xs_S := ((F_X3_takeNumber st).1, xs_u ((F_X3_takeNumber st).2) 70 4 (((F_X3_takeNumber st).2) 70 7))
set_option maxRecDepth 20000 in
theorem c_X3_takeFirst {G : xs_G} {base : Nat} (d : Nat) (st : xs_S) (hp : PW st) : xs_K G base (d + 2) M_X3_takeFirst [.ref 70] st (fun v u => v = some (.int (F_X3_takeFirst st).1) ∧ u = (F_X3_takeFirst st).2) := by
  refine xs_intro ok_X3_takeFirst [(0, .ref 70)] rfl rfl ?_
  refine xr_blk gd_X3_takeFirst 1 (c' := (1, [(0, .ref 70)], [.ref 70], st)) rfl ?_
  refine xr_callV gd_X3_takeFirst gd_X3_takeNumber k_X3_69 rfl (c_X3_takeNumber (d + 0) st hp) (by omega) rfl rfl rfl rfl rfl ?_
  refine xs_fun ?_
  refine xr_blk gd_X3_takeFirst 6 (c' := (14, [(0, .ref 70), (1, .int ((F_X3_takeNumber st).1))], [.int ((F_X3_takeNumber st).1)], xs_u ((F_X3_takeNumber st).2) 70 4 (((F_X3_takeNumber st).2) 70 7))) rfl ?_
  exact xr_zret gd_X3_takeFirst rfl rfl (xz_01 tn_01) ⟨by first | (rw [F_X3_takeFirst]; done) | (rw [F_X3_takeFirst]; rfl), by first | (rw [F_X3_takeFirst]; done) | (rw [F_X3_takeFirst]; rfl)⟩
def F_X3_takeSecond (st : xs_S) : Int32 × xs_S := ((F_X3_takeNumber st).1, xs_u ((F_X3_takeNumber st).2) 70 5 (((F_X3_takeNumber st).2) 70 7))
set_option maxRecDepth 20000 in
theorem c_X3_takeSecond {G : xs_G} {base : Nat} (d : Nat) (st : xs_S) (hp : PW st) : xs_K G base (d + 2) M_X3_takeSecond [.ref 70] st (fun v u => v = some (.int (F_X3_takeSecond st).1) ∧ u = (F_X3_takeSecond st).2) := by
  refine xs_intro ok_X3_takeSecond [(0, .ref 70)] rfl rfl ?_
  refine xr_blk gd_X3_takeSecond 1 (c' := (1, [(0, .ref 70)], [.ref 70], st)) rfl ?_
  refine xr_callV gd_X3_takeSecond gd_X3_takeNumber k_X3_69 rfl (c_X3_takeNumber (d + 0) st hp) (by omega) rfl rfl rfl rfl rfl ?_
  refine xs_fun ?_
  refine xr_blk gd_X3_takeSecond 6 (c' := (14, [(0, .ref 70), (1, .int ((F_X3_takeNumber st).1))], [.int ((F_X3_takeNumber st).1)], xs_u ((F_X3_takeNumber st).2) 70 5 (((F_X3_takeNumber st).2) 70 7))) rfl ?_
  exact xr_zret gd_X3_takeSecond rfl rfl (xz_01 tn_01) ⟨by first | (rw [F_X3_takeSecond]; done) | (rw [F_X3_takeSecond]; rfl), by first | (rw [F_X3_takeSecond]; done) | (rw [F_X3_takeSecond]; rfl)⟩
def F_X3_takeThird (st : xs_S) : Int32 × xs_S := ((F_X3_takeNumber st).1, xs_u ((F_X3_takeNumber st).2) 70 6 (((F_X3_takeNumber st).2) 70 7))
set_option maxRecDepth 20000 in
theorem c_X3_takeThird {G : xs_G} {base : Nat} (d : Nat) (st : xs_S) (hp : PW st) : xs_K G base (d + 2) M_X3_takeThird [.ref 70] st (fun v u => v = some (.int (F_X3_takeThird st).1) ∧ u = (F_X3_takeThird st).2) := by
  refine xs_intro ok_X3_takeThird [(0, .ref 70)] rfl rfl ?_
  refine xr_blk gd_X3_takeThird 1 (c' := (1, [(0, .ref 70)], [.ref 70], st)) rfl ?_
  refine xr_callV gd_X3_takeThird gd_X3_takeNumber k_X3_69 rfl (c_X3_takeNumber (d + 0) st hp) (by omega) rfl rfl rfl rfl rfl ?_
  refine xs_fun ?_
  refine xr_blk gd_X3_takeThird 6 (c' := (14, [(0, .ref 70), (1, .int ((F_X3_takeNumber st).1))], [.int ((F_X3_takeNumber st).1)], xs_u ((F_X3_takeNumber st).2) 70 6 (((F_X3_takeNumber st).2) 70 7))) rfl ?_
  exact xr_zret gd_X3_takeThird rfl rfl (xz_01 tn_01) ⟨by first | (rw [F_X3_takeThird]; done) | (rw [F_X3_takeThird]; rfl), by first | (rw [F_X3_takeThird]; done) | (rw [F_X3_takeThird]; rfl)⟩
theorem pw_tf {st : xs_S} (hp : PW st) : PW (F_X3_takeFirst st).2 := pw_u (by decide) (pw_tn hp)
theorem pw_ts {st : xs_S} (hp : PW st) : PW (F_X3_takeSecond st).2 := pw_u (by decide) (pw_tn hp)
theorem pw_tt {st : xs_S} (hp : PW st) : PW (F_X3_takeThird st).2 := pw_u (by decide) (pw_tn hp)
theorem tf_01 {st : xs_S} : (F_X3_takeFirst st).1 = 0 ∨ (F_X3_takeFirst st).1 = 1 := tn_01
def F_X3_nextOrder (st : xs_S) : Int32 × xs_S := (if (st 70 2) ≤ 0 then (if ((F_X3_take (xs_u (xs_u st 70 3 (F_X3_sign st)) 70 6 0) 100).1) = 0 then (if ((F_X3_take ((F_X3_take (xs_u (xs_u st 70 3 (F_X3_sign st)) 70 6 0) 100).2) 97).1) = 0 then (if ((F_X3_take ((F_X3_take ((F_X3_take (xs_u (xs_u st 70 3 (F_X3_sign st)) 70 6 0) 100).2) 97).2) 116).1) = 0 then (if ((F_X3_take ((F_X3_take ((F_X3_take ((F_X3_take (xs_u (xs_u st 70 3 (F_X3_sign st)) 70 6 0) 100).2) 97).2) 116).2) 114).1) = 0 then (0, (F_X3_take ((F_X3_take ((F_X3_take ((F_X3_take (xs_u (xs_u st 70 3 (F_X3_sign st)) 70 6 0) 100).2) 97).2) 116).2) 114).2)
            else (if ((F_X3_takeFirst ((F_X3_take ((F_X3_take ((F_X3_take ((F_X3_take (xs_u (xs_u st 70 3 (F_X3_sign st)) 70 6 0) 100).2) 97).2) 116).2) 114).2)).1) = 0 then (0, (F_X3_takeFirst ((F_X3_take ((F_X3_take ((F_X3_take ((F_X3_take (xs_u (xs_u st 70 3 (F_X3_sign st)) 70 6 0) 100).2) 97).2) 116).2) 114).2)).2)
              else (if ((F_X3_take ((F_X3_takeFirst ((F_X3_take ((F_X3_take ((F_X3_take ((F_X3_take (xs_u (xs_u st 70 3 (F_X3_sign st)) 70 6 0) 100).2) 97).2) 116).2) 114).2)).2) 61).1) = 0 then (0, (F_X3_take ((F_X3_takeFirst ((F_X3_take ((F_X3_take ((F_X3_take ((F_X3_take (xs_u (xs_u st 70 3 (F_X3_sign st)) 70 6 0) 100).2) 97).2) 116).2) 114).2)).2) 61).2)
                else (if ((F_X3_takeSecond ((F_X3_take ((F_X3_takeFirst ((F_X3_take ((F_X3_take ((F_X3_take ((F_X3_take (xs_u (xs_u st 70 3 (F_X3_sign st)) 70 6 0) 100).2) 97).2) 116).2) 114).2)).2) 61).2)).1) = 0 then (0, (F_X3_takeSecond ((F_X3_take ((F_X3_takeFirst ((F_X3_take ((F_X3_take ((F_X3_take ((F_X3_take (xs_u (xs_u st 70 3 (F_X3_sign st)) 70 6 0) 100).2) 97).2) 116).2) 114).2)).2) 61).2)).2)
                  else (if ((F_X3_take ((F_X3_takeSecond ((F_X3_take ((F_X3_takeFirst ((F_X3_take ((F_X3_take ((F_X3_take ((F_X3_take (xs_u (xs_u st 70 3 (F_X3_sign st)) 70 6 0) 100).2) 97).2) 116).2) 114).2)).2) 61).2)).2) 126).1) = 0 then (1, (F_X3_take ((F_X3_takeSecond ((F_X3_take ((F_X3_takeFirst ((F_X3_take ((F_X3_take ((F_X3_take ((F_X3_take (xs_u (xs_u st 70 3 (F_X3_sign st)) 70 6 0) 100).2) 97).2) 116).2) 114).2)).2) 61).2)).2) 126).2)
                    else (if ((F_X3_takeThird ((F_X3_take ((F_X3_takeSecond ((F_X3_take ((F_X3_takeFirst ((F_X3_take ((F_X3_take ((F_X3_take ((F_X3_take (xs_u (xs_u st 70 3 (F_X3_sign st)) 70 6 0) 100).2) 97).2) 116).2) 114).2)).2) 61).2)).2) 126).2)).1) = 0 then (0, (F_X3_takeThird ((F_X3_take ((F_X3_takeSecond ((F_X3_take ((F_X3_takeFirst ((F_X3_take ((F_X3_take ((F_X3_take ((F_X3_take (xs_u (xs_u st 70 3 (F_X3_sign st)) 70 6 0) 100).2) 97).2) 116).2) 114).2)).2) 61).2)).2) 126).2)).2)
                      else (1, (F_X3_takeThird ((F_X3_take ((F_X3_takeSecond ((F_X3_take ((F_X3_takeFirst ((F_X3_take ((F_X3_take ((F_X3_take ((F_X3_take (xs_u (xs_u st 70 3 (F_X3_sign st)) 70 6 0) 100).2) 97).2) 116).2) 114).2)).2) 61).2)).2) 126).2)).2)))))))
          else ((F_X3_takeFirst ((F_X3_take ((F_X3_take ((F_X3_take (xs_u (xs_u st 70 3 (F_X3_sign st)) 70 6 0) 100).2) 97).2) 116).2)).1, (F_X3_takeFirst ((F_X3_take ((F_X3_take ((F_X3_take (xs_u (xs_u st 70 3 (F_X3_sign st)) 70 6 0) 100).2) 97).2) 116).2)).2))
        else (1, (F_X3_take ((F_X3_take (xs_u (xs_u st 70 3 (F_X3_sign st)) 70 6 0) 100).2) 97).2))
      else (1, (F_X3_take (xs_u (xs_u st 70 3 (F_X3_sign st)) 70 6 0) 100).2))
    else (if ((F_X3_take st 59).1) = 0 then (0, (F_X3_take st 59).2)
      else (if ((F_X3_take (xs_u (xs_u ((F_X3_take st 59).2) 70 3 (F_X3_sign ((F_X3_take st 59).2))) 70 6 0) 100).1) = 0 then (if ((F_X3_take ((F_X3_take (xs_u (xs_u ((F_X3_take st 59).2) 70 3 (F_X3_sign ((F_X3_take st 59).2))) 70 6 0) 100).2) 97).1) = 0 then (if ((F_X3_take ((F_X3_take ((F_X3_take (xs_u (xs_u ((F_X3_take st 59).2) 70 3 (F_X3_sign ((F_X3_take st 59).2))) 70 6 0) 100).2) 97).2) 116).1) = 0 then (if ((F_X3_take ((F_X3_take ((F_X3_take ((F_X3_take (xs_u (xs_u ((F_X3_take st 59).2) 70 3 (F_X3_sign ((F_X3_take st 59).2))) 70 6 0) 100).2) 97).2) 116).2) 114).1) = 0 then (0, (F_X3_take ((F_X3_take ((F_X3_take ((F_X3_take (xs_u (xs_u ((F_X3_take st 59).2) 70 3 (F_X3_sign ((F_X3_take st 59).2))) 70 6 0) 100).2) 97).2) 116).2) 114).2)
              else (if ((F_X3_takeFirst ((F_X3_take ((F_X3_take ((F_X3_take ((F_X3_take (xs_u (xs_u ((F_X3_take st 59).2) 70 3 (F_X3_sign ((F_X3_take st 59).2))) 70 6 0) 100).2) 97).2) 116).2) 114).2)).1) = 0 then (0, (F_X3_takeFirst ((F_X3_take ((F_X3_take ((F_X3_take ((F_X3_take (xs_u (xs_u ((F_X3_take st 59).2) 70 3 (F_X3_sign ((F_X3_take st 59).2))) 70 6 0) 100).2) 97).2) 116).2) 114).2)).2)
                else (if ((F_X3_take ((F_X3_takeFirst ((F_X3_take ((F_X3_take ((F_X3_take ((F_X3_take (xs_u (xs_u ((F_X3_take st 59).2) 70 3 (F_X3_sign ((F_X3_take st 59).2))) 70 6 0) 100).2) 97).2) 116).2) 114).2)).2) 61).1) = 0 then (0, (F_X3_take ((F_X3_takeFirst ((F_X3_take ((F_X3_take ((F_X3_take ((F_X3_take (xs_u (xs_u ((F_X3_take st 59).2) 70 3 (F_X3_sign ((F_X3_take st 59).2))) 70 6 0) 100).2) 97).2) 116).2) 114).2)).2) 61).2)
                  else (if ((F_X3_takeSecond ((F_X3_take ((F_X3_takeFirst ((F_X3_take ((F_X3_take ((F_X3_take ((F_X3_take (xs_u (xs_u ((F_X3_take st 59).2) 70 3 (F_X3_sign ((F_X3_take st 59).2))) 70 6 0) 100).2) 97).2) 116).2) 114).2)).2) 61).2)).1) = 0 then (0, (F_X3_takeSecond ((F_X3_take ((F_X3_takeFirst ((F_X3_take ((F_X3_take ((F_X3_take ((F_X3_take (xs_u (xs_u ((F_X3_take st 59).2) 70 3 (F_X3_sign ((F_X3_take st 59).2))) 70 6 0) 100).2) 97).2) 116).2) 114).2)).2) 61).2)).2)
                    else (if ((F_X3_take ((F_X3_takeSecond ((F_X3_take ((F_X3_takeFirst ((F_X3_take ((F_X3_take ((F_X3_take ((F_X3_take (xs_u (xs_u ((F_X3_take st 59).2) 70 3 (F_X3_sign ((F_X3_take st 59).2))) 70 6 0) 100).2) 97).2) 116).2) 114).2)).2) 61).2)).2) 126).1) = 0 then (1, (F_X3_take ((F_X3_takeSecond ((F_X3_take ((F_X3_takeFirst ((F_X3_take ((F_X3_take ((F_X3_take ((F_X3_take (xs_u (xs_u ((F_X3_take st 59).2) 70 3 (F_X3_sign ((F_X3_take st 59).2))) 70 6 0) 100).2) 97).2) 116).2) 114).2)).2) 61).2)).2) 126).2)
                      else (if ((F_X3_takeThird ((F_X3_take ((F_X3_takeSecond ((F_X3_take ((F_X3_takeFirst ((F_X3_take ((F_X3_take ((F_X3_take ((F_X3_take (xs_u (xs_u ((F_X3_take st 59).2) 70 3 (F_X3_sign ((F_X3_take st 59).2))) 70 6 0) 100).2) 97).2) 116).2) 114).2)).2) 61).2)).2) 126).2)).1) = 0 then (0, (F_X3_takeThird ((F_X3_take ((F_X3_takeSecond ((F_X3_take ((F_X3_takeFirst ((F_X3_take ((F_X3_take ((F_X3_take ((F_X3_take (xs_u (xs_u ((F_X3_take st 59).2) 70 3 (F_X3_sign ((F_X3_take st 59).2))) 70 6 0) 100).2) 97).2) 116).2) 114).2)).2) 61).2)).2) 126).2)).2)
                        else (1, (F_X3_takeThird ((F_X3_take ((F_X3_takeSecond ((F_X3_take ((F_X3_takeFirst ((F_X3_take ((F_X3_take ((F_X3_take ((F_X3_take (xs_u (xs_u ((F_X3_take st 59).2) 70 3 (F_X3_sign ((F_X3_take st 59).2))) 70 6 0) 100).2) 97).2) 116).2) 114).2)).2) 61).2)).2) 126).2)).2)))))))
            else ((F_X3_takeFirst ((F_X3_take ((F_X3_take ((F_X3_take (xs_u (xs_u ((F_X3_take st 59).2) 70 3 (F_X3_sign ((F_X3_take st 59).2))) 70 6 0) 100).2) 97).2) 116).2)).1, (F_X3_takeFirst ((F_X3_take ((F_X3_take ((F_X3_take (xs_u (xs_u ((F_X3_take st 59).2) 70 3 (F_X3_sign ((F_X3_take st 59).2))) 70 6 0) 100).2) 97).2) 116).2)).2))
          else (1, (F_X3_take ((F_X3_take (xs_u (xs_u ((F_X3_take st 59).2) 70 3 (F_X3_sign ((F_X3_take st 59).2))) 70 6 0) 100).2) 97).2))
        else (1, (F_X3_take (xs_u (xs_u ((F_X3_take st 59).2) 70 3 (F_X3_sign ((F_X3_take st 59).2))) 70 6 0) 100).2))))
set_option maxRecDepth 20000 in
theorem c_X3_nextOrder {G : xs_G} {base : Nat} (d : Nat) (st : xs_S) (hp : PW st) : xs_K G base (d + 3) M_X3_nextOrder [.ref 70] st (fun v u => v = some (.int (F_X3_nextOrder st).1) ∧ u = (F_X3_nextOrder st).2) := by
  refine xs_intro ok_X3_nextOrder [(0, .ref 70)] rfl rfl ?_
  refine xr_blk gd_X3_nextOrder 2 (c' := (4, [(0, .ref 70)], [.int (st 70 2)], st)) rfl ?_
  refine xr_br gd_X3_nextOrder rfl rfl (fun h1 => ?_) (fun h1 => ?_)
  · refine xr_blk gd_X3_nextOrder 2 (c' := (20, [(0, .ref 70)], [.ref 70, .ref 70], st)) rfl ?_
    refine xr_callV gd_X3_nextOrder gd_X3_sign k_X3_56 rfl (c_X3_sign (d + 2) st hp) (by omega) rfl rfl rfl rfl rfl ?_
    refine xs_fun ?_
    refine xr_putc gd_X3_nextOrder rfl rfl rfl rfl (fun T N h => by cases h; exact ⟨rfl, by decide +kernel⟩) (xc_nar (sign_in hp)).1 (xc_nar (sign_in hp)).2 ?_
    refine xr_blk gd_X3_nextOrder 5 (c' := (34, [(0, .ref 70)], [.int 100, .ref 70], xs_u (xs_u st 70 3 (F_X3_sign st)) 70 6 0)) rfl ?_
    refine xr_callV gd_X3_nextOrder gd_X3_take k_X3_52 rfl (c_X3_take (d + 1) (xs_u (xs_u st 70 3 (F_X3_sign st)) 70 6 0) 100 (pw_u (by decide) (pw_u (by decide) hp))) (by omega) rfl rfl rfl rfl rfl ?_
    refine xs_fun ?_
    refine xr_br gd_X3_nextOrder rfl rfl (fun h2 => ?_) (fun h2 => ?_)
    · refine xr_blk gd_X3_nextOrder 1 (c' := (50, [(0, .ref 70)], [.int 1], (F_X3_take (xs_u (xs_u st 70 3 (F_X3_sign st)) 70 6 0) 100).2)) rfl ?_
      exact xr_zret gd_X3_nextOrder rfl rfl rfl ⟨by first | (rw [F_X3_nextOrder, if_pos h1, if_neg h2]; done) | (rw [F_X3_nextOrder, if_pos h1, if_neg h2]; rfl), by first | (rw [F_X3_nextOrder, if_pos h1, if_neg h2]; done) | (rw [F_X3_nextOrder, if_pos h1, if_neg h2]; rfl)⟩
    · refine xr_blk gd_X3_nextOrder 2 (c' := (43, [(0, .ref 70)], [.int 97, .ref 70], (F_X3_take (xs_u (xs_u st 70 3 (F_X3_sign st)) 70 6 0) 100).2)) rfl ?_
      refine xr_callV gd_X3_nextOrder gd_X3_take k_X3_52 rfl (c_X3_take (d + 1) ((F_X3_take (xs_u (xs_u st 70 3 (F_X3_sign st)) 70 6 0) 100).2) 97 (pw_take (by decide) (pw_u (by decide) (pw_u (by decide) hp)))) (by omega) rfl rfl rfl rfl rfl ?_
      refine xs_fun ?_
      refine xr_br gd_X3_nextOrder rfl rfl (fun h3 => ?_) (fun h3 => ?_)
      · refine xr_blk gd_X3_nextOrder 2 (c' := (54, [(0, .ref 70)], [.int 116, .ref 70], (F_X3_take ((F_X3_take (xs_u (xs_u st 70 3 (F_X3_sign st)) 70 6 0) 100).2) 97).2)) rfl ?_
        refine xr_callV gd_X3_nextOrder gd_X3_take k_X3_52 rfl (c_X3_take (d + 1) ((F_X3_take ((F_X3_take (xs_u (xs_u st 70 3 (F_X3_sign st)) 70 6 0) 100).2) 97).2) 116 (pw_take (by decide) (pw_take (by decide) (pw_u (by decide) (pw_u (by decide) hp))))) (by omega) rfl rfl rfl rfl rfl ?_
        refine xs_fun ?_
        refine xr_br gd_X3_nextOrder rfl rfl (fun h4 => ?_) (fun h4 => ?_)
        · refine xr_blk gd_X3_nextOrder 2 (c' := (68, [(0, .ref 70)], [.int 114, .ref 70], (F_X3_take ((F_X3_take ((F_X3_take (xs_u (xs_u st 70 3 (F_X3_sign st)) 70 6 0) 100).2) 97).2) 116).2)) rfl ?_
          refine xr_callV gd_X3_nextOrder gd_X3_take k_X3_52 rfl (c_X3_take (d + 1) ((F_X3_take ((F_X3_take ((F_X3_take (xs_u (xs_u st 70 3 (F_X3_sign st)) 70 6 0) 100).2) 97).2) 116).2) 114 (pw_take (by decide) (pw_take (by decide) (pw_take (by decide) (pw_u (by decide) (pw_u (by decide) hp)))))) (by omega) rfl rfl rfl rfl rfl ?_
          refine xs_fun ?_
          refine xr_br gd_X3_nextOrder rfl rfl (fun h5 => ?_) (fun h5 => ?_)
          · refine xr_blk gd_X3_nextOrder 1 (c' := (118, [(0, .ref 70)], [.int 0], (F_X3_take ((F_X3_take ((F_X3_take ((F_X3_take (xs_u (xs_u st 70 3 (F_X3_sign st)) 70 6 0) 100).2) 97).2) 116).2) 114).2)) rfl ?_
            exact xr_zret gd_X3_nextOrder rfl rfl rfl ⟨by first | (rw [F_X3_nextOrder, if_pos h1, if_pos h2, if_pos h3, if_pos h4, if_pos h5]; done) | (rw [F_X3_nextOrder, if_pos h1, if_pos h2, if_pos h3, if_pos h4, if_pos h5]; rfl), by first | (rw [F_X3_nextOrder, if_pos h1, if_pos h2, if_pos h3, if_pos h4, if_pos h5]; done) | (rw [F_X3_nextOrder, if_pos h1, if_pos h2, if_pos h3, if_pos h4, if_pos h5]; rfl)⟩
          · refine xr_blk gd_X3_nextOrder 1 (c' := (75, [(0, .ref 70)], [.ref 70], (F_X3_take ((F_X3_take ((F_X3_take ((F_X3_take (xs_u (xs_u st 70 3 (F_X3_sign st)) 70 6 0) 100).2) 97).2) 116).2) 114).2)) rfl ?_
            refine xr_callV gd_X3_nextOrder gd_X3_takeFirst k_X3_60 rfl (c_X3_takeFirst (d + 0) ((F_X3_take ((F_X3_take ((F_X3_take ((F_X3_take (xs_u (xs_u st 70 3 (F_X3_sign st)) 70 6 0) 100).2) 97).2) 116).2) 114).2) (pw_take (by decide) (pw_take (by decide) (pw_take (by decide) (pw_take (by decide) (pw_u (by decide) (pw_u (by decide) hp))))))) (by omega) rfl rfl rfl rfl rfl ?_
            refine xs_fun ?_
            refine xr_br gd_X3_nextOrder rfl rfl (fun h6 => ?_) (fun h6 => ?_)
            · refine xr_blk gd_X3_nextOrder 1 (c' := (118, [(0, .ref 70)], [.int 0], (F_X3_takeFirst ((F_X3_take ((F_X3_take ((F_X3_take ((F_X3_take (xs_u (xs_u st 70 3 (F_X3_sign st)) 70 6 0) 100).2) 97).2) 116).2) 114).2)).2)) rfl ?_
              exact xr_zret gd_X3_nextOrder rfl rfl rfl ⟨by first | (rw [F_X3_nextOrder, if_pos h1, if_pos h2, if_pos h3, if_pos h4, if_neg h5, if_pos h6]; done) | (rw [F_X3_nextOrder, if_pos h1, if_pos h2, if_pos h3, if_pos h4, if_neg h5, if_pos h6]; rfl), by first | (rw [F_X3_nextOrder, if_pos h1, if_pos h2, if_pos h3, if_pos h4, if_neg h5, if_pos h6]; done) | (rw [F_X3_nextOrder, if_pos h1, if_pos h2, if_pos h3, if_pos h4, if_neg h5, if_pos h6]; rfl)⟩
            · refine xr_blk gd_X3_nextOrder 2 (c' := (84, [(0, .ref 70)], [.int 61, .ref 70], (F_X3_takeFirst ((F_X3_take ((F_X3_take ((F_X3_take ((F_X3_take (xs_u (xs_u st 70 3 (F_X3_sign st)) 70 6 0) 100).2) 97).2) 116).2) 114).2)).2)) rfl ?_
              refine xr_callV gd_X3_nextOrder gd_X3_take k_X3_52 rfl (c_X3_take (d + 1) ((F_X3_takeFirst ((F_X3_take ((F_X3_take ((F_X3_take ((F_X3_take (xs_u (xs_u st 70 3 (F_X3_sign st)) 70 6 0) 100).2) 97).2) 116).2) 114).2)).2) 61 (pw_tf (pw_take (by decide) (pw_take (by decide) (pw_take (by decide) (pw_take (by decide) (pw_u (by decide) (pw_u (by decide) hp)))))))) (by omega) rfl rfl rfl rfl rfl ?_
              refine xs_fun ?_
              refine xr_br gd_X3_nextOrder rfl rfl (fun h7 => ?_) (fun h7 => ?_)
              · refine xr_blk gd_X3_nextOrder 1 (c' := (118, [(0, .ref 70)], [.int 0], (F_X3_take ((F_X3_takeFirst ((F_X3_take ((F_X3_take ((F_X3_take ((F_X3_take (xs_u (xs_u st 70 3 (F_X3_sign st)) 70 6 0) 100).2) 97).2) 116).2) 114).2)).2) 61).2)) rfl ?_
                exact xr_zret gd_X3_nextOrder rfl rfl rfl ⟨by first | (rw [F_X3_nextOrder, if_pos h1, if_pos h2, if_pos h3, if_pos h4, if_neg h5, if_neg h6, if_pos h7]; done) | (rw [F_X3_nextOrder, if_pos h1, if_pos h2, if_pos h3, if_pos h4, if_neg h5, if_neg h6, if_pos h7]; rfl), by first | (rw [F_X3_nextOrder, if_pos h1, if_pos h2, if_pos h3, if_pos h4, if_neg h5, if_neg h6, if_pos h7]; done) | (rw [F_X3_nextOrder, if_pos h1, if_pos h2, if_pos h3, if_pos h4, if_neg h5, if_neg h6, if_pos h7]; rfl)⟩
              · refine xr_blk gd_X3_nextOrder 1 (c' := (91, [(0, .ref 70)], [.ref 70], (F_X3_take ((F_X3_takeFirst ((F_X3_take ((F_X3_take ((F_X3_take ((F_X3_take (xs_u (xs_u st 70 3 (F_X3_sign st)) 70 6 0) 100).2) 97).2) 116).2) 114).2)).2) 61).2)) rfl ?_
                refine xr_callV gd_X3_nextOrder gd_X3_takeSecond k_X3_63 rfl (c_X3_takeSecond (d + 0) ((F_X3_take ((F_X3_takeFirst ((F_X3_take ((F_X3_take ((F_X3_take ((F_X3_take (xs_u (xs_u st 70 3 (F_X3_sign st)) 70 6 0) 100).2) 97).2) 116).2) 114).2)).2) 61).2) (pw_take (by decide) (pw_tf (pw_take (by decide) (pw_take (by decide) (pw_take (by decide) (pw_take (by decide) (pw_u (by decide) (pw_u (by decide) hp))))))))) (by omega) rfl rfl rfl rfl rfl ?_
                refine xs_fun ?_
                refine xr_br gd_X3_nextOrder rfl rfl (fun h8 => ?_) (fun h8 => ?_)
                · refine xr_blk gd_X3_nextOrder 1 (c' := (118, [(0, .ref 70)], [.int 0], (F_X3_takeSecond ((F_X3_take ((F_X3_takeFirst ((F_X3_take ((F_X3_take ((F_X3_take ((F_X3_take (xs_u (xs_u st 70 3 (F_X3_sign st)) 70 6 0) 100).2) 97).2) 116).2) 114).2)).2) 61).2)).2)) rfl ?_
                  exact xr_zret gd_X3_nextOrder rfl rfl rfl ⟨by first | (rw [F_X3_nextOrder, if_pos h1, if_pos h2, if_pos h3, if_pos h4, if_neg h5, if_neg h6, if_neg h7, if_pos h8]; done) | (rw [F_X3_nextOrder, if_pos h1, if_pos h2, if_pos h3, if_pos h4, if_neg h5, if_neg h6, if_neg h7, if_pos h8]; rfl), by first | (rw [F_X3_nextOrder, if_pos h1, if_pos h2, if_pos h3, if_pos h4, if_neg h5, if_neg h6, if_neg h7, if_pos h8]; done) | (rw [F_X3_nextOrder, if_pos h1, if_pos h2, if_pos h3, if_pos h4, if_neg h5, if_neg h6, if_neg h7, if_pos h8]; rfl)⟩
                · refine xr_blk gd_X3_nextOrder 2 (c' := (100, [(0, .ref 70)], [.int 126, .ref 70], (F_X3_takeSecond ((F_X3_take ((F_X3_takeFirst ((F_X3_take ((F_X3_take ((F_X3_take ((F_X3_take (xs_u (xs_u st 70 3 (F_X3_sign st)) 70 6 0) 100).2) 97).2) 116).2) 114).2)).2) 61).2)).2)) rfl ?_
                  refine xr_callV gd_X3_nextOrder gd_X3_take k_X3_52 rfl (c_X3_take (d + 1) ((F_X3_takeSecond ((F_X3_take ((F_X3_takeFirst ((F_X3_take ((F_X3_take ((F_X3_take ((F_X3_take (xs_u (xs_u st 70 3 (F_X3_sign st)) 70 6 0) 100).2) 97).2) 116).2) 114).2)).2) 61).2)).2) 126 (pw_ts (pw_take (by decide) (pw_tf (pw_take (by decide) (pw_take (by decide) (pw_take (by decide) (pw_take (by decide) (pw_u (by decide) (pw_u (by decide) hp)))))))))) (by omega) rfl rfl rfl rfl rfl ?_
                  refine xs_fun ?_
                  refine xr_br gd_X3_nextOrder rfl rfl (fun h9 => ?_) (fun h9 => ?_)
                  · refine xr_blk gd_X3_nextOrder 2 (c' := (118, [(0, .ref 70)], [.int 1], (F_X3_take ((F_X3_takeSecond ((F_X3_take ((F_X3_takeFirst ((F_X3_take ((F_X3_take ((F_X3_take ((F_X3_take (xs_u (xs_u st 70 3 (F_X3_sign st)) 70 6 0) 100).2) 97).2) 116).2) 114).2)).2) 61).2)).2) 126).2)) rfl ?_
                    exact xr_zret gd_X3_nextOrder rfl rfl rfl ⟨by first | (rw [F_X3_nextOrder, if_pos h1, if_pos h2, if_pos h3, if_pos h4, if_neg h5, if_neg h6, if_neg h7, if_neg h8, if_pos h9]; done) | (rw [F_X3_nextOrder, if_pos h1, if_pos h2, if_pos h3, if_pos h4, if_neg h5, if_neg h6, if_neg h7, if_neg h8, if_pos h9]; rfl), by first | (rw [F_X3_nextOrder, if_pos h1, if_pos h2, if_pos h3, if_pos h4, if_neg h5, if_neg h6, if_neg h7, if_neg h8, if_pos h9]; done) | (rw [F_X3_nextOrder, if_pos h1, if_pos h2, if_pos h3, if_pos h4, if_neg h5, if_neg h6, if_neg h7, if_neg h8, if_pos h9]; rfl)⟩
                  · refine xr_blk gd_X3_nextOrder 1 (c' := (107, [(0, .ref 70)], [.ref 70], (F_X3_take ((F_X3_takeSecond ((F_X3_take ((F_X3_takeFirst ((F_X3_take ((F_X3_take ((F_X3_take ((F_X3_take (xs_u (xs_u st 70 3 (F_X3_sign st)) 70 6 0) 100).2) 97).2) 116).2) 114).2)).2) 61).2)).2) 126).2)) rfl ?_
                    refine xr_callV gd_X3_nextOrder gd_X3_takeThird k_X3_66 rfl (c_X3_takeThird (d + 0) ((F_X3_take ((F_X3_takeSecond ((F_X3_take ((F_X3_takeFirst ((F_X3_take ((F_X3_take ((F_X3_take ((F_X3_take (xs_u (xs_u st 70 3 (F_X3_sign st)) 70 6 0) 100).2) 97).2) 116).2) 114).2)).2) 61).2)).2) 126).2) (pw_take (by decide) (pw_ts (pw_take (by decide) (pw_tf (pw_take (by decide) (pw_take (by decide) (pw_take (by decide) (pw_take (by decide) (pw_u (by decide) (pw_u (by decide) hp))))))))))) (by omega) rfl rfl rfl rfl rfl ?_
                    refine xs_fun ?_
                    refine xr_br gd_X3_nextOrder rfl rfl (fun h10 => ?_) (fun h10 => ?_)
                    · refine xr_blk gd_X3_nextOrder 1 (c' := (118, [(0, .ref 70)], [.int 0], (F_X3_takeThird ((F_X3_take ((F_X3_takeSecond ((F_X3_take ((F_X3_takeFirst ((F_X3_take ((F_X3_take ((F_X3_take ((F_X3_take (xs_u (xs_u st 70 3 (F_X3_sign st)) 70 6 0) 100).2) 97).2) 116).2) 114).2)).2) 61).2)).2) 126).2)).2)) rfl ?_
                      exact xr_zret gd_X3_nextOrder rfl rfl rfl ⟨by first | (rw [F_X3_nextOrder, if_pos h1, if_pos h2, if_pos h3, if_pos h4, if_neg h5, if_neg h6, if_neg h7, if_neg h8, if_neg h9, if_pos h10]; done) | (rw [F_X3_nextOrder, if_pos h1, if_pos h2, if_pos h3, if_pos h4, if_neg h5, if_neg h6, if_neg h7, if_neg h8, if_neg h9, if_pos h10]; rfl), by first | (rw [F_X3_nextOrder, if_pos h1, if_pos h2, if_pos h3, if_pos h4, if_neg h5, if_neg h6, if_neg h7, if_neg h8, if_neg h9, if_pos h10]; done) | (rw [F_X3_nextOrder, if_pos h1, if_pos h2, if_pos h3, if_pos h4, if_neg h5, if_neg h6, if_neg h7, if_neg h8, if_neg h9, if_pos h10]; rfl)⟩
                    · refine xr_blk gd_X3_nextOrder 2 (c' := (118, [(0, .ref 70)], [.int 1], (F_X3_takeThird ((F_X3_take ((F_X3_takeSecond ((F_X3_take ((F_X3_takeFirst ((F_X3_take ((F_X3_take ((F_X3_take ((F_X3_take (xs_u (xs_u st 70 3 (F_X3_sign st)) 70 6 0) 100).2) 97).2) 116).2) 114).2)).2) 61).2)).2) 126).2)).2)) rfl ?_
                      exact xr_zret gd_X3_nextOrder rfl rfl rfl ⟨by first | (rw [F_X3_nextOrder, if_pos h1, if_pos h2, if_pos h3, if_pos h4, if_neg h5, if_neg h6, if_neg h7, if_neg h8, if_neg h9, if_neg h10]; done) | (rw [F_X3_nextOrder, if_pos h1, if_pos h2, if_pos h3, if_pos h4, if_neg h5, if_neg h6, if_neg h7, if_neg h8, if_neg h9, if_neg h10]; rfl), by first | (rw [F_X3_nextOrder, if_pos h1, if_pos h2, if_pos h3, if_pos h4, if_neg h5, if_neg h6, if_neg h7, if_neg h8, if_neg h9, if_neg h10]; done) | (rw [F_X3_nextOrder, if_pos h1, if_pos h2, if_pos h3, if_pos h4, if_neg h5, if_neg h6, if_neg h7, if_neg h8, if_neg h9, if_neg h10]; rfl)⟩
        · refine xr_blk gd_X3_nextOrder 1 (c' := (61, [(0, .ref 70)], [.ref 70], (F_X3_take ((F_X3_take ((F_X3_take (xs_u (xs_u st 70 3 (F_X3_sign st)) 70 6 0) 100).2) 97).2) 116).2)) rfl ?_
          refine xr_callV gd_X3_nextOrder gd_X3_takeFirst k_X3_60 rfl (c_X3_takeFirst (d + 0) ((F_X3_take ((F_X3_take ((F_X3_take (xs_u (xs_u st 70 3 (F_X3_sign st)) 70 6 0) 100).2) 97).2) 116).2) (pw_take (by decide) (pw_take (by decide) (pw_take (by decide) (pw_u (by decide) (pw_u (by decide) hp)))))) (by omega) rfl rfl rfl rfl rfl ?_
          refine xs_fun ?_
          exact xr_zret gd_X3_nextOrder rfl rfl (xz_01 tf_01) ⟨by first | (rw [F_X3_nextOrder, if_pos h1, if_pos h2, if_pos h3, if_neg h4]; done) | (rw [F_X3_nextOrder, if_pos h1, if_pos h2, if_pos h3, if_neg h4]; rfl), by first | (rw [F_X3_nextOrder, if_pos h1, if_pos h2, if_pos h3, if_neg h4]; done) | (rw [F_X3_nextOrder, if_pos h1, if_pos h2, if_pos h3, if_neg h4]; rfl)⟩
      · refine xr_blk gd_X3_nextOrder 1 (c' := (50, [(0, .ref 70)], [.int 1], (F_X3_take ((F_X3_take (xs_u (xs_u st 70 3 (F_X3_sign st)) 70 6 0) 100).2) 97).2)) rfl ?_
        exact xr_zret gd_X3_nextOrder rfl rfl rfl ⟨by first | (rw [F_X3_nextOrder, if_pos h1, if_pos h2, if_neg h3]; done) | (rw [F_X3_nextOrder, if_pos h1, if_pos h2, if_neg h3]; rfl), by first | (rw [F_X3_nextOrder, if_pos h1, if_pos h2, if_neg h3]; done) | (rw [F_X3_nextOrder, if_pos h1, if_pos h2, if_neg h3]; rfl)⟩
  · refine xr_blk gd_X3_nextOrder 2 (c' := (10, [(0, .ref 70)], [.int 59, .ref 70], st)) rfl ?_
    refine xr_callV gd_X3_nextOrder gd_X3_take k_X3_52 rfl (c_X3_take (d + 1) st 59 hp) (by omega) rfl rfl rfl rfl rfl ?_
    refine xs_fun ?_
    refine xr_br gd_X3_nextOrder rfl rfl (fun h11 => ?_) (fun h11 => ?_)
    · refine xr_blk gd_X3_nextOrder 2 (c' := (20, [(0, .ref 70)], [.ref 70, .ref 70], (F_X3_take st 59).2)) rfl ?_
      refine xr_callV gd_X3_nextOrder gd_X3_sign k_X3_56 rfl (c_X3_sign (d + 2) ((F_X3_take st 59).2) (pw_take (by decide) hp)) (by omega) rfl rfl rfl rfl rfl ?_
      refine xs_fun ?_
      refine xr_putc gd_X3_nextOrder rfl rfl rfl rfl (fun T N h => by cases h; exact ⟨rfl, by decide +kernel⟩) (xc_nar (sign_in (pw_take (by decide) hp))).1 (xc_nar (sign_in (pw_take (by decide) hp))).2 ?_
      refine xr_blk gd_X3_nextOrder 5 (c' := (34, [(0, .ref 70)], [.int 100, .ref 70], xs_u (xs_u ((F_X3_take st 59).2) 70 3 (F_X3_sign ((F_X3_take st 59).2))) 70 6 0)) rfl ?_
      refine xr_callV gd_X3_nextOrder gd_X3_take k_X3_52 rfl (c_X3_take (d + 1) (xs_u (xs_u ((F_X3_take st 59).2) 70 3 (F_X3_sign ((F_X3_take st 59).2))) 70 6 0) 100 (pw_u (by decide) (pw_u (by decide) (pw_take (by decide) hp)))) (by omega) rfl rfl rfl rfl rfl ?_
      refine xs_fun ?_
      refine xr_br gd_X3_nextOrder rfl rfl (fun h12 => ?_) (fun h12 => ?_)
      · refine xr_blk gd_X3_nextOrder 1 (c' := (50, [(0, .ref 70)], [.int 1], (F_X3_take (xs_u (xs_u ((F_X3_take st 59).2) 70 3 (F_X3_sign ((F_X3_take st 59).2))) 70 6 0) 100).2)) rfl ?_
        exact xr_zret gd_X3_nextOrder rfl rfl rfl ⟨by first | (rw [F_X3_nextOrder, if_neg h1, if_neg h11, if_neg h12]; done) | (rw [F_X3_nextOrder, if_neg h1, if_neg h11, if_neg h12]; rfl), by first | (rw [F_X3_nextOrder, if_neg h1, if_neg h11, if_neg h12]; done) | (rw [F_X3_nextOrder, if_neg h1, if_neg h11, if_neg h12]; rfl)⟩
      · refine xr_blk gd_X3_nextOrder 2 (c' := (43, [(0, .ref 70)], [.int 97, .ref 70], (F_X3_take (xs_u (xs_u ((F_X3_take st 59).2) 70 3 (F_X3_sign ((F_X3_take st 59).2))) 70 6 0) 100).2)) rfl ?_
        refine xr_callV gd_X3_nextOrder gd_X3_take k_X3_52 rfl (c_X3_take (d + 1) ((F_X3_take (xs_u (xs_u ((F_X3_take st 59).2) 70 3 (F_X3_sign ((F_X3_take st 59).2))) 70 6 0) 100).2) 97 (pw_take (by decide) (pw_u (by decide) (pw_u (by decide) (pw_take (by decide) hp))))) (by omega) rfl rfl rfl rfl rfl ?_
        refine xs_fun ?_
        refine xr_br gd_X3_nextOrder rfl rfl (fun h13 => ?_) (fun h13 => ?_)
        · refine xr_blk gd_X3_nextOrder 2 (c' := (54, [(0, .ref 70)], [.int 116, .ref 70], (F_X3_take ((F_X3_take (xs_u (xs_u ((F_X3_take st 59).2) 70 3 (F_X3_sign ((F_X3_take st 59).2))) 70 6 0) 100).2) 97).2)) rfl ?_
          refine xr_callV gd_X3_nextOrder gd_X3_take k_X3_52 rfl (c_X3_take (d + 1) ((F_X3_take ((F_X3_take (xs_u (xs_u ((F_X3_take st 59).2) 70 3 (F_X3_sign ((F_X3_take st 59).2))) 70 6 0) 100).2) 97).2) 116 (pw_take (by decide) (pw_take (by decide) (pw_u (by decide) (pw_u (by decide) (pw_take (by decide) hp)))))) (by omega) rfl rfl rfl rfl rfl ?_
          refine xs_fun ?_
          refine xr_br gd_X3_nextOrder rfl rfl (fun h14 => ?_) (fun h14 => ?_)
          · refine xr_blk gd_X3_nextOrder 2 (c' := (68, [(0, .ref 70)], [.int 114, .ref 70], (F_X3_take ((F_X3_take ((F_X3_take (xs_u (xs_u ((F_X3_take st 59).2) 70 3 (F_X3_sign ((F_X3_take st 59).2))) 70 6 0) 100).2) 97).2) 116).2)) rfl ?_
            refine xr_callV gd_X3_nextOrder gd_X3_take k_X3_52 rfl (c_X3_take (d + 1) ((F_X3_take ((F_X3_take ((F_X3_take (xs_u (xs_u ((F_X3_take st 59).2) 70 3 (F_X3_sign ((F_X3_take st 59).2))) 70 6 0) 100).2) 97).2) 116).2) 114 (pw_take (by decide) (pw_take (by decide) (pw_take (by decide) (pw_u (by decide) (pw_u (by decide) (pw_take (by decide) hp))))))) (by omega) rfl rfl rfl rfl rfl ?_
            refine xs_fun ?_
            refine xr_br gd_X3_nextOrder rfl rfl (fun h15 => ?_) (fun h15 => ?_)
            · refine xr_blk gd_X3_nextOrder 1 (c' := (118, [(0, .ref 70)], [.int 0], (F_X3_take ((F_X3_take ((F_X3_take ((F_X3_take (xs_u (xs_u ((F_X3_take st 59).2) 70 3 (F_X3_sign ((F_X3_take st 59).2))) 70 6 0) 100).2) 97).2) 116).2) 114).2)) rfl ?_
              exact xr_zret gd_X3_nextOrder rfl rfl rfl ⟨by first | (rw [F_X3_nextOrder, if_neg h1, if_neg h11, if_pos h12, if_pos h13, if_pos h14, if_pos h15]; done) | (rw [F_X3_nextOrder, if_neg h1, if_neg h11, if_pos h12, if_pos h13, if_pos h14, if_pos h15]; rfl), by first | (rw [F_X3_nextOrder, if_neg h1, if_neg h11, if_pos h12, if_pos h13, if_pos h14, if_pos h15]; done) | (rw [F_X3_nextOrder, if_neg h1, if_neg h11, if_pos h12, if_pos h13, if_pos h14, if_pos h15]; rfl)⟩
            · refine xr_blk gd_X3_nextOrder 1 (c' := (75, [(0, .ref 70)], [.ref 70], (F_X3_take ((F_X3_take ((F_X3_take ((F_X3_take (xs_u (xs_u ((F_X3_take st 59).2) 70 3 (F_X3_sign ((F_X3_take st 59).2))) 70 6 0) 100).2) 97).2) 116).2) 114).2)) rfl ?_
              refine xr_callV gd_X3_nextOrder gd_X3_takeFirst k_X3_60 rfl (c_X3_takeFirst (d + 0) ((F_X3_take ((F_X3_take ((F_X3_take ((F_X3_take (xs_u (xs_u ((F_X3_take st 59).2) 70 3 (F_X3_sign ((F_X3_take st 59).2))) 70 6 0) 100).2) 97).2) 116).2) 114).2) (pw_take (by decide) (pw_take (by decide) (pw_take (by decide) (pw_take (by decide) (pw_u (by decide) (pw_u (by decide) (pw_take (by decide) hp)))))))) (by omega) rfl rfl rfl rfl rfl ?_
              refine xs_fun ?_
              refine xr_br gd_X3_nextOrder rfl rfl (fun h16 => ?_) (fun h16 => ?_)
              · refine xr_blk gd_X3_nextOrder 1 (c' := (118, [(0, .ref 70)], [.int 0], (F_X3_takeFirst ((F_X3_take ((F_X3_take ((F_X3_take ((F_X3_take (xs_u (xs_u ((F_X3_take st 59).2) 70 3 (F_X3_sign ((F_X3_take st 59).2))) 70 6 0) 100).2) 97).2) 116).2) 114).2)).2)) rfl ?_
                exact xr_zret gd_X3_nextOrder rfl rfl rfl ⟨by first | (rw [F_X3_nextOrder, if_neg h1, if_neg h11, if_pos h12, if_pos h13, if_pos h14, if_neg h15, if_pos h16]; done) | (rw [F_X3_nextOrder, if_neg h1, if_neg h11, if_pos h12, if_pos h13, if_pos h14, if_neg h15, if_pos h16]; rfl), by first | (rw [F_X3_nextOrder, if_neg h1, if_neg h11, if_pos h12, if_pos h13, if_pos h14, if_neg h15, if_pos h16]; done) | (rw [F_X3_nextOrder, if_neg h1, if_neg h11, if_pos h12, if_pos h13, if_pos h14, if_neg h15, if_pos h16]; rfl)⟩
              · refine xr_blk gd_X3_nextOrder 2 (c' := (84, [(0, .ref 70)], [.int 61, .ref 70], (F_X3_takeFirst ((F_X3_take ((F_X3_take ((F_X3_take ((F_X3_take (xs_u (xs_u ((F_X3_take st 59).2) 70 3 (F_X3_sign ((F_X3_take st 59).2))) 70 6 0) 100).2) 97).2) 116).2) 114).2)).2)) rfl ?_
                refine xr_callV gd_X3_nextOrder gd_X3_take k_X3_52 rfl (c_X3_take (d + 1) ((F_X3_takeFirst ((F_X3_take ((F_X3_take ((F_X3_take ((F_X3_take (xs_u (xs_u ((F_X3_take st 59).2) 70 3 (F_X3_sign ((F_X3_take st 59).2))) 70 6 0) 100).2) 97).2) 116).2) 114).2)).2) 61 (pw_tf (pw_take (by decide) (pw_take (by decide) (pw_take (by decide) (pw_take (by decide) (pw_u (by decide) (pw_u (by decide) (pw_take (by decide) hp))))))))) (by omega) rfl rfl rfl rfl rfl ?_
                refine xs_fun ?_
                refine xr_br gd_X3_nextOrder rfl rfl (fun h17 => ?_) (fun h17 => ?_)
                · refine xr_blk gd_X3_nextOrder 1 (c' := (118, [(0, .ref 70)], [.int 0], (F_X3_take ((F_X3_takeFirst ((F_X3_take ((F_X3_take ((F_X3_take ((F_X3_take (xs_u (xs_u ((F_X3_take st 59).2) 70 3 (F_X3_sign ((F_X3_take st 59).2))) 70 6 0) 100).2) 97).2) 116).2) 114).2)).2) 61).2)) rfl ?_
                  exact xr_zret gd_X3_nextOrder rfl rfl rfl ⟨by first | (rw [F_X3_nextOrder, if_neg h1, if_neg h11, if_pos h12, if_pos h13, if_pos h14, if_neg h15, if_neg h16, if_pos h17]; done) | (rw [F_X3_nextOrder, if_neg h1, if_neg h11, if_pos h12, if_pos h13, if_pos h14, if_neg h15, if_neg h16, if_pos h17]; rfl), by first | (rw [F_X3_nextOrder, if_neg h1, if_neg h11, if_pos h12, if_pos h13, if_pos h14, if_neg h15, if_neg h16, if_pos h17]; done) | (rw [F_X3_nextOrder, if_neg h1, if_neg h11, if_pos h12, if_pos h13, if_pos h14, if_neg h15, if_neg h16, if_pos h17]; rfl)⟩
                · refine xr_blk gd_X3_nextOrder 1 (c' := (91, [(0, .ref 70)], [.ref 70], (F_X3_take ((F_X3_takeFirst ((F_X3_take ((F_X3_take ((F_X3_take ((F_X3_take (xs_u (xs_u ((F_X3_take st 59).2) 70 3 (F_X3_sign ((F_X3_take st 59).2))) 70 6 0) 100).2) 97).2) 116).2) 114).2)).2) 61).2)) rfl ?_
                  refine xr_callV gd_X3_nextOrder gd_X3_takeSecond k_X3_63 rfl (c_X3_takeSecond (d + 0) ((F_X3_take ((F_X3_takeFirst ((F_X3_take ((F_X3_take ((F_X3_take ((F_X3_take (xs_u (xs_u ((F_X3_take st 59).2) 70 3 (F_X3_sign ((F_X3_take st 59).2))) 70 6 0) 100).2) 97).2) 116).2) 114).2)).2) 61).2) (pw_take (by decide) (pw_tf (pw_take (by decide) (pw_take (by decide) (pw_take (by decide) (pw_take (by decide) (pw_u (by decide) (pw_u (by decide) (pw_take (by decide) hp)))))))))) (by omega) rfl rfl rfl rfl rfl ?_
                  refine xs_fun ?_
                  refine xr_br gd_X3_nextOrder rfl rfl (fun h18 => ?_) (fun h18 => ?_)
                  · refine xr_blk gd_X3_nextOrder 1 (c' := (118, [(0, .ref 70)], [.int 0], (F_X3_takeSecond ((F_X3_take ((F_X3_takeFirst ((F_X3_take ((F_X3_take ((F_X3_take ((F_X3_take (xs_u (xs_u ((F_X3_take st 59).2) 70 3 (F_X3_sign ((F_X3_take st 59).2))) 70 6 0) 100).2) 97).2) 116).2) 114).2)).2) 61).2)).2)) rfl ?_
                    exact xr_zret gd_X3_nextOrder rfl rfl rfl ⟨by first | (rw [F_X3_nextOrder, if_neg h1, if_neg h11, if_pos h12, if_pos h13, if_pos h14, if_neg h15, if_neg h16, if_neg h17, if_pos h18]; done) | (rw [F_X3_nextOrder, if_neg h1, if_neg h11, if_pos h12, if_pos h13, if_pos h14, if_neg h15, if_neg h16, if_neg h17, if_pos h18]; rfl), by first | (rw [F_X3_nextOrder, if_neg h1, if_neg h11, if_pos h12, if_pos h13, if_pos h14, if_neg h15, if_neg h16, if_neg h17, if_pos h18]; done) | (rw [F_X3_nextOrder, if_neg h1, if_neg h11, if_pos h12, if_pos h13, if_pos h14, if_neg h15, if_neg h16, if_neg h17, if_pos h18]; rfl)⟩
                  · refine xr_blk gd_X3_nextOrder 2 (c' := (100, [(0, .ref 70)], [.int 126, .ref 70], (F_X3_takeSecond ((F_X3_take ((F_X3_takeFirst ((F_X3_take ((F_X3_take ((F_X3_take ((F_X3_take (xs_u (xs_u ((F_X3_take st 59).2) 70 3 (F_X3_sign ((F_X3_take st 59).2))) 70 6 0) 100).2) 97).2) 116).2) 114).2)).2) 61).2)).2)) rfl ?_
                    refine xr_callV gd_X3_nextOrder gd_X3_take k_X3_52 rfl (c_X3_take (d + 1) ((F_X3_takeSecond ((F_X3_take ((F_X3_takeFirst ((F_X3_take ((F_X3_take ((F_X3_take ((F_X3_take (xs_u (xs_u ((F_X3_take st 59).2) 70 3 (F_X3_sign ((F_X3_take st 59).2))) 70 6 0) 100).2) 97).2) 116).2) 114).2)).2) 61).2)).2) 126 (pw_ts (pw_take (by decide) (pw_tf (pw_take (by decide) (pw_take (by decide) (pw_take (by decide) (pw_take (by decide) (pw_u (by decide) (pw_u (by decide) (pw_take (by decide) hp))))))))))) (by omega) rfl rfl rfl rfl rfl ?_
                    refine xs_fun ?_
                    refine xr_br gd_X3_nextOrder rfl rfl (fun h19 => ?_) (fun h19 => ?_)
                    · refine xr_blk gd_X3_nextOrder 2 (c' := (118, [(0, .ref 70)], [.int 1], (F_X3_take ((F_X3_takeSecond ((F_X3_take ((F_X3_takeFirst ((F_X3_take ((F_X3_take ((F_X3_take ((F_X3_take (xs_u (xs_u ((F_X3_take st 59).2) 70 3 (F_X3_sign ((F_X3_take st 59).2))) 70 6 0) 100).2) 97).2) 116).2) 114).2)).2) 61).2)).2) 126).2)) rfl ?_
                      exact xr_zret gd_X3_nextOrder rfl rfl rfl ⟨by first | (rw [F_X3_nextOrder, if_neg h1, if_neg h11, if_pos h12, if_pos h13, if_pos h14, if_neg h15, if_neg h16, if_neg h17, if_neg h18, if_pos h19]; done) | (rw [F_X3_nextOrder, if_neg h1, if_neg h11, if_pos h12, if_pos h13, if_pos h14, if_neg h15, if_neg h16, if_neg h17, if_neg h18, if_pos h19]; rfl), by first | (rw [F_X3_nextOrder, if_neg h1, if_neg h11, if_pos h12, if_pos h13, if_pos h14, if_neg h15, if_neg h16, if_neg h17, if_neg h18, if_pos h19]; done) | (rw [F_X3_nextOrder, if_neg h1, if_neg h11, if_pos h12, if_pos h13, if_pos h14, if_neg h15, if_neg h16, if_neg h17, if_neg h18, if_pos h19]; rfl)⟩
                    · refine xr_blk gd_X3_nextOrder 1 (c' := (107, [(0, .ref 70)], [.ref 70], (F_X3_take ((F_X3_takeSecond ((F_X3_take ((F_X3_takeFirst ((F_X3_take ((F_X3_take ((F_X3_take ((F_X3_take (xs_u (xs_u ((F_X3_take st 59).2) 70 3 (F_X3_sign ((F_X3_take st 59).2))) 70 6 0) 100).2) 97).2) 116).2) 114).2)).2) 61).2)).2) 126).2)) rfl ?_
                      refine xr_callV gd_X3_nextOrder gd_X3_takeThird k_X3_66 rfl (c_X3_takeThird (d + 0) ((F_X3_take ((F_X3_takeSecond ((F_X3_take ((F_X3_takeFirst ((F_X3_take ((F_X3_take ((F_X3_take ((F_X3_take (xs_u (xs_u ((F_X3_take st 59).2) 70 3 (F_X3_sign ((F_X3_take st 59).2))) 70 6 0) 100).2) 97).2) 116).2) 114).2)).2) 61).2)).2) 126).2) (pw_take (by decide) (pw_ts (pw_take (by decide) (pw_tf (pw_take (by decide) (pw_take (by decide) (pw_take (by decide) (pw_take (by decide) (pw_u (by decide) (pw_u (by decide) (pw_take (by decide) hp)))))))))))) (by omega) rfl rfl rfl rfl rfl ?_
                      refine xs_fun ?_
                      refine xr_br gd_X3_nextOrder rfl rfl (fun h20 => ?_) (fun h20 => ?_)
                      · refine xr_blk gd_X3_nextOrder 1 (c' := (118, [(0, .ref 70)], [.int 0], (F_X3_takeThird ((F_X3_take ((F_X3_takeSecond ((F_X3_take ((F_X3_takeFirst ((F_X3_take ((F_X3_take ((F_X3_take ((F_X3_take (xs_u (xs_u ((F_X3_take st 59).2) 70 3 (F_X3_sign ((F_X3_take st 59).2))) 70 6 0) 100).2) 97).2) 116).2) 114).2)).2) 61).2)).2) 126).2)).2)) rfl ?_
                        exact xr_zret gd_X3_nextOrder rfl rfl rfl ⟨by first | (rw [F_X3_nextOrder, if_neg h1, if_neg h11, if_pos h12, if_pos h13, if_pos h14, if_neg h15, if_neg h16, if_neg h17, if_neg h18, if_neg h19, if_pos h20]; done) | (rw [F_X3_nextOrder, if_neg h1, if_neg h11, if_pos h12, if_pos h13, if_pos h14, if_neg h15, if_neg h16, if_neg h17, if_neg h18, if_neg h19, if_pos h20]; rfl), by first | (rw [F_X3_nextOrder, if_neg h1, if_neg h11, if_pos h12, if_pos h13, if_pos h14, if_neg h15, if_neg h16, if_neg h17, if_neg h18, if_neg h19, if_pos h20]; done) | (rw [F_X3_nextOrder, if_neg h1, if_neg h11, if_pos h12, if_pos h13, if_pos h14, if_neg h15, if_neg h16, if_neg h17, if_neg h18, if_neg h19, if_pos h20]; rfl)⟩
                      · refine xr_blk gd_X3_nextOrder 2 (c' := (118, [(0, .ref 70)], [.int 1], (F_X3_takeThird ((F_X3_take ((F_X3_takeSecond ((F_X3_take ((F_X3_takeFirst ((F_X3_take ((F_X3_take ((F_X3_take ((F_X3_take (xs_u (xs_u ((F_X3_take st 59).2) 70 3 (F_X3_sign ((F_X3_take st 59).2))) 70 6 0) 100).2) 97).2) 116).2) 114).2)).2) 61).2)).2) 126).2)).2)) rfl ?_
                        exact xr_zret gd_X3_nextOrder rfl rfl rfl ⟨by first | (rw [F_X3_nextOrder, if_neg h1, if_neg h11, if_pos h12, if_pos h13, if_pos h14, if_neg h15, if_neg h16, if_neg h17, if_neg h18, if_neg h19, if_neg h20]; done) | (rw [F_X3_nextOrder, if_neg h1, if_neg h11, if_pos h12, if_pos h13, if_pos h14, if_neg h15, if_neg h16, if_neg h17, if_neg h18, if_neg h19, if_neg h20]; rfl), by first | (rw [F_X3_nextOrder, if_neg h1, if_neg h11, if_pos h12, if_pos h13, if_pos h14, if_neg h15, if_neg h16, if_neg h17, if_neg h18, if_neg h19, if_neg h20]; done) | (rw [F_X3_nextOrder, if_neg h1, if_neg h11, if_pos h12, if_pos h13, if_pos h14, if_neg h15, if_neg h16, if_neg h17, if_neg h18, if_neg h19, if_neg h20]; rfl)⟩
          · refine xr_blk gd_X3_nextOrder 1 (c' := (61, [(0, .ref 70)], [.ref 70], (F_X3_take ((F_X3_take ((F_X3_take (xs_u (xs_u ((F_X3_take st 59).2) 70 3 (F_X3_sign ((F_X3_take st 59).2))) 70 6 0) 100).2) 97).2) 116).2)) rfl ?_
            refine xr_callV gd_X3_nextOrder gd_X3_takeFirst k_X3_60 rfl (c_X3_takeFirst (d + 0) ((F_X3_take ((F_X3_take ((F_X3_take (xs_u (xs_u ((F_X3_take st 59).2) 70 3 (F_X3_sign ((F_X3_take st 59).2))) 70 6 0) 100).2) 97).2) 116).2) (pw_take (by decide) (pw_take (by decide) (pw_take (by decide) (pw_u (by decide) (pw_u (by decide) (pw_take (by decide) hp))))))) (by omega) rfl rfl rfl rfl rfl ?_
            refine xs_fun ?_
            exact xr_zret gd_X3_nextOrder rfl rfl (xz_01 tf_01) ⟨by first | (rw [F_X3_nextOrder, if_neg h1, if_neg h11, if_pos h12, if_pos h13, if_neg h14]; done) | (rw [F_X3_nextOrder, if_neg h1, if_neg h11, if_pos h12, if_pos h13, if_neg h14]; rfl), by first | (rw [F_X3_nextOrder, if_neg h1, if_neg h11, if_pos h12, if_pos h13, if_neg h14]; done) | (rw [F_X3_nextOrder, if_neg h1, if_neg h11, if_pos h12, if_pos h13, if_neg h14]; rfl)⟩
        · refine xr_blk gd_X3_nextOrder 1 (c' := (50, [(0, .ref 70)], [.int 1], (F_X3_take ((F_X3_take (xs_u (xs_u ((F_X3_take st 59).2) 70 3 (F_X3_sign ((F_X3_take st 59).2))) 70 6 0) 100).2) 97).2)) rfl ?_
          exact xr_zret gd_X3_nextOrder rfl rfl rfl ⟨by first | (rw [F_X3_nextOrder, if_neg h1, if_neg h11, if_pos h12, if_neg h13]; done) | (rw [F_X3_nextOrder, if_neg h1, if_neg h11, if_pos h12, if_neg h13]; rfl), by first | (rw [F_X3_nextOrder, if_neg h1, if_neg h11, if_pos h12, if_neg h13]; done) | (rw [F_X3_nextOrder, if_neg h1, if_neg h11, if_pos h12, if_neg h13]; rfl)⟩
    · refine xr_blk gd_X3_nextOrder 1 (c' := (17, [(0, .ref 70)], [.int 0], (F_X3_take st 59).2)) rfl ?_
      exact xr_zret gd_X3_nextOrder rfl rfl rfl ⟨by first | (rw [F_X3_nextOrder, if_neg h1, if_pos h11]; done) | (rw [F_X3_nextOrder, if_neg h1, if_pos h11]; rfl), by first | (rw [F_X3_nextOrder, if_neg h1, if_pos h11]; done) | (rw [F_X3_nextOrder, if_neg h1, if_pos h11]; rfl)⟩
theorem pw_ite {c : Prop} [Decidable c] {a b : Int32 × xs_S} (ha : PW a.2) (hb : PW b.2) : PW (if c then a else b).2 := by
  by_cases h : c
  · rw [if_pos h]; exact ha
  · rw [if_neg h]; exact hb
theorem pw_no {st : xs_S} (hp : PW st) : PW (F_X3_nextOrder st).2 := by
  have hk : ∀ s, PW s → PW (xs_u (xs_u s 70 3 (F_X3_sign s)) 70 6 0) := fun s h => pw_u (by decide) (pw_u (by decide) h)
  unfold F_X3_nextOrder
  repeat' (with_reducible refine pw_ite ?_ ?_)
  all_goals try dsimp only
  all_goals (repeat first | with_reducible assumption | with_reducible apply pw_take | with_reducible apply pw_tn | with_reducible apply pw_tf | with_reducible apply pw_ts | with_reducible apply pw_tt | with_reducible apply pw_u | decide)
def lp_X3_firstFault_6 : Nat → Int32 → xs_S → Int32 × xs_S
  | 0, _, st => (0, st)
  | n + 1, x1, st => (if 80 ≤ x1 then (st 70 2, st)
    else (if ((F_X3_nextOrder st).1) = 0 then (((F_X3_nextOrder st).2) 70 2, (F_X3_nextOrder st).2)
      else (if (((F_X3_nextOrder st).2) 70 2) = (((F_X3_nextOrder st).2) 70 1) then ((-6), (F_X3_nextOrder st).2)
        else lp_X3_firstFault_6 n (x1 + 1) ((F_X3_nextOrder st).2))))
set_option maxRecDepth 20000 in
theorem cl_X3_firstFault_6 {G : xs_G} {base : Nat} (d : Nat) : ∀ (n : Nat) (x1 : Int32) (st : xs_S), xs_lo x1 80 n ∧ PW st → xs_R G base (d + 4) M_X3_firstFault (6, [(0, .ref 70), (1, .int x1)], [], st) (fun v u => v = some (.int (lp_X3_firstFault_6 n x1 st).1) ∧ u = (lp_X3_firstFault_6 n x1 st).2) := by
  intro n
  induction n with
  | zero =>
    intro x1 st hinv
    exact (xs_lo0 hinv.1).elim
  | succ n ih =>
    intro x1 st hinv
    have hp := hinv.2
    refine xr_blk gd_X3_firstFault 2 (c' := (9, [(0, .ref 70), (1, .int x1)], [.int 80, .int x1], st)) rfl ?_
    refine xr_br gd_X3_firstFault rfl rfl (fun h1 => ?_) (fun h1 => ?_)
    · refine xr_blk gd_X3_firstFault 2 (c' := (48, [(0, .ref 70), (1, .int x1)], [.int (st 70 2)], st)) rfl ?_
      exact xr_iret gd_X3_firstFault rfl rfl ⟨by first | (rw [lp_X3_firstFault_6, if_pos h1]; done) | (rw [lp_X3_firstFault_6, if_pos h1]; rfl), by first | (rw [lp_X3_firstFault_6, if_pos h1]; done) | (rw [lp_X3_firstFault_6, if_pos h1]; rfl)⟩
    · refine xr_blk gd_X3_firstFault 1 (c' := (13, [(0, .ref 70), (1, .int x1)], [.ref 70], st)) rfl ?_
      refine xr_callV gd_X3_firstFault gd_X3_nextOrder k_X3_45 rfl (c_X3_nextOrder (d + 0) st hp) (by omega) rfl rfl rfl rfl rfl ?_
      refine xs_fun ?_
      refine xr_br gd_X3_firstFault rfl rfl (fun h2 => ?_) (fun h2 => ?_)
      · refine xr_blk gd_X3_firstFault 4 (c' := (32, [(0, .ref 70), (1, .int x1)], [.int (((F_X3_nextOrder st).2) 70 1), .int (((F_X3_nextOrder st).2) 70 2)], (F_X3_nextOrder st).2)) rfl ?_
        refine xr_br gd_X3_firstFault rfl rfl (fun h3 => ?_) (fun h3 => ?_)
        · refine xr_blk gd_X3_firstFault 2 (c' := (6, [(0, .ref 70), (1, .int (x1 + 1))], [], (F_X3_nextOrder st).2)) rfl ?_
          refine xs_cons (ih (x1 + 1) ((F_X3_nextOrder st).2) ⟨xs_lo_up hinv.1 h1, (pw_no hp)⟩) (fun v u hq => ?_)
          rw [lp_X3_firstFault_6, if_neg h1, if_neg h2, if_neg h3]; exact hq
        · refine xr_blk gd_X3_firstFault 1 (c' := (37, [(0, .ref 70), (1, .int x1)], [.int (-6)], (F_X3_nextOrder st).2)) rfl ?_
          exact xr_iret gd_X3_firstFault rfl rfl ⟨by first | (rw [lp_X3_firstFault_6, if_neg h1, if_neg h2, if_pos h3]; done) | (rw [lp_X3_firstFault_6, if_neg h1, if_neg h2, if_pos h3]; rfl), by first | (rw [lp_X3_firstFault_6, if_neg h1, if_neg h2, if_pos h3]; done) | (rw [lp_X3_firstFault_6, if_neg h1, if_neg h2, if_pos h3]; rfl)⟩
      · refine xr_blk gd_X3_firstFault 2 (c' := (23, [(0, .ref 70), (1, .int x1)], [.int (((F_X3_nextOrder st).2) 70 2)], (F_X3_nextOrder st).2)) rfl ?_
        exact xr_iret gd_X3_firstFault rfl rfl ⟨by first | (rw [lp_X3_firstFault_6, if_neg h1, if_pos h2]; done) | (rw [lp_X3_firstFault_6, if_neg h1, if_pos h2]; rfl), by first | (rw [lp_X3_firstFault_6, if_neg h1, if_pos h2]; done) | (rw [lp_X3_firstFault_6, if_neg h1, if_pos h2]; rfl)⟩
def F_X3_firstFault (st : xs_S) : Int32 × xs_S := lp_X3_firstFault_6 81 0 (F_X3_startReading st)
set_option maxRecDepth 20000 in
theorem c_X3_firstFault {G : xs_G} {base : Nat} (d : Nat) (st : xs_S) (hp : PW (F_X3_startReading st)) : xs_K G base (d + 4) M_X3_firstFault [.ref 70] st (fun v u => v = some (.int (F_X3_firstFault st).1) ∧ u = (F_X3_firstFault st).2) := by
  refine xs_intro ok_X3_firstFault [(0, .ref 70)] rfl rfl ?_
  refine xr_blk gd_X3_firstFault 1 (c' := (1, [(0, .ref 70)], [.ref 70], st)) rfl ?_
  refine xr_callV gd_X3_firstFault gd_X3_startReading k_X3_42 rfl (c_X3_startReading (d + 3) st) (by omega) rfl rfl rfl rfl rfl ?_
  refine xs_fun ?_
  refine xr_blk gd_X3_firstFault 2 (c' := (6, [(0, .ref 70), (1, .int 0)], [], (F_X3_startReading st))) rfl ?_
  refine xs_cons (cl_X3_firstFault_6 d 81 0 (F_X3_startReading st) ⟨⟨by decide, by decide, by decide⟩, hp⟩) (fun v u hq => ?_)
  rw [F_X3_firstFault]; exact hq
