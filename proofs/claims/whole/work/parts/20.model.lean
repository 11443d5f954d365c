theorem xm_itsv {dial w : Int32} (hd : 0 ≤ dial.toInt ∧ dial.toInt < 15) (hw : 0 ≤ w.toInt ∧ w.toInt ≤ 6) : (6 + 7 * dial + w).toInt = 6 + 7 * dial.toInt + w.toInt := by
  have h6 : (6 : Int32).toInt = 6 := by decide
  have h7 : (7 : Int32).toInt = 7 := by decide
  have e1 : (7 * dial).toInt = 7 * dial.toInt := by rw [xi_mul (by rw [h7]; omega), h7]
  have e2 : (6 + 7 * dial).toInt = 6 + 7 * dial.toInt := by rw [xi_add (by rw [h6, e1]; omega), h6, e1]
  rw [xi_add (by rw [e2]; omega), e2]
theorem xm_its {dial w : Int32} (hd : 0 ≤ dial.toInt ∧ dial.toInt < 15) (hw : 0 ≤ w.toInt ∧ w.toInt ≤ 6) : 0 ≤ (6 + 7 * dial + w).toInt ∧ (6 + 7 * dial + w).toInt < 111 := by
  rw [xm_itsv hd hw]
  omega
theorem xm_i1 {x : Int32} {n : Nat} (h : xs_lo x 555 n) (hc : ¬ 555 ≤ x) : 0 ≤ (111 + x).toInt ∧ (111 + x).toInt < 666 := by
  have h1 := xs_lo_in h hc
  have h5 : (555 : Int32).toInt = 555 := by decide
  have h11 : (111 : Int32).toInt = 111 := by decide
  rw [xi_add (by rw [h11]; omega), h11]
  omega
theorem xm_i2 {x : Int32} {n : Nat} (h : xs_lo x 555 n) (hc : ¬ 555 ≤ x) : 0 ≤ x.toInt ∧ x.toInt < 666 := by
  have h1 := xs_lo_in h hc
  have h5 : (555 : Int32).toInt = 555 := by decide
  omega
theorem xm_i3v {s x : Int32} (hs : 0 ≤ s.toInt ∧ s.toInt ≤ 5) (hx : 0 ≤ x.toInt ∧ x.toInt < 111) : (111 * s + x).toInt = 111 * s.toInt + x.toInt := by
  have h11 : (111 : Int32).toInt = 111 := by decide
  have e1 : (111 * s).toInt = 111 * s.toInt := by rw [xi_mul (by rw [h11]; omega), h11]
  rw [xi_add (by rw [e1]; omega), e1]
theorem xm_111 {x : Int32} {n : Nat} (h : xs_lo x 111 n) (hc : ¬ 111 ≤ x) : 0 ≤ x.toInt ∧ x.toInt < 111 := xs_lo_in h hc
theorem xm_i3 {s x : Int32} {n : Nat} (hs : 0 ≤ s.toInt ∧ s.toInt ≤ 5) (h : xs_lo x 111 n) (hc : ¬ 111 ≤ x) : 0 ≤ (111 * s + x).toInt ∧ (111 * s + x).toInt < 666 := by
  have h1 := xm_111 h hc
  rw [xm_i3v hs h1]
  omega
theorem xm_i4 {s x : Int32} {n : Nat} (hs : 0 ≤ s.toInt ∧ s.toInt < 2) (h : xs_lo x 111 n) (hc : ¬ 111 ≤ x) : 0 ≤ (111 * s + x).toInt ∧ (111 * s + x).toInt < 222 := by
  have h1 := xm_111 h hc
  rw [xm_i3v ⟨hs.1, by omega⟩ h1]
  omega
theorem xm_r0 {s : Int32} (h : s = 6) : xs_lo 0 555 556 ∧ s.toInt = 6 := ⟨⟨by decide, by decide, by decide⟩, by rw [h]; decide⟩
theorem xm_r1 {s : Int32} (h : s.toInt = 6) : xs_lo 0 111 112 ∧ (0 ≤ (s - 1).toInt ∧ (s - 1).toInt ≤ 5) := by
  refine ⟨⟨by decide, by decide, by decide⟩, ?_⟩
  rw [xi_sub (by rw [xi_1]; omega), xi_1]
  omega
theorem xm_r2 {s : Int32} (hst : 0 ≤ s.toInt ∧ s.toInt ≤ 6) (h : ¬ s = 6) : xs_lo 0 111 112 ∧ (0 ≤ s.toInt ∧ s.toInt ≤ 5) := by
  refine ⟨⟨by decide, by decide, by decide⟩, ?_⟩
  have h6 : (6 : Int32).toInt = 6 := by decide
  rw [xi_eq, h6] at h
  omega
theorem xm_u {s : Int32} (hst : 0 ≤ s.toInt ∧ s.toInt ≤ 6) (h : ¬ s = 0) : xs_lo 0 111 112 ∧ (0 ≤ (s - 1).toInt ∧ (s - 1).toInt ≤ 5) := by
  refine ⟨⟨by decide, by decide, by decide⟩, ?_⟩
  rw [xi_eq, xi_0] at h
  rw [xi_sub (by rw [xi_1]; omega), xi_1]
  omega
def F_X7_in (st : xs_S) (val : Int64) (a : Int32) (b : Int32) : Int32 := (if (lg_cmp val a.toInt64) < 0 then 0
    else (if 0 < (lg_cmp val b.toInt64) then 0
      else 1))
set_option maxRecDepth 20000 in
theorem c_X7_in {G : xs_G} {base : Nat} (d : Nat) (st : xs_S) (val : Int64) (a : Int32) (b : Int32) : xs_K G base (d + 0) M_X7_in [.long val, .int a, .int b] st (fun v u => v = some (.int (F_X7_in st val a b)) ∧ u = st) := by
  refine xs_intro ok_X7_in [(0, .long val), (2, .int a), (3, .int b)] rfl rfl ?_
  refine xr_blk gd_X7_in 4 (c' := (4, [(0, .long val), (2, .int a), (3, .int b)], [.int (lg_cmp val a.toInt64)], st)) rfl ?_
  refine xr_br gd_X7_in rfl rfl (fun h1 => ?_) (fun h1 => ?_)
  · refine xr_blk gd_X7_in 1 (c' := (19, [(0, .long val), (2, .int a), (3, .int b)], [.int 0], st)) rfl ?_
    exact xr_zret gd_X7_in rfl rfl rfl ⟨by first | (rw [F_X7_in, if_pos h1]; done) | (rw [F_X7_in, if_pos h1]; rfl), rfl⟩
  · refine xr_blk gd_X7_in 4 (c' := (11, [(0, .long val), (2, .int a), (3, .int b)], [.int (lg_cmp val b.toInt64)], st)) rfl ?_
    refine xr_br gd_X7_in rfl rfl (fun h2 => ?_) (fun h2 => ?_)
    · refine xr_blk gd_X7_in 1 (c' := (19, [(0, .long val), (2, .int a), (3, .int b)], [.int 0], st)) rfl ?_
      exact xr_zret gd_X7_in rfl rfl rfl ⟨by first | (rw [F_X7_in, if_neg h1, if_pos h2]; done) | (rw [F_X7_in, if_neg h1, if_pos h2]; rfl), rfl⟩
    · refine xr_blk gd_X7_in 2 (c' := (19, [(0, .long val), (2, .int a), (3, .int b)], [.int 1], st)) rfl ?_
      exact xr_zret gd_X7_in rfl rfl rfl ⟨by first | (rw [F_X7_in, if_neg h1, if_neg h2]; done) | (rw [F_X7_in, if_neg h1, if_neg h2]; rfl), rfl⟩
theorem in_01 {st : xs_S} {v : Int64} {a b : Int32} : F_X7_in st v a b = 0 ∨ F_X7_in st v a b = 1 := by
  unfold F_X7_in
  repeat' split
  all_goals first | exact Or.inl rfl | exact Or.inr rfl
theorem lg_lt0 (x y : Int64) : lg_cmp x y < 0 ↔ x.toInt < y.toInt := by
  have h := lg_cmp_ge x y
  rw [xi_le, xi_0, Int64.le_iff_toInt_le] at h
  rw [xi_lt, xi_0]
  omega
theorem lg_gt0 (x y : Int64) : 0 < lg_cmp x y ↔ y.toInt < x.toInt := by
  unfold lg_cmp
  simp only [gt_iff_lt, Int64.lt_iff_toInt_lt]
  by_cases h : y.toInt < x.toInt
  · rw [if_pos h]
    exact ⟨fun _ => h, fun _ => by decide⟩
  · rw [if_neg h]
    refine ⟨fun h2 => ?_, fun h2 => absurd h2 h⟩
    split at h2 <;> exact absurd h2 (by decide)
theorem in_if {st : xs_S} {x a b : Int32} : F_X7_in st x.toInt64 a b = if a.toInt ≤ x.toInt ∧ x.toInt ≤ b.toInt then 1 else 0 := by
  unfold F_X7_in
  have e1 := lg_lt0 x.toInt64 a.toInt64
  have e2 := lg_gt0 x.toInt64 b.toInt64
  rw [Int32.toInt_toInt64, Int32.toInt_toInt64] at e1 e2
  by_cases h1 : x.toInt < a.toInt
  · rw [if_pos (e1.mpr h1), if_neg (show ¬ (a.toInt ≤ x.toInt ∧ x.toInt ≤ b.toInt) by omega)]
  · rw [if_neg (fun h => h1 (e1.mp h))]
    by_cases h2 : b.toInt < x.toInt
    · rw [if_pos (e2.mpr h2), if_neg (show ¬ (a.toInt ≤ x.toInt ∧ x.toInt ≤ b.toInt) by omega)]
    · rw [if_neg (fun h => h2 (e2.mp h)), if_pos (show a.toInt ≤ x.toInt ∧ x.toInt ≤ b.toInt by omega)]
theorem in_ne {st : xs_S} {x a b : Int32} (h : ¬ F_X7_in st x.toInt64 a b = 0) : a.toInt ≤ x.toInt ∧ x.toInt ≤ b.toInt := by
  rw [in_if] at h
  by_cases hc : a.toInt ≤ x.toInt ∧ x.toInt ≤ b.toInt
  · exact hc
  · rw [if_neg hc] at h
    exact absurd rfl h
theorem in_slot {st : xs_S} {x : Int32} (h : ¬ F_X7_in st x.toInt64 0 1 = 0) : 0 ≤ x.toInt ∧ x.toInt < 2 := by
  have h1 := in_ne h
  rw [xi_0, xi_1] at h1
  omega
def F_X7_isDial (st : xs_S) (dial : Int32) : Int32 := (F_X7_in st dial.toInt64 0 ((st 73 3) - 1))
set_option maxRecDepth 20000 in
theorem c_X7_isDial {G : xs_G} {base : Nat} (d : Nat) (st : xs_S) (dial : Int32) : xs_K G base (d + 1) M_X7_isDial [.ref 72, .int dial] st (fun v u => v = some (.int (F_X7_isDial st dial)) ∧ u = st) := by
  refine xs_intro ok_X7_isDial [(0, .ref 72), (1, .int dial)] rfl rfl ?_
  refine xr_blk gd_X7_isDial 6 (c' := (8, [(0, .ref 72), (1, .int dial)], [.int 3, .ref 73, .int 0, .long dial.toInt64], st)) rfl ?_
  refine xr_iald gd_X7_isDial rfl rfl (3) (by decide) (by decide) ?_
  refine xr_blk gd_X7_isDial 2 (c' := (11, [(0, .ref 72), (1, .int dial)], [.int ((st 73 3) - 1), .int 0, .long dial.toInt64], st)) rfl ?_
  refine xr_callS gd_X7_isDial gd_X7_in k_X7_41 rfl (c_X7_in (d + 0) st dial.toInt64 0 ((st 73 3) - 1)) (by omega) rfl rfl rfl ?_
  refine xs_fun ?_
  exact xr_zret gd_X7_isDial rfl rfl (xz_01 in_01) ⟨by first | (rw [F_X7_isDial]; done) | (rw [F_X7_isDial]; rfl), rfl⟩
theorem isDial_in {st : xs_S} {dial : Int32} (hD : 0 ≤ (st 73 3).toInt ∧ (st 73 3).toInt ≤ 15) (h : ¬ F_X7_isDial st dial = 0) : 0 ≤ dial.toInt ∧ dial.toInt < 15 := by
  unfold F_X7_isDial at h
  have h1 := in_ne h
  rw [xi_0, xi_sub (by rw [xi_1]; omega), xi_1] at h1
  omega
def F_X7_its (st : xs_S) (dial : Int32) (what : Int32) : Int32 := st 73 (((6 + (7 * dial)) + what).toInt.toNat)
set_option maxRecDepth 20000 in
theorem c_X7_its {G : xs_G} {base : Nat} (d : Nat) (st : xs_S) (dial : Int32) (what : Int32) (hi : 0 ≤ (6 + 7 * dial + what).toInt ∧ (6 + 7 * dial + what).toInt < 111) : xs_K G base (d + 0) M_X7_its [.ref 72, .int dial, .int what] st (fun v u => v = some (.int (F_X7_its st dial what)) ∧ u = st) := by
  refine xs_intro ok_X7_its [(0, .ref 72), (1, .int dial), (2, .int what)] rfl rfl ?_
  refine xr_blk gd_X7_its 9 (c' := (13, [(0, .ref 72), (1, .int dial), (2, .int what)], [.int ((6 + (7 * dial)) + what), .ref 73], st)) rfl ?_
  refine xr_iald gd_X7_its rfl rfl (((6 + (7 * dial)) + what).toInt.toNat) (xs_h1 (n := 111) hi) (xs_h2 (n := 111) hi) ?_
  exact xr_iret gd_X7_its rfl rfl ⟨by first | (rw [F_X7_its]; done) | (rw [F_X7_its]; rfl), rfl⟩
def F_X7_lay (st : xs_S) (dial : Int32) (what : Int32) (value : Int32) : xs_S := xs_u st 73 (((6 + (7 * dial)) + what).toInt.toNat) value
set_option maxRecDepth 20000 in
theorem c_X7_lay {G : xs_G} {base : Nat} (d : Nat) (st : xs_S) (dial : Int32) (what : Int32) (value : Int32) (hi : 0 ≤ (6 + 7 * dial + what).toInt ∧ (6 + 7 * dial + what).toInt < 111) : xs_K G base (d + 0) M_X7_lay [.ref 72, .int dial, .int what, .int value] st (fun v u => v = none ∧ u = F_X7_lay st dial what value) := by
  refine xs_intro ok_X7_lay [(0, .ref 72), (1, .int dial), (2, .int what), (3, .int value)] rfl rfl ?_
  refine xr_blk gd_X7_lay 10 (c' := (14, [(0, .ref 72), (1, .int dial), (2, .int what), (3, .int value)], [.int value, .int ((6 + (7 * dial)) + what), .ref 73], st)) rfl ?_
  refine xr_iast gd_X7_lay rfl rfl (((6 + (7 * dial)) + what).toInt.toNat) (xs_h1 (n := 111) hi) (xs_h2 (n := 111) hi) ?_
  exact xr_vret gd_X7_lay rfl rfl ⟨rfl, by first | (rw [F_X7_lay]; done) | (rw [F_X7_lay]; rfl)⟩
def lp_X7_size_4 (st : xs_S) (mask : Int32) : Nat → Int32 → Int32 → Int32
  | 0, _, _ => 0
  | n + 1, x1, x2 => (if 15 ≤ x2 then x1
    else lp_X7_size_4 st mask n (x1 + ((mask >>> (x2 &&& 31)) &&& 1)) (x2 + 1))
set_option maxRecDepth 20000 in
theorem cl_X7_size_4 {G : xs_G} {base : Nat} (d : Nat) (st : xs_S) (mask : Int32) : ∀ (n : Nat) (x1 : Int32) (x2 : Int32), xs_lo x2 15 n → xs_R G base (d + 0) M_X7_size (4, [(0, .int mask), (1, .int x1), (2, .int x2)], [], st) (fun v u => v = some (.int (lp_X7_size_4 st mask n x1 x2)) ∧ u = st) := by
  intro n
  induction n with
  | zero =>
    intro x1 x2 hinv
    exact (xs_lo0 hinv).elim
  | succ n ih =>
    intro x1 x2 hinv
    refine xr_blk gd_X7_size 2 (c' := (7, [(0, .int mask), (1, .int x1), (2, .int x2)], [.int 15, .int x2], st)) rfl ?_
    refine xr_br gd_X7_size rfl rfl (fun h1 => ?_) (fun h1 => ?_)
    · refine xr_blk gd_X7_size 1 (c' := (25, [(0, .int mask), (1, .int x1), (2, .int x2)], [.int x1], st)) rfl ?_
      exact xr_iret gd_X7_size rfl rfl ⟨by first | (rw [lp_X7_size_4, if_pos h1]; done) | (rw [lp_X7_size_4, if_pos h1]; rfl), rfl⟩
    · refine xr_blk gd_X7_size 10 (c' := (4, [(0, .int mask), (1, .int (x1 + ((mask >>> (x2 &&& 31)) &&& 1))), (2, .int (x2 + 1))], [], st)) rfl ?_
      refine xs_cons (ih (x1 + ((mask >>> (x2 &&& 31)) &&& 1)) (x2 + 1) (xs_lo_up hinv h1)) (fun v u hq => ?_)
      rw [lp_X7_size_4, if_neg h1]; exact hq
def F_X7_size (st : xs_S) (mask : Int32) : Int32 := lp_X7_size_4 st mask 16 0 0
set_option maxRecDepth 20000 in
theorem c_X7_size {G : xs_G} {base : Nat} (d : Nat) (st : xs_S) (mask : Int32) : xs_K G base (d + 0) M_X7_size [.int mask] st (fun v u => v = some (.int (F_X7_size st mask)) ∧ u = st) := by
  refine xs_intro ok_X7_size [(0, .int mask)] rfl rfl ?_
  refine xr_blk gd_X7_size 4 (c' := (4, [(0, .int mask), (1, .int 0), (2, .int 0)], [], st)) rfl ?_
  refine xs_cons (cl_X7_size_4 d st mask 16 0 0 ⟨by decide, by decide, by decide⟩) (fun v u hq => ?_)
  rw [F_X7_size]; exact hq
def lp_X7_remember_2 : Nat → Int32 → xs_S → xs_S
  | 0, _, st => st
  | n + 1, x1, st => (if 111 ≤ x1 then st
    else lp_X7_remember_2 n (x1 + 1) (xs_u st 75 x1.toInt.toNat (st 73 x1.toInt.toNat)))
set_option maxRecDepth 20000 in
theorem cl_X7_remember_2 {G : xs_G} {base : Nat} (d : Nat) : ∀ (n : Nat) (x1 : Int32) (st : xs_S), xs_lo x1 111 n → xs_R G base (d + 0) M_X7_remember (2, [(0, .ref 72), (1, .int x1)], [], st) (fun v u => v = none ∧ u = lp_X7_remember_2 n x1 st) := by
  intro n
  induction n with
  | zero =>
    intro x1 st hinv
    exact (xs_lo0 hinv).elim
  | succ n ih =>
    intro x1 st hinv
    refine xr_blk gd_X7_remember 2 (c' := (5, [(0, .ref 72), (1, .int x1)], [.int 111, .int x1], st)) rfl ?_
    refine xr_br gd_X7_remember rfl rfl (fun h1 => ?_) (fun h1 => ?_)
    · exact xr_vret gd_X7_remember rfl rfl ⟨rfl, by first | (rw [lp_X7_remember_2, if_pos h1]; done) | (rw [lp_X7_remember_2, if_pos h1]; rfl)⟩
    · refine xr_blk gd_X7_remember 6 (c' := (18, [(0, .ref 72), (1, .int x1)], [.int x1, .ref 73, .int x1, .ref 75], st)) rfl ?_
      refine xr_iald gd_X7_remember rfl rfl (x1.toInt.toNat) (xs_h1 (n := 111) (xm_111 hinv h1)) (xs_h2 (n := 111) (xm_111 hinv h1)) ?_
      refine xr_iast gd_X7_remember rfl rfl (x1.toInt.toNat) (xs_h1 (n := 111) (xm_111 hinv h1)) (xs_h2 (n := 111) (xm_111 hinv h1)) ?_
      refine xr_blk gd_X7_remember 2 (c' := (2, [(0, .ref 72), (1, .int (x1 + 1))], [], xs_u st 75 x1.toInt.toNat (st 73 x1.toInt.toNat))) rfl ?_
      refine xs_cons (ih (x1 + 1) (xs_u st 75 x1.toInt.toNat (st 73 x1.toInt.toNat)) (xs_lo_up hinv h1)) (fun v u hq => ?_)
      rw [lp_X7_remember_2, if_neg h1]; exact hq
def F_X7_remember (st : xs_S) : xs_S := lp_X7_remember_2 112 0 st
set_option maxRecDepth 20000 in
theorem c_X7_remember {G : xs_G} {base : Nat} (d : Nat) (st : xs_S) : xs_K G base (d + 0) M_X7_remember [.ref 72] st (fun v u => v = none ∧ u = F_X7_remember st) := by
  refine xs_intro ok_X7_remember [(0, .ref 72)] rfl rfl ?_
  refine xr_blk gd_X7_remember 2 (c' := (2, [(0, .ref 72), (1, .int 0)], [], st)) rfl ?_
  refine xs_cons (cl_X7_remember_2 d 112 0 st ⟨by decide, by decide, by decide⟩) (fun v u hq => ?_)
  rw [F_X7_remember]; exact hq
def lp_X7_record_63 (told : Int32) : Nat → Int32 → xs_S → Int32 × xs_S
  | 0, _, st => (0, st)
  | n + 1, x2, st => (if 111 ≤ x2 then (told, xs_u st 72 5 ((st 72 5) + 1))
    else lp_X7_record_63 told n (x2 + 1) (xs_u st 74 (((111 * (st 72 5)) + x2).toInt.toNat) (st 75 x2.toInt.toNat)))
set_option maxRecDepth 20000 in
theorem cl_X7_record_63 {G : xs_G} {base : Nat} (d : Nat) (told : Int32) : ∀ (n : Nat) (x2 : Int32) (st : xs_S), xs_lo x2 111 n ∧ (0 ≤ (st 72 5).toInt ∧ (st 72 5).toInt ≤ 5) → xs_R G base (d + 0) M_X7_record (63, [(0, .ref 72), (1, .int told), (2, .int x2)], [], st) (fun v u => v = some (.int (lp_X7_record_63 told n x2 st).1) ∧ u = (lp_X7_record_63 told n x2 st).2) := by
  intro n
  induction n with
  | zero =>
    intro x2 st hinv
    exact (xs_lo0 hinv.1).elim
  | succ n ih =>
    intro x2 st hinv
    refine xr_blk gd_X7_record 2 (c' := (66, [(0, .ref 72), (1, .int told), (2, .int x2)], [.int 111, .int x2], st)) rfl ?_
    refine xr_br gd_X7_record rfl rfl (fun h1 => ?_) (fun h1 => ?_)
    · refine xr_blk gd_X7_record 7 (c' := (106, [(0, .ref 72), (1, .int told), (2, .int x2)], [.int told], xs_u st 72 5 ((st 72 5) + 1))) rfl ?_
      exact xr_iret gd_X7_record rfl rfl ⟨by first | (rw [lp_X7_record_63, if_pos h1]; done) | (rw [lp_X7_record_63, if_pos h1]; rfl), by first | (rw [lp_X7_record_63, if_pos h1]; done) | (rw [lp_X7_record_63, if_pos h1]; rfl)⟩
    · refine xr_blk gd_X7_record 11 (c' := (87, [(0, .ref 72), (1, .int told), (2, .int x2)], [.int x2, .ref 75, .int ((111 * (st 72 5)) + x2), .ref 74], st)) rfl ?_
      refine xr_iald gd_X7_record rfl rfl (x2.toInt.toNat) (xs_h1 (n := 111) (xm_111 hinv.1 h1)) (xs_h2 (n := 111) (xm_111 hinv.1 h1)) ?_
      refine xr_iast gd_X7_record rfl rfl (((111 * (st 72 5)) + x2).toInt.toNat) (xs_h1 (n := 666) (xm_i3 hinv.2 hinv.1 h1)) (xs_h2 (n := 666) (xm_i3 hinv.2 hinv.1 h1)) ?_
      refine xr_blk gd_X7_record 2 (c' := (63, [(0, .ref 72), (1, .int told), (2, .int (x2 + 1))], [], xs_u st 74 (((111 * (st 72 5)) + x2).toInt.toNat) (st 75 x2.toInt.toNat))) rfl ?_
      refine xs_cons (ih (x2 + 1) (xs_u st 74 (((111 * (st 72 5)) + x2).toInt.toNat) (st 75 x2.toInt.toNat)) ⟨xs_lo_up hinv.1 h1, hinv.2⟩) (fun v u hq => ?_)
      rw [lp_X7_record_63, if_neg h1]; exact hq
def lp_X7_record_23 (told : Int32) : Nat → Int32 → xs_S → Int32 × xs_S
  | 0, _, st => (0, st)
  | n + 1, x2, st => (if 555 ≤ x2 then lp_X7_record_63 told 112 0 (xs_u st 72 5 ((st 72 5) - 1))
    else lp_X7_record_23 told n (x2 + 1) (xs_u st 74 x2.toInt.toNat (st 74 ((111 + x2).toInt.toNat))))
set_option maxRecDepth 20000 in
theorem cl_X7_record_23 {G : xs_G} {base : Nat} (d : Nat) (told : Int32) : ∀ (n : Nat) (x2 : Int32) (st : xs_S), xs_lo x2 555 n ∧ (st 72 5).toInt = 6 → xs_R G base (d + 0) M_X7_record (23, [(0, .ref 72), (1, .int told), (2, .int x2)], [], st) (fun v u => v = some (.int (lp_X7_record_23 told n x2 st).1) ∧ u = (lp_X7_record_23 told n x2 st).2) := by
  intro n
  induction n with
  | zero =>
    intro x2 st hinv
    exact (xs_lo0 hinv.1).elim
  | succ n ih =>
    intro x2 st hinv
    refine xr_blk gd_X7_record 2 (c' := (27, [(0, .ref 72), (1, .int told), (2, .int x2)], [.int 555, .int x2], st)) rfl ?_
    refine xr_br gd_X7_record rfl rfl (fun h1 => ?_) (fun h1 => ?_)
    · refine xr_blk gd_X7_record 8 (c' := (63, [(0, .ref 72), (1, .int told), (2, .int 0)], [], xs_u st 72 5 ((st 72 5) - 1))) rfl ?_
      refine xs_cons (cl_X7_record_63 d told 112 0 (xs_u st 72 5 ((st 72 5) - 1)) (by first | exact xm_r1 hinv.2 | exact xm_r2 hst h2 | exact xm_r2 hst h3 | exact xm_r2 hst h4 | exact xm_r2 hst h5)) (fun v u hq => ?_)
      rw [lp_X7_record_23, if_pos h1]; exact hq
    · refine xr_blk gd_X7_record 8 (c' := (43, [(0, .ref 72), (1, .int told), (2, .int x2)], [.int (111 + x2), .ref 74, .int x2, .ref 74], st)) rfl ?_
      refine xr_iald gd_X7_record rfl rfl ((111 + x2).toInt.toNat) (xs_h1 (n := 666) (xm_i1 hinv.1 h1)) (xs_h2 (n := 666) (xm_i1 hinv.1 h1)) ?_
      refine xr_iast gd_X7_record rfl rfl (x2.toInt.toNat) (xs_h1 (n := 666) (xm_i2 hinv.1 h1)) (xs_h2 (n := 666) (xm_i2 hinv.1 h1)) ?_
      refine xr_blk gd_X7_record 2 (c' := (23, [(0, .ref 72), (1, .int told), (2, .int (x2 + 1))], [], xs_u st 74 x2.toInt.toNat (st 74 ((111 + x2).toInt.toNat)))) rfl ?_
      refine xs_cons (ih (x2 + 1) (xs_u st 74 x2.toInt.toNat (st 74 ((111 + x2).toInt.toNat))) ⟨xs_lo_up hinv.1 h1, hinv.2⟩) (fun v u hq => ?_)
      rw [lp_X7_record_23, if_neg h1]; exact hq
def F_X7_record (st : xs_S) (told : Int32) : Int32 × xs_S := (if 0 ≤ told then (if (st 72 5) = 6 then lp_X7_record_23 told 556 0 st
      else lp_X7_record_63 told 112 0 st)
    else (if told = (-6) then (if (st 72 5) = 6 then lp_X7_record_23 told 556 0 st
        else lp_X7_record_63 told 112 0 st)
      else (told, st)))
set_option maxRecDepth 20000 in
theorem c_X7_record {G : xs_G} {base : Nat} (d : Nat) (st : xs_S) (told : Int32) (hst : 0 ≤ (st 72 5).toInt ∧ (st 72 5).toInt ≤ 6) : xs_K G base (d + 0) M_X7_record [.ref 72, .int told] st (fun v u => v = some (.int (F_X7_record st told).1) ∧ u = (F_X7_record st told).2) := by
  refine xs_intro ok_X7_record [(0, .ref 72), (1, .int told)] rfl rfl ?_
  refine xr_blk gd_X7_record 1 (c' := (1, [(0, .ref 72), (1, .int told)], [.int told], st)) rfl ?_
  refine xr_br gd_X7_record rfl rfl (fun h1 => ?_) (fun h1 => ?_)
  · refine xr_blk gd_X7_record 3 (c' := (18, [(0, .ref 72), (1, .int told)], [.int 6, .int (st 72 5)], st)) rfl ?_
    refine xr_br gd_X7_record rfl rfl (fun h2 => ?_) (fun h2 => ?_)
    · refine xr_blk gd_X7_record 2 (c' := (63, [(0, .ref 72), (1, .int told), (2, .int 0)], [], st)) rfl ?_
      refine xs_cons (cl_X7_record_63 d told 112 0 st (by first | exact xm_r1 hinv.2 | exact xm_r2 hst h2 | exact xm_r2 hst h3 | exact xm_r2 hst h4 | exact xm_r2 hst h5)) (fun v u hq => ?_)
      rw [F_X7_record, if_pos h1, if_neg h2]; exact hq
    · refine xr_blk gd_X7_record 2 (c' := (23, [(0, .ref 72), (1, .int told), (2, .int 0)], [], st)) rfl ?_
      refine xs_cons (cl_X7_record_23 d told 556 0 st (by first | exact xm_r0 h2 | exact xm_r0 h3 | exact xm_r0 h4 | exact xm_r0 h5)) (fun v u hq => ?_)
      rw [F_X7_record, if_pos h1, if_pos h2]; exact hq
  · refine xr_blk gd_X7_record 2 (c' := (7, [(0, .ref 72), (1, .int told)], [.int (-6), .int told], st)) rfl ?_
    refine xr_br gd_X7_record rfl rfl (fun h3 => ?_) (fun h3 => ?_)
    · refine xr_blk gd_X7_record 3 (c' := (18, [(0, .ref 72), (1, .int told)], [.int 6, .int (st 72 5)], st)) rfl ?_
      refine xr_br gd_X7_record rfl rfl (fun h4 => ?_) (fun h4 => ?_)
      · refine xr_blk gd_X7_record 2 (c' := (63, [(0, .ref 72), (1, .int told), (2, .int 0)], [], st)) rfl ?_
        refine xs_cons (cl_X7_record_63 d told 112 0 st (by first | exact xm_r1 hinv.2 | exact xm_r2 hst h2 | exact xm_r2 hst h3 | exact xm_r2 hst h4 | exact xm_r2 hst h5)) (fun v u hq => ?_)
        rw [F_X7_record, if_neg h1, if_pos h3, if_neg h4]; exact hq
      · refine xr_blk gd_X7_record 2 (c' := (23, [(0, .ref 72), (1, .int told), (2, .int 0)], [], st)) rfl ?_
        refine xs_cons (cl_X7_record_23 d told 556 0 st (by first | exact xm_r0 h2 | exact xm_r0 h3 | exact xm_r0 h4 | exact xm_r0 h5)) (fun v u hq => ?_)
        rw [F_X7_record, if_neg h1, if_pos h3, if_pos h4]; exact hq
    · refine xr_blk gd_X7_record 1 (c' := (11, [(0, .ref 72), (1, .int told)], [.int told], st)) rfl ?_
      exact xr_iret gd_X7_record rfl rfl ⟨by first | (rw [F_X7_record, if_neg h1, if_neg h3]; done) | (rw [F_X7_record, if_neg h1, if_neg h3]; rfl), by first | (rw [F_X7_record, if_neg h1, if_neg h3]; done) | (rw [F_X7_record, if_neg h1, if_neg h3]; rfl)⟩
def lp_X7_undo_22 : Nat → Int32 → xs_S → Int32 × xs_S
  | 0, _, st => (0, st)
  | n + 1, x1, st => (if 111 ≤ x1 then (st 72 5, st)
    else lp_X7_undo_22 n (x1 + 1) (xs_u st 73 x1.toInt.toNat (st 74 (((111 * (st 72 5)) + x1).toInt.toNat))))
set_option maxRecDepth 20000 in
theorem cl_X7_undo_22 {G : xs_G} {base : Nat} (d : Nat) : ∀ (n : Nat) (x1 : Int32) (st : xs_S), xs_lo x1 111 n ∧ (0 ≤ (st 72 5).toInt ∧ (st 72 5).toInt ≤ 5) → xs_R G base (d + 0) M_X7_undo (22, [(0, .ref 72), (1, .int x1)], [], st) (fun v u => v = some (.int (lp_X7_undo_22 n x1 st).1) ∧ u = (lp_X7_undo_22 n x1 st).2) := by
  intro n
  induction n with
  | zero =>
    intro x1 st hinv
    exact (xs_lo0 hinv.1).elim
  | succ n ih =>
    intro x1 st hinv
    refine xr_blk gd_X7_undo 2 (c' := (25, [(0, .ref 72), (1, .int x1)], [.int 111, .int x1], st)) rfl ?_
    refine xr_br gd_X7_undo rfl rfl (fun h1 => ?_) (fun h1 => ?_)
    · refine xr_blk gd_X7_undo 2 (c' := (58, [(0, .ref 72), (1, .int x1)], [.int (st 72 5)], st)) rfl ?_
      exact xr_iret gd_X7_undo rfl rfl ⟨by first | (rw [lp_X7_undo_22, if_pos h1]; done) | (rw [lp_X7_undo_22, if_pos h1]; rfl), by first | (rw [lp_X7_undo_22, if_pos h1]; done) | (rw [lp_X7_undo_22, if_pos h1]; rfl)⟩
    · refine xr_blk gd_X7_undo 11 (c' := (46, [(0, .ref 72), (1, .int x1)], [.int ((111 * (st 72 5)) + x1), .ref 74, .int x1, .ref 73], st)) rfl ?_
      refine xr_iald gd_X7_undo rfl rfl (((111 * (st 72 5)) + x1).toInt.toNat) (xs_h1 (n := 666) (xm_i3 hinv.2 hinv.1 h1)) (xs_h2 (n := 666) (xm_i3 hinv.2 hinv.1 h1)) ?_
      refine xr_iast gd_X7_undo rfl rfl (x1.toInt.toNat) (xs_h1 (n := 111) (xm_111 hinv.1 h1)) (xs_h2 (n := 111) (xm_111 hinv.1 h1)) ?_
      refine xr_blk gd_X7_undo 2 (c' := (22, [(0, .ref 72), (1, .int (x1 + 1))], [], xs_u st 73 x1.toInt.toNat (st 74 (((111 * (st 72 5)) + x1).toInt.toNat)))) rfl ?_
      refine xs_cons (ih (x1 + 1) (xs_u st 73 x1.toInt.toNat (st 74 (((111 * (st 72 5)) + x1).toInt.toNat))) ⟨xs_lo_up hinv.1 h1, hinv.2⟩) (fun v u hq => ?_)
      rw [lp_X7_undo_22, if_neg h1]; exact hq
def F_X7_undo (st : xs_S) : Int32 × xs_S := (if (st 72 5) = 0 then ((-5), st)
    else lp_X7_undo_22 112 0 (xs_u st 72 5 ((st 72 5) - 1)))
set_option maxRecDepth 20000 in
theorem c_X7_undo {G : xs_G} {base : Nat} (d : Nat) (st : xs_S) (hst : 0 ≤ (st 72 5).toInt ∧ (st 72 5).toInt ≤ 6) : xs_K G base (d + 0) M_X7_undo [.ref 72] st (fun v u => v = some (.int (F_X7_undo st).1) ∧ u = (F_X7_undo st).2) := by
  refine xs_intro ok_X7_undo [(0, .ref 72)] rfl rfl ?_
  refine xr_blk gd_X7_undo 2 (c' := (4, [(0, .ref 72)], [.int (st 72 5)], st)) rfl ?_
  refine xr_br gd_X7_undo rfl rfl (fun h1 => ?_) (fun h1 => ?_)
  · refine xr_blk gd_X7_undo 8 (c' := (22, [(0, .ref 72), (1, .int 0)], [], xs_u st 72 5 ((st 72 5) - 1))) rfl ?_
    refine xs_cons (cl_X7_undo_22 d 112 0 (xs_u st 72 5 ((st 72 5) - 1)) (xm_u hst h1)) (fun v u hq => ?_)
    rw [F_X7_undo, if_neg h1]; exact hq
  · refine xr_blk gd_X7_undo 1 (c' := (9, [(0, .ref 72)], [.int (-5)], st)) rfl ?_
    exact xr_iret gd_X7_undo rfl rfl ⟨by first | (rw [F_X7_undo, if_pos h1]; done) | (rw [F_X7_undo, if_pos h1]; rfl), by first | (rw [F_X7_undo, if_pos h1]; done) | (rw [F_X7_undo, if_pos h1]; rfl)⟩
def lp_X7_save_15 (slot : Int32) : Nat → Int32 → xs_S → Int32 × xs_S
  | 0, _, st => (0, st)
  | n + 1, x2, st => (if 111 ≤ x2 then (st 73 3, xs_u st 77 slot.toInt.toNat 1)
    else lp_X7_save_15 slot n (x2 + 1) (xs_u st 76 (((111 * slot) + x2).toInt.toNat) (st 73 x2.toInt.toNat)))
set_option maxRecDepth 20000 in
theorem cl_X7_save_15 {G : xs_G} {base : Nat} (d : Nat) (slot : Int32) (hs : 0 ≤ slot.toInt ∧ slot.toInt < 2) : ∀ (n : Nat) (x2 : Int32) (st : xs_S), xs_lo x2 111 n → xs_R G base (d + 1) M_X7_save (15, [(0, .ref 72), (1, .int slot), (2, .int x2)], [], st) (fun v u => v = some (.int (lp_X7_save_15 slot n x2 st).1) ∧ u = (lp_X7_save_15 slot n x2 st).2) := by
  intro n
  induction n with
  | zero =>
    intro x2 st hinv
    exact (xs_lo0 hinv).elim
  | succ n ih =>
    intro x2 st hinv
    refine xr_blk gd_X7_save 2 (c' := (18, [(0, .ref 72), (1, .int slot), (2, .int x2)], [.int 111, .int x2], st)) rfl ?_
    refine xr_br gd_X7_save rfl rfl (fun h1 => ?_) (fun h1 => ?_)
    · refine xr_blk gd_X7_save 4 (c' := (50, [(0, .ref 72), (1, .int slot), (2, .int x2)], [.int 1, .int slot, .ref 77], st)) rfl ?_
      refine xr_zast gd_X7_save rfl rfl (slot.toInt.toNat) (xs_h1 (n := 2) hs) (xs_h2 (n := 2) hs) rfl ?_
      refine xr_blk gd_X7_save 3 (c' := (56, [(0, .ref 72), (1, .int slot), (2, .int x2)], [.int 3, .ref 73], xs_u st 77 slot.toInt.toNat 1)) rfl ?_
      refine xr_iald gd_X7_save rfl rfl (3) (by decide) (by decide) ?_
      exact xr_iret gd_X7_save rfl rfl ⟨by first | (rw [lp_X7_save_15, if_pos h1]; done) | (rw [lp_X7_save_15, if_pos h1]; rfl), by first | (rw [lp_X7_save_15, if_pos h1]; done) | (rw [lp_X7_save_15, if_pos h1]; rfl)⟩
    · refine xr_blk gd_X7_save 10 (c' := (36, [(0, .ref 72), (1, .int slot), (2, .int x2)], [.int x2, .ref 73, .int ((111 * slot) + x2), .ref 76], st)) rfl ?_
      refine xr_iald gd_X7_save rfl rfl (x2.toInt.toNat) (xs_h1 (n := 111) (xm_111 hinv h1)) (xs_h2 (n := 111) (xm_111 hinv h1)) ?_
      refine xr_iast gd_X7_save rfl rfl (((111 * slot) + x2).toInt.toNat) (xs_h1 (n := 222) (xm_i4 hs hinv h1)) (xs_h2 (n := 222) (xm_i4 hs hinv h1)) ?_
      refine xr_blk gd_X7_save 2 (c' := (15, [(0, .ref 72), (1, .int slot), (2, .int (x2 + 1))], [], xs_u st 76 (((111 * slot) + x2).toInt.toNat) (st 73 x2.toInt.toNat))) rfl ?_
      refine xs_cons (ih (x2 + 1) (xs_u st 76 (((111 * slot) + x2).toInt.toNat) (st 73 x2.toInt.toNat)) (xs_lo_up hinv h1)) (fun v u hq => ?_)
      rw [lp_X7_save_15, if_neg h1]; exact hq
def F_X7_save (st : xs_S) (slot : Int32) : Int32 × xs_S := (if (F_X7_in st slot.toInt64 0 1) = 0 then ((-2), st)
    else lp_X7_save_15 slot 112 0 st)
set_option maxRecDepth 20000 in
theorem c_X7_save {G : xs_G} {base : Nat} (d : Nat) (st : xs_S) (slot : Int32) : xs_K G base (d + 1) M_X7_save [.ref 72, .int slot] st (fun v u => v = some (.int (F_X7_save st slot).1) ∧ u = (F_X7_save st slot).2) := by
  refine xs_intro ok_X7_save [(0, .ref 72), (1, .int slot)] rfl rfl ?_
  refine xr_blk gd_X7_save 4 (c' := (4, [(0, .ref 72), (1, .int slot)], [.int 1, .int 0, .long slot.toInt64], st)) rfl ?_
  refine xr_callS gd_X7_save gd_X7_in k_X7_41 rfl (c_X7_in (d + 0) st slot.toInt64 0 1) (by omega) rfl rfl rfl ?_
  refine xs_fun ?_
  refine xr_br gd_X7_save rfl rfl (fun h1 => ?_) (fun h1 => ?_)
  · have hs : 0 ≤ slot.toInt ∧ slot.toInt < 2 := in_slot h1
    refine xr_blk gd_X7_save 2 (c' := (15, [(0, .ref 72), (1, .int slot), (2, .int 0)], [], st)) rfl ?_
    refine xs_cons (cl_X7_save_15 d slot hs 112 0 st ⟨by decide, by decide, by decide⟩) (fun v u hq => ?_)
    rw [F_X7_save, if_neg h1]; exact hq
  · refine xr_blk gd_X7_save 1 (c' := (12, [(0, .ref 72), (1, .int slot)], [.int (-2)], st)) rfl ?_
    exact xr_iret gd_X7_save rfl rfl ⟨by first | (rw [F_X7_save, if_pos h1]; done) | (rw [F_X7_save, if_pos h1]; rfl), by first | (rw [F_X7_save, if_pos h1]; done) | (rw [F_X7_save, if_pos h1]; rfl)⟩
theorem re_nl : ∀ (n : Nat) (x : Int32) (s : xs_S) (k : Nat), k ≠ 75 → lp_X7_remember_2 n x s k = s k := by
  intro n
  induction n with
  | zero => intro x s k h; rfl
  | succ n ih =>
    intro x s k h
    unfold lp_X7_remember_2
    split
    · rfl
    · rw [ih _ _ _ h, xs_rd_k h]
theorem re_n {st : xs_S} {k : Nat} (h : k ≠ 75) : F_X7_remember st k = st k := by
  unfold F_X7_remember
  exact re_nl _ _ _ _ h
def lp_X7_restore_31 (slot : Int32) : Nat → Int32 → xs_S → Int32 × xs_S
  | 0, _, st => (0, st)
  | n + 1, x2, st => (if 111 ≤ x2 then ((F_X7_record st (st 73 3)).1, (F_X7_record st (st 73 3)).2)
    else lp_X7_restore_31 slot n (x2 + 1) (xs_u st 73 x2.toInt.toNat (st 76 (((111 * slot) + x2).toInt.toNat))))
set_option maxRecDepth 20000 in
theorem cl_X7_restore_31 {G : xs_G} {base : Nat} (d : Nat) (slot : Int32) (hs : 0 ≤ slot.toInt ∧ slot.toInt < 2) : ∀ (n : Nat) (x2 : Int32) (st : xs_S), xs_lo x2 111 n ∧ (0 ≤ (st 72 5).toInt ∧ (st 72 5).toInt ≤ 6) → xs_R G base (d + 1) M_X7_restore (31, [(0, .ref 72), (1, .int slot), (2, .int x2)], [], st) (fun v u => v = some (.int (lp_X7_restore_31 slot n x2 st).1) ∧ u = (lp_X7_restore_31 slot n x2 st).2) := by
  intro n
  induction n with
  | zero =>
    intro x2 st hinv
    exact (xs_lo0 hinv.1).elim
  | succ n ih =>
    intro x2 st hinv
    refine xr_blk gd_X7_restore 2 (c' := (34, [(0, .ref 72), (1, .int slot), (2, .int x2)], [.int 111, .int x2], st)) rfl ?_
    refine xr_br gd_X7_restore rfl rfl (fun h1 => ?_) (fun h1 => ?_)
    · refine xr_blk gd_X7_restore 4 (c' := (66, [(0, .ref 72), (1, .int slot), (2, .int x2)], [.int 3, .ref 73, .ref 72], st)) rfl ?_
      refine xr_iald gd_X7_restore rfl rfl (3) (by decide) (by decide) ?_
      refine xr_callV gd_X7_restore gd_X7_record k_X7_52 rfl (c_X7_record (d + 0) st (st 73 3) hinv.2) (by omega) rfl rfl rfl rfl rfl ?_
      refine xs_fun ?_
      exact xr_iret gd_X7_restore rfl rfl ⟨by first | (rw [lp_X7_restore_31, if_pos h1]; done) | (rw [lp_X7_restore_31, if_pos h1]; rfl), by first | (rw [lp_X7_restore_31, if_pos h1]; done) | (rw [lp_X7_restore_31, if_pos h1]; rfl)⟩
    · refine xr_blk gd_X7_restore 10 (c' := (52, [(0, .ref 72), (1, .int slot), (2, .int x2)], [.int ((111 * slot) + x2), .ref 76, .int x2, .ref 73], st)) rfl ?_
      refine xr_iald gd_X7_restore rfl rfl (((111 * slot) + x2).toInt.toNat) (xs_h1 (n := 222) (xm_i4 hs hinv.1 h1)) (xs_h2 (n := 222) (xm_i4 hs hinv.1 h1)) ?_
      refine xr_iast gd_X7_restore rfl rfl (x2.toInt.toNat) (xs_h1 (n := 111) (xm_111 hinv.1 h1)) (xs_h2 (n := 111) (xm_111 hinv.1 h1)) ?_
      refine xr_blk gd_X7_restore 2 (c' := (31, [(0, .ref 72), (1, .int slot), (2, .int (x2 + 1))], [], xs_u st 73 x2.toInt.toNat (st 76 (((111 * slot) + x2).toInt.toNat)))) rfl ?_
      refine xs_cons (ih (x2 + 1) (xs_u st 73 x2.toInt.toNat (st 76 (((111 * slot) + x2).toInt.toNat))) ⟨xs_lo_up hinv.1 h1, hinv.2⟩) (fun v u hq => ?_)
      rw [lp_X7_restore_31, if_neg h1]; exact hq
def F_X7_restore (st : xs_S) (slot : Int32) : Int32 × xs_S := (if (F_X7_in st slot.toInt64 0 1) = 0 then ((-2), st)
    else (if (st 77 slot.toInt.toNat) = 0 then ((-5), st)
      else lp_X7_restore_31 slot 112 0 (F_X7_remember st)))
set_option maxRecDepth 20000 in
theorem c_X7_restore {G : xs_G} {base : Nat} (d : Nat) (st : xs_S) (slot : Int32) (hst : 0 ≤ (st 72 5).toInt ∧ (st 72 5).toInt ≤ 6) : xs_K G base (d + 1) M_X7_restore [.ref 72, .int slot] st (fun v u => v = some (.int (F_X7_restore st slot).1) ∧ u = (F_X7_restore st slot).2) := by
  refine xs_intro ok_X7_restore [(0, .ref 72), (1, .int slot)] rfl rfl ?_
  refine xr_blk gd_X7_restore 4 (c' := (4, [(0, .ref 72), (1, .int slot)], [.int 1, .int 0, .long slot.toInt64], st)) rfl ?_
  refine xr_callS gd_X7_restore gd_X7_in k_X7_41 rfl (c_X7_in (d + 0) st slot.toInt64 0 1) (by omega) rfl rfl rfl ?_
  refine xs_fun ?_
  refine xr_br gd_X7_restore rfl rfl (fun h1 => ?_) (fun h1 => ?_)
  · have hs : 0 ≤ slot.toInt ∧ slot.toInt < 2 := in_slot h1
    refine xr_blk gd_X7_restore 3 (c' := (18, [(0, .ref 72), (1, .int slot)], [.int slot, .ref 77], st)) rfl ?_
    refine xr_zald gd_X7_restore rfl rfl (slot.toInt.toNat) (xs_h1 (n := 2) hs) (xs_h2 (n := 2) hs) ?_
    refine xr_br gd_X7_restore rfl rfl (fun h2 => ?_) (fun h2 => ?_)
    · refine xr_blk gd_X7_restore 1 (c' := (26, [(0, .ref 72), (1, .int slot)], [.ref 72], st)) rfl ?_
      refine xr_callV gd_X7_restore gd_X7_remember k_X7_49 rfl (c_X7_remember (d + 0) st) (by omega) rfl rfl rfl rfl rfl ?_
      refine xs_fun ?_
      refine xr_blk gd_X7_restore 2 (c' := (31, [(0, .ref 72), (1, .int slot), (2, .int 0)], [], (F_X7_remember st))) rfl ?_
      refine xs_cons (cl_X7_restore_31 d slot hs 112 0 (F_X7_remember st) ⟨⟨by decide, by decide, by decide⟩, (by rw [re_n (by decide)]; exact hst)⟩) (fun v u hq => ?_)
      rw [F_X7_restore, if_neg h1, if_neg h2]; exact hq
    · refine xr_blk gd_X7_restore 1 (c' := (24, [(0, .ref 72), (1, .int slot)], [.int (-5)], st)) rfl ?_
      exact xr_iret gd_X7_restore rfl rfl ⟨by first | (rw [F_X7_restore, if_neg h1, if_pos h2]; done) | (rw [F_X7_restore, if_neg h1, if_pos h2]; rfl), by first | (rw [F_X7_restore, if_neg h1, if_pos h2]; done) | (rw [F_X7_restore, if_neg h1, if_pos h2]; rfl)⟩
  · refine xr_blk gd_X7_restore 1 (c' := (12, [(0, .ref 72), (1, .int slot)], [.int (-2)], st)) rfl ?_
    exact xr_iret gd_X7_restore rfl rfl ⟨by first | (rw [F_X7_restore, if_pos h1]; done) | (rw [F_X7_restore, if_pos h1]; rfl), by first | (rw [F_X7_restore, if_pos h1]; done) | (rw [F_X7_restore, if_pos h1]; rfl)⟩
def lp_X7_layOut_7 (later : Int32) (without : Int32) : Nat → Int32 → xs_S → xs_S
  | 0, _, st => st
  | n + 1, x3, st => (if (st 73 3) ≤ x3 then st
    else (if x3 = without then lp_X7_layOut_7 later without n (x3 + 1) st
      else (if (F_X7_its st x3 0) = 0 then lp_X7_layOut_7 later without n (x3 + 1) st
        else (if (F_X7_its st x3 6) = 1 then lp_X7_layOut_7 later without n (x3 + 1) st
          else lp_X7_layOut_7 later without n (x3 + 1) (xs_u (xs_u (xs_u st 72 11 ((st 72 11) ||| (1 <<< (x3 &&& 31)))) 81 x3.toInt.toNat (((F_X7_its (xs_u st 72 11 ((st 72 11) ||| (1 <<< (x3 &&& 31)))) x3 1) + (((st 73 2) + later) - (F_X7_its st x3 3))) - ((F_X7_its st x3 2) + ((st 73 0) * ((((st 73 2) + later) - (F_X7_its st x3 3)) / 60))))) 82 x3.toInt.toNat (((F_X7_its (xs_u (xs_u st 72 11 ((st 72 11) ||| (1 <<< (x3 &&& 31)))) 81 x3.toInt.toNat (((F_X7_its (xs_u st 72 11 ((st 72 11) ||| (1 <<< (x3 &&& 31)))) x3 1) + (((st 73 2) + later) - (F_X7_its st x3 3))) - ((F_X7_its st x3 2) + ((st 73 0) * ((((st 73 2) + later) - (F_X7_its st x3 3)) / 60))))) x3 1) + (((st 73 2) + later) - (F_X7_its st x3 3))) + ((F_X7_its st x3 2) + ((st 73 0) * ((((st 73 2) + later) - (F_X7_its st x3 3)) / 60)))))))))
set_option maxRecDepth 20000 in
theorem cl_X7_layOut_7 {G : xs_G} {base : Nat} (d : Nat) (later : Int32) (without : Int32) : ∀ (n : Nat) (x3 : Int32) (st : xs_S), xs_lo x3 (st 73 3) n ∧ (0 ≤ (st 73 3).toInt ∧ (st 73 3).toInt ≤ 15) → xs_R G base (d + 1) M_X7_layOut (7, [(0, .ref 72), (1, .int later), (2, .int without), (3, .int x3)], [], st) (fun v u => v = none ∧ u = lp_X7_layOut_7 later without n x3 st) := by
  intro n
  induction n with
  | zero =>
    intro x3 st hinv
    exact (xs_lo0 hinv.1).elim
  | succ n ih =>
    intro x3 st hinv
    have hx : ¬ st 73 3 ≤ x3 → 0 ≤ x3.toInt ∧ x3.toInt < 15 := fun h1 => xs_ix hinv.2 (xs_lo_in hinv.1 h1)
    refine xr_blk gd_X7_layOut 4 (c' := (13, [(0, .ref 72), (1, .int later), (2, .int without), (3, .int x3)], [.int 3, .ref 73, .int x3], st)) rfl ?_
    refine xr_iald gd_X7_layOut rfl rfl (3) (by decide) (by decide) ?_
    refine xr_br gd_X7_layOut rfl rfl (fun h1 => ?_) (fun h1 => ?_)
    · exact xr_vret gd_X7_layOut rfl rfl ⟨rfl, by first | (rw [lp_X7_layOut_7, if_pos h1]; done) | (rw [lp_X7_layOut_7, if_pos h1]; rfl)⟩
    · refine xr_blk gd_X7_layOut 2 (c' := (19, [(0, .ref 72), (1, .int later), (2, .int without), (3, .int x3)], [.int without, .int x3], st)) rfl ?_
      refine xr_br gd_X7_layOut rfl rfl (fun h2 => ?_) (fun h2 => ?_)
      · refine xr_blk gd_X7_layOut 2 (c' := (7, [(0, .ref 72), (1, .int later), (2, .int without), (3, .int (x3 + 1))], [], st)) rfl ?_
        refine xs_cons (ih (x3 + 1) st ⟨xs_lo_up hinv.1 h1, hinv.2⟩) (fun v u hq => ?_)
        rw [lp_X7_layOut_7, if_neg h1, if_pos h2]; exact hq
      · refine xr_blk gd_X7_layOut 3 (c' := (25, [(0, .ref 72), (1, .int later), (2, .int without), (3, .int x3)], [.int 0, .int x3, .ref 72], st)) rfl ?_
        refine xr_callV gd_X7_layOut gd_X7_its k_X7_59 rfl (c_X7_its (d + 0) st x3 0 (xm_its (hx h1) (by decide))) (by omega) rfl rfl rfl rfl rfl ?_
        refine xs_fun ?_
        refine xr_br gd_X7_layOut rfl rfl (fun h3 => ?_) (fun h3 => ?_)
        · refine xr_blk gd_X7_layOut 2 (c' := (7, [(0, .ref 72), (1, .int later), (2, .int without), (3, .int (x3 + 1))], [], st)) rfl ?_
          refine xs_cons (ih (x3 + 1) st ⟨xs_lo_up hinv.1 h1, hinv.2⟩) (fun v u hq => ?_)
          rw [lp_X7_layOut_7, if_neg h1, if_neg h2, if_pos h3]; exact hq
        · refine xr_blk gd_X7_layOut 3 (c' := (35, [(0, .ref 72), (1, .int later), (2, .int without), (3, .int x3)], [.int 6, .int x3, .ref 72], st)) rfl ?_
          refine xr_callV gd_X7_layOut gd_X7_its k_X7_59 rfl (c_X7_its (d + 0) st x3 6 (xm_its (hx h1) (by decide))) (by omega) rfl rfl rfl rfl rfl ?_
          refine xs_fun ?_
          refine xr_blk gd_X7_layOut 1 (c' := (39, [(0, .ref 72), (1, .int later), (2, .int without), (3, .int x3)], [.int 1, .int (F_X7_its st x3 6)], st)) rfl ?_
          refine xr_br gd_X7_layOut rfl rfl (fun h4 => ?_) (fun h4 => ?_)
          · refine xr_blk gd_X7_layOut 3 (c' := (50, [(0, .ref 72), (1, .int later), (2, .int without), (3, .int x3)], [.int 2, .ref 73], st)) rfl ?_
            refine xr_iald gd_X7_layOut rfl rfl (2) (by decide) (by decide) ?_
            refine xr_blk gd_X7_layOut 5 (c' := (56, [(0, .ref 72), (1, .int later), (2, .int without), (3, .int x3)], [.int 3, .int x3, .ref 72, .int ((st 73 2) + later)], st)) rfl ?_
            refine xr_callV gd_X7_layOut gd_X7_its k_X7_59 rfl (c_X7_its (d + 0) st x3 3 (xm_its (hx h1) (by decide))) (by omega) rfl rfl rfl rfl rfl ?_
            refine xs_fun ?_
            refine xr_blk gd_X7_layOut 5 (c' := (65, [(0, .ref 72), (1, .int later), (2, .int without), (3, .int x3), (4, .int (((st 73 2) + later) - (F_X7_its st x3 3)))], [.int 2, .int x3, .ref 72], st)) rfl ?_
            refine xr_callV gd_X7_layOut gd_X7_its k_X7_59 rfl (c_X7_its (d + 0) st x3 2 (xm_its (hx h1) (by decide))) (by omega) rfl rfl rfl rfl rfl ?_
            refine xs_fun ?_
            refine xr_blk gd_X7_layOut 3 (c' := (73, [(0, .ref 72), (1, .int later), (2, .int without), (3, .int x3), (4, .int (((st 73 2) + later) - (F_X7_its st x3 3)))], [.int 0, .ref 73, .int (F_X7_its st x3 2)], st)) rfl ?_
            refine xr_iald gd_X7_layOut rfl rfl (0) (by decide) (by decide) ?_
            refine xr_blk gd_X7_layOut 2 (c' := (78, [(0, .ref 72), (1, .int later), (2, .int without), (3, .int x3), (4, .int (((st 73 2) + later) - (F_X7_its st x3 3)))], [.int 60, .int (((st 73 2) + later) - (F_X7_its st x3 3)), .int (st 73 0), .int (F_X7_its st x3 2)], st)) rfl ?_
            refine xr_idiv gd_X7_layOut.1 rfl (by decide) ?_
            refine xr_blk gd_X7_layOut 17 (c' := (103, [(0, .ref 72), (1, .int later), (2, .int without), (3, .int x3), (4, .int (((st 73 2) + later) - (F_X7_its st x3 3))), (5, .int ((F_X7_its st x3 2) + ((st 73 0) * ((((st 73 2) + later) - (F_X7_its st x3 3)) / 60))))], [.int 1, .int x3, .ref 72, .int x3, .ref 81], xs_u st 72 11 ((st 72 11) ||| (1 <<< (x3 &&& 31))))) rfl ?_
            refine xr_callV gd_X7_layOut gd_X7_its k_X7_59 rfl (c_X7_its (d + 0) (xs_u st 72 11 ((st 72 11) ||| (1 <<< (x3 &&& 31)))) x3 1 (xm_its (hx h1) (by decide))) (by omega) rfl rfl rfl rfl rfl ?_
            refine xs_fun ?_
            refine xr_blk gd_X7_layOut 4 (c' := (112, [(0, .ref 72), (1, .int later), (2, .int without), (3, .int x3), (4, .int (((st 73 2) + later) - (F_X7_its st x3 3))), (5, .int ((F_X7_its st x3 2) + ((st 73 0) * ((((st 73 2) + later) - (F_X7_its st x3 3)) / 60))))], [.int (((F_X7_its (xs_u st 72 11 ((st 72 11) ||| (1 <<< (x3 &&& 31)))) x3 1) + (((st 73 2) + later) - (F_X7_its st x3 3))) - ((F_X7_its st x3 2) + ((st 73 0) * ((((st 73 2) + later) - (F_X7_its st x3 3)) / 60)))), .int x3, .ref 81], xs_u st 72 11 ((st 72 11) ||| (1 <<< (x3 &&& 31))))) rfl ?_
            refine xr_iast gd_X7_layOut rfl rfl (x3.toInt.toNat) (xs_h1 (n := 15) (hx h1)) (xs_h2 (n := 15) (hx h1)) ?_
            refine xr_blk gd_X7_layOut 6 (c' := (121, [(0, .ref 72), (1, .int later), (2, .int without), (3, .int x3), (4, .int (((st 73 2) + later) - (F_X7_its st x3 3))), (5, .int ((F_X7_its st x3 2) + ((st 73 0) * ((((st 73 2) + later) - (F_X7_its st x3 3)) / 60))))], [.int 1, .int x3, .ref 72, .int x3, .ref 82], xs_u (xs_u st 72 11 ((st 72 11) ||| (1 <<< (x3 &&& 31)))) 81 x3.toInt.toNat (((F_X7_its (xs_u st 72 11 ((st 72 11) ||| (1 <<< (x3 &&& 31)))) x3 1) + (((st 73 2) + later) - (F_X7_its st x3 3))) - ((F_X7_its st x3 2) + ((st 73 0) * ((((st 73 2) + later) - (F_X7_its st x3 3)) / 60)))))) rfl ?_
            refine xr_callV gd_X7_layOut gd_X7_its k_X7_59 rfl (c_X7_its (d + 0) (xs_u (xs_u st 72 11 ((st 72 11) ||| (1 <<< (x3 &&& 31)))) 81 x3.toInt.toNat (((F_X7_its (xs_u st 72 11 ((st 72 11) ||| (1 <<< (x3 &&& 31)))) x3 1) + (((st 73 2) + later) - (F_X7_its st x3 3))) - ((F_X7_its st x3 2) + ((st 73 0) * ((((st 73 2) + later) - (F_X7_its st x3 3)) / 60))))) x3 1 (xm_its (hx h1) (by decide))) (by omega) rfl rfl rfl rfl rfl ?_
            refine xs_fun ?_
            refine xr_blk gd_X7_layOut 4 (c' := (130, [(0, .ref 72), (1, .int later), (2, .int without), (3, .int x3), (4, .int (((st 73 2) + later) - (F_X7_its st x3 3))), (5, .int ((F_X7_its st x3 2) + ((st 73 0) * ((((st 73 2) + later) - (F_X7_its st x3 3)) / 60))))], [.int (((F_X7_its (xs_u (xs_u st 72 11 ((st 72 11) ||| (1 <<< (x3 &&& 31)))) 81 x3.toInt.toNat (((F_X7_its (xs_u st 72 11 ((st 72 11) ||| (1 <<< (x3 &&& 31)))) x3 1) + (((st 73 2) + later) - (F_X7_its st x3 3))) - ((F_X7_its st x3 2) + ((st 73 0) * ((((st 73 2) + later) - (F_X7_its st x3 3)) / 60))))) x3 1) + (((st 73 2) + later) - (F_X7_its st x3 3))) + ((F_X7_its st x3 2) + ((st 73 0) * ((((st 73 2) + later) - (F_X7_its st x3 3)) / 60)))), .int x3, .ref 82], xs_u (xs_u st 72 11 ((st 72 11) ||| (1 <<< (x3 &&& 31)))) 81 x3.toInt.toNat (((F_X7_its (xs_u st 72 11 ((st 72 11) ||| (1 <<< (x3 &&& 31)))) x3 1) + (((st 73 2) + later) - (F_X7_its st x3 3))) - ((F_X7_its st x3 2) + ((st 73 0) * ((((st 73 2) + later) - (F_X7_its st x3 3)) / 60)))))) rfl ?_
            refine xr_iast gd_X7_layOut rfl rfl (x3.toInt.toNat) (xs_h1 (n := 15) (hx h1)) (xs_h2 (n := 15) (hx h1)) ?_
            refine xr_blk gd_X7_layOut 2 (c' := (7, [(0, .ref 72), (1, .int later), (2, .int without), (3, .int (x3 + 1)), (4, .int (((st 73 2) + later) - (F_X7_its st x3 3))), (5, .int ((F_X7_its st x3 2) + ((st 73 0) * ((((st 73 2) + later) - (F_X7_its st x3 3)) / 60))))], [], xs_u (xs_u (xs_u st 72 11 ((st 72 11) ||| (1 <<< (x3 &&& 31)))) 81 x3.toInt.toNat (((F_X7_its (xs_u st 72 11 ((st 72 11) ||| (1 <<< (x3 &&& 31)))) x3 1) + (((st 73 2) + later) - (F_X7_its st x3 3))) - ((F_X7_its st x3 2) + ((st 73 0) * ((((st 73 2) + later) - (F_X7_its st x3 3)) / 60))))) 82 x3.toInt.toNat (((F_X7_its (xs_u (xs_u st 72 11 ((st 72 11) ||| (1 <<< (x3 &&& 31)))) 81 x3.toInt.toNat (((F_X7_its (xs_u st 72 11 ((st 72 11) ||| (1 <<< (x3 &&& 31)))) x3 1) + (((st 73 2) + later) - (F_X7_its st x3 3))) - ((F_X7_its st x3 2) + ((st 73 0) * ((((st 73 2) + later) - (F_X7_its st x3 3)) / 60))))) x3 1) + (((st 73 2) + later) - (F_X7_its st x3 3))) + ((F_X7_its st x3 2) + ((st 73 0) * ((((st 73 2) + later) - (F_X7_its st x3 3)) / 60)))))) rfl ?_
            refine xs_pk (lv' := [(0, .ref 72), (1, .int later), (2, .int without), (3, .int (x3 + 1))]) [0, 1, 2, 3] rfl ?_
            refine xs_cons (ih (x3 + 1) (xs_u (xs_u (xs_u st 72 11 ((st 72 11) ||| (1 <<< (x3 &&& 31)))) 81 x3.toInt.toNat (((F_X7_its (xs_u st 72 11 ((st 72 11) ||| (1 <<< (x3 &&& 31)))) x3 1) + (((st 73 2) + later) - (F_X7_its st x3 3))) - ((F_X7_its st x3 2) + ((st 73 0) * ((((st 73 2) + later) - (F_X7_its st x3 3)) / 60))))) 82 x3.toInt.toNat (((F_X7_its (xs_u (xs_u st 72 11 ((st 72 11) ||| (1 <<< (x3 &&& 31)))) 81 x3.toInt.toNat (((F_X7_its (xs_u st 72 11 ((st 72 11) ||| (1 <<< (x3 &&& 31)))) x3 1) + (((st 73 2) + later) - (F_X7_its st x3 3))) - ((F_X7_its st x3 2) + ((st 73 0) * ((((st 73 2) + later) - (F_X7_its st x3 3)) / 60))))) x3 1) + (((st 73 2) + later) - (F_X7_its st x3 3))) + ((F_X7_its st x3 2) + ((st 73 0) * ((((st 73 2) + later) - (F_X7_its st x3 3)) / 60))))) ⟨xs_lo_up hinv.1 h1, hinv.2⟩) (fun v u hq => ?_)
            rw [lp_X7_layOut_7, if_neg h1, if_neg h2, if_neg h3, if_neg h4]; exact hq
          · refine xr_blk gd_X7_layOut 3 (c' := (7, [(0, .ref 72), (1, .int later), (2, .int without), (3, .int (x3 + 1))], [], st)) rfl ?_
            refine xs_cons (ih (x3 + 1) st ⟨xs_lo_up hinv.1 h1, hinv.2⟩) (fun v u hq => ?_)
            rw [lp_X7_layOut_7, if_neg h1, if_neg h2, if_neg h3, if_pos h4]; exact hq
def F_X7_layOut (st : xs_S) (later : Int32) (without : Int32) : xs_S := lp_X7_layOut_7 later without 16 0 (xs_u st 72 11 0)
set_option maxRecDepth 20000 in
theorem c_X7_layOut {G : xs_G} {base : Nat} (d : Nat) (st : xs_S) (later : Int32) (without : Int32) (hD : 0 ≤ (st 73 3).toInt ∧ (st 73 3).toInt ≤ 15) : xs_K G base (d + 1) M_X7_layOut [.ref 72, .int later, .int without] st (fun v u => v = none ∧ u = F_X7_layOut st later without) := by
  refine xs_intro ok_X7_layOut [(0, .ref 72), (1, .int later), (2, .int without)] rfl rfl ?_
  refine xr_blk gd_X7_layOut 5 (c' := (7, [(0, .ref 72), (1, .int later), (2, .int without), (3, .int 0)], [], xs_u st 72 11 0)) rfl ?_
  refine xs_cons (cl_X7_layOut_7 d later without 16 0 (xs_u st 72 11 0) ⟨xs_lo_e hD.1 (xm_16 hD), hD⟩) (fun v u hq => ?_)
  rw [F_X7_layOut]; exact hq
def F_X7_has (st : xs_S) (dial : Int32) (time : Int32) : Int32 := (if (((st 72 11) >>> (dial &&& 31)) &&& 1) = 1 then (if time < (st 81 dial.toInt.toNat) then 0
      else (if (st 82 dial.toInt.toNat) < time then 0
        else 1))
    else 0)
set_option maxRecDepth 20000 in
theorem c_X7_has {G : xs_G} {base : Nat} (d : Nat) (st : xs_S) (dial : Int32) (time : Int32) (hd : 0 ≤ dial.toInt ∧ dial.toInt < 15) : xs_K G base (d + 0) M_X7_has [.ref 72, .int dial, .int time] st (fun v u => v = some (.int (F_X7_has st dial time)) ∧ u = st) := by
  refine xs_intro ok_X7_has [(0, .ref 72), (1, .int dial), (2, .int time)] rfl rfl ?_
  refine xr_blk gd_X7_has 7 (c' := (9, [(0, .ref 72), (1, .int dial), (2, .int time)], [.int 1, .int (((st 72 11) >>> (dial &&& 31)) &&& 1)], st)) rfl ?_
  refine xr_br gd_X7_has rfl rfl (fun h1 => ?_) (fun h1 => ?_)
  · refine xr_blk gd_X7_has 1 (c' := (37, [(0, .ref 72), (1, .int dial), (2, .int time)], [.int 0], st)) rfl ?_
    exact xr_zret gd_X7_has rfl rfl rfl ⟨by first | (rw [F_X7_has, if_neg h1]; done) | (rw [F_X7_has, if_neg h1]; rfl), rfl⟩
  · refine xr_blk gd_X7_has 3 (c' := (17, [(0, .ref 72), (1, .int dial), (2, .int time)], [.int dial, .ref 81], st)) rfl ?_
    refine xr_iald gd_X7_has rfl rfl (dial.toInt.toNat) (xs_h1 (n := 15) hd) (xs_h2 (n := 15) hd) ?_
    refine xr_blk gd_X7_has 1 (c' := (19, [(0, .ref 72), (1, .int dial), (2, .int time)], [.int time, .int (st 81 dial.toInt.toNat)], st)) rfl ?_
    refine xr_br gd_X7_has rfl rfl (fun h2 => ?_) (fun h2 => ?_)
    · refine xr_blk gd_X7_has 1 (c' := (37, [(0, .ref 72), (1, .int dial), (2, .int time)], [.int 0], st)) rfl ?_
      exact xr_zret gd_X7_has rfl rfl rfl ⟨by first | (rw [F_X7_has, if_pos h1, if_pos h2]; done) | (rw [F_X7_has, if_pos h1, if_pos h2]; rfl), rfl⟩
    · refine xr_blk gd_X7_has 4 (c' := (28, [(0, .ref 72), (1, .int dial), (2, .int time)], [.int dial, .ref 82, .int time], st)) rfl ?_
      refine xr_iald gd_X7_has rfl rfl (dial.toInt.toNat) (xs_h1 (n := 15) hd) (xs_h2 (n := 15) hd) ?_
      refine xr_br gd_X7_has rfl rfl (fun h3 => ?_) (fun h3 => ?_)
      · refine xr_blk gd_X7_has 1 (c' := (37, [(0, .ref 72), (1, .int dial), (2, .int time)], [.int 0], st)) rfl ?_
        exact xr_zret gd_X7_has rfl rfl rfl ⟨by first | (rw [F_X7_has, if_pos h1, if_neg h2, if_pos h3]; done) | (rw [F_X7_has, if_pos h1, if_neg h2, if_pos h3]; rfl), rfl⟩
      · refine xr_blk gd_X7_has 2 (c' := (37, [(0, .ref 72), (1, .int dial), (2, .int time)], [.int 1], st)) rfl ?_
        exact xr_zret gd_X7_has rfl rfl rfl ⟨by first | (rw [F_X7_has, if_pos h1, if_neg h2, if_neg h3]; done) | (rw [F_X7_has, if_pos h1, if_neg h2, if_neg h3]; rfl), rfl⟩
def lp_X7_overlapAt_4 (st : xs_S) (time : Int32) : Nat → Int32 → Int32 → Int32
  | 0, _, _ => 0
  | n + 1, x2, x3 => (if 15 ≤ x3 then x2
    else (if (F_X7_has st x3 time) = 0 then lp_X7_overlapAt_4 st time n (x2 + 0) (x3 + 1)
      else lp_X7_overlapAt_4 st time n (x2 + 1) (x3 + 1)))
set_option maxRecDepth 20000 in
theorem cl_X7_overlapAt_4 {G : xs_G} {base : Nat} (d : Nat) (st : xs_S) (time : Int32) : ∀ (n : Nat) (x2 : Int32) (x3 : Int32), xs_lo x3 15 n → xs_R G base (d + 1) M_X7_overlapAt (4, [(0, .ref 72), (1, .int time), (2, .int x2), (3, .int x3)], [], st) (fun v u => v = some (.int (lp_X7_overlapAt_4 st time n x2 x3)) ∧ u = st) := by
  intro n
  induction n with
  | zero =>
    intro x2 x3 hinv
    exact (xs_lo0 hinv).elim
  | succ n ih =>
    intro x2 x3 hinv
    refine xr_blk gd_X7_overlapAt 2 (c' := (7, [(0, .ref 72), (1, .int time), (2, .int x2), (3, .int x3)], [.int 15, .int x3], st)) rfl ?_
    refine xr_br gd_X7_overlapAt rfl rfl (fun h1 => ?_) (fun h1 => ?_)
    · refine xr_blk gd_X7_overlapAt 1 (c' := (34, [(0, .ref 72), (1, .int time), (2, .int x2), (3, .int x3)], [.int x2], st)) rfl ?_
      exact xr_iret gd_X7_overlapAt rfl rfl ⟨by first | (rw [lp_X7_overlapAt_4, if_pos h1]; done) | (rw [lp_X7_overlapAt_4, if_pos h1]; rfl), rfl⟩
    · refine xr_blk gd_X7_overlapAt 4 (c' := (14, [(0, .ref 72), (1, .int time), (2, .int x2), (3, .int x3)], [.int time, .int x3, .ref 72, .int x2], st)) rfl ?_
      refine xr_callV gd_X7_overlapAt gd_X7_has k_X7_63 rfl (c_X7_has (d + 0) st x3 time (xs_lo15 hinv h1)) (by omega) rfl rfl rfl rfl rfl ?_
      refine xs_fun ?_
      refine xr_br gd_X7_overlapAt rfl rfl (fun h2 => ?_) (fun h2 => ?_)
      · refine xr_blk gd_X7_overlapAt 5 (c' := (4, [(0, .ref 72), (1, .int time), (2, .int (x2 + 0)), (3, .int (x3 + 1))], [], st)) rfl ?_
        refine xs_cons (ih (x2 + 0) (x3 + 1) (xs_lo_up hinv h1)) (fun v u hq => ?_)
        rw [lp_X7_overlapAt_4, if_neg h1, if_pos h2]; exact hq
      · refine xr_blk gd_X7_overlapAt 6 (c' := (4, [(0, .ref 72), (1, .int time), (2, .int (x2 + 1)), (3, .int (x3 + 1))], [], st)) rfl ?_
        refine xs_cons (ih (x2 + 1) (x3 + 1) (xs_lo_up hinv h1)) (fun v u hq => ?_)
        rw [lp_X7_overlapAt_4, if_neg h1, if_neg h2]; exact hq
def F_X7_overlapAt (st : xs_S) (time : Int32) : Int32 := lp_X7_overlapAt_4 st time 16 0 0
set_option maxRecDepth 20000 in
theorem c_X7_overlapAt {G : xs_G} {base : Nat} (d : Nat) (st : xs_S) (time : Int32) : xs_K G base (d + 1) M_X7_overlapAt [.ref 72, .int time] st (fun v u => v = some (.int (F_X7_overlapAt st time)) ∧ u = st) := by
  refine xs_intro ok_X7_overlapAt [(0, .ref 72), (1, .int time)] rfl rfl ?_
  refine xr_blk gd_X7_overlapAt 4 (c' := (4, [(0, .ref 72), (1, .int time), (2, .int 0), (3, .int 0)], [], st)) rfl ?_
  refine xs_cons (cl_X7_overlapAt_4 d st time 16 0 0 ⟨by decide, by decide, by decide⟩) (fun v u hq => ?_)
  rw [F_X7_overlapAt]; exact hq
def lp_X7_high_8 (st : xs_S) (time : Int32) : Nat → Int32 → Int32 → Int32 → Int32
  | 0, _, _, _ => 0
  | n + 1, x2, x3, x4 => (if 15 ≤ x4 then (if x3 = 0 then x2
      else time)
    else (if (F_X7_has st x4 time) = 0 then lp_X7_high_8 st time n x2 x3 (x4 + 1)
      else (if x3 = 0 then (if x2 ≤ (st 82 x4.toInt.toNat) then lp_X7_high_8 st time n x2 x3 (x4 + 1)
          else lp_X7_high_8 st time n (st 82 x4.toInt.toNat) 0 (x4 + 1))
        else lp_X7_high_8 st time n (st 82 x4.toInt.toNat) 0 (x4 + 1))))
set_option maxRecDepth 20000 in
theorem cl_X7_high_8 {G : xs_G} {base : Nat} (d : Nat) (st : xs_S) (time : Int32) : ∀ (n : Nat) (x2 : Int32) (x3 : Int32) (x4 : Int32), xs_lo x4 15 n → xs_R G base (d + 1) M_X7_high (8, [(0, .ref 72), (1, .int time), (2, .int x2), (3, .int x3), (4, .int x4)], [], st) (fun v u => v = some (.int (lp_X7_high_8 st time n x2 x3 x4)) ∧ u = st) := by
  intro n
  induction n with
  | zero =>
    intro x2 x3 x4 hinv
    exact (xs_lo0 hinv).elim
  | succ n ih =>
    intro x2 x3 x4 hinv
    refine xr_blk gd_X7_high 2 (c' := (12, [(0, .ref 72), (1, .int time), (2, .int x2), (3, .int x3), (4, .int x4)], [.int 15, .int x4], st)) rfl ?_
    refine xr_br gd_X7_high rfl rfl (fun h1 => ?_) (fun h1 => ?_)
    · refine xr_blk gd_X7_high 1 (c' := (57, [(0, .ref 72), (1, .int time), (2, .int x2), (3, .int x3), (4, .int x4)], [.int x3], st)) rfl ?_
      refine xr_br gd_X7_high rfl rfl (fun h2 => ?_) (fun h2 => ?_)
      · refine xr_blk gd_X7_high 1 (c' := (65, [(0, .ref 72), (1, .int time), (2, .int x2), (3, .int x3), (4, .int x4)], [.int x2], st)) rfl ?_
        exact xr_iret gd_X7_high rfl rfl ⟨by first | (rw [lp_X7_high_8, if_pos h1, if_pos h2]; done) | (rw [lp_X7_high_8, if_pos h1, if_pos h2]; rfl), rfl⟩
      · refine xr_blk gd_X7_high 2 (c' := (65, [(0, .ref 72), (1, .int time), (2, .int x2), (3, .int x3), (4, .int x4)], [.int time], st)) rfl ?_
        exact xr_iret gd_X7_high rfl rfl ⟨by first | (rw [lp_X7_high_8, if_pos h1, if_neg h2]; done) | (rw [lp_X7_high_8, if_pos h1, if_neg h2]; rfl), rfl⟩
    · refine xr_blk gd_X7_high 3 (c' := (19, [(0, .ref 72), (1, .int time), (2, .int x2), (3, .int x3), (4, .int x4)], [.int time, .int x4, .ref 72], st)) rfl ?_
      refine xr_callV gd_X7_high gd_X7_has k_X7_63 rfl (c_X7_has (d + 0) st x4 time (xs_lo15 hinv h1)) (by omega) rfl rfl rfl rfl rfl ?_
      refine xs_fun ?_
      refine xr_br gd_X7_high rfl rfl (fun h3 => ?_) (fun h3 => ?_)
      · refine xr_blk gd_X7_high 2 (c' := (8, [(0, .ref 72), (1, .int time), (2, .int x2), (3, .int x3), (4, .int (x4 + 1))], [], st)) rfl ?_
        refine xs_cons (ih x2 x3 (x4 + 1) (xs_lo_up hinv h1)) (fun v u hq => ?_)
        rw [lp_X7_high_8, if_neg h1, if_pos h3]; exact hq
      · refine xr_blk gd_X7_high 1 (c' := (26, [(0, .ref 72), (1, .int time), (2, .int x2), (3, .int x3), (4, .int x4)], [.int x3], st)) rfl ?_
        refine xr_br gd_X7_high rfl rfl (fun h4 => ?_) (fun h4 => ?_)
        · refine xr_blk gd_X7_high 3 (c' := (46, [(0, .ref 72), (1, .int time), (2, .int x2), (3, .int x3), (4, .int x4)], [.int x4, .ref 82], st)) rfl ?_
          refine xr_iald gd_X7_high rfl rfl (x4.toInt.toNat) (xs_h1 (n := 15) (xs_lo15 hinv h1)) (xs_h2 (n := 15) (xs_lo15 hinv h1)) ?_
          refine xr_blk gd_X7_high 5 (c' := (8, [(0, .ref 72), (1, .int time), (2, .int (st 82 x4.toInt.toNat)), (3, .int 0), (4, .int (x4 + 1))], [], st)) rfl ?_
          refine xs_cons (ih (st 82 x4.toInt.toNat) 0 (x4 + 1) (xs_lo_up hinv h1)) (fun v u hq => ?_)
          rw [lp_X7_high_8, if_neg h1, if_neg h3, if_neg h4]; exact hq
        · refine xr_blk gd_X7_high 3 (c' := (35, [(0, .ref 72), (1, .int time), (2, .int x2), (3, .int x3), (4, .int x4)], [.int x4, .ref 82], st)) rfl ?_
          refine xr_iald gd_X7_high rfl rfl (x4.toInt.toNat) (xs_h1 (n := 15) (xs_lo15 hinv h1)) (xs_h2 (n := 15) (xs_lo15 hinv h1)) ?_
          refine xr_blk gd_X7_high 1 (c' := (37, [(0, .ref 72), (1, .int time), (2, .int x2), (3, .int x3), (4, .int x4)], [.int x2, .int (st 82 x4.toInt.toNat)], st)) rfl ?_
          refine xr_br gd_X7_high rfl rfl (fun h5 => ?_) (fun h5 => ?_)
          · refine xr_blk gd_X7_high 2 (c' := (8, [(0, .ref 72), (1, .int time), (2, .int x2), (3, .int x3), (4, .int (x4 + 1))], [], st)) rfl ?_
            refine xs_cons (ih x2 x3 (x4 + 1) (xs_lo_up hinv h1)) (fun v u hq => ?_)
            rw [lp_X7_high_8, if_neg h1, if_neg h3, if_pos h4, if_pos h5]; exact hq
          · refine xr_blk gd_X7_high 3 (c' := (46, [(0, .ref 72), (1, .int time), (2, .int x2), (3, .int x3), (4, .int x4)], [.int x4, .ref 82], st)) rfl ?_
            refine xr_iald gd_X7_high rfl rfl (x4.toInt.toNat) (xs_h1 (n := 15) (xs_lo15 hinv h1)) (xs_h2 (n := 15) (xs_lo15 hinv h1)) ?_
            refine xr_blk gd_X7_high 5 (c' := (8, [(0, .ref 72), (1, .int time), (2, .int (st 82 x4.toInt.toNat)), (3, .int 0), (4, .int (x4 + 1))], [], st)) rfl ?_
            refine xs_cons (ih (st 82 x4.toInt.toNat) 0 (x4 + 1) (xs_lo_up hinv h1)) (fun v u hq => ?_)
            rw [lp_X7_high_8, if_neg h1, if_neg h3, if_pos h4, if_neg h5]; exact hq
def F_X7_high (st : xs_S) (time : Int32) : Int32 := lp_X7_high_8 st time 16 (-6) 1 0
set_option maxRecDepth 20000 in
theorem c_X7_high {G : xs_G} {base : Nat} (d : Nat) (st : xs_S) (time : Int32) : xs_K G base (d + 1) M_X7_high [.ref 72, .int time] st (fun v u => v = some (.int (F_X7_high st time)) ∧ u = st) := by
  refine xs_intro ok_X7_high [(0, .ref 72), (1, .int time)] rfl rfl ?_
  refine xr_blk gd_X7_high 6 (c' := (8, [(0, .ref 72), (1, .int time), (2, .int (-6)), (3, .int 1), (4, .int 0)], [], st)) rfl ?_
  refine xs_cons (cl_X7_high_8 d st time 16 (-6) 1 0 ⟨by decide, by decide, by decide⟩) (fun v u hq => ?_)
  rw [F_X7_high]; exact hq
/-- lastFrom comes to its end within n rounds -/
def lf_t (st : xs_S) (many : Int32) : Nat → Int32 → Int32 → Prop
  | 0, _, _ => False
  | n + 1, e, g => g = 0 ∨ ((F_X7_overlapAt st (F_X7_high st e + 1) < many → lf_t st many n (F_X7_high st e) 0) ∧ (¬ F_X7_overlapAt st (F_X7_high st e + 1) < many → lf_t st many n (F_X7_high st e + 1) 1))
theorem lf_a {st : xs_S} {many e g : Int32} {n : Nat} (h : lf_t st many (n + 1) e g) (h1 : ¬ g = 0) (h2 : F_X7_overlapAt st (F_X7_high st e + 1) < many) : lf_t st many n (F_X7_high st e) 0 := by
  rcases h with h | h
  · exact absurd h h1
  · exact h.1 h2
theorem lf_b {st : xs_S} {many e g : Int32} {n : Nat} (h : lf_t st many (n + 1) e g) (h1 : ¬ g = 0) (h2 : ¬ F_X7_overlapAt st (F_X7_high st e + 1) < many) : lf_t st many n (F_X7_high st e + 1) 1 := by
  rcases h with h | h
  · exact absurd h h1
  · exact h.2 h2
def lp_X7_lastFrom_5 (st : xs_S) (time : Int32) (many : Int32) : Nat → Int32 → Int32 → Int32
  | 0, _, _ => 0
  | n + 1, x3, x4 => (if x4 = 0 then x3
    else (if (F_X7_overlapAt st ((F_X7_high st x3) + 1)) < many then lp_X7_lastFrom_5 st time many n (F_X7_high st x3) 0
      else lp_X7_lastFrom_5 st time many n ((F_X7_high st x3) + 1) 1))
set_option maxRecDepth 20000 in
theorem cl_X7_lastFrom_5 {G : xs_G} {base : Nat} (d : Nat) (st : xs_S) (time : Int32) (many : Int32) (ht : lf_t st many 17 time 1) : ∀ (n : Nat) (x3 : Int32) (x4 : Int32), lf_t st many n x3 x4 → xs_R G base (d + 2) M_X7_lastFrom (5, [(0, .ref 72), (1, .int time), (2, .int many), (3, .int x3), (4, .int x4)], [], st) (fun v u => v = some (.int (lp_X7_lastFrom_5 st time many n x3 x4)) ∧ u = st) := by
  intro n
  induction n with
  | zero =>
    intro x3 x4 hinv
    exact hinv.elim
  | succ n ih =>
    intro x3 x4 hinv
    refine xr_blk gd_X7_lastFrom 1 (c' := (7, [(0, .ref 72), (1, .int time), (2, .int many), (3, .int x3), (4, .int x4)], [.int x4], st)) rfl ?_
    refine xr_br gd_X7_lastFrom rfl rfl (fun h1 => ?_) (fun h1 => ?_)
    · refine xr_blk gd_X7_lastFrom 1 (c' := (55, [(0, .ref 72), (1, .int time), (2, .int many), (3, .int x3), (4, .int x4)], [.int x3], st)) rfl ?_
      exact xr_iret gd_X7_lastFrom rfl rfl ⟨by first | (rw [lp_X7_lastFrom_5, if_pos h1]; done) | (rw [lp_X7_lastFrom_5, if_pos h1]; rfl), rfl⟩
    · refine xr_blk gd_X7_lastFrom 2 (c' := (12, [(0, .ref 72), (1, .int time), (2, .int many), (3, .int x3), (4, .int x4)], [.int x3, .ref 72], st)) rfl ?_
      refine xr_callV gd_X7_lastFrom gd_X7_high k_X7_67 rfl (c_X7_high (d + 0) st x3) (by omega) rfl rfl rfl rfl rfl ?_
      refine xs_fun ?_
      refine xr_blk gd_X7_lastFrom 5 (c' := (22, [(0, .ref 72), (1, .int time), (2, .int many), (3, .int x3), (4, .int x4), (5, .int (F_X7_high st x3))], [.int ((F_X7_high st x3) + 1), .ref 72], st)) rfl ?_
      refine xr_callV gd_X7_lastFrom gd_X7_overlapAt k_X7_69 rfl (c_X7_overlapAt (d + 0) st ((F_X7_high st x3) + 1)) (by omega) rfl rfl rfl rfl rfl ?_
      refine xs_fun ?_
      refine xr_blk gd_X7_lastFrom 1 (c' := (26, [(0, .ref 72), (1, .int time), (2, .int many), (3, .int x3), (4, .int x4), (5, .int (F_X7_high st x3))], [.int many, .int (F_X7_overlapAt st ((F_X7_high st x3) + 1))], st)) rfl ?_
      refine xr_br gd_X7_lastFrom rfl rfl (fun h2 => ?_) (fun h2 => ?_)
      · refine xr_blk gd_X7_lastFrom 3 (c' := (38, [(0, .ref 72), (1, .int time), (2, .int many), (3, .int x3), (4, .int 0), (5, .int (F_X7_high st x3))], [.int 0], st)) rfl ?_
        refine xr_br gd_X7_lastFrom rfl rfl (fun _ => ?_) (fun h => absurd h (by decide))
        refine xr_blk gd_X7_lastFrom 3 (c' := (5, [(0, .ref 72), (1, .int time), (2, .int many), (3, .int (F_X7_high st x3)), (4, .int 0), (5, .int (F_X7_high st x3))], [], st)) rfl ?_
        refine xs_pk (lv' := [(0, .ref 72), (1, .int time), (2, .int many), (3, .int (F_X7_high st x3)), (4, .int 0)]) [0, 1, 2, 3, 4] rfl ?_
        refine xs_cons (ih (F_X7_high st x3) 0 (by first | exact lf_a hinv h1 h2 | exact lf_b hinv h1 h2)) (fun v u hq => ?_)
        rw [lp_X7_lastFrom_5, if_neg h1, if_pos h2]; exact hq
      · refine xr_blk gd_X7_lastFrom 4 (c' := (38, [(0, .ref 72), (1, .int time), (2, .int many), (3, .int x3), (4, .int 1), (5, .int (F_X7_high st x3))], [.int 1], st)) rfl ?_
        refine xr_br gd_X7_lastFrom rfl rfl (fun h => absurd h (by decide)) (fun _ => ?_)
        refine xr_blk gd_X7_lastFrom 6 (c' := (5, [(0, .ref 72), (1, .int time), (2, .int many), (3, .int ((F_X7_high st x3) + 1)), (4, .int 1), (5, .int (F_X7_high st x3))], [], st)) rfl ?_
        refine xs_pk (lv' := [(0, .ref 72), (1, .int time), (2, .int many), (3, .int ((F_X7_high st x3) + 1)), (4, .int 1)]) [0, 1, 2, 3, 4] rfl ?_
        refine xs_cons (ih ((F_X7_high st x3) + 1) 1 (by first | exact lf_a hinv h1 h2 | exact lf_b hinv h1 h2)) (fun v u hq => ?_)
        rw [lp_X7_lastFrom_5, if_neg h1, if_neg h2]; exact hq
def F_X7_lastFrom (st : xs_S) (time : Int32) (many : Int32) : Int32 := lp_X7_lastFrom_5 st time many 17 time 1
set_option maxRecDepth 20000 in
theorem c_X7_lastFrom {G : xs_G} {base : Nat} (d : Nat) (st : xs_S) (time : Int32) (many : Int32) (ht : lf_t st many 17 time 1) : xs_K G base (d + 2) M_X7_lastFrom [.ref 72, .int time, .int many] st (fun v u => v = some (.int (F_X7_lastFrom st time many)) ∧ u = st) := by
  refine xs_intro ok_X7_lastFrom [(0, .ref 72), (1, .int time), (2, .int many)] rfl rfl ?_
  refine xr_blk gd_X7_lastFrom 4 (c' := (5, [(0, .ref 72), (1, .int time), (2, .int many), (3, .int time), (4, .int 1)], [], st)) rfl ?_
  refine xs_cons (cl_X7_lastFrom_5 d st time many ht 17 time 1 ht) (fun v u hq => ?_)
  rw [F_X7_lastFrom]; exact hq
