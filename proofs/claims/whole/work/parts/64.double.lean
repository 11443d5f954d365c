/-! numbers that are 0 or of a size -/
def Nb (lo hi : Nat) (x : UInt64) : Prop := x = 0 ∨ Bd lo hi x
theorem fin_0 : FP.Core.DFin 0 := ⟨_, _, _, FP.Core.val64_zero⟩
theorem nb_fin {lo hi : Nat} {x : UInt64} (h : Nb lo hi x) (hh : hi ≤ 2047) : FP.Core.DFin x := by
  rcases h with h | h
  · rw [h]; exact fin_0
  · exact bd_fin h hh
theorem nb_nn {lo hi : Nat} {x : UInt64} (h : Nb lo hi x) (hh : hi ≤ 2047) : FP.Core.dIsNaN x = false := (nb_fin h hh).notNaN
theorem nb_lt {lo hi : Nat} {x : UInt64} (h : Nb lo hi x) (hh : hi ≤ 2047) : x.toNat < 2047 * 2 ^ 52 := by
  rcases h with h | h
  · rw [h]; decide
  · exact bd_up h hh
theorem nb_w {lo hi lo' hi' : Nat} {x : UInt64} (h : Nb lo hi x) (h1 : lo' ≤ lo) (h2 : hi ≤ hi') : Nb lo' hi' x := by
  rcases h with h | h
  · exact Or.inl h
  · exact Or.inr (bd_w h h1 h2)
theorem two_fin : FP.Core.DFin 4611686018427387904 := ⟨_, _, _, val_two⟩
theorem two_nz : ¬ FP.Core.DZero 4611686018427387904 := fun h => absurd ((FP.Core.zero_bits2 _).mp h) (by decide)
theorem md_nn (s : Int32) : FP.Core.dIsNaN (FP.ddiv (FP.i2d s) 4611686018427387904) = false := FP.Core.ddiv_out (FP.Core.i2d_fin s).notNaN two_fin two_nz
theorem md_nb {s : Int32} (h : 0 ≤ s.toInt) : Nb 1022 1055 (FP.ddiv (FP.i2d s) 4611686018427387904) := by
  by_cases h0 : s.toInt = 0
  · have e : s = 0 := by
      rw [xi_eq, xi_0]
      exact h0
    rw [e]
    exact Or.inl (by decide +kernel)
  · obtain ⟨E, T, hx, hT, h1, h2⟩ := bd_et (bd_i2d (v := s) (by omega))
    have hd := div_two hx hT (by omega) (by omega)
    refine Or.inr ⟨?_, ?_⟩ <;> rw [hd] <;> omega
theorem one_bd : Bd 1023 1024 FP.dconst1 := ⟨by decide +kernel, by decide +kernel⟩
theorem wt_nn {v : Int32} (h : 0 < v.toInt) : FP.Core.dIsNaN (FP.ddiv FP.dconst1 (FP.i2d v)) = false := FP.Core.ddiv_out (bd_nn one_bd (by decide)) (FP.Core.i2d_fin v) (bd_nz (bd_i2d h) (by decide) (by decide))
theorem wt_bd {v : Int32} (h : 0 < v.toInt) : Bd 990 1025 (FP.ddiv FP.dconst1 (FP.i2d v)) := by
  have h1 := bd_div one_bd (bd_i2d h) (by omega) (by omega) (by omega) (by omega) (by omega) (by omega)
  have e1 : 1023 + 1023 - 1056 = 990 := by omega
  have e2 : 1024 + 1024 - 1023 = 1025 := by omega
  rw [e1, e2] at h1
  exact h1
theorem bd_c {lo hi : Nat} {x : UInt64} (h : Bd lo hi x) (hl : 1 ≤ lo) (hh : hi ≤ 2047) : ∃ (c : Nat) (q : Int), FP.Core.val64 x = .fin false c q ∧ c ≠ 0 := by
  obtain ⟨E, T, hx, hT, h1, h2⟩ := bd_et h
  exact ⟨_, _, val_n hx hT (by omega) (by omega), by omega⟩
theorem mul_z {lo hi : Nat} {b : UInt64} (h : Bd lo hi b) (hh : hi ≤ 2047) : FP.dmul 0 b = 0 := by
  obtain ⟨d, r, v, -⟩ := bd_v h hh
  apply FP.Core.val64_inj
  · exact (FP.Core.notNaN_iff _).mp (FP.Core.dmul_out fin_0 (bd_fin h hh))
  · show FP.Core.val64 (FP.Core.dmul 0 b) = _
    rw [FP.Core.val64_dmul, v, FP.Core.val64_zero]
    show FP.Core.roundRatio FP.Core.b64 false (0 * d) 1 _ = _
    rw [Nat.zero_mul]
    unfold FP.Core.roundRatio
    rw [if_pos rfl]
theorem div_z {lo hi : Nat} {b : UInt64} (h : Bd lo hi b) (hl : 1 ≤ lo) (hh : hi ≤ 2047) : FP.ddiv 0 b = 0 := by
  obtain ⟨d, r, v, hd⟩ := bd_c h hl hh
  apply FP.Core.val64_inj
  · exact (FP.Core.notNaN_iff _).mp (FP.Core.ddiv_out fin_0.notNaN (bd_fin h hh) (bd_nz h hh hl))
  · show FP.Core.val64 (FP.Core.ddiv 0 b) = _
    rw [FP.Core.val64_ddiv, v, FP.Core.val64_zero, quo_n hd]
    unfold FP.Core.roundRatio
    rw [if_pos rfl]
    rfl
theorem pr_nb {s v : Int32} (h1 : 0 ≤ s.toInt) (h2 : 0 < v.toInt) : Nb 900 1060 (FP.dmul (FP.ddiv (FP.i2d s) 4611686018427387904) (FP.ddiv FP.dconst1 (FP.i2d v))) := by
  rcases md_nb h1 with h | h
  · rw [h]
    exact Or.inl (mul_z (wt_bd h2) (by decide))
  · exact Or.inr (bd_w (bd_mul h (wt_bd h2) (by decide) (by decide) (by decide) (by decide) (by decide) (by decide)) (by decide) (by decide))
theorem pr_nn {s v : Int32} (h1 : 0 ≤ s.toInt) (h2 : 0 < v.toInt) : FP.Core.dIsNaN (FP.dmul (FP.ddiv (FP.i2d s) 4611686018427387904) (FP.ddiv FP.dconst1 (FP.i2d v))) = false := FP.Core.dmul_out (nb_fin (md_nb h1) (by decide)) (bd_fin (wt_bd h2) (by decide))
theorem ng_ne {lo hi : Nat} {x : UInt64} (h : Bd lo hi x) (hh : hi ≤ 2047) : x ≠ FP.Core.dzeroNeg := by
  intro e
  have h1 := bd_up h hh
  rw [e] at h1
  exact absurd h1 (by decide)
theorem add_0r {lo hi : Nat} {x : UInt64} (h : Bd lo hi x) (hh : hi ≤ 2047) : FP.dadd x 0 = x := FP.Core.dadd_zero (bd_fin h hh).ne_nan (ng_ne h hh)
theorem add_0l {lo hi : Nat} {x : UInt64} (h : Bd lo hi x) (hh : hi ≤ 2047) : FP.dadd 0 x = x := (FP.Core.dadd_comm 0 x).trans (add_0r h hh)
theorem add_bd {ha hb H : Nat} {a b : UInt64} (h1 : Nb 900 ha a) (h2 : Bd 900 hb b) (k1 : ha ≤ H) (k2 : hb ≤ H) (k3 : H ≤ 2044) : Bd 900 (H + 2) (FP.dadd a b) := by
  rcases h1 with h1 | h1
  · rw [h1, add_0l h2 (by omega)]
    exact bd_w h2 (Nat.le_refl _) (by omega)
  · exact bd_add h1 h2 (by decide) k1 k2 k3
theorem add_nb {ha hb H : Nat} {a b : UInt64} (h1 : Nb 900 ha a) (h2 : Nb 900 hb b) (k1 : ha ≤ H) (k2 : hb ≤ H) (k3 : H ≤ 2044) : Nb 900 (H + 2) (FP.dadd a b) := by
  rcases h2 with h2 | h2
  · rcases h1 with h1 | h1
    · rw [h1, h2]
      exact Or.inl (by decide +kernel)
    · rw [h2, add_0r h1 (by omega)]
      exact Or.inr (bd_w h1 (Nat.le_refl _) (by omega))
  · exact Or.inr (add_bd h1 h2 k1 k2 k3)
theorem nb_div {a b : UInt64} {ha hb : Nat} (h1 : Nb 900 ha a) (h2 : Bd 900 hb b) (k1 : ha ≤ 1200) (k2 : hb ≤ 1200) : Nb 700 1400 (FP.ddiv a b) := by
  rcases h1 with h1 | h1
  · rw [h1]
    exact Or.inl (div_z h2 (by decide) (by omega))
  · exact Or.inr (bd_w (bd_div h1 h2 (by decide) (by decide) (by omega) (by omega) (by omega) (by decide)) (by omega) (by omega))
theorem cm_0 {x : UInt64} {o : CmpOp} {lo hi : Nat} (h : Nb lo hi x) (hh : hi ≤ 2047) (hl : 1 ≤ lo) : Op.cmpValue (FP.dcmp x FP.dconst0) o = if x = 0 then 0 else 1 := by
  rw [dc_v (nb_lt h hh) (by decide)]
  rcases h with h | h
  · rw [h, if_pos rfl]
    decide
  · have h1 := h.1
    have hx : ¬ x = 0 := by
      intro e
      rw [e] at h1
      have h2 : (0 : UInt64).toNat = 0 := rfl
      rw [h2] at h1
      omega
    have h0 : FP.dconst0.toNat = 0 := rfl
    rw [if_neg hx, h0, if_neg (by omega), if_neg (by omega)]
/-! the bits, by halving and doubling -/
def OD (x2 : UInt64) (x4 : Int64) (n : Nat) : Prop := Bd 1 2040 x2 ∧ 1023 ≤ x4.toInt ∧ x4.toInt ≤ 2046 ∧ 2046 < x4.toInt + (n : Int)
def OE (x2 : UInt64) (x4 : Int64) (n : Nat) : Prop := Bd 1 2040 x2 ∧ 1 ≤ x4.toInt ∧ x4.toInt ≤ 2046 ∧ x4.toInt < 1 + (n : Int)
theorem i64_add1 {x : Int64} (h : 0 ≤ x.toInt ∧ x.toInt ≤ 5000) : (x + Int64.ofNat 1).toInt = x.toInt + 1 := by
  rw [FP.Core.int64_add (by rw [show (Int64.ofNat 1).toInt = 1 from rfl]; omega) (by rw [show (Int64.ofNat 1).toInt = 1 from rfl]; omega)]
  rfl
theorem i64_sub1 {x : Int64} (h : 0 ≤ x.toInt ∧ x.toInt ≤ 5000) : (x - Int64.ofNat 1).toInt = x.toInt - 1 := by
  rw [FP.Core.int64_sub (by rw [show (Int64.ofNat 1).toInt = 1 from rfl]; omega) (by rw [show (Int64.ofNat 1).toInt = 1 from rfl]; omega)]
  rfl
theorem cm_2 {x : UInt64} (h : Bd 1 2040 x) : Op.cmpValue (FP.dcmp x 4611686018427387904) .l < 0 ↔ x.toNat < 1024 * 2 ^ 52 := by
  rw [dc_v (bd_up h (by decide)) (by decide)]
  have e : (4611686018427387904 : UInt64).toNat = 1024 * 2 ^ 52 := by decide
  rw [e]
  by_cases h1 : x.toNat < 1024 * 2 ^ 52
  · rw [if_pos h1]
    exact ⟨fun _ => h1, fun _ => by decide⟩
  · rw [if_neg h1]
    refine ⟨fun h2 => ?_, fun h2 => absurd h2 h1⟩
    split at h2 <;> exact absurd h2 (by decide)
theorem cm_1 {x : UInt64} (h : Bd 1 2040 x) : 0 ≤ Op.cmpValue (FP.dcmp x FP.dconst1) .g ↔ 1023 * 2 ^ 52 ≤ x.toNat := by
  rw [dc_v (bd_up h (by decide)) (by decide)]
  have e : FP.dconst1.toNat = 1023 * 2 ^ 52 := by decide
  rw [e]
  by_cases h1 : x.toNat < 1023 * 2 ^ 52
  · rw [if_pos h1]
    exact ⟨fun h2 => absurd h2 (by decide), fun h2 => by omega⟩
  · rw [if_neg h1]
    refine ⟨fun h2 => by omega, fun h2 => ?_⟩
    split <;> decide
theorem lgc_ge {x y : Int64} : (0 ≤ lg_cmp x y) ↔ y.toInt ≤ x.toInt := by
  rw [lg_cmp_ge, Int64.le_iff_toInt_le]
theorem lgc_le {x y : Int64} : (lg_cmp x y ≤ 0) ↔ x.toInt ≤ y.toInt := by
  rw [lg_cmp_le, Int64.le_iff_toInt_le]
theorem c2046 : (2046 : Int64).toInt = 2046 := rfl
theorem c1 : (Int64.ofNat 1).toInt = 1 := rfl
theorem bd_half {x : UInt64} (h : Bd 1 2040 x) (h1 : ¬ x.toNat < 1024 * 2 ^ 52) : Bd 1 2040 (FP.ddiv x 4611686018427387904) ∧ (FP.ddiv x 4611686018427387904).toNat + 2 ^ 52 = x.toNat := by
  obtain ⟨E, T, hx, hT, g1, g2⟩ := bd_et h
  have hE : 1024 ≤ E := by omega
  have hd := div_two hx hT (by omega) (by omega)
  refine ⟨⟨?_, ?_⟩, ?_⟩ <;> rw [hd] <;> omega
theorem bd_twice {x : UInt64} (h : Bd 1 2040 x) (h1 : ¬ 1023 * 2 ^ 52 ≤ x.toNat) : Bd 1 2040 (FP.dmul x 4611686018427387904) ∧ (FP.dmul x 4611686018427387904).toNat = x.toNat + 2 ^ 52 := by
  obtain ⟨E, T, hx, hT, g1, g2⟩ := bd_et h
  have hE : E < 1023 := by omega
  have hd := mul_two hx hT (by omega) (by omega)
  refine ⟨⟨?_, ?_⟩, ?_⟩ <;> rw [hd] <;> omega
theorem od_0 {x2 : UInt64} {x4 : Int64} (h : OD x2 x4 0) : False := by
  obtain ⟨-, h1, h2, h3⟩ := h
  omega
theorem oe_0 {x2 : UInt64} {x4 : Int64} (h : OE x2 x4 0) : False := by
  obtain ⟨-, h1, h2, h3⟩ := h
  omega
theorem od_b {x2 : UInt64} {x4 : Int64} {n : Nat} (h : OD x2 x4 (n + 1)) (h1 : ¬ Op.cmpValue (FP.dcmp x2 4611686018427387904) .l < 0) (h2 : ¬ 0 ≤ lg_cmp x4 2046) : OD (FP.ddiv x2 4611686018427387904) (x4 + Int64.ofNat 1) n := by
  obtain ⟨g1, g2, g3, g4⟩ := h
  rw [cm_2 g1] at h1
  rw [lgc_ge, c2046] at h2
  have e := i64_add1 (x := x4) ⟨by omega, by omega⟩
  exact ⟨(bd_half g1 h1).1, by omega, by omega, by omega⟩
theorem oe_b {x2 : UInt64} {x4 : Int64} {n : Nat} (h : OE x2 x4 (n + 1)) (h1 : ¬ 0 ≤ Op.cmpValue (FP.dcmp x2 FP.dconst1) .g) (h2 : ¬ lg_cmp x4 (Int64.ofNat 1) ≤ 0) : OE (FP.dmul x2 4611686018427387904) (x4 - Int64.ofNat 1) n := by
  obtain ⟨g1, g2, g3, g4⟩ := h
  rw [cm_1 g1] at h1
  rw [lgc_le, c1] at h2
  have e := i64_sub1 (x := x4) ⟨by omega, by omega⟩
  exact ⟨(bd_twice g1 h1).1, by omega, by omega, by omega⟩
theorem oe_e {x2 : UInt64} {x4 : Int64} {n : Nat} (h : OD x2 x4 n) : OE x2 x4 2046 := by
  obtain ⟨g1, g2, g3, g4⟩ := h
  exact ⟨g1, by omega, by omega, by omega⟩
theorem od_e {x : UInt64} (h : Nb 1 2040 x) (h1 : 0 < Op.cmpValue (FP.dcmp x FP.dconst0) .g) : OD x 1023 1024 := by
  rcases h with h | h
  · rw [h] at h1
    exact absurd h1 (by decide +kernel)
  · exact ⟨h, by decide, by decide, by decide⟩
theorem od_dv {x2 : UInt64} {x4 : Int64} {n : Nat} (h : OD x2 x4 n) : vf_n64 (FP.ddiv x2 4611686018427387904) := vf_of (FP.Core.ddiv_out (bd_nn h.1 (by decide)) two_fin two_nz)
theorem oe_ml {x2 : UInt64} {x4 : Int64} {n : Nat} (h : OE x2 x4 n) : vf_n64 (FP.dmul x2 4611686018427387904) := vf_of (FP.Core.dmul_out (bd_fin h.1 (by decide)) two_fin)
def QF (v : UInt32) : Prop := FP.Core.fIsNaN v = false ∧ Nb 1 2040 (FP.f2d v)
theorem qf_n {v : UInt32} (h : QF v) : vf_n64 (FP.f2d v) := by
  rw [FP.f2d_core h.1]
  exact vf_of (FP.Core.f2d_out h.1)
def lp_X0_ofDouble_47 (st : xs_S) (value : UInt64) : Nat → UInt64 → Int64 → Int64
  | 0, _, _ => 0
  | n + 1, x2, x4 => (if 0 ≤ (Op.cmpValue (FP.dcmp x2 FP.dconst1) .g) then ((x4 <<< ((52 : Int32).toInt64 &&& 63)) + (FP.d2l (FP.dmul (FP.dsub x2 FP.dconst1) 4841369599423283200)))
    else (if (lg_cmp x4 (Int64.ofNat 1)) ≤ 0 then ((x4 <<< ((52 : Int32).toInt64 &&& 63)) + (FP.d2l (FP.dmul (FP.dsub x2 FP.dconst1) 4841369599423283200)))
      else lp_X0_ofDouble_47 st value n (FP.dmul x2 4611686018427387904) (x4 - (Int64.ofNat 1))))
set_option maxRecDepth 20000 in
theorem cl_X0_ofDouble_47 {G : xs_G} {base : Nat} (d : Nat) (st : xs_S) (value : UInt64) (hx : Nb 1 2040 value) : ∀ (n : Nat) (x2 : UInt64) (x4 : Int64), OE x2 x4 n → xs_R G base (d + 0) M_X0_ofDouble (47, [(0, .double value), (2, .double x2), (4, .long x4)], [], st) (fun v u => v = some (.long (lp_X0_ofDouble_47 st value n x2 x4)) ∧ u = st) := by
  intro n
  induction n with
  | zero =>
    intro x2 x4 hinv
    exact (oe_0 hinv).elim
  | succ n ih =>
    intro x2 x4 hinv
    refine xr_blk gd_X0_ofDouble 3 (c' := (50, [(0, .double value), (2, .double x2), (4, .long x4)], [.int (Op.cmpValue (FP.dcmp x2 FP.dconst1) .g)], st)) rfl ?_
    refine xr_br gd_X0_ofDouble rfl rfl (fun h1 => ?_) (fun h1 => ?_)
    · refine xr_blk gd_X0_ofDouble 5 (c' := (82, [(0, .double value), (2, .double x2), (4, .long x4)], [.double FP.dconst1, .double x2, .long (x4 <<< ((52 : Int32).toInt64 &&& 63))], st)) rfl ?_
      refine xr_dsub gd_X0_ofDouble.1 rfl (vf_of (frac_nn hinv.1 (by decide)).1) ?_
      refine xr_ldc2d gd_X0_ofDouble.1 rfl xs_cD_X0_15 ?_
      refine xr_dmul gd_X0_ofDouble.1 rfl (vf_of (frac_nn hinv.1 (by decide)).2) ?_
      refine xr_blk gd_X0_ofDouble 2 (c' := (89, [(0, .double value), (2, .double x2), (4, .long x4)], [.long ((x4 <<< ((52 : Int32).toInt64 &&& 63)) + (FP.d2l (FP.dmul (FP.dsub x2 FP.dconst1) 4841369599423283200)))], st)) rfl ?_
      exact xr_lret gd_X0_ofDouble rfl rfl ⟨by first | (rw [lp_X0_ofDouble_47, if_pos h1]; done) | (rw [lp_X0_ofDouble_47, if_pos h1]; rfl), rfl⟩
    · refine xr_blk gd_X0_ofDouble 3 (c' := (57, [(0, .double value), (2, .double x2), (4, .long x4)], [.int (lg_cmp x4 (Int64.ofNat 1))], st)) rfl ?_
      refine xr_br gd_X0_ofDouble rfl rfl (fun h2 => ?_) (fun h2 => ?_)
      · refine xr_blk gd_X0_ofDouble 5 (c' := (82, [(0, .double value), (2, .double x2), (4, .long x4)], [.double FP.dconst1, .double x2, .long (x4 <<< ((52 : Int32).toInt64 &&& 63))], st)) rfl ?_
        refine xr_dsub gd_X0_ofDouble.1 rfl (vf_of (frac_nn hinv.1 (by decide)).1) ?_
        refine xr_ldc2d gd_X0_ofDouble.1 rfl xs_cD_X0_15 ?_
        refine xr_dmul gd_X0_ofDouble.1 rfl (vf_of (frac_nn hinv.1 (by decide)).2) ?_
        refine xr_blk gd_X0_ofDouble 2 (c' := (89, [(0, .double value), (2, .double x2), (4, .long x4)], [.long ((x4 <<< ((52 : Int32).toInt64 &&& 63)) + (FP.d2l (FP.dmul (FP.dsub x2 FP.dconst1) 4841369599423283200)))], st)) rfl ?_
        exact xr_lret gd_X0_ofDouble rfl rfl ⟨by first | (rw [lp_X0_ofDouble_47, if_neg h1, if_pos h2]; done) | (rw [lp_X0_ofDouble_47, if_neg h1, if_pos h2]; rfl), rfl⟩
      · refine xr_blk gd_X0_ofDouble 1 (c' := (61, [(0, .double value), (2, .double x2), (4, .long x4)], [.double x2], st)) rfl ?_
        refine xr_ldc2d gd_X0_ofDouble.1 rfl xs_cD_X0_11 ?_
        refine xr_dmul gd_X0_ofDouble.1 rfl (oe_ml hinv) ?_
        refine xr_blk gd_X0_ofDouble 6 (c' := (47, [(0, .double value), (2, .double (FP.dmul x2 4611686018427387904)), (4, .long (x4 - (Int64.ofNat 1)))], [], st)) rfl ?_
        refine xs_cons (ih (FP.dmul x2 4611686018427387904) (x4 - (Int64.ofNat 1)) (oe_b hinv h1 h2)) (fun v u hq => ?_)
        rw [lp_X0_ofDouble_47, if_neg h1, if_neg h2]; exact hq
def lp_X0_ofDouble_15 (st : xs_S) (value : UInt64) : Nat → UInt64 → Int64 → Int64
  | 0, _, _ => 0
  | n + 1, x2, x4 => (if (Op.cmpValue (FP.dcmp x2 4611686018427387904) .l) < 0 then lp_X0_ofDouble_47 st value 2046 x2 x4
    else (if 0 ≤ (lg_cmp x4 2046) then lp_X0_ofDouble_47 st value 2046 x2 x4
      else lp_X0_ofDouble_15 st value n (FP.ddiv x2 4611686018427387904) (x4 + (Int64.ofNat 1))))
set_option maxRecDepth 20000 in
theorem cl_X0_ofDouble_15 {G : xs_G} {base : Nat} (d : Nat) (st : xs_S) (value : UInt64) (hx : Nb 1 2040 value) : ∀ (n : Nat) (x2 : UInt64) (x4 : Int64), OD x2 x4 n → xs_R G base (d + 0) M_X0_ofDouble (15, [(0, .double value), (2, .double x2), (4, .long x4)], [], st) (fun v u => v = some (.long (lp_X0_ofDouble_15 st value n x2 x4)) ∧ u = st) := by
  intro n
  induction n with
  | zero =>
    intro x2 x4 hinv
    exact (od_0 hinv).elim
  | succ n ih =>
    intro x2 x4 hinv
    refine xr_blk gd_X0_ofDouble 1 (c' := (16, [(0, .double value), (2, .double x2), (4, .long x4)], [.double x2], st)) rfl ?_
    refine xr_ldc2d gd_X0_ofDouble.1 rfl xs_cD_X0_11 ?_
    refine xr_blk gd_X0_ofDouble 1 (c' := (20, [(0, .double value), (2, .double x2), (4, .long x4)], [.int (Op.cmpValue (FP.dcmp x2 4611686018427387904) .l)], st)) rfl ?_
    refine xr_br gd_X0_ofDouble rfl rfl (fun h1 => ?_) (fun h1 => ?_)
    · refine xs_cons (cl_X0_ofDouble_47 d st value hx 2046 x2 x4 (oe_e hinv)) (fun v u hq => ?_)
      rw [lp_X0_ofDouble_15, if_pos h1]; exact hq
    · refine xr_blk gd_X0_ofDouble 1 (c' := (25, [(0, .double value), (2, .double x2), (4, .long x4)], [.long x4], st)) rfl ?_
      refine xr_ldc2 gd_X0_ofDouble.1 rfl xs_cL_X0_13 ?_
      refine xr_blk gd_X0_ofDouble 1 (c' := (29, [(0, .double value), (2, .double x2), (4, .long x4)], [.int (lg_cmp x4 2046)], st)) rfl ?_
      refine xr_br gd_X0_ofDouble rfl rfl (fun h2 => ?_) (fun h2 => ?_)
      · refine xs_cons (cl_X0_ofDouble_47 d st value hx 2046 x2 x4 (oe_e hinv)) (fun v u hq => ?_)
        rw [lp_X0_ofDouble_15, if_neg h1, if_pos h2]; exact hq
      · refine xr_blk gd_X0_ofDouble 1 (c' := (33, [(0, .double value), (2, .double x2), (4, .long x4)], [.double x2], st)) rfl ?_
        refine xr_ldc2d gd_X0_ofDouble.1 rfl xs_cD_X0_11 ?_
        refine xr_ddiv gd_X0_ofDouble.1 rfl (od_dv hinv) ?_
        refine xr_blk gd_X0_ofDouble 6 (c' := (15, [(0, .double value), (2, .double (FP.ddiv x2 4611686018427387904)), (4, .long (x4 + (Int64.ofNat 1)))], [], st)) rfl ?_
        refine xs_cons (ih (FP.ddiv x2 4611686018427387904) (x4 + (Int64.ofNat 1)) (od_b hinv h1 h2)) (fun v u hq => ?_)
        rw [lp_X0_ofDouble_15, if_neg h1, if_neg h2]; exact hq
def F_X0_ofDouble (st : xs_S) (value : UInt64) : Int64 := (if 0 < (Op.cmpValue (FP.dcmp value FP.dconst0) .g) then lp_X0_ofDouble_15 st value 1024 value 1023
    else Int64.ofNat 0)
set_option maxRecDepth 20000 in
theorem c_X0_ofDouble {G : xs_G} {base : Nat} (d : Nat) (st : xs_S) (value : UInt64) (hx : Nb 1 2040 value) : xs_K G base (d + 0) M_X0_ofDouble [.double value] st (fun v u => v = some (.long (F_X0_ofDouble st value)) ∧ u = st) := by
  refine xs_intro ok_X0_ofDouble [(0, .double value)] rfl rfl ?_
  refine xr_blk gd_X0_ofDouble 3 (c' := (3, [(0, .double value)], [.int (Op.cmpValue (FP.dcmp value FP.dconst0) .g)], st)) rfl ?_
  refine xr_br gd_X0_ofDouble rfl rfl (fun h1 => ?_) (fun h1 => ?_)
  · refine xr_blk gd_X0_ofDouble 2 (c' := (10, [(0, .double value), (2, .double value)], [], st)) rfl ?_
    refine xr_ldc2 gd_X0_ofDouble.1 rfl xs_cL_X0_9 ?_
    refine xr_blk gd_X0_ofDouble 1 (c' := (15, [(0, .double value), (2, .double value), (4, .long 1023)], [], st)) rfl ?_
    refine xs_cons (cl_X0_ofDouble_15 d st value hx 1024 value 1023 (od_e hx h1)) (fun v u hq => ?_)
    rw [F_X0_ofDouble, if_pos h1]; exact hq
  · refine xr_blk gd_X0_ofDouble 1 (c' := (7, [(0, .double value)], [.long (Int64.ofNat 0)], st)) rfl ?_
    exact xr_lret gd_X0_ofDouble rfl rfl ⟨by first | (rw [F_X0_ofDouble, if_neg h1]; done) | (rw [F_X0_ofDouble, if_neg h1]; rfl), rfl⟩
def F_X0_ofFloat (st : xs_S) (value : UInt32) : Int32 := (if 0 < (Op.cmpValue (FP.fcmp value FP.fconst0) .g) then ((((F_X0_ofDouble st (FP.f2d value)).toUInt64 >>> ((29 : Int32).toInt64.toUInt64 &&& Int64.toUInt64 63)).toInt64) - 7516192768).toInt32
    else 0)
set_option maxRecDepth 20000 in
theorem c_X0_ofFloat {G : xs_G} {base : Nat} (d : Nat) (st : xs_S) (value : UInt32) (hx : QF value) : xs_K G base (d + 1) M_X0_ofFloat [.float value] st (fun v u => v = some (.int (F_X0_ofFloat st value)) ∧ u = st) := by
  refine xs_intro ok_X0_ofFloat [(0, .float value)] rfl rfl ?_
  refine xr_blk gd_X0_ofFloat 3 (c' := (3, [(0, .float value)], [.int (Op.cmpValue (FP.fcmp value FP.fconst0) .g)], st)) rfl ?_
  refine xr_br gd_X0_ofFloat rfl rfl (fun h1 => ?_) (fun h1 => ?_)
  · refine xr_blk gd_X0_ofFloat 1 (c' := (9, [(0, .float value)], [.float value], st)) rfl ?_
    refine xr_f2d gd_X0_ofFloat.1 rfl (qf_n hx) ?_
    refine xr_callS gd_X0_ofFloat gd_X0_ofDouble k_X0_17 rfl (c_X0_ofDouble (d + 0) st (FP.f2d value) hx.2) (by omega) rfl rfl rfl ?_
    refine xs_fun ?_
    refine xr_blk gd_X0_ofFloat 4 (c' := (18, [(0, .float value), (1, .long (((F_X0_ofDouble st (FP.f2d value)).toUInt64 >>> ((29 : Int32).toInt64.toUInt64 &&& Int64.toUInt64 63)).toInt64))], [.long (((F_X0_ofDouble st (FP.f2d value)).toUInt64 >>> ((29 : Int32).toInt64.toUInt64 &&& Int64.toUInt64 63)).toInt64)], st)) rfl ?_
    refine xr_ldc2 gd_X0_ofFloat.1 rfl xs_cL_X0_21 ?_
    refine xr_blk gd_X0_ofFloat 2 (c' := (23, [(0, .float value), (1, .long (((F_X0_ofDouble st (FP.f2d value)).toUInt64 >>> ((29 : Int32).toInt64.toUInt64 &&& Int64.toUInt64 63)).toInt64))], [.int (((((F_X0_ofDouble st (FP.f2d value)).toUInt64 >>> ((29 : Int32).toInt64.toUInt64 &&& Int64.toUInt64 63)).toInt64) - 7516192768).toInt32)], st)) rfl ?_
    exact xr_iret gd_X0_ofFloat rfl rfl ⟨by first | (rw [F_X0_ofFloat, if_pos h1]; done) | (rw [F_X0_ofFloat, if_pos h1]; rfl), rfl⟩
  · refine xr_blk gd_X0_ofFloat 1 (c' := (7, [(0, .float value)], [.int 0], st)) rfl ?_
    exact xr_iret gd_X0_ofFloat rfl rfl ⟨by first | (rw [F_X0_ofFloat, if_neg h1]; done) | (rw [F_X0_ofFloat, if_neg h1]; rfl), rfl⟩
def F_dnan (st : xs_S) (value : UInt64) : Int32 := (if (Op.cmpValue (FP.dcmp value value) .l) = 0 then 0
    else 1)
set_option maxRecDepth 20000 in
theorem c_dnan {G : xs_G} {base : Nat} (d : Nat) (st : xs_S) (value : UInt64) : xs_K G base (d + 0) M_Jxe99ae_isNaN_b9ae7 [.double value] st (fun v u => v = some (.int (F_dnan st value)) ∧ u = st) := by
  refine xs_intro ok_Jxe99ae_isNaN_b9ae7 [(0, .double value)] rfl rfl ?_
  refine xr_blk gd_Jxe99ae_isNaN_b9ae7 3 (c' := (3, [(0, .double value)], [.int (Op.cmpValue (FP.dcmp value value) .l)], st)) rfl ?_
  refine xr_br gd_Jxe99ae_isNaN_b9ae7 rfl rfl (fun h1 => ?_) (fun h1 => ?_)
  · refine xr_blk gd_Jxe99ae_isNaN_b9ae7 1 (c' := (11, [(0, .double value)], [.int 0], st)) rfl ?_
    exact xr_zret gd_Jxe99ae_isNaN_b9ae7 rfl rfl rfl ⟨by first | (rw [F_dnan, if_pos h1]; done) | (rw [F_dnan, if_pos h1]; rfl), rfl⟩
  · refine xr_blk gd_Jxe99ae_isNaN_b9ae7 2 (c' := (11, [(0, .double value)], [.int 1], st)) rfl ?_
    exact xr_zret gd_Jxe99ae_isNaN_b9ae7 rfl rfl rfl ⟨by first | (rw [F_dnan, if_neg h1]; done) | (rw [F_dnan, if_neg h1]; rfl), rfl⟩
def F_d2lb (st : xs_S) (value : UInt64) : Int64 := (if (F_dnan st value) = 0 then value.toInt64
    else 9221120237041090560)
set_option maxRecDepth 20000 in
theorem c_d2lb {G : xs_G} {base : Nat} (d : Nat) (st : xs_S) (value : UInt64) : xs_K G base (d + 1) M_Jxe99ae_doubleToLongBits_ccdee [.double value] st (fun v u => v = some (.long (F_d2lb st value)) ∧ u = st) := by
  refine xs_intro ok_Jxe99ae_doubleToLongBits_ccdee [(0, .double value)] rfl rfl ?_
  refine xr_blk gd_Jxe99ae_doubleToLongBits_ccdee 1 (c' := (1, [(0, .double value)], [.double value], st)) rfl ?_
  refine xr_callS gd_Jxe99ae_doubleToLongBits_ccdee gd_Jxe99ae_isNaN_b9ae7 k_Jxe99ae_122 rfl (c_dnan (d + 0) st value) (by omega) rfl rfl rfl ?_
  refine xs_fun ?_
  refine xr_br gd_Jxe99ae_doubleToLongBits_ccdee rfl rfl (fun h1 => ?_) (fun h1 => ?_)
  · refine xr_ldc2 gd_Jxe99ae_doubleToLongBits_ccdee.1 rfl xs_cL_Jxe99ae_137 ?_
    exact xr_lret gd_Jxe99ae_doubleToLongBits_ccdee rfl rfl ⟨by first | (rw [F_d2lb, if_neg h1]; done) | (rw [F_d2lb, if_neg h1]; rfl), rfl⟩
  · refine xr_blk gd_Jxe99ae_doubleToLongBits_ccdee 1 (c' := (8, [(0, .double value)], [.double value], st)) rfl ?_
    refine xr_d2lb gd_Jxe99ae_doubleToLongBits_ccdee rfl xs_l_db rfl rfl ?_
    exact xr_lret gd_Jxe99ae_doubleToLongBits_ccdee rfl rfl ⟨by first | (rw [F_d2lb, if_pos h1]; done) | (rw [F_d2lb, if_pos h1]; rfl), rfl⟩
def F_fnan (st : xs_S) (value : UInt32) : Int32 := (if (Op.cmpValue (FP.fcmp value value) .l) = 0 then 0
    else 1)
set_option maxRecDepth 20000 in
theorem c_fnan {G : xs_G} {base : Nat} (d : Nat) (st : xs_S) (value : UInt32) : xs_K G base (d + 0) M_Jxf58ca_isNaN_12338 [.float value] st (fun v u => v = some (.int (F_fnan st value)) ∧ u = st) := by
  refine xs_intro ok_Jxf58ca_isNaN_12338 [(0, .float value)] rfl rfl ?_
  refine xr_blk gd_Jxf58ca_isNaN_12338 3 (c' := (3, [(0, .float value)], [.int (Op.cmpValue (FP.fcmp value value) .l)], st)) rfl ?_
  refine xr_br gd_Jxf58ca_isNaN_12338 rfl rfl (fun h1 => ?_) (fun h1 => ?_)
  · refine xr_blk gd_Jxf58ca_isNaN_12338 1 (c' := (11, [(0, .float value)], [.int 0], st)) rfl ?_
    exact xr_zret gd_Jxf58ca_isNaN_12338 rfl rfl rfl ⟨by first | (rw [F_fnan, if_pos h1]; done) | (rw [F_fnan, if_pos h1]; rfl), rfl⟩
  · refine xr_blk gd_Jxf58ca_isNaN_12338 2 (c' := (11, [(0, .float value)], [.int 1], st)) rfl ?_
    exact xr_zret gd_Jxf58ca_isNaN_12338 rfl rfl rfl ⟨by first | (rw [F_fnan, if_neg h1]; done) | (rw [F_fnan, if_neg h1]; rfl), rfl⟩
def F_f2ib (st : xs_S) (value : UInt32) : Int32 := (if (F_fnan st value) = 0 then value.toInt32
    else 2143289344)
set_option maxRecDepth 20000 in
theorem c_f2ib {G : xs_G} {base : Nat} (d : Nat) (st : xs_S) (value : UInt32) : xs_K G base (d + 1) M_Jxf58ca_floatToIntBits_5c35a [.float value] st (fun v u => v = some (.int (F_f2ib st value)) ∧ u = st) := by
  refine xs_intro ok_Jxf58ca_floatToIntBits_5c35a [(0, .float value)] rfl rfl ?_
  refine xr_blk gd_Jxf58ca_floatToIntBits_5c35a 1 (c' := (1, [(0, .float value)], [.float value], st)) rfl ?_
  refine xr_callS gd_Jxf58ca_floatToIntBits_5c35a gd_Jxf58ca_isNaN_12338 k_Jxf58ca_59 rfl (c_fnan (d + 0) st value) (by omega) rfl rfl rfl ?_
  refine xs_fun ?_
  refine xr_br gd_Jxf58ca_floatToIntBits_5c35a rfl rfl (fun h1 => ?_) (fun h1 => ?_)
  · refine xr_blk gd_Jxf58ca_floatToIntBits_5c35a 1 (c' := (14, [(0, .float value)], [.int 2143289344], st)) rfl ?_
    exact xr_iret gd_Jxf58ca_floatToIntBits_5c35a rfl rfl ⟨by first | (rw [F_f2ib, if_neg h1]; done) | (rw [F_f2ib, if_neg h1]; rfl), rfl⟩
  · refine xr_blk gd_Jxf58ca_floatToIntBits_5c35a 1 (c' := (8, [(0, .float value)], [.float value], st)) rfl ?_
    refine xr_f2ib gd_Jxf58ca_floatToIntBits_5c35a rfl xs_l_fb rfl rfl ?_
    exact xr_iret gd_Jxf58ca_floatToIntBits_5c35a rfl rfl ⟨by first | (rw [F_f2ib, if_pos h1]; done) | (rw [F_f2ib, if_pos h1]; rfl), rfl⟩
/-! the weighted mean -/
def WM (st : xs_S) : Prop := ∀ j : Nat, (j : Int) < (st 7 3).toInt → 0 ≤ (st 8 j + st 9 j).toInt ∧ 0 < (st 9 j - st 8 j + 1).toInt
def WX (st : xs_S) (x1 x3 : UInt64) (x5 : Int32) (n : Nat) : Prop := xs_lo x5 (st 7 3) n ∧ Nb 900 (1100 + 2 * x5.toInt.toNat) x1 ∧ Nb 900 (1100 + 2 * x5.toInt.toNat) x3
theorem wx_0 {st : xs_S} {x1 x3 : UInt64} {x5 : Int32} (h : WX st x1 x3 x5 0) : False := xs_lo0 h.1
theorem wx_e {st : xs_S} (hsz : 0 ≤ (st 7 3).toInt ∧ (st 7 3).toInt ≤ 15) : WX st FP.dconst0 FP.dconst0 0 16 := ⟨xs_lo_e hsz.1 (by omega), Or.inl rfl, Or.inl rfl⟩
theorem wx_v {st : xs_S} {x1 x3 : UInt64} {x5 : Int32} {n : Nat} (hW : WM st) (h : WX st x1 x3 x5 (n + 1)) (h1 : ¬ st 7 3 ≤ x5) : 0 ≤ (st 8 x5.toInt.toNat + st 9 x5.toInt.toNat).toInt ∧ 0 < (st 9 x5.toInt.toNat - st 8 x5.toInt.toNat + 1).toInt := by
  have h2 := xs_lo_in h.1 h1
  exact hW _ (by omega)
theorem wx_s {x5 : Int32} (h : 0 ≤ x5.toInt ∧ x5.toInt < 15) : (x5 + 1).toInt.toNat = x5.toInt.toNat + 1 := by
  rw [xi_inc (by omega)]
  omega
theorem sum_b {x1 x3 : UInt64} {s v : Int32} {k : Nat} (hk : k < 15) (h1 : 0 ≤ s.toInt) (h2 : 0 < v.toInt) (n1 : Nb 900 (1100 + 2 * k) x1) (n3 : Nb 900 (1100 + 2 * k) x3) : Nb 900 (1100 + 2 * (k + 1)) (FP.dadd x1 (FP.dmul (FP.ddiv (FP.i2d s) 4611686018427387904) (FP.ddiv FP.dconst1 (FP.i2d v)))) ∧ Bd 900 (1100 + 2 * (k + 1)) (FP.dadd x3 (FP.ddiv FP.dconst1 (FP.i2d v))) := by
  have e : 1100 + 2 * (k + 1) = 1100 + 2 * k + 2 := by omega
  rw [e]
  exact ⟨add_nb n1 (pr_nb h1 h2) (Nat.le_refl _) (by omega) (by omega), add_bd n3 (bd_w (wt_bd h2) (by decide) (Nat.le_refl _)) (Nat.le_refl _) (by omega) (by omega)⟩
theorem wx_b {st : xs_S} {x1 x3 : UInt64} {x5 : Int32} {n : Nat} (hsz : 0 ≤ (st 7 3).toInt ∧ (st 7 3).toInt ≤ 15) (hW : WM st) (h : WX st x1 x3 x5 (n + 1)) (h1 : ¬ st 7 3 ≤ x5) : WX st (FP.dadd x1 (FP.dmul (FP.ddiv (FP.i2d (st 8 x5.toInt.toNat + st 9 x5.toInt.toNat)) 4611686018427387904) (FP.ddiv FP.dconst1 (FP.i2d (st 9 x5.toInt.toNat - st 8 x5.toInt.toNat + 1))))) (FP.dadd x3 (FP.ddiv FP.dconst1 (FP.i2d (st 9 x5.toInt.toNat - st 8 x5.toInt.toNat + 1)))) (x5 + 1) n := by
  have hv := wx_v hW h h1
  have h2 := xs_lo_in h.1 h1
  obtain ⟨g1, g2, g3⟩ := h
  have hs := sum_b (k := x5.toInt.toNat) (by omega) hv.1 hv.2 g2 g3
  refine ⟨xs_lo_up g1 h1, ?_, ?_⟩
  · rw [wx_s (by omega)]
    exact hs.1
  · rw [wx_s (by omega)]
    exact Or.inr hs.2
theorem sum_n1 {x1 : UInt64} {s v : Int32} {lo hi : Nat} (hh : hi ≤ 2047) (h1 : 0 ≤ s.toInt) (h2 : 0 < v.toInt) (n1 : Nb lo hi x1) : vf_n64 (FP.dadd x1 (FP.dmul (FP.ddiv (FP.i2d s) 4611686018427387904) (FP.ddiv FP.dconst1 (FP.i2d v)))) := vf_of (FP.Core.dadd_out (nb_nn n1 hh) (nb_fin (pr_nb h1 h2) (by decide)))
theorem sum_n3 {x3 : UInt64} {v : Int32} {lo hi : Nat} (hh : hi ≤ 2047) (h2 : 0 < v.toInt) (n3 : Nb lo hi x3) : vf_n64 (FP.dadd x3 (FP.ddiv FP.dconst1 (FP.i2d v))) := vf_of (FP.Core.dadd_out (nb_nn n3 hh) (bd_fin (wt_bd h2) (by decide)))
theorem mn_nn {x1 x3 : UInt64} {lo hi : Nat} (hl : 1 ≤ lo) (hh : hi ≤ 2047) (n1 : Nb lo hi x1) (n3 : Nb lo hi x3) (h0 : ¬ x3 = 0) : FP.Core.dIsNaN (FP.ddiv x1 x3) = false := by
  rcases n3 with n3 | n3
  · exact absurd n3 h0
  · exact FP.Core.ddiv_out (nb_nn n1 hh) (bd_fin n3 hh) (bd_nz n3 hh hl)
theorem wx_k {st : xs_S} {x1 x3 : UInt64} {x5 : Int32} {n : Nat} (hsz : 0 ≤ (st 7 3).toInt ∧ (st 7 3).toInt ≤ 15) (h : WX st x1 x3 x5 n) : 1100 + 2 * x5.toInt.toNat ≤ 1130 := by
  obtain ⟨⟨g1, g2, g3⟩, -⟩ := h
  omega
theorem wx_d {st : xs_S} {x1 x3 : UInt64} {x5 : Int32} {n : Nat} (hsz : 0 ≤ (st 7 3).toInt ∧ (st 7 3).toInt ≤ 15) (h : WX st x1 x3 x5 n) (h2 : ¬ Op.cmpValue (FP.dcmp x3 FP.dconst0) .l ≤ 0) : vf_n64 (FP.ddiv x1 x3) := by
  have hk := wx_k hsz h
  rw [cm_0 h.2.2 (by omega) (by decide)] at h2
  by_cases h0 : x3 = 0
  · rw [if_pos h0] at h2
    exact absurd (by decide) h2
  · exact vf_of (mn_nn (by decide) (by omega) h.2.1 h.2.2 h0)
def WN (st : xs_S) : Prop := (∀ j : Nat, j < 15 → bt (st 72 11) j = true → 0 ≤ (st 81 j + st 82 j).toInt ∧ 0 < (st 82 j - st 81 j + 1).toInt) ∧ ∀ j : Nat, 15 ≤ j → j < 32 → bt (st 72 11) j = false
def WY (st : xs_S) (x1 x3 : UInt64) (x5 : Int32) (n : Nat) : Prop := xs_lo x5 15 n ∧ Nb 900 (1100 + 2 * x5.toInt.toNat) x1 ∧ Nb 900 (1100 + 2 * x5.toInt.toNat) x3 ∧ WN st ∧ (x3 = 0 → ∀ j : Nat, (j : Int) < x5.toInt → bt (st 72 11) j = false)
theorem wy_0 {st : xs_S} {x1 x3 : UInt64} {x5 : Int32} (h : WY st x1 x3 x5 0) : False := xs_lo0 h.1
theorem wy_e {st : xs_S} (hN : WN st) : WY st FP.dconst0 FP.dconst0 0 16 := ⟨⟨by decide, by decide, by decide⟩, Or.inl rfl, Or.inl rfl, hN, fun _ j hj => by rw [xi_0] at hj; omega⟩
theorem wy_v {st : xs_S} {x1 x3 : UInt64} {x5 : Int32} {n : Nat} (h : WY st x1 x3 x5 n) (h1 : ¬ 15 ≤ x5) (hb : ((st 72 11 >>> (x5 &&& 31)) &&& 1) = 1) : (x5.toInt.toNat < 15 ∧ bt (st 72 11) x5.toInt.toNat = true) ∧ 0 ≤ (st 81 x5.toInt.toNat + st 82 x5.toInt.toNat).toInt ∧ 0 < (st 82 x5.toInt.toNat - st 81 x5.toInt.toNat + 1).toInt := by
  obtain ⟨k, hk, e, ei⟩ := nI_dial (xs_lo15 h.1 h1)
  have ek : x5.toInt.toNat = k := by omega
  rw [ek]
  rw [e] at hb
  have h2 := (bt_i (by omega)).mp hb
  exact ⟨⟨hk, h2⟩, h.2.2.2.1.1 k hk h2⟩
theorem wy_b {st : xs_S} {x1 x3 : UInt64} {x5 : Int32} {n : Nat} (h : WY st x1 x3 x5 (n + 1)) (h1 : ¬ 15 ≤ x5) (hb : ((st 72 11 >>> (x5 &&& 31)) &&& 1) = 1) : WY st (FP.dadd x1 (FP.dmul (FP.ddiv (FP.i2d (st 81 x5.toInt.toNat + st 82 x5.toInt.toNat)) 4611686018427387904) (FP.ddiv FP.dconst1 (FP.i2d (st 82 x5.toInt.toNat - st 81 x5.toInt.toNat + 1))))) (FP.dadd x3 (FP.ddiv FP.dconst1 (FP.i2d (st 82 x5.toInt.toNat - st 81 x5.toInt.toNat + 1)))) (x5 + 1) n := by
  obtain ⟨⟨v1, v2⟩, v3, v4⟩ := wy_v h h1 hb
  have h2 := xs_lo15 h.1 h1
  obtain ⟨g1, g2, g3, g4, g5⟩ := h
  have hs := sum_b v1 v3 v4 g2 g3
  refine ⟨xs_lo_up g1 h1, ?_, ?_, g4, fun h0 => ?_⟩
  · rw [wx_s h2]
    exact hs.1
  · rw [wx_s h2]
    exact Or.inr hs.2
  · have h3 := hs.2.1
    rw [h0] at h3
    exact absurd h3 (by decide)
theorem wy_n {st : xs_S} {x1 x3 : UInt64} {x5 : Int32} {n : Nat} (h : WY st x1 x3 x5 (n + 1)) (h1 : ¬ 15 ≤ x5) (hb : ¬ ((st 72 11 >>> (x5 &&& 31)) &&& 1) = 1) : WY st x1 x3 (x5 + 1) n := by
  have h2 := xs_lo15 h.1 h1
  obtain ⟨k, hk, e, ei⟩ := nI_dial h2
  obtain ⟨g1, g2, g3, g4, g5⟩ := h
  rw [e] at hb
  have hf : bt (st 72 11) k = false := by
    have h3 := fun q => hb ((bt_i (by omega)).mpr q)
    simpa using h3
  refine ⟨xs_lo_up g1 h1, ?_, ?_, g4, fun h0 j hj => ?_⟩
  · rw [wx_s h2]
    exact nb_w g2 (Nat.le_refl _) (by omega)
  · rw [wx_s h2]
    exact nb_w g3 (Nat.le_refl _) (by omega)
  · rw [xi_inc (by omega)] at hj
    by_cases hjk : j = k
    · rw [hjk]
      exact hf
    · exact g5 h0 j (by omega)
theorem wy_d {st : xs_S} {x1 x3 : UInt64} {x5 : Int32} {n : Nat} (h : WY st x1 x3 x5 n) (h1 : 15 ≤ x5) (hz : ¬ st 72 11 = 0) : vf_n64 (FP.ddiv x1 x3) := by
  obtain ⟨⟨g1, g2, g3⟩, n1, n3, g4, g5⟩ := h
  have e15 : (15 : Int32).toInt = 15 := by decide
  rw [xi_le, e15] at h1
  rw [e15] at g2
  refine vf_of (mn_nn (by decide) (by omega) n1 n3 (fun h0 => hz ?_))
  apply i32_ext
  intro j hj
  rw [bt_0]
  by_cases hj15 : j < 15
  · exact g5 h0 j (by omega)
  · exact g4.2 j (by omega) hj
def lp_X5_weightedMean_7 (st : xs_S) : Nat → UInt64 → UInt64 → Int32 → UInt64
  | 0, _, _, _ => 0
  | n + 1, x1, x3, x5 => (if (st 7 3) ≤ x5 then (if (Op.cmpValue (FP.dcmp x3 FP.dconst0) .l) ≤ 0 then FP.dconst0
      else FP.ddiv x1 x3)
    else lp_X5_weightedMean_7 st n (FP.dadd x1 (FP.dmul (FP.ddiv (FP.i2d ((st 8 x5.toInt.toNat) + (st 9 x5.toInt.toNat))) 4611686018427387904) (FP.ddiv FP.dconst1 (FP.i2d (((st 9 x5.toInt.toNat) - (st 8 x5.toInt.toNat)) + 1))))) (FP.dadd x3 (FP.ddiv FP.dconst1 (FP.i2d (((st 9 x5.toInt.toNat) - (st 8 x5.toInt.toNat)) + 1)))) (x5 + 1))
set_option maxRecDepth 20000 in
theorem cl_X5_weightedMean_7 {G : xs_G} {base : Nat} (d : Nat) (st : xs_S) (hsz : 0 ≤ (st 7 3).toInt ∧ (st 7 3).toInt ≤ 15) (hW : WM st) : ∀ (n : Nat) (x1 : UInt64) (x3 : UInt64) (x5 : Int32), WX st x1 x3 x5 n → xs_R G base (d + 0) M_X5_weightedMean (7, [(0, .ref 7), (1, .double x1), (3, .double x3), (5, .int x5)], [], st) (fun v u => v = some (.double (lp_X5_weightedMean_7 st n x1 x3 x5)) ∧ u = st) := by
  intro n
  induction n with
  | zero =>
    intro x1 x3 x5 hinv
    exact (wx_0 hinv).elim
  | succ n ih =>
    intro x1 x3 x5 hinv
    refine xr_blk gd_X5_weightedMean 3 (c' := (13, [(0, .ref 7), (1, .double x1), (3, .double x3), (5, .int x5)], [.int (st 7 3), .int x5], st)) rfl ?_
    refine xr_br gd_X5_weightedMean rfl rfl (fun h1 => ?_) (fun h1 => ?_)
    · refine xr_blk gd_X5_weightedMean 3 (c' := (82, [(0, .ref 7), (1, .double x1), (3, .double x3), (5, .int x5)], [.int (Op.cmpValue (FP.dcmp x3 FP.dconst0) .l)], st)) rfl ?_
      refine xr_br gd_X5_weightedMean rfl rfl (fun h2 => ?_) (fun h2 => ?_)
      · refine xr_blk gd_X5_weightedMean 1 (c' := (92, [(0, .ref 7), (1, .double x1), (3, .double x3), (5, .int x5)], [.double FP.dconst0], st)) rfl ?_
        exact xr_dret gd_X5_weightedMean rfl rfl ⟨by first | (rw [lp_X5_weightedMean_7, if_pos h1, if_pos h2]; done) | (rw [lp_X5_weightedMean_7, if_pos h1, if_pos h2]; rfl), rfl⟩
      · refine xr_blk gd_X5_weightedMean 2 (c' := (87, [(0, .ref 7), (1, .double x1), (3, .double x3), (5, .int x5)], [.double x3, .double x1], st)) rfl ?_
        refine xr_ddiv gd_X5_weightedMean.1 rfl (wx_d hsz hinv h2) ?_
        refine xr_blk gd_X5_weightedMean 1 (c' := (92, [(0, .ref 7), (1, .double x1), (3, .double x3), (5, .int x5)], [.double (FP.ddiv x1 x3)], st)) rfl ?_
        exact xr_dret gd_X5_weightedMean rfl rfl ⟨by first | (rw [lp_X5_weightedMean_7, if_pos h1, if_neg h2]; done) | (rw [lp_X5_weightedMean_7, if_pos h1, if_neg h2]; rfl), rfl⟩
    · refine xr_blk gd_X5_weightedMean 3 (c' := (22, [(0, .ref 7), (1, .double x1), (3, .double x3), (5, .int x5)], [.int x5, .ref 8], st)) rfl ?_
      refine xr_iald gd_X5_weightedMean rfl rfl (x5.toInt.toNat) (xs_h1 (n := 15) (xs_ix hsz (xs_lo_in hinv.1 h1))) (xs_h2 (n := 15) (xs_ix hsz (xs_lo_in hinv.1 h1))) ?_
      refine xr_blk gd_X5_weightedMean 3 (c' := (29, [(0, .ref 7), (1, .double x1), (3, .double x3), (5, .int x5)], [.int x5, .ref 9, .int (st 8 x5.toInt.toNat)], st)) rfl ?_
      refine xr_iald gd_X5_weightedMean rfl rfl (x5.toInt.toNat) (xs_h1 (n := 15) (xs_ix hsz (xs_lo_in hinv.1 h1))) (xs_h2 (n := 15) (xs_ix hsz (xs_lo_in hinv.1 h1))) ?_
      refine xr_blk gd_X5_weightedMean 2 (c' := (32, [(0, .ref 7), (1, .double x1), (3, .double x3), (5, .int x5)], [.double (FP.i2d ((st 8 x5.toInt.toNat) + (st 9 x5.toInt.toNat)))], st)) rfl ?_
      refine xr_ldc2d gd_X5_weightedMean.1 rfl xs_cD_X5_81 ?_
      refine xr_ddiv gd_X5_weightedMean.1 rfl (vf_of (md_nn _)) ?_
      refine xr_blk gd_X5_weightedMean 5 (c' := (45, [(0, .ref 7), (1, .double x1), (3, .double x3), (5, .int x5), (6, .double (FP.ddiv (FP.i2d ((st 8 x5.toInt.toNat) + (st 9 x5.toInt.toNat))) 4611686018427387904))], [.int x5, .ref 9, .double FP.dconst1], st)) rfl ?_
      refine xr_iald gd_X5_weightedMean rfl rfl (x5.toInt.toNat) (xs_h1 (n := 15) (xs_ix hsz (xs_lo_in hinv.1 h1))) (xs_h2 (n := 15) (xs_ix hsz (xs_lo_in hinv.1 h1))) ?_
      refine xr_blk gd_X5_weightedMean 3 (c' := (52, [(0, .ref 7), (1, .double x1), (3, .double x3), (5, .int x5), (6, .double (FP.ddiv (FP.i2d ((st 8 x5.toInt.toNat) + (st 9 x5.toInt.toNat))) 4611686018427387904))], [.int x5, .ref 8, .int (st 9 x5.toInt.toNat), .double FP.dconst1], st)) rfl ?_
      refine xr_iald gd_X5_weightedMean rfl rfl (x5.toInt.toNat) (xs_h1 (n := 15) (xs_ix hsz (xs_lo_in hinv.1 h1))) (xs_h2 (n := 15) (xs_ix hsz (xs_lo_in hinv.1 h1))) ?_
      refine xr_blk gd_X5_weightedMean 4 (c' := (57, [(0, .ref 7), (1, .double x1), (3, .double x3), (5, .int x5), (6, .double (FP.ddiv (FP.i2d ((st 8 x5.toInt.toNat) + (st 9 x5.toInt.toNat))) 4611686018427387904))], [.double (FP.i2d (((st 9 x5.toInt.toNat) - (st 8 x5.toInt.toNat)) + 1)), .double FP.dconst1], st)) rfl ?_
      refine xr_ddiv gd_X5_weightedMean.1 rfl (vf_of (wt_nn (wx_v hW hinv h1).2)) ?_
      refine xr_blk gd_X5_weightedMean 4 (c' := (65, [(0, .ref 7), (1, .double x1), (3, .double x3), (5, .int x5), (6, .double (FP.ddiv (FP.i2d ((st 8 x5.toInt.toNat) + (st 9 x5.toInt.toNat))) 4611686018427387904)), (8, .double (FP.ddiv FP.dconst1 (FP.i2d (((st 9 x5.toInt.toNat) - (st 8 x5.toInt.toNat)) + 1))))], [.double (FP.ddiv FP.dconst1 (FP.i2d (((st 9 x5.toInt.toNat) - (st 8 x5.toInt.toNat)) + 1))), .double (FP.ddiv (FP.i2d ((st 8 x5.toInt.toNat) + (st 9 x5.toInt.toNat))) 4611686018427387904), .double x1], st)) rfl ?_
      refine xr_dmul gd_X5_weightedMean.1 rfl (vf_of (pr_nn (wx_v hW hinv h1).1 (wx_v hW hinv h1).2)) ?_
      refine xr_dadd gd_X5_weightedMean.1 rfl (sum_n1 (by have := wx_k hsz hinv; omega) (wx_v hW hinv h1).1 (wx_v hW hinv h1).2 hinv.2.1) ?_
      refine xr_blk gd_X5_weightedMean 3 (c' := (71, [(0, .ref 7), (1, .double (FP.dadd x1 (FP.dmul (FP.ddiv (FP.i2d ((st 8 x5.toInt.toNat) + (st 9 x5.toInt.toNat))) 4611686018427387904) (FP.ddiv FP.dconst1 (FP.i2d (((st 9 x5.toInt.toNat) - (st 8 x5.toInt.toNat)) + 1)))))), (3, .double x3), (5, .int x5), (6, .double (FP.ddiv (FP.i2d ((st 8 x5.toInt.toNat) + (st 9 x5.toInt.toNat))) 4611686018427387904)), (8, .double (FP.ddiv FP.dconst1 (FP.i2d (((st 9 x5.toInt.toNat) - (st 8 x5.toInt.toNat)) + 1))))], [.double (FP.ddiv FP.dconst1 (FP.i2d (((st 9 x5.toInt.toNat) - (st 8 x5.toInt.toNat)) + 1))), .double x3], st)) rfl ?_
      refine xr_dadd gd_X5_weightedMean.1 rfl (sum_n3 (by have := wx_k hsz hinv; omega) (wx_v hW hinv h1).2 hinv.2.2) ?_
      refine xr_blk gd_X5_weightedMean 3 (c' := (7, [(0, .ref 7), (1, .double (FP.dadd x1 (FP.dmul (FP.ddiv (FP.i2d ((st 8 x5.toInt.toNat) + (st 9 x5.toInt.toNat))) 4611686018427387904) (FP.ddiv FP.dconst1 (FP.i2d (((st 9 x5.toInt.toNat) - (st 8 x5.toInt.toNat)) + 1)))))), (3, .double (FP.dadd x3 (FP.ddiv FP.dconst1 (FP.i2d (((st 9 x5.toInt.toNat) - (st 8 x5.toInt.toNat)) + 1))))), (5, .int (x5 + 1)), (6, .double (FP.ddiv (FP.i2d ((st 8 x5.toInt.toNat) + (st 9 x5.toInt.toNat))) 4611686018427387904)), (8, .double (FP.ddiv FP.dconst1 (FP.i2d (((st 9 x5.toInt.toNat) - (st 8 x5.toInt.toNat)) + 1))))], [], st)) rfl ?_
      refine xs_pk (lv' := [(0, .ref 7), (1, .double (FP.dadd x1 (FP.dmul (FP.ddiv (FP.i2d ((st 8 x5.toInt.toNat) + (st 9 x5.toInt.toNat))) 4611686018427387904) (FP.ddiv FP.dconst1 (FP.i2d (((st 9 x5.toInt.toNat) - (st 8 x5.toInt.toNat)) + 1)))))), (3, .double (FP.dadd x3 (FP.ddiv FP.dconst1 (FP.i2d (((st 9 x5.toInt.toNat) - (st 8 x5.toInt.toNat)) + 1))))), (5, .int (x5 + 1))]) [0, 1, 2, 3] rfl ?_
      refine xs_cons (ih (FP.dadd x1 (FP.dmul (FP.ddiv (FP.i2d ((st 8 x5.toInt.toNat) + (st 9 x5.toInt.toNat))) 4611686018427387904) (FP.ddiv FP.dconst1 (FP.i2d (((st 9 x5.toInt.toNat) - (st 8 x5.toInt.toNat)) + 1))))) (FP.dadd x3 (FP.ddiv FP.dconst1 (FP.i2d (((st 9 x5.toInt.toNat) - (st 8 x5.toInt.toNat)) + 1)))) (x5 + 1) (wx_b hsz hW hinv h1)) (fun v u hq => ?_)
      rw [lp_X5_weightedMean_7, if_neg h1]; exact hq
def F_X5_weightedMean (st : xs_S) : UInt64 := lp_X5_weightedMean_7 st 16 FP.dconst0 FP.dconst0 0
set_option maxRecDepth 20000 in
theorem c_X5_weightedMean {G : xs_G} {base : Nat} (d : Nat) (st : xs_S) (hsz : 0 ≤ (st 7 3).toInt ∧ (st 7 3).toInt ≤ 15) (hW : WM st) : xs_K G base (d + 0) M_X5_weightedMean [.ref 7] st (fun v u => v = some (.double (F_X5_weightedMean st)) ∧ u = st) := by
  refine xs_intro ok_X5_weightedMean [(0, .ref 7)] rfl rfl ?_
  refine xr_blk gd_X5_weightedMean 6 (c' := (7, [(0, .ref 7), (1, .double FP.dconst0), (3, .double FP.dconst0), (5, .int 0)], [], st)) rfl ?_
  refine xs_cons (cl_X5_weightedMean_7 d st hsz hW 16 FP.dconst0 FP.dconst0 0 (wx_e hsz)) (fun v u hq => ?_)
  rw [F_X5_weightedMean]; exact hq
theorem fs_nn {a b : Int32} (h : ¬ b = 0) : vf_n32 (FP.fdiv (FP.i2f a) (FP.i2f b)) := by
  have hn : FP.Core.fIsNaN (FP.Core.fdiv (FP.i2f a) (FP.i2f b)) = false := FP.Core.fdiv_out (FP.Core.i2f_fin a).notNaN (FP.Core.i2f_fin b) (fun hz => FP.Core.i2f_ne_zero h ((FP.Core.zero_bits232 _).mp hz))
  unfold vf_n32
  rw [UInt32.le_iff_toNat_le, FP.Core.mask_toNat32]
  have h1 : ¬ (2139095040 < (FP.fdiv (FP.i2f a) (FP.i2f b)).toNat % 2 ^ 31) := fun h2 => by
    have h3 := (FP.Core.isNaN_bits32 (FP.fdiv (FP.i2f a) (FP.i2f b))).mpr h2
    rw [show FP.Core.fIsNaN (FP.fdiv (FP.i2f a) (FP.i2f b)) = false from hn] at h3
    exact absurd h3 (by decide)
  show (FP.fdiv (FP.i2f a) (FP.i2f b)).toNat % 2 ^ 31 ≤ 2139095040
  omega
def F_X5_honestShare (st : xs_S) : UInt32 := (if (st 7 3) = 0 then FP.fconst0
    else FP.fdiv (FP.i2f (F_X5_most st)) (FP.i2f (st 7 3)))
set_option maxRecDepth 20000 in
theorem c_X5_honestShare {G : xs_G} {base : Nat} (d : Nat) (st : xs_S) (hsz : 0 ≤ (st 7 3).toInt ∧ (st 7 3).toInt ≤ 15) : xs_K G base (d + 3) M_X5_honestShare [.ref 7] st (fun v u => v = some (.float (F_X5_honestShare st)) ∧ u = st) := by
  refine xs_intro ok_X5_honestShare [(0, .ref 7)] rfl rfl ?_
  refine xr_blk gd_X5_honestShare 2 (c' := (4, [(0, .ref 7)], [.int (st 7 3)], st)) rfl ?_
  refine xr_br gd_X5_honestShare rfl rfl (fun h1 => ?_) (fun h1 => ?_)
  · refine xr_blk gd_X5_honestShare 1 (c' := (12, [(0, .ref 7)], [.ref 7], st)) rfl ?_
    refine xr_callV gd_X5_honestShare gd_X5_most k_X5_52 rfl (c_X5_most (d + 0) st hsz) (by omega) rfl rfl rfl rfl rfl ?_
    refine xs_fun ?_
    refine xr_blk gd_X5_honestShare 4 (c' := (21, [(0, .ref 7)], [.float (FP.i2f (st 7 3)), .float (FP.i2f (F_X5_most st))], st)) rfl ?_
    refine xr_fdiv gd_X5_honestShare.1 rfl (fs_nn h1) ?_
    exact xr_fret gd_X5_honestShare rfl rfl ⟨by first | (rw [F_X5_honestShare, if_neg h1]; done) | (rw [F_X5_honestShare, if_neg h1]; rfl), rfl⟩
  · refine xr_blk gd_X5_honestShare 2 (c' := (22, [(0, .ref 7)], [.float FP.fconst0], st)) rfl ?_
    exact xr_fret gd_X5_honestShare rfl rfl ⟨by first | (rw [F_X5_honestShare, if_pos h1]; done) | (rw [F_X5_honestShare, if_pos h1]; rfl), rfl⟩
def F_X6_mean (st : xs_S) : Int64 × xs_S := ((F_X0_ofDouble (F_X6_gatherNow st (-1)) (F_X5_weightedMean (F_X6_gatherNow st (-1)))), (F_X6_gatherNow st (-1)))
set_option maxRecDepth 20000 in
theorem c_X6_mean {G : xs_G} {base : Nat} (d : Nat) (st : xs_S) (hW : WM (F_X6_gatherNow st (-1))) (hx : Nb 1 2040 (F_X5_weightedMean (F_X6_gatherNow st (-1)))) : xs_K G base (d + 5) M_X6_mean [.ref 0] st (fun v u => v = some (.long (F_X6_mean st).1) ∧ u = (F_X6_mean st).2) := by
  refine xs_intro ok_X6_mean [(0, .ref 0)] rfl rfl ?_
  refine xr_blk gd_X6_mean 2 (c' := (2, [(0, .ref 0)], [.int (-1), .ref 0], st)) rfl ?_
  refine xr_callV gd_X6_mean gd_X6_gatherNow k_X6_70 rfl (c_X6_gatherNow (d + 0) st (-1)) (by omega) rfl rfl rfl rfl rfl ?_
  refine xs_fun ?_
  refine xr_blk gd_X6_mean 2 (c' := (9, [(0, .ref 0)], [.ref 7], (F_X6_gatherNow st (-1)))) rfl ?_
  refine xr_callV gd_X6_mean gd_X5_weightedMean k_X6_141 rfl (c_X5_weightedMean (d + 4) (F_X6_gatherNow st (-1)) gn_sz hW) (by omega) rfl rfl rfl rfl rfl ?_
  refine xs_fun ?_
  refine xr_callS gd_X6_mean gd_X0_ofDouble k_X6_145 rfl (c_X0_ofDouble (d + 4) (F_X6_gatherNow st (-1)) (F_X5_weightedMean (F_X6_gatherNow st (-1))) hx) (by omega) rfl rfl rfl ?_
  refine xs_fun ?_
  exact xr_lret gd_X6_mean rfl rfl ⟨by first | (rw [F_X6_mean]; done) | (rw [F_X6_mean]; rfl), by first | (rw [F_X6_mean]; done) | (rw [F_X6_mean]; rfl)⟩
def F_X6_share (st : xs_S) : Int32 × xs_S := ((F_X0_ofFloat (F_X6_gatherNow st (-1)) (F_X5_honestShare (F_X6_gatherNow st (-1)))), (F_X6_gatherNow st (-1)))
set_option maxRecDepth 20000 in
theorem c_X6_share {G : xs_G} {base : Nat} (d : Nat) (st : xs_S) (hx : QF (F_X5_honestShare (F_X6_gatherNow st (-1)))) : xs_K G base (d + 5) M_X6_share [.ref 0] st (fun v u => v = some (.int (F_X6_share st).1) ∧ u = (F_X6_share st).2) := by
  refine xs_intro ok_X6_share [(0, .ref 0)] rfl rfl ?_
  refine xr_blk gd_X6_share 2 (c' := (2, [(0, .ref 0)], [.int (-1), .ref 0], st)) rfl ?_
  refine xr_callV gd_X6_share gd_X6_gatherNow k_X6_70 rfl (c_X6_gatherNow (d + 0) st (-1)) (by omega) rfl rfl rfl rfl rfl ?_
  refine xs_fun ?_
  refine xr_blk gd_X6_share 2 (c' := (9, [(0, .ref 0)], [.ref 7], (F_X6_gatherNow st (-1)))) rfl ?_
  refine xr_callV gd_X6_share gd_X5_honestShare k_X6_151 rfl (c_X5_honestShare (d + 1) (F_X6_gatherNow st (-1)) gn_sz) (by omega) rfl rfl rfl rfl rfl ?_
  refine xs_fun ?_
  refine xr_callS gd_X6_share gd_X0_ofFloat k_X6_155 rfl (c_X0_ofFloat (d + 3) (F_X6_gatherNow st (-1)) (F_X5_honestShare (F_X6_gatherNow st (-1))) hx) (by omega) rfl rfl rfl ?_
  refine xs_fun ?_
  exact xr_iret gd_X6_share rfl rfl ⟨by first | (rw [F_X6_share]; done) | (rw [F_X6_share]; rfl), by first | (rw [F_X6_share]; done) | (rw [F_X6_share]; rfl)⟩
def lp_X7_mean_14 : Nat → UInt64 → UInt64 → Int32 → xs_S → Int64 × xs_S
  | 0, _, _, _, st => (0, st)
  | n + 1, x1, x3, x5, st => (if 15 ≤ x5 then (if (st 72 11) = 0 then ((F_d2lb st FP.dconst0), st)
      else ((F_d2lb st (FP.ddiv x1 x3)), st))
    else (if (((st 72 11) >>> (x5 &&& 31)) &&& 1) = 1 then lp_X7_mean_14 n (FP.dadd x1 (FP.dmul (FP.ddiv (FP.i2d ((st 81 x5.toInt.toNat) + (st 82 x5.toInt.toNat))) 4611686018427387904) (FP.ddiv FP.dconst1 (FP.i2d (((st 82 x5.toInt.toNat) - (st 81 x5.toInt.toNat)) + 1))))) (FP.dadd x3 (FP.ddiv FP.dconst1 (FP.i2d (((st 82 x5.toInt.toNat) - (st 81 x5.toInt.toNat)) + 1)))) (x5 + 1) st
      else lp_X7_mean_14 n x1 x3 (x5 + 1) st))
set_option maxRecDepth 20000 in
theorem cl_X7_mean_14 {G : xs_G} {base : Nat} (d : Nat) : ∀ (n : Nat) (x1 : UInt64) (x3 : UInt64) (x5 : Int32) (st : xs_S), WY st x1 x3 x5 n → xs_R G base (d + 2) M_X7_mean (14, [(0, .ref 72), (1, .double x1), (3, .double x3), (5, .int x5)], [], st) (fun v u => v = some (.long (lp_X7_mean_14 n x1 x3 x5 st).1) ∧ u = (lp_X7_mean_14 n x1 x3 x5 st).2) := by
  intro n
  induction n with
  | zero =>
    intro x1 x3 x5 st hinv
    exact (wy_0 hinv).elim
  | succ n ih =>
    intro x1 x3 x5 st hinv
    refine xr_blk gd_X7_mean 2 (c' := (18, [(0, .ref 72), (1, .double x1), (3, .double x3), (5, .int x5)], [.int 15, .int x5], st)) rfl ?_
    refine xr_br gd_X7_mean rfl rfl (fun h1 => ?_) (fun h1 => ?_)
    · refine xr_blk gd_X7_mean 2 (c' := (101, [(0, .ref 72), (1, .double x1), (3, .double x3), (5, .int x5)], [.int (st 72 11)], st)) rfl ?_
      refine xr_br gd_X7_mean rfl rfl (fun h2 => ?_) (fun h2 => ?_)
      · refine xr_blk gd_X7_mean 2 (c' := (110, [(0, .ref 72), (1, .double x1), (3, .double x3), (5, .int x5)], [.double x3, .double x1], st)) rfl ?_
        refine xr_ddiv gd_X7_mean.1 rfl (wy_d hinv h1 (by assumption)) ?_
        refine xr_callS gd_X7_mean gd_Jxe99ae_doubleToLongBits_ccdee k_X7_144 rfl (c_d2lb (d + 0) st (FP.ddiv x1 x3)) (by omega) rfl rfl rfl ?_
        refine xs_fun ?_
        exact xr_lret gd_X7_mean rfl rfl ⟨by first | (rw [lp_X7_mean_14, if_pos h1, if_neg h2]; done) | (rw [lp_X7_mean_14, if_pos h1, if_neg h2]; rfl), by first | (rw [lp_X7_mean_14, if_pos h1, if_neg h2]; done) | (rw [lp_X7_mean_14, if_pos h1, if_neg h2]; rfl)⟩
      · refine xr_blk gd_X7_mean 2 (c' := (111, [(0, .ref 72), (1, .double x1), (3, .double x3), (5, .int x5)], [.double FP.dconst0], st)) rfl ?_
        refine xr_callS gd_X7_mean gd_Jxe99ae_doubleToLongBits_ccdee k_X7_144 rfl (c_d2lb (d + 0) st FP.dconst0) (by omega) rfl rfl rfl ?_
        refine xs_fun ?_
        exact xr_lret gd_X7_mean rfl rfl ⟨by first | (rw [lp_X7_mean_14, if_pos h1, if_pos h2]; done) | (rw [lp_X7_mean_14, if_pos h1, if_pos h2]; rfl), by first | (rw [lp_X7_mean_14, if_pos h1, if_pos h2]; done) | (rw [lp_X7_mean_14, if_pos h1, if_pos h2]; rfl)⟩
    · refine xr_blk gd_X7_mean 7 (c' := (31, [(0, .ref 72), (1, .double x1), (3, .double x3), (5, .int x5)], [.int 1, .int (((st 72 11) >>> (x5 &&& 31)) &&& 1)], st)) rfl ?_
      refine xr_br gd_X7_mean rfl rfl (fun h3 => ?_) (fun h3 => ?_)
      · refine xr_blk gd_X7_mean 2 (c' := (14, [(0, .ref 72), (1, .double x1), (3, .double x3), (5, .int (x5 + 1))], [], st)) rfl ?_
        refine xs_cons (ih x1 x3 (x5 + 1) st (by first | exact wy_b hinv h1 (by assumption) | exact wy_n hinv h1 (by assumption))) (fun v u hq => ?_)
        rw [lp_X7_mean_14, if_neg h1, if_neg h3]; exact hq
      · refine xr_blk gd_X7_mean 3 (c' := (40, [(0, .ref 72), (1, .double x1), (3, .double x3), (5, .int x5)], [.int x5, .ref 81], st)) rfl ?_
        refine xr_iald gd_X7_mean rfl rfl (x5.toInt.toNat) (xs_h1 (n := 15) (xs_lo15 hinv.1 h1)) (xs_h2 (n := 15) (xs_lo15 hinv.1 h1)) ?_
        refine xr_blk gd_X7_mean 3 (c' := (47, [(0, .ref 72), (1, .double x1), (3, .double x3), (5, .int x5)], [.int x5, .ref 82, .int (st 81 x5.toInt.toNat)], st)) rfl ?_
        refine xr_iald gd_X7_mean rfl rfl (x5.toInt.toNat) (xs_h1 (n := 15) (xs_lo15 hinv.1 h1)) (xs_h2 (n := 15) (xs_lo15 hinv.1 h1)) ?_
        refine xr_blk gd_X7_mean 2 (c' := (50, [(0, .ref 72), (1, .double x1), (3, .double x3), (5, .int x5)], [.double (FP.i2d ((st 81 x5.toInt.toNat) + (st 82 x5.toInt.toNat)))], st)) rfl ?_
        refine xr_ldc2d gd_X7_mean.1 rfl xs_cD_X7_142 ?_
        refine xr_ddiv gd_X7_mean.1 rfl (vf_of (md_nn _)) ?_
        refine xr_blk gd_X7_mean 5 (c' := (63, [(0, .ref 72), (1, .double x1), (3, .double x3), (5, .int x5), (6, .double (FP.ddiv (FP.i2d ((st 81 x5.toInt.toNat) + (st 82 x5.toInt.toNat))) 4611686018427387904))], [.int x5, .ref 82, .double FP.dconst1], st)) rfl ?_
        refine xr_iald gd_X7_mean rfl rfl (x5.toInt.toNat) (xs_h1 (n := 15) (xs_lo15 hinv.1 h1)) (xs_h2 (n := 15) (xs_lo15 hinv.1 h1)) ?_
        refine xr_blk gd_X7_mean 3 (c' := (70, [(0, .ref 72), (1, .double x1), (3, .double x3), (5, .int x5), (6, .double (FP.ddiv (FP.i2d ((st 81 x5.toInt.toNat) + (st 82 x5.toInt.toNat))) 4611686018427387904))], [.int x5, .ref 81, .int (st 82 x5.toInt.toNat), .double FP.dconst1], st)) rfl ?_
        refine xr_iald gd_X7_mean rfl rfl (x5.toInt.toNat) (xs_h1 (n := 15) (xs_lo15 hinv.1 h1)) (xs_h2 (n := 15) (xs_lo15 hinv.1 h1)) ?_
        refine xr_blk gd_X7_mean 4 (c' := (75, [(0, .ref 72), (1, .double x1), (3, .double x3), (5, .int x5), (6, .double (FP.ddiv (FP.i2d ((st 81 x5.toInt.toNat) + (st 82 x5.toInt.toNat))) 4611686018427387904))], [.double (FP.i2d (((st 82 x5.toInt.toNat) - (st 81 x5.toInt.toNat)) + 1)), .double FP.dconst1], st)) rfl ?_
        refine xr_ddiv gd_X7_mean.1 rfl (vf_of (wt_nn (wy_v hinv h1 (by assumption)).2.2)) ?_
        refine xr_blk gd_X7_mean 4 (c' := (83, [(0, .ref 72), (1, .double x1), (3, .double x3), (5, .int x5), (6, .double (FP.ddiv (FP.i2d ((st 81 x5.toInt.toNat) + (st 82 x5.toInt.toNat))) 4611686018427387904)), (8, .double (FP.ddiv FP.dconst1 (FP.i2d (((st 82 x5.toInt.toNat) - (st 81 x5.toInt.toNat)) + 1))))], [.double (FP.ddiv FP.dconst1 (FP.i2d (((st 82 x5.toInt.toNat) - (st 81 x5.toInt.toNat)) + 1))), .double (FP.ddiv (FP.i2d ((st 81 x5.toInt.toNat) + (st 82 x5.toInt.toNat))) 4611686018427387904), .double x1], st)) rfl ?_
        refine xr_dmul gd_X7_mean.1 rfl (vf_of (pr_nn (wy_v hinv h1 (by assumption)).2.1 (wy_v hinv h1 (by assumption)).2.2)) ?_
        refine xr_dadd gd_X7_mean.1 rfl (sum_n1 (by have := (xs_lo15 hinv.1 h1); omega) (wy_v hinv h1 (by assumption)).2.1 (wy_v hinv h1 (by assumption)).2.2 hinv.2.1) ?_
        refine xr_blk gd_X7_mean 3 (c' := (89, [(0, .ref 72), (1, .double (FP.dadd x1 (FP.dmul (FP.ddiv (FP.i2d ((st 81 x5.toInt.toNat) + (st 82 x5.toInt.toNat))) 4611686018427387904) (FP.ddiv FP.dconst1 (FP.i2d (((st 82 x5.toInt.toNat) - (st 81 x5.toInt.toNat)) + 1)))))), (3, .double x3), (5, .int x5), (6, .double (FP.ddiv (FP.i2d ((st 81 x5.toInt.toNat) + (st 82 x5.toInt.toNat))) 4611686018427387904)), (8, .double (FP.ddiv FP.dconst1 (FP.i2d (((st 82 x5.toInt.toNat) - (st 81 x5.toInt.toNat)) + 1))))], [.double (FP.ddiv FP.dconst1 (FP.i2d (((st 82 x5.toInt.toNat) - (st 81 x5.toInt.toNat)) + 1))), .double x3], st)) rfl ?_
        refine xr_dadd gd_X7_mean.1 rfl (sum_n3 (by have := (xs_lo15 hinv.1 h1); omega) (wy_v hinv h1 (by assumption)).2.2 hinv.2.2.1) ?_
        refine xr_blk gd_X7_mean 3 (c' := (14, [(0, .ref 72), (1, .double (FP.dadd x1 (FP.dmul (FP.ddiv (FP.i2d ((st 81 x5.toInt.toNat) + (st 82 x5.toInt.toNat))) 4611686018427387904) (FP.ddiv FP.dconst1 (FP.i2d (((st 82 x5.toInt.toNat) - (st 81 x5.toInt.toNat)) + 1)))))), (3, .double (FP.dadd x3 (FP.ddiv FP.dconst1 (FP.i2d (((st 82 x5.toInt.toNat) - (st 81 x5.toInt.toNat)) + 1))))), (5, .int (x5 + 1)), (6, .double (FP.ddiv (FP.i2d ((st 81 x5.toInt.toNat) + (st 82 x5.toInt.toNat))) 4611686018427387904)), (8, .double (FP.ddiv FP.dconst1 (FP.i2d (((st 82 x5.toInt.toNat) - (st 81 x5.toInt.toNat)) + 1))))], [], st)) rfl ?_
        refine xs_pk (lv' := [(0, .ref 72), (1, .double (FP.dadd x1 (FP.dmul (FP.ddiv (FP.i2d ((st 81 x5.toInt.toNat) + (st 82 x5.toInt.toNat))) 4611686018427387904) (FP.ddiv FP.dconst1 (FP.i2d (((st 82 x5.toInt.toNat) - (st 81 x5.toInt.toNat)) + 1)))))), (3, .double (FP.dadd x3 (FP.ddiv FP.dconst1 (FP.i2d (((st 82 x5.toInt.toNat) - (st 81 x5.toInt.toNat)) + 1))))), (5, .int (x5 + 1))]) [0, 1, 2, 3] rfl ?_
        refine xs_cons (ih (FP.dadd x1 (FP.dmul (FP.ddiv (FP.i2d ((st 81 x5.toInt.toNat) + (st 82 x5.toInt.toNat))) 4611686018427387904) (FP.ddiv FP.dconst1 (FP.i2d (((st 82 x5.toInt.toNat) - (st 81 x5.toInt.toNat)) + 1))))) (FP.dadd x3 (FP.ddiv FP.dconst1 (FP.i2d (((st 82 x5.toInt.toNat) - (st 81 x5.toInt.toNat)) + 1)))) (x5 + 1) st (by first | exact wy_b hinv h1 (by assumption) | exact wy_n hinv h1 (by assumption))) (fun v u hq => ?_)
        rw [lp_X7_mean_14, if_neg h1, if_pos h3]; exact hq
def F_X7_mean (st : xs_S) : Int64 × xs_S := lp_X7_mean_14 16 FP.dconst0 FP.dconst0 0 (F_X7_layOut st 0 (-6))
set_option maxRecDepth 20000 in
theorem c_X7_mean {G : xs_G} {base : Nat} (d : Nat) (st : xs_S) (hR : RowOK (st 73)) (hN : WN (F_X7_layOut st 0 (-6))) : xs_K G base (d + 2) M_X7_mean [.ref 72] st (fun v u => v = some (.long (F_X7_mean st).1) ∧ u = (F_X7_mean st).2) := by
  refine xs_intro ok_X7_mean [(0, .ref 72)] rfl rfl ?_
  refine xr_blk gd_X7_mean 3 (c' := (4, [(0, .ref 72)], [.int (-6), .int 0, .ref 72], st)) rfl ?_
  refine xr_callV gd_X7_mean gd_X7_layOut k_X7_99 rfl (c_X7_layOut (d + 0) st 0 (-6) (ro_D hR)) (by omega) rfl rfl rfl rfl rfl ?_
  refine xs_fun ?_
  refine xr_blk gd_X7_mean 6 (c' := (14, [(0, .ref 72), (1, .double FP.dconst0), (3, .double FP.dconst0), (5, .int 0)], [], (F_X7_layOut st 0 (-6)))) rfl ?_
  refine xs_cons (cl_X7_mean_14 d 16 FP.dconst0 FP.dconst0 0 (F_X7_layOut st 0 (-6)) (wy_e hN)) (fun v u hq => ?_)
  rw [F_X7_mean]; exact hq
def F_X7_share (st : xs_S) : Int32 × xs_S := (if ((F_X7_seek (F_X7_layOut st 0 (-6))).1) = 0 then ((F_f2ib ((F_X7_seek (F_X7_layOut st 0 (-6))).2) FP.fconst0), (F_X7_seek (F_X7_layOut st 0 (-6))).2)
    else ((F_f2ib ((F_X7_seek (F_X7_layOut st 0 (-6))).2) (FP.fdiv (FP.i2f (((F_X7_seek (F_X7_layOut st 0 (-6))).2) 72 14)) (FP.i2f (F_X7_size ((F_X7_seek (F_X7_layOut st 0 (-6))).2) (((F_X7_seek (F_X7_layOut st 0 (-6))).2) 72 11))))), (F_X7_seek (F_X7_layOut st 0 (-6))).2))
set_option maxRecDepth 20000 in
theorem c_X7_share {G : xs_G} {base : Nat} (d : Nat) (st : xs_S) (hR : RowOK (st 73)) (hz : ¬ (F_X7_seek (F_X7_layOut st 0 (-6))).1 = 0 → ¬ F_X7_size (F_X7_seek (F_X7_layOut st 0 (-6))).2 ((F_X7_seek (F_X7_layOut st 0 (-6))).2 72 11) = 0) : xs_K G base (d + 5) M_X7_share [.ref 72] st (fun v u => v = some (.int (F_X7_share st).1) ∧ u = (F_X7_share st).2) := by
  refine xs_intro ok_X7_share [(0, .ref 72)] rfl rfl ?_
  refine xr_blk gd_X7_share 3 (c' := (4, [(0, .ref 72)], [.int (-6), .int 0, .ref 72], st)) rfl ?_
  refine xr_callV gd_X7_share gd_X7_layOut k_X7_99 rfl (c_X7_layOut (d + 3) st 0 (-6) (ro_D hR)) (by omega) rfl rfl rfl rfl rfl ?_
  refine xs_fun ?_
  refine xr_blk gd_X7_share 1 (c' := (8, [(0, .ref 72)], [.ref 72], (F_X7_layOut st 0 (-6)))) rfl ?_
  refine xr_callV gd_X7_share gd_X7_seek k_X7_103 rfl (c_X7_seek (d + 0) (F_X7_layOut st 0 (-6)) (lay_LF hR (by decide))) (by omega) rfl rfl rfl rfl rfl ?_
  refine xs_fun ?_
  refine xr_blk gd_X7_share 2 (c' := (13, [(0, .ref 72), (1, .int ((F_X7_seek (F_X7_layOut st 0 (-6))).1))], [.int ((F_X7_seek (F_X7_layOut st 0 (-6))).1)], (F_X7_seek (F_X7_layOut st 0 (-6))).2)) rfl ?_
  refine xr_br gd_X7_share rfl rfl (fun h1 => ?_) (fun h1 => ?_)
  · refine xr_blk gd_X7_share 1 (c' := (34, [(0, .ref 72), (1, .int ((F_X7_seek (F_X7_layOut st 0 (-6))).1))], [.float FP.fconst0], (F_X7_seek (F_X7_layOut st 0 (-6))).2)) rfl ?_
    refine xr_callS gd_X7_share gd_Jxf58ca_floatToIntBits_5c35a k_X7_153 rfl (c_f2ib (d + 3) ((F_X7_seek (F_X7_layOut st 0 (-6))).2) FP.fconst0) (by omega) rfl rfl rfl ?_
    refine xs_fun ?_
    exact xr_iret gd_X7_share rfl rfl ⟨by first | (rw [F_X7_share, if_pos h1]; done) | (rw [F_X7_share, if_pos h1]; rfl), by first | (rw [F_X7_share, if_pos h1]; done) | (rw [F_X7_share, if_pos h1]; rfl)⟩
  · refine xr_blk gd_X7_share 5 (c' := (25, [(0, .ref 72), (1, .int ((F_X7_seek (F_X7_layOut st 0 (-6))).1))], [.int (((F_X7_seek (F_X7_layOut st 0 (-6))).2) 72 11), .float (FP.i2f (((F_X7_seek (F_X7_layOut st 0 (-6))).2) 72 14))], (F_X7_seek (F_X7_layOut st 0 (-6))).2)) rfl ?_
    refine xr_callS gd_X7_share gd_X7_size k_X7_150 rfl (c_X7_size (d + 4) ((F_X7_seek (F_X7_layOut st 0 (-6))).2) (((F_X7_seek (F_X7_layOut st 0 (-6))).2) 72 11)) (by omega) rfl rfl rfl ?_
    refine xs_fun ?_
    refine xr_blk gd_X7_share 1 (c' := (29, [(0, .ref 72), (1, .int ((F_X7_seek (F_X7_layOut st 0 (-6))).1))], [.float (FP.i2f (F_X7_size ((F_X7_seek (F_X7_layOut st 0 (-6))).2) (((F_X7_seek (F_X7_layOut st 0 (-6))).2) 72 11))), .float (FP.i2f (((F_X7_seek (F_X7_layOut st 0 (-6))).2) 72 14))], (F_X7_seek (F_X7_layOut st 0 (-6))).2)) rfl ?_
    refine xr_fdiv gd_X7_share.1 rfl (fs_nn (hz h1)) ?_
    refine xr_blk gd_X7_share 1 (c' := (34, [(0, .ref 72), (1, .int ((F_X7_seek (F_X7_layOut st 0 (-6))).1))], [.float (FP.fdiv (FP.i2f (((F_X7_seek (F_X7_layOut st 0 (-6))).2) 72 14)) (FP.i2f (F_X7_size ((F_X7_seek (F_X7_layOut st 0 (-6))).2) (((F_X7_seek (F_X7_layOut st 0 (-6))).2) 72 11))))], (F_X7_seek (F_X7_layOut st 0 (-6))).2)) rfl ?_
    refine xr_callS gd_X7_share gd_Jxf58ca_floatToIntBits_5c35a k_X7_153 rfl (c_f2ib (d + 3) ((F_X7_seek (F_X7_layOut st 0 (-6))).2) (FP.fdiv (FP.i2f (((F_X7_seek (F_X7_layOut st 0 (-6))).2) 72 14)) (FP.i2f (F_X7_size ((F_X7_seek (F_X7_layOut st 0 (-6))).2) (((F_X7_seek (F_X7_layOut st 0 (-6))).2) 72 11))))) (by omega) rfl rfl rfl ?_
    refine xs_fun ?_
    exact xr_iret gd_X7_share rfl rfl ⟨by first | (rw [F_X7_share, if_neg h1]; done) | (rw [F_X7_share, if_neg h1]; rfl), by first | (rw [F_X7_share, if_neg h1]; done) | (rw [F_X7_share, if_neg h1]; rfl)⟩
