/-! doubles: positive normal numbers, by their bits -/
def Bd (lo hi : Nat) (x : UInt64) : Prop := lo * 2 ^ 52 ≤ x.toNat ∧ x.toNat < hi * 2 ^ 52
theorem bd_mod {lo hi : Nat} {x : UInt64} (h : Bd lo hi x) (hh : hi ≤ 2047) : x.toNat % 2 ^ 63 = x.toNat := by
  have h2 := h.2
  exact Nat.mod_eq_of_lt (by omega)
theorem bd_w {lo hi lo' hi' : Nat} {x : UInt64} (h : Bd lo hi x) (h1 : lo' ≤ lo) (h2 : hi ≤ hi') : Bd lo' hi' x := by
  obtain ⟨a, b⟩ := h
  exact ⟨Nat.le_trans (Nat.mul_le_mul_right _ h1) a, Nat.lt_of_lt_of_le b (Nat.mul_le_mul_right _ h2)⟩
theorem bd_up {lo hi H : Nat} {x : UInt64} (h : Bd lo hi x) (k : hi ≤ H) : x.toNat < H * 2 ^ 52 := Nat.lt_of_lt_of_le h.2 (Nat.mul_le_mul_right _ k)
theorem bd_lt {lo hi : Nat} {x : UInt64} (h : Bd lo hi x) : lo < hi := Nat.lt_of_mul_lt_mul_right (Nat.lt_of_le_of_lt h.1 h.2)
theorem bd_et {lo hi : Nat} {x : UInt64} (h : Bd lo hi x) : ∃ E T : Nat, x.toNat = E * 2 ^ 52 + T ∧ T < 2 ^ 52 ∧ lo ≤ E ∧ E < hi := by
  obtain ⟨a, b⟩ := h
  exact ⟨x.toNat / 2 ^ 52, x.toNat % 2 ^ 52, by omega, by omega, by omega, by omega⟩
theorem bd_fin {lo hi : Nat} {x : UInt64} (h : Bd lo hi x) (hh : hi ≤ 2047) : FP.Core.DFin x := FP.Core.fin_of_lt (K := hi) (by rw [bd_mod h hh]; exact h.2) hh
theorem bd_nn {lo hi : Nat} {x : UInt64} (h : Bd lo hi x) (hh : hi ≤ 2047) : FP.Core.dIsNaN x = false := (bd_fin h hh).notNaN
theorem bd_nz {lo hi : Nat} {x : UInt64} (h : Bd lo hi x) (hh : hi ≤ 2047) (hl : 1 ≤ lo) : ¬ FP.Core.DZero x := by
  intro hz
  have h1 := (FP.Core.zero_bits2 x).mp hz
  rw [bd_mod h hh] at h1
  have h2 := h.1
  omega
theorem vf_of {r : UInt64} (h : FP.Core.dIsNaN r = false) : vf_n64 r := by
  unfold vf_n64
  rw [UInt64.le_iff_toNat_le, FP.Core.mask_toNat]
  have h1 : ¬ (9218868437227405312 < r.toNat % 2 ^ 63) := fun h2 => by
    rw [(FP.Core.isNaN_bits r).mpr h2] at h
    exact absurd h (by decide)
  show r.toNat % 2 ^ 63 ≤ 9218868437227405312
  omega
theorem b64_exps : FP.Core.b64.exps = 2048 := by decide
theorem b64_qmax : FP.Core.b64.qmax = 971 := by decide
theorem b64_p : FP.Core.b64.p = 53 := rfl
theorem val_n {x : UInt64} {E T : Nat} (hx : x.toNat = E * 2 ^ 52 + T) (hT : T < 2 ^ 52) (h1 : 1 ≤ E) (h2 : E ≤ 2046) : FP.Core.val64 x = .fin false (2 ^ 52 + T) ((E : Int) - 1075) := by
  have ha : FP.Core.assemble FP.Core.b64 false E T = x.toNat := by
    unfold FP.Core.assemble
    rw [b64_exps, FP.Core.tails_b64, hx]
    show (0 * 2048 + E) * 2 ^ 52 + T = E * 2 ^ 52 + T
    omega
  unfold FP.Core.val64
  rw [← ha, FP.Core.decode_assemble _ _ _ _ (by rw [b64_exps]; omega) (by rw [FP.Core.tails_b64]; exact hT), if_neg (by rw [b64_exps]; omega), if_neg (by omega), FP.Core.tails_b64, FP.Core.qmin_b64, show (-1074 : Int) + ((E : Int) - 1) = (E : Int) - 1075 by omega]
theorem fits_n {E T : Nat} (hT : T < 2 ^ 52) (h1 : 1 ≤ E) (h2 : E ≤ 2046) : FP.Core.fits FP.Core.b64 (.fin false (2 ^ 52 + T) ((E : Int) - 1075)) := by
  refine ⟨?_, ?_, ?_, .inr ?_⟩
  · rw [b64_p]
    omega
  · rw [FP.Core.qmin_b64]
    omega
  · rw [b64_qmax]
    omega
  · rw [FP.Core.tails_b64]
    omega
theorem val_two : FP.Core.val64 4611686018427387904 = .fin false (2 ^ 52) (-51) := by decide +kernel
theorem val_c52 : FP.Core.val64 4841369599423283200 = .fin false (2 ^ 52) 0 := by decide +kernel
theorem val_one : FP.Core.val64 FP.dconst1 = .fin false (2 ^ 52) (-52) := by decide +kernel
theorem of_val {x : UInt64} {E T : Nat} (h : FP.Core.val64 x = .fin false (2 ^ 52 + T) ((E : Int) - 1075)) (hT : T < 2 ^ 52) (h1 : 1 ≤ E) (h2 : E ≤ 2046) : x.toNat = E * 2 ^ 52 + T := by
  have hy : (UInt64.ofNat (E * 2 ^ 52 + T)).toNat = E * 2 ^ 52 + T := by
    rw [UInt64.toNat_ofNat']
    exact Nat.mod_eq_of_lt (by omega)
  have hv := val_n hy hT h1 h2
  have e : x = UInt64.ofNat (E * 2 ^ 52 + T) := FP.Core.val64_inj (by rw [h]; exact FP.Core.Datum.noConfusion) (by rw [h, hv])
  rw [e, hy]
theorem quo_n {s t : Bool} {c d : Nat} {q r : Int} (h : d ≠ 0) : FP.Core.quotient FP.Core.b64 (.fin s c q) (.fin t d r) = FP.Core.roundRatio FP.Core.b64 (s != t) c d (q - r) := by
  simp only [FP.Core.quotient, if_neg h]
theorem div_two {x : UInt64} {E T : Nat} (hx : x.toNat = E * 2 ^ 52 + T) (hT : T < 2 ^ 52) (h1 : 2 ≤ E) (h2 : E ≤ 2046) : (FP.ddiv x 4611686018427387904).toNat = (E - 1) * 2 ^ 52 + T := by
  refine of_val ?_ hT (by omega) (by omega)
  show FP.Core.val64 (FP.Core.ddiv x 4611686018427387904) = _
  rw [FP.Core.val64_ddiv, val_n hx hT (by omega) h2, val_two]
  rw [quo_n (by decide), show (false != false) = false from rfl]
  refine FP.Core.roundRatio_exact FP.Core.good_b64 (by decide) (fits_n hT (by omega) (by omega)) ?_
  rw [show ((E : Int) - 1075 - -51 - (((E - 1 : Nat) : Int) - 1075)).toNat = 52 by omega, show (((E - 1 : Nat) : Int) - 1075 - ((E : Int) - 1075 - -51)).toNat = 0 by omega, Nat.pow_zero, Nat.mul_one]
theorem mul_two {x : UInt64} {E T : Nat} (hx : x.toNat = E * 2 ^ 52 + T) (hT : T < 2 ^ 52) (h1 : 1 ≤ E) (h2 : E ≤ 2045) : (FP.dmul x 4611686018427387904).toNat = (E + 1) * 2 ^ 52 + T := by
  refine of_val ?_ hT (by omega) (by omega)
  show FP.Core.val64 (FP.Core.dmul x 4611686018427387904) = _
  rw [FP.Core.val64_dmul, val_n hx hT (by omega) (by omega), val_two]
  show FP.Core.roundRatio FP.Core.b64 false ((2 ^ 52 + T) * 2 ^ 52) 1 ((E : Int) - 1075 + -51) = _
  refine FP.Core.roundRatio_exact FP.Core.good_b64 (by decide) (fits_n hT (by omega) (by omega)) ?_
  rw [show ((E : Int) - 1075 + -51 - (((E + 1 : Nat) : Int) - 1075)).toNat = 0 by omega, show (((E + 1 : Nat) : Int) - 1075 - ((E : Int) - 1075 + -51)).toNat = 52 by omega, Nat.pow_zero, Nat.mul_one, Nat.mul_one]
/-- the fraction of a number from 1 to 2, made whole -/
theorem whole_52 {T c p : Nat} {q : Int} (h : c * 2 ^ p = T * 2 ^ 1022) (hq : q = (p : Int) - 1074) : FP.Core.Whole (T : Int) (.fin false (c * 2 ^ 52) (q + 0)) := by
  show FP.Core.signed false (c * 2 ^ 52 * 2 ^ (q + 0).toNat) = (T : Int) * ((2 ^ (-(q + 0)).toNat : Nat) : Int)
  unfold FP.Core.signed
  rw [if_neg (by decide)]
  have key : c * 2 ^ 52 * 2 ^ (q + 0).toNat = T * 2 ^ (-(q + 0)).toNat := by
    by_cases h0 : 1074 ≤ p
    · have e1 : (q + 0).toNat = p - 1074 := by omega
      have e2 : (-(q + 0)).toNat = 0 := by omega
      rw [e1, e2, Nat.pow_zero, Nat.mul_one]
      apply Nat.eq_of_mul_eq_mul_right (Nat.two_pow_pos 1022)
      rw [← h, Nat.mul_assoc, Nat.mul_assoc, ← Nat.pow_add, ← Nat.pow_add]
      congr 2
      omega
    · have e1 : (q + 0).toNat = 0 := by omega
      have e2 : (-(q + 0)).toNat = 1074 - p := by omega
      rw [e1, e2, Nat.pow_zero, Nat.mul_one]
      apply Nat.eq_of_mul_eq_mul_right (Nat.two_pow_pos p)
      rw [Nat.mul_right_comm, h, Nat.mul_assoc, Nat.mul_assoc, ← Nat.pow_add, ← Nat.pow_add]
      congr 2
      omega
  rw [key, Int.natCast_mul]
theorem frac_sub {x : UInt64} {T : Nat} (hx : x.toNat = 1023 * 2 ^ 52 + T) (hT : T < 2 ^ 52) : FP.Core.val64 (FP.dsub x FP.dconst1) = FP.Core.round FP.Core.b64 (.fin false T (-52)) := by
  show FP.Core.val64 (FP.Core.dsub x FP.dconst1) = _
  rw [FP.Core.val64_dsub, val_n hx hT (by omega) (by omega), val_one]
  have hv : FP.Core.sumUnits false (2 ^ 52 + T) (((1023 : Nat) : Int) - 1075) true (2 ^ 52) (-52) (min (((1023 : Nat) : Int) - 1075) (-52)) = (T : Int) := by
    have e : (((1023 : Nat) : Int) - 1075) = -52 := by decide
    rw [e]
    show (((2 ^ 52 + T) * 2 ^ 0 : Nat) : Int) + -(((2 ^ 52 * 2 ^ 0 : Nat)) : Int) = (T : Int)
    omega
  show FP.Core.round FP.Core.b64 (.fin (FP.Core.sumSign false true (FP.Core.sumUnits false (2 ^ 52 + T) (((1023 : Nat) : Int) - 1075) true (2 ^ 52) (-52) (min (((1023 : Nat) : Int) - 1075) (-52)))) (FP.Core.sumUnits false (2 ^ 52 + T) (((1023 : Nat) : Int) - 1075) true (2 ^ 52) (-52) (min (((1023 : Nat) : Int) - 1075) (-52))).natAbs (min (((1023 : Nat) : Int) - 1075) (-52))) = _
  rw [hv]
  have hs : FP.Core.sumSign false true (T : Int) = false := by
    unfold FP.Core.sumSign
    by_cases h0 : (T : Int) = 0
    · rw [if_pos h0]
      rfl
    · rw [if_neg h0]
      exact decide_eq_false (by omega)
  rw [hs, Int.natAbs_natCast]
  rfl
theorem frac_int {x : UInt64} {T : Nat} (hx : x.toNat = 1023 * 2 ^ 52 + T) (hT : T < 2 ^ 52) : FP.Core.DInt (T : Int) (FP.dmul (FP.dsub x FP.dconst1) 4841369599423283200) := by
  have hv := frac_sub hx hT
  obtain ⟨c, q, h1, h2⟩ := FP.Core.round_exact FP.Core.good_b64 false (c := T) (q := -52) (by rw [b64_p]; omega) (by rw [FP.Core.qmin_b64]; omega) (by rw [b64_qmax]; omega)
  have hf := FP.Core.round_fits FP.Core.good_b64 (.fin false T (-52))
  rw [h1] at hf hv
  have hq := hf.2.1
  rw [FP.Core.qmin_b64] at hq
  show FP.Core.Whole _ (FP.Core.val64 (FP.Core.dmul (FP.dsub x FP.dconst1) 4841369599423283200))
  rw [FP.Core.val64_dmul, hv, val_c52]
  refine FP.Core.whole_round FP.Core.good_b64 FP.Core.wide_b64 (by rw [Int.natAbs_natCast, b64_p]; omega) ?_
  show FP.Core.Whole _ (.fin false (c * 2 ^ 52) (q + 0))
  refine whole_52 (p := (q + 1074).toNat) ?_ (by omega)
  unfold FP.Core.inUnits at h2
  rw [FP.Core.qmin_b64, show (q - -1074).toNat = (q + 1074).toNat by omega, show ((-52 : Int) - -1074).toNat = 1022 by decide] at h2
  exact h2
theorem i64_n {T : Nat} (h : T < 2 ^ 62) : (Int64.ofNat T).toInt = (T : Int) := by
  have hs : Int64.size = 18446744073709551616 := rfl
  rw [Int64.toInt_ofNat', hs]
  exact Int.bmod_eq_of_le (by omega) (by omega)
theorem frac_d2l {x : UInt64} {T : Nat} (hx : x.toNat = 1023 * 2 ^ 52 + T) (hT : T < 2 ^ 52) : FP.d2l (FP.dmul (FP.dsub x FP.dconst1) 4841369599423283200) = Int64.ofNat T := by
  have h := frac_int hx hT
  exact FP.Core.d2l_int (a := Int64.ofNat T) (by rw [i64_n (by omega)]; exact h)
theorem frac_nn {x : UInt64} {lo hi : Nat} (h : Bd lo hi x) (hh : hi ≤ 2045) : FP.Core.dIsNaN (FP.dsub x FP.dconst1) = false ∧ FP.Core.dIsNaN (FP.dmul (FP.dsub x FP.dconst1) 4841369599423283200) = false := by
  have f1 := bd_fin h (by omega)
  have fo : FP.Core.DFin FP.dconst1 := ⟨_, _, _, val_one⟩
  have hm : (FP.Core.dsub x FP.dconst1).toNat % 2 ^ 63 < (2045 + 2) * 2 ^ 52 := FP.Core.dsub_mag (K := 2045) (by rw [bd_mod h (by omega)]; exact bd_up h hh) (by decide +kernel) (by omega)
  have f2 : FP.Core.DFin (FP.Core.dsub x FP.dconst1) := FP.Core.fin_of_lt (K := 2047) hm (by omega)
  exact ⟨f2.notNaN, FP.Core.dmul_out f2 ⟨_, _, _, val_c52⟩⟩
/-! comparing, by bits -/
theorem dc_n {x y : UInt64} (hx : x.toNat < 2047 * 2 ^ 52) (hy : y.toNat < 2047 * 2 ^ 52) : FP.dcmp x y = some (compare (x.toNat : Int) (y.toNat : Int)) := by
  show FP.Core.dcmp x y = _
  rw [FP.Core.dcmp_key ((FP.Core.ne_nan x).mpr (by omega)) ((FP.Core.ne_nan y).mpr (by omega))]
  unfold FP.Core.dkey
  rw [if_neg (by omega), if_neg (by omega)]
theorem dc_v {x y : UInt64} {o : CmpOp} (hx : x.toNat < 2047 * 2 ^ 52) (hy : y.toNat < 2047 * 2 ^ 52) : Op.cmpValue (FP.dcmp x y) o = if x.toNat < y.toNat then -1 else if x.toNat = y.toNat then 0 else 1 := by
  rw [dc_n hx hy]
  by_cases h1 : x.toNat < y.toNat
  · rw [if_pos h1, (FP.Core.compare_lt_iff _ _).mpr (by omega)]
    rfl
  · rw [if_neg h1]
    by_cases h2 : x.toNat = y.toNat
    · rw [if_pos h2, (FP.Core.compare_eq_iff _ _).mpr (by omega)]
      rfl
    · rw [if_neg h2, (FP.Core.compare_gt_iff _ _).mpr (by omega)]
      rfl
/-! sizes of results -/
theorem zm_lo {lo hi : Nat} {x : UInt64} (h : Bd lo hi x) (hh : hi ≤ 2047) (hl : 1 ≤ lo) : 2 ^ 52 * 2 ^ (lo - 1) ≤ FP.Core.zmag FP.Core.b64 (FP.Core.val64 x) := by
  rw [FP.Core.zmag_bits (bd_fin h hh).ne_nan, bd_mod h hh, ← FP.Core.tails_b64, ← FP.Core.unitsOf_start hl]
  exact FP.Core.unitsOf_le_iff.mpr (by rw [FP.Core.tails_b64]; exact h.1)
theorem zm_hi {lo hi : Nat} {x : UInt64} (h : Bd lo hi x) (hh : hi ≤ 2047) (hl : 1 ≤ hi) : FP.Core.zmag FP.Core.b64 (FP.Core.val64 x) ≤ 2 ^ 52 * 2 ^ (hi - 1) := by
  rw [FP.Core.zmag_bits (bd_fin h hh).ne_nan, bd_mod h hh, ← FP.Core.tails_b64, ← FP.Core.unitsOf_start hl]
  exact FP.Core.unitsOf_le_iff.mpr (by rw [FP.Core.tails_b64]; exact Nat.le_of_lt h.2)
theorem bd_v {lo hi : Nat} {x : UInt64} (h : Bd lo hi x) (hh : hi ≤ 2047) : ∃ (c : Nat) (q : Int), FP.Core.val64 x = .fin false c q ∧ FP.Core.fits FP.Core.b64 (.fin false c q) := by
  obtain ⟨s, c, q, hv⟩ := bd_fin h hh
  have hs := FP.Core.sgn_bits (a := x) (by rw [hv]; exact FP.Core.Datum.noConfusion)
  rw [hv] at hs
  have h2 := h.2
  have h3 : decide (2 ^ 63 ≤ x.toNat) = false := decide_eq_false (by omega)
  have h4 : s = false := by
    rw [h3] at hs
    exact hs
  subst h4
  exact ⟨c, q, hv, by rw [← hv]; exact FP.Core.val64_fits x⟩
/-- a result that is a rounded positive number stands below the sign -/
theorem pos_of {r : UInt64} {A B : Nat} {e : Int} (h : FP.Core.val64 r = FP.Core.roundRatio FP.Core.b64 false A B e) : r.toNat < 2 ^ 63 := by
  have hs := FP.Core.sgn_bits (a := r) (by rw [h]; exact FP.Core.roundRatio_ne_nan _ _ _ _ _)
  rw [h, FP.Core.sgn_roundRatio] at hs
  have h2 := of_decide_eq_false hs.symm
  omega
theorem bd_mul {la ha lb hb : Nat} {a b : UInt64} (h1 : Bd la ha a) (h2 : Bd lb hb b) (l1 : 1 ≤ la) (l2 : 1 ≤ lb) (l3 : 1024 ≤ la + lb) (k1 : ha ≤ 1500) (k2 : hb ≤ 1500) (k3 : 1025 ≤ ha + hb) : Bd (la + lb - 1023) (ha + hb - 1022) (FP.dmul a b) := by
  obtain ⟨c, q, v1, f1⟩ := bd_v h1 (by omega)
  obtain ⟨d, r, v2, f2⟩ := bd_v h2 (by omega)
  have z1 := zm_lo h1 (by omega) l1
  have z2 := zm_lo h2 (by omega) l2
  rw [v1] at z1
  rw [v2] at z2
  obtain ⟨p1, p2, p3⟩ := FP.Core.product_units f1 f2
  have hv : FP.Core.val64 (FP.Core.dmul a b) = FP.Core.roundRatio FP.Core.b64 false (c * d) 1 (q + r) := by
    rw [FP.Core.val64_dmul, v1, v2]
    rfl
  have hp := pos_of hv
  have hu : (FP.Core.dmul a b).toNat % 2 ^ 63 < (ha + hb - 1025 + 3) * 2 ^ 52 := FP.Core.dmul_mag (Ka := ha) (Kb := hb) (by rw [bd_mod h1 (by omega)]; exact h1.2) (by rw [bd_mod h2 (by omega)]; exact h2.2) (by omega) (by omega)
  have hg := FP.Core.mag_ge FP.Core.good_b64 (n := (FP.Core.dmul a b).toNat) (m := (la + lb - 1023) * FP.Core.b64.tails) hv (by decide) (e0 := 2 * FP.Core.b64.qmin) (by rw [FP.Core.qmin_b64]; omega) p2 (by
    rw [FP.Core.infBits_b64, FP.Core.tails_b64]
    have g1 := bd_lt h1
    have g2 := bd_lt h2
    exact Nat.le_trans (Nat.mul_le_mul_right _ (show la + lb - 1023 ≤ 2047 by omega)) (by decide)) (by
    rw [p3, FP.Core.unitsOf_start (by omega), Nat.mul_one, FP.Core.qmin_b64, show ((-1074 : Int) - 2 * -1074).toNat = 1074 by decide, FP.Core.tails_b64]
    refine Nat.le_trans ?_ (Nat.mul_le_mul z1 z2)
    rw [show 2 ^ 52 * 2 ^ (la - 1) * (2 ^ 52 * 2 ^ (lb - 1)) = 2 ^ (52 + (la - 1) + (52 + (lb - 1))) by rw [Nat.pow_add, Nat.pow_add, Nat.pow_add], show 2 ^ 52 * 2 ^ (la + lb - 1023 - 1) * 2 ^ 1074 = 2 ^ (52 + (la + lb - 1023 - 1) + 1074) by rw [Nat.pow_add, Nat.pow_add]]
    exact Nat.pow_le_pow_right (by decide) (by omega))
  rw [FP.Core.mag_toNat64, FP.Core.tails_b64, Nat.mod_eq_of_lt hp] at hg
  rw [Nat.mod_eq_of_lt hp] at hu
  have e : ha + hb - 1025 + 3 = ha + hb - 1022 := by omega
  rw [e] at hu
  exact ⟨hg, hu⟩
theorem bd_div {la ha lb hb : Nat} {a b : UInt64} (h1 : Bd la ha a) (h2 : Bd lb hb b) (l1 : 1 ≤ la) (l2 : 1 ≤ lb) (l3 : hb + 1 ≤ la + 1023) (k1 : ha ≤ 1500) (k2 : hb ≤ 1500) (k3 : 500 ≤ lb) : Bd (la + 1023 - hb) (ha + 1024 - lb) (FP.ddiv a b) := by
  obtain ⟨c, q, v1, f1⟩ := bd_v h1 (by omega)
  obtain ⟨d, r, v2, f2⟩ := bd_v h2 (by omega)
  have z1 := zm_lo h1 (by omega) l1
  have y1 := zm_lo h2 (by omega) l2
  have hab := bd_lt h2
  have haa := bd_lt h1
  have z2 := zm_hi h2 (by omega) (by omega)
  rw [v1] at z1
  rw [v2] at z2 y1
  have hd0 : d ≠ 0 := by
    intro h0
    have h3 : FP.Core.zmag FP.Core.b64 (.fin false d r) = 0 := by
      rw [h0]
      exact Nat.zero_mul _
    have h4 := Nat.mul_pos (show 0 < 2 ^ 52 by decide) (Nat.two_pow_pos (lb - 1))
    omega
  have hv : FP.Core.val64 (FP.Core.ddiv a b) = FP.Core.roundRatio FP.Core.b64 false c d (q - r) := by
    rw [FP.Core.val64_ddiv, v1, v2]
    rw [quo_n hd0]
    rfl
  have hp := pos_of hv
  have hu : (FP.Core.ddiv a b).toNat % 2 ^ 63 < (ha + (1074 - 52 - 1) - lb + 3) * 2 ^ 52 := FP.Core.ddiv_mag (K := ha) (L := lb) (by rw [bd_mod h1 (by omega)]; exact h1.2) (by rw [bd_mod h2 (by omega)]; exact h2.1) (by rw [bd_mod h2 (by omega)]; exact bd_up h2 (by omega)) (by omega) l2
  have fq := f1.2.1
  have fr := f2.2.1
  have hg := FP.Core.mag_ge FP.Core.good_b64 (n := (FP.Core.ddiv a b).toNat) (m := (la + 1023 - hb) * FP.Core.b64.tails) hv (by omega) (e0 := 2 * FP.Core.b64.qmin - r) (by rw [FP.Core.qmin_b64] at *; omega) (by rw [FP.Core.qmin_b64] at *; omega) (by
    rw [FP.Core.infBits_b64, FP.Core.tails_b64]
    exact Nat.le_trans (Nat.mul_le_mul_right _ (show la + 1023 - hb ≤ 2047 by omega)) (by decide)) (by
    rw [FP.Core.unitsOf_start (by omega), Nat.mul_assoc]
    have e1 : FP.Core.inUnits c (q - r) (2 * FP.Core.b64.qmin - r) = FP.Core.zmag FP.Core.b64 (.fin false c q) * 2 ^ 1074 := by
      show c * _ = c * _ * _
      rw [Nat.mul_assoc, ← Nat.pow_add]
      congr 2
      rw [FP.Core.qmin_b64] at *
      omega
    have e2 : 2 ^ (FP.Core.b64.qmin - (2 * FP.Core.b64.qmin - r)).toNat * d = FP.Core.zmag FP.Core.b64 (.fin false d r) := by
      show _ = d * _
      rw [Nat.mul_comm]
      congr 2
      rw [FP.Core.qmin_b64] at *
      omega
    rw [e1, e2, FP.Core.tails_b64]
    refine Nat.le_trans (Nat.mul_le_mul_left _ z2) (Nat.le_trans ?_ (Nat.mul_le_mul_right _ z1))
    rw [show 2 ^ 52 * 2 ^ (la + 1023 - hb - 1) * (2 ^ 52 * 2 ^ (hb - 1)) = 2 ^ (52 + (la + 1023 - hb - 1) + (52 + (hb - 1))) by rw [Nat.pow_add, Nat.pow_add, Nat.pow_add], show 2 ^ 52 * 2 ^ (la - 1) * 2 ^ 1074 = 2 ^ (52 + (la - 1) + 1074) by rw [Nat.pow_add, Nat.pow_add]]
    exact Nat.pow_le_pow_right (by decide) (by omega))
  rw [FP.Core.mag_toNat64, FP.Core.tails_b64, Nat.mod_eq_of_lt hp] at hg
  rw [Nat.mod_eq_of_lt hp] at hu
  have e : ha + (1074 - 52 - 1) - lb + 3 = ha + 1024 - lb := by omega
  rw [e] at hu
  exact ⟨hg, hu⟩
theorem bd_add {la ha lb hb H : Nat} {a b : UInt64} (h1 : Bd la ha a) (h2 : Bd lb hb b) (l1 : 1 ≤ la) (k1 : ha ≤ H) (k2 : hb ≤ H) (k3 : H ≤ 2044) : Bd la (H + 2) (FP.dadd a b) := by
  obtain ⟨c, q, v1, f1⟩ := bd_v h1 (by omega)
  obtain ⟨d, r, v2, f2⟩ := bd_v h2 (by omega)
  have z1 := zm_lo h1 (by omega) l1
  rw [v1] at z1
  obtain ⟨sg, n, e, p1, p2, p3⟩ := FP.Core.sum_units f1 f2
  have p4 : FP.Core.signed sg (FP.Core.inUnits n e FP.Core.b64.qmin) = ((FP.Core.zmag FP.Core.b64 (.fin false c q) + FP.Core.zmag FP.Core.b64 (.fin false d r) : Nat) : Int) := by
    rw [p3, Int.natCast_add]
    rfl
  have hz : 0 < FP.Core.zmag FP.Core.b64 (.fin false c q) := Nat.lt_of_lt_of_le (Nat.mul_pos (by decide) (Nat.two_pow_pos _)) z1
  have hsg := FP.Core.signed_pos (s := sg) (m := FP.Core.inUnits n e FP.Core.b64.qmin) (by rw [p4]; omega)
  have hsf : sg = false := by
    cases sg with
    | false => rfl
    | true =>
      exfalso
      have h3 := hsg.1
      have h4 := hsg.2
      unfold FP.Core.signed at h3
      rw [if_pos rfl] at h3
      omega
  subst hsf
  have p5 : FP.Core.inUnits n e FP.Core.b64.qmin = FP.Core.zmag FP.Core.b64 (.fin false c q) + FP.Core.zmag FP.Core.b64 (.fin false d r) := by
    rw [hsg.1] at p4
    exact_mod_cast p4
  have hv : FP.Core.val64 (FP.Core.dadd a b) = FP.Core.roundRatio FP.Core.b64 false n 1 e := by
    rw [FP.Core.val64_dadd, v1, v2, p1]
    rfl
  have hp := pos_of hv
  have hu : (FP.Core.dadd a b).toNat % 2 ^ 63 < (H + 2) * 2 ^ 52 := FP.Core.dadd_mag (K := H) (by rw [bd_mod h1 (by omega)]; exact bd_up h1 k1) (by rw [bd_mod h2 (by omega)]; exact bd_up h2 k2) (by omega)
  have hg := FP.Core.mag_ge FP.Core.good_b64 (n := (FP.Core.dadd a b).toNat) (m := la * FP.Core.b64.tails) hv (by decide) (e0 := FP.Core.b64.qmin) (by omega) p2 (by
    rw [FP.Core.infBits_b64, FP.Core.tails_b64]
    have g1 := bd_lt h1
    exact Nat.le_trans (Nat.mul_le_mul_right _ (show la ≤ 2047 by omega)) (by decide)) (by
    rw [p5, FP.Core.unitsOf_start l1, Nat.mul_one, Int.sub_self, Int.toNat_zero, Nat.pow_zero, Nat.mul_one, FP.Core.tails_b64]
    omega)
  rw [FP.Core.mag_toNat64, FP.Core.tails_b64, Nat.mod_eq_of_lt hp] at hg
  rw [Nat.mod_eq_of_lt hp] at hu
  exact ⟨hg, hu⟩
theorem bd_i2d {v : Int32} (h : 0 < v.toInt) : Bd 1023 1056 (FP.i2d v) := by
  have hb := FP.Core.i2d_big (v := v) (by omega)
  have hm := FP.Core.i2d_mag v
  have hv : FP.Core.val64 (FP.Core.i2d v) = FP.Core.roundRatio FP.Core.b64 false v.toInt.natAbs 1 0 := by
    rw [FP.Core.val64_i2d]
    show FP.Core.roundRatio FP.Core.b64 (decide (v.toInt < 0)) v.toInt.natAbs 1 0 = _
    rw [decide_eq_false (by omega)]
  have hp := pos_of hv
  rw [Nat.mod_eq_of_lt hp] at hb hm
  exact ⟨hb.1, hm⟩
