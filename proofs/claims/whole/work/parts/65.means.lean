/-! the bits that the halving and doubling tell are the number's own -/
theorem i64_sh : ∀ e, e < 2048 → (Int64.ofNat e <<< ((52 : Int32).toInt64 &&& 63)) = Int64.ofNat (e * 2 ^ 52) := by decide +kernel
theorem i64_of {x : Int64} (h : 0 ≤ x.toInt ∧ x.toInt < 2048) : ∃ e : Nat, e < 2048 ∧ x = Int64.ofNat e ∧ x.toInt = (e : Int) := by
  refine ⟨x.toInt.toNat, by omega, ?_, by omega⟩
  apply Int64.toInt_inj.mp
  rw [i64_n (by omega)]
  omega
theorem u64_i {x : UInt64} : x.toInt64 = Int64.ofNat x.toNat := by
  apply Int64.toBitVec_inj.mp
  rw [Int64.toBitVec_ofNat', UInt64.toBitVec_toInt64]
  apply BitVec.eq_of_toNat_eq
  rw [BitVec.toNat_ofNat]
  exact (Nat.mod_eq_of_lt x.toNat_lt).symm
theorem end_v {x2 : UInt64} {x4 : Int64} {X : Nat} (h1 : 1023 * 2 ^ 52 ≤ x2.toNat) (h2 : x2.toNat < 1024 * 2 ^ 52) (h4 : 1 ≤ x4.toInt ∧ x4.toInt ≤ 2046) (hX : (x2.toNat : Int) + (x4.toInt - 1023) * 2 ^ 52 = (X : Int)) : ((x4 <<< ((52 : Int32).toInt64 &&& 63)) + (FP.d2l (FP.dmul (FP.dsub x2 FP.dconst1) 4841369599423283200))) = Int64.ofNat X := by
  have hx : x2.toNat = 1023 * 2 ^ 52 + (x2.toNat - 1023 * 2 ^ 52) := by omega
  obtain ⟨e, he, ee, ei⟩ := i64_of (x := x4) ⟨by omega, by omega⟩
  rw [ei] at hX
  rw [frac_d2l hx (by omega), ee, i64_sh e he, ← Int64.ofNat_add]
  have hE : e * 2 ^ 52 + (x2.toNat - 1023 * 2 ^ 52) = X := by omega
  rw [hE]
theorem od47 {st : xs_S} {v : UInt64} {X : Nat} (hX1 : 2 ^ 52 ≤ X) : ∀ (n : Nat) (x2 : UInt64) (x4 : Int64), OE x2 x4 n → x2.toNat < 1024 * 2 ^ 52 → (x2.toNat : Int) + (x4.toInt - 1023) * 2 ^ 52 = (X : Int) → lp_X0_ofDouble_47 st v n x2 x4 = Int64.ofNat X := by
  intro n
  induction n with
  | zero => intro x2 x4 h; exact (oe_0 h).elim
  | succ n ih =>
    intro x2 x4 h h2 hX
    rw [lp_X0_ofDouble_47]
    by_cases c1 : 0 ≤ Op.cmpValue (FP.dcmp x2 FP.dconst1) .g
    · rw [if_pos c1]
      exact end_v ((cm_1 h.1).mp c1) h2 ⟨h.2.1, h.2.2.1⟩ hX
    · rw [if_neg c1]
      have c1' : ¬ 1023 * 2 ^ 52 ≤ x2.toNat := fun q => c1 ((cm_1 h.1).mpr q)
      by_cases c2 : lg_cmp x4 (Int64.ofNat 1) ≤ 0
      · exfalso
        have c3 := lgc_le.mp c2
        have c4 : (Int64.ofNat 1).toInt = 1 := rfl
        have h4 := h.2.1
        have h5 : x4.toInt = 1 := by omega
        rw [h5] at hX
        exact c1' (by omega)
      · rw [if_neg c2]
        obtain ⟨b1, b2⟩ := bd_twice h.1 c1'
        have e := i64_sub1 (x := x4) ⟨by have := h.2.1; omega, by have := h.2.2.1; omega⟩
        refine ih _ _ (oe_b h c1 c2) ?_ ?_
        · rw [b2]
          omega
        · rw [b2, e]
          omega
theorem od15 {st : xs_S} {v : UInt64} {X : Nat} (hX1 : 2 ^ 52 ≤ X) (hX2 : X < 2040 * 2 ^ 52) : ∀ (n : Nat) (x2 : UInt64) (x4 : Int64), OD x2 x4 n → (x2.toNat : Int) + (x4.toInt - 1023) * 2 ^ 52 = (X : Int) → lp_X0_ofDouble_15 st v n x2 x4 = Int64.ofNat X := by
  intro n
  induction n with
  | zero => intro x2 x4 h; exact (od_0 h).elim
  | succ n ih =>
    intro x2 x4 h hX
    rw [lp_X0_ofDouble_15]
    by_cases c1 : Op.cmpValue (FP.dcmp x2 4611686018427387904) .l < 0
    · rw [if_pos c1]
      exact od47 hX1 2046 x2 x4 (oe_e h) ((cm_2 h.1).mp c1) hX
    · rw [if_neg c1]
      have c1' : ¬ x2.toNat < 1024 * 2 ^ 52 := fun q => c1 ((cm_2 h.1).mpr q)
      by_cases c2 : 0 ≤ lg_cmp x4 2046
      · exfalso
        have c3 := lgc_ge.mp c2
        rw [c2046] at c3
        have h4 := h.2.2.1
        have h5 : x4.toInt = 2046 := by omega
        rw [h5] at hX
        exact c1' (by omega)
      · rw [if_neg c2]
        obtain ⟨b1, b2⟩ := bd_half h.1 c1'
        have e := i64_add1 (x := x4) ⟨by have := h.2.1; omega, by have := h.2.2.1; omega⟩
        refine ih _ _ (od_b h c1 c2) ?_
        rw [e]
        omega
theorem ofd_v {st : xs_S} {x : UInt64} (h : Nb 1 2040 x) : F_X0_ofDouble st x = x.toInt64 := by
  unfold F_X0_ofDouble
  rcases h with h | h
  · rw [h, if_neg (by decide +kernel)]
    rfl
  · have hp : 0 < Op.cmpValue (FP.dcmp x FP.dconst0) .g := by
      rw [cm_0 (Or.inr h) (by decide) (by decide)]
      have hx : ¬ x = 0 := by
        intro e
        have h1 := h.1
        rw [e] at h1
        exact absurd h1 (by decide)
      rw [if_neg hx]
      decide
    rw [if_pos hp, u64_i]
    exact od15 (X := x.toNat) (by have := h.1; omega) h.2 1024 x 1023 (od_e (Or.inr h) hp) (by rw [show (1023 : Int64).toInt = 1023 from rfl]; omega)
theorem d2lb_v {st : xs_S} {x : UInt64} (h : FP.Core.dIsNaN x = false) : F_d2lb st x = x.toInt64 := by
  have e : F_dnan st x = 0 := by
    unfold F_dnan
    have h1 : FP.dcmp x x = some .eq := FP.Core.dcmp_self ((FP.Core.notNaN_iff x).mp h)
    rw [h1, if_pos (show Op.cmpValue (some Ordering.eq) .l = 0 from rfl)]
  unfold F_d2lb
  rw [if_pos e]
/-! the sums, over the dials -/
def lI (lo : Nat → Int) (k : Nat) : Int32 := Int32.ofInt (lo k)
def aw (lo hi : Nat → Int) (k : Nat) : UInt64 := FP.ddiv FP.dconst1 (FP.i2d (lI hi k - lI lo k + 1))
def am (lo hi : Nat → Int) (k : Nat) : UInt64 := FP.dmul (FP.ddiv (FP.i2d (lI lo k + lI hi k)) 4611686018427387904) (aw lo hi k)
def ac (P : Nat → Bool) (lo hi : Nat → Int) : Nat → UInt64 × UInt64
  | 0 => (FP.dconst0, FP.dconst0)
  | k + 1 => if P k = true then (FP.dadd (ac P lo hi k).1 (am lo hi k), FP.dadd (ac P lo hi k).2 (aw lo hi k)) else ac P lo hi k
theorem ac_up {P : Nat → Bool} {lo hi : Nat → Int} {k : Nat} (h : P k = true) : ac P lo hi (k + 1) = (FP.dadd (ac P lo hi k).1 (am lo hi k), FP.dadd (ac P lo hi k).2 (aw lo hi k)) := by
  rw [ac, if_pos h]
theorem ac_no {P : Nat → Bool} {lo hi : Nat → Int} {k : Nat} (h : P k = false) : ac P lo hi (k + 1) = ac P lo hi k := by
  rw [ac, if_neg (by rw [h]; decide)]
theorem lI_of {x : Int32} {lo : Nat → Int} {k : Nat} (h : x.toInt = lo k) : x = lI lo k := by
  unfold lI
  rw [← h, Int32.ofInt_toInt]
theorem i32_o {a : Int} (h : -1000000 ≤ a ∧ a ≤ 1000000) : (Int32.ofInt a).toInt = a := by
  have hs : Int32.size = 4294967296 := rfl
  rw [Int32.toInt_ofInt, hs]
  exact Int.bmod_eq_of_le (by omega) (by omega)
/-- sizes of the spans: middles not below 0 -/
def SP (P : Nat → Bool) (lo hi : Nat → Int) : Prop := ∀ k : Nat, k < 15 → P k = true → 0 ≤ (lI lo k + lI hi k).toInt ∧ 0 < (lI hi k - lI lo k + 1).toInt
theorem sp_row {f : Nat → Int32} {P : Nat → Bool} (hR : RowOK f) : SP P (rLo f 0) (rHi f 0) := by
  intro k hk hp
  have hb := row_b (later := 0) hR ⟨by decide, by decide⟩ hk
  have hs : 0 ≤ rLo f 0 k + rHi f 0 k := by
    obtain ⟨⟨-, -, hn, -⟩, hrow⟩ := hR
    obtain ⟨-, h7, h8, h9, -⟩ := hrow k hk
    unfold rLo rHi
    have ha : 0 ≤ rAge f 0 k := by
      unfold rAge
      omega
    generalize rWide f 0 k = z
    omega
  unfold lI
  have e1 := i32_o (a := rLo f 0 k) (by omega)
  have e2 := i32_o (a := rHi f 0 k) (by omega)
  have e3 : (Int32.ofInt (rHi f 0 k) - Int32.ofInt (rLo f 0 k)).toInt = rHi f 0 k - rLo f 0 k := by
    rw [xi_sub (by omega), e1, e2]
  refine ⟨?_, ?_⟩
  · rw [xi_add (by omega), e1, e2]
    exact hs
  · rw [xi_inc (by omega), e3]
    omega
theorem ac_nb {P : Nat → Bool} {lo hi : Nat → Int} (hS : SP P lo hi) : ∀ k : Nat, k ≤ 15 → Nb 900 (1100 + 2 * k) (ac P lo hi k).1 ∧ Nb 900 (1100 + 2 * k) (ac P lo hi k).2 ∧ ((ac P lo hi k).2 = 0 → ∀ j : Nat, j < k → P j = false) ∧ ((∀ j : Nat, j < k → P j = false) → ac P lo hi k = (FP.dconst0, FP.dconst0)) := by
  intro k
  induction k with
  | zero => intro _; exact ⟨Or.inl rfl, Or.inl rfl, fun _ j hj => by omega, fun _ => rfl⟩
  | succ k ih =>
    intro hk
    obtain ⟨g1, g2, g3, g4⟩ := ih (by omega)
    by_cases hp : P k = true
    · obtain ⟨s1, s2⟩ := hS k (by omega) hp
      have hs := sum_b (k := k) (by omega) s1 s2 g1 g2
      rw [ac_up hp]
      refine ⟨hs.1, Or.inr hs.2, fun h0 => ?_, fun hf => ?_⟩
      · have h3 := hs.2.1
        have h4 : FP.dadd (ac P lo hi k).2 (FP.ddiv FP.dconst1 (FP.i2d (lI hi k - lI lo k + 1))) = 0 := h0
        rw [h4] at h3
        exact absurd h3 (by decide)
      · have h5 := hf k (by omega)
        rw [hp] at h5
        exact absurd h5 (by decide)
    · have hp' : P k = false := by simpa using hp
      rw [ac_no hp']
      refine ⟨nb_w g1 (Nat.le_refl _) (by omega), nb_w g2 (Nat.le_refl _) (by omega), fun h0 j hj => ?_, fun hf => g4 (fun j hj => hf j (by omega))⟩
      by_cases hjk : j = k
      · rw [hjk]
        exact hp'
      · exact g3 h0 j (by omega)
theorem g_wm {u : xs_S} {P : Nat → Bool} {lo hi : Nat → Int} (h : GA u P lo hi) : F_X5_weightedMean u = if Op.cmpValue (FP.dcmp (ac P lo hi 15).2 FP.dconst0) .l ≤ 0 then FP.dconst0 else FP.ddiv (ac P lo hi 15).1 (ac P lo hi 15).2 := by
  obtain ⟨a', e, hI⟩ := gfold0 (P := P) (a0 := ((FP.dconst0, FP.dconst0) : UInt64 × UInt64)) (fun n a x => lp_X5_weightedMean_7 u n a.1 a.2 x) (fun a => if Op.cmpValue (FP.dcmp a.2 FP.dconst0) .l ≤ 0 then FP.dconst0 else FP.ddiv a.1 a.2) (fun a k => (FP.dadd a.1 (am lo hi k), FP.dadd a.2 (aw lo hi k))) (fun k a => a = ac P lo hi k) rfl
    (fun n a => by
      rw [lp_X5_weightedMean_7, if_pos (g_ge h)])
    (fun n a k hk hp hc => by
      rw [lp_X5_weightedMean_7, if_neg (g_lt h hk hc), g_tn (by omega), nI_1, lI_of (h.2 k hk hp).1, lI_of (h.2 k hk hp).2.1]
      rfl)
    (fun a k hk hp hI => by rw [ac_up hp, hI])
    (fun a k hk hp hI => by rw [ac_no hp, hI])
  unfold F_X5_weightedMean
  rw [← hI]
  exact e
theorem m_wm {w : xs_S} {P : Nat → Bool} {lo hi : Nat → Int} (hM : MA w P lo hi) : ∀ (n k : Nat), k + n = 16 → k ≤ 15 → lp_X7_mean_14 n (ac P lo hi k).1 (ac P lo hi k).2 (nI k) w = (if w 72 11 = 0 then (F_d2lb w FP.dconst0, w) else (F_d2lb w (FP.ddiv (ac P lo hi 15).1 (ac P lo hi 15).2), w)) := by
  intro n
  induction n with
  | zero => intro k h1 h2; omega
  | succ n ih =>
    intro k h1 h2
    rw [lp_X7_mean_14]
    by_cases hk : k = 15
    · subst hk
      rw [if_pos (by rw [i15]; exact nI_le (Nat.le_refl _) (by decide))]
    · have hk15 : k < 15 := by omega
      rw [if_neg (by rw [i15, nI_leI (by decide) (by omega)]; omega), nI_1]
      have hih := ih (k + 1) (by omega) (by omega)
      by_cases hp : P k = true
      · have e1 := lI_of ((hM k hk15).2 hp).1
        have e2 := lI_of ((hM k hk15).2 hp).2
        rw [if_pos ((MA_bit hM hk15).mpr hp), nI_tn (by omega), e1, e2]
        rw [ac_up hp] at hih
        exact hih
      · rw [if_neg (fun q => hp ((MA_bit hM hk15).mp q))]
        rw [ac_no (by simpa using hp)] at hih
        exact hih
theorem cn_exk {P : Nat → Bool} : ∀ (m j : Nat), j < cn P m → ∃ k : Nat, k < m ∧ P k = true ∧ cn P k = j := by
  intro m
  induction m with
  | zero => intro j hj; exact absurd hj (Nat.not_lt_zero _)
  | succ m ih =>
    intro j hj
    by_cases hp : P m = true
    · rw [cn_up hp] at hj
      by_cases hjm : j = cn P m
      · exact ⟨m, by omega, hp, hjm.symm⟩
      · obtain ⟨k, h1, h2, h3⟩ := ih j (by omega)
        exact ⟨k, by omega, h2, h3⟩
    · rw [cn_no (by simpa using hp)] at hj
      obtain ⟨k, h1, h2, h3⟩ := ih j hj
      exact ⟨k, by omega, h2, h3⟩
theorem wm_ok {u : xs_S} {P : Nat → Bool} {lo hi : Nat → Int} (h : GA u P lo hi) (hS : SP P lo hi) : WM u := by
  intro j hj
  have h15 := cn_b (P := P) (k := 15) (by decide)
  rw [h.1, nI_toInt (by omega)] at hj
  obtain ⟨k, hk, hp, e⟩ := cn_exk (P := P) 15 j (by omega)
  obtain ⟨e1, e2, -⟩ := h.2 k hk hp
  rw [e] at e1 e2
  rw [lI_of e1, lI_of e2]
  exact hS k hk hp
theorem wn_ok {s : xs_S} {P : Nat → Bool} {lo hi : Nat → Int} (hM : MA (F_X7_layOut s 0 (-6)) P lo hi) (hS : SP P lo hi) (hR : RowOK (s 73)) : WN (F_X7_layOut s 0 (-6)) := by
  refine ⟨fun j hj hb => ?_, fun j h1 h2 => lay_hi ⟨h1, h2⟩ (ro_D hR)⟩
  have hp : P j = true := by rw [← (hM j hj).1]; exact hb
  rw [lI_of ((hM j hj).2 hp).1, lI_of ((hM j hj).2 hp).2]
  exact hS j hj hp
theorem mn_nb {P : Nat → Bool} {lo hi : Nat → Int} (hS : SP P lo hi) : ((∀ j : Nat, j < 15 → P j = false) ∧ (if Op.cmpValue (FP.dcmp (ac P lo hi 15).2 FP.dconst0) .l ≤ 0 then FP.dconst0 else FP.ddiv (ac P lo hi 15).1 (ac P lo hi 15).2) = 0) ∨ ((¬ ∀ j : Nat, j < 15 → P j = false) ∧ Nb 700 1400 (FP.ddiv (ac P lo hi 15).1 (ac P lo hi 15).2) ∧ (if Op.cmpValue (FP.dcmp (ac P lo hi 15).2 FP.dconst0) .l ≤ 0 then FP.dconst0 else FP.ddiv (ac P lo hi 15).1 (ac P lo hi 15).2) = FP.ddiv (ac P lo hi 15).1 (ac P lo hi 15).2) := by
  obtain ⟨g1, g2, g3, g4⟩ := ac_nb hS 15 (by decide)
  rw [cm_0 g2 (by decide) (by decide)]
  by_cases h0 : (ac P lo hi 15).2 = 0
  · refine Or.inl ⟨g3 h0, ?_⟩
    rw [if_pos h0, if_pos (by decide)]
    rfl
  · refine Or.inr ⟨fun hf => h0 ?_, ?_, ?_⟩
    · rw [g4 hf]
      rfl
    · rcases g2 with g2 | g2
      · exact absurd g2 h0
      · exact nb_div g1 g2 (by decide) (by decide)
    · rw [if_neg h0, if_neg (by decide)]
theorem eq_mean {st : xs_S} (hI : Inv st) : ((F_X6_mean st).1 = (F_X7_mean (F_X6_mean st).2).1 ∧ Inv (F_X7_mean (F_X6_mean st).2).2) ∧ WM (F_X6_gatherNow st (-1)) ∧ Nb 1 2040 (F_X5_weightedMean (F_X6_gatherNow st (-1))) ∧ WN (F_X7_layOut (F_X6_mean st).2 0 (-6)) := by
  obtain ⟨hG, hI2, e73⟩ := q_g (l := -1) hI
  have hM := q_m hI.2.1 e73
  have hS := sp_row (P := rP (st 73) (-1)) hI.2.1
  have hg := g_wm hG
  have hm := m_wm hM 16 0 (by decide) (by decide)
  have hI3 := Inv_lay (l := -6) h00 hI2
  have hw := wn_ok hM hS hI2.2.1
  have hz : F_X7_layOut (F_X6_gatherNow st (-1)) 0 (-6) 72 11 = 0 ↔ ∀ j : Nat, j < 15 → rP (st 73) (-1) j = false := by
    constructor
    · intro h j hj
      have h1 := (hM j hj).1
      unfold mp at h1
      rw [h, bt_0] at h1
      exact h1.symm
    · intro h
      apply i32_ext
      intro j hj
      rw [bt_0]
      by_cases h15 : j < 15
      · have h1 := (hM j h15).1
        unfold mp at h1
        rw [h1]
        exact h j h15
      · exact lay_hi ⟨by omega, hj⟩ (ro_D hI2.2.1)
  unfold F_X6_mean
  dsimp only
  refine ⟨?_, wm_ok hG hS, ?_, hw⟩
  · have e : F_X7_mean (F_X6_gatherNow st (-1)) = lp_X7_mean_14 16 (ac (rP (st 73) (-1)) (rLo (st 73) 0) (rHi (st 73) 0) 0).1 (ac (rP (st 73) (-1)) (rLo (st 73) 0) (rHi (st 73) 0) 0).2 (nI 0) (F_X7_layOut (F_X6_gatherNow st (-1)) 0 (-6)) := by
      rw [nI_0]
      rfl
    rw [e, hm, hg]
    rcases mn_nb hS with ⟨a1, a2⟩ | ⟨a1, a2, a3⟩
    · rw [if_pos (hz.mpr a1), a2]
      dsimp only
      rw [ofd_v (Or.inl rfl), d2lb_v (by decide +kernel)]
      exact ⟨rfl, hI3⟩
    · rw [if_neg (fun q => a1 (hz.mp q)), a3]
      dsimp only
      rw [ofd_v (nb_w a2 (by decide) (by decide)), d2lb_v (nb_nn a2 (by decide))]
      exact ⟨rfl, hI3⟩
  · rw [hg]
    rcases mn_nb hS with ⟨a1, a2⟩ | ⟨a1, a2, a3⟩
    · rw [a2]
      exact Or.inl rfl
    · rw [a3]
      exact nb_w a2 (by decide) (by decide)
/-! the share -/
def shv (a b : Nat) : UInt32 := FP.fdiv (FP.i2f (nI a)) (FP.i2f (nI b))
def shx (v : UInt32) : Int32 := if 0 < Op.cmpValue (FP.fcmp v FP.fconst0) .g then ((((FP.f2d v).toInt64.toUInt64 >>> ((29 : Int32).toInt64.toUInt64 &&& Int64.toUInt64 63)).toInt64) - 7516192768).toInt32 else 0
def shb (v : UInt32) : Bool := (!FP.Core.fIsNaN v) && (decide (Op.cmpValue (FP.fcmp v v) .l = 0) && (decide (shx v = v.toInt32) && (decide (FP.f2d v = 0) || (decide (1 * 2 ^ 52 ≤ (FP.f2d v).toNat) && decide ((FP.f2d v).toNat < 2040 * 2 ^ 52)))))
theorem sh_all : ∀ a, a < 16 → ∀ b, b < 16 → b ≠ 0 → shb (shv a b) = true := by decide +kernel
theorem sh_0 : shb FP.fconst0 = true := by decide +kernel
theorem shb_v {v : UInt32} (h : shb v = true) : QF v ∧ ∀ s w : xs_S, F_X0_ofFloat s v = F_f2ib w v := by
  unfold shb at h
  rw [Bool.and_eq_true, Bool.and_eq_true, Bool.and_eq_true, Bool.or_eq_true, Bool.and_eq_true] at h
  obtain ⟨h1, h2, h3, h4⟩ := h
  have hn : FP.Core.fIsNaN v = false := by simpa using h1
  have hb : Nb 1 2040 (FP.f2d v) := by
    rcases h4 with h4 | ⟨h4, h5⟩
    · exact Or.inl (of_decide_eq_true h4)
    · exact Or.inr ⟨of_decide_eq_true h4, of_decide_eq_true h5⟩
  refine ⟨⟨hn, hb⟩, fun s w => ?_⟩
  have e1 : F_X0_ofFloat s v = shx v := by
    unfold F_X0_ofFloat shx
    rw [ofd_v hb]
  have e2 : F_f2ib w v = v.toInt32 := by
    unfold F_f2ib F_fnan
    rw [if_pos (of_decide_eq_true h2), if_pos rfl]
  rw [e1, e2]
  exact of_decide_eq_true h3
theorem eq_share {st : xs_S} (hI : Inv st) : ((F_X6_share st).1 = (F_X7_share (F_X6_share st).2).1 ∧ Inv (F_X7_share (F_X6_share st).2).2) ∧ QF (F_X5_honestShare (F_X6_gatherNow st (-1))) ∧ (¬ (F_X7_seek (F_X7_layOut (F_X6_share st).2 0 (-6))).1 = 0 → ¬ F_X7_size (F_X7_seek (F_X7_layOut (F_X6_share st).2 0 (-6))).2 ((F_X7_seek (F_X7_layOut (F_X6_share st).2 0 (-6))).2 72 11) = 0) := by
  obtain ⟨hG, hI2, e73⟩ := q_g (l := -1) hI
  have hM := q_m hI.2.1 e73
  obtain ⟨hM2, hj⟩ := jn hG hM (q_b hI.2.1)
  have hI3 := Inv_se (Inv_lay (l := -6) h00 hI2)
  have h15 := cn_b (P := rP (st 73) (-1)) (k := 15) (by decide)
  have hmo := g_most hG
  unfold F_X6_share F_X5_honestShare
  dsimp only
  unfold F_X7_share
  rw [hG.1, m_sz hM2]
  rcases hj with ⟨a1, a2, a3, a4, a5, a6⟩ | ⟨a1, a2, a3, a4⟩
  · have hc : cn (rP (st 73) (-1)) 15 ≠ 0 := by
      intro h0
      unfold F_X5_isEmpty at a1
      rw [hG.1, h0, if_pos nI_0] at a1
      exact absurd a1 (by decide)
    have hcI : ¬ nI (cn (rP (st 73) (-1)) 15) = 0 := by
      intro h0
      rw [xi_eq, nI_toInt (by omega), xi_0] at h0
      omega
    have hma : ∃ a : Nat, a < 16 ∧ F_X5_most (F_X6_gatherNow st (-1)) = nI a := by
      obtain ⟨m0, -, m2⟩ := hmo
      rcases m2 with m2 | ⟨j, hj, hp, e⟩
      · exact ⟨0, by decide, xi_eq.mpr (by rw [m2]; decide)⟩
      · have hle := ov_le (p := rP (st 73) (-1)) (lo := rLo (st 73) 0) (hi := rHi (st 73) 0) (t := rLo (st 73) 0 j)
        refine ⟨ov (rP (st 73) (-1)) (rLo (st 73) 0) (rHi (st 73) 0) (rLo (st 73) 0 j), by omega, xi_eq.mpr ?_⟩
        rw [e, nI_toInt (by omega)]
    obtain ⟨a, ha, ea⟩ := hma
    obtain ⟨s1, s2⟩ := shb_v (sh_all a ha (cn (rP (st 73) (-1)) 15) (by omega) hc)
    unfold shv at s1 s2
    rw [if_neg hcI, if_neg (show ¬ (F_X7_seek (F_X7_layOut (F_X6_gatherNow st (-1)) 0 (-6))).1 = 0 by rw [a2]; decide), ← a3, ea]
    dsimp only
    exact ⟨⟨s2 _ _, hI3⟩, s1, fun _ => hcI⟩
  · rw [a4, nI_0, if_pos rfl, if_pos a2]
    dsimp only
    obtain ⟨s1, s2⟩ := shb_v sh_0
    exact ⟨⟨s2 _ _, hI3⟩, s1, fun h => absurd a2 h⟩
