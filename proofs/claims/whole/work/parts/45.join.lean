/-! floor division; the reference's half -/
theorem xsgn {x y : Int32} (hy : 0 < y.toInt) : (0 ≤ x ^^^ y) ↔ 0 ≤ x.toInt := by
  rw [xi_le, xi_0]
  have e2 : (x ^^^ y).toBitVec.msb = (x.toBitVec.msb ^^ y.toBitVec.msb) := by rw [Int32.toBitVec_xor, BitVec.msb_xor]
  have e3 : y.toBitVec.msb = false := by
    rw [BitVec.msb_eq_toInt]
    exact decide_eq_false (by show ¬ y.toInt < 0; omega)
  rw [e3, Bool.xor_false] at e2
  rw [BitVec.msb_eq_toInt, BitVec.msb_eq_toInt] at e2
  have e4 : ((x ^^^ y).toInt < 0) ↔ (x.toInt < 0) := decide_eq_decide.mp e2
  omega
theorem tdv {x y : Int32} (hy : 0 < y.toInt) : (x / y).toInt = x.toInt.tdiv y.toInt ∧ x.toInt.tmod y.toInt + y.toInt * (x / y).toInt = x.toInt ∧ -y.toInt < x.toInt.tmod y.toInt ∧ x.toInt.tmod y.toInt < y.toInt ∧ (x.toInt < 0 → x.toInt.tmod y.toInt ≤ 0) ∧ (0 ≤ x.toInt → 0 ≤ x.toInt.tmod y.toInt) := by
  have hb := xi_b x
  have hd : -2147483648 ≤ x.toInt.tdiv y.toInt ∧ x.toInt.tdiv y.toInt < 2147483648 := by
    rcases Int.lt_or_le x.toInt 0 with hx | hx
    · have h1 := Int.neg_tdiv x.toInt y.toInt
      have h2 := Int.tdiv_nonneg (a := -x.toInt) (b := y.toInt) (by omega) (by omega)
      have h3 := Int.tdiv_le_self (a := -x.toInt) y.toInt (by omega)
      omega
    · have h2 := Int.tdiv_nonneg (a := x.toInt) (b := y.toInt) (by omega) (by omega)
      have h3 := Int.tdiv_le_self (a := x.toInt) y.toInt (by omega)
      omega
  have hq : (x / y).toInt = x.toInt.tdiv y.toInt := xi_div hd
  refine ⟨hq, ?_, Int.lt_tmod_of_pos x.toInt hy, Int.tmod_lt_of_pos x.toInt hy, fun hx => ?_, fun hx => Int.tmod_nonneg y.toInt hx⟩
  · rw [hq]
    have h1 := Int.tmod_add_tdiv_mul x.toInt y.toInt
    rw [Int.mul_comm] at h1
    exact h1
  · have h1 := Int.neg_tmod x.toInt y.toInt
    have h2 := Int.tmod_nonneg (a := -x.toInt) y.toInt (by omega)
    omega
theorem fd_2 {st : xs_S} {x : Int32} : (F_floorDiv st x 2).toInt = x.toInt / 2 := by
  have e2 : (2 : Int32).toInt = 2 := by decide
  obtain ⟨hq, hs, h1, h2, h3, h4⟩ := tdv (x := x) (y := 2) (by rw [e2]; decide)
  have hb := xi_b x
  have hx := xsgn (x := x) (y := 2) (by rw [e2]; decide)
  rw [e2] at hq hs h1 h2 h3 h4
  generalize hr : x.toInt.tmod 2 = r at *
  generalize hQ : (x / 2).toInt = q at *
  have hrg : -2147483648 ≤ q * 2 ∧ q * 2 < 2147483648 := by
    by_cases h : x.toInt < 0
    · have := h3 h
      omega
    · have := h4 (by omega)
      omega
  have hp : (x / 2 * 2).toInt = q * 2 := by
    rw [xi_mul (by rw [hQ, e2]; exact hrg), hQ, e2]
  unfold F_floorDiv
  by_cases c1 : 0 ≤ x ^^^ 2
  · rw [if_pos c1, hQ]
    have h5 := hx.mp c1
    have := h4 h5
    omega
  · rw [if_neg c1]
    have hn : x.toInt < 0 := by
      have : ¬ 0 ≤ x.toInt := fun h => c1 (hx.mpr h)
      omega
    have := h3 hn
    by_cases c2 : x / 2 * 2 = x
    · rw [if_pos c2, hQ]
      rw [xi_eq, hp] at c2
      omega
    · rw [if_neg c2]
      rw [xi_eq, hp] at c2
      rw [xi_sub (by rw [hQ, xi_1]; omega), hQ, xi_1]
      omega
theorem fd_32 {st : xs_S} {x : Int32} : (F_floorDiv st x 32).toInt = x.toInt / 32 := by
  have e2 : (32 : Int32).toInt = 32 := by decide
  obtain ⟨hq, hs, h1, h2, h3, h4⟩ := tdv (x := x) (y := 32) (by rw [e2]; decide)
  have hb := xi_b x
  have hx := xsgn (x := x) (y := 32) (by rw [e2]; decide)
  rw [e2] at hq hs h1 h2 h3 h4
  generalize hr : x.toInt.tmod 32 = r at *
  generalize hQ : (x / 32).toInt = q at *
  have hrg : -2147483648 ≤ q * 32 ∧ q * 32 < 2147483648 := by
    by_cases h : x.toInt < 0
    · have := h3 h
      omega
    · have := h4 (by omega)
      omega
  have hp : (x / 32 * 32).toInt = q * 32 := by
    rw [xi_mul (by rw [hQ, e2]; exact hrg), hQ, e2]
  unfold F_floorDiv
  by_cases c1 : 0 ≤ x ^^^ 32
  · rw [if_pos c1, hQ]
    have h5 := hx.mp c1
    have := h4 h5
    omega
  · rw [if_neg c1]
    have hn : x.toInt < 0 := by
      have : ¬ 0 ≤ x.toInt := fun h => c1 (hx.mpr h)
      omega
    have := h3 hn
    by_cases c2 : x / 32 * 32 = x
    · rw [if_pos c2, hQ]
      rw [xi_eq, hp] at c2
      omega
    · rw [if_neg c2]
      rw [xi_eq, hp] at c2
      rw [xi_sub (by rw [hQ, xi_1]; omega), hQ, xi_1]
      omega
theorem half_e {st : xs_S} {s : Int32} : (F_X7_half st s).toInt = s.toInt / 2 := by
  have e2 : (2 : Int32).toInt = 2 := by decide
  obtain ⟨hq, hs, h1, h2, h3, h4⟩ := tdv (x := s) (y := 2) (by rw [e2]; decide)
  have hb := xi_b s
  rw [e2] at hq hs h1 h2 h3 h4
  generalize hr : s.toInt.tmod 2 = r at *
  generalize hQ : (s / 2).toInt = q at *
  have hrg : -2147483648 ≤ 2 * q ∧ 2 * q < 2147483648 := by
    by_cases h : s.toInt < 0
    · have := h3 h
      omega
    · have := h4 (by omega)
      omega
  have hm : (2 * (s / 2)).toInt = 2 * q := by
    rw [xi_mul (by rw [hQ, e2]; exact hrg), hQ, e2]
  unfold F_X7_half
  by_cases c : 2 * (s / 2) ≤ s
  · rw [if_pos c, hQ]
    rw [xi_le, hm] at c
    omega
  · rw [if_neg c]
    rw [xi_le, hm] at c
    rw [xi_sub (by rw [hQ, xi_1]; omega), hQ, xi_1]
    by_cases h : s.toInt < 0
    · have := h3 h; omega
    · have := h4 (by omega); omega
theorem half_fd {st st' : xs_S} {s : Int32} : F_floorDiv st s 2 = F_X7_half st' s := by
  exact xi_eq.mpr (by rw [fd_2, half_e])
/-! the reference's spans, as functions of the dials -/
def MA (w : xs_S) (P : Nat → Bool) (lo hi : Nat → Int) : Prop := ∀ k : Nat, k < 15 → mp w k = P k ∧ (P k = true → ml w k = lo k ∧ mh w k = hi k)
theorem MA_c {s u : xs_S} {P : Nat → Bool} {lo hi : Nat → Int} (h1 : u 72 11 = s 72 11) (h2 : u 81 = s 81) (h3 : u 82 = s 82) (h : MA s P lo hi) : MA u P lo hi := by
  unfold MA mp ml mh
  rw [h1, h2, h3]
  exact h
theorem MA_u {s : xs_S} {P : Nat → Bool} {lo hi : Nat → Int} {i : Nat} {v : Int32} (hi' : i ≠ 11) (h : MA s P lo hi) : MA (xs_u s 72 i v) P lo hi := MA_c (by rw [xs_rd_i (fun e => hi' e.symm)]) (by rw [xs_rd_k (by decide)]) (by rw [xs_rd_k (by decide)]) h
theorem MA_hb {w : xs_S} {P : Nat → Bool} {lo hi : Nat → Int} (h : MA w P lo hi) {t : Int} {k : Nat} (hk : k < 15) : hb (mp w) (ml w) (mh w) t k = hb P lo hi t k := by
  obtain ⟨e, e'⟩ := h k hk
  unfold hb
  rw [e]
  by_cases hp : P k = true
  · rw [(e' hp).1, (e' hp).2]
  · have hp' : P k = false := by simpa using hp
    rw [hp', Bool.false_and, Bool.false_and]
theorem MA_ov {w : xs_S} {P : Nat → Bool} {lo hi : Nat → Int} (h : MA w P lo hi) {t : Int} : mov w t = ov P lo hi t := cn_ext 15 (fun k hk => MA_hb h hk)
theorem MA_HB {w : xs_S} {P : Nat → Bool} {lo hi : Nat → Int} (h : MA w P lo hi) (hB : BD P lo hi) : HB w := by
  intro k hk hp
  obtain ⟨e, e'⟩ := h k hk
  rw [e] at hp
  rw [(e' hp).1, (e' hp).2]
  exact hB k hk hp
theorem MA_bit {w : xs_S} {P : Nat → Bool} {lo hi : Nat → Int} (h : MA w P lo hi) {k : Nat} (hk : k < 15) : (((w 72 11) >>> (nI k &&& 31)) &&& 1 = 1) ↔ P k = true := by
  rw [← (h k hk).1]
  exact bt_i (by omega)
/-- the least low end that enough spans have -/
def FS (P : Nat → Bool) (lo hi : Nat → Int) (m : Int) (k : Nat) (a : Int) : Prop := (∃ j : Nat, j < k ∧ (P j = true ∧ m ≤ (ov P lo hi (lo j) : Int)) ∧ a = lo j) ∧ ∀ j : Nat, j < k → (P j = true ∧ m ≤ (ov P lo hi (lo j) : Int)) → a ≤ lo j
theorem FS_no {P : Nat → Bool} {lo hi : Nat → Int} {m a : Int} {k : Nat} (h : FS P lo hi m k a) (hw : (P k = true ∧ m ≤ (ov P lo hi (lo k) : Int)) → a ≤ lo k) : FS P lo hi m (k + 1) a := by
  obtain ⟨⟨j, hj, x⟩, h2⟩ := h
  refine ⟨⟨j, by omega, x⟩, fun i hi' hwi => ?_⟩
  by_cases hik : i = k
  · subst hik; exact hw hwi
  · exact h2 i (by omega) hwi
theorem fd_l {m : Int32} {P : Nat → Bool} {lo hi : Nat → Int} : ∀ (n k : Nat) (x2 : Int32) (s : xs_S), k + n = 16 → k ≤ 15 → MA s P lo hi → ((x2 = 0 ∧ ∀ j : Nat, j < k → ¬ (P j = true ∧ m.toInt ≤ (ov P lo hi (lo j) : Int))) ∨ (x2 = 1 ∧ FS P lo hi m.toInt k (s 72 15).toInt)) → MA (lp_X7_find_4 m n x2 (nI k) s).2 P lo hi ∧ (((lp_X7_find_4 m n x2 (nI k) s).1 = 0 ∧ ∀ j : Nat, j < 15 → ¬ (P j = true ∧ m.toInt ≤ (ov P lo hi (lo j) : Int))) ∨ ((lp_X7_find_4 m n x2 (nI k) s).1 = 1 ∧ FS P lo hi m.toInt 15 ((lp_X7_find_4 m n x2 (nI k) s).2 72 15).toInt ∧ ∃ s' : xs_S, MA s' P lo hi ∧ (lp_X7_find_4 m n x2 (nI k) s).2 72 16 = F_X7_lastFrom s' ((lp_X7_find_4 m n x2 (nI k) s).2 72 15) m)) := by
  intro n
  induction n with
  | zero => intro k x2 s h1 h2; omega
  | succ n ih =>
    intro k x2 s h1 h2 hM hI
    rw [lp_X7_find_4]
    by_cases hk : k = 15
    · subst hk
      rw [if_pos (by rw [i15]; exact nI_le (Nat.le_refl _) (by decide))]
      rcases hI with ⟨e, h⟩ | ⟨e, h⟩
      · rw [if_pos e]
        exact ⟨MA_u (by decide) hM, Or.inl ⟨e, h⟩⟩
      · rw [if_neg (by rw [e]; decide)]
        dsimp only
        refine ⟨MA_u (by decide) hM, Or.inr ⟨e, ?_, s, hM, ?_⟩⟩
        · rw [xs_rd_i (by decide)]; exact h
        · rw [xs_rd_s, xs_rd_i (by decide)]
    · have hk15 : k < 15 := by omega
      rw [if_neg (by rw [i15, nI_leI (by decide) (by omega)]; omega), nI_1, nI_tn (by omega)]
      by_cases hp : P k = true
      · rw [if_pos ((MA_bit hM hk15).mpr hp)]
        have elo : (s 81 k).toInt = lo k := ((hM k hk15).2 hp).1
        have eov : (F_X7_overlapAt s (s 81 k) < m) ↔ (ov P lo hi (lo k) : Int) < m.toInt := by
          rw [xi_lt, m_ovi, MA_ov hM, elo]
        by_cases hc : F_X7_overlapAt s (s 81 k) < m
        · rw [if_pos hc]
          have hc' := eov.mp hc
          refine ih (k + 1) x2 s (by omega) (by omega) hM ?_
          rcases hI with ⟨e, h⟩ | ⟨e, h⟩
          · refine Or.inl ⟨e, fun j hj hw => ?_⟩
            by_cases hjk : j = k
            · subst hjk; have := hw.2; omega
            · exact h j (by omega) hw
          · exact Or.inr ⟨e, FS_no h (fun hw => by have := hw.2; omega)⟩
        · rw [if_neg hc]
          have hc' : m.toInt ≤ (ov P lo hi (lo k) : Int) := by
            have h3 : ¬ (ov P lo hi (lo k) : Int) < m.toInt := fun h => hc (eov.mpr h)
            omega
          rcases hI with ⟨e, h⟩ | ⟨e, h⟩
          · rw [if_pos e]
            refine ih (k + 1) 1 _ (by omega) (by omega) (MA_u (by decide) hM) (Or.inr ⟨rfl, ?_⟩)
            rw [xs_rd_s, elo]
            refine ⟨⟨k, by omega, ⟨hp, hc'⟩, rfl⟩, fun j hj hw => ?_⟩
            by_cases hjk : j = k
            · subst hjk; exact Int.le_refl _
            · exact absurd hw (h j (by omega))
          · rw [if_neg (by rw [e]; decide)]
            by_cases hle : s 72 15 ≤ s 81 k
            · rw [if_pos hle]
              rw [xi_le, elo] at hle
              exact ih (k + 1) x2 s (by omega) (by omega) hM (Or.inr ⟨e, FS_no h (fun _ => hle)⟩)
            · rw [if_neg hle]
              rw [xi_le, elo] at hle
              refine ih (k + 1) 1 _ (by omega) (by omega) (MA_u (by decide) hM) (Or.inr ⟨rfl, ?_⟩)
              rw [xs_rd_s, elo]
              refine ⟨⟨k, by omega, ⟨hp, hc'⟩, rfl⟩, fun j hj hw => ?_⟩
              by_cases hjk : j = k
              · subst hjk; exact Int.le_refl _
              · have := h.2 j (by omega) hw
                omega
      · rw [if_neg (fun h => hp ((MA_bit hM hk15).mp h))]
        refine ih (k + 1) x2 s (by omega) (by omega) hM ?_
        rcases hI with ⟨e, h⟩ | ⟨e, h⟩
        · refine Or.inl ⟨e, fun j hj hw => ?_⟩
          by_cases hjk : j = k
          · subst hjk; exact hp hw.1
          · exact h j (by omega) hw
        · exact Or.inr ⟨e, FS_no h (fun hw => absurd hw.1 hp)⟩
theorem m_find {m : Int32} {P : Nat → Bool} {lo hi : Nat → Int} {s : xs_S} (hM : MA s P lo hi) : MA (F_X7_find s m).2 P lo hi ∧ (((F_X7_find s m).1 = 0 ∧ ∀ j : Nat, j < 15 → ¬ (P j = true ∧ m.toInt ≤ (ov P lo hi (lo j) : Int))) ∨ ((F_X7_find s m).1 = 1 ∧ FS P lo hi m.toInt 15 ((F_X7_find s m).2 72 15).toInt ∧ ∃ s' : xs_S, MA s' P lo hi ∧ (F_X7_find s m).2 72 16 = F_X7_lastFrom s' ((F_X7_find s m).2 72 15) m)) := by
  have h := fd_l (m := m) 16 0 0 s (by decide) (by decide) hM (Or.inl ⟨rfl, fun j hj => by omega⟩)
  rw [nI_0] at h
  exact h
/-- what the reference's search leaves -/
def SK (r : Int32 × xs_S) (P : Nat → Bool) (lo hi : Nat → Int) : Prop := MA r.2 P lo hi ∧ Mo P lo hi 15 (r.2 72 14).toInt ∧ ((r.1 = 0 ∧ (r.2 72 14).toInt = 0) ∨ (r.1 = 1 ∧ 1 ≤ (r.2 72 14).toInt ∧ FS P lo hi (r.2 72 14).toInt 15 (r.2 72 15).toInt ∧ ∃ s' : xs_S, MA s' P lo hi ∧ r.2 72 16 = F_X7_lastFrom s' (r.2 72 15) (r.2 72 14)))
theorem sk_l {P : Nat → Bool} {lo hi : Nat → Int} : ∀ (n k : Nat) (s : xs_S), k + n = 16 → k ≤ 15 → MA s P lo hi → Mo P lo hi k (s 72 14).toInt → SK (lp_X7_seek_7 n (nI k) s) P lo hi := by
  intro n
  induction n with
  | zero => intro k s h1 h2; omega
  | succ n ih =>
    intro k s h1 h2 hM hI
    rw [lp_X7_seek_7]
    by_cases hk : k = 15
    · subst hk
      rw [if_pos (by rw [i15]; exact nI_le (Nat.le_refl _) (by decide))]
      by_cases h0 : s 72 14 ≤ 0
      · rw [if_pos h0]
        rw [xi_le, xi_0] at h0
        have := hI.1
        exact ⟨hM, hI, Or.inl ⟨rfl, by show (s 72 14).toInt = 0; omega⟩⟩
      · rw [if_neg h0]
        rw [xi_le, xi_0] at h0
        obtain ⟨f1, f2⟩ := m_find (m := s 72 14) hM
        have f14 : (F_X7_find s (s 72 14)).2 72 14 = s 72 14 := fi_f (by decide) (by decide)
        rcases f2 with ⟨e, h⟩ | ⟨e, hF, s', hs', h16⟩
        · rcases hI.2.2 with hz | ⟨j, hj, hpj, ej⟩
          · omega
          · exact absurd ⟨hpj, by omega⟩ (h j hj)
        · rw [if_neg (by rw [e]; decide)]
          refine ⟨f1, ?_, Or.inr ⟨rfl, ?_, ?_, s', hs', ?_⟩⟩
          · dsimp only
            rw [f14]; exact hI
          · dsimp only
            rw [f14]; omega
          · dsimp only
            rw [f14]; exact hF
          · dsimp only
            rw [f14]; exact h16
    · have hk15 : k < 15 := by omega
      rw [if_neg (by rw [i15, nI_leI (by decide) (by omega)]; omega), nI_1, nI_tn (by omega)]
      by_cases hp : P k = true
      · rw [if_pos ((MA_bit hM hk15).mpr hp)]
        have elo : (s 81 k).toInt = lo k := ((hM k hk15).2 hp).1
        have eov : (F_X7_overlapAt s (s 81 k)).toInt = (ov P lo hi (lo k) : Int) := by rw [m_ovi, MA_ov hM, elo]
        by_cases hc : F_X7_overlapAt s (s 81 k) ≤ s 72 14
        · rw [if_pos hc]
          rw [xi_le, eov] at hc
          refine ih (k + 1) _ (by omega) (by omega) (MA_u (by decide) hM) ?_
          rw [xs_rd_s]
          exact Mo_up hp hI (fun h => by omega) (fun _ => rfl)
        · rw [if_neg hc]
          rw [xi_le, eov] at hc
          refine ih (k + 1) _ (by omega) (by omega) (MA_u (by decide) hM) ?_
          rw [xs_rd_s]
          exact Mo_up hp hI (fun _ => eov) (fun h => by omega)
      · have hp' : P k = false := by simpa using hp
        rw [if_neg (fun h => hp ((MA_bit hM hk15).mp h)), if_pos (by rw [xi_le, xi_0]; exact hI.1)]
        refine ih (k + 1) _ (by omega) (by omega) (MA_u (by decide) hM) ?_
        rw [xs_rd_s]
        exact Mo_no hp' hI
theorem m_seek {P : Nat → Bool} {lo hi : Nat → Int} {s : xs_S} (hM : MA s P lo hi) : SK (F_X7_seek s) P lo hi := by
  have h := sk_l 16 0 (xs_u s 72 14 0) (by decide) (by decide) (MA_u (by decide) hM) (by rw [xs_rd_s]; exact ⟨by decide, fun j hj => by omega, Or.inl (by decide)⟩)
  rw [nI_0] at h
  exact h
/-! both sides -/
theorem lg_first {u : xs_S} {m : Int32} {a : Int32} {P : Nat → Bool} {lo hi : Nat → Int} (hG : GA u P lo hi) (hB : BD P lo hi) (hF : FS P lo hi m.toInt 15 a.toInt) : F_X5_firstTimeOf u m = a := by
  apply xi_eq.mpr
  obtain ⟨g1, g2⟩ := g_first (m := m) hG
  obtain ⟨⟨j, hj, hw, e⟩, f2⟩ := hF
  have h1 := g2 j hj hw
  have hb := hB j hj hw.1
  rcases g1 with g1 | ⟨i, hi', hwi, ei⟩
  · omega
  · have h2 := f2 i hi' hwi
    omega
theorem lg_none {u : xs_S} {m : Int32} {P : Nat → Bool} {lo hi : Nat → Int} (hG : GA u P lo hi) (hN : ∀ j : Nat, j < 15 → ¬ (P j = true ∧ m.toInt ≤ (ov P lo hi (lo j) : Int))) : F_X5_firstTimeOf u m = 1000000 := by
  apply xi_eq.mpr
  obtain ⟨g1, g2⟩ := g_first (m := m) hG
  rcases g1 with g1 | ⟨i, hi', hwi, ei⟩
  · rw [g1]; decide
  · exact absurd hwi (hN i hi')
theorem lg_last {u s : xs_S} {m a : Int32} {P : Nat → Bool} {lo hi : Nat → Int} (hG : GA u P lo hi) (hB : BD P lo hi) (hM : MA s P lo hi) (hm : 1 ≤ m.toInt) (hF : FS P lo hi m.toInt 15 a.toInt) : F_X5_lastTimeOf u m a = F_X7_lastFrom s a m := by
  obtain ⟨⟨j, hj, hw, e⟩, f2⟩ := hF
  have hle : m.toInt ≤ (mov s a.toInt : Int) := by rw [MA_ov hM, e]; exact hw.2
  obtain ⟨t1, t2, t3, t4⟩ := m_last (t := a) (MA_HB hM hB) hm hle
  generalize F_X7_lastFrom s a m = T at *
  rw [MA_ov hM] at t4
  have t3' : ∀ z : Int, a.toInt ≤ z → z ≤ T.toInt → m.toInt ≤ (ov P lo hi z : Int) := by
    intro z z1 z2
    have := t3 z z1 z2
    rw [MA_ov hM] at this
    exact this
  have hex : ∃ k : Nat, k < 15 ∧ P k = true ∧ hi k = T.toInt := by
    apply Classical.byContradiction
    intro hno
    have h5 : ov P lo hi T.toInt ≤ ov P lo hi (T.toInt + 1) := by
      refine cn_mono 15 (fun k hk hp => ?_)
      have h6 := hb_iff.mp hp
      refine hb_iff.mpr ⟨h6.1, by omega, ?_⟩
      by_cases h7 : hi k = T.toInt
      · exact absurd ⟨k, hk, h6.1, h7⟩ hno
      · omega
    have h8 := t3' T.toInt t1 (Int.le_refl _)
    omega
  obtain ⟨k, hk, hpk, ek⟩ := hex
  obtain ⟨g1, g2⟩ := g_last (m := m) (f := a) hG hB
  have h1 := g2 k hk ⟨hpk, by omega, by rw [ek]; exact t4⟩
  apply xi_eq.mpr
  rcases g1 with g1 | ⟨i, hi', ⟨hpi, hfi, hci⟩, ei⟩
  · omega
  · by_cases h9 : hi i + 1 ≤ T.toInt
    · have := t3' (hi i + 1) (by omega) h9
      omega
    · omega
theorem jn {u w : xs_S} {P : Nat → Bool} {lo hi : Nat → Int} (hG : GA u P lo hi) (hM : MA w P lo hi) (hB : BD P lo hi) : MA (F_X7_seek w).2 P lo hi ∧ ((F_X5_isEmpty u = 0 ∧ (F_X7_seek w).1 = 1 ∧ F_X5_most u = (F_X7_seek w).2 72 14 ∧ F_X5_bestLow u = (F_X7_seek w).2 72 15 ∧ F_X5_bestHigh u = (F_X7_seek w).2 72 16 ∧ F_X5_hour u = F_X7_hour (F_X7_seek w).2) ∨ (F_X5_isEmpty u = 1 ∧ (F_X7_seek w).1 = 0 ∧ F_X5_most u = 0 ∧ cn P 15 = 0)) := by
  obtain ⟨k1, k2, k3⟩ := m_seek hM
  have em : F_X5_most u = (F_X7_seek w).2 72 14 := xi_eq.mpr (Mo_u (g_most hG) k2)
  refine ⟨k1, ?_⟩
  rcases k3 with ⟨e, ez⟩ | ⟨e, e1, hF, s', hs', h16⟩
  · refine Or.inr ?_
    have hz : cn P 15 = 0 := by
      apply Classical.byContradiction
      intro h
      obtain ⟨k, hk, hp⟩ := cn_ex (P := P) 15 (by omega)
      have h1 := k2.2.1 k hk hp
      have hb := hB k hk hp
      have h2 : 1 ≤ ov P lo hi (lo k) := cn_pos 15 hk (hb_iff.mpr ⟨hp, by omega, by omega⟩)
      omega
    refine ⟨?_, e, ?_, hz⟩
    · unfold F_X5_isEmpty
      rw [if_pos (by rw [hG.1, hz]; exact nI_0)]
    · rw [em]
      exact xi_eq.mpr (by rw [ez, xi_0])
  · refine Or.inl ?_
    have elo : F_X5_bestLow u = (F_X7_seek w).2 72 15 := by
      unfold F_X5_bestLow
      rw [em]
      exact lg_first hG hB hF
    have ehi : F_X5_bestHigh u = (F_X7_seek w).2 72 16 := by
      unfold F_X5_bestHigh
      unfold F_X5_bestLow at elo
      rw [elo, em, h16]
      exact lg_last hG hB hs' e1 hF
    refine ⟨?_, e, em, elo, ehi, ?_⟩
    · unfold F_X5_isEmpty
      rw [if_neg]
      intro h
      rw [hG.1] at h
      rcases k2.2.2 with hz | ⟨j, hj, hpj, ej⟩
      · omega
      · have h1 := cn_pos (P := P) 15 hj hpj
        have h2 := cn_b (P := P) (k := 15) (by decide)
        rw [xi_eq, nI_toInt (by omega), xi_0] at h
        omega
    · unfold F_X5_hour F_X7_hour
      unfold F_X5_bestHigh at ehi
      unfold F_X5_bestLow at elo
      rw [ehi, elo]
      exact half_fd
