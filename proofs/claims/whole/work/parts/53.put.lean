/-! the pad: wipe and put -/
theorem Inv_p {s u : xs_S} (h : ∀ k : Nat, (k < 70 ∨ 73 ≤ k) → k < 78 → u k = s k) (h5 : u 72 5 = s 72 5) (hD : PD u) (hI : Inv s) : Inv u := by
  obtain ⟨hC1, hR1, hH, hS, -⟩ := hI
  have e73 : u 73 = s 73 := h 73 (by decide) (by decide)
  refine ⟨?_, by rw [e73]; exact hR1, ?_, ?_, hD⟩
  · rw [e73]
    exact CR_c (fun k a b => h k (by omega) (by omega)) hC1
  · exact HR_c (fun k a b => h k (by omega) (by omega)) h5 (h 74 (by decide) (by decide)) hH
  · exact SL_c (fun k a b => h k (by omega) (by omega)) (h 76 (by decide) (by decide)) (h 77 (by decide) (by decide)) hS
theorem eq_wipe {st : xs_S} (hI : Inv st) : (F_X6_wipe st).1 = (F_X7_wipe (F_X6_wipe st).2).1 ∧ Inv (F_X7_wipe (F_X6_wipe st).2).2 := by
  obtain ⟨d1, d2, d3, d4⟩ := hI.2.2.2.2
  unfold F_X6_wipe F_X7_wipe F_X3_length F_X3_clear
  dsimp only
  rw [xs_rd_k (show (72 : Nat) ≠ 70 by decide)]
  refine ⟨d1, Inv_p (s := st) (fun k a b => ?_) ?_ ⟨?_, ?_, fun i hi => ?_, ?_⟩ hI⟩
  · rw [xs_rd_k (by omega), xs_rd_k (by omega)]
  · rw [xs_rd_i (by decide), xs_rd_k (by decide)]
  · rw [xs_rd_k (by decide), xs_rd_s, xs_rd_s]
  · rw [xs_rd_s]
    exact ⟨by decide, by decide⟩
  · rw [xs_rd_s, xi_0] at hi
    omega
  · rw [xs_rd_k (by decide), xs_rd_i (by decide)]
    exact d4
/-! signs of a word -/
def sh (c : Int64) : Nat → Int64
  | 0 => c
  | j + 1 => ((sh c j).toUInt64 >>> ((8 : Int32).toInt64.toUInt64 &&& Int64.toUInt64 63)).toInt64
theorem sh_v {c : Int64} : ∀ j : Nat, (sh c j).toUInt64.toNat = c.toUInt64.toNat / 2 ^ (8 * j) := by
  intro j
  induction j with
  | zero => show c.toUInt64.toNat = _; simp
  | succ j ih =>
    have e8 : ((8 : Int32).toInt64.toUInt64 &&& Int64.toUInt64 63) = 8 := by decide
    show (((sh c j).toUInt64 >>> ((8 : Int32).toInt64.toUInt64 &&& Int64.toUInt64 63)).toInt64).toUInt64.toNat = _
    rw [e8, UInt64.toUInt64_toInt64, UInt64.toNat_shiftRight, ih, show (8 : UInt64).toNat % 64 = 8 by decide, Nat.shiftRight_eq_div_pow, Nat.div_div_eq_div_mul, ← Nat.pow_add]
    congr 2
theorem sh_d : ∀ j, j < 8 → ((nI j * 8).toInt64.toUInt64 &&& Int64.toUInt64 63).toNat = 8 * j := by decide +kernel
theorem sh_x {c : Int64} {j : Nat} (hj : j < 8) : (c.toUInt64 >>> ((nI j * 8).toInt64.toUInt64 &&& Int64.toUInt64 63)).toInt64 = sh c j := by
  have h : (c.toUInt64 >>> ((nI j * 8).toInt64.toUInt64 &&& Int64.toUInt64 63)) = (sh c j).toUInt64 := by
    apply UInt64.toNat_inj.mp
    rw [UInt64.toNat_shiftRight, sh_d j hj, Nat.mod_eq_of_lt (by omega), Nat.shiftRight_eq_div_pow, sh_v]
  rw [h, Int64.toInt64_toUInt64]
theorem sh_8 {c : Int64} : sh c 8 = Int64.ofNat 0 := by
  have h := sh_v (c := c) 8
  have hb := c.toUInt64.toNat_lt
  rw [Nat.div_eq_of_lt (by omega)] at h
  have h2 : (sh c 8).toUInt64 = 0 := UInt64.toNat_inj.mp (by rw [h]; rfl)
  have h3 : (sh c 8).toUInt64.toInt64 = sh c 8 := Int64.toInt64_toUInt64 _
  rw [← h3, h2]
  decide
theorem lo8 {x : Int64} : ∃ m : Nat, m < 256 ∧ x &&& 255 = Int64.ofNat m := by
  refine ⟨(x &&& 255).toBitVec.toNat, ?_, ?_⟩
  · rw [Int64.toBitVec_and, BitVec.toNat_and]
    have h : (255 : Int64).toBitVec.toNat = 255 := by decide
    rw [h]
    have := Nat.and_le_right (n := x.toBitVec.toNat) (m := 255)
    omega
  · apply Int64.toBitVec_inj.mp
    rw [Int64.toBitVec_ofNat', BitVec.ofNat_toNat, BitVec.setWidth_eq]
theorem cd_1 : ∀ m, m < 256 → ((Int64.ofNat m).toInt32).toInt64 = Int64.ofNat m ∧ (((Int64.ofNat m).toInt32).toUInt32 % 65536).toInt32 = (Int64.ofNat m).toInt32 := by decide +kernel
/-- the j-th sign -/
def cd (c : Int64) (j : Nat) : Int32 := (sh c j &&& 255).toInt32
theorem cd_64 {c : Int64} {j : Nat} : (cd c j).toInt64 = sh c j &&& 255 := by
  unfold cd
  obtain ⟨m, hm, e⟩ := lo8 (x := sh c j)
  rw [e]
  exact (cd_1 m hm).1
theorem cd_ch {c : Int64} {j : Nat} : ((cd c j).toUInt32 % 65536).toInt32 = cd c j := by
  unfold cd
  obtain ⟨m, hm, e⟩ := lo8 (x := sh c j)
  rw [e]
  exact (cd_1 m hm).2
theorem is_in {st w : xs_S} {c : Int64} {j : Nat} : F_X3_isSign st (sh c j &&& 255) = F_X7_in w (cd c j).toInt64 33 126 := by
  unfold F_X3_isSign F_X7_in
  rw [cd_64]
  rfl
theorem in_y {w : xs_S} {x : Int32} (h : ¬ F_X7_in w x.toInt64 33 126 = 0) : 33 ≤ x.toInt ∧ x.toInt ≤ 126 := by
  rw [in_if] at h
  by_cases c : (33 : Int32).toInt ≤ x.toInt ∧ x.toInt ≤ (126 : Int32).toInt
  · exact c
  · rw [if_neg c] at h
    exact absurd rfl h
theorem lg_0 {x : Int64} (h : lg_cmp x (Int64.ofNat 0) = 0) : x = Int64.ofNat 0 := by
  have h1 := lg_lt0 x (Int64.ofNat 0)
  have h2 := lg_gt0 x (Int64.ofNat 0)
  rw [h] at h1 h2
  have h3 : ¬ x.toInt < (Int64.ofNat 0).toInt := fun g => absurd (h1.mpr g) (by decide)
  have h4 : ¬ (Int64.ofNat 0).toInt < x.toInt := fun g => absurd (h2.mpr g) (by decide)
  exact Int64.toInt_inj.mp (by omega)
theorem lg_00 : lg_cmp (Int64.ofNat 0) (Int64.ofNat 0) = 0 := by decide
theorem sg_0 {st : xs_S} {x : Int64} (h : x = Int64.ofNat 0) : F_X3_isSign st (x &&& 255) = 0 := by
  subst h
  unfold F_X3_isSign
  rw [if_pos (by decide)]
theorem i8 : (8 : Int32) = nI 8 := by decide
/-- both sides take the signs of a word -/
theorem pu_l {st : xs_S} {c : Int64} : ∀ (n j : Nat) (v : xs_S), j + n = 9 → j ≤ 8 → (∀ i : Nat, i < j → v 79 i = cd c i ∧ 33 ≤ (cd c i).toInt ∧ (cd c i).toInt ≤ 126) → (lp_X3_signsIn_4 st c n (nI j) (sh c j) = 0 ∧ (lp_X7_put_5 c n (sh c j) (nI j) v).1 = -2 ∧ (∀ k : Nat, k ≠ 79 → (lp_X7_put_5 c n (sh c j) (nI j) v).2 k = v k)) ∨ (∃ (m : Nat) (x : Int64) (v' : xs_S), 1 ≤ m ∧ m ≤ 8 ∧ lp_X3_signsIn_4 st c n (nI j) (sh c j) = nI m ∧ (∀ k : Nat, k ≠ 79 → v' k = v k) ∧ (∀ i : Nat, i < m → v' 79 i = cd c i ∧ 33 ≤ (cd c i).toInt ∧ (cd c i).toInt ≤ 126) ∧ lp_X7_put_5 c n (sh c j) (nI j) v = if v' 72 7 + nI m ≤ 80 then lp_X7_put_92 c 9 x (nI m) (nI m - 1) v' else (-4, v')) := by
  intro n
  induction n with
  | zero => intro j v h1 h2; omega
  | succ n ih =>
    intro j v h1 h2 hv
    rw [lp_X3_signsIn_4, lp_X7_put_5]
    have z : (0 : Int32) = nI 0 := nI_0.symm
    by_cases hz : lg_cmp (sh c j) (Int64.ofNat 0) = 0
    · have hz' := lg_0 hz
      rw [if_pos hz, if_pos hz, sg_0 hz', if_pos rfl]
      have hcl : (if 8 ≤ nI j then nI j else nI j) = nI j := by
        by_cases c : 8 ≤ nI j
        · rw [if_pos c]
        · rw [if_neg c]
      rw [hcl]
      by_cases hj : j = 0
      · subst hj
        rw [if_pos nI_0]
        exact Or.inl ⟨nI_0, rfl, fun k hk => rfl⟩
      · rw [if_neg (show ¬ nI j = 0 by rw [z, nI_eq (by omega) (by decide)]; exact hj)]
        exact Or.inr ⟨j, sh c j, v, by omega, h2, rfl, fun k hk => rfl, hv, rfl⟩
    · rw [if_neg hz, if_neg hz]
      have hj8 : ¬ j = 8 := by
        intro h
        subst h
        exact hz (by rw [sh_8]; exact lg_00)
      have hc8 : ¬ 8 ≤ nI j := by rw [i8, nI_leI (by decide) (by omega)]; omega
      rw [if_neg hc8, if_neg hc8, nI_tn (by omega), nI_1, xs_rd_s]
      have hin : F_X3_isSign st (sh c j &&& 255) = F_X7_in (xs_u v 79 j ((sh c j &&& 255).toInt32)) ((sh c j &&& 255).toInt32).toInt64 33 126 := is_in
      rw [hin]
      by_cases hs : F_X7_in (xs_u v 79 j ((sh c j &&& 255).toInt32)) ((sh c j &&& 255).toInt32).toInt64 33 126 = 0
      · rw [if_pos hs, if_pos hs]
        exact Or.inl ⟨rfl, rfl, fun k hk => xs_rd_k hk⟩
      · rw [if_neg hs, if_neg hs]
        have hy := in_y hs
        have h3 := ih (j + 1) (xs_u v 79 j (cd c j)) (by omega) (by omega) (fun i hi => by
          by_cases hij : i = j
          · subst hij
            rw [xs_rd_s]
            exact ⟨rfl, hy⟩
          · rw [xs_rd_i hij]
            exact hv i (by omega))
        rcases h3 with ⟨a1, a2, a3⟩ | ⟨m, x, v', a1, a2, a3, a4, a5, a6⟩
        · exact Or.inl ⟨a1, a2, fun k hk => (a3 k hk).trans (xs_rd_k hk)⟩
        · exact Or.inr ⟨m, x, v', a1, a2, a3, fun k hk => by rw [a4 k hk, xs_rd_k hk], a5, a6⟩
/-- both sides lay the signs down -/
theorem ap_l {c : Int64} {many x5 : Int32} {x : Int64} {m : Nat} (hm : m ≤ 8) : ∀ (i n l : Nat) (s v : xs_S), i < n → i ≤ m → l + i ≤ 80 → s 70 1 = nI l → v 72 7 = nI l → (∀ p : Nat, p < l → s 71 p = v 78 p ∧ 33 ≤ (s 71 p).toInt ∧ (s 71 p).toInt ≤ 126) → (∀ q : Nat, q < m → v 79 q = cd c q ∧ 33 ≤ (cd c q).toInt ∧ (cd c q).toInt ≤ 126) → (lp_X3_append_5 c many n (nI i - 1) s 70 1 = nI (l + i) ∧ (∀ k : Nat, k ≠ 70 → k ≠ 71 → lp_X3_append_5 c many n (nI i - 1) s k = s k) ∧ lp_X3_append_5 c many n (nI i - 1) s 70 3 = s 70 3) ∧ (lp_X7_put_92 c n x x5 (nI i - 1) v).1 = nI (l + i) ∧ (lp_X7_put_92 c n x x5 (nI i - 1) v).2 72 7 = nI (l + i) ∧ (∀ k : Nat, k ≠ 72 → k ≠ 78 → (lp_X7_put_92 c n x x5 (nI i - 1) v).2 k = v k) ∧ (lp_X7_put_92 c n x x5 (nI i - 1) v).2 72 5 = v 72 5 ∧ ∀ p : Nat, p < l + i → lp_X3_append_5 c many n (nI i - 1) s 71 p = (lp_X7_put_92 c n x x5 (nI i - 1) v).2 78 p ∧ 33 ≤ (lp_X3_append_5 c many n (nI i - 1) s 71 p).toInt ∧ (lp_X3_append_5 c many n (nI i - 1) s 71 p).toInt ≤ 126 := by
  intro i
  induction i with
  | zero =>
    intro n l s v h1 h2 h3 hs hv hp hq
    obtain ⟨n', rfl⟩ : ∃ n', n = n' + 1 := ⟨n - 1, by omega⟩
    rw [lp_X3_append_5, lp_X7_put_92, if_pos (by decide), if_pos (by decide)]
    exact ⟨⟨hs, fun k _ _ => rfl, rfl⟩, hv, hv, fun k _ _ => rfl, rfl, hp⟩
  | succ i ih =>
    intro n l s v h1 h2 h3 hs hv hp hq
    obtain ⟨n', rfl⟩ : ∃ n', n = n' + 1 := ⟨n - 1, by omega⟩
    have e1 : nI (i + 1) - 1 = nI i := by
      apply xi_eq.mpr
      rw [xi_sub (by rw [nI_toInt (by omega), xi_1]; omega), nI_toInt (by omega), nI_toInt (by omega), xi_1]
      omega
    have e2 : nI i + (-1) = nI i - 1 := by
      apply xi_eq.mpr
      rw [xi_sub (by rw [nI_toInt (by omega), xi_1]; omega), xi_add (by rw [nI_toInt (by omega), show (-1 : Int32).toInt = -1 by decide]; omega), xi_1, show (-1 : Int32).toInt = -1 by decide]
      omega
    have e80 : (80 : Int32) = nI 80 := by decide
    have hn : ¬ nI i < 0 := by rw [xi_lt, nI_toInt (by omega), xi_0]; omega
    obtain ⟨q1, q2⟩ := hq i (by omega)
    have hcd : (((((c.toUInt64 >>> ((nI i * 8).toInt64.toUInt64 &&& Int64.toUInt64 63)).toInt64) &&& 255).toInt32).toUInt32 % 65536).toInt32 = cd c i := by
      rw [sh_x (by omega)]
      exact cd_ch
    rw [e1, lp_X3_append_5, lp_X7_put_92, if_neg hn, if_neg hn, hs, hv, if_neg (show ¬ 80 ≤ nI l by rw [e80, nI_leI (by decide) (by omega)]; omega), hcd, nI_tn (by omega), nI_tn (by omega), q1, nI_1, e2]
    have h4 := ih n' (l + 1) (xs_u (xs_u s 71 l (cd c i)) 70 1 (nI (l + 1))) (xs_u (xs_u v 78 l (cd c i)) 72 7 (nI (l + 1))) (by omega) (by omega) (by omega) xs_rd_s xs_rd_s (fun p hpl => by
      rw [xs_rd_k (show (71 : Nat) ≠ 70 by decide), xs_rd_k (show (78 : Nat) ≠ 72 by decide)]
      by_cases hpe : p = l
      · subst hpe
        rw [xs_rd_s, xs_rd_s]
        exact ⟨rfl, q2⟩
      · rw [xs_rd_i hpe, xs_rd_i hpe]
        exact hp p (by omega)) (fun q hqm => by
      rw [xs_rd_k (by decide), xs_rd_k (by decide)]
      exact hq q hqm)
    rw [show l + 1 + i = l + (i + 1) by omega] at h4
    obtain ⟨⟨b1, b2, b3⟩, b4, b5, b6, b7, b8⟩ := h4
    refine ⟨⟨b1, fun k x y => ?_, ?_⟩, b4, b5, fun k x y => ?_, ?_, b8⟩
    · rw [b2 k x y, xs_rd_k x, xs_rd_k y]
    · rw [b3, xs_rd_i (by decide), xs_rd_k (by decide)]
    · rw [b6 k x y, xs_rd_k x, xs_rd_k y]
    · rw [b7, xs_rd_i (by decide), xs_rd_k (by decide)]
theorem eq_put {st : xs_S} {c : Int64} (hI : Inv st) : (F_X6_put st c).1 = (F_X7_put (F_X6_put st c).2 c).1 ∧ Inv (F_X7_put (F_X6_put st c).2 c).2 := by
  obtain ⟨d1, d2, d3, d4⟩ := hI.2.2.2.2
  have e80 : (80 : Int32).toInt = 80 := by decide
  obtain ⟨l, hl, el⟩ : ∃ l : Nat, l ≤ 80 ∧ st 72 7 = nI l := ⟨(st 72 7).toInt.toNat, by omega, xi_eq.mpr (by rw [nI_toInt (by omega)]; omega)⟩
  have el1 : st 70 1 = nI l := by rw [d1, el]
  have hsi : F_X3_signsIn st c = lp_X3_signsIn_4 st c 9 (nI 0) (sh c 0) := by
    unfold F_X3_signsIn
    rw [nI_0]
    rfl
  have hpm : ∀ w : xs_S, F_X7_put w c = lp_X7_put_5 c 9 (sh c 0) (nI 0) w := by
    intro w
    unfold F_X7_put
    rw [nI_0]
    rfl
  have keep : ∀ u : xs_S, (∀ k : Nat, k ≠ 79 → u k = st k) → Inv u := fun u h => Inv_c (s := st) (fun k a b c => h k (by omega)) (by rw [h 72 (by decide)]) (by rw [h 72 (by decide)]) hI
  unfold F_X6_put
  rw [hsi, hpm]
  rcases pu_l (st := st) (c := c) 9 0 st (by decide) (by decide) (fun i hi => by omega) with ⟨a1, a2, a3⟩ | ⟨m, x, v', a1, a2, a3, a4, a5, a6⟩
  · rw [a1, if_pos rfl]
    dsimp only
    exact ⟨a2.symm, keep _ a3⟩
  · rw [a3, if_neg (show ¬ nI m = 0 by rw [← nI_0, nI_eq (by omega) (by decide)]; omega)]
    have hlen : F_X3_length st = nI l := el1
    have v7 : v' 72 7 = nI l := by rw [a4 72 (by decide), el]
    rw [hlen, nI_add]
    by_cases hc : nI (l + m) ≤ 80
    · rw [if_pos hc]
      rw [xi_le, nI_toInt (by omega), e80] at hc
      dsimp only
      unfold F_X3_append F_X3_length
      -- the class's side, and the reference's over what the class left
      have hA := ap_l (c := c) (many := nI m) (x5 := nI m) (x := x) a2 m 9 l st v' (by omega) (Nat.le_refl _) (by omega) el1 v7 (fun p hp => by
        have h := d3 p (by rw [el, nI_toInt (by omega)]; omega)
        rw [a4 78 (by decide)]
        exact h) a5
      obtain ⟨⟨b1, b2, b3⟩, -⟩ := hA
      generalize hs1 : lp_X3_append_5 c (nI m) 9 (nI m - 1) st = s1 at *
      rcases pu_l (st := st) (c := c) 9 0 s1 (by decide) (by decide) (fun i hi => by omega) with ⟨g1, g2, g3⟩ | ⟨m', x', w', g1, g2, g3, g4, g5, g6⟩
      · rw [a3, ← nI_0, nI_eq (by omega) (by decide)] at g1
        omega
      · rw [a3, nI_eq (by omega) (by omega)] at g3
        subst g3
        have w7 : w' 72 7 = nI l := by rw [g4 72 (by decide), b2 72 (by decide) (by decide), el]
        rw [g6, w7, nI_add, if_pos (by rw [xi_le, nI_toInt (by omega), e80]; exact hc)]
        have hB := ap_l (c := c) (many := nI m) (x5 := nI m) (x := x') a2 m 9 l st w' (by omega) (Nat.le_refl _) (by omega) el1 w7 (fun p hp => by
          have h := d3 p (by rw [el, nI_toInt (by omega)]; omega)
          rw [g4 78 (by decide), b2 78 (by decide) (by decide)]
          exact h) g5
        rw [hs1] at hB
        obtain ⟨-, c4, c5, c6, c7, c8⟩ := hB
        generalize hR : lp_X7_put_92 c 9 x' (nI m) (nI m - 1) w' = R at *
        have ek : ∀ k : Nat, k ≠ 72 → k ≠ 78 → k ≠ 79 → R.2 k = s1 k := fun k p q r => by rw [c6 k p q, g4 k r]
        refine ⟨by rw [b1, c4], Inv_p (s := st) (fun k p q => ?_) ?_ ⟨?_, ?_, fun i hi => ?_, ?_⟩ hI⟩
        · rw [ek k (by omega) (by omega) (by omega), b2 k (by omega) (by omega)]
        · rw [c7, g4 72 (by decide), b2 72 (by decide) (by decide)]
        · rw [ek 70 (by decide) (by decide) (by decide), b1, c5]
        · rw [c5, nI_toInt (by omega)]
          omega
        · rw [c5, nI_toInt (by omega)] at hi
          rw [ek 71 (by decide) (by decide) (by decide)]
          exact c8 i (by omega)
        · rw [ek 70 (by decide) (by decide) (by decide), b3]
          exact d4
    · rw [if_neg hc]
      dsimp only
      rw [a6, v7, nI_add, if_neg hc]
      exact ⟨rfl, keep _ a4⟩
