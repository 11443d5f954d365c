/-! the law's check of the ends by order -/
theorem ek_l {u : xs_S} {P : Nat → Bool} {lo hi : Nat → Int} {r : Nat} (hG : GA u P lo hi) (hB : BD P lo hi) : ∀ (n k c : Nat), k + n = 31 → k ≤ 30 → cn (PE P) 30 - cn (PE P) k < c → (∃ e : Nat, k ≤ e ∧ e < 30 ∧ PE P e = true ∧ BE P lo hi (KE lo hi e) = r) → ∃ e : Nat, e < 30 ∧ PE P e = true ∧ BE P lo hi (KE lo hi e) = r ∧ (lp_X5_endKey_2 u (nI r) c (nI (cn (PE P) k))).toInt = KE lo hi e := by
  have h30 := cn_le (P := PE P) 30
  have hbe : ∀ x : Int, BE P lo hi x ≤ 30 := fun x => cn_le 30
  intro n
  induction n with
  | zero => intro k c h1 h2; omega
  | succ n ih =>
    intro k c h1 h2 h3 hex
    obtain ⟨e0, hk0, he0, hp0, hr0⟩ := hex
    have hr30 : r ≤ 30 := by rw [← hr0]; exact hbe _
    have hk30 : k < 30 := by omega
    by_cases hp : PE P k = true
    · have hu := cn_up hp
      have hc := cn_bN (P := PE P) (k := k + 1) (N := 30) (by omega)
      have hkk := g_key hG hB hk30 hp
      obtain ⟨c', rfl⟩ : ∃ c', c = c' + 1 := ⟨c - 1, by omega⟩
      rw [lp_X5_endKey_2, g_ends hG, if_neg (show ¬ nI (cn (PE P) 30) ≤ nI (cn (PE P) k) by rw [nI_leI (by omega) (by omega)]; omega), g_below hG hB, hkk]
      by_cases hr : BE P lo hi (KE lo hi k) = r
      · rw [if_pos (by rw [hr])]
        exact ⟨k, hk30, hp, hr, hkk⟩
      · have hne : ¬ nI (BE P lo hi (KE lo hi k)) = nI r := by
          intro e
          have e2 := congrArg Int32.toInt e
          have hb := hbe (KE lo hi k)
          rw [nI_toInt (by omega), nI_toInt (by omega)] at e2
          exact hr (by omega)
        rw [if_neg hne, nI_1, ← hu]
        refine ih (k + 1) c' (by omega) (by omega) (by omega) ⟨e0, ?_, he0, hp0, hr0⟩
        by_cases hek : e0 = k
        · subst hek; exact absurd hr0 hr
        · omega
    · have hp' : PE P k = false := by simpa using hp
      have hu := cn_no hp'
      rw [← hu]
      refine ih (k + 1) c (by omega) (by omega) (by omega) ⟨e0, ?_, he0, hp0, hr0⟩
      by_cases hek : e0 = k
      · subst hek; exact absurd hp0 hp
      · omega
section EO
variable {f : Nat → Int32}
/-- the end with a rank -/
def RK (f : Nat → Int32) (r e : Nat) : Prop := e < 30 ∧ PE (rP f (-1)) e = true ∧ BE (rP f (-1)) (rLo f 0) (rHi f 0) (KE (rLo f 0) (rHi f 0) e) = r
theorem rk_ex {r : Nat} (hr : r < 2 * cn (rP f (-1)) 15) : ∃ e : Nat, RK f r e := by
  rw [← pe_30] at hr
  exact rank_ex (lo := rLo f 0) (hi := rHi f 0) r hr
theorem rk_u {r e g : Nat} (he : RK f r e) (hg : RK f r g) : e = g := by
  have key : ∀ a b : Nat, RK f r a → RK f r b → ¬ KE (rLo f 0) (rHi f 0) a < KE (rLo f 0) (rHi f 0) b := by
    intro a b ha hb hlt
    have h1 : BE (rP f (-1)) (rLo f 0) (rHi f 0) (KE (rLo f 0) (rHi f 0) a) < BE (rP f (-1)) (rLo f 0) (rHi f 0) (KE (rLo f 0) (rHi f 0) b) := by
      refine cn_lt 30 (fun j hj hp => ?_) ⟨a, ha.1, ?_, ?_⟩
      · rw [Bool.and_eq_true] at hp ⊢
        exact ⟨hp.1, decide_eq_true (by have := of_decide_eq_true hp.2; omega)⟩
      · rw [decide_eq_false (by omega), Bool.and_false]
      · rw [ha.2.1, decide_eq_true hlt]
        rfl
    rw [ha.2.2, hb.2.2] at h1
    omega
  have h1 := key e g he hg
  have h2 := key g e hg he
  exact (ke_inj (lo := rLo f 0) (hi := rHi f 0) he.1 hg.1 (by omega)).symm
theorem rk_lt {r e g : Nat} (he : RK f r e) (hg : RK f (r + 1) g) : KE (rLo f 0) (rHi f 0) e < KE (rLo f 0) (rHi f 0) g := by
  by_cases h : KE (rLo f 0) (rHi f 0) e < KE (rLo f 0) (rHi f 0) g
  · exact h
  · exfalso
    have h1 : BE (rP f (-1)) (rLo f 0) (rHi f 0) (KE (rLo f 0) (rHi f 0) g) ≤ BE (rP f (-1)) (rLo f 0) (rHi f 0) (KE (rLo f 0) (rHi f 0) e) := by
      refine cn_mono 30 (fun j hj hp => ?_)
      rw [Bool.and_eq_true] at hp ⊢
      exact ⟨hp.1, decide_eq_true (by have := of_decide_eq_true hp.2; omega)⟩
    rw [he.2.2, hg.2.2] at h1
    omega
theorem q_end {st : xs_S} {r e : Nat} (hv : VW st f) (hr : r < 2 * cn (rP f (-1)) 15) (hk : RK f r e) : (F_X6_end st (nI r) 0).1.toInt = TE (rLo f 0) (rHi f 0) e + 100000 ∧ (F_X6_end st (nI r) 1).1 = nI (e % 15) ∧ (F_X6_end st (nI r) 2).1 = nI (e / 15) := by
  have hG := v_ga hv
  have hB := v_bd hv
  have hc := cn_le (P := rP f (-1)) 15
  obtain ⟨e', he', hp', hr', hkey⟩ := ek_l (r := r) hG hB 31 0 31 (by decide) (by decide) (by rw [pe_30]; omega) ⟨e, Nat.zero_le _, hk.1, hk.2.1, hk.2.2⟩
  have ee : e' = e := rk_u ⟨he', hp', hr'⟩ hk
  subst ee
  rw [cn_z] at hkey
  have hkey : (F_X5_endKey (F_X6_gatherNow st (-1)) (nI r)).toInt = KE (rLo f 0) (rHi f 0) e' := hkey
  have hkey2 := hkey
  unfold KE at hkey2
  obtain ⟨k1, k2, k3⟩ := k_parts (s := F_X6_gatherNow st (-1)) hk.1 hkey2
  have hte := te_b hB hk.1 hk.2.1
  have hlt : nI r < F_X5_ends (F_X6_gatherNow st (-1)) := by rw [g_ends hG, pe_30, xi_lt, nI_toInt (by omega), nI_toInt (by omega)]; omega
  have h0 : ¬ nI r < 0 := by rw [xi_lt, xi_0, nI_toInt (by omega)]; omega
  refine ⟨?_, ?_, ?_⟩
  · unfold F_X6_end
    rw [if_neg h0, if_pos hlt, if_pos (show (0 : Int32).toInt = 0 by decide)]
    dsimp only
    rw [xi_add (by rw [k1, e105]; omega), k1, e105]
  · unfold F_X6_end
    rw [if_neg h0, if_pos hlt, if_neg (show ¬ (1 : Int32).toInt = 0 by decide), if_pos (show (1 : Int32).toInt = 1 by decide)]
    exact k2
  · unfold F_X6_end
    rw [if_neg h0, if_pos hlt, if_neg (show ¬ (2 : Int32).toInt = 0 by decide), if_neg (show ¬ (2 : Int32).toInt = 1 by decide), if_pos (show (2 : Int32).toInt = 2 by decide)]
    exact k3
theorem q_endn {st : xs_S} {a : Int32} (hv : VW st f) (ha : a.toInt < 0 ∨ 2 * (cn (rP f (-1)) 15 : Int) ≤ a.toInt) : (F_X6_end st a 0).1 = -1 := by
  have hG := v_ga hv
  have hc := cn_le (P := rP f (-1)) 15
  unfold F_X6_end
  by_cases h : a < 0
  · rw [if_pos h]
  · rw [if_neg h, if_neg (show ¬ a < F_X5_ends (F_X6_gatherNow st (-1)) by
      rw [xi_lt, xi_0] at h
      rw [g_ends hG, pe_30, xi_lt, nI_toInt (by omega)]
      omega)]
/-- the dials of which an end of a side stands among the first r -/
def SD (f : Nat → Int32) (side r : Nat) (j : Nat) : Bool := rP f (-1) j && decide (BE (rP f (-1)) (rLo f 0) (rHi f 0) (KE (rLo f 0) (rHi f 0) (15 * side + j)) < r)
theorem sd_or {side r e : Nat} (hk : RK f r e) (hs : side < 2) (h : e / 15 = side) : mk (SD f side r) 15 ||| ((1 : Int32) <<< (nI (e % 15) &&& 31)) = mk (SD f side (r + 1)) 15 := by
  have he := hk.1
  refine i32_ext (fun j hj => ?_)
  by_cases hj31 : j < 31
  · rw [bt_or (by omega) hj31, bt_mk hj 15 (Nat.le_refl _), bt_mk hj 15 (Nat.le_refl _)]
    by_cases hj5 : j < 15
    · rw [decide_eq_true hj5, Bool.true_and, Bool.true_and]
      unfold SD
      cases hp : rP f (-1) j with
      | false =>
        rw [Bool.false_and, Bool.false_and, Bool.false_or]
        refine decide_eq_false (fun h2 => ?_)
        have h3 : PE (rP f (-1)) e = rP f (-1) j := by unfold PE; rw [h2]
        rw [hk.2.1, hp] at h3
        cases h3
      | true =>
        rw [Bool.true_and, Bool.true_and]
        by_cases h2 : j = e % 15
        · have h3 : 15 * side + j = e := by omega
          rw [h3, hk.2.2, decide_eq_true h2, Bool.or_true]
          exact (decide_eq_true (by omega)).symm
        · rw [decide_eq_false h2, Bool.or_false]
          refine decide_eq_decide.mpr ⟨fun h4 => by omega, fun h4 => ?_⟩
          by_cases h5 : BE (rP f (-1)) (rLo f 0) (rHi f 0) (KE (rLo f 0) (rHi f 0) (15 * side + j)) = r
          · exfalso
            have h6 := rk_u (f := f) (r := r) (e := 15 * side + j) (g := e) ⟨by omega, by unfold PE; rw [show (15 * side + j) % 15 = j by omega]; exact hp, h5⟩ hk
            omega
          · omega
    · rw [decide_eq_false hj5, Bool.false_and, Bool.false_and, Bool.false_or]
      exact decide_eq_false (by omega)
  · have : j = 31 := by omega
    subst this
    have h7 : bt ((1 : Int32) <<< (nI (e % 15) &&& 31)) 31 = false := by
      have h8 : ∀ k, k < 15 → bt ((1 : Int32) <<< (nI k &&& 31)) 31 = false := by decide +kernel
      exact h8 _ (by omega)
    have h9 : ∀ x y : Int32, bt (x ||| y) 31 = (bt x 31 || bt y 31) := fun x y => by
      unfold bt
      rw [Int32.toBitVec_or, BitVec.getLsbD_or]
    rw [h9, h7, Bool.or_false, bt_mk hj 15 (Nat.le_refl _), bt_mk hj 15 (Nat.le_refl _), decide_eq_false (by omega), Bool.false_and, Bool.false_and]
theorem sd_no {side r e : Nat} (hk : RK f r e) (hs : side < 2) (h : ¬ e / 15 = side) : mk (SD f side (r + 1)) 15 = mk (SD f side r) 15 := by
  refine mk_ext 15 (fun j hj => ?_)
  unfold SD
  cases hp : rP f (-1) j with
  | false => rfl
  | true =>
    rw [Bool.true_and, Bool.true_and]
    refine decide_eq_decide.mpr ⟨fun h4 => ?_, fun h4 => by omega⟩
    by_cases h5 : BE (rP f (-1)) (rLo f 0) (rHi f 0) (KE (rLo f 0) (rHi f 0) (15 * side + j)) = r
    · exfalso
      have h6 := rk_u (f := f) (r := r) (e := 15 * side + j) (g := e) ⟨by omega, by unfold PE; rw [show (15 * side + j) % 15 = j by omega]; exact hp, h5⟩ hk
      have he := hk.1
      omega
    · omega
theorem sd_0 {side : Nat} : mk (SD f side 0) 15 = 0 := by
  have : ∀ n : Nat, mk (SD f side 0) n = 0 := by
    intro n
    induction n with
    | zero => rfl
    | succ n ih =>
      rw [mk_no (by unfold SD; rw [decide_eq_false (by omega), Bool.and_false])]
      exact ih
  exact this 15
theorem sd_all {side : Nat} (hs : side < 2) : mk (SD f side (2 * cn (rP f (-1)) 15)) 15 = mk (rP f (-1)) 15 := by
  refine mk_ext 15 (fun j hj => ?_)
  unfold SD
  cases hp : rP f (-1) j with
  | false => rfl
  | true =>
    rw [Bool.true_and]
    have h := be_lt (P := rP f (-1)) (lo := rLo f 0) (hi := rHi f 0) (e := 15 * side + j) (by omega) (by unfold PE; rw [show (15 * side + j) % 15 = j by omega]; exact hp)
    rw [pe_30] at h
    exact decide_eq_true h
end EO
/-- what the law holds of the end that it saw last -/
def PV (f : Nat → Int32) (r : Nat) (x4 x5 x6 : Int32) : Prop := r = 0 ∨ ∃ e : Nat, RK f (r - 1) e ∧ x4.toInt = TE (rLo f 0) (rHi f 0) e + 100000 ∧ x5 = nI (e / 15) ∧ x6 = nI (e % 15)
theorem or_l {f : Nat → Int32} : ∀ (n r : Nat) (s : xs_S) (x4 x5 x6 : Int32), r + n = 31 → r ≤ 2 * cn (rP f (-1)) 15 → VW s f → PV f r x4 x5 x6 → (lp_L_inOrder_27 n (nI (2 * cn (rP f (-1)) 15)) (mk (SD f 0 r) 15) (mk (SD f 1 r) 15) x4 x5 x6 (nI r) s).1 = 1 ∧ FR s (lp_L_inOrder_27 n (nI (2 * cn (rP f (-1)) 15)) (mk (SD f 0 r) 15) (mk (SD f 1 r) 15) x4 x5 x6 (nI r) s).2 := by
  intro n
  induction n with
  | zero => intro r s x4 x5 x6 h1 h2; have := cn_le (P := rP f (-1)) 15; omega
  | succ n ih =>
    intro r s x4 x5 x6 h1 h2 hv hpv
    have hc := cn_le (P := rP f (-1)) 15
    rw [lp_L_inOrder_27]
    by_cases hr : r = 2 * cn (rP f (-1)) 15
    · rw [if_pos (show nI (2 * cn (rP f (-1)) 15) ≤ nI r by rw [nI_leI (by omega) (by omega)]; omega), hr, sd_all (by decide), sd_all (by decide), if_pos (v_mask hv).symm, if_pos rfl]
      have ha : (F_X6_end s (nI (2 * cn (rP f (-1)) 15)) 0).1 = -1 := q_endn hv (Or.inr (by rw [nI_toInt (by omega)]; omega))
      have r1 : FR s (F_X6_end s (nI (2 * cn (rP f (-1)) 15)) 0).2 := fun c hc => fr_end hc
      rw [if_pos ha]
      generalize (F_X6_end s (nI (2 * cn (rP f (-1)) 15)) 0).2 = T1 at r1 ⊢
      have hb : (F_X6_end T1 (-1) 0).1 = -1 := q_endn (r1.VW hv) (Or.inl (by decide))
      rw [if_pos hb]
      exact ⟨rfl, r1.tr (fun c hc => fr_end hc : FR T1 (F_X6_end T1 (-1) 0).2)⟩
    · have hrl : r < 2 * cn (rP f (-1)) 15 := by omega
      obtain ⟨e, hk⟩ := rk_ex hrl
      have he := hk.1
      rw [if_neg (show ¬ nI (2 * cn (rP f (-1)) 15) ≤ nI r by rw [nI_leI (by omega) (by omega)]; omega), nI_1]
      have a0 := (q_end hv hrl hk).1
      have r1 : FR s (F_X6_end s (nI r) 0).2 := fun c hc => fr_end hc
      generalize (F_X6_end s (nI r) 0).1 = y0 at a0 ⊢
      generalize (F_X6_end s (nI r) 0).2 = T1 at r1 ⊢
      have a1 := (q_end (r1.VW hv) hrl hk).2.1
      have r2 := r1.tr (fun c hc => fr_end hc : FR T1 (F_X6_end T1 (nI r) 1).2)
      generalize (F_X6_end T1 (nI r) 1).1 = y1 at a1 ⊢
      generalize (F_X6_end T1 (nI r) 1).2 = T2 at r2 ⊢
      have a2 := (q_end (r2.VW hv) hrl hk).2.2
      have r3 := r2.tr (fun c hc => fr_end hc : FR T2 (F_X6_end T2 (nI r) 2).2)
      generalize (F_X6_end T2 (nI r) 2).1 = y2 at a2 ⊢
      generalize (F_X6_end T2 (nI r) 2).2 = T3 at r3 ⊢
      subst a1
      subst a2
      have v3 := r3.VW hv
      have hp : rP f (-1) (e % 15) = true := hk.2.1
      have h15 : e % 15 < 15 := by omega
      have hdl := v_Plt v3 h15 hp
      have hs2 : e / 15 = 0 ∨ e / 15 = 1 := by omega
      have c3 : y0 = F_X6_of T3 (nI (e % 15)) (nI (e / 15)) := by
        apply xi_eq.mpr
        rw [a0]
        rcases hs2 with h | h
        · rw [h, nI_0, o_lo v3 h15 hdl hp]
          unfold TE
          rw [if_pos (by omega), show e % 15 = e by omega]
        · rw [h, show nI 1 = 1 by decide, o_hi v3 h15 hdl hp]
          unfold TE
          rw [if_neg (by omega), show e % 15 = e - 15 by omega]
      rw [if_neg (show ¬ nI (e % 15) < 0 by rw [xi_lt, xi_0, nI_toInt (by omega)]; omega), if_neg (show ¬ nI (e / 15) < 0 by rw [xi_lt, xi_0, nI_toInt (by omega)]; omega), if_pos c3]
      have hpv2 : PV f (r + 1) y0 (nI (e / 15)) (nI (e % 15)) := Or.inr ⟨e, hk, a0, rfl, rfl⟩
      have ih1 := ih (r + 1) T3 y0 (nI (e / 15)) (nI (e % 15)) (by omega) (by omega) v3 hpv2
      have ih2 : ∀ X : Int32 × xs_S, X = lp_L_inOrder_27 n (nI (2 * cn (rP f (-1)) 15)) (mk (SD f 0 (r + 1)) 15) (mk (SD f 1 (r + 1)) 15) y0 (nI (e / 15)) (nI (e % 15)) (nI (r + 1)) T3 → X.1 = 1 ∧ FR s X.2 := by
        intro X hX
        rw [hX]
        exact ⟨ih1.1, r3.tr ih1.2⟩
      -- the order
      have hord : ¬ nI r ≤ 0 → ¬ y0 < x4 ∧ (x4 = y0 → ¬ nI (e / 15) < x5 ∧ (x5 = nI (e / 15) → x6 < nI (e % 15))) := by
        intro h0
        rcases hpv with h | ⟨g, hg, g4, g5, g6⟩
        · subst h
          exact absurd (show nI 0 ≤ 0 by decide) h0
        · have hg1 := hg.1
          have hr0 : r ≠ 0 := fun h => h0 (by rw [h]; decide)
          have hlt := rk_lt hg (by rw [show r - 1 + 1 = r by omega]; exact hk)
          rw [ke_lt he hg1] at hlt
          subst g5
          subst g6
          refine ⟨fun h => ?_, fun h => ⟨fun h2 => ?_, fun h2 => ?_⟩⟩
          · rw [xi_lt, a0, g4] at h
            omega
          · have h3 := congrArg Int32.toInt h
            rw [a0, g4] at h3
            rw [xi_lt, nI_toInt (by omega), nI_toInt (by omega)] at h2
            have h4 : g < e := by omega
            have h5 : g / 15 ≤ e / 15 := Nat.div_le_div_right (by omega)
            omega
          · have h3 := congrArg Int32.toInt h
            rw [a0, g4] at h3
            have h2' := congrArg Int32.toInt h2
            rw [nI_toInt (by omega), nI_toInt (by omega)] at h2'
            rw [xi_lt, nI_toInt (by omega), nI_toInt (by omega)]
            omega
      have fin : ∀ X Y : Int32 × xs_S, (if nI r ≤ 0 then X else (if y0 < x4 then Y else (if x4 = y0 then (if nI (e / 15) < x5 then Y else (if x5 = nI (e / 15) then (if x6 < nI (e % 15) then X else Y) else X)) else X))) = X := by
        intro X Y
        by_cases h0 : nI r ≤ 0
        · rw [if_pos h0]
        · obtain ⟨o1, o2⟩ := hord h0
          rw [if_neg h0, if_neg o1]
          by_cases h4 : x4 = y0
          · obtain ⟨o3, o4⟩ := o2 h4
            rw [if_pos h4, if_neg o3]
            by_cases h5 : x5 = nI (e / 15)
            · rw [if_pos h5, if_pos (o4 h5)]
            · rw [if_neg h5]
          · rw [if_neg h4]
      rcases hs2 with h | h
      · have k1 := sd_or hk (side := 0) (by decide) h
        have k2 := sd_no hk (side := 1) (by decide) (by omega)
        rw [if_pos (show nI (e / 15) = 0 by rw [h]; exact nI_0), if_neg (show ¬ nI (e / 15) = 1 by rw [h]; decide), fin, Int32.or_zero]
        exact ih2 _ (by rw [k1, k2])
      · have k1 := sd_or hk (side := 1) (by decide) h
        have k2 := sd_no hk (side := 0) (by decide) (by omega)
        rw [if_neg (show ¬ nI (e / 15) = 0 by rw [h]; decide), if_pos (show nI (e / 15) = 1 by rw [h]; decide), fin, Int32.or_zero]
        exact ih2 _ (by rw [k1, k2])
theorem law_order {s : xs_S} {f : Nat → Int32} (hv : VW s f) : (F_L_inOrder s).1 = 1 ∧ FR s (F_L_inOrder s).2 := by
  have hc := cn_le (P := rP f (-1)) 15
  have e2 : (2 : Int32).toInt = 2 := by decide
  have eP : cn (bt (F_X6_count s 2)) 15 = cn (rP f (-1)) 15 := cn_ext 15 (fun j hj => by rw [v_mask hv, bt_mk (by omega) 15 (Nat.le_refl _), decide_eq_true hj, Bool.true_and])
  have en : 2 * F_L_size s (F_X6_count s 2) = nI (2 * cn (rP f (-1)) 15) := by
    apply xi_eq.mpr
    rw [sz_v, eP, xi_mul (by rw [e2, nI_toInt (by omega)]; omega), e2, nI_toInt (by omega), nI_toInt (by omega)]
    omega
  have h := or_l (f := f) 31 0 s 0 0 0 (by omega) (by omega) hv (Or.inl rfl)
  rw [sd_0, sd_0, nI_0] at h
  unfold F_L_inOrder
  rw [en]
  exact h
