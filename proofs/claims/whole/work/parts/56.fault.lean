/-! the first fault -/
def FT (a b : Int32 × xs_S) (w : xs_S) (l : Nat) : Prop := ((a.1 = -6 ∧ b.1 = 1) ∨ (b.1 = 0 ∧ a.1 = b.2 72 8)) ∧ (∃ p' : Nat, PR a.2 b.2 l p') ∧ FW b.2 w
theorem iwz_0 {n : Nat} {s : xs_S} : lp_X7_isWell_19 (n + 1) 0 s = (0, s) := by
  rw [lp_X7_isWell_19, if_pos rfl]
/-- behind an order that was tried -/
theorem ft_o {A : Int32 × xs_S} {w : xs_S} {l p : Nat} {x : Int32} {n n' : Nat} (hO : OR A w l p) (hn : 0 < n') (hgo : ∀ (B : xs_S) (p' : Nat), p < p' → p' < l → PR A.2 B l p' → FT (lp_X3_firstFault_6 n x A.2) (lp_X7_isWell_19 n' 1 B) B l) : FT (if A.1 = 0 then (A.2 70 2, A.2) else if A.2 70 2 = A.2 70 1 then (-6, A.2) else lp_X3_firstFault_6 n x A.2) (if (F_X7_order w 0).1 = 0 then lp_X7_isWell_19 n' 1 (F_X7_order w 0).2 else lp_X7_isWell_19 n' 0 (F_X7_order w 0).2) w l := by
  obtain ⟨m, rfl⟩ : ∃ m, n' = m + 1 := ⟨n' - 1, by omega⟩
  rcases hO with ⟨r, B, p', h1, h2, h3⟩ | ⟨r, B, p', h1, hlt, h2, h3, -⟩
  · rw [if_pos r, h1 0, if_neg (show ¬ ((-3 : Int32), B).1 = 0 by dsimp only; decide)]
    dsimp only
    rw [iwz_0]
    exact ⟨Or.inr ⟨rfl, by dsimp only; rw [h2.2.2.2.1, h2.2.2.2.2.1]⟩, ⟨p', h2⟩, h3⟩
  · rw [if_neg (show ¬ A.1 = 0 by rw [r]; decide), h1 0, if_pos (show (0 : Int32) = 0 from rfl), if_pos (show ((0 : Int32), B).1 = 0 from rfl)]
    dsimp only
    have h2' := h2
    obtain ⟨a1, a2, a3, a4, a5, a6, a7⟩ := h2'
    by_cases c : p' = l
    · rw [if_pos (show A.2 70 2 = A.2 70 1 by rw [a4, a1, c]), lp_X7_isWell_19, if_neg (show ¬ ((1 : Int32) = 0) by decide), if_pos (show B 72 7 ≤ B 72 8 by rw [a2, a5, c]; exact nI_le (Nat.le_refl _) (by omega))]
      exact ⟨Or.inl ⟨rfl, rfl⟩, ⟨p', h2⟩, h3⟩
    · rw [if_neg (show ¬ A.2 70 2 = A.2 70 1 by rw [a4, a1, nI_eq (by omega) (by omega)]; exact c)]
      obtain ⟨g1, g2, g3⟩ := hgo B p' hlt (by omega) h2
      exact ⟨g1, g2, FW_t g3 h3⟩
theorem ft_l {l : Nat} : ∀ (d p k n n' : Nat) (u w : xs_S), l - p = d → 1 ≤ p → k ≤ p → p < l → d < n → d + 1 < n' → PR u w l p → FT (lp_X3_firstFault_6 n (nI k) u) (lp_X7_isWell_19 n' 1 w) w l := by
  intro d
  induction d using Nat.strongRecOn with
  | _ d ih =>
    intro p k n n' u w h1 h2 h3 h4 h5 h6 h
    obtain ⟨m, rfl⟩ : ∃ m, n = m + 1 := ⟨n - 1, by omega⟩
    obtain ⟨m', rfl⟩ : ∃ m, n' = m + 1 := ⟨n' - 1, by omega⟩
    have h' := h
    obtain ⟨a1, a2, a3, a4, a5, a6, a7⟩ := h'
    have e80 : (80 : Int32) = nI 80 := by decide
    rw [lp_X3_firstFault_6, lp_X7_isWell_19, if_neg (show ¬ 80 ≤ nI k by rw [e80, nI_leI (by decide) (by omega)]; omega), if_neg (show ¬ ((1 : Int32) = 0) by decide), if_neg (show ¬ w 72 7 ≤ w 72 8 by rw [a2, a5, nI_leI (by omega) (by omega)]; omega), no_pb, if_neg (show ¬ u 70 2 ≤ 0 by rw [a4, xi_le, nI_toInt (by omega), xi_0]; omega), nI_1]
    obtain ⟨t1, t2, t3, t4⟩ := pr_take (x := 59) h (by decide)
    generalize F_X3_take u 59 = T at t1 t2 ⊢
    generalize F_X7_takes w 59 = U at t1 t3 t4 ⊢
    rcases t1 with ⟨s1, s2, s3⟩ | ⟨s1, s2, hq, s3⟩
    · obtain ⟨q, rfl⟩ : ∃ q, m' = q + 1 := ⟨m' - 1, by omega⟩
      rw [if_pos s1, if_pos s2, iwz_0, if_pos (show ((0 : Int32), T.2).1 = 0 from rfl)]
      exact ⟨Or.inr ⟨rfl, by dsimp only; rw [s3.2.2.2.1, s3.2.2.2.2.1]⟩, ⟨p, s3⟩, t3⟩
    · rw [if_neg (show ¬ T.1 = 0 by rw [s1]; decide), if_neg (show ¬ U.1 = 0 by rw [s2]; decide)]
      have hO := pr_ord s3
      obtain ⟨g1, g2, g3⟩ := ft_o (x := nI (k + 1)) (n := m) (n' := m') hO (by omega) (fun B p' x1 x2 x3 => ih (l - p') (by omega) p' (k + 1) m m' _ B rfl (by omega) (by omega) x2 (by omega) (by omega) x3)
      exact ⟨g1, g2, FW_t g3 t3⟩
theorem ft_all {u w : xs_S} {l : Nat} (h : PR u w l 0) : FT (lp_X3_firstFault_6 81 0 u) (if (F_X7_order w 0).1 = 0 then lp_X7_isWell_19 83 1 (F_X7_order w 0).2 else lp_X7_isWell_19 83 0 (F_X7_order w 0).2) w l := by
  have h' := h
  obtain ⟨a1, a2, a3, a4, a5, a6, a7⟩ := h'
  rw [show (81 : Nat) = 80 + 1 from rfl, lp_X3_firstFault_6, if_neg (show ¬ ((80 : Int32) ≤ 0) by decide), no_pb, if_pos (show u 70 2 ≤ 0 by rw [a4, nI_0]; decide), show (0 : Int32) + 1 = nI 1 by decide]
  exact ft_o (x := nI 1) (n := 80) (n' := 83) (pr_ord h) (by decide) (fun B p' x1 x2 x3 => ft_l (l - p') p' 1 80 83 _ B rfl (by omega) (by omega) x2 (by omega) (by omega) x3)
theorem pd_nl {st : xs_S} (hD : PD st) : ∃ l : Nat, l ≤ 80 ∧ st 70 1 = nI l ∧ st 72 7 = nI l := by
  obtain ⟨d1, d2, d3, d4⟩ := hD
  refine ⟨(st 72 7).toInt.toNat, by omega, ?_, ?_⟩
  · rw [d1]
    exact xi_eq.mpr (by rw [nI_toInt (by omega)]; omega)
  · exact xi_eq.mpr (by rw [nI_toInt (by omega)]; omega)
theorem pd_pr {st s1 : xs_S} {l : Nat} (hD : PD st) (hl : l ≤ 80 ∧ st 70 1 = nI l ∧ st 72 7 = nI l) (e72 : s1 72 7 = st 72 7) (e78 : s1 78 = st 78) : PR (xs_u st 70 2 0) (xs_u s1 72 8 0) l 0 := by
  obtain ⟨d1, d2, d3, d4⟩ := hD
  obtain ⟨h1, h2, h3⟩ := hl
  refine ⟨by rw [xs_rd_i (by decide)]; exact h2, by rw [xs_rd_i (by decide), e72]; exact h3, h1, by rw [xs_rd_s]; exact nI_0.symm, by rw [xs_rd_s]; exact nI_0.symm, by omega, fun i hi => ?_⟩
  rw [xs_rd_k (by decide), xs_rd_k (by decide), e78]
  exact d3 i (by rw [h3, nI_toInt (by omega)]; omega)
theorem eq_fault {st : xs_S} (hI : Inv st) : (F_X6_fault st).1 = (F_X7_fault (F_X6_fault st).2).1 ∧ Inv (F_X7_fault (F_X6_fault st).2).2 := by
  have hD := hI.2.2.2.2
  obtain ⟨l, hl⟩ := pd_nl hD
  have hs1 : ∀ k : Nat, k ≠ 70 → (F_X3_firstFault st).2 k = st k := fun k hk => ff_n hk
  have hpw : PW (F_X3_startReading st) := by
    obtain ⟨q1, q2, q3, q4, q5, q6, q7⟩ := pd_pr (s1 := st) hD hl rfl rfl
    unfold F_X3_startReading
    refine ⟨⟨by rw [q4, nI_0]; decide, by rw [q4, q1, nI_0, nI_toInt (by omega), xi_0]; omega, by rw [q1, nI_toInt (by omega)]; omega⟩, fun i hi => ?_⟩
    rw [q1, nI_toInt (by omega)] at hi
    exact (q7 i (by omega)).2
  have hkr := ff_k hpw hD.2.2.2
  have hpr := pd_pr (s1 := (F_X3_firstFault st).2) hD hl (by rw [hs1 72 (by decide)]) (hs1 78 (by decide))
  have hft := ft_all hpr
  have ea : lp_X3_firstFault_6 81 0 (xs_u st 70 2 0) = F_X3_firstFault st := rfl
  rw [ea] at hft
  unfold F_X6_fault F_X7_fault F_X7_isWell
  dsimp only
  generalize hs : F_X3_firstFault st = a at *
  generalize hb : (if (F_X7_order (xs_u a.2 72 8 0) 0).1 = 0 then lp_X7_isWell_19 83 1 (F_X7_order (xs_u a.2 72 8 0) 0).2 else lp_X7_isWell_19 83 0 (F_X7_order (xs_u a.2 72 8 0) 0).2) = b at *
  obtain ⟨f1, ⟨p', hp⟩, f3⟩ := hft
  have fw := FW_t f3 FW_8
  have hk : ∀ k : Nat, k ≠ 70 → k ≠ 72 → k ≠ 80 → b.2 k = st k := fun k x y z => by rw [fw.1 k y z, hs1 k x]
  have h70 : b.2 70 = a.2 70 := fw.1 70 (by decide) (by decide)
  have hInv : Inv b.2 := by
    obtain ⟨q1, q2, q3, q4, q5, q6, q7⟩ := hp
    refine Inv_p (s := st) (fun k x y => hk k (by omega) (by omega) (by omega)) (by rw [fw.2 5 (by decide), hs1 72 (by decide)]) ⟨?_, ?_, fun i hi => ?_, ?_⟩ hI
    · rw [h70, q1, q2]
    · rw [q2, nI_toInt (by omega)]
      omega
    · rw [q2, nI_toInt (by omega)] at hi
      rw [fw.1 71 (by decide) (by decide)]
      exact q7 i (by omega)
    · rw [h70]
      exact hkr
  rcases f1 with ⟨x1, x2⟩ | ⟨x1, x2⟩
  · rw [if_neg (show ¬ b.1 = 0 by rw [x2]; decide)]
    exact ⟨x1, hInv⟩
  · rw [if_pos x1]
    exact ⟨x2, hInv⟩
