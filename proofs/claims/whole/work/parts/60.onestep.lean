/-! frames of an order -/
theorem pb_n {st : xs_S} {k : Nat} (hk : k ≠ 70) : (PB st).2 k = st k := by
  unfold PB
  repeat' (with_reducible refine it_n ?_ ?_)
  all_goals try dsimp only
  all_goals simp only [ta_n hk, tf_n hk, ts_n hk, tt_n hk, xs_rd_k hk]
theorem co_n' {s : xs_S} : CF (F_X6_carryOrder s).2 s := fun k p q => co_n (Or.inr p)
/-- one order: read and carried out -/
theorem co_s {u w : xs_S} {l p q : Nat} {T : Nat → Int32} (h : PR u w l p) (hT : ∀ i : Nat, i < l → w 78 i = T i) (hrd : RD T l p q) (hC : CR 1 u (w 73)) (hR : RowOK (w 73)) : (PB u).1 = 1 ∧ ((PB u).2 70 2 = nI q ∧ (PB u).2 70 1 = nI l) ∧ (F_X6_carryOrder (PB u).2).1 = (F_X7_order w 1).1 ∧ CR 1 (F_X6_carryOrder (PB u).2).2 ((F_X7_order w 1).2 73) ∧ RowOK ((F_X7_order w 1).2 73) ∧ MF (F_X7_order w 1).2 w ∧ (F_X7_order w 1).2 72 7 = nI l ∧ (F_X7_order w 1).2 72 8 = nI q ∧ CF (F_X6_carryOrder (PB u).2).2 u := by
  obtain ⟨x1, x2⟩ := hrd.2.2 u w h hT
  rcases pr_ord h with ⟨r, B, q', h3, h4, h5⟩ | ⟨r, B, q', h3, h4, h5, h6, h7⟩
  · rw [r] at x1
    exact absurd x1 (by decide)
  · have ho : F_X7_order w 1 = act ((PB u).2 70 3) B := by rw [h3 1, if_neg (show ¬ ((1 : Int32) = 0) by decide)]
    have e73 : B 73 = w 73 := h6.1 73 (by decide) (by decide)
    have hCB : CR 1 (PB u).2 (B 73) := by
      rw [e73]
      exact CR_c (fun k a b => pb_n (by omega)) hC
    obtain ⟨g1, g2, g3⟩ := act_e hCB (by rw [e73]; exact hR) h7
    obtain ⟨m1, m2⟩ := act_n (x := (PB u).2 70 3) (w := B)
    rw [ho]
    refine ⟨r, ⟨x2, h5.1⟩, g1, g2, g3, MF_t m1 (FW_M h6), ?_, ?_, fun k a b => ?_⟩
    · rw [m2 7 (Or.inl rfl)]; exact h5.2.1
    · rw [m2 8 (Or.inr rfl), ← x2, h5.2.2.2.1, h5.2.2.2.2.1]
    · rw [co_n (Or.inr a)]; exact pb_n b
theorem co_l {l : Nat} {T : Nat → Int32} (hl : l ≤ 80) : ∀ (d n q k nC nM : Nat) (u w : xs_S), l - q = d → d < nC → d + 1 < nM → 1 ≤ q → q ≤ l → k ≤ q → u 70 1 = nI l → u 70 2 = nI q → w 72 7 = nI l → w 72 8 = nI (q + 1) → (∀ i : Nat, i < l → w 78 i = T i ∧ u 71 i = w 78 i ∧ 33 ≤ (u 71 i).toInt ∧ (u 71 i).toInt ≤ 126) → (q = l ∨ (q < l ∧ T q = 59 ∧ WL T l n (q + 1))) → CR 1 u (w 73) → RowOK (w 73) → CE (lp_X6_carryOut_35 nC (nI k) u) (lp_X7_carryOut_23 nM (nI k) 1 w) u w := by
  intro d
  induction d using Nat.strongRecOn with
  | _ d ih =>
    intro n q k nC nM u w h1 h2 h3 h4 h5 h6 a1 a2 a3 a4 a5 hW hC hR
    obtain ⟨c, rfl⟩ : ∃ m, nC = m + 1 := ⟨nC - 1, by omega⟩
    obtain ⟨m, rfl⟩ : ∃ m, nM = m + 1 := ⟨nM - 1, by omega⟩
    have e80 : (80 : Int32) = nI 80 := by decide
    have hk0 : 0 ≤ (nI k).toInt := by rw [nI_toInt (by omega)]; omega
    rw [lp_X6_carryOut_35, lp_X7_carryOut_23, if_neg (show ¬ ((1 : Int32) = 0) by decide), a3, a4]
    rcases hW with rfl | ⟨hq, hT, hW⟩
    · rw [if_pos (show nI q ≤ nI (q + 1) from nI_le (by omega) (by omega))]
      by_cases c80 : 80 ≤ nI k
      · rw [if_pos c80]
        exact ⟨u, w, nI k, rfl, rfl, hk0, hC, hR, fun _ _ _ => rfl, ⟨fun _ _ _ _ _ _ => rfl, rfl⟩⟩
      · have hs : F_X3_sign u = 0 := by
          unfold F_X3_sign
          rw [a1, a2, if_neg (show ¬ nI q < 0 by rw [xi_lt, nI_toInt (by omega), xi_0]; omega), if_pos (nI_le (Nat.le_refl _) (by omega))]
        have hno : F_X3_nextOrder u = (0, u) := by
          rw [no_pb, a2, if_neg (show ¬ nI q ≤ 0 by rw [xi_le, nI_toInt (by omega), xi_0]; omega), tke_n (by rw [hs]; decide), if_pos (show ((0 : Int32), u).1 = 0 from rfl)]
        rw [if_neg c80, hno, if_pos (show ((0 : Int32), u).1 = 0 from rfl)]
        exact ⟨u, w, nI k, rfl, rfl, hk0, hC, hR, fun _ _ _ => rfl, ⟨fun _ _ _ _ _ _ => rfl, rfl⟩⟩
    · have hs : F_X3_sign u = 59 := by
        unfold F_X3_sign
        rw [a1, a2, if_neg (show ¬ nI q < 0 by rw [xi_lt, nI_toInt (by omega), xi_0]; omega), if_neg (show ¬ nI l ≤ nI q by rw [nI_leI (by omega) (by omega)]; omega), nI_tn (by omega), (a5 q hq).2.1, (a5 q hq).1, hT]
      have hno : F_X3_nextOrder u = PB (xs_u u 70 2 (nI (q + 1))) := by
        rw [no_pb, a2, if_neg (show ¬ nI q ≤ 0 by rw [xi_le, nI_toInt (by omega), xi_0]; omega), tke_y hs, a2, nI_1, if_neg (show ¬ ((1 : Int32), xs_u u 70 2 (nI (q + 1))).1 = 0 by dsimp only; decide)]
      obtain ⟨n', rfl⟩ : ∃ z, n = z + 1 := by
        cases n with
        | zero => exact absurd hW (by unfold WL; exact fun h => h)
        | succ z => exact ⟨z, rfl⟩
      obtain ⟨q', hrd, hnx⟩ := hW
      have hPR : PR (xs_u u 70 2 (nI (q + 1))) w l (q + 1) := ⟨by rw [xs_rd_i (by decide)]; exact a1, a3, hl, xs_rd_s, a4, by omega, fun i hi => by rw [xs_rd_k (by decide)]; exact (a5 i hi).2⟩
      obtain ⟨r, ⟨x2, x1⟩, g1, g2, g3, g4, g5, g6, g7⟩ := co_s hPR (fun i hi => (a5 i hi).1) hrd (CR_c (fun k a b => xs_rd_k (by omega)) hC) hR
      have hlt := hrd.1
      have hle := hrd.2.1
      rw [if_neg (show ¬ 80 ≤ nI k by rw [e80, nI_leI (by decide) (by omega)]; omega), hno, if_neg (show ¬ nI l ≤ nI (q + 1) by rw [nI_leI (by omega) (by omega)]; omega), if_neg (show ¬ (PB (xs_u u 70 2 (nI (q + 1)))).1 = 0 by rw [r]; decide), ie_if, g1]
      have y1 : (F_X6_carryOrder (PB (xs_u u 70 2 (nI (q + 1)))).2).2 70 = (PB (xs_u u 70 2 (nI (q + 1)))).2 70 := co_n (by decide)
      have y2 : CF (F_X6_carryOrder (PB (xs_u u 70 2 (nI (q + 1)))).2).2 u := fun i a b => by rw [g7 i a b, xs_rd_k b]
      generalize F_X6_carryOrder (PB (xs_u u 70 2 (nI (q + 1)))).2 = A at g1 g2 y1 y2 ⊢
      rw [← y1] at x1 x2
      generalize F_X7_order w 1 = B at g1 g2 g3 g4 g5 g6 ⊢
      have z78 : B.2 78 = w 78 := g4.1 78 (by decide) (by decide) (by decide) (by decide) (by decide)
      have mB : MF (xs_u B.2 72 8 (nI (q' + 1))) w := MF_t (FW_M FW_8) g4
      have z73 : xs_u B.2 72 8 (nI (q' + 1)) 73 = B.2 73 := xs_rd_k (by decide)
      rw [g6, nI_1, nI_1]
      have more : CE (lp_X6_carryOut_35 c (nI (k + 1)) A.2) (lp_X7_carryOut_23 m (nI (k + 1)) 1 (xs_u B.2 72 8 (nI (q' + 1)))) u w := by
        refine CE_t (ih (l - q') (by omega) n' q' (k + 1) c m A.2 (xs_u B.2 72 8 (nI (q' + 1))) rfl (by omega) (by omega) (by omega) hle (by omega) x1 x2 (by rw [xs_rd_i (by decide)]; exact g5) xs_rd_s (fun i hi => ?_) hnx (by rw [z73]; exact g2) (by rw [z73]; exact g3)) y2 mB
        rw [xs_rd_k (by decide), z78, y2 71 (by decide) (by decide)]
        exact a5 i hi
      by_cases c0 : 0 ≤ B.1
      · rw [if_pos c0, if_pos rfl, if_pos c0]
        exact more
      · by_cases c6 : B.1 = -6
        · rw [if_neg c0, if_pos c6, if_pos rfl, if_neg c0, if_pos c6]
          exact more
        · obtain ⟨m2, rfl⟩ : ∃ z, m = z + 1 := ⟨m - 1, by omega⟩
          rw [if_neg c0, if_neg c6, if_neg (show ¬ ((1 : Int32) = 0) by decide), if_neg c0, if_neg c6, nI_z, lp_X7_carryOut_23, if_pos rfl]
          exact ⟨A.2, xs_u B.2 72 8 (nI (q' + 1)), nI k, rfl, rfl, hk0, by rw [z73]; exact g2, by rw [z73]; exact g3, y2, mB⟩
