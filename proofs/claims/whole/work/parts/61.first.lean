/-! the first order, and all behind it -/
theorem co_f {u w : xs_S} {l n : Nat} {T : Nat → Int32} (hPR : PR u w l 0) (hT : ∀ i : Nat, i < l → w 78 i = T i) (hW : WL T l n 0) (hC : CR 1 u (w 73)) (hR : RowOK (w 73)) : CE (lp_X6_carryOut_35 81 0 u) (lp_X7_carryOut_23 83 0 1 w) u w := by
  have hPR' := hPR
  obtain ⟨a1, a3, hl, a2, a4, a6, a5⟩ := hPR'
  obtain ⟨n', rfl⟩ : ∃ z, n = z + 1 := by
    cases n with
    | zero => exact absurd hW (by unfold WL; exact fun h => h)
    | succ z => exact ⟨z, rfl⟩
  obtain ⟨q', hrd, hnx⟩ := hW
  obtain ⟨r, ⟨x2, x1⟩, g1, g2, g3, g4, g5, g6, g7⟩ := co_s hPR hT hrd hC hR
  have hlt := hrd.1
  have hle := hrd.2.1
  have hno : F_X3_nextOrder u = PB u := by
    rw [no_pb, if_pos (show u 70 2 ≤ 0 by rw [a2, nI_0]; decide)]
  rw [show (81 : Nat) = 80 + 1 from rfl, show (83 : Nat) = 82 + 1 from rfl, lp_X6_carryOut_35, lp_X7_carryOut_23, if_neg (show ¬ ((1 : Int32) = 0) by decide), a3, a4, if_neg (show ¬ ((80 : Int32) ≤ 0) by decide), hno, if_neg (show ¬ nI l ≤ nI 0 by rw [nI_leI (by omega) (by omega)]; omega), if_neg (show ¬ (PB u).1 = 0 by rw [r]; decide), ie_if, g1]
  have y1 : (F_X6_carryOrder (PB u).2).2 70 = (PB u).2 70 := co_n (by decide)
  have y2 : CF (F_X6_carryOrder (PB u).2).2 u := g7
  generalize F_X6_carryOrder (PB u).2 = A at g1 g2 y1 y2 ⊢
  rw [← y1] at x1 x2
  generalize F_X7_order w 1 = B at g1 g2 g3 g4 g5 g6 ⊢
  have z78 : B.2 78 = w 78 := g4.1 78 (by decide) (by decide) (by decide) (by decide) (by decide)
  have mB : MF (xs_u B.2 72 8 (nI (q' + 1))) w := MF_t (FW_M FW_8) g4
  have z73 : xs_u B.2 72 8 (nI (q' + 1)) 73 = B.2 73 := xs_rd_k (by decide)
  rw [g6, nI_1, show (0 : Int32) + 1 = nI 1 by decide]
  have more : CE (lp_X6_carryOut_35 80 (nI 1) A.2) (lp_X7_carryOut_23 82 (nI 1) 1 (xs_u B.2 72 8 (nI (q' + 1)))) u w := by
    refine CE_t (co_l hl (l - q') n' q' 1 80 82 A.2 (xs_u B.2 72 8 (nI (q' + 1))) rfl (by omega) (by omega) (by omega) hle (by omega) x1 x2 (by rw [xs_rd_i (by decide)]; exact g5) xs_rd_s (fun i hi => ?_) hnx (by rw [z73]; exact g2) (by rw [z73]; exact g3)) y2 mB
    rw [xs_rd_k (by decide), z78, y2 71 (by decide) (by decide)]
    exact ⟨hT i hi, a5 i hi⟩
  by_cases c0 : 0 ≤ B.1
  · rw [if_pos c0, if_pos rfl, if_pos c0]
    exact more
  · by_cases c6 : B.1 = -6
    · rw [if_neg c0, if_pos c6, if_pos rfl, if_neg c0, if_pos c6]
      exact more
    · rw [if_neg c0, if_neg c6, if_neg (show ¬ ((1 : Int32) = 0) by decide), if_neg c0, if_neg c6, show (0 : Int32) + 0 = 0 by decide, show (82 : Nat) = 81 + 1 from rfl, lp_X7_carryOut_23, if_pos rfl]
      exact ⟨A.2, xs_u B.2 72 8 (nI (q' + 1)), 0, rfl, rfl, by decide, by rw [z73]; exact g2, by rw [z73]; exact g3, y2, mB⟩
