/-! frames of an order -/
theorem pb_n {st : xs_S} {k : Nat} (hk : k ≠ 70) : (PB st).2 k = st k := by
  unfold PB
  repeat' (with_reducible refine it_n ?_ ?_)
  all_goals try dsimp only
  all_goals simp only [ta_n hk, tf_n hk, ts_n hk, tt_n hk, xs_rd_k hk]
theorem co_n' {s : xs_S} : CF (F_X6_carryOrder s).2 s := fun k p q => co_n (Or.inr p)
/-- one order: read and carried out -/
theorem co_s {u w : xs_S} {l p q : Nat} {T : Nat → Int32} (h : PR u w l p) (hT : ∀ i : Nat, i < l → w 78 i = T i) (hrd : RD T l p q) (hC : CR 1 u (w 73)) (hR : RowOK (w 73)) : (PB u).1 = 1 ∧ (PB u).2 70 2 = nI q ∧ (F_X6_carryOrder (PB u).2).1 = (F_X7_order w 1).1 ∧ CR 1 (F_X6_carryOrder (PB u).2).2 ((F_X7_order w 1).2 73) ∧ RowOK ((F_X7_order w 1).2 73) ∧ MF (F_X7_order w 1).2 w ∧ (F_X7_order w 1).2 72 7 = nI l ∧ (F_X7_order w 1).2 72 8 = nI q ∧ CF (F_X6_carryOrder (PB u).2).2 u := by
  obtain ⟨x1, x2⟩ := hrd.2.2 u w h hT
  rcases pr_ord h with ⟨r, B, q', h3, h4, h5⟩ | ⟨r, B, q', h3, h4, h5, h6, h7⟩
  · rw [r] at x1
    exact absurd x1 (by decide)
  · have ho : F_X7_order w 1 = act ((PB u).2 70 3) B := by rw [h3 1, if_neg (show ¬ ((1 : Int32) = 0) by decide)]
    have e73 : B 73 = w 73 := h6.1 73 (by decide) (by decide)
    have hCB : CR 1 (PB u).2 (B 73) := by
      rw [e73]
      exact CR_c (fun k a b => pb_n (by omega)) hC
    obtain ⟨g1, g2, g3⟩ := act_e hCB (by rw [e73]; exact hR) h7
    obtain ⟨m1, m2⟩ := act_n (x := (PB u).2 70 3) (w := B)
    rw [ho]
    refine ⟨r, x2, g1, g2, g3, MF_t m1 (FW_M h6), ?_, ?_, fun k a b => ?_⟩
    · rw [m2 7 (Or.inl rfl)]; exact h5.2.1
    · rw [m2 8 (Or.inr rfl), ← x2, h5.2.2.2.1, h5.2.2.2.2.1]
    · rw [co_n (Or.inr a)]; exact pb_n b
