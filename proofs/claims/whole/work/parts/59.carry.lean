/-! the orders carried out -/
def CF (u' u : xs_S) : Prop := ∀ k : Nat, 10 < k → k ≠ 70 → u' k = u k
def MF (w' w : xs_S) : Prop := (∀ k : Nat, k ≠ 72 → k ≠ 73 → k ≠ 80 → k ≠ 81 → k ≠ 82 → w' k = w k) ∧ w' 72 5 = w 72 5
def CE (a b : Int32 × xs_S) (u w : xs_S) : Prop := ∃ (u' w' : xs_S) (m : Int32), a = ((F_X2_keep (F_X3_clear u') m).1, (F_X2_keep (F_X3_clear u') m).2) ∧ b = ((F_X7_record (xs_u w' 72 7 0) m).1, (F_X7_record (xs_u w' 72 7 0) m).2) ∧ 0 ≤ m.toInt ∧ CR 1 u' (w' 73) ∧ RowOK (w' 73) ∧ CF u' u ∧ MF w' w
theorem CF_t {a b c : xs_S} (h1 : CF a b) (h2 : CF b c) : CF a c := fun k p q => (h1 k p q).trans (h2 k p q)
theorem MF_t {a b c : xs_S} (h1 : MF a b) (h2 : MF b c) : MF a c := ⟨fun k p q r s t => (h1.1 k p q r s t).trans (h2.1 k p q r s t), h1.2.trans h2.2⟩
theorem CE_t {a b : Int32 × xs_S} {u w u0 w0 : xs_S} (h : CE a b u w) (h1 : CF u u0) (h2 : MF w w0) : CE a b u0 w0 := by
  obtain ⟨u', w', m, e1, e2, e3, e4, e5, e6, e7⟩ := h
  exact ⟨u', w', m, e1, e2, e3, e4, e5, CF_t e6 h1, MF_t e7 h2⟩
theorem FW_M {w' w : xs_S} (h : FW w' w) : MF w' w := ⟨fun k p q r s t => h.1 k p r, h.2 5 (by decide)⟩
theorem act_n {x : Int32} {w : xs_S} : MF (act x w).2 w ∧ ∀ i : Nat, i = 7 ∨ i = 8 → (act x w).2 72 i = w 72 i := by
  unfold act
  by_cases c1 : x = 100
  · rw [if_pos c1]
    exact ⟨⟨fun k p q r s t => cm_n q, by dsimp only; rw [cm_n (by decide)]⟩, fun i hi => by dsimp only; rw [cm_n (by decide)]⟩
  rw [if_neg c1]
  by_cases c2 : x = 114
  · rw [if_pos c2]
    exact ⟨⟨fun k p q r s t => rs_n q, by dsimp only; rw [rs_n (by decide)]⟩, fun i hi => by dsimp only; rw [rs_n (by decide)]⟩
  rw [if_neg c2]
  by_cases c3 : x = 116
  · rw [if_pos c3]
    exact ⟨⟨fun k p q r s t => wa_n q, by dsimp only; rw [wa_n (by decide)]⟩, fun i hi => by dsimp only; rw [wa_n (by decide)]⟩
  rw [if_neg c3]
  exact ⟨⟨fun k p q r s t => ag_n p q s t, ag_f (by decide) (by decide) (by decide) (by decide)⟩, fun i hi => ag_f (by omega) (by omega) (by omega) (by omega)⟩
