/-! a text without a fault -/
def RD (T : Nat → Int32) (l p p' : Nat) : Prop := p < p' ∧ p' ≤ l ∧ ∀ u w : xs_S, PR u w l p → (∀ i : Nat, i < l → w 78 i = T i) → (PB u).1 = 1 ∧ (PB u).2 70 2 = nI p'
def WL (T : Nat → Int32) (l : Nat) : Nat → Nat → Prop
  | 0, _ => False
  | n + 1, p => ∃ p' : Nat, RD T l p p' ∧ (p' = l ∨ (p' < l ∧ T p' = 59 ∧ WL T l n (p' + 1)))
theorem pr_tx {u w w2 : xs_S} {l p : Nat} {T : Nat → Int32} {u2 : xs_S} (h : PR u w l p) (hT : ∀ i : Nat, i < l → w 78 i = T i) (h2 : PR u2 w2 l p) (hT2 : ∀ i : Nat, i < l → w2 78 i = T i) : PR u2 w l p := by
  obtain ⟨a1, a2, a3, a4, a5, a6, a7⟩ := h
  obtain ⟨b1, b2, b3, b4, b5, b6, b7⟩ := h2
  refine ⟨b1, a2, a3, b4, a5, a6, fun i hi => ⟨?_, (b7 i hi).2⟩⟩
  rw [(b7 i hi).1, hT2 i hi, hT i hi]
theorem rd_of {u w B : xs_S} {l p p' : Nat} {T : Nat → Int32} (h : PR u w l p) (hT : ∀ i : Nat, i < l → w 78 i = T i) (ho : F_X7_order w 0 = (0, B)) (hlt : p < p') (hB : PR (PB u).2 B l p') : RD T l p p' := by
  refine ⟨hlt, hB.2.2.2.2.2.1, fun u2 w2 h2 hT2 => ?_⟩
  have e8 := hB.2.2.2.2.1
  have hl := hB.2.2.1
  have hpl := hB.2.2.2.2.2.1
  rcases pr_ord (pr_tx h hT h2 hT2) with ⟨r, B2, q, h3, h4, h5⟩ | ⟨r, B2, q, h3, h4, h5, h6, h7⟩
  · have h8 := h3 0
    rw [ho] at h8
    have h9 : (0 : Int32) = -3 := congrArg Prod.fst h8
    exact absurd h9 (by decide)
  · have h8 := h3 0
    rw [ho, if_pos rfl] at h8
    have h9 : B = B2 := congrArg Prod.snd h8
    subst h9
    refine ⟨r, ?_⟩
    rw [h5.2.2.2.1, ← h5.2.2.2.2.1, e8]
theorem wl_o {u w : xs_S} {l p n : Nat} {x : Int32} {T : Nat → Int32} (h : PR u w l p) (hT : ∀ i : Nat, i < l → w 78 i = T i) (hr : (if (PB u).1 = 0 then ((PB u).2 70 2, (PB u).2) else if (PB u).2 70 2 = (PB u).2 70 1 then (-6, (PB u).2) else lp_X3_firstFault_6 n x (PB u).2).1 = -6) (hgo : ∀ (B : xs_S) (p' : Nat), p < p' → p' < l → PR (PB u).2 B l p' → (∀ i : Nat, i < l → B 78 i = T i) → (lp_X3_firstFault_6 n x (PB u).2).1 = -6 → T p' = 59 ∧ ∃ z : Nat, WL T l z (p' + 1)) : ∃ z : Nat, WL T l z p := by
  rcases pr_ord h with ⟨r, B, q, h3, h4, h5⟩ | ⟨r, B, q, h3, h4, h5, h6, h7⟩
  · rw [if_pos r] at hr
    dsimp only at hr
    have hb := h4.2.2.1
    have hc := h4.2.2.2.2.2.1
    rw [h4.2.2.2.1, xi_eq, nI_toInt (by omega), show (-6 : Int32).toInt = -6 by decide] at hr
    omega
  · have ho : F_X7_order w 0 = (0, B) := by rw [h3 0, if_pos rfl]
    have hrd := rd_of h hT ho h4 h5
    have hBT : ∀ i : Nat, i < l → B 78 i = T i := fun i hi => by rw [h6.1 78 (by decide) (by decide)]; exact hT i hi
    by_cases c : q = l
    · rw [c] at hrd
      exact ⟨1, l, hrd, Or.inl rfl⟩
    · have hb := h5.2.2.1
      have hc := h5.2.2.2.2.2.1
      rw [if_neg (show ¬ (PB u).1 = 0 by rw [r]; decide), if_neg (show ¬ (PB u).2 70 2 = (PB u).2 70 1 by rw [h5.1, h5.2.2.2.1, nI_eq (by omega) (by omega)]; exact c)] at hr
      obtain ⟨g1, z, g2⟩ := hgo B q h4 (by omega) h5 hBT hr
      exact ⟨z + 1, q, hrd, Or.inr ⟨by omega, g1, g2⟩⟩
theorem wl_l {l : Nat} {T : Nat → Int32} : ∀ (d p k n : Nat) (u w : xs_S), l - p = d → 1 ≤ p → k ≤ p → p < l → d < n → PR u w l p → (∀ i : Nat, i < l → w 78 i = T i) → (lp_X3_firstFault_6 n (nI k) u).1 = -6 → T p = 59 ∧ ∃ z : Nat, WL T l z (p + 1) := by
  intro d
  induction d using Nat.strongRecOn with
  | _ d ih =>
    intro p k n u w h1 h2 h3 h4 h5 h hT hr
    obtain ⟨m, rfl⟩ : ∃ m, n = m + 1 := ⟨n - 1, by omega⟩
    have h' := h
    obtain ⟨a1, a2, a3, a4, a5, a6, a7⟩ := h'
    have e80 : (80 : Int32) = nI 80 := by decide
    rw [lp_X3_firstFault_6, if_neg (show ¬ 80 ≤ nI k by rw [e80, nI_leI (by decide) (by omega)]; omega), no_pb, if_neg (show ¬ u 70 2 ≤ 0 by rw [a4, xi_le, nI_toInt (by omega), xi_0]; omega), nI_1] at hr
    by_cases hs : F_X3_sign u = 59
    · have hTp : T p = 59 := by rw [← hT p h4, ← (a7 p h4).1, ← hs, pr_sign h, if_pos h4]
      have hup := PR_up h h4
      rw [tke_y hs, a4, nI_1, if_neg (show ¬ ((1 : Int32), xs_u u 70 2 (nI (p + 1))).1 = 0 by dsimp only; decide)] at hr
      dsimp only at hr
      refine ⟨hTp, wl_o (n := m) (x := nI (k + 1)) hup (fun i hi => by rw [xs_rd_k (by decide)]; exact hT i hi) hr (fun B p' x1 x2 x3 x4 x5 => ih (l - p') (by omega) p' (k + 1) m _ B rfl (by omega) (by omega) x2 (by omega) x3 x4 x5)⟩
    · rw [tke_n hs, if_pos (show ((0 : Int32), u).1 = 0 from rfl)] at hr
      dsimp only at hr
      rw [if_pos rfl, a4] at hr
      rw [xi_eq, nI_toInt (by omega), show (-6 : Int32).toInt = -6 by decide] at hr
      omega
theorem wl_all {u w : xs_S} {l : Nat} {T : Nat → Int32} (h : PR u w l 0) (hT : ∀ i : Nat, i < l → w 78 i = T i) (hr : (lp_X3_firstFault_6 81 0 u).1 = -6) : ∃ z : Nat, WL T l z 0 := by
  have h' := h
  obtain ⟨a1, a2, a3, a4, a5, a6, a7⟩ := h'
  rw [show (81 : Nat) = 80 + 1 from rfl, lp_X3_firstFault_6, if_neg (show ¬ ((80 : Int32) ≤ 0) by decide), no_pb, if_pos (show u 70 2 ≤ 0 by rw [a4, nI_0]; decide), show (0 : Int32) + 1 = nI 1 by decide] at hr
  exact wl_o (n := 80) (x := nI 1) h hT hr (fun B p' x1 x2 x3 x4 x5 => wl_l (l - p') p' 1 80 _ B rfl (by omega) (by omega) x2 (by omega) x3 x4 x5)
