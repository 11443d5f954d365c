/-! the row stays well under the reference's changes -/
theorem uf_c {f : Nat → Int32} {k c j m : Nat} {v : Int32} (hc : c ≤ 6) (hm : m ≤ 6) : xs_uf f (6 + 7 * k + c) v (6 + m + 7 * j) = if j = k ∧ m = c then v else f (6 + m + 7 * j) := by
  by_cases h : j = k ∧ m = c
  · rw [if_pos h]
    obtain ⟨h1, h2⟩ := h
    subst h1
    subst h2
    rw [show 6 + 7 * j + m = 6 + m + 7 * j by omega, xs_uf_s]
  · rw [if_neg h, xs_uf_n (by omega)]
theorem uf_h {f : Nat → Int32} {k c i : Nat} {v : Int32} (hi : i < 6) : xs_uf f (6 + 7 * k + c) v i = f i := xs_uf_n (by omega)
theorem ru {f : Nat → Int32} {k c : Nat} {v : Int32} (hc : c ≤ 6) (h0 : c = 0 → v = 0 ∨ v = 1) (h1 : c = 1 → 0 ≤ v.toInt ∧ v.toInt ≤ 9999) (h2 : c = 2 → 0 ≤ v.toInt ∧ v.toInt ≤ 300) (h3 : c = 3 → 0 ≤ v.toInt ∧ v.toInt ≤ (f 2).toInt) (h6 : c = 6 → v = 0 ∨ v = 1) (hR : RowOK f) : RowOK (xs_uf f (6 + 7 * k + c) v) := by
  unfold RowOK
  rw [uf_h (by decide), uf_h (by decide), uf_h (by decide), uf_h (by decide)]
  refine ⟨hR.1, fun j hj => ?_⟩
  obtain ⟨g0, g1, g2, g3, g6⟩ := hR.2 j hj
  have e0 := uf_c (f := f) (k := k) (c := c) (j := j) (m := 0) (v := v) hc (by decide)
  have e1 := uf_c (f := f) (k := k) (c := c) (j := j) (m := 1) (v := v) hc (by decide)
  have e2 := uf_c (f := f) (k := k) (c := c) (j := j) (m := 2) (v := v) hc (by decide)
  have e3 := uf_c (f := f) (k := k) (c := c) (j := j) (m := 3) (v := v) hc (by decide)
  have e6 := uf_c (f := f) (k := k) (c := c) (j := j) (m := 6) (v := v) hc (by decide)
  simp only [show 6 + 0 = 6 from rfl, show 6 + 1 = 7 from rfl, show 6 + 2 = 8 from rfl, show 6 + 3 = 9 from rfl, show 6 + 6 = 12 from rfl] at e0 e1 e2 e3 e6
  rw [e0, e1, e2, e3, e6]
  refine ⟨?_, ?_, ?_, ?_, ?_⟩ <;> split
  · rename_i h; exact h0 h.2.symm
  · exact g0
  · rename_i h; exact h1 h.2.symm
  · exact g1
  · rename_i h; exact h2 h.2.symm
  · exact g2
  · rename_i h; exact h3 h.2.symm
  · exact g3
  · rename_i h; exact h6 h.2.symm
  · exact g6
/-- a cell of a dial's own -/
theorem ly_row {st : xs_S} {k c : Nat} {w v : Int32} (hk : k < 15) (hw : w.toInt = (c : Int)) (hc : c ≤ 6) : F_X7_lay st (nI k) w v 73 = xs_uf (st 73) (6 + 7 * k + c) v := by
  unfold F_X7_lay xs_u
  rw [xs_ur_s]
  have e := xm_itsv (dial := nI k) (w := w) (by rw [nI_toInt (by omega)]; omega) (by omega)
  rw [e, nI_toInt (by omega), hw]
  congr 1
theorem nI_dial {d : Int32} (h : 0 ≤ d.toInt ∧ d.toInt < 15) : ∃ k : Nat, k < 15 ∧ d = nI k ∧ d.toInt = (k : Int) := by
  refine ⟨d.toInt.toNat, by omega, ?_, by omega⟩
  apply xi_eq.mpr
  rw [nI_toInt (by omega)]
  omega
theorem u73 {st : xs_S} {i : Nat} {v : Int32} : xs_u st 73 i v 73 = xs_uf (st 73) i v := by
  unfold xs_u
  rw [xs_ur_s]
theorem row_D1 {f : Nat → Int32} {v : Int32} (hR : RowOK f) (hv : 0 ≤ v.toInt ∧ v.toInt ≤ 15) : RowOK (xs_uf f 3 v) := by
  unfold RowOK
  rw [xs_uf_n (by decide), xs_uf_n (by decide), xs_uf_n (by decide), xs_uf_s]
  refine ⟨⟨hR.1.1, hR.1.2.1, hR.1.2.2.1, hv⟩, fun j hj => ?_⟩
  rw [xs_uf_n (by omega), xs_uf_n (by omega), xs_uf_n (by omega), xs_uf_n (by omega), xs_uf_n (by omega)]
  exact hR.2 j hj
theorem row_N {f : Nat → Int32} {v : Int32} (hR : RowOK f) (hv : (f 2).toInt ≤ v.toInt ∧ v.toInt ≤ 99999) : RowOK (xs_uf f 2 v) := by
  have h0 := hR.1.2.2.1
  unfold RowOK
  rw [xs_uf_n (by decide), xs_uf_n (by decide), xs_uf_s, xs_uf_n (by decide)]
  refine ⟨⟨hR.1.1, hR.1.2.1, ⟨by omega, hv.2⟩, hR.1.2.2.2⟩, fun j hj => ?_⟩
  obtain ⟨g0, g1, g2, g3, g6⟩ := hR.2 j hj
  rw [xs_uf_n (by omega), xs_uf_n (by omega), xs_uf_n (by omega), xs_uf_n (by omega), xs_uf_n (by omega)]
  exact ⟨g0, g1, g2, ⟨g3.1, by omega⟩, g6⟩
theorem row_45 {f : Nat → Int32} {i : Nat} {v : Int32} (hi : i = 4 ∨ i = 5) (hR : RowOK f) : RowOK (xs_uf f i v) := by
  unfold RowOK
  rw [xs_uf_n (by omega), xs_uf_n (by omega), xs_uf_n (by omega), xs_uf_n (by omega)]
  refine ⟨hR.1, fun j hj => ?_⟩
  rw [xs_uf_n (by omega), xs_uf_n (by omega), xs_uf_n (by omega), xs_uf_n (by omega), xs_uf_n (by omega)]
  exact hR.2 j hj
theorem row_0 {f : Nat → Int32} {v : Int32} (hv : 0 ≤ v.toInt ∧ v.toInt ≤ 60) (hR : RowOK f) : RowOK (xs_uf f 0 v) := by
  unfold RowOK
  rw [xs_uf_s, xs_uf_n (by omega), xs_uf_n (by omega), xs_uf_n (by omega)]
  refine ⟨⟨hv, hR.1.2⟩, fun j hj => ?_⟩
  rw [xs_uf_n (by omega), xs_uf_n (by omega), xs_uf_n (by omega), xs_uf_n (by omega), xs_uf_n (by omega)]
  exact hR.2 j hj
theorem row_1 {f : Nat → Int32} {v : Int32} (hv : 1 ≤ v.toInt ∧ v.toInt ≤ 20) (hR : RowOK f) : RowOK (xs_uf f 1 v) := by
  unfold RowOK
  rw [xs_uf_n (by omega), xs_uf_s, xs_uf_n (by omega), xs_uf_n (by omega)]
  refine ⟨⟨hR.1.1, hv, hR.1.2.2⟩, fun j hj => ?_⟩
  rw [xs_uf_n (by omega), xs_uf_n (by omega), xs_uf_n (by omega), xs_uf_n (by omega), xs_uf_n (by omega)]
  exact hR.2 j hj
theorem ro_cm {st : xs_S} (hR : RowOK (st 73)) : RowOK ((F_X7_comes st).2 73) := by
  have hD := ro_D hR
  have h15 : (15 : Int32).toInt = 15 := by decide
  unfold F_X7_comes
  by_cases h : st 73 3 = 15
  · rw [if_pos h]; exact hR
  · rw [if_neg h]
    dsimp only
    rw [u73]
    rw [xi_eq, h15] at h
    exact row_D1 hR (by rw [xi_inc (by omega)]; omega)
theorem ro_wa {st : xs_S} {m : Int32} (hR : RowOK (st 73)) : RowOK ((F_X7_waits st m).2 73) := by
  unfold F_X7_waits
  by_cases h : F_X7_in st m.toInt64 1 1440 = 0
  · rw [if_pos h]; exact hR
  · rw [if_neg h]
    have h1 := in_ne h
    have e1440 : (1440 : Int32).toInt = 1440 := by decide
    rw [xi_1, e1440] at h1
    have hN := hR.1.2.2.1
    by_cases h2 : st 73 2 + m ≤ 99999
    · rw [if_pos h2]
      dsimp only
      have e9 : (99999 : Int32).toInt = 99999 := by decide
      rw [xi_le, e9] at h2
      have e := xi_add (a := st 73 2) (b := m) (by omega)
      rw [u73]
      exact row_N hR (by omega)
    · rw [if_neg h2]; exact hR
theorem ro_rs {st : xs_S} {d t q : Int32} (hR : RowOK (st 73)) : RowOK ((F_X7_reads st d t q).2 73) := by
  have hN := hR.1.2.2.1
  unfold F_X7_reads
  by_cases h1 : F_X7_isDial st d = 0
  · rw [if_pos h1]; exact hR
  · rw [if_neg h1]
    obtain ⟨k, hk, hd, -⟩ := nI_dial (isDial_in (ro_D hR) h1)
    subst hd
    by_cases h2 : F_X7_in st t.toInt64 0 9999 = 0
    · rw [if_pos h2]; exact hR
    · rw [if_neg h2]
      by_cases h3 : F_X7_in st q.toInt64 0 300 = 0
      · rw [if_pos h3]; exact hR
      · rw [if_neg h3]
        have g2 := in_ne h2
        have g3 := in_ne h3
        rw [xi_0, show (9999 : Int32).toInt = 9999 by decide] at g2
        rw [xi_0, show (300 : Int32).toInt = 300 by decide] at g3
        have hrow : RowOK (F_X7_lay (F_X7_lay (F_X7_lay (F_X7_lay st (nI k) 0 1) (nI k) 1 t) (nI k) 2 q) (nI k) 3 (F_X7_lay (F_X7_lay (F_X7_lay st (nI k) 0 1) (nI k) 1 t) (nI k) 2 q 73 2) 73) := by
          have a0 : RowOK (F_X7_lay st (nI k) 0 1 73) := by
            rw [ly_row (c := 0) hk (by decide) (by decide)]
            exact ru (by decide) (fun _ => Or.inr rfl) (fun h => absurd h (by decide)) (fun h => absurd h (by decide)) (fun h => absurd h (by decide)) (fun h => absurd h (by decide)) hR
          have a1 : RowOK (F_X7_lay (F_X7_lay st (nI k) 0 1) (nI k) 1 t 73) := by
            rw [ly_row (c := 1) hk (by decide) (by decide)]
            exact ru (by decide) (fun h => absurd h (by decide)) (fun _ => g2) (fun h => absurd h (by decide)) (fun h => absurd h (by decide)) (fun h => absurd h (by decide)) a0
          have a2 : RowOK (F_X7_lay (F_X7_lay (F_X7_lay st (nI k) 0 1) (nI k) 1 t) (nI k) 2 q 73) := by
            rw [ly_row (c := 2) hk (by decide) (by decide)]
            exact ru (by decide) (fun h => absurd h (by decide)) (fun h => absurd h (by decide)) (fun _ => g3) (fun h => absurd h (by decide)) (fun h => absurd h (by decide)) a1
          rw [ly_row (c := 3) hk (by decide) (by decide)]
          exact ru (by decide) (fun h => absurd h (by decide)) (fun h => absurd h (by decide)) (fun h => absurd h (by decide)) (fun _ => ⟨a2.1.2.2.1.1, Int.le_refl _⟩) (fun h => absurd h (by decide)) a2
        by_cases h4 : F_X7_its st (nI k) 6 = 1
        · rw [if_pos h4]; exact hR
        · rw [if_neg h4]
          split <;> exact hrow
theorem ro_agl {st0 : xs_S} {hr : Int32} : ∀ (n : Nat) (x : Int32) (s : xs_S), IR s x n → RowOK (s 73) → RowOK ((lp_X7_agrees_24 n hr x s).2 73) := by
  intro n
  induction n with
  | zero => intro x s h hR; exact (xs_lo0 h.1).elim
  | succ n ih =>
    intro x s h hR
    unfold lp_X7_agrees_24
    by_cases hc : s 73 3 ≤ x
    · rw [if_pos hc]
      dsimp only
      rw [u73, u73]
      exact row_45 (Or.inr rfl) (row_45 (Or.inl rfl) hR)
    · rw [if_neg hc]
      have hu := ir_up h hc
      have hd := ir_d h hc
      obtain ⟨k, hk, e, -⟩ := nI_dial hd
      have d4 : (0 : Int) ≤ (4 : Int32).toInt ∧ (4 : Int32).toInt ≤ 6 := by decide
      have d5 : (0 : Int) ≤ (5 : Int32).toInt ∧ (5 : Int32).toInt ≤ 6 := by decide
      have d6 : (0 : Int) ≤ (6 : Int32).toInt ∧ (6 : Int32).toInt ≤ 6 := by decide
      have l5 : ∀ (t : xs_S) (v : Int32), RowOK (t 73) → RowOK (F_X7_lay t x 5 v 73) := by
        intro t v ht
        rw [e, ly_row (c := 5) hk (by decide) (by decide)]
        exact ru (by decide) (fun h => absurd h (by decide)) (fun h => absurd h (by decide)) (fun h => absurd h (by decide)) (fun h => absurd h (by decide)) (fun h => absurd h (by decide)) ht
      have l4 : ∀ (t : xs_S) (v : Int32), RowOK (t 73) → RowOK (F_X7_lay t x 4 v 73) := by
        intro t v ht
        rw [e, ly_row (c := 4) hk (by decide) (by decide)]
        exact ru (by decide) (fun h => absurd h (by decide)) (fun h => absurd h (by decide)) (fun h => absurd h (by decide)) (fun h => absurd h (by decide)) (fun h => absurd h (by decide)) ht
      have l6 : ∀ (t : xs_S) (v : Int32), (v = 0 ∨ v = 1) → RowOK (t 73) → RowOK (F_X7_lay t x 6 v 73) := by
        intro t v hv ht
        rw [e, ly_row (c := 6) hk (by decide) (by decide)]
        exact ru (by decide) (fun h => absurd h (by decide)) (fun h => absurd h (by decide)) (fun h => absurd h (by decide)) (fun h => absurd h (by decide)) (fun _ => hv) ht
      repeat' split
      all_goals first
        | with_reducible exact ih _ _ hu hR
        | with_reducible exact ih _ _ (ir_lay hd d5 hu) (l5 _ _ hR)
        | with_reducible exact ih _ _ (ir_lay hd d6 (ir_lay hd d5 (ir_lay hd d4 hu))) (l6 _ _ (Or.inl rfl) (l5 _ _ (l4 _ _ hR)))
        | with_reducible exact ih _ _ (ir_lay hd d6 (ir_lay hd d5 (ir_lay hd d4 hu))) (l6 _ _ (Or.inr rfl) (l5 _ _ (l4 _ _ hR)))
theorem ro_ag {st : xs_S} (hR : RowOK (st 73)) : RowOK ((F_X7_agrees st).2 73) := by
  have h1 : RowOK ((F_X7_seek (F_X7_layOut st 0 (-6))).2 73) := by
    rw [se_n (by decide), lay_n 73 (by decide) (by decide) (by decide)]
    exact hR
  unfold F_X7_agrees
  split
  · exact h1
  · exact ro_agl (st0 := st) _ _ _ (ir_e (ro_D h1)) h1
/-! an order of the text -/
theorem ol_at {d : Int32} {n : Nat} {x y : Int32} {s : xs_S} : AT s (lp_X7_order_140 d n x y s).2 := by
  cases n with
  | zero => exact at_r
  | succ n =>
    rw [lp_X7_order_140]
    repeat' split
    · exact at_r
    · exact at_r
    · exact at_e (by dsimp only; rw [cm_n (by decide)]) (by dsimp only; rw [cm_n (by decide)])
    · exact at_e (by dsimp only; rw [rs_n (by decide)]) (by dsimp only; rw [rs_n (by decide)])
    · exact at_e (by dsimp only; rw [wa_n (by decide)]) (by dsimp only; rw [wa_n (by decide)])
    · exact at_e (by dsimp only; rw [ag_f (by decide) (by decide) (by decide) (by decide)]) (by dsimp only; rw [ag_f (by decide) (by decide) (by decide) (by decide)])
theorem ol_ro {d : Int32} {n : Nat} {x y : Int32} {s : xs_S} (hR : RowOK (s 73)) : RowOK ((lp_X7_order_140 d n x y s).2 73) := by
  cases n with
  | zero => exact hR
  | succ n =>
    rw [lp_X7_order_140]
    repeat' split
    · exact hR
    · exact hR
    · exact ro_cm hR
    · exact ro_rs hR
    · exact ro_wa hR
    · exact ro_ag hR
theorem at_i2 {c : Prop} [Decidable c] {s : xs_S} {a b : Int32 × xs_S} (ha : AT s a.2) (hb : AT s b.2) : AT s (if c then a else b).2 := by
  by_cases h : c
  · rw [if_pos h]; exact ha
  · rw [if_neg h]; exact hb
theorem ro_i2 {c : Prop} [Decidable c] {a b : Int32 × xs_S} (ha : RowOK (a.2 73)) (hb : RowOK (b.2 73)) : RowOK ((if c then a else b).2 73) := by
  by_cases h : c
  · rw [if_pos h]; exact ha
  · rw [if_neg h]; exact hb
theorem ok_at {d x : Int32} {n : Nat} {s : xs_S} (hp : PM s) (hl : s 72 8 < s 72 7) : AT s (lp_X7_order_52 d n x s).2 := by
  cases n with
  | zero => exact at_r
  | succ n =>
    have a0 : AT s (xs_u (xs_u s 72 8 (s 72 8 + 1)) 80 2 0) := at_t (at_inc hp hl) (at_e (by rw [xs_rd_k (by decide)]) (by rw [xs_rd_k (by decide)]))
    rw [lp_X7_order_52]
    generalize xs_u (xs_u s 72 8 (s 72 8 + 1)) 80 2 0 = s0 at a0 ⊢
    have p0 := at_pm a0 hp
    have a1 := at_t a0 (nu_at (p := 0) p0)
    have p1 := at_pm a1 hp
    have a2 := at_t a1 (tk_at (c := 61) p1)
    have p2 := at_pm a2 hp
    have a3 := at_t a2 (nu_at (p := 1) p2)
    have p3 := at_pm a3 hp
    have a4 := at_t a3 (tk_at (c := 126) p3)
    have p4 := at_pm a4 hp
    have a5 := at_t a4 (nu_at (p := 2) p4)
    repeat' (with_reducible refine at_i2 ?_ ?_)
    all_goals (refine at_t ?_ ol_at; first | with_reducible exact a5 | with_reducible exact a4 | with_reducible exact a3 | with_reducible exact a2 | with_reducible exact a1 | with_reducible exact a0)
theorem ok_ro {d x : Int32} {n : Nat} {s : xs_S} (hR : RowOK (s 73)) : RowOK ((lp_X7_order_52 d n x s).2 73) := by
  cases n with
  | zero => exact hR
  | succ n =>
    rw [lp_X7_order_52]
    repeat' (with_reducible refine ro_i2 ?_ ?_)
    all_goals (refine ol_ro ?_; simp only [nu_73, tk_73, r73a, r73b]; exact hR)
theorem or_at {st : xs_S} {d : Int32} (hp : PM st) : AT st (F_X7_order st d).2 := by
  unfold F_X7_order
  by_cases h : st 72 7 ≤ st 72 8
  · rw [if_pos h]; exact at_r
  · rw [if_neg h]
    have hl := xi_nle h
    repeat' (with_reducible refine at_i2 ?_ ?_)
    all_goals first | with_reducible exact ok_at hp hl | with_reducible exact at_r
theorem or_ro {st : xs_S} {d : Int32} (hR : RowOK (st 73)) : RowOK ((F_X7_order st d).2 73) := by
  unfold F_X7_order
  repeat' (with_reducible refine ro_i2 ?_ ?_)
  all_goals first | with_reducible exact ok_ro hR | with_reducible exact hR
