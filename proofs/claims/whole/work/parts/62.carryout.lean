/-! carryOut agrees -/
theorem kp_n {s : xs_S} {r : Int32} {k : Nat} (h : k ≠ 11) : (F_X2_keep s r).2 k = s k := by
  unfold F_X2_keep
  repeat' split
  all_goals first | with_reducible rfl | exact xs_rd_k h
theorem dr_c {s t : xs_S} (h : ∀ k : Nat, k ≠ 70 → s k = t k) : ∀ k : Nat, k ≠ 70 → F_X2_draft s k = F_X2_draft t k := by
  intro k hk
  have ep : pl_at s (s 11 2) = pl_at t (t 11 2) := by
    unfold pl_at
    rw [h 11 (by decide)]
    rfl
  have hb := pl_lt t (t 11 2)
  unfold F_X2_draft
  rw [ep]
  generalize hbb : 13 + 6 * pl_at t (t 11 2) = b
  have hb2 : b + 5 < 70 := by omega
  by_cases hc : k < b ∨ b + 5 < k
  · rw [cp_n hc, cp_n hc]
    exact h k hk
  · unfold xs_cpc
    rw [h 1 (by decide), h (1 + 1) (by decide), h (1 + 2) (by decide), h (1 + 3) (by decide), h (1 + 4) (by decide), h (1 + 5) (by decide), h (b + 1) (by omega), h (b + 2) (by omega), h (b + 3) (by omega), h (b + 4) (by omega), h (b + 5) (by omega)]
    rcases (show k = b ∨ k = b + 1 ∨ k = b + 2 ∨ k = b + 3 ∨ k = b + 4 ∨ k = b + 5 by omega) with e | e | e | e | e | e
    · subst e
      rw [xs_ur_n (by omega), xs_ur_n (by omega), xs_ur_n (by omega), xs_ur_n (by omega), xs_ur_n (by omega), xs_ur_n (by omega), xs_ur_n (by omega), xs_ur_n (by omega), xs_ur_n (by omega), xs_ur_n (by omega)]
      unfold xs_u
      simp only [xs_ur_s]
      rw [h k hk]
    · subst e
      rw [xs_ur_n (by omega), xs_ur_n (by omega), xs_ur_n (by omega), xs_ur_n (by omega), xs_ur_s, xs_ur_n (by omega), xs_ur_n (by omega), xs_ur_n (by omega), xs_ur_n (by omega), xs_ur_s]
    · subst e
      rw [xs_ur_n (by omega), xs_ur_n (by omega), xs_ur_n (by omega), xs_ur_s, xs_ur_n (by omega), xs_ur_n (by omega), xs_ur_n (by omega), xs_ur_s]
    · subst e
      rw [xs_ur_n (by omega), xs_ur_n (by omega), xs_ur_s, xs_ur_n (by omega), xs_ur_n (by omega), xs_ur_s]
    · subst e
      rw [xs_ur_n (by omega), xs_ur_s, xs_ur_n (by omega), xs_ur_s]
    · subst e
      rw [xs_ur_s, xs_ur_s]
theorem lc_n {k : Nat} (hk : 54 < k) (h7 : k ≠ 70) : ∀ (n : Nat) (x : Int32) (u : xs_S), (lp_X6_carryOut_35 n x u).2 k = u k := by
  intro n
  induction n with
  | zero => intro x u; rfl
  | succ n ih =>
    intro x u
    unfold lp_X6_carryOut_35
    repeat' split
    all_goals try dsimp only
    · rw [kp_n (by omega)]; exact xs_rd_k h7
    · rw [kp_n (by omega)]; unfold F_X3_clear; rw [xs_rd_k h7, no_n h7]
    · rw [ih, co_n (by omega), no_n h7]
    · rw [kp_n (by omega)]; unfold F_X3_clear; rw [xs_rd_k h7, co_n (by omega), no_n h7]
theorem lc_k : ∀ (n : Nat) (x : Int32) (s : xs_S), (xs_lo x 80 n ∧ PW s ∧ (0 ≤ (s 1 3).toInt ∧ (s 1 3).toInt ≤ 15) ∧ KR (s 70 3)) → KR ((lp_X6_carryOut_35 n x s).2 70 3) := by
  intro n
  induction n with
  | zero => intro x s h; exact (xs_lo0 h.1).elim
  | succ n ih =>
    intro x s h
    have hcl : ∀ (t : xs_S) (r : Int32), KR (t 70 3) → KR ((F_X2_keep (F_X3_clear t) r).2 70 3) := by
      intro t r ht
      rw [kp_n (by decide)]
      unfold F_X3_clear
      rw [xs_rd_i (by decide)]
      exact ht
    rw [lp_X6_carryOut_35]
    by_cases h1 : 80 ≤ x
    · rw [if_pos h1]
      exact hcl _ _ h.2.2.2
    · rw [if_neg h1]
      by_cases h2 : (F_X3_nextOrder s).1 = 0
      · rw [if_pos h2]
        exact hcl _ _ (no_k h.2.1 h.2.2.2)
      · rw [if_neg h2]
        have hb := xc_b h h1
        split
        · exact ih _ _ hb
        · exact hcl _ _ hb.2.2.2
theorem wf_all {st s1 : xs_S} {l : Nat} (hD : PD st) (hl : l ≤ 80 ∧ st 70 1 = nI l ∧ st 72 7 = nI l) (e72 : s1 72 7 = st 72 7) (e78 : s1 78 = st 78) : FT (F_X3_firstFault st) (F_X7_isWell s1) s1 l := by
  have hft := ft_all (pd_pr (s1 := s1) hD hl e72 e78)
  have ea : lp_X3_firstFault_6 81 0 (xs_u st 70 2 0) = F_X3_firstFault st := rfl
  rw [ea] at hft
  unfold F_X7_isWell
  obtain ⟨g1, g2, g3⟩ := hft
  exact ⟨g1, g2, FW_t g3 FW_8⟩
theorem pd_pw {st : xs_S} (hD : PD st) : PW (F_X3_startReading st) := by
  obtain ⟨l, hl⟩ := pd_nl hD
  obtain ⟨q1, q2, q3, q4, q5, q6, q7⟩ := pd_pr (s1 := st) hD hl rfl rfl
  unfold F_X3_startReading
  refine ⟨⟨by rw [q4, nI_0]; decide, by rw [q4, q1, nI_0, nI_toInt (by omega), xi_0]; omega, by rw [q1, nI_toInt (by omega)]; omega⟩, fun i hi => ?_⟩
  rw [q1, nI_toInt (by omega)] at hi
  exact (q7 i (by omega)).2
/-- what the model's reading leaves, over the class's -/
theorem inv_wf {st : xs_S} {b : Int32 × xs_S} {l p' : Nat} (hI : Inv st) (hp : PR (F_X3_firstFault st).2 b.2 l p') (fw : FW b.2 (F_X3_firstFault st).2) : Inv b.2 := by
  have hD := hI.2.2.2.2
  have hs1 : ∀ k : Nat, k ≠ 70 → (F_X3_firstFault st).2 k = st k := fun k hk => ff_n hk
  have hkr := ff_k (pd_pw hD) hD.2.2.2
  generalize F_X3_firstFault st = a at *
  have hk : ∀ k : Nat, k ≠ 70 → k ≠ 72 → k ≠ 80 → b.2 k = st k := fun k x y z => by rw [fw.1 k y z, hs1 k x]
  have h70 : b.2 70 = a.2 70 := fw.1 70 (by decide) (by decide)
  obtain ⟨q1, q2, q3, q4, q5, q6, q7⟩ := hp
  refine Inv_p (s := st) (fun k x y => hk k (by omega) (by omega) (by omega)) (by rw [fw.2 5 (by decide), hs1 72 (by decide)]) ⟨?_, ?_, fun i hi => ?_, ?_⟩ hI
  · rw [h70, q1, q2]
  · rw [q2, nI_toInt (by omega)]
    omega
  · rw [q2, nI_toInt (by omega)] at hi
    rw [fw.1 71 (by decide) (by decide)]
    exact q7 i (by omega)
  · rw [h70]
    exact hkr
theorem co_fin {st s1 u0 w0 u' w' u1 w1 : xs_S} {m : Int32} (hI : Inv st) (hu0 : ∀ k : Nat, 10 < k → k ≠ 70 → u0 k = F_X2_draft st k) (hw0 : ∀ k : Nat, k ≠ 72 → k ≠ 75 → k ≠ 80 → w0 k = s1 k) (hw75 : ∀ j : Nat, j < 111 → w0 75 j = st 73 j) (hw5 : w0 72 5 = st 72 5) (hCn : ∀ k : Nat, 54 < k → k ≠ 70 → s1 k = st k) (hkr : KR (s1 70 3)) (hCR : CR 1 u' (w' 73)) (hRow : RowOK (w' 73)) (hCF : CF u' u0) (hMF : MF w' w0) (hu1 : ∀ k : Nat, k ≠ 70 → u1 k = u' k) (hu70 : u1 70 1 = 0) (hs1 : s1 = (F_X2_keep u1 m).2) (hw1 : ∀ k : Nat, k ≠ 72 → w1 k = w' k) (hwi : ∀ i : Nat, i ≠ 7 → w1 72 i = w' 72 i) (hw17 : w1 72 7 = 0) : (F_X2_keep u1 m).1 = (F_X7_record w1 m).1 ∧ Inv (F_X7_record w1 m).2 := by
  obtain ⟨hC1, hR1, hH, hS, hD⟩ := hI
  obtain ⟨st0, g1, g2⟩ : ∃ st0 : xs_S, (∀ k : Nat, k ≠ 70 → st0 k = st k) ∧ st0 70 = u1 70 := ⟨xs_ur st 70 (u1 70), fun k hk => xs_ur_n hk, xs_ur_s⟩
  have hu : ∀ k : Nat, 10 < k → u1 k = F_X2_draft st0 k := by
    intro k hk
    by_cases h7 : k = 70
    · rw [h7, dr_n (by omega), g2]
    · rw [hu1 k h7, hCF k hk h7, hu0 k hk h7]
      exact (dr_c g1 k h7).symm
  have w1k : ∀ k : Nat, k ≠ 72 → k ≠ 73 → k ≠ 75 → k ≠ 80 → k ≠ 81 → k ≠ 82 → w1 k = s1 k := by
    intro k x1 x2 x3 x4 x5 x6
    rw [hw1 k x1, hMF.1 k x1 x2 x4 x5 x6, hw0 k x1 x3 x4]
  have hH0 : HR st0 st := HR_c (fun k x y => g1 k (by omega)) rfl rfl hH
  have hC0 : CR 1 st0 (st 73) := CR_c (fun k x y => g1 k (by omega)) hC1
  have h75 : ∀ j : Nat, j < 111 → w1 75 j = st 73 j := fun j hj => by
    rw [hw1 75 (by decide), hMF.1 75 (by decide) (by decide) (by decide) (by decide) (by decide)]
    exact hw75 j hj
  have h74 : w1 74 = st 74 := by rw [w1k 74 (by decide) (by decide) (by decide) (by decide) (by decide) (by decide), hCn 74 (by decide) (by decide)]
  have h5 : w1 72 5 = st 72 5 := by rw [hwi 5 (by decide), hMF.2, hw5]
  have k1 := hist_push (u := st0) (w := st) (u1 := u1) (w1 := w1) (r := m) hH0 hC0 hR1 hu h75 h74 h5
  obtain ⟨a1, a2, a3, a4, a5, a6⟩ := k1
  refine ⟨a1.trans a2.symm, ?_⟩
  have R : ∀ k : Nat, k ≠ 72 → k ≠ 73 → k ≠ 74 → k ≠ 75 → k ≠ 80 → k ≠ 81 → k ≠ 82 → (F_X7_record w1 m).2 k = s1 k := by
    intro k x1 x2 x3 x4 x5 x6 x7
    rw [a5 k x1 x3, w1k k x1 x2 x4 x5 x6 x7]
  generalize F_X7_record w1 m = rr at *
  generalize F_X2_keep u1 m = kk at *
  subst hs1
  refine ⟨?_, ?_, ?_, ?_, ?_, ?_, fun i hi => ?_, ?_⟩
  · rw [a5 73 (by decide) (by decide), hw1 73 (by decide)]
    refine CR_c (fun k x y => ?_) hCR
    rw [R k (by omega) (by omega) (by omega) (by omega) (by omega) (by omega) (by omega), a4 k (by omega), hu1 k (by omega)]
  · rw [a5 73 (by decide) (by decide), hw1 73 (by decide)]
    exact hRow
  · refine HR_c (fun k x y => ?_) rfl rfl a3
    exact R k (by omega) (by omega) (by omega) (by omega) (by omega) (by omega) (by omega)
  · refine SL_c (fun k x y => ?_) ?_ ?_ hS
    · rw [R k (by omega) (by omega) (by omega) (by omega) (by omega) (by omega) (by omega), hCn k (by omega) (by omega)]
    · rw [R 76 (by decide) (by decide) (by decide) (by decide) (by decide) (by decide) (by decide), hCn 76 (by omega) (by omega)]
    · rw [R 77 (by decide) (by decide) (by decide) (by decide) (by decide) (by decide) (by decide), hCn 77 (by omega) (by omega)]
  · rw [R 70 (by decide) (by decide) (by decide) (by decide) (by decide) (by decide) (by decide), a6 7 (by decide), hw17, a4 70 (by decide), hu70]
  · rw [a6 7 (by decide), hw17]
    exact ⟨by decide, by decide⟩
  · rw [a6 7 (by decide), hw17, xi_0] at hi
    omega
  · rw [R 70 (by decide) (by decide) (by decide) (by decide) (by decide) (by decide) (by decide)]
    exact hkr
theorem eq_carryOut {st : xs_S} (hI : Inv st) : (F_X6_carryOut st).1 = (F_X7_carryOut (F_X6_carryOut st).2).1 ∧ Inv (F_X7_carryOut (F_X6_carryOut st).2).2 := by
  have hI' := hI
  obtain ⟨hC1, hR1, hH, hS, hD⟩ := hI'
  obtain ⟨l, hl⟩ := pd_nl hD
  have hpw := pd_pw hD
  have hd0 : 0 ≤ (st 1 3).toInt ∧ (st 1 3).toInt ≤ 15 := by rw [hC1.1.2.2.2.1]; exact ro_D hR1
  have hs1 : ∀ k : Nat, k ≠ 70 → (F_X3_firstFault st).2 k = st k := fun k hk => ff_n hk
  by_cases c : (F_X3_firstFault st).1 = -6
  · have hC : F_X6_carryOut st = lp_X6_carryOut_35 81 0 (F_X3_startReading (F_X2_draft (F_X3_firstFault st).2)) := by
      unfold F_X6_carryOut
      rw [if_pos c]
    have hkr : KR ((F_X6_carryOut st).2 70 3) := by
      rw [hC]
      exact lc_k _ _ _ (xc_e hpw hd0 hD.2.2.2)
    obtain ⟨z, hW⟩ := wl_all (T := st 78) (pd_pr (s1 := st) hD hl rfl rfl) (fun i hi => by rw [xs_rd_k (by decide)]) c
    have hCn : ∀ k : Nat, 54 < k → k ≠ 70 → (F_X6_carryOut st).2 k = st k := by
      intro k h1 h2
      rw [hC, lc_n h1 h2]
      unfold F_X3_startReading
      rw [xs_rd_k h2, dr_n (by omega), hs1 k h2]
    have hwf := wf_all (s1 := (F_X6_carryOut st).2) hD hl (by rw [hCn 72 (by decide) (by decide)]) (hCn 78 (by decide) (by decide))
    have hM : ∀ s' : xs_S, (F_X7_isWell s').1 = 1 → F_X7_carryOut s' = lp_X7_carryOut_23 83 0 1 (xs_u (F_X7_remember (F_X7_isWell s').2) 72 8 0) := by
      intro s' h1
      unfold F_X7_carryOut
      rw [if_neg (show ¬ (F_X7_isWell s').1 = 0 by rw [h1]; decide)]
    obtain ⟨f1, ⟨p', hp⟩, fw⟩ := hwf
    have hb1 : (F_X7_isWell (F_X6_carryOut st).2).1 = 1 := by
      rcases f1 with h | h
      · exact h.2
      · exfalso
        have h2 := h.2
        have h80 := hp.2.2.1
        have hpl := hp.2.2.2.2.2.1
        rw [c, hp.2.2.2.2.1, xi_eq, nI_toInt (by omega), show (-6 : Int32).toInt = -6 by decide] at h2
        omega
    have hM' := hM _ hb1
    clear f1 hM
    generalize hs' : (F_X6_carryOut st).2 = s' at *
    generalize F_X7_isWell s' = b at *
    generalize F_X3_firstFault st = a at *
    have b73 : b.2 73 = st 73 := by rw [fw.1 73 (by decide) (by decide), hCn 73 (by decide) (by decide)]
    have b78 : b.2 78 = st 78 := by rw [fw.1 78 (by decide) (by decide), hCn 78 (by decide) (by decide)]
    have w73 : xs_u (F_X7_remember b.2) 72 8 0 73 = st 73 := by rw [xs_rd_k (by decide), re_n (by decide), b73]
    obtain ⟨q1, q2, q3, q4, q5, q6, q7⟩ := hp
    have hce := co_f (u := F_X3_startReading (F_X2_draft a.2)) (w := xs_u (F_X7_remember b.2) 72 8 0) (T := st 78) (l := l) (n := z) ⟨by unfold F_X3_startReading; rw [xs_rd_i (by decide), dr_n (by omega)]; exact q1, by rw [xs_rd_i (by decide), re_n (by decide)]; exact q2, q3, by unfold F_X3_startReading; rw [xs_rd_s]; exact nI_0.symm, by rw [xs_rd_s]; exact nI_0.symm, by omega, fun i hi => by
        unfold F_X3_startReading
        rw [xs_rd_k (by decide), xs_rd_k (by decide), dr_n (by omega), re_n (by decide)]
        exact q7 i hi⟩ (fun i hi => by rw [xs_rd_k (by decide), re_n (by decide), b78]) hW (by
        rw [w73]
        refine CR_c (fun k x y => ?_) hC1
        unfold F_X3_startReading
        rw [xs_rd_k (by omega), dr_n (by omega), hs1 k (by omega)]) (by rw [w73]; exact hR1)
    rw [← hC, ← hM'] at hce
    obtain ⟨u', w', m, e1, e2, hm, hCR', hRow', hCF, hMF⟩ := hce
    have e1' : s' = (F_X2_keep (F_X3_clear u') m).2 := by rw [← hs', e1]
    have w0k : ∀ k : Nat, k ≠ 72 → k ≠ 75 → k ≠ 80 → xs_u (F_X7_remember b.2) 72 8 0 k = s' k := fun k x1 x2 x3 => by rw [xs_rd_k x1, re_n x2, fw.1 k x1 x3]
    have w075 : ∀ j : Nat, j < 111 → xs_u (F_X7_remember b.2) 72 8 0 75 j = st 73 j := fun j hj => by
      have ej : 0 + (j - 0) = j := by omega
      rw [xs_rd_k (by decide), rem_s, cpy_i ⟨Nat.zero_le _, by omega⟩, b73, ej]
    have w05 : xs_u (F_X7_remember b.2) 72 8 0 72 5 = st 72 5 := by rw [xs_rd_i (by decide), re_n (by decide), fw.2 5 (by decide), hCn 72 (by decide) (by decide)]
    have u0k : ∀ k : Nat, 10 < k → k ≠ 70 → F_X3_startReading (F_X2_draft a.2) k = F_X2_draft st k := fun k hk h7 => by
      unfold F_X3_startReading
      rw [xs_rd_k h7]
      exact dr_c (fun j hj => hs1 j hj) k h7
    have c1 : ∀ k : Nat, k ≠ 70 → F_X3_clear u' k = u' k := fun k hk => xs_rd_k hk
    have c2 : F_X3_clear u' 70 1 = 0 := xs_rd_s
    have c3 : ∀ k : Nat, k ≠ 72 → xs_u w' 72 7 0 k = w' k := fun k hk => xs_rd_k hk
    have c4 : ∀ i : Nat, i ≠ 7 → xs_u w' 72 7 0 72 i = w' 72 i := fun i hi => xs_rd_i hi
    have c5 : xs_u w' 72 7 0 72 7 = 0 := xs_rd_s
    rw [e1, e2]
    dsimp only
    clear hs' hC hM' e1 e2 hW
    generalize xs_u (F_X7_remember b.2) 72 8 0 = w0 at *
    generalize F_X3_startReading (F_X2_draft a.2) = u0 at *
    generalize F_X3_clear u' = u1 at *
    generalize xs_u w' 72 7 0 = w1 at *
    exact co_fin hI u0k w0k w075 w05 hCn hkr hCR' hRow' hCF hMF c1 c2 e1' c3 c4 c5
  · have hC : F_X6_carryOut st = (-3, (F_X3_firstFault st).2) := by
      unfold F_X6_carryOut
      rw [if_neg c]
    rw [hC]
    dsimp only
    obtain ⟨f1, ⟨p', hp⟩, fw⟩ := wf_all (s1 := (F_X3_firstFault st).2) hD hl (by rw [hs1 72 (by decide)]) (hs1 78 (by decide))
    have hb : (F_X7_isWell (F_X3_firstFault st).2).1 = 0 := by
      rcases f1 with h | h
      · exact absurd h.1 c
      · exact h.1
    have hM : F_X7_carryOut (F_X3_firstFault st).2 = (-3, (F_X7_isWell (F_X3_firstFault st).2).2) := by
      unfold F_X7_carryOut
      rw [if_pos hb]
    have hv := inv_wf (b := F_X7_isWell (F_X3_firstFault st).2) hI hp fw
    rw [hM]
    dsimp only
    exact ⟨rfl, hv⟩
