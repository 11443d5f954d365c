/-! the law's loop -/
section LL
variable {p : Program} {l : Launch} {e : Env} {s : State} {m : MethodId} {below : List Frame} {meth : Method} {c : Code} {b L : Nat} {xs : Nat → Int32} {G : xs_G}
theorem l_switch (C : lC p s m meth c b L xs G) (hL : L ≤ 2048) {i x : Int32} {st : xs_S} (hi : 0 ≤ i.toInt ∧ i.toInt + 4 ≤ (L : Int)) (hI : Inv st) (hn : ∀ st' : xs_S, Inv st' → lR p l e s m below meth c b G 670 i [] st') : lR p l e s m below meth c b G 32 i [.int x] st := by
  by_cases h0 : x.toInt = 0
  · exact l_tin (k := 0) (tgt := 140) C ld_32 (by omega) (by omega) (by omega) rfl (by decide) (lc_set C hL hi hI hn)
  by_cases h1 : x.toInt = 1
  · exact l_tin (k := 1) (tgt := 173) C ld_32 (by omega) (by omega) (by omega) rfl (by decide) (lc_dial C hL hi hI hn)
  by_cases h2 : x.toInt = 2
  · exact l_tin (k := 2) (tgt := 186) C ld_32 (by omega) (by omega) (by omega) rfl (by decide) (lc_read C hL hi hI hn)
  by_cases h3 : x.toInt = 3
  · exact l_tin (k := 3) (tgt := 229) C ld_32 (by omega) (by omega) (by omega) rfl (by decide) (lc_pass C hL hi hI hn)
  by_cases h4 : x.toInt = 4
  · exact l_tin (k := 4) (tgt := 252) C ld_32 (by omega) (by omega) (by omega) rfl (by decide) (lc_agree C hL hi hI hn)
  by_cases h5 : x.toInt = 5
  · exact l_tin (k := 5) (tgt := 265) C ld_32 (by omega) (by omega) (by omega) rfl (by decide) (lc_of C hL hi hI hn)
  by_cases h6 : x.toInt = 6
  · exact l_tin (k := 6) (tgt := 298) C ld_32 (by omega) (by omega) (by omega) rfl (by decide) (lc_best C hL hi hI hn)
  by_cases h7 : x.toInt = 7
  · exact l_tin (k := 7) (tgt := 321) C ld_32 (by omega) (by omega) (by omega) rfl (by decide) (lc_end C hL hi hI hn)
  by_cases h8 : x.toInt = 8
  · exact l_tin (k := 8) (tgt := 354) C ld_32 (by omega) (by omega) (by omega) rfl (by decide) (lc_overlap C hL hi hI hn)
  by_cases h9 : x.toInt = 9
  · exact l_tin (k := 9) (tgt := 377) C ld_32 (by omega) (by omega) (by omega) rfl (by decide) (lc_count C hL hi hI hn)
  by_cases h10 : x.toInt = 10
  · exact l_tin (k := 10) (tgt := 400) C ld_32 (by omega) (by omega) (by omega) rfl (by decide) (lc_mean C hL hi hI hn)
  by_cases h11 : x.toInt = 11
  · exact l_tin (k := 11) (tgt := 414) C ld_32 (by omega) (by omega) (by omega) rfl (by decide) (lc_share C hL hi hI hn)
  by_cases h12 : x.toInt = 12
  · exact l_tin (k := 12) (tgt := 427) C ld_32 (by omega) (by omega) (by omega) rfl (by decide) (lc_allowing C hL hi hI hn)
  by_cases h13 : x.toInt = 13
  · exact l_tin (k := 13) (tgt := 460) C ld_32 (by omega) (by omega) (by omega) rfl (by decide) (lc_fewest C hL hi hI hn)
  by_cases h14 : x.toInt = 14
  · exact l_tin (k := 14) (tgt := 473) C ld_32 (by omega) (by omega) (by omega) rfl (by decide) (lc_widerIn C hL hi hI hn)
  by_cases h15 : x.toInt = 15
  · exact l_tin (k := 15) (tgt := 496) C ld_32 (by omega) (by omega) (by omega) rfl (by decide) (lc_without C hL hi hI hn)
  by_cases h16 : x.toInt = 16
  · exact l_tin (k := 16) (tgt := 519) C ld_32 (by omega) (by omega) (by omega) rfl (by decide) (lc_put C hL hi hI hn)
  by_cases h17 : x.toInt = 17
  · exact l_tin (k := 17) (tgt := 572) C ld_32 (by omega) (by omega) (by omega) rfl (by decide) (lc_wipe C hL hi hI hn)
  by_cases h18 : x.toInt = 18
  · exact l_tin (k := 18) (tgt := 585) C ld_32 (by omega) (by omega) (by omega) rfl (by decide) (lc_fault C hL hi hI hn)
  by_cases h19 : x.toInt = 19
  · exact l_tin (k := 19) (tgt := 598) C ld_32 (by omega) (by omega) (by omega) rfl (by decide) (lc_carryOut C hL hi hI hn)
  by_cases h20 : x.toInt = 20
  · exact l_tin (k := 20) (tgt := 611) C ld_32 (by omega) (by omega) (by omega) rfl (by decide) (lc_undo C hL hi hI hn)
  by_cases h21 : x.toInt = 21
  · exact l_tin (k := 21) (tgt := 624) C ld_32 (by omega) (by omega) (by omega) rfl (by decide) (lc_save C hL hi hI hn)
  by_cases h22 : x.toInt = 22
  · exact l_tin (k := 22) (tgt := 647) C ld_32 (by omega) (by omega) (by omega) rfl (by decide) (lc_restore C hL hi hI hn)
  exact l_tout (tgt := 670) C ld_32 (by omega) (by decide) (hn st hI)
theorem law_loop (C : lC p s m meth c b L xs G) (hL : L ≤ 2048) : ∀ (n : Nat) (i : Int32) (st : xs_S), Inv st → 0 ≤ i.toInt → i.toInt ≤ 2048 → 2048 < i.toInt + 4 * (n : Int) → lR p l e s m below meth c b G 18 i [] st := by
  intro n
  induction n with
  | zero => intro i st hI h0 h1 h2; omega
  | succ n ih =>
    intro i st hI h0 h1 h2
    have e4 : (4 : Int32).toInt = 4 := by decide
    have eL : (Int32.ofNat L).toInt = (L : Int) := nI_toInt (by omega)
    have eL4 : (Int32.ofNat L - 4).toInt = (L : Int) - 4 := by rw [xi_sub (by rw [eL, e4]; omega), eL, e4]
    refine l_il C ld_18 ?_
    refine l_al0 C ld_19 ?_
    refine l_len C ld_20 ?_
    refine l_ic (v := 4) C ld_21 rfl ?_
    refine l_isub C ld_22 ?_
    refine l_igt (tgt := 676) C ld_23 (by decide) (fun _ => ?_) (fun hc => ?_)
    · refine l_ic (v := 1) C ld_676 rfl ?_
      exact l_end C ld_677
    · rw [xi_lt, eL4] at hc
      refine l_al0 C ld_26 ?_
      refine l_il C ld_27 ?_
      refine l_sld C ld_28 ⟨h0, by omega⟩ ?_
      refine l_bi (v := 31) C ld_29 rfl ?_
      refine l_iand C ld_31 ?_
      refine l_switch C hL ⟨h0, by omega⟩ hI (fun st' hI' => ?_)
      refine l_iinc C ld_670 ?_
      refine l_goto (tgt := 18) C ld_673 (by decide) ?_
      have ei : (i + 4).toInt = i.toInt + 4 := by rw [xi_add (by rw [e4]; omega), e4]
      exact ih (i + 4) st' hI' (by omega) (by omega) (by omega)
end LL
