/-! the law's end -/
section LE
variable {p : Program} {l : Launch} {e : Env} {s : State} {m : MethodId} {below : List Frame} {meth : Method} {c : Code} {b L : Nat} {xs : Nat → Int32} {G : xs_G} {cc ss : Nat}
theorem l_tail (C : lC p s m meth c b L xs G) (h1 : cc ≤ 600000) (h2 : ss ≤ 7302250) {i : Int32} {T0 : xs_S} (hd : 0 ≤ (T0 1 3).toInt ∧ (T0 1 3).toInt ≤ 15) (hp : 1 ≤ (T0 1 3).toInt) : lR p l e s m below meth c b G cc ss 92 i [] T0 := by
  have q0 : T0 1 = T0 1 := rfl
  refine l_al1 C ld_92 ?_
  refine l_bi (v := 15) C ld_93 rfl ?_
  refine l_ic (v := 0) C ld_95 rfl ?_
  refine l_ic (v := 0) C ld_96 rfl ?_
  refine l_callV (d' := 9) (b0 := 0) (a := 0) (a' := 0) (av := [.int 15, .int 0, .int 0]) (rest := []) C gd_X6_read k_L_71 ld_97 (c_X6_read (G := xg G 0 0) 6 T0 (15) (0) (0) (by rw [q0]; exact hd.2)) (by decide) rfl rfl rfl rfl rfl h1 h2 ?_
  refine xs_fun ?_
  refine l_ic (v := (-1)) C ld_100 rfl ?_
  refine l_ineq (tgt := 248) C ld_101 (by decide) (rf_1 (by rw [q0]; exact hd)).1 ?_
  have q1 : (F_X6_read T0 15 0 0).2 1 = T0 1 := (rf_1 (by rw [q0]; exact hd)).2.trans q0
  generalize (F_X6_read T0 15 0 0).2 = T1 at q1 ⊢
  refine l_al1 C ld_104 ?_
  refine l_ic (v := 0) C ld_105 rfl ?_
  refine l_si (v := 10000) C ld_106 rfl ?_
  refine l_ic (v := 0) C ld_109 rfl ?_
  refine l_callV (d' := 9) (b0 := 0) (a := 0) (a' := 0) (av := [.int 0, .int 10000, .int 0]) (rest := []) C gd_X6_read k_L_71 ld_110 (c_X6_read (G := xg G 0 0) 6 T1 (0) (10000) (0) (by rw [q1]; exact hd.2)) (by decide) rfl rfl rfl rfl rfl h1 h2 ?_
  refine xs_fun ?_
  refine l_bi (v := (-2)) C ld_113 rfl ?_
  refine l_ineq (tgt := 248) C ld_115 (by decide) (rf_2 (by rw [q1]; exact hp)).1 ?_
  have q2 : (F_X6_read T1 0 10000 0).2 1 = T0 1 := (rf_2 (by rw [q1]; exact hp)).2.trans q1
  generalize (F_X6_read T1 0 10000 0).2 = T2 at q2 ⊢
  refine l_al1 C ld_118 ?_
  refine l_ic (v := 0) C ld_119 rfl ?_
  refine l_ic (v := 0) C ld_120 rfl ?_
  refine l_si (v := 301) C ld_121 rfl ?_
  refine l_callV (d' := 9) (b0 := 0) (a := 0) (a' := 0) (av := [.int 0, .int 0, .int 301]) (rest := []) C gd_X6_read k_L_71 ld_124 (c_X6_read (G := xg G 0 0) 6 T2 (0) (0) (301) (by rw [q2]; exact hd.2)) (by decide) rfl rfl rfl rfl rfl h1 h2 ?_
  refine xs_fun ?_
  refine l_bi (v := (-2)) C ld_127 rfl ?_
  refine l_ineq (tgt := 248) C ld_129 (by decide) (rf_3 (by rw [q2]; exact hp)).1 ?_
  have q3 : (F_X6_read T2 0 0 301).2 1 = T0 1 := (rf_3 (by rw [q2]; exact hp)).2.trans q2
  generalize (F_X6_read T2 0 0 301).2 = T3 at q3 ⊢
  refine l_al1 C ld_132 ?_
  refine l_si (v := 1441) C ld_133 rfl ?_
  refine l_callV (d' := 9) (b0 := 0) (a := 0) (a' := 0) (av := [.int 1441]) (rest := []) C gd_X6_pass k_L_75 ld_136 (c_X6_pass (G := xg G 0 0) 6 T3 (1441)) (by decide) rfl rfl rfl rfl rfl h1 h2 ?_
  refine xs_fun ?_
  refine l_bi (v := (-2)) C ld_139 rfl ?_
  refine l_ineq (tgt := 248) C ld_141 (by decide) (rf_4).1 ?_
  have q4 : (F_X6_pass T3 1441).2 1 = T0 1 := (rf_4).2.trans q3
  generalize (F_X6_pass T3 1441).2 = T4 at q4 ⊢
  refine l_al1 C ld_144 ?_
  refine l_ic (v := 0) C ld_145 rfl ?_
  refine l_bi (v := 61) C ld_146 rfl ?_
  refine l_callV (d' := 9) (b0 := 0) (a := 0) (a' := 0) (av := [.int 0, .int 61]) (rest := []) C gd_X6_set k_L_78 ld_148 (c_X6_set (G := xg G 0 0) 6 T4 (0) (61)) (by decide) rfl rfl rfl rfl rfl h1 h2 ?_
  refine xs_fun ?_
  refine l_bi (v := (-2)) C ld_151 rfl ?_
  refine l_ineq (tgt := 248) C ld_153 (by decide) (rf_5).1 ?_
  have q5 : (F_X6_set T4 0 61).2 1 = T0 1 := (rf_5).2.trans q4
  generalize (F_X6_set T4 0 61).2 = T5 at q5 ⊢
  refine l_al1 C ld_156 ?_
  refine l_ic (v := 1) C ld_157 rfl ?_
  refine l_ic (v := 0) C ld_158 rfl ?_
  refine l_callV (d' := 9) (b0 := 0) (a := 0) (a' := 0) (av := [.int 1, .int 0]) (rest := []) C gd_X6_set k_L_78 ld_159 (c_X6_set (G := xg G 0 0) 6 T5 (1) (0)) (by decide) rfl rfl rfl rfl rfl h1 h2 ?_
  refine xs_fun ?_
  refine l_bi (v := (-2)) C ld_162 rfl ?_
  refine l_ineq (tgt := 248) C ld_164 (by decide) (rf_6).1 ?_
  have q6 : (F_X6_set T5 1 0).2 1 = T0 1 := (rf_6).2.trans q5
  generalize (F_X6_set T5 1 0).2 = T6 at q6 ⊢
  refine l_al1 C ld_167 ?_
  refine l_ic (v := 0) C ld_168 rfl ?_
  refine l_bi (v := 7) C ld_169 rfl ?_
  refine l_callV (d' := 9) (b0 := 0) (a := 0) (a' := 0) (av := [.int 0, .int 7]) (rest := []) C gd_X6_of k_L_16 ld_171 (c_X6_of (G := xg G 0 0) 5 T6 (0) (7) (by rw [q6]; exact hd.2)) (by decide) rfl rfl rfl rfl rfl h1 h2 ?_
  refine xs_fun ?_
  refine l_bi (v := (-2)) C ld_174 rfl ?_
  refine l_ineq (tgt := 248) C ld_176 (by decide) (rf_7 (by rw [q6]; exact hp)) ?_
  refine l_al1 C ld_179 ?_
  refine l_ic (v := 5) C ld_180 rfl ?_
  refine l_callV (d' := 9) (b0 := 0) (a := 0) (a' := 0) (av := [.int 5]) (rest := []) C gd_X6_best k_L_32 ld_181 (c_X6_best (G := xg G 0 0) 4 T6 (5)) (by decide) rfl rfl rfl rfl rfl h1 h2 ?_
  refine xs_fun ?_
  refine l_bi (v := (-2)) C ld_184 rfl ?_
  refine l_ineq (tgt := 248) C ld_186 (by decide) (rf_8) ?_
  have q8 : (F_X6_best T6 5).2 1 = T0 1 := f1_best.trans q6
  generalize (F_X6_best T6 5).2 = T8 at q8 ⊢
  refine l_al1 C ld_189 ?_
  refine l_ldc (v := 300000) C ld_190 (by decide +kernel) ?_
  refine l_callV (d' := 9) (b0 := 0) (a := 0) (a' := 0) (av := [.int 300000]) (rest := []) C gd_X6_overlap k_L_57 ld_192 (c_X6_overlap (G := xg G 0 0) 4 T8 (300000)) (by decide) rfl rfl rfl rfl rfl h1 h2 ?_
  refine xs_fun ?_
  refine l_bi (v := (-2)) C ld_195 rfl ?_
  refine l_ineq (tgt := 248) C ld_197 (by decide) (rf_9) ?_
  have q9 : (F_X6_overlap T8 300000).2 1 = T0 1 := f1_overlap.trans q8
  generalize (F_X6_overlap T8 300000).2 = T9 at q9 ⊢
  refine l_al1 C ld_200 ?_
  refine l_bi (v := 15) C ld_201 rfl ?_
  refine l_ic (v := 0) C ld_203 rfl ?_
  refine l_callV (d' := 9) (b0 := 0) (a := 0) (a' := 0) (av := [.int 15, .int 0]) (rest := []) C gd_X6_allowing k_L_46 ld_204 (c_X6_allowing (G := xg G 0 0) 4 T9 (15) (0)) (by decide) rfl rfl rfl rfl rfl h1 h2 ?_
  refine xs_fun ?_
  refine l_bi (v := (-2)) C ld_207 rfl ?_
  refine l_ineq (tgt := 248) C ld_209 (by decide) (rf_10) ?_
  have q10 : (F_X6_allowing T9 15 0).2 1 = T0 1 := f1_allowing.trans q9
  generalize (F_X6_allowing T9 15 0).2 = T10 at q10 ⊢
  refine l_al1 C ld_212 ?_
  refine l_bi (v := 16) C ld_213 rfl ?_
  refine l_callV (d' := 9) (b0 := 0) (a := 0) (a' := 0) (av := [.int 16]) (rest := []) C gd_X6_widerIn k_L_59 ld_215 (c_X6_widerIn (G := xg G 0 0) 4 T10 (16)) (by decide) rfl rfl rfl rfl rfl h1 h2 ?_
  refine xs_fun ?_
  refine l_bi (v := (-2)) C ld_218 rfl ?_
  refine l_ineq (tgt := 248) C ld_220 (by decide) (rf_11) ?_
  have q11 : (F_X6_widerIn T10 16).2 1 = T0 1 := f1_widerIn.trans q10
  generalize (F_X6_widerIn T10 16).2 = T11 at q11 ⊢
  refine l_al1 C ld_223 ?_
  refine l_bi (v := 15) C ld_224 rfl ?_
  refine l_callV (d' := 9) (b0 := 0) (a := 0) (a' := 0) (av := [.int 15]) (rest := []) C gd_X6_without k_L_103 ld_226 (c_X6_without (G := xg G 0 0) 4 T11 (15)) (by decide) rfl rfl rfl rfl rfl h1 h2 ?_
  refine xs_fun ?_
  refine l_ic (v := (-1)) C ld_229 rfl ?_
  refine l_ineq (tgt := 248) C ld_230 (by decide) (rf_12 (by rw [q11]; exact hd)) ?_
  generalize (F_X6_without T11 15).2 = T12
  refine l_al1 C ld_233 ?_
  refine l_bi (v := 10) C ld_234 rfl ?_
  refine l_callV (d' := 9) (b0 := 0) (a := 0) (a' := 0) (av := [.int 10]) (rest := []) C gd_X6_count k_L_22 ld_236 (c_X6_count (G := xg G 0 0) 7 T12 (10)) (by decide) rfl rfl rfl rfl rfl h1 h2 ?_
  refine xs_fun ?_
  refine l_bi (v := (-2)) C ld_239 rfl ?_
  refine l_ineq (tgt := 248) C ld_241 (by decide) (rf_13) ?_
  refine l_ic (v := 1) C ld_244 rfl ?_
  refine l_goto (tgt := 249) C ld_245 (by decide) ?_
  exact l_end C h1 h2 ld_249
/-- the law's loop -/
theorem law_loop (C : lC p s m meth c b L xs G) (hL : L ≤ 260) : ∀ (k n : Nat) (st : xs_S), n + k = 36 → J n st → (1 ≤ n → 1 ≤ (st 1 3).toInt) → lR p l e s m below meth c b G (100 + 4 * n) (3000 + 75 * n) 15 (nI n) [] st := by
  intro k
  induction k with
  | zero =>
    intro n st hn hj hp
    have e36 : (36 : Int32).toInt = 36 := by decide
    refine l_il C ld_15 ?_
    refine l_bi (v := 36) C ld_16 rfl ?_
    refine l_ige (tgt := 92) C ld_18 (by decide) (fun _ => ?_) (fun h => absurd (show (36 : Int32) ≤ nI n by rw [xi_le, e36, nI_toInt (by omega)]; omega) h)
    exact l_tail C (by omega) (by omega) hj.1.1.2.2.2.1 (hp (by omega))
  | succ k ih =>
    intro n st hn hj hp
    have e36 : (36 : Int32).toInt = 36 := by decide
    have e3 : (3 : Int32).toInt = 3 := by decide
    have e2 : (2 : Int32).toInt = 2 := by decide
    have em : (2 * nI n).toInt = 2 * (n : Int) := by rw [xi_mul (by rw [e2, nI_toInt (by omega)]; omega), e2, nI_toInt (by omega)]
    have em1 : (2 * nI n + 1).toInt = 2 * (n : Int) + 1 := by rw [xi_inc (by omega), em]
    refine l_il C ld_15 ?_
    refine l_bi (v := 36) C ld_16 rfl ?_
    refine l_ige (tgt := 92) C ld_18 (by decide) (fun h => absurd h (show ¬ (36 : Int32) ≤ nI n by rw [xi_le, e36, nI_toInt (by omega)]; omega)) (fun _ => ?_)
    have go : ∀ g : Int32, lR p l e s m below meth c b G (100 + 4 * n) (3000 + 75 * n) 39 (nI n) [.int g, .ref (G.1 72), .ref (G.1 0)] st := by
      intro g
      refine l_al0 C ld_39 ?_
      refine l_ic (v := 2) C ld_40 rfl ?_
      refine l_il C ld_41 ?_
      refine l_imul C ld_42 ?_
      refine l_ic (v := 1) C ld_43 rfl ?_
      refine l_iadd C ld_44 ?_
      refine l_cell C ld_45 (by omega) hL (by omega) (by omega) rfl (fun h => ?_)
      obtain ⟨a1, a2, a3⟩ := law_act (n := n) (st := st) (g := g) (h := h) (by omega) hj
      refine l_callS (d' := 9) (a := 3) (a' := 45) (av := [.ref 0, .ref 72, .int g, .int h]) (rest := []) C gd_L_act k_L_89 ld_48 (c_L_act (G := G) 1 st g h hj.1.1.2.2.2.1) (by decide) rfl rfl rfl (by omega) (by omega) ?_
      refine xs_fun ?_
      refine l_if0 (tgt := 84) C ld_51 (by decide) a1 ?_
      generalize (F_L_act st g h).2 = S1 at a2 a3 ⊢
      have v1 := CI_VW (by omega) a2.1
      refine l_al1 C ld_54 ?_
      refine l_al2 C ld_55 ?_
      refine l_callS (d' := 9) (a := 0) (a' := 0) (av := [.ref 0, .ref 72]) (rest := []) C gd_L_spans k_L_93 ld_56 (c_L_spans (G := xg G 0 0) 4 S1 a2.1.1.2.2.2.1) (by decide) rfl rfl rfl (by omega) (by omega) ?_
      refine xs_fun ?_
      refine l_if0 (tgt := 84) C ld_59 (by decide) (law_spans v1 a2.2 (CI_rLE a2.1)) ?_
      refine l_il C ld_62 ?_
      refine l_bi (v := 6) C ld_63 rfl ?_
      refine l_irem C ld_65 (by decide) ?_
      refine l_ic (v := 5) C ld_66 rfl ?_
      have best : ∀ S2 : xs_S, J (n + 1) S2 → 1 ≤ (S2 1 3).toInt → lR p l e s m below meth c b G (100 + 4 * n + 3) (3000 + 75 * n + 45) 77 (nI n) [] S2 := by
        intro S2 j2 p2
        have v2 := CI_VW (by omega) j2.1
        obtain ⟨b1, b2⟩ := law_best v2
        refine l_al1 C ld_77 ?_
        refine l_callS (d' := 9) (a := 1) (a' := 30) (av := [.ref 0]) (rest := []) C gd_L_best k_L_100 ld_78 (c_L_best (G := G) 3 S2 j2.1.1.2.2.2.1) (by decide) rfl rfl rfl (by omega) (by omega) ?_
        refine xs_fun ?_
        refine l_if1 (tgt := 86) C ld_81 (by decide) b1 ?_
        refine l_iinc C ld_86 ?_
        refine l_goto (tgt := 15) C ld_89 (by decide) ?_
        rw [nI_1]
        have j3 := J_c (fun c hc => b2 c (Or.inl hc) (by omega)) (b2 72 (by decide) (by decide)) j2
        have hi := ih (n + 1) (F_L_best S2).2 (by omega) j3 (fun _ => by rw [b2 1 (by decide) (by decide)]; exact p2)
        rw [show 100 + 4 * (n + 1) = 100 + 4 * n + 3 + 1 by omega, show 3000 + 75 * (n + 1) = 3000 + 75 * n + 45 + 30 by omega] at hi
        exact hi
      refine l_ine (tgt := 77) C ld_67 (by decide) (fun _ => best S1 a2 a3) (fun _ => ?_)
      obtain ⟨o1, o2⟩ := law_order v1
      refine l_al1 C ld_70 ?_
      refine l_callS (d' := 9) (a := 0) (a' := 0) (av := [.ref 0]) (rest := []) C gd_L_inOrder k_L_96 ld_71 (c_L_inOrder (G := xg G 0 0) 3 S1 a2.1.1.2.2.2.1) (by decide) rfl rfl rfl (by omega) (by omega) ?_
      refine xs_fun ?_
      refine l_if0 (tgt := 84) C ld_74 (by decide) o1 ?_
      exact best _ (J_c (fun c hc => o2 c (Or.inl hc)) (o2 72 (by decide)) a2) (by rw [o2 1 (by decide)]; exact a3)
    refine l_al1 C ld_21 ?_
    refine l_al2 C ld_22 ?_
    refine l_il C ld_23 ?_
    refine l_ic (v := 3) C ld_24 rfl ?_
    refine l_ige (tgt := 32) C ld_25 (by decide) (fun _ => ?_) (fun _ => ?_)
    · refine l_al0 C ld_32 ?_
      refine l_ic (v := 2) C ld_33 rfl ?_
      refine l_il C ld_34 ?_
      refine l_imul C ld_35 ?_
      exact l_cell C ld_36 (by omega) hL (by omega) (by omega) rfl (fun g => go g)
    · refine l_ic (v := 0) C ld_28 rfl ?_
      exact l_goto (tgt := 39) C ld_29 (by decide) (go 0)
end LE
