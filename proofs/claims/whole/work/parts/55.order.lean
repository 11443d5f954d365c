/-! an order of the pad -/
def PB (st : xs_S) : Int32 × xs_S := (if ((F_X3_take (xs_u (xs_u st 70 3 (F_X3_sign st)) 70 6 0) 100).1) = 0 then (if ((F_X3_take ((F_X3_take (xs_u (xs_u st 70 3 (F_X3_sign st)) 70 6 0) 100).2) 97).1) = 0 then (if ((F_X3_take ((F_X3_take ((F_X3_take (xs_u (xs_u st 70 3 (F_X3_sign st)) 70 6 0) 100).2) 97).2) 116).1) = 0 then (if ((F_X3_take ((F_X3_take ((F_X3_take ((F_X3_take (xs_u (xs_u st 70 3 (F_X3_sign st)) 70 6 0) 100).2) 97).2) 116).2) 114).1) = 0 then (0, (F_X3_take ((F_X3_take ((F_X3_take ((F_X3_take (xs_u (xs_u st 70 3 (F_X3_sign st)) 70 6 0) 100).2) 97).2) 116).2) 114).2)
            else (if ((F_X3_takeFirst ((F_X3_take ((F_X3_take ((F_X3_take ((F_X3_take (xs_u (xs_u st 70 3 (F_X3_sign st)) 70 6 0) 100).2) 97).2) 116).2) 114).2)).1) = 0 then (0, (F_X3_takeFirst ((F_X3_take ((F_X3_take ((F_X3_take ((F_X3_take (xs_u (xs_u st 70 3 (F_X3_sign st)) 70 6 0) 100).2) 97).2) 116).2) 114).2)).2)
              else (if ((F_X3_take ((F_X3_takeFirst ((F_X3_take ((F_X3_take ((F_X3_take ((F_X3_take (xs_u (xs_u st 70 3 (F_X3_sign st)) 70 6 0) 100).2) 97).2) 116).2) 114).2)).2) 61).1) = 0 then (0, (F_X3_take ((F_X3_takeFirst ((F_X3_take ((F_X3_take ((F_X3_take ((F_X3_take (xs_u (xs_u st 70 3 (F_X3_sign st)) 70 6 0) 100).2) 97).2) 116).2) 114).2)).2) 61).2)
                else (if ((F_X3_takeSecond ((F_X3_take ((F_X3_takeFirst ((F_X3_take ((F_X3_take ((F_X3_take ((F_X3_take (xs_u (xs_u st 70 3 (F_X3_sign st)) 70 6 0) 100).2) 97).2) 116).2) 114).2)).2) 61).2)).1) = 0 then (0, (F_X3_takeSecond ((F_X3_take ((F_X3_takeFirst ((F_X3_take ((F_X3_take ((F_X3_take ((F_X3_take (xs_u (xs_u st 70 3 (F_X3_sign st)) 70 6 0) 100).2) 97).2) 116).2) 114).2)).2) 61).2)).2)
                  else (if ((F_X3_take ((F_X3_takeSecond ((F_X3_take ((F_X3_takeFirst ((F_X3_take ((F_X3_take ((F_X3_take ((F_X3_take (xs_u (xs_u st 70 3 (F_X3_sign st)) 70 6 0) 100).2) 97).2) 116).2) 114).2)).2) 61).2)).2) 126).1) = 0 then (1, (F_X3_take ((F_X3_takeSecond ((F_X3_take ((F_X3_takeFirst ((F_X3_take ((F_X3_take ((F_X3_take ((F_X3_take (xs_u (xs_u st 70 3 (F_X3_sign st)) 70 6 0) 100).2) 97).2) 116).2) 114).2)).2) 61).2)).2) 126).2)
                    else (if ((F_X3_takeThird ((F_X3_take ((F_X3_takeSecond ((F_X3_take ((F_X3_takeFirst ((F_X3_take ((F_X3_take ((F_X3_take ((F_X3_take (xs_u (xs_u st 70 3 (F_X3_sign st)) 70 6 0) 100).2) 97).2) 116).2) 114).2)).2) 61).2)).2) 126).2)).1) = 0 then (0, (F_X3_takeThird ((F_X3_take ((F_X3_takeSecond ((F_X3_take ((F_X3_takeFirst ((F_X3_take ((F_X3_take ((F_X3_take ((F_X3_take (xs_u (xs_u st 70 3 (F_X3_sign st)) 70 6 0) 100).2) 97).2) 116).2) 114).2)).2) 61).2)).2) 126).2)).2)
                      else (1, (F_X3_takeThird ((F_X3_take ((F_X3_takeSecond ((F_X3_take ((F_X3_takeFirst ((F_X3_take ((F_X3_take ((F_X3_take ((F_X3_take (xs_u (xs_u st 70 3 (F_X3_sign st)) 70 6 0) 100).2) 97).2) 116).2) 114).2)).2) 61).2)).2) 126).2)).2)))))))
          else ((F_X3_takeFirst ((F_X3_take ((F_X3_take ((F_X3_take (xs_u (xs_u st 70 3 (F_X3_sign st)) 70 6 0) 100).2) 97).2) 116).2)).1, (F_X3_takeFirst ((F_X3_take ((F_X3_take ((F_X3_take (xs_u (xs_u st 70 3 (F_X3_sign st)) 70 6 0) 100).2) 97).2) 116).2)).2))
        else (1, (F_X3_take ((F_X3_take (xs_u (xs_u st 70 3 (F_X3_sign st)) 70 6 0) 100).2) 97).2))
      else (1, (F_X3_take (xs_u (xs_u st 70 3 (F_X3_sign st)) 70 6 0) 100).2))
theorem no_pb {st : xs_S} : F_X3_nextOrder st = if st 70 2 ≤ 0 then PB st else if (F_X3_take st 59).1 = 0 then (0, (F_X3_take st 59).2) else PB (F_X3_take st 59).2 := by
  unfold F_X3_nextOrder PB
  rfl
def act (x : Int32) (s : xs_S) : Int32 × xs_S := if x = 100 then ((F_X7_comes s).1, (F_X7_comes s).2) else if x = 114 then ((F_X7_reads s (s 80 0) (s 80 1) (s 80 2)).1, (F_X7_reads s (s 80 0) (s 80 1) (s 80 2)).2) else if x = 116 then ((F_X7_waits s (s 80 0)).1, (F_X7_waits s (s 80 0)).2) else ((F_X7_agrees s).1, (F_X7_agrees s).2)
theorem o140 {d x y : Int32} {s : xs_S} : lp_X7_order_140 d 1 x y s = if y = 0 then (-3, s) else if d = 0 then (0, s) else act x s := by
  rw [lp_X7_order_140]
  rfl
def KD (a b : xs_S) : Prop := a 70 3 = 100 ∨ a 70 3 = 97 ∨ (a 70 3 = 116 ∧ b 80 0 = a 70 4) ∨ (a 70 3 = 114 ∧ b 80 0 = a 70 4 ∧ b 80 1 = a 70 5 ∧ b 80 2 = a 70 6)
def OR (A : Int32 × xs_S) (w : xs_S) (l p : Nat) : Prop := (A.1 = 0 ∧ ∃ (B : xs_S) (p' : Nat), (∀ d : Int32, F_X7_order w d = (-3, B)) ∧ PR A.2 B l p' ∧ FW B w) ∨ (A.1 = 1 ∧ ∃ (B : xs_S) (p' : Nat), (∀ d : Int32, F_X7_order w d = if d = 0 then (0, B) else act (A.2 70 3) B) ∧ p < p' ∧ PR A.2 B l p' ∧ FW B w ∧ KD A.2 B)
theorem tke_y {s : xs_S} {x : Int32} (h : F_X3_sign s = x) : F_X3_take s x = (1, xs_u s 70 2 (s 70 2 + 1)) := by
  unfold F_X3_take
  rw [if_pos h]
theorem tke_n {s : xs_S} {x : Int32} (h : ¬ F_X3_sign s = x) : F_X3_take s x = (0, s) := by
  unfold F_X3_take
  rw [if_neg h]
theorem tfe_1 {s : xs_S} : F_X3_takeFirst s = ((F_X3_takeNumber s).1, xs_u (F_X3_takeNumber s).2 70 4 ((F_X3_takeNumber s).2 70 7)) := rfl
theorem tfe_2 {s : xs_S} : F_X3_takeSecond s = ((F_X3_takeNumber s).1, xs_u (F_X3_takeNumber s).2 70 5 ((F_X3_takeNumber s).2 70 7)) := rfl
theorem tfe_3 {s : xs_S} : F_X3_takeThird s = ((F_X3_takeNumber s).1, xs_u (F_X3_takeNumber s).2 70 6 ((F_X3_takeNumber s).2 70 7)) := rfl
theorem pr_ord {u w : xs_S} {l p : Nat} (h : PR u w l p) : OR (PB u) w l p := by
  have h' := h
  obtain ⟨a1, a2, a3, a4, a5, a6, a7⟩ := h'
  have hS : PR (xs_u (xs_u u 70 3 (F_X3_sign u)) 70 6 0) w l p := PR_u (by decide) (PR_u (by decide) h)
  have hg0 := pr_sign hS
  have hgu := pr_sign h
  have e71 : xs_u (xs_u u 70 3 (F_X3_sign u)) 70 6 0 71 = u 71 := by rw [xs_rd_k (by decide), xs_rd_k (by decide)]
  rw [e71, ← hgu] at hg0
  have k3 : xs_u (xs_u u 70 3 (F_X3_sign u)) 70 6 0 70 3 = F_X3_sign u := by rw [xs_rd_i (by decide), xs_rd_s]
  have k6 : xs_u (xs_u u 70 3 (F_X3_sign u)) 70 6 0 70 6 = 0 := xs_rd_s
  have kat : xs_u (xs_u u 70 3 (F_X3_sign u)) 70 6 0 70 2 = nI p := hS.2.2.2.1
  unfold PB OR
  generalize hs0 : xs_u (xs_u u 70 3 (F_X3_sign u)) 70 6 0 = S at *
  have wcode : p < l → w 78 ((w 72 8).toInt.toNat) = F_X3_sign u := fun c => by
    rw [a5, nI_tn (by omega), ← (a7 p c).1, hgu, if_pos c]
  have wlen : p < l → ¬ w 72 7 ≤ w 72 8 := fun c => by
    rw [a2, a5, nI_leI (by omega) (by omega)]
    omega
  have nz : ¬ (F_X3_sign u = 0) → p < l := fun c => by
    apply Classical.byContradiction
    intro hp
    rw [hgu, if_neg hp] at c
    exact c rfl
  -- the reference's memory behind the letter
  have hW : p < l → PR (xs_u S 70 2 (nI (p + 1))) (xs_u (xs_u w 72 8 (nI (p + 1))) 80 2 0) l (p + 1) := fun c => PR_w (PR_up hS c)
  have fW : FW (xs_u (xs_u w 72 8 (nI (p + 1))) 80 2 0) w := FW_t FW_80 FW_8
  by_cases c100 : F_X3_sign u = 100
  · have hp := nz (by rw [c100]; decide)
    rw [tke_y (s := S) (x := 100) (by rw [hg0, c100]), if_neg (show ¬ ((1 : Int32) = 0) by decide), kat, nI_1]
    refine Or.inr ⟨rfl, _, p + 1, fun d => ?_, by omega, hW hp, fW, Or.inl (by dsimp only; rw [xs_rd_i (by decide), k3, c100])⟩
    unfold F_X7_order
    rw [if_neg (wlen hp), wcode hp, if_pos c100, lp_X7_order_52, if_neg (show ¬ F_X3_sign u = 114 by rw [c100]; decide), if_neg (show ¬ F_X3_sign u = 116 by rw [c100]; decide), o140, if_neg (show ¬ ((1 : Int32) = 0) by decide), a5, nI_1]
    dsimp only
    rw [xs_rd_i (show (3 : Nat) ≠ 2 by decide), k3]
  rw [tke_n (s := S) (x := 100) (by rw [hg0]; exact c100), if_pos (show ((0 : Int32), S).1 = 0 from rfl)]
  dsimp only
  by_cases c97 : F_X3_sign u = 97
  · have hp := nz (by rw [c97]; decide)
    rw [tke_y (s := S) (x := 97) (by rw [hg0, c97]), if_neg (show ¬ ((1 : Int32) = 0) by decide), kat, nI_1]
    refine Or.inr ⟨rfl, _, p + 1, fun d => ?_, by omega, hW hp, fW, Or.inr (Or.inl (by dsimp only; rw [xs_rd_i (by decide), k3, c97]))⟩
    unfold F_X7_order
    rw [if_neg (wlen hp), wcode hp, if_neg c100, if_neg (show ¬ F_X3_sign u = 114 by rw [c97]; decide), if_neg (show ¬ F_X3_sign u = 116 by rw [c97]; decide), if_pos c97, lp_X7_order_52, if_neg (show ¬ F_X3_sign u = 114 by rw [c97]; decide), if_neg (show ¬ F_X3_sign u = 116 by rw [c97]; decide), o140, if_neg (show ¬ ((1 : Int32) = 0) by decide), a5, nI_1]
    dsimp only
    rw [xs_rd_i (show (3 : Nat) ≠ 2 by decide), k3]
  rw [tke_n (s := S) (x := 97) (by rw [hg0]; exact c97), if_pos (show ((0 : Int32), S).1 = 0 from rfl)]
  dsimp only
  by_cases c116 : F_X3_sign u = 116
  · have hp := nz (by rw [c116]; decide)
    rw [tke_y (s := S) (x := 116) (by rw [hg0, c116]), if_neg (show ¬ ((1 : Int32) = 0) by decide), kat, nI_1]
    dsimp only
    unfold F_X3_takeFirst
    dsimp only
    have hn := pr_num (pn := 0) (pl := 0) (by decide) (hW hp)
    have ord : ∀ d : Int32, F_X7_order w d = lp_X7_order_140 d 1 116 (F_X7_number (xs_u (xs_u w 72 8 (nI (p + 1))) 80 2 0) 0).1 (F_X7_number (xs_u (xs_u w 72 8 (nI (p + 1))) 80 2 0) 0).2 := fun d => by
      unfold F_X7_order
      rw [if_neg (wlen hp), wcode hp, if_neg c100, if_neg (show ¬ F_X3_sign u = 114 by rw [c116]; decide), if_pos c116, lp_X7_order_52, if_neg (show ¬ F_X3_sign u = 114 by rw [c116]; decide), if_pos c116, a5, nI_1, c116]
    have hk : ∀ i : Nat, i ≠ 2 → i ≠ 7 → (F_X3_takeNumber (xs_u S 70 2 (nI (p + 1)))).2 70 i = S 70 i := fun i i2 i7 => by
      rw [hn.2.1 i i2 i7, xs_rd_i i2]
    obtain ⟨n1, -, n3, n4⟩ := hn
    generalize F_X3_takeNumber (xs_u S 70 2 (nI (p + 1))) = A at *
    generalize F_X7_number (xs_u (xs_u w 72 8 (nI (p + 1))) 80 2 0) 0 = B at *
    rcases n1 with ⟨r1, r2, r3⟩ | ⟨r1, r2, ⟨q, hq, r3⟩, r4⟩
    · refine Or.inl ⟨r1, B.2, p + 1, fun d => ?_, PR_u (by decide) r3, FW_t n3 fW⟩
      rw [ord, o140, r2, if_pos rfl]
    · refine Or.inr ⟨r1, B.2, q, fun d => ?_, by omega, PR_u (by decide) r3, FW_t n3 fW, Or.inr (Or.inr (Or.inl ⟨?_, ?_⟩))⟩
      · rw [ord, o140, r2, if_neg (show ¬ ((1 : Int32) = 0) by decide), xs_rd_i (show (3 : Nat) ≠ 4 by decide), hk 3 (by decide) (by decide), k3, c116]
      · rw [xs_rd_i (show (3 : Nat) ≠ 4 by decide), hk 3 (by decide) (by decide), k3, c116]
      · rw [xs_rd_s, r4]
  rw [tke_n (s := S) (x := 116) (by rw [hg0]; exact c116), if_pos (show ((0 : Int32), S).1 = 0 from rfl)]
  dsimp only
  by_cases c114 : F_X3_sign u = 114
  · have hp := nz (by rw [c114]; decide)
    rw [tke_y (s := S) (x := 114) (by rw [hg0, c114]), if_neg (show ¬ ((1 : Int32), xs_u S 70 2 (S 70 2 + 1)).1 = 0 by dsimp only; decide), kat, nI_1]
    dsimp only
    rw [tfe_1]
    dsimp only
    have ord : ∀ d : Int32, F_X7_order w d = if (F_X7_number (xs_u (xs_u w 72 8 (nI (p + 1))) 80 2 0) 0).1 = 0 then lp_X7_order_140 d 1 (F_X3_sign u) 0 (F_X7_number (xs_u (xs_u w 72 8 (nI (p + 1))) 80 2 0) 0).2 else if (F_X7_takes (F_X7_number (xs_u (xs_u w 72 8 (nI (p + 1))) 80 2 0) 0).2 61).1 = 0 then lp_X7_order_140 d 1 (F_X3_sign u) 0 (F_X7_takes (F_X7_number (xs_u (xs_u w 72 8 (nI (p + 1))) 80 2 0) 0).2 61).2 else if (F_X7_number (F_X7_takes (F_X7_number (xs_u (xs_u w 72 8 (nI (p + 1))) 80 2 0) 0).2 61).2 1).1 = 0 then lp_X7_order_140 d 1 (F_X3_sign u) 0 (F_X7_number (F_X7_takes (F_X7_number (xs_u (xs_u w 72 8 (nI (p + 1))) 80 2 0) 0).2 61).2 1).2 else if (F_X7_takes (F_X7_number (F_X7_takes (F_X7_number (xs_u (xs_u w 72 8 (nI (p + 1))) 80 2 0) 0).2 61).2 1).2 126).1 = 0 then lp_X7_order_140 d 1 (F_X3_sign u) 1 (F_X7_takes (F_X7_number (F_X7_takes (F_X7_number (xs_u (xs_u w 72 8 (nI (p + 1))) 80 2 0) 0).2 61).2 1).2 126).2 else if (F_X7_number (F_X7_takes (F_X7_number (F_X7_takes (F_X7_number (xs_u (xs_u w 72 8 (nI (p + 1))) 80 2 0) 0).2 61).2 1).2 126).2 2).1 = 0 then lp_X7_order_140 d 1 (F_X3_sign u) 0 (F_X7_number (F_X7_takes (F_X7_number (F_X7_takes (F_X7_number (xs_u (xs_u w 72 8 (nI (p + 1))) 80 2 0) 0).2 61).2 1).2 126).2 2).2 else lp_X7_order_140 d 1 (F_X3_sign u) 1 (F_X7_number (F_X7_takes (F_X7_number (F_X7_takes (F_X7_number (xs_u (xs_u w 72 8 (nI (p + 1))) 80 2 0) 0).2 61).2 1).2 126).2 2).2 := fun d => by
      unfold F_X7_order
      rw [if_neg (wlen hp), wcode hp, if_neg c100, if_pos c114, lp_X7_order_52, if_pos c114, a5, nI_1]
    have hn := pr_num (pn := 0) (pl := 0) (by decide) (hW hp)
    have k80 : xs_u (xs_u w 72 8 (nI (p + 1))) 80 2 0 80 2 = 0 := xs_rd_s
    clear hW
    obtain ⟨W0, hW0⟩ : ∃ W : xs_S, W = xs_u (xs_u w 72 8 (nI (p + 1))) 80 2 0 := ⟨_, rfl⟩
    simp only [← hW0] at ord
    rw [← hW0] at hn fW k80
    obtain ⟨n1, n2, n3, n4⟩ := hn
    have hk : ∀ i : Nat, i ≠ 2 → i ≠ 7 → (F_X3_takeNumber (xs_u S 70 2 (nI (p + 1)))).2 70 i = S 70 i := fun i i2 i7 => by
      rw [n2 i i2 i7, xs_rd_i i2]
    clear n2
    generalize F_X3_takeNumber (xs_u S 70 2 (nI (p + 1))) = A1 at n1 hk ⊢
    generalize F_X7_number W0 0 = B1 at n1 n3 n4 ord
    rcases n1 with ⟨r1, r2, r3⟩ | ⟨r1, r2, ⟨q1, hq1, r3⟩, r4⟩
    · rw [if_pos r1]
      refine Or.inl ⟨rfl, B1.2, p + 1, fun d => ?_, PR_u (by decide) r3, FW_t n3 fW⟩
      rw [ord, if_pos r2, o140, if_pos rfl]
    rw [if_neg (show ¬ A1.1 = 0 by rw [r1]; decide)]
    have hP1 : PR (xs_u A1.2 70 4 (A1.2 70 7)) B1.2 l q1 := PR_u (by decide) r3
    have p13 : xs_u A1.2 70 4 (A1.2 70 7) 70 3 = F_X3_sign u := by rw [xs_rd_i (by decide), hk 3 (by decide) (by decide), k3]
    have p14 : xs_u A1.2 70 4 (A1.2 70 7) 70 4 = B1.2 80 0 := by rw [xs_rd_s, r4]
    have p16 : xs_u A1.2 70 4 (A1.2 70 7) 70 6 = 0 := by rw [xs_rd_i (by decide), hk 6 (by decide) (by decide), k6]
    have b12 : B1.2 80 2 = 0 := by rw [n4 2 (by decide), k80]
    have fB1 : FW B1.2 w := FW_t n3 fW
    obtain ⟨P1, gP1⟩ : ∃ W : xs_S, W = xs_u A1.2 70 4 (A1.2 70 7) := ⟨_, rfl⟩
    rw [← gP1] at hP1 p13 p14 p16 ⊢
    obtain ⟨t1, t2, t3, t4⟩ := pr_take (x := 61) hP1 (by decide)
    generalize F_X3_take P1 61 = T1 at t1 t2 ⊢
    generalize F_X7_takes B1.2 61 = U1 at t1 t3 t4 ord
    rcases t1 with ⟨s1, s2, s3⟩ | ⟨s1, s2, hq, s3⟩
    · rw [if_pos s1]
      refine Or.inl ⟨rfl, U1.2, q1, fun d => ?_, s3, FW_t t3 fB1⟩
      rw [ord, if_neg (show ¬ B1.1 = 0 by rw [r2]; decide), if_pos s2, o140, if_pos rfl]
    rw [if_neg (show ¬ T1.1 = 0 by rw [s1]; decide)]
    have fU1 : FW U1.2 w := FW_t t3 fB1
    rw [tfe_2]
    dsimp only
    obtain ⟨m1, m2, m3, m4⟩ := pr_num (pn := 1) (pl := 1) (by decide) s3
    generalize F_X3_takeNumber T1.2 = A2 at m1 m2 ⊢
    generalize F_X7_number U1.2 1 = B2 at m1 m3 m4 ord
    rcases m1 with ⟨r1', r2', r3'⟩ | ⟨r1', r2', ⟨q2, hq2, r3'⟩, r4'⟩
    · rw [if_pos r1']
      refine Or.inl ⟨rfl, B2.2, q1 + 1, fun d => ?_, PR_u (by decide) r3', FW_t m3 fU1⟩
      rw [ord, if_neg (show ¬ B1.1 = 0 by rw [r2]; decide), if_neg (show ¬ U1.1 = 0 by rw [s2]; decide), if_pos r2', o140, if_pos rfl]
    rw [if_neg (show ¬ A2.1 = 0 by rw [r1']; decide)]
    have hP2 : PR (xs_u A2.2 70 5 (A2.2 70 7)) B2.2 l q2 := PR_u (by decide) r3'
    have p23 : xs_u A2.2 70 5 (A2.2 70 7) 70 3 = F_X3_sign u := by rw [xs_rd_i (by decide), m2 3 (by decide) (by decide), t2 3 (by decide), p13]
    have p24 : xs_u A2.2 70 5 (A2.2 70 7) 70 4 = B2.2 80 0 := by rw [xs_rd_i (by decide), m2 4 (by decide) (by decide), t2 4 (by decide), p14, m4 0 (by decide), t4]
    have p25 : xs_u A2.2 70 5 (A2.2 70 7) 70 5 = B2.2 80 1 := by rw [xs_rd_s, r4']
    have p26' : xs_u A2.2 70 5 (A2.2 70 7) 70 6 = 0 := by rw [xs_rd_i (by decide), m2 6 (by decide) (by decide), t2 6 (by decide), p16]
    have b22 : B2.2 80 2 = 0 := by rw [m4 2 (by decide), t4, b12]
    have fB2 : FW B2.2 w := FW_t m3 fU1
    obtain ⟨P2, gP2⟩ : ∃ W : xs_S, W = xs_u A2.2 70 5 (A2.2 70 7) := ⟨_, rfl⟩
    rw [← gP2] at hP2 p23 p24 p25 p26' ⊢
    obtain ⟨v1, v2, v3, v4⟩ := pr_take (x := 126) hP2 (by decide)
    generalize F_X3_take P2 126 = T2 at v1 v2 ⊢
    generalize F_X7_takes B2.2 126 = U2 at v1 v3 v4 ord
    have fU2 : FW U2.2 w := FW_t v3 fB2
    rcases v1 with ⟨s1', s2', s3'⟩ | ⟨s1', s2', hq', s3'⟩
    · rw [if_pos s1']
      refine Or.inr ⟨rfl, U2.2, q2, fun d => ?_, by omega, s3', fU2, Or.inr (Or.inr (Or.inr ⟨?_, ?_, ?_, ?_⟩))⟩
      · rw [ord, if_neg (show ¬ B1.1 = 0 by rw [r2]; decide), if_neg (show ¬ U1.1 = 0 by rw [s2]; decide), if_neg (show ¬ B2.1 = 0 by rw [r2']; decide), if_pos s2', o140, if_neg (show ¬ ((1 : Int32) = 0) by decide)]
        dsimp only
        rw [v2 3 (by decide), p23]
      · dsimp only
        rw [v2 3 (by decide), p23, c114]
      · dsimp only
        rw [v4, v2 4 (by decide), p24]
      · dsimp only
        rw [v4, v2 5 (by decide), p25]
      · dsimp only
        rw [v4, v2 6 (by decide), p26', b22]
    rw [if_neg (show ¬ T2.1 = 0 by rw [s1']; decide)]
    rw [tfe_3]
    dsimp only
    obtain ⟨y1, y2, y3, y4⟩ := pr_num (pn := 2) (pl := 2) (by decide) s3'
    generalize F_X3_takeNumber T2.2 = A3 at y1 y2 ⊢
    generalize F_X7_number U2.2 2 = B3 at y1 y3 y4 ord
    rcases y1 with ⟨z1, z2, z3⟩ | ⟨z1, z2, ⟨q3, hq3, z3⟩, z4⟩
    · rw [if_pos z1]
      refine Or.inl ⟨rfl, B3.2, q2 + 1, fun d => ?_, PR_u (by decide) z3, FW_t y3 fU2⟩
      rw [ord, if_neg (show ¬ B1.1 = 0 by rw [r2]; decide), if_neg (show ¬ U1.1 = 0 by rw [s2]; decide), if_neg (show ¬ B2.1 = 0 by rw [r2']; decide), if_neg (show ¬ U2.1 = 0 by rw [s2']; decide), if_pos z2, o140, if_pos rfl]
    rw [if_neg (show ¬ A3.1 = 0 by rw [z1]; decide)]
    refine Or.inr ⟨rfl, B3.2, q3, fun d => ?_, by omega, PR_u (by decide) z3, FW_t y3 fU2, Or.inr (Or.inr (Or.inr ⟨?_, ?_, ?_, ?_⟩))⟩
    · rw [ord, if_neg (show ¬ B1.1 = 0 by rw [r2]; decide), if_neg (show ¬ U1.1 = 0 by rw [s2]; decide), if_neg (show ¬ B2.1 = 0 by rw [r2']; decide), if_neg (show ¬ U2.1 = 0 by rw [s2']; decide), if_neg (show ¬ B3.1 = 0 by rw [z2]; decide), o140, if_neg (show ¬ ((1 : Int32) = 0) by decide)]
      dsimp only
      rw [xs_rd_i (by decide), y2 3 (by decide) (by decide), v2 3 (by decide), p23]
    · dsimp only
      rw [xs_rd_i (by decide), y2 3 (by decide) (by decide), v2 3 (by decide), p23, c114]
    · dsimp only
      rw [xs_rd_i (by decide), y2 4 (by decide) (by decide), v2 4 (by decide), p24, y4 0 (by decide), v4]
    · dsimp only
      rw [xs_rd_i (by decide), y2 5 (by decide) (by decide), v2 5 (by decide), p25, y4 1 (by decide), v4]
    · dsimp only
      rw [xs_rd_s, z4]
  rw [tke_n (s := S) (x := 114) (by rw [hg0]; exact c114), if_pos (show ((0 : Int32), S).1 = 0 from rfl)]
  refine Or.inl ⟨rfl, w, p, fun d => ?_, hS, FW_r w⟩
  unfold F_X7_order
  by_cases hp : p < l
  · rw [if_neg (wlen hp), wcode hp, if_neg c100, if_neg c114, if_neg c116, if_neg c97]
  · rw [if_pos (by rw [a2, a5]; exact nI_le (by omega) (by omega))]
