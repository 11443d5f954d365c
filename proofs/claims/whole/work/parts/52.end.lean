theorem end_l {u w : xs_S} {P : Nat → Bool} {lo hi : Nat → Int} {rank what : Int32} (hG : GA u P lo hi) (hM : MA w P lo hi) (hB : BD P lo hi) : ∀ (n k c : Nat), k + n = 31 → k ≤ 30 → cn (PE P) 30 - cn (PE P) k < c → (∃ e : Nat, e < 30 ∧ PE P e = true ∧ nI (BE P lo hi (KE lo hi e)) = rank ∧ (lp_X5_endKey_2 u rank c (nI (cn (PE P) k))).toInt = KE lo hi e ∧ lp_X7_end_9 rank what n (nI k) w = (if what = 0 then (F_X7_timeOf w (nI e) + 100000, w) else if what = 1 then (nI (e % 15), w) else if what = 2 then (nI (e / 15), w) else (-2, w))) ∨ ((∀ e : Nat, k ≤ e → e < 30 → PE P e = true → ¬ nI (BE P lo hi (KE lo hi e)) = rank) ∧ lp_X7_end_9 rank what n (nI k) w = (-1, w)) := by
  have h30 := cn_le (P := PE P) 30
  intro n
  induction n with
  | zero => intro k c h1 h2; omega
  | succ n ih =>
    intro k c h1 h2 h3
    rw [lp_X7_end_9]
    by_cases hk : k = 30
    · subst hk
      rw [if_pos (by rw [i30]; exact nI_le (Nat.le_refl _) (by decide))]
      exact Or.inr ⟨fun e h4 h5 => by omega, rfl⟩
    · have hk30 : k < 30 := by omega
      rw [if_neg (show ¬ 30 ≤ nI k by rw [i30, nI_leI (by decide) (by omega)]; omega)]
      by_cases hp : PE P k = true
      · have hu := cn_up hp
        have hc := cn_bN (P := PE P) (k := k + 1) (N := 30) (by omega)
        have hkk := g_key hG hB hk30 hp
        obtain ⟨c', rfl⟩ : ∃ c', c = c' + 1 := ⟨c - 1, by omega⟩
        rw [if_pos ((m_eb hM hk30).mpr hp), m_ahead hM hk30 hp, lp_X5_endKey_2, g_ends hG, if_neg (show ¬ nI (cn (PE P) 30) ≤ nI (cn (PE P) k) by rw [nI_leI (by omega) (by omega)]; omega), g_below hG hB, hkk]
        by_cases hr : nI (BE P lo hi (KE lo hi k)) = rank
        · rw [if_pos hr, if_pos hr, (e_q k hk30).2, (e_q k hk30).1]
          exact Or.inl ⟨k, hk30, hp, hr, hkk, rfl⟩
        · rw [if_neg hr, if_neg hr, nI_1, nI_1, ← hu]
          rcases ih (k + 1) c' (by omega) (by omega) (by omega) with h5 | ⟨h5, h6⟩
          · exact Or.inl h5
          · refine Or.inr ⟨fun e h7 h8 h9 => ?_, h6⟩
            by_cases hek : e = k
            · subst hek; exact hr
            · exact h5 e (by omega) h8 h9
      · have hp' : PE P k = false := by simpa using hp
        have hu := cn_no hp'
        rw [if_neg (fun h => hp ((m_eb hM hk30).mp h)), nI_1, ← hu]
        rcases ih (k + 1) c (by omega) (by omega) (by omega) with h5 | ⟨h5, h6⟩
        · exact Or.inl h5
        · refine Or.inr ⟨fun e h7 h8 h9 => ?_, h6⟩
          by_cases hek : e = k
          · subst hek; exact absurd h9 hp
          · exact h5 e (by omega) h8 h9
theorem be_lt {P : Nat → Bool} {lo hi : Nat → Int} {e : Nat} (he : e < 30) (hp : PE P e = true) : BE P lo hi (KE lo hi e) < cn (PE P) 30 := by
  unfold BE
  refine cn_lt 30 (fun k hk h => ?_) ⟨e, he, ?_, hp⟩
  · simp only [Bool.and_eq_true] at h
    exact h.1
  · rw [decide_eq_false (Int.lt_irrefl _), Bool.and_false]
theorem k_parts {s : xs_S} {key : Int32} {T : Int} {e : Nat} (he : e < 30) (h : key.toInt = T * 32 + ((16 * (e / 15) + e % 15 : Nat) : Int)) : (F_X5_timeOfKey s key).toInt = T ∧ F_X5_dialOfKey s key = nI (e % 15) ∧ F_X5_sideOfKey s key = nI (e / 15) := by
  have e32 : (32 : Int32).toInt = 32 := by decide
  have e16 : (16 : Int32).toInt = 16 := by decide
  unfold F_X5_timeOfKey F_X5_dialOfKey F_X5_sideOfKey
  refine ⟨?_, ?_, ?_⟩
  · rw [fd_32, h]
    omega
  · apply xi_eq.mpr
    rw [fm_pos (by rw [e16]; decide), e16, h, nI_toInt (by omega)]
    omega
  · have hm : (F_floorMod s key 32).toInt = ((16 * (e / 15) + e % 15 : Nat) : Int) := by
      rw [fm_pos (by rw [e32]; decide), e32, h]
      omega
    have hm' : F_floorMod s key 32 = nI (16 * (e / 15) + e % 15) := xi_eq.mpr (by rw [hm, nI_toInt (by omega)])
    have hd : ∀ e, e < 30 → nI (16 * (e / 15) + e % 15) / 16 = nI (e / 15) := by decide +kernel
    rw [hm', hd e he]
theorem eq_end {st : xs_S} {a b : Int32} (hI : Inv st) : (F_X6_end st a b).1 = (F_X7_end (F_X6_end st a b).2 a b).1 ∧ Inv (F_X7_end (F_X6_end st a b).2 a b).2 := by
  obtain ⟨hG, hI2, e73⟩ := q_g (l := -1) hI
  have hM := q_m hI.2.1 e73
  have hB := q_b (P := rP (st 73) (-1)) hI.2.1
  have hI3 := Inv_lay (l := -6) h00 hI2
  have hN := g_ends hG
  have h30 := cn_le (P := PE (rP (st 73) (-1))) 30
  have hs := end_l (rank := a) (what := b) hG hM hB 31 0 31 (by decide) (by decide) (by omega)
  rw [cn_z, nI_0] at hs
  have b0 : b = 0 ↔ b.toInt = 0 := by rw [xi_eq, xi_0]
  have b1 : b = 1 ↔ b.toInt = 1 := by rw [xi_eq, xi_1]
  have b2 : b = 2 ↔ b.toInt = 2 := by rw [xi_eq, show (2 : Int32).toInt = 2 by decide]
  generalize hg : F_X6_gatherNow st (-1) = g at *
  have hmem : (F_X6_end st a b).2 = g := by
    unfold F_X6_end
    rw [hg]
    repeat' split
    all_goals rfl
  rw [hmem]
  unfold F_X7_end
  have hkey : F_X5_endKey g a = lp_X5_endKey_2 g a 31 0 := rfl
  rcases hs with ⟨e, he, hp, hr, hk, hm⟩ | ⟨hno, hm⟩
  · rw [hm]
    have hlt := be_lt (lo := rLo (st 73) 0) (hi := rHi (st 73) 0) he hp
    have har : a.toInt = (BE (rP (st 73) (-1)) (rLo (st 73) 0) (rHi (st 73) 0) (KE (rLo (st 73) 0) (rHi (st 73) 0) e) : Int) := by
      rw [← hr, nI_toInt (by omega)]
    unfold KE at hk
    obtain ⟨k1, k2, k3⟩ := k_parts (s := g) he hk
    have hti : F_X5_timeOfKey g (lp_X5_endKey_2 g a 31 0) = F_X7_timeOf (F_X7_layOut g 0 (-6)) (nI e) := xi_eq.mpr (by rw [k1, m_te hM he hp])
    unfold F_X6_end
    rw [hg, hkey, hti, k2, k3, if_neg (show ¬ a < 0 by rw [xi_lt, xi_0]; omega), if_pos (show a < F_X5_ends g by rw [hN, xi_lt, nI_toInt (by omega)]; omega)]
    by_cases c0 : b.toInt = 0
    · rw [if_pos c0, if_pos (b0.mpr c0)]
      exact ⟨rfl, hI3⟩
    · rw [if_neg c0, if_neg (fun h => c0 (b0.mp h))]
      by_cases c1 : b.toInt = 1
      · rw [if_pos c1, if_pos (b1.mpr c1)]
        exact ⟨rfl, hI3⟩
      · rw [if_neg c1, if_neg (fun h => c1 (b1.mp h))]
        by_cases c2 : b.toInt = 2
        · rw [if_pos c2, if_pos (b2.mpr c2)]
          exact ⟨rfl, hI3⟩
        · rw [if_neg c2, if_neg (fun h => c2 (b2.mp h))]
          exact ⟨rfl, hI3⟩
  · rw [hm]
    refine ⟨?_, hI3⟩
    unfold F_X6_end
    rw [hg]
    by_cases h1 : a < 0
    · rw [if_pos h1]
    · rw [if_neg h1]
      rw [xi_lt, xi_0] at h1
      by_cases h2 : a < F_X5_ends g
      · rw [hN, xi_lt, nI_toInt (by omega)] at h2
        obtain ⟨e, he, hp, hr⟩ := rank_ex (P := rP (st 73) (-1)) (lo := rLo (st 73) 0) (hi := rHi (st 73) 0) a.toInt.toNat (by omega)
        refine absurd ?_ (hno e (Nat.zero_le _) he hp)
        rw [hr]
        apply xi_eq.mpr
        rw [nI_toInt (by omega)]
        omega
      · rw [if_neg h2]
