/-! ends in their order -/
theorem gfoldN {α β : Type} {P : Nat → Bool} {N : Nat} (L : Nat → α → Int32 → β) (fin : α → β) (step : α → Nat → α) (I : Nat → α → Prop) (hend : ∀ (n : Nat) (a : α), L (n + 1) a (nI (cn P N)) = fin a) (hstep : ∀ (n : Nat) (a : α) (k : Nat), k < N → P k = true → cn P k < cn P N → L (n + 1) a (nI (cn P k)) = L n (step a k) (nI (cn P k + 1))) (hI : ∀ (a : α) (k : Nat), k < N → P k = true → I k a → I (k + 1) (step a k)) (hS : ∀ (a : α) (k : Nat), k < N → P k = false → I k a → I (k + 1) a) : ∀ (m k n : Nat) (a : α), k + m = N → cn P N - cn P k < n → I k a → ∃ a' : α, L n a (nI (cn P k)) = fin a' ∧ I N a' := by
  intro m
  induction m with
  | zero =>
    intro k n a h1 h2 h3
    obtain rfl : k = N := by omega
    obtain ⟨n', rfl⟩ : ∃ n', n = n' + 1 := ⟨n - 1, by omega⟩
    exact ⟨a, hend n' a, h3⟩
  | succ m ih =>
    intro k n a h1 h2 h3
    by_cases hp : P k = true
    · have hu := cn_up hp
      have hc := cn_st (P := P) (k := k + 1) m
      rw [show k + 1 + m = N by omega] at hc
      obtain ⟨n', rfl⟩ : ∃ n', n = n' + 1 := ⟨n - 1, by omega⟩
      obtain ⟨a', e, h⟩ := ih (k + 1) n' (step a k) (by omega) (by omega) (hI a k (by omega) hp h3)
      refine ⟨a', ?_, h⟩
      rw [hstep n' a k (by omega) hp (by omega), ← hu]
      exact e
    · have hp' : P k = false := by simpa using hp
      have hu := cn_no hp'
      obtain ⟨a', e, h⟩ := ih (k + 1) n a (by omega) (by omega) (hS a k (by omega) hp' h3)
      refine ⟨a', ?_, h⟩
      rw [← hu]
      exact e
def PE (P : Nat → Bool) (e : Nat) : Bool := P (e % 15)
def TE (lo hi : Nat → Int) (e : Nat) : Int := if e < 15 then lo e else hi (e - 15)
def KE (lo hi : Nat → Int) (e : Nat) : Int := TE lo hi e * 32 + ((16 * (e / 15) + e % 15 : Nat) : Int)
theorem pe_15 {P : Nat → Bool} : cn (PE P) 15 = cn P 15 := cn_ext 15 (fun k hk => by unfold PE; rw [Nat.mod_eq_of_lt hk])
theorem pe_lo {P : Nat → Bool} {k : Nat} (hk : k ≤ 15) : cn (PE P) k = cn P k := cn_ext k (fun j hj => by unfold PE; rw [Nat.mod_eq_of_lt (by omega)])
theorem pe_hi {P : Nat → Bool} : ∀ k : Nat, k ≤ 15 → cn (PE P) (15 + k) = cn P 15 + cn P k := by
  intro k
  induction k with
  | zero => intro h; rw [Nat.add_zero, pe_15]; rfl
  | succ k ih =>
    intro h
    have h1 := ih (by omega)
    have hm : PE P (15 + k) = P k := by
      unfold PE
      rw [show (15 + k) % 15 = k by omega]
    rw [show 15 + (k + 1) = (15 + k) + 1 by omega]
    by_cases hp : P k = true
    · rw [cn_up (by rw [hm]; exact hp), cn_up hp, h1]; omega
    · have hp' : P k = false := by simpa using hp
      rw [cn_no (by rw [hm]; exact hp'), cn_no hp', h1]
theorem pe_30 {P : Nat → Bool} : cn (PE P) 30 = 2 * cn P 15 := by
  have h := pe_hi (P := P) 15 (by decide)
  rw [show 15 + 15 = 30 from rfl] at h
  omega
theorem te_b {P : Nat → Bool} {lo hi : Nat → Int} (hB : BD P lo hi) {e : Nat} (he : e < 30) (hp : PE P e = true) : -1000000 < TE lo hi e ∧ TE lo hi e < 1000000 := by
  unfold PE at hp
  unfold TE
  by_cases h : e < 15
  · rw [Nat.mod_eq_of_lt h] at hp
    have := hB e h hp
    rw [if_pos h]
    omega
  · rw [show e % 15 = e - 15 by omega] at hp
    have := hB (e - 15) (by omega) hp
    rw [if_neg h]
    omega
theorem k_e {u : xs_S} {t s d : Int32} {T : Int} {e : Nat} (he : e < 30) (ht : t.toInt = T) (hT : -1000000 < T ∧ T < 1000000) (hs : s = nI (e / 15)) (hd : d = nI (e % 15)) : (F_X5_keyOf u t s d).toInt = T * 32 + ((16 * (e / 15) + e % 15 : Nat) : Int) := by
  have e32 : (32 : Int32).toInt = 32 := by decide
  have e16 : (16 : Int32).toInt = 16 := by decide
  subst hs hd
  unfold F_X5_keyOf
  have h1 : (t * 32).toInt = T * 32 := by rw [xi_mul (by rw [ht, e32]; omega), ht, e32]
  have h2 : (nI (e / 15) * 16).toInt = ((e / 15 : Nat) : Int) * 16 := by
    rw [xi_mul (by rw [nI_toInt (by omega), e16]; omega), nI_toInt (by omega), e16]
  have h3 : (nI (e % 15)).toInt = ((e % 15 : Nat) : Int) := nI_toInt (by omega)
  rw [xi_add (by rw [xi_add (by rw [h1, h2]; omega), h1, h2, h3]; omega), xi_add (by rw [h1, h2]; omega), h1, h2, h3]
  omega
theorem g_ends {u : xs_S} {P : Nat → Bool} {lo hi : Nat → Int} (hG : GA u P lo hi) : F_X5_ends u = nI (cn (PE P) 30) := by
  have hc := cn_b (P := P) (k := 15) (by decide)
  unfold F_X5_ends
  rw [hG.1]
  apply xi_eq.mpr
  have e2 : (2 : Int32).toInt = 2 := by decide
  rw [xi_mul (by rw [e2, nI_toInt (by omega)]; omega), e2, nI_toInt (by omega), nI_toInt (by rw [pe_30]; omega), pe_30]
  omega
theorem g_key {u : xs_S} {P : Nat → Bool} {lo hi : Nat → Int} (hG : GA u P lo hi) (hB : BD P lo hi) {e : Nat} (he : e < 30) (hp : PE P e = true) : (F_X5_keyAt u (nI (cn (PE P) e))).toInt = KE lo hi e := by
  have hb := te_b hB he hp
  have hc := cn_b (P := P) (k := 15) (by decide)
  unfold F_X5_keyAt KE
  by_cases h : e < 15
  · have hpe : P e = true := by unfold PE at hp; rw [Nat.mod_eq_of_lt h] at hp; exact hp
    have h1 := cn_s15 (P := P) (k := e + 1) (by omega)
    rw [cn_up hpe] at h1
    obtain ⟨q1, q2, q3⟩ := hG.2 e h hpe
    rw [pe_lo (by omega), if_neg (g_lt hG h (by omega)), g_tn (by omega), q3]
    refine k_e he ?_ hb ?_ ?_
    · rw [q1]; unfold TE; rw [if_pos h]
    · rw [Nat.div_eq_of_lt h, nI_0]
    · rw [Nat.mod_eq_of_lt h]
  · obtain ⟨k, rfl⟩ : ∃ k, e = 15 + k := ⟨e - 15, by omega⟩
    have hk : k < 15 := by omega
    have hpe : P k = true := by unfold PE at hp; rw [show (15 + k) % 15 = k by omega] at hp; exact hp
    have h2 := cn_b (P := P) (k := k) (by omega)
    obtain ⟨q1, q2, q3⟩ := hG.2 k hk hpe
    have hix : (nI (cn P 15 + cn P k) - u 7 3).toInt.toNat = cn P k := by
      rw [hG.1, xi_sub (by rw [nI_toInt (by omega), nI_toInt (by omega)]; omega), nI_toInt (by omega), nI_toInt (by omega)]
      omega
    rw [pe_hi k (by omega), if_pos (by rw [hG.1]; exact nI_le (by omega) (by omega)), hix, q3]
    refine k_e he ?_ hb ?_ ?_
    · rw [q2]; unfold TE; rw [if_neg h, show 15 + k - 15 = k by omega]
    · rw [show (15 + k) / 15 = 1 by omega]; decide
    · rw [show (15 + k) % 15 = k by omega]
/-- how many ends come before a key -/
def BE (P : Nat → Bool) (lo hi : Nat → Int) (key : Int) : Nat := cn (fun e => PE P e && decide (KE lo hi e < key)) 30
theorem cn_bN {P : Nat → Bool} {k N : Nat} (h : k ≤ N) : cn P k ≤ cn P N := by
  have h1 := cn_st (P := P) (k := k) (N - k)
  rw [show k + (N - k) = N by omega] at h1
  exact h1
theorem g_below {u : xs_S} {P : Nat → Bool} {lo hi : Nat → Int} {key : Int32} (hG : GA u P lo hi) (hB : BD P lo hi) : F_X5_keysBelow u key = nI (BE P lo hi key.toInt) := by
  have h30 := cn_le (P := PE P) 30
  obtain ⟨a', e, hI⟩ := gfoldN (P := PE P) (N := 30) (fun n a x => lp_X5_keysBelow_4 u key n a x) (fun a => a) (fun a k => if key.toInt ≤ KE lo hi k then a else a + 1) (fun k a => a = nI (cn (fun e => PE P e && decide (KE lo hi e < key.toInt)) k))
    (fun n a => by
      rw [lp_X5_keysBelow_4, g_ends hG, if_pos (nI_le (Nat.le_refl _) (by omega))])
    (fun n a k hk hp hc => by
      have hkk := g_key hG hB hk hp
      rw [lp_X5_keysBelow_4, g_ends hG, if_neg (show ¬ nI (cn (PE P) 30) ≤ nI (cn (PE P) k) by rw [nI_leI (by omega) (by omega)]; omega), nI_1]
      by_cases hh : key ≤ F_X5_keyAt u (nI (cn (PE P) k))
      · rw [if_pos hh, if_pos (by rw [xi_le, hkk] at hh; exact hh)]
      · rw [if_neg hh, if_neg (by rw [xi_le, hkk] at hh; exact hh)])
    (fun a k hk hp hI => by
      by_cases hh : key.toInt ≤ KE lo hi k
      · rw [if_pos hh, cn_no (by rw [hp, decide_eq_false (show ¬ KE lo hi k < key.toInt by omega)]; rfl), hI]
      · rw [if_neg hh, cn_up (by rw [hp, decide_eq_true (show KE lo hi k < key.toInt by omega)]; rfl), hI, nI_1])
    (fun a k hk hp hI => by rw [cn_no (by rw [hp, Bool.false_and]), hI])
    30 0 31 0 (by decide) (by omega) (by rw [show cn (fun e => PE P e && decide (KE lo hi e < key.toInt)) 0 = 0 from rfl, nI_0])
  unfold F_X5_keysBelow
  rw [cn_z] at e
  exact e.trans hI
/-! the reference's ends -/
theorem e_q : ∀ e, e < 30 → nI e / 15 = nI (e / 15) ∧ nI e - nI e / 15 * 15 = nI (e % 15) := by decide +kernel
theorem ke_lt {lo hi : Nat → Int} {e g : Nat} (he : e < 30) (hg : g < 30) : KE lo hi g < KE lo hi e ↔ (TE lo hi g < TE lo hi e ∨ (TE lo hi g = TE lo hi e ∧ g < e)) := by
  unfold KE
  generalize TE lo hi g = a
  generalize TE lo hi e = b
  omega
/-! every rank below their number is some end's -/
theorem cn_ins {R : Nat → Bool} {e : Nat} : ∀ n : Nat, e < n → R e = false → cn (fun x => R x || decide (x = e)) n = cn R n + 1 := by
  intro n
  induction n with
  | zero => intro h; omega
  | succ n ih =>
    intro h hr
    by_cases hen : e = n
    · subst hen
      rw [cn_up (by simp), cn_no hr]
      rw [cn_ext e (fun k hk => by rw [decide_eq_false (show ¬ k = e by omega), Bool.or_false])]
    · have h1 := ih (by omega) hr
      by_cases hp : R n = true
      · rw [cn_up (by rw [hp, Bool.true_or]), cn_up hp, h1]
      · have hp' : R n = false := by simpa using hp
        rw [cn_no (by rw [hp', decide_eq_false (show ¬ n = e by omega)]; rfl), cn_no hp', h1]
theorem ke_inj {lo hi : Nat → Int} {e g : Nat} (he : e < 30) (hg : g < 30) (h : KE lo hi g = KE lo hi e) : g = e := by
  unfold KE at h
  generalize TE lo hi g = a at h
  generalize TE lo hi e = b at h
  omega
theorem mn_k {Q : Nat → Bool} {K : Nat → Int} {n : Nat} (h : ∃ k, k < n ∧ Q k = true) : ∃ j, j < n ∧ Q j = true ∧ ∀ i, i < n → Q i = true → K j ≤ K i := by
  obtain ⟨j, hj, hq, hm⟩ := mx_lo (Q := Q) (lo := fun k => -K k) n h
  exact ⟨j, hj, hq, fun i hi hqi => by have := hm i hi hqi; omega⟩
theorem rank_ex {P : Nat → Bool} {lo hi : Nat → Int} : ∀ r : Nat, r < cn (PE P) 30 → ∃ e, e < 30 ∧ PE P e = true ∧ BE P lo hi (KE lo hi e) = r := by
  intro r
  induction r with
  | zero =>
    intro h
    obtain ⟨e, he, hp, hm⟩ := mn_k (K := KE lo hi) (cn_ex (P := PE P) 30 (by omega))
    refine ⟨e, he, hp, ?_⟩
    apply Classical.byContradiction
    intro hne
    unfold BE at hne
    obtain ⟨g, hg, hb⟩ := cn_ex (P := fun g => PE P g && decide (KE lo hi g < KE lo hi e)) 30 (by omega)
    simp only [Bool.and_eq_true, decide_eq_true_eq] at hb
    have := hm g hg hb.1
    omega
  | succ r ih =>
    intro h
    obtain ⟨e, he, hp, hr⟩ := ih (by omega)
    have hle : cn (fun g => (PE P g && decide (KE lo hi g < KE lo hi e)) || decide (g = e)) 30 = r + 1 := by
      rw [cn_ins 30 he (by rw [decide_eq_false (Int.lt_irrefl _), Bool.and_false])]
      unfold BE at hr
      rw [hr]
    have hex : ∃ g, g < 30 ∧ (PE P g && decide (KE lo hi e < KE lo hi g)) = true := by
      apply Classical.byContradiction
      intro hno
      have h2 : cn (PE P) 30 ≤ cn (fun g => (PE P g && decide (KE lo hi g < KE lo hi e)) || decide (g = e)) 30 := by
        refine cn_mono 30 (fun g hg hpg => ?_)
        by_cases hge : g = e
        · simp [hge]
        · have h3 : ¬ KE lo hi e < KE lo hi g := fun h => hno ⟨g, hg, by rw [hpg, decide_eq_true h]; rfl⟩
          have h4 : ¬ KE lo hi g = KE lo hi e := fun h => hge (ke_inj he hg h)
          rw [hpg, decide_eq_true (show KE lo hi g < KE lo hi e by omega)]
          rfl
      omega
    obtain ⟨g, hg, hpg, hm⟩ := mn_k (K := KE lo hi) hex
    simp only [Bool.and_eq_true, decide_eq_true_eq] at hpg
    refine ⟨g, hg, hpg.1, ?_⟩
    rw [← hle]
    unfold BE
    refine cn_ext 30 (fun x hx => ?_)
    by_cases hpx : PE P x = true
    · rw [hpx, Bool.true_and, Bool.true_and]
      by_cases hxe : x = e
      · subst hxe
        rw [decide_eq_true hpg.2]; simp
      · rw [decide_eq_false hxe, Bool.or_false]
        apply decide_eq_decide.mpr
        constructor
        · intro h5
          have h6 : ¬ KE lo hi e < KE lo hi x := fun h => by
            have := hm x hx (by rw [hpx, decide_eq_true h]; rfl)
            omega
          have h7 : ¬ KE lo hi x = KE lo hi e := fun h => hxe (ke_inj he hx h)
          omega
        · intro h5
          omega
    · have hpx' : PE P x = false := by simpa using hpx
      have hxe : ¬ x = e := by
        intro h
        subst h
        exact hpx hp
      rw [hpx', Bool.false_and, Bool.false_and, decide_eq_false hxe]
      rfl
