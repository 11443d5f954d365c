/-! bits, counts, overlaps -/
theorem bt_sh : ∀ j, j < 31 → ((nI j &&& 31 : Int32).toBitVec.smod 32).toNat = j := by decide +kernel
theorem bt_one : ∀ k, k < 31 → ∀ j, j < 31 → ((1 : Int32) <<< (nI k &&& 31)).toBitVec.getLsbD j = decide (j = k) := by decide +kernel
def bt (x : Int32) (j : Nat) : Bool := x.toBitVec.getLsbD j
theorem bt_i {x : Int32} {j : Nat} (hj : j < 31) : ((x >>> (nI j &&& 31)) &&& 1 = 1) ↔ bt x j = true := by
  have h1 := pk_and (x >>> (nI j &&& 31)) (m := 1) 1 (by decide)
  rw [h1]
  have h2 : (x >>> (nI j &&& 31)).toBitVec.toNat % 2 ^ 1 = if bt x j = true then 1 else 0 := by
    have e1 : (x >>> (nI j &&& 31)).toBitVec.getLsbD 0 = bt x j := by
      rw [Int32.toBitVec_shiftRight]
      show (x.toBitVec.sshiftRight ((nI j &&& 31 : Int32).toBitVec.smod 32).toNat).getLsbD 0 = _
      rw [bt_sh j hj, BitVec.getLsbD_sshiftRight]
      simp only [Nat.add_zero]
      rw [show decide (32 ≤ 0) = false from rfl]
      simp [bt, show j < 32 by omega]
    rw [← e1]
    have e2 : (x >>> (nI j &&& 31)).toBitVec.getLsbD 0 = decide ((x >>> (nI j &&& 31)).toBitVec.toNat % 2 = 1) := by
      simp [BitVec.getLsbD, Nat.testBit_zero]
    rw [e2]
    have e3 : (x >>> (nI j &&& 31)).toBitVec.toNat % 2 = 0 ∨ (x >>> (nI j &&& 31)).toBitVec.toNat % 2 = 1 := by omega
    generalize (x >>> (nI j &&& 31)).toBitVec.toNat = y at e3 ⊢
    rcases e3 with e3 | e3 <;> simp [e3]
  rw [h2]
  cases bt x j with
  | true => exact ⟨fun _ => rfl, fun _ => by decide⟩
  | false => exact ⟨fun h => absurd h (by decide), fun h => by cases h⟩
theorem bt_or {x : Int32} {k j : Nat} (hk : k < 31) (hj : j < 31) : bt (x ||| ((1 : Int32) <<< (nI k &&& 31))) j = (bt x j || decide (j = k)) := by
  unfold bt
  rw [Int32.toBitVec_or, BitVec.getLsbD_or, bt_one k hk j hj]
theorem bt_0 {j : Nat} : bt 0 j = false := by
  unfold bt
  rw [show (0 : Int32).toBitVec = 0#32 from rfl]
  exact BitVec.getLsbD_zero
theorem nI_tn {k : Nat} (h : k < 2147483648) : (nI k).toInt.toNat = k := by
  rw [nI_toInt (by omega)]
  rfl
/-- how many below n -/
def cn (P : Nat → Bool) : Nat → Nat
  | 0 => 0
  | n + 1 => cn P n + (if P n = true then 1 else 0)
theorem cn_le {P : Nat → Bool} : ∀ (n : Nat), cn P n ≤ n := by
  intro n
  induction n with
  | zero => exact Nat.le_refl _
  | succ n ih =>
    unfold cn
    split <;> omega
theorem cn_mono {P Q : Nat → Bool} : ∀ (n : Nat), (∀ k, k < n → P k = true → Q k = true) → cn P n ≤ cn Q n := by
  intro n
  induction n with
  | zero => intro h; exact Nat.le_refl _
  | succ n ih =>
    intro h
    have h1 := ih (fun k hk => h k (by omega))
    have h2 := h n (by omega)
    unfold cn
    by_cases hP : P n = true
    · rw [if_pos hP, if_pos (h2 hP)]
      omega
    · rw [if_neg hP]
      split <;> omega
theorem cn_lt {P Q : Nat → Bool} : ∀ (n : Nat), (∀ k, k < n → P k = true → Q k = true) → (∃ k, k < n ∧ P k = false ∧ Q k = true) → cn P n < cn Q n := by
  intro n
  induction n with
  | zero => intro h ⟨k, hk, _⟩; omega
  | succ n ih =>
    intro h ⟨k, hk, hp, hq⟩
    have hle := cn_mono n (fun k hk => h k (by omega))
    unfold cn
    by_cases hkn : k = n
    · subst hkn
      rw [if_neg (by rw [hp]; decide), if_pos hq]
      omega
    · have h1 := ih (fun k hk => h k (by omega)) ⟨k, by omega, hp, hq⟩
      have h2 := h n (by omega)
      by_cases hP : P n = true
      · rw [if_pos hP, if_pos (h2 hP)]
        omega
      · rw [if_neg hP]
        split <;> omega
theorem cn_ext {P Q : Nat → Bool} : ∀ (n : Nat), (∀ k, k < n → P k = Q k) → cn P n = cn Q n := by
  intro n
  induction n with
  | zero => intro h; rfl
  | succ n ih =>
    intro h
    unfold cn
    rw [ih (fun k hk => h k (by omega)), h n (by omega)]
theorem cn_ex {P : Nat → Bool} : ∀ (n : Nat), 1 ≤ cn P n → ∃ k, k < n ∧ P k = true := by
  intro n
  induction n with
  | zero =>
    intro h
    have h1 : 1 ≤ 0 := h
    omega
  | succ n ih =>
    intro h
    unfold cn at h
    by_cases hP : P n = true
    · exact ⟨n, by omega, hP⟩
    · rw [if_neg hP] at h
      obtain ⟨k, hk, h1⟩ := ih h
      exact ⟨k, by omega, h1⟩
theorem cn_pos {P : Nat → Bool} {k : Nat} : ∀ (n : Nat), k < n → P k = true → 1 ≤ cn P n := by
  intro n
  induction n with
  | zero => intro h; omega
  | succ n ih =>
    intro h hp
    unfold cn
    by_cases hkn : k = n
    · subst hkn
      rw [if_pos hp]
      omega
    · have h1 := ih (by omega) hp
      omega
/-- whether span k has a time; how many have it -/
def hb (p : Nat → Bool) (lo hi : Nat → Int) (t : Int) (k : Nat) : Bool := p k && (decide (lo k ≤ t) && decide (t ≤ hi k))
theorem hb_iff {p : Nat → Bool} {lo hi : Nat → Int} {t : Int} {k : Nat} : hb p lo hi t k = true ↔ p k = true ∧ lo k ≤ t ∧ t ≤ hi k := by
  unfold hb
  simp
def ov (p : Nat → Bool) (lo hi : Nat → Int) (t : Int) : Nat := cn (hb p lo hi t) 15
theorem ov_le {p : Nat → Bool} {lo hi : Nat → Int} {t : Int} : ov p lo hi t ≤ 15 := cn_le 15
/-! the reference's spans -/
theorem i15 : (15 : Int32) = nI 15 := by decide
theorem i30 : (30 : Int32) = nI 30 := by decide
theorem nI_z (a : Nat) : nI a + 0 = nI a := by
  have h := nI_add a 0
  rw [nI_0] at h
  exact h
theorem bt_one32 : ∀ k, k < 15 → ∀ j, j < 32 → ((1 : Int32) <<< (nI k &&& 31)).toBitVec.getLsbD j = decide (j = k) := by decide +kernel
theorem bt_or32 {x : Int32} {k j : Nat} (hk : k < 15) (hj : j < 32) : bt (x ||| ((1 : Int32) <<< (nI k &&& 31))) j = (bt x j || decide (j = k)) := by
  unfold bt
  rw [Int32.toBitVec_or, BitVec.getLsbD_or, bt_one32 k hk j hj]
