/-! counts -/
theorem sh0 : ∀ k, k < 15 → (0 : Int32) <<< (nI k &&& 31) = 0 := by decide +kernel
/-! wider and wider -/
theorem mx_lo {Q : Nat → Bool} {lo : Nat → Int} : ∀ n : Nat, (∃ k, k < n ∧ Q k = true) → ∃ j, j < n ∧ Q j = true ∧ ∀ i, i < n → Q i = true → lo i ≤ lo j := by
  intro n
  induction n with
  | zero => intro ⟨k, hk, _⟩; omega
  | succ n ih =>
    intro h
    by_cases hex : ∃ k, k < n ∧ Q k = true
    · obtain ⟨j, hj, hq, hm⟩ := ih hex
      by_cases hn : Q n = true ∧ lo j < lo n
      · refine ⟨n, by omega, hn.1, fun i hi hqi => ?_⟩
        by_cases hin : i = n
        · subst hin; exact Int.le_refl _
        · have := hm i (by omega) hqi
          omega
      · refine ⟨j, by omega, hq, fun i hi hqi => ?_⟩
        by_cases hin : i = n
        · subst hin
          have : ¬ lo j < lo i := fun h => hn ⟨hqi, h⟩
          omega
        · exact hm i (by omega) hqi
    · obtain ⟨k, hk, hq⟩ := h
      have hkn : k = n := by
        apply Classical.byContradiction
        intro hne
        exact hex ⟨k, by omega, hq⟩
      subst hkn
      refine ⟨k, by omega, hq, fun i hi hqi => ?_⟩
      by_cases hin : i = k
      · subst hin; exact Int.le_refl _
      · exact absurd ⟨i, by omega, hqi⟩ hex
theorem Mo_t {P : Nat → Bool} {lo hi : Nat → Int} {a : Int} (h : Mo P lo hi 15 a) (t : Int) : (ov P lo hi t : Int) ≤ a := by
  by_cases h0 : 1 ≤ ov P lo hi t
  · obtain ⟨j, hj, hq, hm⟩ := mx_lo (Q := hb P lo hi t) (lo := lo) 15 (cn_ex 15 h0)
    have hbj := hb_iff.mp hq
    have h1 := h.2.1 j hj hbj.1
    have h2 : ov P lo hi t ≤ ov P lo hi (lo j) := by
      refine cn_mono 15 (fun k hk hp => ?_)
      have h3 := hb_iff.mp hp
      exact hb_iff.mpr ⟨h3.1, hm k hk hp, by omega⟩
    omega
  · have := h.1
    omega
theorem r_up {f : Nat → Int32} {l : Int} {k : Nat} : rLo f (l + 60) k = rLo f l k + 60 - (f 0).toInt ∧ rHi f (l + 60) k = rHi f l k + 60 + (f 0).toInt := by
  have h1 : rAge f (l + 60) k = rAge f l k + 60 := by
    unfold rAge
    omega
  have h2 : (rAge f l k + 60) / 60 = rAge f l k / 60 + 1 := by omega
  unfold rLo rHi rWide
  rw [h1, h2, Int.mul_add, Int.mul_one]
  constructor <;> omega
/-- the greatest overlap after h hours -/
def MH (f : Nat → Int32) (h : Nat) (a : Int) : Prop := Mo (rP f (-1)) (rLo f (60 * (h : Int))) (rHi f (60 * (h : Int))) 15 a
theorem MH_up {f : Nat → Int32} (hR : RowOK f) {h : Nat} {a b : Int} (ha : MH f h a) (hb : MH f (h + 1) b) : a ≤ b := by
  unfold MH at ha hb
  rw [show 60 * ((h + 1 : Nat) : Int) = 60 * (h : Int) + 60 by omega] at hb
  have hw := hR.1.1
  rcases ha.2.2 with h0 | ⟨j, hj, hp, e⟩
  · have := hb.1
    omega
  · have h1 := Mo_t hb (rLo f (60 * (h : Int)) j + 60)
    have h2 : ov (rP f (-1)) (rLo f (60 * (h : Int))) (rHi f (60 * (h : Int))) (rLo f (60 * (h : Int)) j) ≤ ov (rP f (-1)) (rLo f (60 * (h : Int) + 60)) (rHi f (60 * (h : Int) + 60)) (rLo f (60 * (h : Int)) j + 60) := by
      refine cn_mono 15 (fun k hk hp2 => ?_)
      have h3 := hb_iff.mp hp2
      have h4 := r_up (f := f) (l := 60 * (h : Int)) (k := k)
      exact hb_iff.mpr ⟨h3.1, by rw [h4.1]; omega, by rw [h4.2]; omega⟩
    omega
/-- the greatest overlap after h hours, in the class and in the reference -/
theorem c_MH {s : xs_S} {f : Nat → Int32} {time : Int32} {h : Nat} (hC : CR 1 s f) (hR : RowOK f) (hh : h ≤ 255) (ht : time.toInt = (f 2).toInt + 60 * (h : Int)) : MH f h (F_X5_most (F_X5_gather s time (-1))).toInt := g_most (g_ga hC hR ht (by omega))
theorem nI_half : ∀ p, p < 256 → nI p / 2 = nI (p / 2) := by decide +kernel