/-! the row of the reference, and what is laid out of it -/
def RowOK (f : Nat → Int32) : Prop := ((0 ≤ (f 0).toInt ∧ (f 0).toInt ≤ 60) ∧ (1 ≤ (f 1).toInt ∧ (f 1).toInt ≤ 20) ∧ (0 ≤ (f 2).toInt ∧ (f 2).toInt ≤ 99999) ∧ (0 ≤ (f 3).toInt ∧ (f 3).toInt ≤ 15)) ∧ ∀ k : Nat, k < 15 → (f (6 + 7 * k) = 0 ∨ f (6 + 7 * k) = 1) ∧ (0 ≤ (f (7 + 7 * k)).toInt ∧ (f (7 + 7 * k)).toInt ≤ 9999) ∧ (0 ≤ (f (8 + 7 * k)).toInt ∧ (f (8 + 7 * k)).toInt ≤ 300) ∧ (0 ≤ (f (9 + 7 * k)).toInt ∧ (f (9 + 7 * k)).toInt ≤ (f 2).toInt) ∧ (f (12 + 7 * k) = 0 ∨ f (12 + 7 * k) = 1)
theorem ro_D {f : Nat → Int32} (h : RowOK f) : 0 ≤ (f 3).toInt ∧ (f 3).toInt ≤ 15 := h.1.2.2.2
def rAge (f : Nat → Int32) (later : Int) (k : Nat) : Int := (f 2).toInt + later - (f (9 + 7 * k)).toInt
def rWide (f : Nat → Int32) (later : Int) (k : Nat) : Int := (f (8 + 7 * k)).toInt + (f 0).toInt * (rAge f later k / 60)
def rLo (f : Nat → Int32) (later : Int) (k : Nat) : Int := (f (7 + 7 * k)).toInt + rAge f later k - rWide f later k
def rHi (f : Nat → Int32) (later : Int) (k : Nat) : Int := (f (7 + 7 * k)).toInt + rAge f later k + rWide f later k
def rP (f : Nat → Int32) (wo : Int32) (k : Nat) : Bool := decide ((k : Int) < (f 3).toInt) && (decide (¬ nI k = wo) && (decide (¬ f (6 + 7 * k) = 0) && decide (¬ f (12 + 7 * k) = 1)))
theorem sp_w {w a : Int} (hw : 0 ≤ w ∧ w ≤ 60) (ha : 0 ≤ a ∧ a ≤ 150000) : 0 ≤ w * (a / 60) ∧ w * (a / 60) ≤ 150000 := by
  have h1 : 0 ≤ a / 60 := by omega
  refine ⟨Int.mul_nonneg hw.1 h1, ?_⟩
  have h2 : w * (a / 60) ≤ 60 * (a / 60) := Int.mul_le_mul_of_nonneg_right hw.2 h1
  omega
theorem sp_d {a : Int32} (ha : 0 ≤ a.toInt ∧ a.toInt ≤ 150000) : (a / 60).toInt = a.toInt / 60 := by
  have h60 : (60 : Int32).toInt = 60 := by decide
  have e : a.toInt.tdiv 60 = a.toInt / 60 := Int.tdiv_eq_ediv_of_nonneg ha.1
  rw [xi_div (by rw [h60, e]; omega), h60, e]
theorem sp_r {d w a : Int32} (hd : 0 ≤ d.toInt ∧ d.toInt ≤ 300) (hw : 0 ≤ w.toInt ∧ w.toInt ≤ 60) (ha : 0 ≤ a.toInt ∧ a.toInt ≤ 150000) : (d + w * (a / 60)).toInt = d.toInt + w.toInt * (a.toInt / 60) := by
  have h1 := sp_w hw ha
  have h2 := sp_d ha
  have h3 : (w * (a / 60)).toInt = w.toInt * (a.toInt / 60) := by rw [xi_mul (by rw [h2]; omega), h2]
  rw [xi_add (by rw [h3]; omega), h3]
theorem sp_lo {t d w a : Int32} (ht : 0 ≤ t.toInt ∧ t.toInt ≤ 9999) (hd : 0 ≤ d.toInt ∧ d.toInt ≤ 300) (hw : 0 ≤ w.toInt ∧ w.toInt ≤ 60) (ha : 0 ≤ a.toInt ∧ a.toInt ≤ 150000) : ((t + a) - (d + w * (a / 60))).toInt = t.toInt + a.toInt - (d.toInt + w.toInt * (a.toInt / 60)) := by
  have h1 := sp_w hw ha
  have h2 := sp_r hd hw ha
  have h3 : (t + a).toInt = t.toInt + a.toInt := xi_add (by omega)
  rw [xi_sub (by rw [h2, h3]; omega), h2, h3]
theorem sp_hi {t d w a : Int32} (ht : 0 ≤ t.toInt ∧ t.toInt ≤ 9999) (hd : 0 ≤ d.toInt ∧ d.toInt ≤ 300) (hw : 0 ≤ w.toInt ∧ w.toInt ≤ 60) (ha : 0 ≤ a.toInt ∧ a.toInt ≤ 150000) : ((t + a) + (d + w * (a / 60))).toInt = t.toInt + a.toInt + (d.toInt + w.toInt * (a.toInt / 60)) := by
  have h1 := sp_w hw ha
  have h2 := sp_r hd hw ha
  have h3 : (t + a).toInt = t.toInt + a.toInt := xi_add (by omega)
  rw [xi_add (by rw [h2, h3]; omega), h2, h3]
theorem row_b {f : Nat → Int32} {later : Int} (hR : RowOK f) (hl : 0 ≤ later ∧ later ≤ 16000) {k : Nat} (hk : k < 15) : -1000000 < rLo f later k ∧ rLo f later k ≤ rHi f later k ∧ rHi f later k < 1000000 := by
  obtain ⟨⟨hw, -, hn, -⟩, hrow⟩ := hR
  obtain ⟨-, ht, hd, hwh, -⟩ := hrow k hk
  have hab : 0 ≤ rAge f later k ∧ rAge f later k ≤ 150000 := by
    unfold rAge
    omega
  have h1 := sp_w hw hab
  unfold rLo rHi rWide
  omega