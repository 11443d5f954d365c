/-- what holds of the pad while it is read -/
def PW (st : xs_S) : Prop := (0 ≤ (st 70 2).toInt ∧ (st 70 2).toInt ≤ (st 70 1).toInt ∧ (st 70 1).toInt ≤ 80) ∧ ∀ i : Nat, (i : Int) < (st 70 1).toInt → 33 ≤ (st 71 i).toInt ∧ (st 71 i).toInt ≤ 126
theorem xc_nar {x : Int32} (h : 0 ≤ x.toInt ∧ x.toInt < 65536) : narrow .char (.int x) = .int x ∧ fits .char (.int x) = true := by
  have e : x = nI x.toInt.toNat := by
    apply xi_eq.mpr
    rw [nI_toInt (by omega)]
    omega
  rw [e]
  exact pk_charN (by omega)
theorem pw_u {st : xs_S} {i : Nat} {v : Int32} (hi : i ≠ 1 ∧ i ≠ 2) (h : PW st) : PW (xs_u st 70 i v) := by
  unfold PW at h ⊢
  rw [xs_rd_i (fun e => hi.1 e.symm), xs_rd_i (fun e => hi.2 e.symm), xs_rd_k (by decide)]
  exact h
def F_X3_length (st : xs_S) : Int32 := st 70 1
set_option maxRecDepth 20000 in
theorem c_X3_length {G : xs_G} {base : Nat} (d : Nat) (st : xs_S) : xs_K (xc G) base (d + 0) M_X3_length [.ref 70] st (fun v u => v = some (.int (F_X3_length st)) ∧ u = st) := by
  refine xs_intro ok_X3_length [(0, .ref 70)] rfl rfl ?_
  refine xr_blk gd_X3_length 2 (c' := (4, [(0, .ref 70)], [.int (st 70 1)], st)) rfl ?_
  exact xr_iret gd_X3_length rfl rfl ⟨by first | (rw [F_X3_length]; done) | (rw [F_X3_length]; rfl), rfl⟩
theorem pw_at {st : xs_S} {v : Int32} (h : PW st) (hv : 0 ≤ v.toInt ∧ v.toInt ≤ (st 70 1).toInt) : PW (xs_u st 70 2 v) := by
  unfold PW at h ⊢
  rw [xs_rd_s, xs_rd_i (by decide), xs_rd_k (by decide)]
  exact ⟨⟨hv.1, hv.2, h.1.2.2⟩, h.2⟩
theorem xp_t0 {st : xs_S} (hp : PW st) : PW (xs_u st 70 7 0) ∧ (xs_u st 70 7 0 70 1).toInt < (xs_u st 70 7 0 70 2).toInt + ((82 : Nat) : Int) := by
  refine ⟨pw_u (by decide) hp, ?_⟩
  show (st 70 1).toInt < (st 70 2).toInt + ((82 : Nat) : Int)
  have hb := hp.1
  omega
theorem xp_t {st : xs_S} {v : Int32} {n : Nat} (h : PW st ∧ (st 70 1).toInt < (st 70 2).toInt + ((n + 1 : Nat) : Int)) (h1 : ¬ st 70 1 ≤ st 70 2) : PW (xs_u (xs_u st 70 7 v) 70 2 (st 70 2 + 1)) ∧ (xs_u (xs_u st 70 7 v) 70 2 (st 70 2 + 1) 70 1).toInt < (xs_u (xs_u st 70 7 v) 70 2 (st 70 2 + 1) 70 2).toInt + (n : Int) := by
  have hb := h.1.1
  rw [xi_le] at h1
  refine ⟨pw_at (pw_u (by decide) h.1) (by rw [xi_inc (by omega)]; show _ ∧ _ ≤ (st 70 1).toInt; omega), ?_⟩
  show (st 70 1).toInt < (st 70 2 + 1).toInt + (n : Int)
  rw [xi_inc (by omega)]
  omega
theorem pw_ite {c : Prop} [Decidable c] {a b : Int32 × xs_S} (ha : PW a.2) (hb : PW b.2) : PW (if c then a else b).2 := by
  by_cases h : c
  · rw [if_pos h]; exact ha
  · rw [if_neg h]; exact hb