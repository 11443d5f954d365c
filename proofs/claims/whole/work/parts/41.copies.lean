/-! the reference's copies, each as one function of the memory -/
def cpg (s0 : xs_S) (D S d0 sr k : Nat) : Nat → Int32 := fun i => if d0 ≤ i ∧ i < d0 + k then s0 S (sr + (i - d0)) else s0 D i
def cpy (s0 : xs_S) (D S d0 sr k : Nat) : xs_S := xs_ur s0 D (cpg s0 D S d0 sr k)
theorem cpy_n {s0 : xs_S} {D S d0 sr k c : Nat} (h : c ≠ D) : cpy s0 D S d0 sr k c = s0 c := xs_ur_n h
theorem cpy_i {s0 : xs_S} {D S d0 sr k i : Nat} (h : d0 ≤ i ∧ i < d0 + k) : cpy s0 D S d0 sr k D i = s0 S (sr + (i - d0)) := by
  unfold cpy
  rw [xs_ur_s]
  unfold cpg
  rw [if_pos h]
theorem cpy_o {s0 : xs_S} {D S d0 sr k i : Nat} (h : ¬ (d0 ≤ i ∧ i < d0 + k)) : cpy s0 D S d0 sr k D i = s0 D i := by
  unfold cpy
  rw [xs_ur_s]
  unfold cpg
  rw [if_neg h]
theorem xs_ur_ur {s : xs_S} {k : Nat} {f g : Nat → Int32} : xs_ur (xs_ur s k f) k g = xs_ur s k g := by
  funext j
  by_cases h : j = k
  · subst h
    rw [xs_ur_s, xs_ur_s]
  · rw [xs_ur_n h, xs_ur_n h, xs_ur_n h]
theorem cpy_0 {s0 : xs_S} {D S d0 sr : Nat} : cpy s0 D S d0 sr 0 = s0 := by
  funext c
  by_cases h : c = D
  · subst h
    funext i
    exact cpy_o (by omega)
  · exact cpy_n h
theorem cpy_u {s0 : xs_S} {D S d0 sr k : Nat} (h : S ≠ D ∨ d0 ≤ sr) : xs_u (cpy s0 D S d0 sr k) D (d0 + k) (cpy s0 D S d0 sr k S (sr + k)) = cpy s0 D S d0 sr (k + 1) := by
  have hv : cpy s0 D S d0 sr k S (sr + k) = s0 S (sr + k) := by
    by_cases hs : S = D
    · subst hs
      rcases h with h | h
      · exact absurd rfl h
      · exact cpy_o (by omega)
    · rw [cpy_n hs]
  rw [hv]
  unfold cpy xs_u
  rw [xs_ur_ur, xs_ur_s]
  congr 1
  funext i
  by_cases hi : i = d0 + k
  · subst hi
    rw [xs_uf_s]
    unfold cpg
    rw [if_pos (by omega)]
    congr 1
    omega
  · rw [xs_uf_n hi]
    unfold cpg
    by_cases h2 : d0 ≤ i ∧ i < d0 + k
    · rw [if_pos h2, if_pos (by omega)]
    · rw [if_neg h2, if_neg (by omega)]
theorem cpl {T : Type} (lp : Nat → Int32 → xs_S → T) (E : xs_S → T) (B D S d0 sr : Nat) (s0 : xs_S) (hB : B < 2147483647) (hS : S ≠ D ∨ d0 ≤ sr)
    (hlp : ∀ (n k : Nat) (s : xs_S), k ≤ B → (∀ c : Nat, c ≠ D → s c = s0 c) → lp (n + 1) (nI k) s = if nI B ≤ nI k then E s else lp n (nI (k + 1)) (xs_u s D (d0 + k) (s S (sr + k)))) : ∀ (n k : Nat), k + n = B + 1 → k ≤ B → lp n (nI k) (cpy s0 D S d0 sr k) = E (cpy s0 D S d0 sr B) := by
  intro n
  induction n with
  | zero => intro k h1 h2; omega
  | succ n ih =>
    intro k h1 h2
    rw [hlp n k _ h2 (fun c hc => cpy_n hc)]
    by_cases hk : k = B
    · subst hk
      rw [if_pos (nI_le (Nat.le_refl _) (by omega))]
    · rw [if_neg (by rw [nI_leI (by omega) (by omega)]; omega), cpy_u hS]
      exact ih (k + 1) (by omega) (by omega)
theorem cpl0 {T : Type} (lp : Nat → Int32 → xs_S → T) (E : xs_S → T) (B D S d0 sr : Nat) (s0 : xs_S) (hB : B < 2147483647) (hS : S ≠ D ∨ d0 ≤ sr)
    (hlp : ∀ (n k : Nat) (s : xs_S), k ≤ B → (∀ c : Nat, c ≠ D → s c = s0 c) → lp (n + 1) (nI k) s = if nI B ≤ nI k then E s else lp n (nI (k + 1)) (xs_u s D (d0 + k) (s S (sr + k)))) : lp (B + 1) 0 s0 = E (cpy s0 D S d0 sr B) := by
  have h := cpl lp E B D S d0 sr s0 hB hS hlp (B + 1) 0 (by omega) (by omega)
  rw [cpy_0, nI_0] at h
  exact h
theorem i111 : (111 : Int32) = nI 111 := by decide
theorem i555 : (555 : Int32) = nI 555 := by decide
theorem ix_a {m k : Nat} (hm : m ≤ 6) (hk : k ≤ 111) : ((111 : Int32) * nI m + nI k).toInt.toNat = 111 * m + k := by
  rw [i111, pk_mul, nI_add, nI_tn (by omega)]
theorem ix_b {k : Nat} (hk : k ≤ 555) : ((111 : Int32) + nI k).toInt.toNat = 111 + k := by
  rw [i111, nI_add, nI_tn (by omega)]
theorem rem_s {w : xs_S} : F_X7_remember w = cpy w 75 73 0 0 111 := by
  unfold F_X7_remember
  refine cpl0 lp_X7_remember_2 (fun s => s) 111 75 73 0 0 w (by decide) (Or.inl (by decide)) (fun n k s hk hs => ?_)
  rw [lp_X7_remember_2, i111, nI_tn (by omega), nI_1, Nat.zero_add]
theorem rec63_s {told : Int32} {w : xs_S} {m : Nat} (hm : m ≤ 5) (h5 : w 72 5 = nI m) : lp_X7_record_63 told 112 0 w = (told, xs_u (cpy w 74 75 (111 * m) 0 111) 72 5 (nI (m + 1))) := by
  have h := cpl0 (lp_X7_record_63 told) (fun s => (told, xs_u s 72 5 (s 72 5 + 1))) 111 74 75 (111 * m) 0 w (by decide) (Or.inl (by decide)) (fun n k s hk hs => by
    rw [lp_X7_record_63, hs 72 (by decide), h5, ix_a (by omega) hk, nI_tn (by omega), nI_1 m, nI_1 k, Nat.zero_add, i111])
  rw [h, cpy_n (by decide), h5, nI_1]
theorem rec23_s {told : Int32} {w : xs_S} (h5 : w 72 5 = nI 6) : lp_X7_record_23 told 556 0 w = lp_X7_record_63 told 112 0 (xs_u (cpy w 74 74 0 111 555) 72 5 (nI 5)) := by
  have h := cpl0 (lp_X7_record_23 told) (fun s => lp_X7_record_63 told 112 0 (xs_u s 72 5 (s 72 5 - 1))) 555 74 74 0 111 w (by decide) (Or.inr (by decide)) (fun n k s hk hs => by
    rw [lp_X7_record_23, ix_b hk, nI_tn (by omega), nI_1, Nat.zero_add, i555])
  rw [h, cpy_n (by decide), h5]
  rfl
theorem undo_s {w : xs_S} {m : Nat} (hm : m ≤ 5) (h5 : w 72 5 = nI m) : lp_X7_undo_22 112 0 w = (nI m, cpy w 73 74 0 (111 * m) 111) := by
  have h := cpl0 lp_X7_undo_22 (fun s => (s 72 5, s)) 111 73 74 0 (111 * m) w (by decide) (Or.inl (by decide)) (fun n k s hk hs => by
    rw [lp_X7_undo_22, hs 72 (by decide), h5, ix_a (by omega) hk, nI_tn (by omega), nI_1, Nat.zero_add, i111])
  rw [h, cpy_n (by decide), h5]
theorem save_s {w : xs_S} {m : Nat} (hm : m < 2) : lp_X7_save_15 (nI m) 112 0 w = (w 73 3, xs_u (cpy w 76 73 (111 * m) 0 111) 77 m 1) := by
  have h := cpl0 (lp_X7_save_15 (nI m)) (fun s => (s 73 3, xs_u s 77 (nI m).toInt.toNat 1)) 111 76 73 (111 * m) 0 w (by decide) (Or.inl (by decide)) (fun n k s hk hs => by
    rw [lp_X7_save_15, ix_a (by omega) hk, nI_tn (show k < 2147483648 by omega), nI_1, Nat.zero_add, i111])
  rw [h, cpy_n (by decide), nI_tn (by omega)]
theorem rest_s {w : xs_S} {m : Nat} (hm : m < 2) : lp_X7_restore_31 (nI m) 112 0 w = ((F_X7_record (cpy w 73 76 0 (111 * m) 111) (cpy w 73 76 0 (111 * m) 111 73 3)).1, (F_X7_record (cpy w 73 76 0 (111 * m) 111) (cpy w 73 76 0 (111 * m) 111 73 3)).2) := by
  exact cpl0 (lp_X7_restore_31 (nI m)) (fun s => ((F_X7_record s (s 73 3)).1, (F_X7_record s (s 73 3)).2)) 111 73 76 0 (111 * m) w (by decide) (Or.inl (by decide)) (fun n k s hk hs => by
    rw [lp_X7_restore_31, ix_a (by omega) hk, nI_tn (show k < 2147483648 by omega), nI_1, Nat.zero_add, i111])
/-! readings -/
theorem bt_one32 : ∀ k, k < 15 → ∀ j, j < 32 → ((1 : Int32) <<< (nI k &&& 31)).toBitVec.getLsbD j = decide (j = k) := by decide +kernel
theorem bt_or32 {x : Int32} {k j : Nat} (hk : k < 15) (hj : j < 32) : bt (x ||| ((1 : Int32) <<< (nI k &&& 31))) j = (bt x j || decide (j = k)) := by
  unfold bt
  rw [Int32.toBitVec_or, BitVec.getLsbD_or, bt_one32 k hk j hj]
def rd4 (f : Nat → Int32) (k : Nat) (t q v : Int32) : Nat → Int32 := xs_uf (xs_uf (xs_uf (xs_uf f (6 + 7 * k + 0) 1) (6 + 7 * k + 1) t) (6 + 7 * k + 2) q) (6 + 7 * k + 3) v
theorem rd4_h {f : Nat → Int32} {k i : Nat} {t q v : Int32} (hi : i < 6) : rd4 f k t q v i = f i := by
  unfold rd4
  rw [uf_h hi, uf_h hi, uf_h hi, uf_h hi]
theorem rd4_c {f : Nat → Int32} {k j m : Nat} {t q v : Int32} (hm : m ≤ 6) : rd4 f k t q v (6 + m + 7 * j) = if j = k ∧ m = 3 then v else if j = k ∧ m = 2 then q else if j = k ∧ m = 1 then t else if j = k ∧ m = 0 then 1 else f (6 + m + 7 * j) := by
  unfold rd4
  rw [uf_c (by decide) hm, uf_c (by decide) hm, uf_c (by decide) hm, uf_c (by decide) hm]
theorem lays4 {w : xs_S} {k : Nat} {t q : Int32} (hk : k < 15) : F_X7_lay (F_X7_lay (F_X7_lay (F_X7_lay w (nI k) 0 1) (nI k) 1 t) (nI k) 2 q) (nI k) 3 (F_X7_lay (F_X7_lay (F_X7_lay w (nI k) 0 1) (nI k) 1 t) (nI k) 2 q 73 2) 73 = rd4 (w 73) k t q (w 73 2) := by
  rw [ly_row (c := 3) hk (by decide) (by decide), ly_row (c := 2) hk (by decide) (by decide), ly_row (c := 1) hk (by decide) (by decide), ly_row (c := 0) hk (by decide) (by decide), uf_h (by decide), uf_h (by decide), uf_h (by decide)]
  rfl
theorem CR_rd {u : xs_S} {f : Nat → Int32} {k : Nat} {t q : Int32} (hk : k < 15) (hd : (k : Int) < (f 3).toInt) (h : CR 1 u f) : CR 1 (xs_u (xs_u (xs_u (xs_u u 2 k t) 3 k q) 4 k (u 1 2)) 1 4 (u 1 4 ||| ((1 : Int32) <<< (nI k &&& 31)))) (rd4 f k t q (f 2)) := by
  obtain ⟨⟨e0, e1, e2, e3, e6, e7⟩, h2, h3, h4⟩ := h
  have r1 : ∀ i, i ≠ 4 → xs_u (xs_u (xs_u (xs_u u 2 k t) 3 k q) 4 k (u 1 2)) 1 4 (u 1 4 ||| ((1 : Int32) <<< (nI k &&& 31))) 1 i = u 1 i := fun i hi => by
    rw [xs_rd_i hi, xs_rd_k (by decide), xs_rd_k (by decide), xs_rd_k (by decide)]
  have r4 : xs_u (xs_u (xs_u (xs_u u 2 k t) 3 k q) 4 k (u 1 2)) 1 4 (u 1 4 ||| ((1 : Int32) <<< (nI k &&& 31))) 1 4 = u 1 4 ||| ((1 : Int32) <<< (nI k &&& 31)) := xs_rd_s
  unfold CR
  rw [r1 0 (by decide), r1 1 (by decide), r1 2 (by decide), r1 3 (by decide), r1 6 (by decide), r1 7 (by decide), r1 5 (by decide), r4, rd4_h (by decide), rd4_h (by decide), rd4_h (by decide), rd4_h (by decide), rd4_h (by decide), rd4_h (by decide)]
  refine ⟨⟨e0, e1, e2, e3, e6, e7⟩, fun j hj => ?_, fun j hj hb => ?_, fun j hj hb => ?_⟩
  · obtain ⟨⟨g0, g6⟩, g1, g2, g3, g4, g5⟩ := h2 j hj
    have c0 := rd4_c (f := f) (k := k) (j := j) (m := 0) (t := t) (q := q) (v := f 2) (by decide)
    have c1 := rd4_c (f := f) (k := k) (j := j) (m := 1) (t := t) (q := q) (v := f 2) (by decide)
    have c2 := rd4_c (f := f) (k := k) (j := j) (m := 2) (t := t) (q := q) (v := f 2) (by decide)
    have c3 := rd4_c (f := f) (k := k) (j := j) (m := 3) (t := t) (q := q) (v := f 2) (by decide)
    have c4 := rd4_c (f := f) (k := k) (j := j) (m := 4) (t := t) (q := q) (v := f 2) (by decide)
    have c5 := rd4_c (f := f) (k := k) (j := j) (m := 5) (t := t) (q := q) (v := f 2) (by decide)
    have c6 := rd4_c (f := f) (k := k) (j := j) (m := 6) (t := t) (q := q) (v := f 2) (by decide)
    simp only [show 6 + 0 = 6 from rfl, show 6 + 1 = 7 from rfl, show 6 + 2 = 8 from rfl, show 6 + 3 = 9 from rfl, show 6 + 4 = 10 from rfl, show 6 + 5 = 11 from rfl, show 6 + 6 = 12 from rfl] at c0 c1 c2 c3 c4 c5 c6
    rw [c0, c1, c2, c3, c4, c5, c6, bt_or32 hk (by omega)]
    show _ ∧ xs_u (xs_u (xs_u (xs_u u 2 k t) 3 k q) 4 k (u 1 2)) 1 4 _ 2 j = _ ∧ xs_u (xs_u (xs_u (xs_u u 2 k t) 3 k q) 4 k (u 1 2)) 1 4 _ 3 j = _ ∧ xs_u (xs_u (xs_u (xs_u u 2 k t) 3 k q) 4 k (u 1 2)) 1 4 _ 4 j = _ ∧ xs_u (xs_u (xs_u (xs_u u 2 k t) 3 k q) 4 k (u 1 2)) 1 4 _ 5 j = _ ∧ xs_u (xs_u (xs_u (xs_u u 2 k t) 3 k q) 4 k (u 1 2)) 1 4 _ 6 j = _
    rw [xs_rd_k (show (2 : Nat) ≠ 1 by decide), xs_rd_k (show (3 : Nat) ≠ 1 by decide), xs_rd_k (show (4 : Nat) ≠ 1 by decide), xs_rd_k (show (5 : Nat) ≠ 1 by decide), xs_rd_k (show (6 : Nat) ≠ 1 by decide), xs_rd_k (show (2 : Nat) ≠ 4 by decide), xs_rd_k (show (3 : Nat) ≠ 4 by decide), xs_rd_k (show (5 : Nat) ≠ 4 by decide), xs_rd_k (show (6 : Nat) ≠ 4 by decide), xs_rd_k (show (2 : Nat) ≠ 3 by decide), xs_rd_k (show (5 : Nat) ≠ 3 by decide), xs_rd_k (show (6 : Nat) ≠ 3 by decide), xs_rd_k (show (5 : Nat) ≠ 2 by decide), xs_rd_k (show (6 : Nat) ≠ 2 by decide)]
    by_cases hjk : j = k
    · subst hjk
      rw [xs_rd_s, xs_rd_s, xs_rd_s]
      simp [e2]
      exact ⟨g6, g4, g5⟩
    · rw [xs_rd_i hjk, xs_rd_i hjk, xs_rd_i hjk, xs_rd_k (show (3 : Nat) ≠ 2 by decide), xs_rd_k (show (4 : Nat) ≠ 3 by decide), xs_rd_k (show (4 : Nat) ≠ 2 by decide)]
      simp [hjk]
      exact ⟨⟨g0, g6⟩, g1, g2, g3, g4, g5⟩
  · rw [bt_or32 hk hj] at hb
    by_cases hjk : j = k
    · subst hjk; exact hd
    · simp [hjk] at hb
      exact h3 j hj hb
  · rw [bt_or32 hk hj, h4 j hj hb]
    rfl
