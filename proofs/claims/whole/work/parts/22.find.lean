theorem ov_c {s u : xs_S} {t : Int32} (h1 : u 72 11 = s 72 11) (h2 : u 81 = s 81) (h3 : u 82 = s 82) : F_X7_overlapAt u t = F_X7_overlapAt s t := by
  rw [m_ov, m_ov]
  have e1 : mp u = mp s := by funext k; unfold mp; rw [h1]
  have e2 : ml u = ml s := by funext k; unfold ml; rw [h2]
  have e3 : mh u = mh s := by funext k; unfold mh; rw [h3]
  unfold mov
  rw [e1, e2, e3]
theorem hi_c {s u : xs_S} {t : Int32} (h1 : u 72 11 = s 72 11) (h2 : u 81 = s 81) (h3 : u 82 = s 82) : F_X7_high u t = F_X7_high s t := by
  have hh : ∀ d, F_X7_has u d t = F_X7_has s d t := by
    intro d
    unfold F_X7_has
    rw [h1, h2, h3]
  have key : ∀ (n : Nat) (x2 x3 x4 : Int32), lp_X7_high_8 u t n x2 x3 x4 = lp_X7_high_8 s t n x2 x3 x4 := by
    intro n
    induction n with
    | zero => intro x2 x3 x4; rfl
    | succ n ih =>
      intro x2 x3 x4
      rw [lp_X7_high_8, lp_X7_high_8, hh, h3]
      simp only [ih]
  unfold F_X7_high
  rw [key]
theorem lf_c {s u : xs_S} {m : Int32} (h1 : u 72 11 = s 72 11) (h2 : u 81 = s 81) (h3 : u 82 = s 82) : ∀ (n : Nat) (e g : Int32), lf_t s m n e g → lf_t u m n e g := by
  intro n
  induction n with
  | zero => intro e g h; exact h
  | succ n ih =>
    intro e g h
    rcases h with h | h
    · exact Or.inl h
    · refine Or.inr ?_
      rw [hi_c h1 h2 h3, ov_c h1 h2 h3]
      exact ⟨fun hc => ih _ _ (h.1 hc), fun hc => ih _ _ (h.2 hc)⟩
theorem LF_c {s u : xs_S} (h1 : u 72 11 = s 72 11) (h2 : u 81 = s 81) (h3 : u 82 = s 82) (h : LF s) : LF u := by
  intro m t hm hle
  rw [ov_c h1 h2 h3] at hle
  exact lf_c h1 h2 h3 _ _ _ (h m t hm hle)
theorem LF_u {s : xs_S} {i : Nat} {v : Int32} (hi : i ≠ 11) (h : LF s) : LF (xs_u s 72 i v) := LF_c (by rw [xs_rd_i (fun e => hi e.symm)]) (by rw [xs_rd_k (by decide)]) (by rw [xs_rd_k (by decide)]) h
theorem ov_u {s : xs_S} {i : Nat} {v t : Int32} (hi : i ≠ 11) : F_X7_overlapAt (xs_u s 72 i v) t = F_X7_overlapAt s t := ov_c (by rw [xs_rd_i (fun e => hi e.symm)]) (by rw [xs_rd_k (by decide)]) (by rw [xs_rd_k (by decide)])
def FI (st : xs_S) (many x2 : Int32) : Prop := LF st ∧ (x2 = 0 ∨ (x2 = 1 ∧ many.toInt ≤ (F_X7_overlapAt st (st 72 15)).toInt))
theorem fi_0 {st : xs_S} {many : Int32} (h : LF st) : FI st many 0 := ⟨h, Or.inl rfl⟩
theorem fi_u {st : xs_S} {many x2 v : Int32} (h : FI st many x2) (hv : ¬ F_X7_overlapAt st v < many) : FI (xs_u st 72 15 v) many 1 := by
  refine ⟨LF_u (by decide) h.1, Or.inr ⟨rfl, ?_⟩⟩
  rw [xs_rd_s, ov_u (by decide)]
  rw [xi_lt] at hv
  omega
theorem fi_l {st : xs_S} {many x2 : Int32} (h : FI st many x2) (hm : 1 ≤ many.toInt) (h2 : ¬ x2 = 0) : lf_t st many 17 (st 72 15) 1 := by
  rcases h.2 with h3 | h3
  · exact absurd h3 h2
  · exact h.1 many (st 72 15) hm h3.2
theorem fi_01 {st : xs_S} {many x2 : Int32} (h : FI st many x2) : x2 = 0 ∨ x2 = 1 := by
  rcases h.2 with h | h
  · exact Or.inl h
  · exact Or.inr h.1
theorem xm_m0 {m : Int32} (h : ¬ m ≤ 0) : 1 ≤ m.toInt := by
  rw [xi_le, xi_0] at h
  omega
theorem xm_m1 {m : Int32} (h : ¬ m < 1) : 1 ≤ m.toInt := by
  rw [xi_lt, xi_1] at h
  omega
theorem xm_mp {m : Int32} (h : 0 < m) : 1 ≤ m.toInt := by
  rw [xi_lt, xi_0] at h
  omega
def lp_X7_find_4 (many : Int32) : Nat → Int32 → Int32 → xs_S → Int32 × xs_S
  | 0, _, _, st => (0, st)
  | n + 1, x2, x3, st => (if 15 ≤ x3 then (if x2 = 0 then (x2, xs_u st 72 16 0)
      else (x2, xs_u st 72 16 (F_X7_lastFrom st (st 72 15) many)))
    else (if (((st 72 11) >>> (x3 &&& 31)) &&& 1) = 1 then (if (F_X7_overlapAt st (st 81 x3.toInt.toNat)) < many then lp_X7_find_4 many n x2 (x3 + 1) st
        else (if x2 = 0 then lp_X7_find_4 many n 1 (x3 + 1) (xs_u st 72 15 (st 81 x3.toInt.toNat))
          else (if (st 72 15) ≤ (st 81 x3.toInt.toNat) then lp_X7_find_4 many n x2 (x3 + 1) st
            else lp_X7_find_4 many n 1 (x3 + 1) (xs_u st 72 15 (st 81 x3.toInt.toNat)))))
      else lp_X7_find_4 many n x2 (x3 + 1) st))
set_option maxRecDepth 20000 in
theorem cl_X7_find_4 {G : xs_G} {base : Nat} (d : Nat) (many : Int32) (hm : 1 ≤ many.toInt) : ∀ (n : Nat) (x2 : Int32) (x3 : Int32) (st : xs_S), xs_lo x3 15 n ∧ FI st many x2 → xs_R G base (d + 3) M_X7_find (4, [(0, .ref 72), (1, .int many), (2, .int x2), (3, .int x3)], [], st) (fun v u => v = some (.int (lp_X7_find_4 many n x2 x3 st).1) ∧ u = (lp_X7_find_4 many n x2 x3 st).2) := by
  intro n
  induction n with
  | zero =>
    intro x2 x3 st hinv
    exact (xs_lo0 hinv.1).elim
  | succ n ih =>
    intro x2 x3 st hinv
    refine xr_blk gd_X7_find 2 (c' := (7, [(0, .ref 72), (1, .int many), (2, .int x2), (3, .int x3)], [.int 15, .int x3], st)) rfl ?_
    refine xr_br gd_X7_find rfl rfl (fun h1 => ?_) (fun h1 => ?_)
    · refine xr_blk gd_X7_find 2 (c' := (73, [(0, .ref 72), (1, .int many), (2, .int x2), (3, .int x3)], [.int x2, .ref 72], st)) rfl ?_
      refine xr_br gd_X7_find rfl rfl (fun h2 => ?_) (fun h2 => ?_)
      · refine xr_blk gd_X7_find 3 (c' := (93, [(0, .ref 72), (1, .int many), (2, .int x2), (3, .int x3)], [.int x2], xs_u st 72 16 0)) rfl ?_
        exact xr_zret gd_X7_find rfl rfl (xz_01 (fi_01 hinv.2)) ⟨by first | (rw [lp_X7_find_4, if_pos h1, if_pos h2]; done) | (rw [lp_X7_find_4, if_pos h1, if_pos h2]; rfl), by first | (rw [lp_X7_find_4, if_pos h1, if_pos h2]; done) | (rw [lp_X7_find_4, if_pos h1, if_pos h2]; rfl)⟩
      · refine xr_blk gd_X7_find 4 (c' := (82, [(0, .ref 72), (1, .int many), (2, .int x2), (3, .int x3)], [.int many, .int (st 72 15), .ref 72, .ref 72], st)) rfl ?_
        refine xr_callV gd_X7_find gd_X7_lastFrom k_X7_75 rfl (c_X7_lastFrom (d + 0) st (st 72 15) many (by first | exact fi_l hinv.2 hm h2 | exact fi_l hinv.2 hm h3)) (by omega) rfl rfl rfl rfl rfl ?_
        refine xs_fun ?_
        refine xr_blk gd_X7_find 3 (c' := (93, [(0, .ref 72), (1, .int many), (2, .int x2), (3, .int x3)], [.int x2], xs_u st 72 16 (F_X7_lastFrom st (st 72 15) many))) rfl ?_
        exact xr_zret gd_X7_find rfl rfl (xz_01 (fi_01 hinv.2)) ⟨by first | (rw [lp_X7_find_4, if_pos h1, if_neg h2]; done) | (rw [lp_X7_find_4, if_pos h1, if_neg h2]; rfl), by first | (rw [lp_X7_find_4, if_pos h1, if_neg h2]; done) | (rw [lp_X7_find_4, if_pos h1, if_neg h2]; rfl)⟩
    · refine xr_blk gd_X7_find 7 (c' := (19, [(0, .ref 72), (1, .int many), (2, .int x2), (3, .int x3)], [.int 1, .int (((st 72 11) >>> (x3 &&& 31)) &&& 1)], st)) rfl ?_
      refine xr_br gd_X7_find rfl rfl (fun h3 => ?_) (fun h3 => ?_)
      · refine xr_blk gd_X7_find 2 (c' := (4, [(0, .ref 72), (1, .int many), (2, .int x2), (3, .int (x3 + 1))], [], st)) rfl ?_
        refine xs_cons (ih x2 (x3 + 1) st (by first | with_reducible exact ⟨xs_lo_up hinv.1 h1, hinv.2⟩ | with_reducible exact ⟨xs_lo_up hinv.1 h1, fi_u hinv.2 h4⟩ | with_reducible exact ⟨xs_lo_up hinv.1 h1, fi_u hinv.2 h5⟩ | with_reducible exact ⟨xs_lo_up hinv.1 h1, fi_u hinv.2 h3⟩)) (fun v u hq => ?_)
        rw [lp_X7_find_4, if_neg h1, if_neg h3]; exact hq
      · refine xr_blk gd_X7_find 4 (c' := (28, [(0, .ref 72), (1, .int many), (2, .int x2), (3, .int x3)], [.int x3, .ref 81, .ref 72], st)) rfl ?_
        refine xr_iald gd_X7_find rfl rfl (x3.toInt.toNat) (xs_h1 (n := 15) (xs_lo15 hinv.1 h1)) (xs_h2 (n := 15) (xs_lo15 hinv.1 h1)) ?_
        refine xr_callV gd_X7_find gd_X7_overlapAt k_X7_69 rfl (c_X7_overlapAt (d + 1) st (st 81 x3.toInt.toNat)) (by omega) rfl rfl rfl rfl rfl ?_
        refine xs_fun ?_
        refine xr_blk gd_X7_find 1 (c' := (33, [(0, .ref 72), (1, .int many), (2, .int x2), (3, .int x3)], [.int many, .int (F_X7_overlapAt st (st 81 x3.toInt.toNat))], st)) rfl ?_
        refine xr_br gd_X7_find rfl rfl (fun h4 => ?_) (fun h4 => ?_)
        · refine xr_blk gd_X7_find 2 (c' := (4, [(0, .ref 72), (1, .int many), (2, .int x2), (3, .int (x3 + 1))], [], st)) rfl ?_
          refine xs_cons (ih x2 (x3 + 1) st (by first | with_reducible exact ⟨xs_lo_up hinv.1 h1, hinv.2⟩ | with_reducible exact ⟨xs_lo_up hinv.1 h1, fi_u hinv.2 h4⟩ | with_reducible exact ⟨xs_lo_up hinv.1 h1, fi_u hinv.2 h5⟩ | with_reducible exact ⟨xs_lo_up hinv.1 h1, fi_u hinv.2 h3⟩)) (fun v u hq => ?_)
          rw [lp_X7_find_4, if_neg h1, if_pos h3, if_pos h4]; exact hq
        · refine xr_blk gd_X7_find 1 (c' := (37, [(0, .ref 72), (1, .int many), (2, .int x2), (3, .int x3)], [.int x2], st)) rfl ?_
          refine xr_br gd_X7_find rfl rfl (fun h5 => ?_) (fun h5 => ?_)
          · refine xr_blk gd_X7_find 4 (c' := (59, [(0, .ref 72), (1, .int many), (2, .int x2), (3, .int x3)], [.int x3, .ref 81, .ref 72], st)) rfl ?_
            refine xr_iald gd_X7_find rfl rfl (x3.toInt.toNat) (xs_h1 (n := 15) (xs_lo15 hinv.1 h1)) (xs_h2 (n := 15) (xs_lo15 hinv.1 h1)) ?_
            refine xr_blk gd_X7_find 5 (c' := (4, [(0, .ref 72), (1, .int many), (2, .int 1), (3, .int (x3 + 1))], [], xs_u st 72 15 (st 81 x3.toInt.toNat))) rfl ?_
            refine xs_cons (ih 1 (x3 + 1) (xs_u st 72 15 (st 81 x3.toInt.toNat)) (by first | with_reducible exact ⟨xs_lo_up hinv.1 h1, hinv.2⟩ | with_reducible exact ⟨xs_lo_up hinv.1 h1, fi_u hinv.2 h4⟩ | with_reducible exact ⟨xs_lo_up hinv.1 h1, fi_u hinv.2 h5⟩ | with_reducible exact ⟨xs_lo_up hinv.1 h1, fi_u hinv.2 h3⟩)) (fun v u hq => ?_)
            rw [lp_X7_find_4, if_neg h1, if_pos h3, if_neg h4, if_pos h5]; exact hq
          · refine xr_blk gd_X7_find 3 (c' := (45, [(0, .ref 72), (1, .int many), (2, .int x2), (3, .int x3)], [.int x3, .ref 81], st)) rfl ?_
            refine xr_iald gd_X7_find rfl rfl (x3.toInt.toNat) (xs_h1 (n := 15) (xs_lo15 hinv.1 h1)) (xs_h2 (n := 15) (xs_lo15 hinv.1 h1)) ?_
            refine xr_blk gd_X7_find 2 (c' := (50, [(0, .ref 72), (1, .int many), (2, .int x2), (3, .int x3)], [.int (st 72 15), .int (st 81 x3.toInt.toNat)], st)) rfl ?_
            refine xr_br gd_X7_find rfl rfl (fun h6 => ?_) (fun h6 => ?_)
            · refine xr_blk gd_X7_find 2 (c' := (4, [(0, .ref 72), (1, .int many), (2, .int x2), (3, .int (x3 + 1))], [], st)) rfl ?_
              refine xs_cons (ih x2 (x3 + 1) st (by first | with_reducible exact ⟨xs_lo_up hinv.1 h1, hinv.2⟩ | with_reducible exact ⟨xs_lo_up hinv.1 h1, fi_u hinv.2 h4⟩ | with_reducible exact ⟨xs_lo_up hinv.1 h1, fi_u hinv.2 h5⟩ | with_reducible exact ⟨xs_lo_up hinv.1 h1, fi_u hinv.2 h3⟩)) (fun v u hq => ?_)
              rw [lp_X7_find_4, if_neg h1, if_pos h3, if_neg h4, if_neg h5, if_pos h6]; exact hq
            · refine xr_blk gd_X7_find 4 (c' := (59, [(0, .ref 72), (1, .int many), (2, .int x2), (3, .int x3)], [.int x3, .ref 81, .ref 72], st)) rfl ?_
              refine xr_iald gd_X7_find rfl rfl (x3.toInt.toNat) (xs_h1 (n := 15) (xs_lo15 hinv.1 h1)) (xs_h2 (n := 15) (xs_lo15 hinv.1 h1)) ?_
              refine xr_blk gd_X7_find 5 (c' := (4, [(0, .ref 72), (1, .int many), (2, .int 1), (3, .int (x3 + 1))], [], xs_u st 72 15 (st 81 x3.toInt.toNat))) rfl ?_
              refine xs_cons (ih 1 (x3 + 1) (xs_u st 72 15 (st 81 x3.toInt.toNat)) (by first | with_reducible exact ⟨xs_lo_up hinv.1 h1, hinv.2⟩ | with_reducible exact ⟨xs_lo_up hinv.1 h1, fi_u hinv.2 h4⟩ | with_reducible exact ⟨xs_lo_up hinv.1 h1, fi_u hinv.2 h5⟩ | with_reducible exact ⟨xs_lo_up hinv.1 h1, fi_u hinv.2 h3⟩)) (fun v u hq => ?_)
              rw [lp_X7_find_4, if_neg h1, if_pos h3, if_neg h4, if_neg h5, if_neg h6]; exact hq
def F_X7_find (st : xs_S) (many : Int32) : Int32 × xs_S := lp_X7_find_4 many 16 0 0 st
set_option maxRecDepth 20000 in
theorem c_X7_find {G : xs_G} {base : Nat} (d : Nat) (st : xs_S) (many : Int32) (hL : LF st) (hm : 1 ≤ many.toInt) : xs_K G base (d + 3) M_X7_find [.ref 72, .int many] st (fun v u => v = some (.int (F_X7_find st many).1) ∧ u = (F_X7_find st many).2) := by
  refine xs_intro ok_X7_find [(0, .ref 72), (1, .int many)] rfl rfl ?_
  refine xr_blk gd_X7_find 4 (c' := (4, [(0, .ref 72), (1, .int many), (2, .int 0), (3, .int 0)], [], st)) rfl ?_
  refine xs_cons (cl_X7_find_4 d many hm 16 0 0 st ⟨⟨by decide, by decide, by decide⟩, fi_0 hL⟩) (fun v u hq => ?_)
  rw [F_X7_find]; exact hq
def lp_X7_seek_7 : Nat → Int32 → xs_S → Int32 × xs_S
  | 0, _, st => (0, st)
  | n + 1, x1, st => (if 15 ≤ x1 then (if (st 72 14) ≤ 0 then (0, st)
      else (if ((F_X7_find st (st 72 14)).1) = 0 then (0, (F_X7_find st (st 72 14)).2)
        else (1, (F_X7_find st (st 72 14)).2)))
    else (if (((st 72 11) >>> (x1 &&& 31)) &&& 1) = 1 then (if (F_X7_overlapAt st (st 81 x1.toInt.toNat)) ≤ (st 72 14) then lp_X7_seek_7 n (x1 + 1) (xs_u st 72 14 (st 72 14))
        else lp_X7_seek_7 n (x1 + 1) (xs_u st 72 14 (F_X7_overlapAt st (st 81 x1.toInt.toNat))))
      else (if 0 ≤ (st 72 14) then lp_X7_seek_7 n (x1 + 1) (xs_u st 72 14 (st 72 14))
        else lp_X7_seek_7 n (x1 + 1) (xs_u st 72 14 0))))
set_option maxRecDepth 20000 in
theorem cl_X7_seek_7 {G : xs_G} {base : Nat} (d : Nat) : ∀ (n : Nat) (x1 : Int32) (st : xs_S), xs_lo x1 15 n ∧ LF st → xs_R G base (d + 4) M_X7_seek (7, [(0, .ref 72), (1, .int x1)], [], st) (fun v u => v = some (.int (lp_X7_seek_7 n x1 st).1) ∧ u = (lp_X7_seek_7 n x1 st).2) := by
  intro n
  induction n with
  | zero =>
    intro x1 st hinv
    exact (xs_lo0 hinv.1).elim
  | succ n ih =>
    intro x1 st hinv
    refine xr_blk gd_X7_seek 2 (c' := (10, [(0, .ref 72), (1, .int x1)], [.int 15, .int x1], st)) rfl ?_
    refine xr_br gd_X7_seek rfl rfl (fun h1 => ?_) (fun h1 => ?_)
    · refine xr_blk gd_X7_seek 2 (c' := (70, [(0, .ref 72), (1, .int x1)], [.int (st 72 14)], st)) rfl ?_
      refine xr_br gd_X7_seek rfl rfl (fun h2 => ?_) (fun h2 => ?_)
      · refine xr_blk gd_X7_seek 1 (c' := (89, [(0, .ref 72), (1, .int x1)], [.int 0], st)) rfl ?_
        exact xr_zret gd_X7_seek rfl rfl rfl ⟨by first | (rw [lp_X7_seek_7, if_pos h1, if_pos h2]; done) | (rw [lp_X7_seek_7, if_pos h1, if_pos h2]; rfl), by first | (rw [lp_X7_seek_7, if_pos h1, if_pos h2]; done) | (rw [lp_X7_seek_7, if_pos h1, if_pos h2]; rfl)⟩
      · refine xr_blk gd_X7_seek 3 (c' := (78, [(0, .ref 72), (1, .int x1)], [.int (st 72 14), .ref 72], st)) rfl ?_
        refine xr_callV gd_X7_seek gd_X7_find k_X7_84 rfl (c_X7_find (d + 0) st (st 72 14) hinv.2 (by first | exact xm_m0 h2 | exact xm_mp h2)) (by omega) rfl rfl rfl rfl rfl ?_
        refine xs_fun ?_
        refine xr_br gd_X7_seek rfl rfl (fun h3 => ?_) (fun h3 => ?_)
        · refine xr_blk gd_X7_seek 1 (c' := (89, [(0, .ref 72), (1, .int x1)], [.int 0], (F_X7_find st (st 72 14)).2)) rfl ?_
          exact xr_zret gd_X7_seek rfl rfl rfl ⟨by first | (rw [lp_X7_seek_7, if_pos h1, if_neg h2, if_pos h3]; done) | (rw [lp_X7_seek_7, if_pos h1, if_neg h2, if_pos h3]; rfl), by first | (rw [lp_X7_seek_7, if_pos h1, if_neg h2, if_pos h3]; done) | (rw [lp_X7_seek_7, if_pos h1, if_neg h2, if_pos h3]; rfl)⟩
        · refine xr_blk gd_X7_seek 2 (c' := (89, [(0, .ref 72), (1, .int x1)], [.int 1], (F_X7_find st (st 72 14)).2)) rfl ?_
          exact xr_zret gd_X7_seek rfl rfl rfl ⟨by first | (rw [lp_X7_seek_7, if_pos h1, if_neg h2, if_neg h3]; done) | (rw [lp_X7_seek_7, if_pos h1, if_neg h2, if_neg h3]; rfl), by first | (rw [lp_X7_seek_7, if_pos h1, if_neg h2, if_neg h3]; done) | (rw [lp_X7_seek_7, if_pos h1, if_neg h2, if_neg h3]; rfl)⟩
    · refine xr_blk gd_X7_seek 7 (c' := (22, [(0, .ref 72), (1, .int x1)], [.int 1, .int (((st 72 11) >>> (x1 &&& 31)) &&& 1)], st)) rfl ?_
      refine xr_br gd_X7_seek rfl rfl (fun h4 => ?_) (fun h4 => ?_)
      · refine xr_blk gd_X7_seek 6 (c' := (46, [(0, .ref 72), (1, .int x1), (2, .int 0)], [.int (st 72 14), .int 0, .ref 72], st)) rfl ?_
        refine xr_br gd_X7_seek rfl rfl (fun h5 => ?_) (fun h5 => ?_)
        · refine xr_blk gd_X7_seek 5 (c' := (7, [(0, .ref 72), (1, .int (x1 + 1)), (2, .int 0)], [], xs_u st 72 14 (st 72 14))) rfl ?_
          refine xs_pk (lv' := [(0, .ref 72), (1, .int (x1 + 1))]) [0, 1] rfl ?_
          refine xs_cons (ih (x1 + 1) (xs_u st 72 14 (st 72 14)) ⟨xs_lo_up hinv.1 h1, LF_u (by decide) hinv.2⟩) (fun v u hq => ?_)
          rw [lp_X7_seek_7, if_neg h1, if_neg h4, if_pos h5]; exact hq
        · refine xr_blk gd_X7_seek 5 (c' := (7, [(0, .ref 72), (1, .int (x1 + 1)), (2, .int 0)], [], xs_u st 72 14 0)) rfl ?_
          refine xs_pk (lv' := [(0, .ref 72), (1, .int (x1 + 1))]) [0, 1] rfl ?_
          refine xs_cons (ih (x1 + 1) (xs_u st 72 14 0) ⟨xs_lo_up hinv.1 h1, LF_u (by decide) hinv.2⟩) (fun v u hq => ?_)
          rw [lp_X7_seek_7, if_neg h1, if_neg h4, if_neg h5]; exact hq
      · refine xr_blk gd_X7_seek 4 (c' := (31, [(0, .ref 72), (1, .int x1)], [.int x1, .ref 81, .ref 72], st)) rfl ?_
        refine xr_iald gd_X7_seek rfl rfl (x1.toInt.toNat) (xs_h1 (n := 15) (xs_lo15 hinv.1 h1)) (xs_h2 (n := 15) (xs_lo15 hinv.1 h1)) ?_
        refine xr_callV gd_X7_seek gd_X7_overlapAt k_X7_69 rfl (c_X7_overlapAt (d + 2) st (st 81 x1.toInt.toNat)) (by omega) rfl rfl rfl rfl rfl ?_
        refine xs_fun ?_
        refine xr_blk gd_X7_seek 6 (c' := (46, [(0, .ref 72), (1, .int x1), (2, .int (F_X7_overlapAt st (st 81 x1.toInt.toNat)))], [.int (st 72 14), .int (F_X7_overlapAt st (st 81 x1.toInt.toNat)), .ref 72], st)) rfl ?_
        refine xr_br gd_X7_seek rfl rfl (fun h6 => ?_) (fun h6 => ?_)
        · refine xr_blk gd_X7_seek 5 (c' := (7, [(0, .ref 72), (1, .int (x1 + 1)), (2, .int (F_X7_overlapAt st (st 81 x1.toInt.toNat)))], [], xs_u st 72 14 (st 72 14))) rfl ?_
          refine xs_pk (lv' := [(0, .ref 72), (1, .int (x1 + 1))]) [0, 1] rfl ?_
          refine xs_cons (ih (x1 + 1) (xs_u st 72 14 (st 72 14)) ⟨xs_lo_up hinv.1 h1, LF_u (by decide) hinv.2⟩) (fun v u hq => ?_)
          rw [lp_X7_seek_7, if_neg h1, if_pos h4, if_pos h6]; exact hq
        · refine xr_blk gd_X7_seek 5 (c' := (7, [(0, .ref 72), (1, .int (x1 + 1)), (2, .int (F_X7_overlapAt st (st 81 x1.toInt.toNat)))], [], xs_u st 72 14 (F_X7_overlapAt st (st 81 x1.toInt.toNat)))) rfl ?_
          refine xs_pk (lv' := [(0, .ref 72), (1, .int (x1 + 1))]) [0, 1] rfl ?_
          refine xs_cons (ih (x1 + 1) (xs_u st 72 14 (F_X7_overlapAt st (st 81 x1.toInt.toNat))) ⟨xs_lo_up hinv.1 h1, LF_u (by decide) hinv.2⟩) (fun v u hq => ?_)
          rw [lp_X7_seek_7, if_neg h1, if_pos h4, if_neg h6]; exact hq
def F_X7_seek (st : xs_S) : Int32 × xs_S := lp_X7_seek_7 16 0 (xs_u st 72 14 0)
set_option maxRecDepth 20000 in
theorem c_X7_seek {G : xs_G} {base : Nat} (d : Nat) (st : xs_S) (hL : LF st) : xs_K G base (d + 4) M_X7_seek [.ref 72] st (fun v u => v = some (.int (F_X7_seek st).1) ∧ u = (F_X7_seek st).2) := by
  refine xs_intro ok_X7_seek [(0, .ref 72)] rfl rfl ?_
  refine xr_blk gd_X7_seek 5 (c' := (7, [(0, .ref 72), (1, .int 0)], [], xs_u st 72 14 0)) rfl ?_
  refine xs_cons (cl_X7_seek_7 d 16 0 (xs_u st 72 14 0) ⟨⟨by decide, by decide, by decide⟩, LF_u (by decide) hL⟩) (fun v u hq => ?_)
  rw [F_X7_seek]; exact hq
def F_X7_half (st : xs_S) (sum : Int32) : Int32 := (if (2 * (sum / 2)) ≤ sum then (sum / 2)
    else ((sum / 2) - 1))
set_option maxRecDepth 20000 in
theorem c_X7_half {G : xs_G} {base : Nat} (d : Nat) (st : xs_S) (sum : Int32) : xs_K G base (d + 0) M_X7_half [.int sum] st (fun v u => v = some (.int (F_X7_half st sum)) ∧ u = st) := by
  refine xs_intro ok_X7_half [(0, .int sum)] rfl rfl ?_
  refine xr_blk gd_X7_half 2 (c' := (2, [(0, .int sum)], [.int 2, .int sum], st)) rfl ?_
  refine xr_idiv gd_X7_half.1 rfl (by decide) ?_
  refine xr_blk gd_X7_half 5 (c' := (8, [(0, .int sum), (1, .int (sum / 2))], [.int sum, .int (2 * (sum / 2))], st)) rfl ?_
  refine xr_br gd_X7_half rfl rfl (fun h1 => ?_) (fun h1 => ?_)
  · refine xr_blk gd_X7_half 1 (c' := (18, [(0, .int sum), (1, .int (sum / 2))], [.int (sum / 2)], st)) rfl ?_
    exact xr_iret gd_X7_half rfl rfl ⟨by first | (rw [F_X7_half, if_pos h1]; done) | (rw [F_X7_half, if_pos h1]; rfl), rfl⟩
  · refine xr_blk gd_X7_half 4 (c' := (18, [(0, .int sum), (1, .int (sum / 2))], [.int ((sum / 2) - 1)], st)) rfl ?_
    exact xr_iret gd_X7_half rfl rfl ⟨by first | (rw [F_X7_half, if_neg h1]; done) | (rw [F_X7_half, if_neg h1]; rfl), rfl⟩
def F_X7_hour (st : xs_S) : Int32 := (F_X7_half st ((st 72 15) + (st 72 16)))
set_option maxRecDepth 20000 in
theorem c_X7_hour {G : xs_G} {base : Nat} (d : Nat) (st : xs_S) : xs_K G base (d + 1) M_X7_hour [.ref 72] st (fun v u => v = some (.int (F_X7_hour st)) ∧ u = st) := by
  refine xs_intro ok_X7_hour [(0, .ref 72)] rfl rfl ?_
  refine xr_blk gd_X7_hour 5 (c' := (9, [(0, .ref 72)], [.int ((st 72 15) + (st 72 16))], st)) rfl ?_
  refine xr_callS gd_X7_hour gd_X7_half k_X7_88 rfl (c_X7_half (d + 0) st ((st 72 15) + (st 72 16))) (by omega) rfl rfl rfl ?_
  refine xs_fun ?_
  exact xr_iret gd_X7_hour rfl rfl ⟨by first | (rw [F_X7_hour]; done) | (rw [F_X7_hour]; rfl), rfl⟩
def F_X7_comes (st : xs_S) : Int32 × xs_S := (if (st 73 3) = 15 then ((-4), st)
    else (st 73 3, xs_u st 73 3 ((st 73 3) + 1)))
set_option maxRecDepth 20000 in
theorem c_X7_comes {G : xs_G} {base : Nat} (d : Nat) (st : xs_S) : xs_K G base (d + 0) M_X7_comes [.ref 72] st (fun v u => v = some (.int (F_X7_comes st).1) ∧ u = (F_X7_comes st).2) := by
  refine xs_intro ok_X7_comes [(0, .ref 72)] rfl rfl ?_
  refine xr_blk gd_X7_comes 3 (c' := (5, [(0, .ref 72)], [.int 3, .ref 73], st)) rfl ?_
  refine xr_iald gd_X7_comes rfl rfl (3) (by decide) (by decide) ?_
  refine xr_blk gd_X7_comes 3 (c' := (10, [(0, .ref 72), (1, .int (st 73 3))], [.int 15, .int (st 73 3)], st)) rfl ?_
  refine xr_br gd_X7_comes rfl rfl (fun h1 => ?_) (fun h1 => ?_)
  · refine xr_blk gd_X7_comes 4 (c' := (22, [(0, .ref 72), (1, .int (st 73 3))], [.int 3, .ref 73, .int 3, .ref 73], st)) rfl ?_
    refine xr_iald gd_X7_comes rfl rfl (3) (by decide) (by decide) ?_
    refine xr_blk gd_X7_comes 2 (c' := (25, [(0, .ref 72), (1, .int (st 73 3))], [.int ((st 73 3) + 1), .int 3, .ref 73], st)) rfl ?_
    refine xr_iast gd_X7_comes rfl rfl (3) (by decide) (by decide) ?_
    refine xr_blk gd_X7_comes 1 (c' := (27, [(0, .ref 72), (1, .int (st 73 3))], [.int (st 73 3)], xs_u st 73 3 ((st 73 3) + 1))) rfl ?_
    exact xr_iret gd_X7_comes rfl rfl ⟨by first | (rw [F_X7_comes, if_neg h1]; done) | (rw [F_X7_comes, if_neg h1]; rfl), by first | (rw [F_X7_comes, if_neg h1]; done) | (rw [F_X7_comes, if_neg h1]; rfl)⟩
  · refine xr_blk gd_X7_comes 1 (c' := (15, [(0, .ref 72), (1, .int (st 73 3))], [.int (-4)], st)) rfl ?_
    exact xr_iret gd_X7_comes rfl rfl ⟨by first | (rw [F_X7_comes, if_pos h1]; done) | (rw [F_X7_comes, if_pos h1]; rfl), by first | (rw [F_X7_comes, if_pos h1]; done) | (rw [F_X7_comes, if_pos h1]; rfl)⟩
def F_X7_reads (st : xs_S) (dial : Int32) (time : Int32) (doubt : Int32) : Int32 × xs_S := (if (F_X7_isDial st dial) = 0 then ((-1), st)
    else (if (F_X7_in st time.toInt64 0 9999) = 0 then ((-2), st)
      else (if (F_X7_in st doubt.toInt64 0 300) = 0 then ((-2), st)
        else (if (F_X7_its st dial 6) = 1 then ((-5), st)
          else (if (F_X7_its st dial 0) = 1 then (((st 73 2) - (F_X7_its st dial 3)), (F_X7_lay (F_X7_lay (F_X7_lay (F_X7_lay st dial 0 1) dial 1 time) dial 2 doubt) dial 3 ((F_X7_lay (F_X7_lay (F_X7_lay st dial 0 1) dial 1 time) dial 2 doubt) 73 2)))
            else ((-6), (F_X7_lay (F_X7_lay (F_X7_lay (F_X7_lay st dial 0 1) dial 1 time) dial 2 doubt) dial 3 ((F_X7_lay (F_X7_lay (F_X7_lay st dial 0 1) dial 1 time) dial 2 doubt) 73 2))))))))
set_option maxRecDepth 20000 in
theorem c_X7_reads {G : xs_G} {base : Nat} (d : Nat) (st : xs_S) (dial : Int32) (time : Int32) (doubt : Int32) (hD : 0 ≤ (st 73 3).toInt ∧ (st 73 3).toInt ≤ 15) : xs_K G base (d + 2) M_X7_reads [.ref 72, .int dial, .int time, .int doubt] st (fun v u => v = some (.int (F_X7_reads st dial time doubt).1) ∧ u = (F_X7_reads st dial time doubt).2) := by
  refine xs_intro ok_X7_reads [(0, .ref 72), (1, .int dial), (2, .int time), (3, .int doubt)] rfl rfl ?_
  refine xr_blk gd_X7_reads 2 (c' := (2, [(0, .ref 72), (1, .int dial), (2, .int time), (3, .int doubt)], [.int dial, .ref 72], st)) rfl ?_
  refine xr_callV gd_X7_reads gd_X7_isDial k_X7_91 rfl (c_X7_isDial (d + 0) st dial) (by omega) rfl rfl rfl rfl rfl ?_
  refine xs_fun ?_
  refine xr_br gd_X7_reads rfl rfl (fun h1 => ?_) (fun h1 => ?_)
  · have hd : 0 ≤ dial.toInt ∧ dial.toInt < 15 := isDial_in hD h1
    refine xr_blk gd_X7_reads 4 (c' := (16, [(0, .ref 72), (1, .int dial), (2, .int time), (3, .int doubt)], [.int 9999, .int 0, .long time.toInt64], st)) rfl ?_
    refine xr_callS gd_X7_reads gd_X7_in k_X7_41 rfl (c_X7_in (d + 1) st time.toInt64 0 9999) (by omega) rfl rfl rfl ?_
    refine xs_fun ?_
    refine xr_br gd_X7_reads rfl rfl (fun h2 => ?_) (fun h2 => ?_)
    · refine xr_blk gd_X7_reads 1 (c' := (36, [(0, .ref 72), (1, .int dial), (2, .int time), (3, .int doubt)], [.int (-2)], st)) rfl ?_
      exact xr_iret gd_X7_reads rfl rfl ⟨by first | (rw [F_X7_reads, if_neg h1, if_pos h2]; done) | (rw [F_X7_reads, if_neg h1, if_pos h2]; rfl), by first | (rw [F_X7_reads, if_neg h1, if_pos h2]; done) | (rw [F_X7_reads, if_neg h1, if_pos h2]; rfl)⟩
    · refine xr_blk gd_X7_reads 4 (c' := (28, [(0, .ref 72), (1, .int dial), (2, .int time), (3, .int doubt)], [.int 300, .int 0, .long doubt.toInt64], st)) rfl ?_
      refine xr_callS gd_X7_reads gd_X7_in k_X7_41 rfl (c_X7_in (d + 1) st doubt.toInt64 0 300) (by omega) rfl rfl rfl ?_
      refine xs_fun ?_
      refine xr_br gd_X7_reads rfl rfl (fun h3 => ?_) (fun h3 => ?_)
      · refine xr_blk gd_X7_reads 3 (c' := (41, [(0, .ref 72), (1, .int dial), (2, .int time), (3, .int doubt)], [.int 6, .int dial, .ref 72], st)) rfl ?_
        refine xr_callV gd_X7_reads gd_X7_its k_X7_59 rfl (c_X7_its (d + 1) st dial 6 (xm_its hd (by decide))) (by omega) rfl rfl rfl rfl rfl ?_
        refine xs_fun ?_
        refine xr_blk gd_X7_reads 1 (c' := (45, [(0, .ref 72), (1, .int dial), (2, .int time), (3, .int doubt)], [.int 1, .int (F_X7_its st dial 6)], st)) rfl ?_
        refine xr_br gd_X7_reads rfl rfl (fun h4 => ?_) (fun h4 => ?_)
        · refine xr_blk gd_X7_reads 3 (c' := (54, [(0, .ref 72), (1, .int dial), (2, .int time), (3, .int doubt)], [.int 0, .int dial, .ref 72], st)) rfl ?_
          refine xr_callV gd_X7_reads gd_X7_its k_X7_59 rfl (c_X7_its (d + 1) st dial 0 (xm_its hd (by decide))) (by omega) rfl rfl rfl rfl rfl ?_
          refine xs_fun ?_
          refine xr_blk gd_X7_reads 1 (c' := (58, [(0, .ref 72), (1, .int dial), (2, .int time), (3, .int doubt)], [.int 1, .int (F_X7_its st dial 0)], st)) rfl ?_
          refine xr_br gd_X7_reads rfl rfl (fun h5 => ?_) (fun h5 => ?_)
          · refine xr_blk gd_X7_reads 6 (c' := (85, [(0, .ref 72), (1, .int dial), (2, .int time), (3, .int doubt), (4, .int (-6))], [.int 1, .int 0, .int dial, .ref 72], st)) rfl ?_
            refine xr_callV gd_X7_reads gd_X7_lay k_X7_94 rfl (c_X7_lay (d + 1) st dial 0 1 (xm_its hd (by decide))) (by omega) rfl rfl rfl rfl rfl ?_
            refine xs_fun ?_
            refine xr_blk gd_X7_reads 4 (c' := (92, [(0, .ref 72), (1, .int dial), (2, .int time), (3, .int doubt), (4, .int (-6))], [.int time, .int 1, .int dial, .ref 72], (F_X7_lay st dial 0 1))) rfl ?_
            refine xr_callV gd_X7_reads gd_X7_lay k_X7_94 rfl (c_X7_lay (d + 1) (F_X7_lay st dial 0 1) dial 1 time (xm_its hd (by decide))) (by omega) rfl rfl rfl rfl rfl ?_
            refine xs_fun ?_
            refine xr_blk gd_X7_reads 4 (c' := (99, [(0, .ref 72), (1, .int dial), (2, .int time), (3, .int doubt), (4, .int (-6))], [.int doubt, .int 2, .int dial, .ref 72], (F_X7_lay (F_X7_lay st dial 0 1) dial 1 time))) rfl ?_
            refine xr_callV gd_X7_reads gd_X7_lay k_X7_94 rfl (c_X7_lay (d + 1) (F_X7_lay (F_X7_lay st dial 0 1) dial 1 time) dial 2 doubt (xm_its hd (by decide))) (by omega) rfl rfl rfl rfl rfl ?_
            refine xs_fun ?_
            refine xr_blk gd_X7_reads 6 (c' := (110, [(0, .ref 72), (1, .int dial), (2, .int time), (3, .int doubt), (4, .int (-6))], [.int 2, .ref 73, .int 3, .int dial, .ref 72], (F_X7_lay (F_X7_lay (F_X7_lay st dial 0 1) dial 1 time) dial 2 doubt))) rfl ?_
            refine xr_iald gd_X7_reads rfl rfl (2) (by decide) (by decide) ?_
            refine xr_callV gd_X7_reads gd_X7_lay k_X7_94 rfl (c_X7_lay (d + 1) (F_X7_lay (F_X7_lay (F_X7_lay st dial 0 1) dial 1 time) dial 2 doubt) dial 3 ((F_X7_lay (F_X7_lay (F_X7_lay st dial 0 1) dial 1 time) dial 2 doubt) 73 2) (xm_its hd (by decide))) (by omega) rfl rfl rfl rfl rfl ?_
            refine xs_fun ?_
            refine xr_blk gd_X7_reads 1 (c' := (116, [(0, .ref 72), (1, .int dial), (2, .int time), (3, .int doubt), (4, .int (-6))], [.int (-6)], (F_X7_lay (F_X7_lay (F_X7_lay (F_X7_lay st dial 0 1) dial 1 time) dial 2 doubt) dial 3 ((F_X7_lay (F_X7_lay (F_X7_lay st dial 0 1) dial 1 time) dial 2 doubt) 73 2)))) rfl ?_
            exact xr_iret gd_X7_reads rfl rfl ⟨by first | (rw [F_X7_reads, if_neg h1, if_neg h2, if_neg h3, if_neg h4, if_neg h5]; done) | (rw [F_X7_reads, if_neg h1, if_neg h2, if_neg h3, if_neg h4, if_neg h5]; rfl), by first | (rw [F_X7_reads, if_neg h1, if_neg h2, if_neg h3, if_neg h4, if_neg h5]; done) | (rw [F_X7_reads, if_neg h1, if_neg h2, if_neg h3, if_neg h4, if_neg h5]; rfl)⟩
          · refine xr_blk gd_X7_reads 3 (c' := (66, [(0, .ref 72), (1, .int dial), (2, .int time), (3, .int doubt)], [.int 2, .ref 73], st)) rfl ?_
            refine xr_iald gd_X7_reads rfl rfl (2) (by decide) (by decide) ?_
            refine xr_blk gd_X7_reads 3 (c' := (70, [(0, .ref 72), (1, .int dial), (2, .int time), (3, .int doubt)], [.int 3, .int dial, .ref 72, .int (st 73 2)], st)) rfl ?_
            refine xr_callV gd_X7_reads gd_X7_its k_X7_59 rfl (c_X7_its (d + 1) st dial 3 (xm_its hd (by decide))) (by omega) rfl rfl rfl rfl rfl ?_
            refine xs_fun ?_
            refine xr_blk gd_X7_reads 7 (c' := (85, [(0, .ref 72), (1, .int dial), (2, .int time), (3, .int doubt), (4, .int ((st 73 2) - (F_X7_its st dial 3)))], [.int 1, .int 0, .int dial, .ref 72], st)) rfl ?_
            refine xr_callV gd_X7_reads gd_X7_lay k_X7_94 rfl (c_X7_lay (d + 1) st dial 0 1 (xm_its hd (by decide))) (by omega) rfl rfl rfl rfl rfl ?_
            refine xs_fun ?_
            refine xr_blk gd_X7_reads 4 (c' := (92, [(0, .ref 72), (1, .int dial), (2, .int time), (3, .int doubt), (4, .int ((st 73 2) - (F_X7_its st dial 3)))], [.int time, .int 1, .int dial, .ref 72], (F_X7_lay st dial 0 1))) rfl ?_
            refine xr_callV gd_X7_reads gd_X7_lay k_X7_94 rfl (c_X7_lay (d + 1) (F_X7_lay st dial 0 1) dial 1 time (xm_its hd (by decide))) (by omega) rfl rfl rfl rfl rfl ?_
            refine xs_fun ?_
            refine xr_blk gd_X7_reads 4 (c' := (99, [(0, .ref 72), (1, .int dial), (2, .int time), (3, .int doubt), (4, .int ((st 73 2) - (F_X7_its st dial 3)))], [.int doubt, .int 2, .int dial, .ref 72], (F_X7_lay (F_X7_lay st dial 0 1) dial 1 time))) rfl ?_
            refine xr_callV gd_X7_reads gd_X7_lay k_X7_94 rfl (c_X7_lay (d + 1) (F_X7_lay (F_X7_lay st dial 0 1) dial 1 time) dial 2 doubt (xm_its hd (by decide))) (by omega) rfl rfl rfl rfl rfl ?_
            refine xs_fun ?_
            refine xr_blk gd_X7_reads 6 (c' := (110, [(0, .ref 72), (1, .int dial), (2, .int time), (3, .int doubt), (4, .int ((st 73 2) - (F_X7_its st dial 3)))], [.int 2, .ref 73, .int 3, .int dial, .ref 72], (F_X7_lay (F_X7_lay (F_X7_lay st dial 0 1) dial 1 time) dial 2 doubt))) rfl ?_
            refine xr_iald gd_X7_reads rfl rfl (2) (by decide) (by decide) ?_
            refine xr_callV gd_X7_reads gd_X7_lay k_X7_94 rfl (c_X7_lay (d + 1) (F_X7_lay (F_X7_lay (F_X7_lay st dial 0 1) dial 1 time) dial 2 doubt) dial 3 ((F_X7_lay (F_X7_lay (F_X7_lay st dial 0 1) dial 1 time) dial 2 doubt) 73 2) (xm_its hd (by decide))) (by omega) rfl rfl rfl rfl rfl ?_
            refine xs_fun ?_
            refine xr_blk gd_X7_reads 1 (c' := (116, [(0, .ref 72), (1, .int dial), (2, .int time), (3, .int doubt), (4, .int ((st 73 2) - (F_X7_its st dial 3)))], [.int ((st 73 2) - (F_X7_its st dial 3))], (F_X7_lay (F_X7_lay (F_X7_lay (F_X7_lay st dial 0 1) dial 1 time) dial 2 doubt) dial 3 ((F_X7_lay (F_X7_lay (F_X7_lay st dial 0 1) dial 1 time) dial 2 doubt) 73 2)))) rfl ?_
            exact xr_iret gd_X7_reads rfl rfl ⟨by first | (rw [F_X7_reads, if_neg h1, if_neg h2, if_neg h3, if_neg h4, if_pos h5]; done) | (rw [F_X7_reads, if_neg h1, if_neg h2, if_neg h3, if_neg h4, if_pos h5]; rfl), by first | (rw [F_X7_reads, if_neg h1, if_neg h2, if_neg h3, if_neg h4, if_pos h5]; done) | (rw [F_X7_reads, if_neg h1, if_neg h2, if_neg h3, if_neg h4, if_pos h5]; rfl)⟩
        · refine xr_blk gd_X7_reads 1 (c' := (50, [(0, .ref 72), (1, .int dial), (2, .int time), (3, .int doubt)], [.int (-5)], st)) rfl ?_
          exact xr_iret gd_X7_reads rfl rfl ⟨by first | (rw [F_X7_reads, if_neg h1, if_neg h2, if_neg h3, if_pos h4]; done) | (rw [F_X7_reads, if_neg h1, if_neg h2, if_neg h3, if_pos h4]; rfl), by first | (rw [F_X7_reads, if_neg h1, if_neg h2, if_neg h3, if_pos h4]; done) | (rw [F_X7_reads, if_neg h1, if_neg h2, if_neg h3, if_pos h4]; rfl)⟩
      · refine xr_blk gd_X7_reads 1 (c' := (36, [(0, .ref 72), (1, .int dial), (2, .int time), (3, .int doubt)], [.int (-2)], st)) rfl ?_
        exact xr_iret gd_X7_reads rfl rfl ⟨by first | (rw [F_X7_reads, if_neg h1, if_neg h2, if_pos h3]; done) | (rw [F_X7_reads, if_neg h1, if_neg h2, if_pos h3]; rfl), by first | (rw [F_X7_reads, if_neg h1, if_neg h2, if_pos h3]; done) | (rw [F_X7_reads, if_neg h1, if_neg h2, if_pos h3]; rfl)⟩
  · refine xr_blk gd_X7_reads 1 (c' := (9, [(0, .ref 72), (1, .int dial), (2, .int time), (3, .int doubt)], [.int (-1)], st)) rfl ?_
    exact xr_iret gd_X7_reads rfl rfl ⟨by first | (rw [F_X7_reads, if_pos h1]; done) | (rw [F_X7_reads, if_pos h1]; rfl), by first | (rw [F_X7_reads, if_pos h1]; done) | (rw [F_X7_reads, if_pos h1]; rfl)⟩
def F_X7_waits (st : xs_S) (minutes : Int32) : Int32 × xs_S := (if (F_X7_in st minutes.toInt64 1 1440) = 0 then ((-2), st)
    else (if ((st 73 2) + minutes) ≤ 99999 then (((st 73 2) + minutes), xs_u st 73 2 ((st 73 2) + minutes))
      else ((-5), st)))
set_option maxRecDepth 20000 in
theorem c_X7_waits {G : xs_G} {base : Nat} (d : Nat) (st : xs_S) (minutes : Int32) : xs_K G base (d + 1) M_X7_waits [.ref 72, .int minutes] st (fun v u => v = some (.int (F_X7_waits st minutes).1) ∧ u = (F_X7_waits st minutes).2) := by
  refine xs_intro ok_X7_waits [(0, .ref 72), (1, .int minutes)] rfl rfl ?_
  refine xr_blk gd_X7_waits 4 (c' := (6, [(0, .ref 72), (1, .int minutes)], [.int 1440, .int 1, .long minutes.toInt64], st)) rfl ?_
  refine xr_callS gd_X7_waits gd_X7_in k_X7_41 rfl (c_X7_in (d + 0) st minutes.toInt64 1 1440) (by omega) rfl rfl rfl ?_
  refine xs_fun ?_
  refine xr_br gd_X7_waits rfl rfl (fun h1 => ?_) (fun h1 => ?_)
  · refine xr_blk gd_X7_waits 3 (c' := (20, [(0, .ref 72), (1, .int minutes)], [.int 2, .ref 73], st)) rfl ?_
    refine xr_iald gd_X7_waits rfl rfl (2) (by decide) (by decide) ?_
    refine xr_blk gd_X7_waits 3 (c' := (25, [(0, .ref 72), (1, .int minutes)], [.int 99999, .int ((st 73 2) + minutes)], st)) rfl ?_
    refine xr_br gd_X7_waits rfl rfl (fun h2 => ?_) (fun h2 => ?_)
    · refine xr_blk gd_X7_waits 4 (c' := (37, [(0, .ref 72), (1, .int minutes)], [.int 2, .ref 73, .int 2, .ref 73], st)) rfl ?_
      refine xr_iald gd_X7_waits rfl rfl (2) (by decide) (by decide) ?_
      refine xr_blk gd_X7_waits 2 (c' := (40, [(0, .ref 72), (1, .int minutes)], [.int ((st 73 2) + minutes), .int 2, .ref 73], st)) rfl ?_
      refine xr_iast gd_X7_waits rfl rfl (2) (by decide) (by decide) ?_
      refine xr_blk gd_X7_waits 3 (c' := (46, [(0, .ref 72), (1, .int minutes)], [.int 2, .ref 73], xs_u st 73 2 ((st 73 2) + minutes))) rfl ?_
      refine xr_iald gd_X7_waits rfl rfl (2) (by decide) (by decide) ?_
      exact xr_iret gd_X7_waits rfl rfl ⟨by first | (rw [F_X7_waits, if_neg h1, if_pos h2]; done) | (rw [F_X7_waits, if_neg h1, if_pos h2]; rfl), by first | (rw [F_X7_waits, if_neg h1, if_pos h2]; done) | (rw [F_X7_waits, if_neg h1, if_pos h2]; rfl)⟩
    · refine xr_blk gd_X7_waits 1 (c' := (30, [(0, .ref 72), (1, .int minutes)], [.int (-5)], st)) rfl ?_
      exact xr_iret gd_X7_waits rfl rfl ⟨by first | (rw [F_X7_waits, if_neg h1, if_neg h2]; done) | (rw [F_X7_waits, if_neg h1, if_neg h2]; rfl), by first | (rw [F_X7_waits, if_neg h1, if_neg h2]; done) | (rw [F_X7_waits, if_neg h1, if_neg h2]; rfl)⟩
  · refine xr_blk gd_X7_waits 1 (c' := (14, [(0, .ref 72), (1, .int minutes)], [.int (-2)], st)) rfl ?_
    exact xr_iret gd_X7_waits rfl rfl ⟨by first | (rw [F_X7_waits, if_pos h1]; done) | (rw [F_X7_waits, if_pos h1]; rfl), by first | (rw [F_X7_waits, if_pos h1]; done) | (rw [F_X7_waits, if_pos h1]; rfl)⟩
