/-- at goes on, within the text; the length stays -/
def AT (s u : xs_S) : Prop := u 72 7 = s 72 7 ∧ (s 72 8).toInt ≤ (u 72 8).toInt ∧ ((u 72 8).toInt ≤ (s 72 8).toInt ∨ (u 72 8).toInt ≤ (s 72 7).toInt)
theorem at_r {s : xs_S} : AT s s := ⟨rfl, Int.le_refl _, Or.inl (Int.le_refl _)⟩
theorem at_e {s u : xs_S} (h7 : u 72 7 = s 72 7) (h8 : u 72 8 = s 72 8) : AT s u := ⟨h7, by rw [h8]; exact Int.le_refl _, Or.inl (by rw [h8]; exact Int.le_refl _)⟩
theorem at_t {s u w : xs_S} (h1 : AT s u) (h2 : AT u w) : AT s w := by
  obtain ⟨a1, a2, a3⟩ := h1
  obtain ⟨b1, b2, b3⟩ := h2
  rw [a1] at b3
  refine ⟨by rw [b1, a1], by omega, by omega⟩
theorem at_pm {s u : xs_S} (h : AT s u) (hp : PM s) : PM u := by
  obtain ⟨a1, a2, a3⟩ := h
  obtain ⟨⟨b1, b2⟩, b3, b4⟩ := hp
  unfold PM
  rw [a1]
  omega
theorem at_inc {s : xs_S} (hp : PM s) (h1 : s 72 8 < s 72 7) : AT s (xs_u s 72 8 (s 72 8 + 1)) := by
  obtain ⟨⟨b1, b2⟩, b3, b4⟩ := hp
  rw [xi_lt] at h1
  refine ⟨xs_rd_i (by decide), ?_, ?_⟩
  · rw [xs_rd_s, xi_inc (by omega)]
    omega
  · rw [xs_rd_s, xi_inc (by omega)]
    omega
def F_X7_takes (st : xs_S) (code : Int32) : Int32 × xs_S := (if (F_X7_sees st code code) = 0 then ((F_X7_sees st code code), xs_u st 72 8 ((st 72 8) + 0))
    else ((F_X7_sees st code code), xs_u st 72 8 ((st 72 8) + 1)))
set_option maxRecDepth 20000 in
theorem c_X7_takes {G : xs_G} {base : Nat} (d : Nat) (st : xs_S) (code : Int32) (hq : PM st) : xs_K G base (d + 2) M_X7_takes [.ref 72, .int code] st (fun v u => v = some (.int (F_X7_takes st code).1) ∧ u = (F_X7_takes st code).2) := by
  refine xs_intro ok_X7_takes [(0, .ref 72), (1, .int code)] rfl rfl ?_
  refine xr_blk gd_X7_takes 3 (c' := (3, [(0, .ref 72), (1, .int code)], [.int code, .int code, .ref 72], st)) rfl ?_
  refine xr_callV gd_X7_takes gd_X7_sees k_X7_164 rfl (c_X7_sees (d + 0) st code code hq) (by omega) rfl rfl rfl rfl rfl ?_
  refine xs_fun ?_
  refine xr_blk gd_X7_takes 5 (c' := (13, [(0, .ref 72), (1, .int code), (2, .int (F_X7_sees st code code))], [.int (F_X7_sees st code code), .int (st 72 8), .ref 72], st)) rfl ?_
  refine xr_br gd_X7_takes rfl rfl (fun h1 => ?_) (fun h1 => ?_)
  · refine xr_blk gd_X7_takes 4 (c' := (26, [(0, .ref 72), (1, .int code), (2, .int (F_X7_sees st code code))], [.int (F_X7_sees st code code)], xs_u st 72 8 ((st 72 8) + 0))) rfl ?_
    exact xr_zret gd_X7_takes rfl rfl (xz_01 sees_01) ⟨by first | (rw [F_X7_takes, if_pos h1]; done) | (rw [F_X7_takes, if_pos h1]; rfl), by first | (rw [F_X7_takes, if_pos h1]; done) | (rw [F_X7_takes, if_pos h1]; rfl)⟩
  · refine xr_blk gd_X7_takes 5 (c' := (26, [(0, .ref 72), (1, .int code), (2, .int (F_X7_sees st code code))], [.int (F_X7_sees st code code)], xs_u st 72 8 ((st 72 8) + 1))) rfl ?_
    exact xr_zret gd_X7_takes rfl rfl (xz_01 sees_01) ⟨by first | (rw [F_X7_takes, if_neg h1]; done) | (rw [F_X7_takes, if_neg h1]; rfl), by first | (rw [F_X7_takes, if_neg h1]; done) | (rw [F_X7_takes, if_neg h1]; rfl)⟩
theorem tk_at {st : xs_S} {c : Int32} (hp : PM st) : AT st (F_X7_takes st c).2 := by
  unfold F_X7_takes
  split
  · refine at_e (by dsimp only; rw [xs_rd_i (by decide)]) ?_
    dsimp only
    rw [xs_rd_s]
    apply xi_eq.mpr
    rw [xi_add (by rw [xi_0]; have h := xi_b (st 72 8); omega), xi_0]
    omega
  · rename_i h
    exact at_inc hp (sees_l h)
theorem pm_t {st : xs_S} {c : Int32} (hp : PM st) : PM (F_X7_takes st c).2 := at_pm (tk_at hp) hp
theorem tk_1 {st : xs_S} {c : Int32} (hp : PM st) (h : ¬ (F_X7_takes st c).1 = 0) : st 72 8 < st 72 7 ∧ ((F_X7_takes st c).2 72 8).toInt = (st 72 8).toInt + 1 := by
  have e : (F_X7_takes st c).1 = F_X7_sees st c c := by
    unfold F_X7_takes
    split <;> rfl
  rw [e] at h
  have h1 := sees_l h
  refine ⟨h1, ?_⟩
  unfold F_X7_takes
  rw [if_neg h]
  dsimp only
  obtain ⟨⟨b1, b2⟩, b3, b4⟩ := hp
  rw [xi_lt] at h1
  rw [xs_rd_s, xi_inc (by omega)]
theorem nu_e {st : xs_S} (hp : PM st) (h1 : st 72 8 < st 72 7) : PM (xs_u st 72 8 (st 72 8 + 1)) ∧ (xs_u st 72 8 (st 72 8 + 1) 72 8).toInt ≤ (xs_u st 72 8 (st 72 8 + 1) 72 7).toInt ∧ (xs_u st 72 8 (st 72 8 + 1) 72 7).toInt < (xs_u st 72 8 (st 72 8 + 1) 72 8).toInt + ((82 : Nat) : Int) := by
  refine ⟨pm_inc hp h1, ?_⟩
  obtain ⟨⟨b1, b2⟩, b3, b4⟩ := hp
  rw [xi_lt] at h1
  rw [xs_rd_s, xs_rd_i (by decide), xi_inc (by omega)]
  omega
theorem nu_b {st : xs_S} {n : Nat} (h : PM st ∧ (st 72 8).toInt ≤ (st 72 7).toInt ∧ (st 72 7).toInt < (st 72 8).toInt + ((n + 1 : Nat) : Int)) (h1 : st 72 8 < st 72 7) : PM (xs_u st 72 8 (st 72 8 + 1)) ∧ (xs_u st 72 8 (st 72 8 + 1) 72 8).toInt ≤ (xs_u st 72 8 (st 72 8 + 1) 72 7).toInt ∧ (xs_u st 72 8 (st 72 8 + 1) 72 7).toInt < (xs_u st 72 8 (st 72 8 + 1) 72 8).toInt + (n : Int) := by
  refine ⟨pm_inc h.1 h1, ?_⟩
  obtain ⟨⟨⟨b1, b2⟩, b3, b4⟩, h2, h3⟩ := h
  rw [xi_lt] at h1
  rw [xs_rd_s, xs_rd_i (by decide), xi_inc (by omega)]
  omega
def lp_X7_number_36 (place : Int32) : Nat → Int32 → xs_S → Int32 × xs_S
  | 0, _, st => (0, st)
  | n + 1, x2, st => (if x2 ≤ 0 then (1, xs_u st 80 place.toInt.toNat x2)
    else (if (F_X7_sees st 48 57) = 0 then (1, xs_u st 80 place.toInt.toNat x2)
      else (if 9999 < (((10 * x2) + (st 78 ((st 72 8).toInt.toNat))) - 48) then (1, xs_u st 80 place.toInt.toNat x2)
        else lp_X7_number_36 place n (((10 * x2) + (st 78 ((st 72 8).toInt.toNat))) - 48) (xs_u st 72 8 ((st 72 8) + 1)))))
set_option maxRecDepth 20000 in
theorem cl_X7_number_36 {G : xs_G} {base : Nat} (d : Nat) (place : Int32) (hpl : 0 ≤ place.toInt ∧ place.toInt < 3) : ∀ (n : Nat) (x2 : Int32) (st : xs_S), PM st ∧ (st 72 8).toInt ≤ (st 72 7).toInt ∧ (st 72 7).toInt < (st 72 8).toInt + (n : Int) → xs_R G base (d + 2) M_X7_number (36, [(0, .ref 72), (1, .int place), (2, .int x2)], [], st) (fun v u => v = some (.int (lp_X7_number_36 place n x2 st).1) ∧ u = (lp_X7_number_36 place n x2 st).2) := by
  intro n
  induction n with
  | zero =>
    intro x2 st hinv
    exfalso
    omega
  | succ n ih =>
    intro x2 st hinv
    refine xr_blk gd_X7_number 1 (c' := (37, [(0, .ref 72), (1, .int place), (2, .int x2)], [.int x2], st)) rfl ?_
    refine xr_br gd_X7_number rfl rfl (fun h1 => ?_) (fun h1 => ?_)
    · refine xr_blk gd_X7_number 4 (c' := (111, [(0, .ref 72), (1, .int place), (2, .int x2)], [.int x2, .int place, .ref 80], st)) rfl ?_
      refine xr_iast gd_X7_number rfl rfl (place.toInt.toNat) (xs_h1 (n := 3) hpl) (xs_h2 (n := 3) hpl) ?_
      refine xr_blk gd_X7_number 1 (c' := (113, [(0, .ref 72), (1, .int place), (2, .int x2)], [.int 1], xs_u st 80 place.toInt.toNat x2)) rfl ?_
      exact xr_zret gd_X7_number rfl rfl rfl ⟨by first | (rw [lp_X7_number_36, if_pos h1]; done) | (rw [lp_X7_number_36, if_pos h1]; rfl), by first | (rw [lp_X7_number_36, if_pos h1]; done) | (rw [lp_X7_number_36, if_pos h1]; rfl)⟩
    · refine xr_blk gd_X7_number 3 (c' := (45, [(0, .ref 72), (1, .int place), (2, .int x2)], [.int 57, .int 48, .ref 72], st)) rfl ?_
      refine xr_callV gd_X7_number gd_X7_sees k_X7_164 rfl (c_X7_sees (d + 0) st 48 57 hinv.1) (by omega) rfl rfl rfl rfl rfl ?_
      refine xs_fun ?_
      refine xr_br gd_X7_number rfl rfl (fun h2 => ?_) (fun h2 => ?_)
      · refine xr_blk gd_X7_number 4 (c' := (111, [(0, .ref 72), (1, .int place), (2, .int x2)], [.int x2, .int place, .ref 80], st)) rfl ?_
        refine xr_iast gd_X7_number rfl rfl (place.toInt.toNat) (xs_h1 (n := 3) hpl) (xs_h2 (n := 3) hpl) ?_
        refine xr_blk gd_X7_number 1 (c' := (113, [(0, .ref 72), (1, .int place), (2, .int x2)], [.int 1], xs_u st 80 place.toInt.toNat x2)) rfl ?_
        exact xr_zret gd_X7_number rfl rfl rfl ⟨by first | (rw [lp_X7_number_36, if_neg h1, if_pos h2]; done) | (rw [lp_X7_number_36, if_neg h1, if_pos h2]; rfl), by first | (rw [lp_X7_number_36, if_neg h1, if_pos h2]; done) | (rw [lp_X7_number_36, if_neg h1, if_pos h2]; rfl)⟩
      · refine xr_blk gd_X7_number 7 (c' := (63, [(0, .ref 72), (1, .int place), (2, .int x2)], [.int (st 72 8), .ref 78, .int (10 * x2)], st)) rfl ?_
        refine xr_iald gd_X7_number rfl rfl ((st 72 8).toInt.toNat) (xs_h1 (n := 80) (pm_j hinv.1 (sees_l (by assumption)))) (xs_h2 (n := 80) (pm_j hinv.1 (sees_l (by assumption)))) ?_
        refine xr_blk gd_X7_number 4 (c' := (71, [(0, .ref 72), (1, .int place), (2, .int x2)], [.int 9999, .int (((10 * x2) + (st 78 ((st 72 8).toInt.toNat))) - 48)], st)) rfl ?_
        refine xr_br gd_X7_number rfl rfl (fun h3 => ?_) (fun h3 => ?_)
        · refine xr_blk gd_X7_number 4 (c' := (111, [(0, .ref 72), (1, .int place), (2, .int x2)], [.int x2, .int place, .ref 80], st)) rfl ?_
          refine xr_iast gd_X7_number rfl rfl (place.toInt.toNat) (xs_h1 (n := 3) hpl) (xs_h2 (n := 3) hpl) ?_
          refine xr_blk gd_X7_number 1 (c' := (113, [(0, .ref 72), (1, .int place), (2, .int x2)], [.int 1], xs_u st 80 place.toInt.toNat x2)) rfl ?_
          exact xr_zret gd_X7_number rfl rfl rfl ⟨by first | (rw [lp_X7_number_36, if_neg h1, if_neg h2, if_pos h3]; done) | (rw [lp_X7_number_36, if_neg h1, if_neg h2, if_pos h3]; rfl), by first | (rw [lp_X7_number_36, if_neg h1, if_neg h2, if_pos h3]; done) | (rw [lp_X7_number_36, if_neg h1, if_neg h2, if_pos h3]; rfl)⟩
        · refine xr_blk gd_X7_number 7 (c' := (86, [(0, .ref 72), (1, .int place), (2, .int x2)], [.int (st 72 8), .ref 78, .int (10 * x2)], st)) rfl ?_
          refine xr_iald gd_X7_number rfl rfl ((st 72 8).toInt.toNat) (xs_h1 (n := 80) (pm_j hinv.1 (sees_l (by assumption)))) (xs_h2 (n := 80) (pm_j hinv.1 (sees_l (by assumption)))) ?_
          refine xr_blk gd_X7_number 11 (c' := (36, [(0, .ref 72), (1, .int place), (2, .int (((10 * x2) + (st 78 ((st 72 8).toInt.toNat))) - 48))], [], xs_u st 72 8 ((st 72 8) + 1))) rfl ?_
          refine xs_cons (ih (((10 * x2) + (st 78 ((st 72 8).toInt.toNat))) - 48) (xs_u st 72 8 ((st 72 8) + 1)) (nu_b hinv (sees_l (by assumption)))) (fun v u hq => ?_)
          rw [lp_X7_number_36, if_neg h1, if_neg h2, if_neg h3]; exact hq
def F_X7_number (st : xs_S) (place : Int32) : Int32 × xs_S := (if (F_X7_sees st 48 57) = 0 then (0, st)
    else lp_X7_number_36 place 82 ((st 78 ((st 72 8).toInt.toNat)) - 48) (xs_u st 72 8 ((st 72 8) + 1)))
set_option maxRecDepth 20000 in
theorem c_X7_number {G : xs_G} {base : Nat} (d : Nat) (st : xs_S) (place : Int32) (hpl : 0 ≤ place.toInt ∧ place.toInt < 3) (hq : PM st) : xs_K G base (d + 2) M_X7_number [.ref 72, .int place] st (fun v u => v = some (.int (F_X7_number st place).1) ∧ u = (F_X7_number st place).2) := by
  refine xs_intro ok_X7_number [(0, .ref 72), (1, .int place)] rfl rfl ?_
  refine xr_blk gd_X7_number 3 (c' := (5, [(0, .ref 72), (1, .int place)], [.int 57, .int 48, .ref 72], st)) rfl ?_
  refine xr_callV gd_X7_number gd_X7_sees k_X7_164 rfl (c_X7_sees (d + 0) st 48 57 hq) (by omega) rfl rfl rfl rfl rfl ?_
  refine xs_fun ?_
  refine xr_br gd_X7_number rfl rfl (fun h1 => ?_) (fun h1 => ?_)
  · refine xr_blk gd_X7_number 4 (c' := (21, [(0, .ref 72), (1, .int place)], [.int (st 72 8), .ref 78], st)) rfl ?_
    refine xr_iald gd_X7_number rfl rfl ((st 72 8).toInt.toNat) (xs_h1 (n := 80) (pm_j hq (sees_l (by assumption)))) (xs_h2 (n := 80) (pm_j hq (sees_l (by assumption)))) ?_
    refine xr_blk gd_X7_number 9 (c' := (36, [(0, .ref 72), (1, .int place), (2, .int ((st 78 ((st 72 8).toInt.toNat)) - 48))], [], xs_u st 72 8 ((st 72 8) + 1))) rfl ?_
    refine xs_cons (cl_X7_number_36 d place hpl 82 ((st 78 ((st 72 8).toInt.toNat)) - 48) (xs_u st 72 8 ((st 72 8) + 1)) (nu_e hq (sees_l (by assumption)))) (fun v u hq => ?_)
    rw [F_X7_number, if_neg h1]; exact hq
  · refine xr_blk gd_X7_number 1 (c' := (12, [(0, .ref 72), (1, .int place)], [.int 0], st)) rfl ?_
    exact xr_zret gd_X7_number rfl rfl rfl ⟨by first | (rw [F_X7_number, if_pos h1]; done) | (rw [F_X7_number, if_pos h1]; rfl), by first | (rw [F_X7_number, if_pos h1]; done) | (rw [F_X7_number, if_pos h1]; rfl)⟩
theorem nu_lat {p : Int32} : ∀ (n : Nat) (x : Int32) (s : xs_S), PM s → AT s (lp_X7_number_36 p n x s).2 := by
  intro n
  induction n with
  | zero => intro x s h; exact at_r
  | succ n ih =>
    intro x s h
    unfold lp_X7_number_36
    split
    · exact at_e (by dsimp only; rw [xs_rd_k (by decide)]) (by dsimp only; rw [xs_rd_k (by decide)])
    · split
      · exact at_e (by dsimp only; rw [xs_rd_k (by decide)]) (by dsimp only; rw [xs_rd_k (by decide)])
      · rename_i h2
        split
        · exact at_e (by dsimp only; rw [xs_rd_k (by decide)]) (by dsimp only; rw [xs_rd_k (by decide)])
        · have h3 := sees_l h2
          exact at_t (at_inc h h3) (ih _ _ (pm_inc h h3))
theorem nu_at {st : xs_S} {p : Int32} (hp : PM st) : AT st (F_X7_number st p).2 := by
  unfold F_X7_number
  split
  · exact at_r
  · rename_i h
    have h3 := sees_l h
    exact at_t (at_inc hp h3) (nu_lat _ _ _ (pm_inc hp h3))
theorem pm_n {st : xs_S} {c : Int32} (hp : PM st) : PM (F_X7_number st c).2 := at_pm (nu_at hp) hp
theorem nu_01 {st : xs_S} {p : Int32} : (F_X7_number st p).1 = 0 ∨ (F_X7_number st p).1 = 1 := by
  have key : ∀ (n : Nat) (x : Int32) (s : xs_S), (lp_X7_number_36 p n x s).1 = 0 ∨ (lp_X7_number_36 p n x s).1 = 1 := by
    intro n
    induction n with
    | zero => intro x s; exact Or.inl rfl
    | succ n ih =>
      intro x s
      unfold lp_X7_number_36
      repeat' split
      all_goals first | with_reducible exact ih _ _ | with_reducible exact Or.inr rfl
  unfold F_X7_number
  split
  · exact Or.inl rfl
  · exact key _ _ _
theorem tk_n {st : xs_S} {c : Int32} {k : Nat} (hk : k ≠ 72) : (F_X7_takes st c).2 k = st k := by
  unfold F_X7_takes
  split <;> (dsimp only; rw [xs_rd_k hk])
theorem nu_n {st : xs_S} {p : Int32} {k : Nat} (hk : k ≠ 72) (h8 : k ≠ 80) : (F_X7_number st p).2 k = st k := by
  have key : ∀ (n : Nat) (x : Int32) (s : xs_S), (lp_X7_number_36 p n x s).2 k = s k := by
    intro n
    induction n with
    | zero => intro x s; rfl
    | succ n ih =>
      intro x s
      unfold lp_X7_number_36
      repeat' split
      all_goals try dsimp only
      all_goals first | rw [xs_rd_k h8] | rw [ih, xs_rd_k hk]
  unfold F_X7_number
  split
  · rfl
  · rw [key, xs_rd_k hk]
theorem r73a {s : xs_S} {i : Nat} {v : Int32} : xs_u s 72 i v 73 = s 73 := xs_rd_k (by decide)
theorem r73b {s : xs_S} {i : Nat} {v : Int32} : xs_u s 80 i v 73 = s 73 := xs_rd_k (by decide)
theorem tk_73 {st : xs_S} {c : Int32} : (F_X7_takes st c).2 73 = st 73 := tk_n (by decide)
theorem nu_73 {st : xs_S} {c : Int32} : (F_X7_number st c).2 73 = st 73 := nu_n (by decide) (by decide)
def lp_X7_order_140 (isDone : Int32) : Nat → Int32 → Int32 → xs_S → Int32 × xs_S
  | 0, _, _, st => (0, st)
  | n + 1, x2, x3, st => (if x3 = 0 then ((-3), st)
    else (if isDone = 0 then (0, st)
      else (if x2 = 100 then ((F_X7_comes st).1, (F_X7_comes st).2)
        else (if x2 = 114 then ((F_X7_reads st (st 80 0) (st 80 1) (st 80 2)).1, (F_X7_reads st (st 80 0) (st 80 1) (st 80 2)).2)
          else (if x2 = 116 then ((F_X7_waits st (st 80 0)).1, (F_X7_waits st (st 80 0)).2)
            else ((F_X7_agrees st).1, (F_X7_agrees st).2))))))
set_option maxRecDepth 20000 in
theorem cl_X7_order_140 {G : xs_G} {base : Nat} (d : Nat) (isDone : Int32) : ∀ (n : Nat) (x2 : Int32) (x3 : Int32) (st : xs_S), 0 < n ∧ RowOK (st 73) → xs_R G base (d + 6) M_X7_order (140, [(0, .ref 72), (1, .int isDone), (2, .int x2), (3, .int x3)], [], st) (fun v u => v = some (.int (lp_X7_order_140 isDone n x2 x3 st).1) ∧ u = (lp_X7_order_140 isDone n x2 x3 st).2) := by
  intro n
  induction n with
  | zero =>
    intro x2 x3 st hinv
    exact absurd hinv.1 (by omega)
  | succ n ih =>
    intro x2 x3 st hinv
    refine xr_blk gd_X7_order 1 (c' := (141, [(0, .ref 72), (1, .int isDone), (2, .int x2), (3, .int x3)], [.int x3], st)) rfl ?_
    refine xr_br gd_X7_order rfl rfl (fun h1 => ?_) (fun h1 => ?_)
    · refine xr_blk gd_X7_order 1 (c' := (148, [(0, .ref 72), (1, .int isDone), (2, .int x2), (3, .int x3)], [.int isDone], st)) rfl ?_
      refine xr_br gd_X7_order rfl rfl (fun h2 => ?_) (fun h2 => ?_)
      · refine xr_blk gd_X7_order 2 (c' := (158, [(0, .ref 72), (1, .int isDone), (2, .int x2), (3, .int x3)], [.int 100, .int x2], st)) rfl ?_
        refine xr_br gd_X7_order rfl rfl (fun h3 => ?_) (fun h3 => ?_)
        · refine xr_blk gd_X7_order 2 (c' := (171, [(0, .ref 72), (1, .int isDone), (2, .int x2), (3, .int x3)], [.int 114, .int x2], st)) rfl ?_
          refine xr_br gd_X7_order rfl rfl (fun h4 => ?_) (fun h4 => ?_)
          · refine xr_blk gd_X7_order 2 (c' := (202, [(0, .ref 72), (1, .int isDone), (2, .int x2), (3, .int x3)], [.int 116, .int x2], st)) rfl ?_
            refine xr_br gd_X7_order rfl rfl (fun h5 => ?_) (fun h5 => ?_)
            · refine xr_blk gd_X7_order 1 (c' := (219, [(0, .ref 72), (1, .int isDone), (2, .int x2), (3, .int x3)], [.ref 72], st)) rfl ?_
              refine xr_callV gd_X7_order gd_X7_agrees k_X7_122 rfl (c_X7_agrees (d + 0) st hinv.2) (by omega) rfl rfl rfl rfl rfl ?_
              refine xs_fun ?_
              exact xr_iret gd_X7_order rfl rfl ⟨by first | (rw [lp_X7_order_140, if_neg h1, if_neg h2, if_neg h3, if_neg h4, if_neg h5]; done) | (rw [lp_X7_order_140, if_neg h1, if_neg h2, if_neg h3, if_neg h4, if_neg h5]; rfl), by first | (rw [lp_X7_order_140, if_neg h1, if_neg h2, if_neg h3, if_neg h4, if_neg h5]; done) | (rw [lp_X7_order_140, if_neg h1, if_neg h2, if_neg h3, if_neg h4, if_neg h5]; rfl)⟩
            · refine xr_blk gd_X7_order 4 (c' := (211, [(0, .ref 72), (1, .int isDone), (2, .int x2), (3, .int x3)], [.int 0, .ref 80, .ref 72], st)) rfl ?_
              refine xr_iald gd_X7_order rfl rfl (0) (by decide) (by decide) ?_
              refine xr_callV gd_X7_order gd_X7_waits k_X7_119 rfl (c_X7_waits (d + 4) st (st 80 0)) (by omega) rfl rfl rfl rfl rfl ?_
              refine xs_fun ?_
              refine xr_blk gd_X7_order 1 (c' := (222, [(0, .ref 72), (1, .int isDone), (2, .int x2), (3, .int x3)], [.int ((F_X7_waits st (st 80 0)).1)], (F_X7_waits st (st 80 0)).2)) rfl ?_
              exact xr_iret gd_X7_order rfl rfl ⟨by first | (rw [lp_X7_order_140, if_neg h1, if_neg h2, if_neg h3, if_neg h4, if_pos h5]; done) | (rw [lp_X7_order_140, if_neg h1, if_neg h2, if_neg h3, if_neg h4, if_pos h5]; rfl), by first | (rw [lp_X7_order_140, if_neg h1, if_neg h2, if_neg h3, if_neg h4, if_pos h5]; done) | (rw [lp_X7_order_140, if_neg h1, if_neg h2, if_neg h3, if_neg h4, if_pos h5]; rfl)⟩
          · refine xr_blk gd_X7_order 4 (c' := (180, [(0, .ref 72), (1, .int isDone), (2, .int x2), (3, .int x3)], [.int 0, .ref 80, .ref 72], st)) rfl ?_
            refine xr_iald gd_X7_order rfl rfl (0) (by decide) (by decide) ?_
            refine xr_blk gd_X7_order 3 (c' := (186, [(0, .ref 72), (1, .int isDone), (2, .int x2), (3, .int x3)], [.int 1, .ref 80, .int (st 80 0), .ref 72], st)) rfl ?_
            refine xr_iald gd_X7_order rfl rfl (1) (by decide) (by decide) ?_
            refine xr_blk gd_X7_order 3 (c' := (192, [(0, .ref 72), (1, .int isDone), (2, .int x2), (3, .int x3)], [.int 2, .ref 80, .int (st 80 1), .int (st 80 0), .ref 72], st)) rfl ?_
            refine xr_iald gd_X7_order rfl rfl (2) (by decide) (by decide) ?_
            refine xr_callV gd_X7_order gd_X7_reads k_X7_115 rfl (c_X7_reads (d + 3) st (st 80 0) (st 80 1) (st 80 2) (ro_D hinv.2)) (by omega) rfl rfl rfl rfl rfl ?_
            refine xs_fun ?_
            refine xr_blk gd_X7_order 1 (c' := (222, [(0, .ref 72), (1, .int isDone), (2, .int x2), (3, .int x3)], [.int ((F_X7_reads st (st 80 0) (st 80 1) (st 80 2)).1)], (F_X7_reads st (st 80 0) (st 80 1) (st 80 2)).2)) rfl ?_
            exact xr_iret gd_X7_order rfl rfl ⟨by first | (rw [lp_X7_order_140, if_neg h1, if_neg h2, if_neg h3, if_pos h4]; done) | (rw [lp_X7_order_140, if_neg h1, if_neg h2, if_neg h3, if_pos h4]; rfl), by first | (rw [lp_X7_order_140, if_neg h1, if_neg h2, if_neg h3, if_pos h4]; done) | (rw [lp_X7_order_140, if_neg h1, if_neg h2, if_neg h3, if_pos h4]; rfl)⟩
        · refine xr_blk gd_X7_order 1 (c' := (162, [(0, .ref 72), (1, .int isDone), (2, .int x2), (3, .int x3)], [.ref 72], st)) rfl ?_
          refine xr_callV gd_X7_order gd_X7_comes k_X7_112 rfl (c_X7_comes (d + 5) st) (by omega) rfl rfl rfl rfl rfl ?_
          refine xs_fun ?_
          refine xr_blk gd_X7_order 1 (c' := (222, [(0, .ref 72), (1, .int isDone), (2, .int x2), (3, .int x3)], [.int ((F_X7_comes st).1)], (F_X7_comes st).2)) rfl ?_
          exact xr_iret gd_X7_order rfl rfl ⟨by first | (rw [lp_X7_order_140, if_neg h1, if_neg h2, if_pos h3]; done) | (rw [lp_X7_order_140, if_neg h1, if_neg h2, if_pos h3]; rfl), by first | (rw [lp_X7_order_140, if_neg h1, if_neg h2, if_pos h3]; done) | (rw [lp_X7_order_140, if_neg h1, if_neg h2, if_pos h3]; rfl)⟩
      · refine xr_blk gd_X7_order 2 (c' := (222, [(0, .ref 72), (1, .int isDone), (2, .int x2), (3, .int x3)], [.int 0], st)) rfl ?_
        exact xr_iret gd_X7_order rfl rfl ⟨by first | (rw [lp_X7_order_140, if_neg h1, if_pos h2]; done) | (rw [lp_X7_order_140, if_neg h1, if_pos h2]; rfl), by first | (rw [lp_X7_order_140, if_neg h1, if_pos h2]; done) | (rw [lp_X7_order_140, if_neg h1, if_pos h2]; rfl)⟩
    · refine xr_blk gd_X7_order 1 (c' := (146, [(0, .ref 72), (1, .int isDone), (2, .int x2), (3, .int x3)], [.int (-3)], st)) rfl ?_
      exact xr_iret gd_X7_order rfl rfl ⟨by first | (rw [lp_X7_order_140, if_pos h1]; done) | (rw [lp_X7_order_140, if_pos h1]; rfl), by first | (rw [lp_X7_order_140, if_pos h1]; done) | (rw [lp_X7_order_140, if_pos h1]; rfl)⟩
def lp_X7_order_52 (isDone : Int32) : Nat → Int32 → xs_S → Int32 × xs_S
  | 0, _, st => (0, st)
  | n + 1, x2, st => (if x2 = 114 then (if ((F_X7_number (xs_u (xs_u st 72 8 ((st 72 8) + 1)) 80 2 0) 0).1) = 0 then lp_X7_order_140 isDone 1 x2 0 ((F_X7_number (xs_u (xs_u st 72 8 ((st 72 8) + 1)) 80 2 0) 0).2)
      else (if ((F_X7_takes ((F_X7_number (xs_u (xs_u st 72 8 ((st 72 8) + 1)) 80 2 0) 0).2) 61).1) = 0 then lp_X7_order_140 isDone 1 x2 0 ((F_X7_takes ((F_X7_number (xs_u (xs_u st 72 8 ((st 72 8) + 1)) 80 2 0) 0).2) 61).2)
        else (if ((F_X7_number ((F_X7_takes ((F_X7_number (xs_u (xs_u st 72 8 ((st 72 8) + 1)) 80 2 0) 0).2) 61).2) 1).1) = 0 then lp_X7_order_140 isDone 1 x2 0 ((F_X7_number ((F_X7_takes ((F_X7_number (xs_u (xs_u st 72 8 ((st 72 8) + 1)) 80 2 0) 0).2) 61).2) 1).2)
          else (if ((F_X7_takes ((F_X7_number ((F_X7_takes ((F_X7_number (xs_u (xs_u st 72 8 ((st 72 8) + 1)) 80 2 0) 0).2) 61).2) 1).2) 126).1) = 0 then lp_X7_order_140 isDone 1 x2 1 ((F_X7_takes ((F_X7_number ((F_X7_takes ((F_X7_number (xs_u (xs_u st 72 8 ((st 72 8) + 1)) 80 2 0) 0).2) 61).2) 1).2) 126).2)
            else (if ((F_X7_number ((F_X7_takes ((F_X7_number ((F_X7_takes ((F_X7_number (xs_u (xs_u st 72 8 ((st 72 8) + 1)) 80 2 0) 0).2) 61).2) 1).2) 126).2) 2).1) = 0 then lp_X7_order_140 isDone 1 x2 0 ((F_X7_number ((F_X7_takes ((F_X7_number ((F_X7_takes ((F_X7_number (xs_u (xs_u st 72 8 ((st 72 8) + 1)) 80 2 0) 0).2) 61).2) 1).2) 126).2) 2).2)
              else lp_X7_order_140 isDone 1 x2 1 ((F_X7_number ((F_X7_takes ((F_X7_number ((F_X7_takes ((F_X7_number (xs_u (xs_u st 72 8 ((st 72 8) + 1)) 80 2 0) 0).2) 61).2) 1).2) 126).2) 2).2))))))
    else (if x2 = 116 then lp_X7_order_140 isDone 1 x2 ((F_X7_number (xs_u (xs_u st 72 8 ((st 72 8) + 1)) 80 2 0) 0).1) ((F_X7_number (xs_u (xs_u st 72 8 ((st 72 8) + 1)) 80 2 0) 0).2)
      else lp_X7_order_140 isDone 1 x2 1 (xs_u (xs_u st 72 8 ((st 72 8) + 1)) 80 2 0)))
set_option maxRecDepth 20000 in
theorem cl_X7_order_52 {G : xs_G} {base : Nat} (d : Nat) (isDone : Int32) : ∀ (n : Nat) (x2 : Int32) (st : xs_S), 0 < n ∧ PM st ∧ st 72 8 < st 72 7 ∧ RowOK (st 73) → xs_R G base (d + 6) M_X7_order (52, [(0, .ref 72), (1, .int isDone), (2, .int x2)], [], st) (fun v u => v = some (.int (lp_X7_order_52 isDone n x2 st).1) ∧ u = (lp_X7_order_52 isDone n x2 st).2) := by
  intro n
  induction n with
  | zero =>
    intro x2 st hinv
    exact absurd hinv.1 (by omega)
  | succ n ih =>
    intro x2 st hinv
    have hq := hinv.2.1
    have hal := hinv.2.2.1
    refine xr_blk gd_X7_order 10 (c' := (68, [(0, .ref 72), (1, .int isDone), (2, .int x2)], [.int 0, .int 2, .ref 80], xs_u st 72 8 ((st 72 8) + 1))) rfl ?_
    refine xr_iast gd_X7_order rfl rfl (2) (by decide) (by decide) ?_
    refine xr_blk gd_X7_order 4 (c' := (74, [(0, .ref 72), (1, .int isDone), (2, .int x2), (3, .int 1)], [.int 114, .int x2], xs_u (xs_u st 72 8 ((st 72 8) + 1)) 80 2 0)) rfl ?_
    refine xr_br gd_X7_order rfl rfl (fun h1 => ?_) (fun h1 => ?_)
    · refine xr_blk gd_X7_order 2 (c' := (131, [(0, .ref 72), (1, .int isDone), (2, .int x2), (3, .int 1)], [.int 116, .int x2], xs_u (xs_u st 72 8 ((st 72 8) + 1)) 80 2 0)) rfl ?_
      refine xr_br gd_X7_order rfl rfl (fun h2 => ?_) (fun h2 => ?_)
      · refine xs_cons (cl_X7_order_140 d isDone 1 x2 1 (xs_u (xs_u st 72 8 ((st 72 8) + 1)) 80 2 0) ⟨by decide, (by simp only [nu_73, tk_73, r73a, r73b]; exact hinv.2.2.2)⟩) (fun v u hq => ?_)
        rw [lp_X7_order_52, if_neg h1, if_neg h2]; exact hq
      · refine xr_blk gd_X7_order 2 (c' := (136, [(0, .ref 72), (1, .int isDone), (2, .int x2), (3, .int 1)], [.int 0, .ref 72], xs_u (xs_u st 72 8 ((st 72 8) + 1)) 80 2 0)) rfl ?_
        refine xr_callV gd_X7_order gd_X7_number k_X7_167 rfl (c_X7_number (d + 3) (xs_u (xs_u st 72 8 ((st 72 8) + 1)) 80 2 0) 0 (by decide) (pm_k (by decide) (pm_inc hq (by assumption)))) (by omega) rfl rfl rfl rfl rfl ?_
        refine xs_fun ?_
        refine xr_blk gd_X7_order 1 (c' := (140, [(0, .ref 72), (1, .int isDone), (2, .int x2), (3, .int ((F_X7_number (xs_u (xs_u st 72 8 ((st 72 8) + 1)) 80 2 0) 0).1))], [], (F_X7_number (xs_u (xs_u st 72 8 ((st 72 8) + 1)) 80 2 0) 0).2)) rfl ?_
        refine xs_cons (cl_X7_order_140 d isDone 1 x2 ((F_X7_number (xs_u (xs_u st 72 8 ((st 72 8) + 1)) 80 2 0) 0).1) ((F_X7_number (xs_u (xs_u st 72 8 ((st 72 8) + 1)) 80 2 0) 0).2) ⟨by decide, (by simp only [nu_73, tk_73, r73a, r73b]; exact hinv.2.2.2)⟩) (fun v u hq => ?_)
        rw [lp_X7_order_52, if_neg h1, if_pos h2]; exact hq
    · refine xr_blk gd_X7_order 2 (c' := (79, [(0, .ref 72), (1, .int isDone), (2, .int x2), (3, .int 1)], [.int 0, .ref 72], xs_u (xs_u st 72 8 ((st 72 8) + 1)) 80 2 0)) rfl ?_
      refine xr_callV gd_X7_order gd_X7_number k_X7_167 rfl (c_X7_number (d + 3) (xs_u (xs_u st 72 8 ((st 72 8) + 1)) 80 2 0) 0 (by decide) (pm_k (by decide) (pm_inc hq (by assumption)))) (by omega) rfl rfl rfl rfl rfl ?_
      refine xs_fun ?_
      refine xr_br gd_X7_order rfl rfl (fun h3 => ?_) (fun h3 => ?_)
      · refine xr_blk gd_X7_order 3 (c' := (140, [(0, .ref 72), (1, .int isDone), (2, .int x2), (3, .int 0)], [], (F_X7_number (xs_u (xs_u st 72 8 ((st 72 8) + 1)) 80 2 0) 0).2)) rfl ?_
        refine xs_cons (cl_X7_order_140 d isDone 1 x2 0 ((F_X7_number (xs_u (xs_u st 72 8 ((st 72 8) + 1)) 80 2 0) 0).2) ⟨by decide, (by simp only [nu_73, tk_73, r73a, r73b]; exact hinv.2.2.2)⟩) (fun v u hq => ?_)
        rw [lp_X7_order_52, if_pos h1, if_pos h3]; exact hq
      · refine xr_blk gd_X7_order 2 (c' := (88, [(0, .ref 72), (1, .int isDone), (2, .int x2), (3, .int 1)], [.int 61, .ref 72], (F_X7_number (xs_u (xs_u st 72 8 ((st 72 8) + 1)) 80 2 0) 0).2)) rfl ?_
        refine xr_callV gd_X7_order gd_X7_takes k_X7_170 rfl (c_X7_takes (d + 3) ((F_X7_number (xs_u (xs_u st 72 8 ((st 72 8) + 1)) 80 2 0) 0).2) 61 (pm_n (pm_k (by decide) (pm_inc hq (by assumption))))) (by omega) rfl rfl rfl rfl rfl ?_
        refine xs_fun ?_
        refine xr_br gd_X7_order rfl rfl (fun h4 => ?_) (fun h4 => ?_)
        · refine xr_blk gd_X7_order 3 (c' := (140, [(0, .ref 72), (1, .int isDone), (2, .int x2), (3, .int 0)], [], (F_X7_takes ((F_X7_number (xs_u (xs_u st 72 8 ((st 72 8) + 1)) 80 2 0) 0).2) 61).2)) rfl ?_
          refine xs_cons (cl_X7_order_140 d isDone 1 x2 0 ((F_X7_takes ((F_X7_number (xs_u (xs_u st 72 8 ((st 72 8) + 1)) 80 2 0) 0).2) 61).2) ⟨by decide, (by simp only [nu_73, tk_73, r73a, r73b]; exact hinv.2.2.2)⟩) (fun v u hq => ?_)
          rw [lp_X7_order_52, if_pos h1, if_neg h3, if_pos h4]; exact hq
        · refine xr_blk gd_X7_order 2 (c' := (96, [(0, .ref 72), (1, .int isDone), (2, .int x2), (3, .int 1)], [.int 1, .ref 72], (F_X7_takes ((F_X7_number (xs_u (xs_u st 72 8 ((st 72 8) + 1)) 80 2 0) 0).2) 61).2)) rfl ?_
          refine xr_callV gd_X7_order gd_X7_number k_X7_167 rfl (c_X7_number (d + 3) ((F_X7_takes ((F_X7_number (xs_u (xs_u st 72 8 ((st 72 8) + 1)) 80 2 0) 0).2) 61).2) 1 (by decide) (pm_t (pm_n (pm_k (by decide) (pm_inc hq (by assumption)))))) (by omega) rfl rfl rfl rfl rfl ?_
          refine xs_fun ?_
          refine xr_br gd_X7_order rfl rfl (fun h5 => ?_) (fun h5 => ?_)
          · refine xr_blk gd_X7_order 3 (c' := (140, [(0, .ref 72), (1, .int isDone), (2, .int x2), (3, .int 0)], [], (F_X7_number ((F_X7_takes ((F_X7_number (xs_u (xs_u st 72 8 ((st 72 8) + 1)) 80 2 0) 0).2) 61).2) 1).2)) rfl ?_
            refine xs_cons (cl_X7_order_140 d isDone 1 x2 0 ((F_X7_number ((F_X7_takes ((F_X7_number (xs_u (xs_u st 72 8 ((st 72 8) + 1)) 80 2 0) 0).2) 61).2) 1).2) ⟨by decide, (by simp only [nu_73, tk_73, r73a, r73b]; exact hinv.2.2.2)⟩) (fun v u hq => ?_)
            rw [lp_X7_order_52, if_pos h1, if_neg h3, if_neg h4, if_pos h5]; exact hq
          · refine xr_blk gd_X7_order 2 (c' := (105, [(0, .ref 72), (1, .int isDone), (2, .int x2), (3, .int 1)], [.int 126, .ref 72], (F_X7_number ((F_X7_takes ((F_X7_number (xs_u (xs_u st 72 8 ((st 72 8) + 1)) 80 2 0) 0).2) 61).2) 1).2)) rfl ?_
            refine xr_callV gd_X7_order gd_X7_takes k_X7_170 rfl (c_X7_takes (d + 3) ((F_X7_number ((F_X7_takes ((F_X7_number (xs_u (xs_u st 72 8 ((st 72 8) + 1)) 80 2 0) 0).2) 61).2) 1).2) 126 (pm_n (pm_t (pm_n (pm_k (by decide) (pm_inc hq (by assumption))))))) (by omega) rfl rfl rfl rfl rfl ?_
            refine xs_fun ?_
            refine xr_br gd_X7_order rfl rfl (fun h6 => ?_) (fun h6 => ?_)
            · refine xr_blk gd_X7_order 4 (c' := (140, [(0, .ref 72), (1, .int isDone), (2, .int x2), (3, .int 1)], [], (F_X7_takes ((F_X7_number ((F_X7_takes ((F_X7_number (xs_u (xs_u st 72 8 ((st 72 8) + 1)) 80 2 0) 0).2) 61).2) 1).2) 126).2)) rfl ?_
              refine xs_cons (cl_X7_order_140 d isDone 1 x2 1 ((F_X7_takes ((F_X7_number ((F_X7_takes ((F_X7_number (xs_u (xs_u st 72 8 ((st 72 8) + 1)) 80 2 0) 0).2) 61).2) 1).2) 126).2) ⟨by decide, (by simp only [nu_73, tk_73, r73a, r73b]; exact hinv.2.2.2)⟩) (fun v u hq => ?_)
              rw [lp_X7_order_52, if_pos h1, if_neg h3, if_neg h4, if_neg h5, if_pos h6]; exact hq
            · refine xr_blk gd_X7_order 2 (c' := (113, [(0, .ref 72), (1, .int isDone), (2, .int x2), (3, .int 1)], [.int 2, .ref 72], (F_X7_takes ((F_X7_number ((F_X7_takes ((F_X7_number (xs_u (xs_u st 72 8 ((st 72 8) + 1)) 80 2 0) 0).2) 61).2) 1).2) 126).2)) rfl ?_
              refine xr_callV gd_X7_order gd_X7_number k_X7_167 rfl (c_X7_number (d + 3) ((F_X7_takes ((F_X7_number ((F_X7_takes ((F_X7_number (xs_u (xs_u st 72 8 ((st 72 8) + 1)) 80 2 0) 0).2) 61).2) 1).2) 126).2) 2 (by decide) (pm_t (pm_n (pm_t (pm_n (pm_k (by decide) (pm_inc hq (by assumption)))))))) (by omega) rfl rfl rfl rfl rfl ?_
              refine xs_fun ?_
              refine xr_br gd_X7_order rfl rfl (fun h7 => ?_) (fun h7 => ?_)
              · refine xr_blk gd_X7_order 3 (c' := (140, [(0, .ref 72), (1, .int isDone), (2, .int x2), (3, .int 0)], [], (F_X7_number ((F_X7_takes ((F_X7_number ((F_X7_takes ((F_X7_number (xs_u (xs_u st 72 8 ((st 72 8) + 1)) 80 2 0) 0).2) 61).2) 1).2) 126).2) 2).2)) rfl ?_
                refine xs_cons (cl_X7_order_140 d isDone 1 x2 0 ((F_X7_number ((F_X7_takes ((F_X7_number ((F_X7_takes ((F_X7_number (xs_u (xs_u st 72 8 ((st 72 8) + 1)) 80 2 0) 0).2) 61).2) 1).2) 126).2) 2).2) ⟨by decide, (by simp only [nu_73, tk_73, r73a, r73b]; exact hinv.2.2.2)⟩) (fun v u hq => ?_)
                rw [lp_X7_order_52, if_pos h1, if_neg h3, if_neg h4, if_neg h5, if_neg h6, if_pos h7]; exact hq
              · refine xr_blk gd_X7_order 4 (c' := (140, [(0, .ref 72), (1, .int isDone), (2, .int x2), (3, .int 1)], [], (F_X7_number ((F_X7_takes ((F_X7_number ((F_X7_takes ((F_X7_number (xs_u (xs_u st 72 8 ((st 72 8) + 1)) 80 2 0) 0).2) 61).2) 1).2) 126).2) 2).2)) rfl ?_
                refine xs_cons (cl_X7_order_140 d isDone 1 x2 1 ((F_X7_number ((F_X7_takes ((F_X7_number ((F_X7_takes ((F_X7_number (xs_u (xs_u st 72 8 ((st 72 8) + 1)) 80 2 0) 0).2) 61).2) 1).2) 126).2) 2).2) ⟨by decide, (by simp only [nu_73, tk_73, r73a, r73b]; exact hinv.2.2.2)⟩) (fun v u hq => ?_)
                rw [lp_X7_order_52, if_pos h1, if_neg h3, if_neg h4, if_neg h5, if_neg h6, if_neg h7]; exact hq
def F_X7_order (st : xs_S) (isDone : Int32) : Int32 × xs_S := (if (st 72 7) ≤ (st 72 8) then ((-3), st)
    else (if (st 78 ((st 72 8).toInt.toNat)) = 100 then lp_X7_order_52 isDone 1 (st 78 ((st 72 8).toInt.toNat)) st
      else (if (st 78 ((st 72 8).toInt.toNat)) = 114 then lp_X7_order_52 isDone 1 (st 78 ((st 72 8).toInt.toNat)) st
        else (if (st 78 ((st 72 8).toInt.toNat)) = 116 then lp_X7_order_52 isDone 1 (st 78 ((st 72 8).toInt.toNat)) st
          else (if (st 78 ((st 72 8).toInt.toNat)) = 97 then lp_X7_order_52 isDone 1 (st 78 ((st 72 8).toInt.toNat)) st
            else ((-3), st))))))
set_option maxRecDepth 20000 in
theorem c_X7_order {G : xs_G} {base : Nat} (d : Nat) (st : xs_S) (isDone : Int32) (hq : PM st) (hR : RowOK (st 73)) : xs_K G base (d + 6) M_X7_order [.ref 72, .int isDone] st (fun v u => v = some (.int (F_X7_order st isDone).1) ∧ u = (F_X7_order st isDone).2) := by
  refine xs_intro ok_X7_order [(0, .ref 72), (1, .int isDone)] rfl rfl ?_
  refine xr_blk gd_X7_order 4 (c' := (8, [(0, .ref 72), (1, .int isDone)], [.int (st 72 7), .int (st 72 8)], st)) rfl ?_
  refine xr_br gd_X7_order rfl rfl (fun h1 => ?_) (fun h1 => ?_)
  · refine xr_blk gd_X7_order 4 (c' := (28, [(0, .ref 72), (1, .int isDone), (2, .int 0)], [.int 100, .int 0], st)) rfl ?_
    refine xr_br gd_X7_order rfl rfl (fun h => absurd h (by decide)) (fun _ => ?_)
    refine xr_blk gd_X7_order 2 (c' := (34, [(0, .ref 72), (1, .int isDone), (2, .int 0)], [.int 114, .int 0], st)) rfl ?_
    refine xr_br gd_X7_order rfl rfl (fun h => absurd h (by decide)) (fun _ => ?_)
    refine xr_blk gd_X7_order 2 (c' := (40, [(0, .ref 72), (1, .int isDone), (2, .int 0)], [.int 116, .int 0], st)) rfl ?_
    refine xr_br gd_X7_order rfl rfl (fun h => absurd h (by decide)) (fun _ => ?_)
    refine xr_blk gd_X7_order 2 (c' := (46, [(0, .ref 72), (1, .int isDone), (2, .int 0)], [.int 97, .int 0], st)) rfl ?_
    refine xr_br gd_X7_order rfl rfl (fun h => absurd h (by decide)) (fun _ => ?_)
    refine xr_blk gd_X7_order 1 (c' := (51, [(0, .ref 72), (1, .int isDone), (2, .int 0)], [.int (-3)], st)) rfl ?_
    exact xr_iret gd_X7_order rfl rfl ⟨by first | (rw [F_X7_order, if_pos h1]; done) | (rw [F_X7_order, if_pos h1]; rfl), by first | (rw [F_X7_order, if_pos h1]; done) | (rw [F_X7_order, if_pos h1]; rfl)⟩
  · refine xr_blk gd_X7_order 4 (c' := (19, [(0, .ref 72), (1, .int isDone)], [.int (st 72 8), .ref 78], st)) rfl ?_
    refine xr_iald gd_X7_order rfl rfl ((st 72 8).toInt.toNat) (xs_h1 (n := 80) (by first | exact pm_i hq (by assumption) | exact pm_j hq (by assumption))) (xs_h2 (n := 80) (by first | exact pm_i hq (by assumption) | exact pm_j hq (by assumption))) ?_
    refine xr_blk gd_X7_order 4 (c' := (28, [(0, .ref 72), (1, .int isDone), (2, .int (st 78 ((st 72 8).toInt.toNat)))], [.int 100, .int (st 78 ((st 72 8).toInt.toNat))], st)) rfl ?_
    refine xr_br gd_X7_order rfl rfl (fun h2 => ?_) (fun h2 => ?_)
    · refine xs_cons (cl_X7_order_52 d isDone 1 (st 78 ((st 72 8).toInt.toNat)) st ⟨by decide, hq, (by first | exact xi_nle (by assumption) | assumption), hR⟩) (fun v u hq => ?_)
      rw [F_X7_order, if_neg h1, if_pos h2]; exact hq
    · refine xr_blk gd_X7_order 2 (c' := (34, [(0, .ref 72), (1, .int isDone), (2, .int (st 78 ((st 72 8).toInt.toNat)))], [.int 114, .int (st 78 ((st 72 8).toInt.toNat))], st)) rfl ?_
      refine xr_br gd_X7_order rfl rfl (fun h3 => ?_) (fun h3 => ?_)
      · refine xs_cons (cl_X7_order_52 d isDone 1 (st 78 ((st 72 8).toInt.toNat)) st ⟨by decide, hq, (by first | exact xi_nle (by assumption) | assumption), hR⟩) (fun v u hq => ?_)
        rw [F_X7_order, if_neg h1, if_neg h2, if_pos h3]; exact hq
      · refine xr_blk gd_X7_order 2 (c' := (40, [(0, .ref 72), (1, .int isDone), (2, .int (st 78 ((st 72 8).toInt.toNat)))], [.int 116, .int (st 78 ((st 72 8).toInt.toNat))], st)) rfl ?_
        refine xr_br gd_X7_order rfl rfl (fun h4 => ?_) (fun h4 => ?_)
        · refine xs_cons (cl_X7_order_52 d isDone 1 (st 78 ((st 72 8).toInt.toNat)) st ⟨by decide, hq, (by first | exact xi_nle (by assumption) | assumption), hR⟩) (fun v u hq => ?_)
          rw [F_X7_order, if_neg h1, if_neg h2, if_neg h3, if_pos h4]; exact hq
        · refine xr_blk gd_X7_order 2 (c' := (46, [(0, .ref 72), (1, .int isDone), (2, .int (st 78 ((st 72 8).toInt.toNat)))], [.int 97, .int (st 78 ((st 72 8).toInt.toNat))], st)) rfl ?_
          refine xr_br gd_X7_order rfl rfl (fun h5 => ?_) (fun h5 => ?_)
          · refine xs_cons (cl_X7_order_52 d isDone 1 (st 78 ((st 72 8).toInt.toNat)) st ⟨by decide, hq, (by first | exact xi_nle (by assumption) | assumption), hR⟩) (fun v u hq => ?_)
            rw [F_X7_order, if_neg h1, if_neg h2, if_neg h3, if_neg h4, if_pos h5]; exact hq
          · refine xr_blk gd_X7_order 1 (c' := (51, [(0, .ref 72), (1, .int isDone), (2, .int (st 78 ((st 72 8).toInt.toNat)))], [.int (-3)], st)) rfl ?_
            exact xr_iret gd_X7_order rfl rfl ⟨by first | (rw [F_X7_order, if_neg h1, if_neg h2, if_neg h3, if_neg h4, if_neg h5]; done) | (rw [F_X7_order, if_neg h1, if_neg h2, if_neg h3, if_neg h4, if_neg h5]; rfl), by first | (rw [F_X7_order, if_neg h1, if_neg h2, if_neg h3, if_neg h4, if_neg h5]; done) | (rw [F_X7_order, if_neg h1, if_neg h2, if_neg h3, if_neg h4, if_neg h5]; rfl)⟩
