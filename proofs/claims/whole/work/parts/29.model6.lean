def HST' (st : xs_S) : Prop := 0 ≤ (st 72 5).toInt ∧ (st 72 5).toInt ≤ 6
theorem pm_0 {st : xs_S} (hl : 0 ≤ (st 72 7).toInt ∧ (st 72 7).toInt ≤ 80) : PM (xs_u st 72 8 0) := by
  unfold PM
  rw [xs_rd_s, xs_rd_i (by decide), xi_0]
  omega
def IW (st : xs_S) (x : Int32) (n : Nat) : Prop := PM st ∧ 1 ≤ n ∧ (x = 0 ∨ (x = 1 ∧ (st 72 7).toInt + 2 ≤ (st 72 8).toInt + (n : Int))) ∧ RowOK (st 73)
theorem iw_e {st : xs_S} {x : Int32} (hp : PM st) (hR : RowOK (st 73)) (hx : x = 0 ∨ x = 1) : IW st x 83 := by
  refine ⟨hp, by decide, ?_, hR⟩
  obtain ⟨⟨a, b⟩, c, e⟩ := hp
  rcases hx with hx | hx
  · exact Or.inl hx
  · exact Or.inr ⟨hx, by omega⟩
theorem iw_01 {st : xs_S} {x : Int32} {n : Nat} (h : IW st x n) : x = 0 ∨ x = 1 := by
  rcases h.2.2.1 with g | g
  · exact Or.inl g
  · exact Or.inr g.1
theorem iw_0 {st : xs_S} {x : Int32} {n : Nat} (h : IW st x (n + 1)) (hx : ¬ x = 0) (h2 : ¬ st 72 7 ≤ st 72 8) : IW (F_X7_takes st 59).2 0 n := by
  obtain ⟨a, b, c, e⟩ := h
  rcases c with c | c
  · exact absurd c hx
  · rw [xi_le] at h2
    exact ⟨pm_t a, by omega, Or.inl rfl, by rw [tk_73]; exact e⟩
theorem iw_1 {st : xs_S} {x y : Int32} {n : Nat} (h : IW st x (n + 1)) (hx : ¬ x = 0) (h2 : ¬ st 72 7 ≤ st 72 8) (h3 : ¬ (F_X7_takes st 59).1 = 0) (hy : y = 0 ∨ y = 1) : IW (F_X7_order (F_X7_takes st 59).2 0).2 y n := by
  obtain ⟨a, b, c, e⟩ := h
  rcases c with c | c
  · exact absurd c hx
  · rw [xi_le] at h2
    have t1 := tk_1 a h3
    have t2 := tk_at (c := 59) a
    have o1 := or_at (d := 0) (pm_t (c := 59) a)
    refine ⟨at_pm o1 (pm_t a), by omega, ?_, or_ro (by rw [tk_73]; exact e)⟩
    rcases hy with hy | hy
    · exact Or.inl hy
    · refine Or.inr ⟨hy, ?_⟩
      rw [o1.1, t2.1]
      have o2 := o1.2.1
      omega
def lp_X7_isWell_19 : Nat → Int32 → xs_S → Int32 × xs_S
  | 0, _, st => (0, st)
  | n + 1, x1, st => (if x1 = 0 then (x1, st)
    else (if (st 72 7) ≤ (st 72 8) then (x1, st)
      else (if ((F_X7_takes st 59).1) = 0 then lp_X7_isWell_19 n 0 ((F_X7_takes st 59).2)
        else (if ((F_X7_order ((F_X7_takes st 59).2) 0).1) = 0 then lp_X7_isWell_19 n 1 ((F_X7_order ((F_X7_takes st 59).2) 0).2)
          else lp_X7_isWell_19 n 0 ((F_X7_order ((F_X7_takes st 59).2) 0).2)))))
set_option maxRecDepth 20000 in
theorem cl_X7_isWell_19 {G : xs_G} {base : Nat} (d : Nat) : ∀ (n : Nat) (x1 : Int32) (st : xs_S), IW st x1 n → xs_R G base (d + 7) M_X7_isWell (19, [(0, .ref 72), (1, .int x1)], [], st) (fun v u => v = some (.int (lp_X7_isWell_19 n x1 st).1) ∧ u = (lp_X7_isWell_19 n x1 st).2) := by
  intro n
  induction n with
  | zero =>
    intro x1 st hinv
    exact absurd hinv.2.1 (by omega)
  | succ n ih =>
    intro x1 st hinv
    refine xr_blk gd_X7_isWell 1 (c' := (20, [(0, .ref 72), (1, .int x1)], [.int x1], st)) rfl ?_
    refine xr_br gd_X7_isWell rfl rfl (fun h1 => ?_) (fun h1 => ?_)
    · refine xr_blk gd_X7_isWell 1 (c' := (61, [(0, .ref 72), (1, .int x1)], [.int x1], st)) rfl ?_
      exact xr_zret gd_X7_isWell rfl rfl (xz_01 (iw_01 hinv)) ⟨by first | (rw [lp_X7_isWell_19, if_pos h1]; done) | (rw [lp_X7_isWell_19, if_pos h1]; rfl), by first | (rw [lp_X7_isWell_19, if_pos h1]; done) | (rw [lp_X7_isWell_19, if_pos h1]; rfl)⟩
    · refine xr_blk gd_X7_isWell 4 (c' := (31, [(0, .ref 72), (1, .int x1)], [.int (st 72 7), .int (st 72 8)], st)) rfl ?_
      refine xr_br gd_X7_isWell rfl rfl (fun h2 => ?_) (fun h2 => ?_)
      · refine xr_blk gd_X7_isWell 1 (c' := (61, [(0, .ref 72), (1, .int x1)], [.int x1], st)) rfl ?_
        exact xr_zret gd_X7_isWell rfl rfl (xz_01 (iw_01 hinv)) ⟨by first | (rw [lp_X7_isWell_19, if_neg h1, if_pos h2]; done) | (rw [lp_X7_isWell_19, if_neg h1, if_pos h2]; rfl), by first | (rw [lp_X7_isWell_19, if_neg h1, if_pos h2]; done) | (rw [lp_X7_isWell_19, if_neg h1, if_pos h2]; rfl)⟩
      · refine xr_blk gd_X7_isWell 2 (c' := (37, [(0, .ref 72), (1, .int x1)], [.int 59, .ref 72], st)) rfl ?_
        refine xr_callV gd_X7_isWell gd_X7_takes k_X7_170 rfl (c_X7_takes (d + 4) st 59 hinv.1) (by omega) rfl rfl rfl rfl rfl ?_
        refine xs_fun ?_
        refine xr_br gd_X7_isWell rfl rfl (fun h3 => ?_) (fun h3 => ?_)
        · refine xr_blk gd_X7_isWell 3 (c' := (19, [(0, .ref 72), (1, .int 0)], [], (F_X7_takes st 59).2)) rfl ?_
          refine xs_cons (ih 0 ((F_X7_takes st 59).2) (by first | with_reducible exact iw_0 hinv (by assumption) (by assumption) | with_reducible exact iw_1 hinv (by assumption) (by assumption) (by assumption) (Or.inl rfl) | with_reducible exact iw_1 hinv (by assumption) (by assumption) (by assumption) (Or.inr rfl))) (fun v u hq => ?_)
          rw [lp_X7_isWell_19, if_neg h1, if_neg h2, if_pos h3]; exact hq
        · refine xr_blk gd_X7_isWell 2 (c' := (45, [(0, .ref 72), (1, .int x1)], [.int 0, .ref 72], (F_X7_takes st 59).2)) rfl ?_
          refine xr_callV gd_X7_isWell gd_X7_order k_X7_173 rfl (c_X7_order (d + 0) ((F_X7_takes st 59).2) 0 (pm_t hinv.1) (by rw [tk_73]; exact hinv.2.2.2)) (by omega) rfl rfl rfl rfl rfl ?_
          refine xs_fun ?_
          refine xr_br gd_X7_isWell rfl rfl (fun h4 => ?_) (fun h4 => ?_)
          · refine xr_blk gd_X7_isWell 3 (c' := (19, [(0, .ref 72), (1, .int 0)], [], (F_X7_order ((F_X7_takes st 59).2) 0).2)) rfl ?_
            refine xs_cons (ih 0 ((F_X7_order ((F_X7_takes st 59).2) 0).2) (by first | with_reducible exact iw_0 hinv (by assumption) (by assumption) | with_reducible exact iw_1 hinv (by assumption) (by assumption) (by assumption) (Or.inl rfl) | with_reducible exact iw_1 hinv (by assumption) (by assumption) (by assumption) (Or.inr rfl))) (fun v u hq => ?_)
            rw [lp_X7_isWell_19, if_neg h1, if_neg h2, if_neg h3, if_neg h4]; exact hq
          · refine xr_blk gd_X7_isWell 4 (c' := (19, [(0, .ref 72), (1, .int 1)], [], (F_X7_order ((F_X7_takes st 59).2) 0).2)) rfl ?_
            refine xs_cons (ih 1 ((F_X7_order ((F_X7_takes st 59).2) 0).2) (by first | with_reducible exact iw_0 hinv (by assumption) (by assumption) | with_reducible exact iw_1 hinv (by assumption) (by assumption) (by assumption) (Or.inl rfl) | with_reducible exact iw_1 hinv (by assumption) (by assumption) (by assumption) (Or.inr rfl))) (fun v u hq => ?_)
            rw [lp_X7_isWell_19, if_neg h1, if_neg h2, if_neg h3, if_pos h4]; exact hq
def F_X7_isWell (st : xs_S) : Int32 × xs_S := (if ((F_X7_order (xs_u st 72 8 0) 0).1) = 0 then lp_X7_isWell_19 83 1 ((F_X7_order (xs_u st 72 8 0) 0).2)
    else lp_X7_isWell_19 83 0 ((F_X7_order (xs_u st 72 8 0) 0).2))
set_option maxRecDepth 20000 in
theorem c_X7_isWell {G : xs_G} {base : Nat} (d : Nat) (st : xs_S) (hl : 0 ≤ (st 72 7).toInt ∧ (st 72 7).toInt ≤ 80) (hR : RowOK (st 73)) : xs_K G base (d + 7) M_X7_isWell [.ref 72] st (fun v u => v = some (.int (F_X7_isWell st).1) ∧ u = (F_X7_isWell st).2) := by
  refine xs_intro ok_X7_isWell [(0, .ref 72)] rfl rfl ?_
  refine xr_blk gd_X7_isWell 5 (c' := (7, [(0, .ref 72)], [.int 0, .ref 72], xs_u st 72 8 0)) rfl ?_
  refine xr_callV gd_X7_isWell gd_X7_order k_X7_173 rfl (c_X7_order (d + 0) (xs_u st 72 8 0) 0 (pm_0 hl) (by rw [r73a]; exact hR)) (by omega) rfl rfl rfl rfl rfl ?_
  refine xs_fun ?_
  refine xr_br gd_X7_isWell rfl rfl (fun h1 => ?_) (fun h1 => ?_)
  · refine xr_blk gd_X7_isWell 2 (c' := (19, [(0, .ref 72), (1, .int 0)], [], (F_X7_order (xs_u st 72 8 0) 0).2)) rfl ?_
    refine xs_cons (cl_X7_isWell_19 d 83 0 ((F_X7_order (xs_u st 72 8 0) 0).2) (iw_e (at_pm (or_at (pm_0 hl)) (pm_0 hl)) (or_ro (by rw [r73a]; exact hR)) (by first | exact Or.inl rfl | exact Or.inr rfl))) (fun v u hq => ?_)
    rw [F_X7_isWell, if_neg h1]; exact hq
  · refine xr_blk gd_X7_isWell 3 (c' := (19, [(0, .ref 72), (1, .int 1)], [], (F_X7_order (xs_u st 72 8 0) 0).2)) rfl ?_
    refine xs_cons (cl_X7_isWell_19 d 83 1 ((F_X7_order (xs_u st 72 8 0) 0).2) (iw_e (at_pm (or_at (pm_0 hl)) (pm_0 hl)) (or_ro (by rw [r73a]; exact hR)) (by first | exact Or.inl rfl | exact Or.inr rfl))) (fun v u hq => ?_)
    rw [F_X7_isWell, if_pos h1]; exact hq
def F_X7_fault (st : xs_S) : Int32 × xs_S := (if ((F_X7_isWell st).1) = 0 then (((F_X7_isWell st).2) 72 8, (F_X7_isWell st).2)
    else ((-6), (F_X7_isWell st).2))
set_option maxRecDepth 20000 in
theorem c_X7_fault {G : xs_G} {base : Nat} (d : Nat) (st : xs_S) (hl : 0 ≤ (st 72 7).toInt ∧ (st 72 7).toInt ≤ 80) (hR : RowOK (st 73)) : xs_K G base (d + 8) M_X7_fault [.ref 72] st (fun v u => v = some (.int (F_X7_fault st).1) ∧ u = (F_X7_fault st).2) := by
  refine xs_intro ok_X7_fault [(0, .ref 72)] rfl rfl ?_
  refine xr_blk gd_X7_fault 1 (c' := (1, [(0, .ref 72)], [.ref 72], st)) rfl ?_
  refine xr_callV gd_X7_fault gd_X7_isWell k_X7_177 rfl (c_X7_isWell (d + 0) st hl hR) (by omega) rfl rfl rfl rfl rfl ?_
  refine xs_fun ?_
  refine xr_br gd_X7_fault rfl rfl (fun h1 => ?_) (fun h1 => ?_)
  · refine xr_blk gd_X7_fault 2 (c' := (16, [(0, .ref 72)], [.int (((F_X7_isWell st).2) 72 8)], (F_X7_isWell st).2)) rfl ?_
    exact xr_iret gd_X7_fault rfl rfl ⟨by first | (rw [F_X7_fault, if_pos h1]; done) | (rw [F_X7_fault, if_pos h1]; rfl), by first | (rw [F_X7_fault, if_pos h1]; done) | (rw [F_X7_fault, if_pos h1]; rfl)⟩
  · refine xr_blk gd_X7_fault 2 (c' := (16, [(0, .ref 72)], [.int (-6)], (F_X7_isWell st).2)) rfl ?_
    exact xr_iret gd_X7_fault rfl rfl ⟨by first | (rw [F_X7_fault, if_neg h1]; done) | (rw [F_X7_fault, if_neg h1]; rfl), by first | (rw [F_X7_fault, if_neg h1]; done) | (rw [F_X7_fault, if_neg h1]; rfl)⟩
theorem ol0_n {n : Nat} {x y : Int32} {s : xs_S} : (lp_X7_order_140 0 n x y s).2 = s := by
  cases n with
  | zero => rfl
  | succ n =>
    rw [lp_X7_order_140]
    by_cases h : y = 0
    · rw [if_pos h]
    · rw [if_neg h, if_pos rfl]
theorem or0_n {s : xs_S} {k : Nat} (hk : k ≠ 72) (h8 : k ≠ 80) : (F_X7_order s 0).2 k = s k := by
  have key : ∀ (n : Nat) (x : Int32), (lp_X7_order_52 0 n x s).2 k = s k := by
    intro n x
    cases n with
    | zero => rfl
    | succ n =>
      rw [lp_X7_order_52]
      repeat' (with_reducible refine it_n ?_ ?_)
      all_goals (rw [ol0_n]; simp only [nu_n hk h8, tk_n hk, xs_rd_k hk, xs_rd_k h8])
  unfold F_X7_order
  repeat' (with_reducible refine it_n ?_ ?_)
  all_goals first | with_reducible exact key _ _ | with_reducible rfl
theorem nu_5 {st : xs_S} {p : Int32} {i : Nat} (hi : i ≠ 8) : (F_X7_number st p).2 72 i = st 72 i := by
  have key : ∀ (n : Nat) (x : Int32) (s : xs_S), (lp_X7_number_36 p n x s).2 72 i = s 72 i := by
    intro n
    induction n with
    | zero => intro x s; rfl
    | succ n ih =>
      intro x s
      unfold lp_X7_number_36
      repeat' split
      all_goals try dsimp only
      all_goals first | rw [xs_rd_k (by decide)] | rw [ih, xs_rd_i hi]
  unfold F_X7_number
  split
  · rfl
  · rw [key, xs_rd_i hi]
theorem tk_5 {st : xs_S} {c : Int32} {i : Nat} (hi : i ≠ 8) : (F_X7_takes st c).2 72 i = st 72 i := by
  unfold F_X7_takes
  split <;> (dsimp only; rw [xs_rd_i hi])
theorem it_5 {c : Prop} [Decidable c] {a b : Int32 × xs_S} {v : Int32} {i : Nat} (ha : a.2 72 i = v) (hb : b.2 72 i = v) : (if c then a else b).2 72 i = v := by
  by_cases h : c
  · rw [if_pos h]; exact ha
  · rw [if_neg h]; exact hb
theorem ol_5 {d : Int32} {n : Nat} {x y : Int32} {s : xs_S} {i : Nat} (h1 : i ≠ 11) (h4 : i ≠ 14) (h5 : i ≠ 15) (h6 : i ≠ 16) : (lp_X7_order_140 d n x y s).2 72 i = s 72 i := by
  cases n with
  | zero => rfl
  | succ n =>
    rw [lp_X7_order_140]
    repeat' split
    · rfl
    · rfl
    · dsimp only; rw [cm_n (by decide)]
    · dsimp only; rw [rs_n (by decide)]
    · dsimp only; rw [wa_n (by decide)]
    · dsimp only; rw [ag_f h1 h4 h5 h6]
theorem or_5 {s : xs_S} {d : Int32} {i : Nat} (h8 : i ≠ 8) (h1 : i ≠ 11) (h4 : i ≠ 14) (h5 : i ≠ 15) (h6 : i ≠ 16) : (F_X7_order s d).2 72 i = s 72 i := by
  have key : ∀ (n : Nat) (x : Int32), (lp_X7_order_52 d n x s).2 72 i = s 72 i := by
    intro n x
    cases n with
    | zero => rfl
    | succ n =>
      rw [lp_X7_order_52]
      repeat' (with_reducible refine it_5 ?_ ?_)
      all_goals (rw [ol_5 h1 h4 h5 h6]; simp only [nu_5 h8, tk_5 h8, xs_rd_i h8, xs_rd_k (show (72 : Nat) ≠ 80 by decide)])
  unfold F_X7_order
  repeat' (with_reducible refine it_5 ?_ ?_)
  all_goals first | with_reducible exact key _ _ | with_reducible rfl
theorem wl_n {st : xs_S} {k : Nat} (hk : k ≠ 72) (h8 : k ≠ 80) : (F_X7_isWell st).2 k = st k := by
  have key : ∀ (n : Nat) (x : Int32) (s : xs_S), (lp_X7_isWell_19 n x s).2 k = s k := by
    intro n
    induction n with
    | zero => intro x s; rfl
    | succ n ih =>
      intro x s
      unfold lp_X7_isWell_19
      repeat' split
      all_goals first | with_reducible rfl | (rw [ih, tk_n hk]; done) | rw [ih, or0_n hk h8, tk_n hk]
  unfold F_X7_isWell
  split
  · rw [key, or0_n hk h8, xs_rd_k hk]
  · rw [key, or0_n hk h8, xs_rd_k hk]
theorem wl_5 {st : xs_S} {i : Nat} (h8 : i ≠ 8) (h1 : i ≠ 11) (h4 : i ≠ 14) (h5 : i ≠ 15) (h6 : i ≠ 16) : (F_X7_isWell st).2 72 i = st 72 i := by
  have key : ∀ (n : Nat) (x : Int32) (s : xs_S), (lp_X7_isWell_19 n x s).2 72 i = s 72 i := by
    intro n
    induction n with
    | zero => intro x s; rfl
    | succ n ih =>
      intro x s
      unfold lp_X7_isWell_19
      repeat' split
      all_goals first | with_reducible rfl | (rw [ih, tk_5 h8]; done) | rw [ih, or_5 h8 h1 h4 h5 h6, tk_5 h8]
  unfold F_X7_isWell
  split
  · rw [key, or_5 h8 h1 h4 h5 h6, xs_rd_i h8]
  · rw [key, or_5 h8 h1 h4 h5 h6, xs_rd_i h8]
def IC (st : xs_S) (n : Nat) : Prop := PM st ∧ (st 72 7).toInt + 1 < (st 72 8).toInt + (n : Int) ∧ RowOK (st 73) ∧ HST' st
theorem ic_0 {st : xs_S} (h : IC st 0) : False := by
  obtain ⟨⟨⟨a, b⟩, c, e⟩, h2, -, -⟩ := h
  omega
theorem ic_e {st : xs_S} (hl : 0 ≤ (st 72 7).toInt ∧ (st 72 7).toInt ≤ 80) (hR : RowOK (st 73)) (hst : 0 ≤ (st 72 5).toInt ∧ (st 72 5).toInt ≤ 6) : IC (xs_u (F_X7_remember (F_X7_isWell st).2) 72 8 0) 83 := by
  have e7 : (F_X7_remember (F_X7_isWell st).2) 72 7 = st 72 7 := by rw [re_n (by decide), wl_5 (by decide) (by decide) (by decide) (by decide) (by decide)]
  have e5 : (F_X7_remember (F_X7_isWell st).2) 72 5 = st 72 5 := by rw [re_n (by decide), wl_5 (by decide) (by decide) (by decide) (by decide) (by decide)]
  refine ⟨pm_0 (by rw [e7]; exact hl), ?_, ?_, ?_⟩
  · rw [xs_rd_s, xs_rd_i (by decide), e7, xi_0]
    omega
  · rw [r73a, re_n (by decide), wl_n (by decide) (by decide)]
    exact hR
  · unfold HST'
    rw [xs_rd_i (by decide), e5]
    exact hst
theorem ic_b {st : xs_S} {n : Nat} (h : IC st (n + 1)) (h2 : ¬ st 72 7 ≤ st 72 8) : IC (xs_u (F_X7_order st 1).2 72 8 ((F_X7_order st 1).2 72 8 + 1)) n := by
  obtain ⟨hp, h3, hR, hs⟩ := h
  have o1 := or_at (d := 1) hp
  have e5 : (F_X7_order st 1).2 72 5 = st 72 5 := or_5 (by decide) (by decide) (by decide) (by decide) (by decide)
  have hR2 := or_ro (d := 1) hR
  obtain ⟨a1, a2, a3⟩ := o1
  obtain ⟨⟨b1, b2⟩, b3, b4⟩ := hp
  rw [xi_le] at h2
  have e8 : ((F_X7_order st 1).2 72 8 + 1).toInt = ((F_X7_order st 1).2 72 8).toInt + 1 := xi_inc (by omega)
  refine ⟨?_, ?_, by rw [r73a]; exact hR2, ?_⟩
  · unfold PM
    rw [xs_rd_s, xs_rd_i (by decide), a1, e8]
    omega
  · rw [xs_rd_s, xs_rd_i (by decide), a1, e8]
    omega
  · unfold HST' at hs ⊢
    rw [xs_rd_i (by decide), e5]
    exact hs
def lp_X7_carryOut_23 : Nat → Int32 → Int32 → xs_S → Int32 × xs_S
  | 0, _, _, st => (0, st)
  | n + 1, x1, x2, st => (if x2 = 0 then ((F_X7_record (xs_u st 72 7 0) x1).1, (F_X7_record (xs_u st 72 7 0) x1).2)
    else (if (st 72 7) ≤ (st 72 8) then ((F_X7_record (xs_u st 72 7 0) x1).1, (F_X7_record (xs_u st 72 7 0) x1).2)
      else (if 0 ≤ ((F_X7_order st 1).1) then lp_X7_carryOut_23 n (x1 + 1) 1 (xs_u ((F_X7_order st 1).2) 72 8 ((((F_X7_order st 1).2) 72 8) + 1))
        else (if ((F_X7_order st 1).1) = (-6) then lp_X7_carryOut_23 n (x1 + 1) 1 (xs_u ((F_X7_order st 1).2) 72 8 ((((F_X7_order st 1).2) 72 8) + 1))
          else lp_X7_carryOut_23 n (x1 + 0) 0 (xs_u ((F_X7_order st 1).2) 72 8 ((((F_X7_order st 1).2) 72 8) + 1))))))
set_option maxRecDepth 20000 in
theorem cl_X7_carryOut_23 {G : xs_G} {base : Nat} (d : Nat) : ∀ (n : Nat) (x1 : Int32) (x2 : Int32) (st : xs_S), IC st n → xs_R G base (d + 8) M_X7_carryOut (23, [(0, .ref 72), (1, .int x1), (2, .int x2)], [], st) (fun v u => v = some (.int (lp_X7_carryOut_23 n x1 x2 st).1) ∧ u = (lp_X7_carryOut_23 n x1 x2 st).2) := by
  intro n
  induction n with
  | zero =>
    intro x1 x2 st hinv
    exact (ic_0 hinv).elim
  | succ n ih =>
    intro x1 x2 st hinv
    refine xr_blk gd_X7_carryOut 1 (c' := (24, [(0, .ref 72), (1, .int x1), (2, .int x2)], [.int x2], st)) rfl ?_
    refine xr_br gd_X7_carryOut rfl rfl (fun h1 => ?_) (fun h1 => ?_)
    · refine xr_blk gd_X7_carryOut 5 (c' := (92, [(0, .ref 72), (1, .int x1), (2, .int x2)], [.int x1, .ref 72], xs_u st 72 7 0)) rfl ?_
      refine xr_callV gd_X7_carryOut gd_X7_record k_X7_52 rfl (c_X7_record (d + 7) (xs_u st 72 7 0) x1 hinv.2.2.2) (by omega) rfl rfl rfl rfl rfl ?_
      refine xs_fun ?_
      exact xr_iret gd_X7_carryOut rfl rfl ⟨by first | (rw [lp_X7_carryOut_23, if_pos h1]; done) | (rw [lp_X7_carryOut_23, if_pos h1]; rfl), by first | (rw [lp_X7_carryOut_23, if_pos h1]; done) | (rw [lp_X7_carryOut_23, if_pos h1]; rfl)⟩
    · refine xr_blk gd_X7_carryOut 4 (c' := (35, [(0, .ref 72), (1, .int x1), (2, .int x2)], [.int (st 72 7), .int (st 72 8)], st)) rfl ?_
      refine xr_br gd_X7_carryOut rfl rfl (fun h2 => ?_) (fun h2 => ?_)
      · refine xr_blk gd_X7_carryOut 5 (c' := (92, [(0, .ref 72), (1, .int x1), (2, .int x2)], [.int x1, .ref 72], xs_u st 72 7 0)) rfl ?_
        refine xr_callV gd_X7_carryOut gd_X7_record k_X7_52 rfl (c_X7_record (d + 7) (xs_u st 72 7 0) x1 hinv.2.2.2) (by omega) rfl rfl rfl rfl rfl ?_
        refine xs_fun ?_
        exact xr_iret gd_X7_carryOut rfl rfl ⟨by first | (rw [lp_X7_carryOut_23, if_neg h1, if_pos h2]; done) | (rw [lp_X7_carryOut_23, if_neg h1, if_pos h2]; rfl), by first | (rw [lp_X7_carryOut_23, if_neg h1, if_pos h2]; done) | (rw [lp_X7_carryOut_23, if_neg h1, if_pos h2]; rfl)⟩
      · refine xr_blk gd_X7_carryOut 2 (c' := (40, [(0, .ref 72), (1, .int x1), (2, .int x2)], [.int 1, .ref 72], st)) rfl ?_
        refine xr_callV gd_X7_carryOut gd_X7_order k_X7_173 rfl (c_X7_order (d + 1) st 1 hinv.1 hinv.2.2.1) (by omega) rfl rfl rfl rfl rfl ?_
        refine xs_fun ?_
        refine xr_blk gd_X7_carryOut 2 (c' := (45, [(0, .ref 72), (1, .int x1), (2, .int x2), (3, .int ((F_X7_order st 1).1))], [.int ((F_X7_order st 1).1)], (F_X7_order st 1).2)) rfl ?_
        refine xr_br gd_X7_carryOut rfl rfl (fun h3 => ?_) (fun h3 => ?_)
        · refine xr_blk gd_X7_carryOut 5 (c' := (62, [(0, .ref 72), (1, .int x1), (2, .int 1), (3, .int ((F_X7_order st 1).1))], [.int 1, .int x1], (F_X7_order st 1).2)) rfl ?_
          refine xr_br gd_X7_carryOut rfl rfl (fun h => absurd h (by decide)) (fun _ => ?_)
          refine xr_blk gd_X7_carryOut 11 (c' := (23, [(0, .ref 72), (1, .int (x1 + 1)), (2, .int 1), (3, .int ((F_X7_order st 1).1))], [], xs_u ((F_X7_order st 1).2) 72 8 ((((F_X7_order st 1).2) 72 8) + 1))) rfl ?_
          refine xs_pk (lv' := [(0, .ref 72), (1, .int (x1 + 1)), (2, .int 1)]) [0, 1, 2] rfl ?_
          refine xs_cons (ih (x1 + 1) 1 (xs_u ((F_X7_order st 1).2) 72 8 ((((F_X7_order st 1).2) 72 8) + 1)) (ic_b hinv (by assumption))) (fun v u hq => ?_)
          rw [lp_X7_carryOut_23, if_neg h1, if_neg h2, if_pos h3]; exact hq
        · refine xr_blk gd_X7_carryOut 2 (c' := (51, [(0, .ref 72), (1, .int x1), (2, .int x2), (3, .int ((F_X7_order st 1).1))], [.int (-6), .int ((F_X7_order st 1).1)], (F_X7_order st 1).2)) rfl ?_
          refine xr_br gd_X7_carryOut rfl rfl (fun h4 => ?_) (fun h4 => ?_)
          · refine xr_blk gd_X7_carryOut 4 (c' := (62, [(0, .ref 72), (1, .int x1), (2, .int 0), (3, .int ((F_X7_order st 1).1))], [.int 0, .int x1], (F_X7_order st 1).2)) rfl ?_
            refine xr_br gd_X7_carryOut rfl rfl (fun _ => ?_) (fun h => absurd h (by decide))
            refine xr_blk gd_X7_carryOut 10 (c' := (23, [(0, .ref 72), (1, .int (x1 + 0)), (2, .int 0), (3, .int ((F_X7_order st 1).1))], [], xs_u ((F_X7_order st 1).2) 72 8 ((((F_X7_order st 1).2) 72 8) + 1))) rfl ?_
            refine xs_pk (lv' := [(0, .ref 72), (1, .int (x1 + 0)), (2, .int 0)]) [0, 1, 2] rfl ?_
            refine xs_cons (ih (x1 + 0) 0 (xs_u ((F_X7_order st 1).2) 72 8 ((((F_X7_order st 1).2) 72 8) + 1)) (ic_b hinv (by assumption))) (fun v u hq => ?_)
            rw [lp_X7_carryOut_23, if_neg h1, if_neg h2, if_neg h3, if_neg h4]; exact hq
          · refine xr_blk gd_X7_carryOut 5 (c' := (62, [(0, .ref 72), (1, .int x1), (2, .int 1), (3, .int ((F_X7_order st 1).1))], [.int 1, .int x1], (F_X7_order st 1).2)) rfl ?_
            refine xr_br gd_X7_carryOut rfl rfl (fun h => absurd h (by decide)) (fun _ => ?_)
            refine xr_blk gd_X7_carryOut 11 (c' := (23, [(0, .ref 72), (1, .int (x1 + 1)), (2, .int 1), (3, .int ((F_X7_order st 1).1))], [], xs_u ((F_X7_order st 1).2) 72 8 ((((F_X7_order st 1).2) 72 8) + 1))) rfl ?_
            refine xs_pk (lv' := [(0, .ref 72), (1, .int (x1 + 1)), (2, .int 1)]) [0, 1, 2] rfl ?_
            refine xs_cons (ih (x1 + 1) 1 (xs_u ((F_X7_order st 1).2) 72 8 ((((F_X7_order st 1).2) 72 8) + 1)) (ic_b hinv (by assumption))) (fun v u hq => ?_)
            rw [lp_X7_carryOut_23, if_neg h1, if_neg h2, if_neg h3, if_pos h4]; exact hq
def F_X7_carryOut (st : xs_S) : Int32 × xs_S := (if ((F_X7_isWell st).1) = 0 then ((-3), (F_X7_isWell st).2)
    else lp_X7_carryOut_23 83 0 1 (xs_u (F_X7_remember ((F_X7_isWell st).2)) 72 8 0))
set_option maxRecDepth 20000 in
theorem c_X7_carryOut {G : xs_G} {base : Nat} (d : Nat) (st : xs_S) (hl : 0 ≤ (st 72 7).toInt ∧ (st 72 7).toInt ≤ 80) (hR : RowOK (st 73)) (hst : 0 ≤ (st 72 5).toInt ∧ (st 72 5).toInt ≤ 6) : xs_K G base (d + 8) M_X7_carryOut [.ref 72] st (fun v u => v = some (.int (F_X7_carryOut st).1) ∧ u = (F_X7_carryOut st).2) := by
  refine xs_intro ok_X7_carryOut [(0, .ref 72)] rfl rfl ?_
  refine xr_blk gd_X7_carryOut 1 (c' := (1, [(0, .ref 72)], [.ref 72], st)) rfl ?_
  refine xr_callV gd_X7_carryOut gd_X7_isWell k_X7_177 rfl (c_X7_isWell (d + 0) st hl hR) (by omega) rfl rfl rfl rfl rfl ?_
  refine xs_fun ?_
  refine xr_br gd_X7_carryOut rfl rfl (fun h1 => ?_) (fun h1 => ?_)
  · refine xr_blk gd_X7_carryOut 1 (c' := (11, [(0, .ref 72)], [.ref 72], (F_X7_isWell st).2)) rfl ?_
    refine xr_callV gd_X7_carryOut gd_X7_remember k_X7_49 rfl (c_X7_remember (d + 7) ((F_X7_isWell st).2)) (by omega) rfl rfl rfl rfl rfl ?_
    refine xs_fun ?_
    refine xr_blk gd_X7_carryOut 7 (c' := (23, [(0, .ref 72), (1, .int 0), (2, .int 1)], [], xs_u (F_X7_remember ((F_X7_isWell st).2)) 72 8 0)) rfl ?_
    refine xs_cons (cl_X7_carryOut_23 d 83 0 1 (xs_u (F_X7_remember ((F_X7_isWell st).2)) 72 8 0) (ic_e hl hR hst)) (fun v u hq => ?_)
    rw [F_X7_carryOut, if_neg h1]; exact hq
  · refine xr_blk gd_X7_carryOut 1 (c' := (9, [(0, .ref 72)], [.int (-3)], (F_X7_isWell st).2)) rfl ?_
    exact xr_iret gd_X7_carryOut rfl rfl ⟨by first | (rw [F_X7_carryOut, if_pos h1]; done) | (rw [F_X7_carryOut, if_pos h1]; rfl), by first | (rw [F_X7_carryOut, if_pos h1]; done) | (rw [F_X7_carryOut, if_pos h1]; rfl)⟩
