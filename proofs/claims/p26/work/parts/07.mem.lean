theorem xs_w_acn : Jvm.Cond.native arraycopyName ∈ xw := wt_1 (List.mem_of_getElem? (i := 181) rfl) rfl
theorem xs_w_acs : Jvm.Cond.static arraycopyName ∈ xw := wt_1 (List.mem_of_getElem? (i := 180) rfl) rfl
theorem xs_w_aci : Jvm.Cond.initialized "java/lang/System" ∈ xw := wt_1 (List.mem_of_getElem? (i := 8) rfl) rfl
theorem xs_w_mxs : Jvm.Cond.static Lib.Math.max.name ∈ xw := wt_2 (List.mem_of_getElem? (i := 52) rfl) rfl
theorem xs_w_mxi : Jvm.Cond.initialized "java/lang/Math" ∈ xw := wt_1 (List.mem_of_getElem? (i := 7) rfl) rfl
theorem xs_w_mxc : Jvm.Cond.code Lib.Math.max.name Lib.Math.max.code 2 (some .int) ∈ xw := wt_2 (List.mem_of_getElem? (i := 53) rfl) rfl
theorem xs_l_ac : Jvm.Cond.methodLink RX1 52 arraycopyName ∈ xw := wt_1 (List.mem_of_getElem? (i := 179) rfl) rfl
theorem xs_l_mx_X5_46 : Jvm.Cond.methodLink RX5 46 Lib.Math.max.name ∈ xw := wt_2 (List.mem_of_getElem? (i := 51) rfl) rfl
theorem xs_l_mx_X6_160 : Jvm.Cond.methodLink RX6 160 Lib.Math.max.name ∈ xw := wt_2 (List.mem_of_getElem? (i := 115) rfl) rfl
theorem xs_cL_X0_9 : Jvm.Cond.constantLong RX0 9 (1023) ∈ xw := wt_2 (List.mem_of_getElem? (i := 200) rfl) rfl
theorem xs_cD_X0_11 : Jvm.Cond.constantDouble RX0 11 (4611686018427387904) ∈ xw := wt_2 (List.mem_of_getElem? (i := 201) rfl) rfl
theorem xs_cL_X0_13 : Jvm.Cond.constantLong RX0 13 (2046) ∈ xw := wt_2 (List.mem_of_getElem? (i := 202) rfl) rfl
theorem xs_cD_X0_15 : Jvm.Cond.constantDouble RX0 15 (4841369599423283200) ∈ xw := wt_2 (List.mem_of_getElem? (i := 203) rfl) rfl
theorem xs_cL_X0_21 : Jvm.Cond.constantLong RX0 21 (7516192768) ∈ xw := wt_2 (List.mem_of_getElem? (i := 204) rfl) rfl
theorem xs_cD_X5_81 : Jvm.Cond.constantDouble RX5 81 (4611686018427387904) ∈ xw := wt_2 (List.mem_of_getElem? (i := 213) rfl) rfl
theorem xs_w_ise : Jvm.Cond.static yX6_isError ∈ xw := wt_1 (List.mem_of_getElem? (i := 191) rfl) rfl
/-- the fields that a class's own methods name: place in its pool, number, whether an int that is not final -/
def xs_fld : Nat → List (Nat × Nat × Bool)
  | 0 => [(9, 0, true), (15, 1, true), (18, 8, false), (22, 9, false), (25, 10, false), (28, 11, false), (31, 12, false), (34, 2, true), (37, 3, true), (40, 4, true), (43, 5, true), (46, 6, true), (49, 7, true)]
  | 1 => [(13, 0, false), (18, 2, true), (22, 1, true)]
  | 2 => [(9, 0, false), (25, 1, true)]
  | 3 => [(11, 0, false), (17, 1, false)]
  | 4 => [(11, 0, false), (15, 1, false), (18, 2, false), (21, 3, true)]
  | 5 => [(10, 0, false), (19, 1, false), (26, 2, false), (33, 3, false), (40, 4, false)]
  | _ => []
def xs_fok (ci : Nat) (own : String) : Prop := ∀ q ∈ xs_fld ci, ∃ (T : u_T) (N : Nat) (ty : Nat → FieldType), vwCl[ci]? = some (own, T, N) ∧ (∀ w ∈ u_ws own T N, w ∈ xw) ∧ (∀ k, k < N → parseFieldDescriptor (T k).2.2.1 = some (ty k)) ∧ (∀ a, a < N → ∀ b, b < N → a ≠ b → (T a).2.1 ≠ (T b).2.1) ∧ q.2.1 < N ∧ Jvm.Cond.fieldLink own q.1 (T q.2.1).1 (T q.2.1).2.1 (T q.2.1).2.2.1 ∈ xw ∧ (q.2.2 = true → (T q.2.1).2.2.2 = false ∧ parseFieldDescriptor (T q.2.1).2.2.1 = some .int)
theorem uw_X1 : ∀ w ∈ u_ws RX1 TX1 13, w ∈ xw := List.forall_mem_cons.mpr ⟨wt_1 (List.mem_of_getElem? (i := 37) rfl) rfl, List.forall_mem_cons.mpr ⟨wt_1 (List.mem_of_getElem? (i := 39) rfl) rfl, List.forall_mem_cons.mpr ⟨wt_1 (List.mem_of_getElem? (i := 41) rfl) rfl, List.forall_mem_cons.mpr ⟨wt_1 (List.mem_of_getElem? (i := 43) rfl) rfl, List.forall_mem_cons.mpr ⟨wt_1 (List.mem_of_getElem? (i := 45) rfl) rfl, List.forall_mem_cons.mpr ⟨wt_1 (List.mem_of_getElem? (i := 47) rfl) rfl, List.forall_mem_cons.mpr ⟨wt_1 (List.mem_of_getElem? (i := 49) rfl) rfl, List.forall_mem_cons.mpr ⟨wt_1 (List.mem_of_getElem? (i := 51) rfl) rfl, List.forall_mem_cons.mpr ⟨wt_1 (List.mem_of_getElem? (i := 53) rfl) rfl, List.forall_mem_cons.mpr ⟨wt_1 (List.mem_of_getElem? (i := 55) rfl) rfl, List.forall_mem_cons.mpr ⟨wt_1 (List.mem_of_getElem? (i := 57) rfl) rfl, List.forall_mem_cons.mpr ⟨wt_1 (List.mem_of_getElem? (i := 59) rfl) rfl, List.forall_mem_cons.mpr ⟨wt_1 (List.mem_of_getElem? (i := 61) rfl) rfl, fun _ h => absurd h List.not_mem_nil⟩⟩⟩⟩⟩⟩⟩⟩⟩⟩⟩⟩⟩
theorem fok_X1 : xs_fok 0 RX1 := List.forall_mem_cons.mpr ⟨⟨TX1, 13, tyX1, rfl, uw_X1, tyX1_ok, nmX1, by decide, wt_1 (List.mem_of_getElem? (i := 24) rfl) rfl, fun _ => ⟨rfl, by decide +kernel⟩⟩, List.forall_mem_cons.mpr ⟨⟨TX1, 13, tyX1, rfl, uw_X1, tyX1_ok, nmX1, by decide, wt_1 (List.mem_of_getElem? (i := 25) rfl) rfl, fun _ => ⟨rfl, by decide +kernel⟩⟩, List.forall_mem_cons.mpr ⟨⟨TX1, 13, tyX1, rfl, uw_X1, tyX1_ok, nmX1, by decide, wt_1 (List.mem_of_getElem? (i := 32) rfl) rfl, fun h => by cases h⟩, List.forall_mem_cons.mpr ⟨⟨TX1, 13, tyX1, rfl, uw_X1, tyX1_ok, nmX1, by decide, wt_1 (List.mem_of_getElem? (i := 33) rfl) rfl, fun h => by cases h⟩, List.forall_mem_cons.mpr ⟨⟨TX1, 13, tyX1, rfl, uw_X1, tyX1_ok, nmX1, by decide, wt_1 (List.mem_of_getElem? (i := 34) rfl) rfl, fun h => by cases h⟩, List.forall_mem_cons.mpr ⟨⟨TX1, 13, tyX1, rfl, uw_X1, tyX1_ok, nmX1, by decide, wt_1 (List.mem_of_getElem? (i := 35) rfl) rfl, fun h => by cases h⟩, List.forall_mem_cons.mpr ⟨⟨TX1, 13, tyX1, rfl, uw_X1, tyX1_ok, nmX1, by decide, wt_1 (List.mem_of_getElem? (i := 36) rfl) rfl, fun h => by cases h⟩, List.forall_mem_cons.mpr ⟨⟨TX1, 13, tyX1, rfl, uw_X1, tyX1_ok, nmX1, by decide, wt_1 (List.mem_of_getElem? (i := 26) rfl) rfl, fun _ => ⟨rfl, by decide +kernel⟩⟩, List.forall_mem_cons.mpr ⟨⟨TX1, 13, tyX1, rfl, uw_X1, tyX1_ok, nmX1, by decide, wt_1 (List.mem_of_getElem? (i := 27) rfl) rfl, fun _ => ⟨rfl, by decide +kernel⟩⟩, List.forall_mem_cons.mpr ⟨⟨TX1, 13, tyX1, rfl, uw_X1, tyX1_ok, nmX1, by decide, wt_1 (List.mem_of_getElem? (i := 28) rfl) rfl, fun _ => ⟨rfl, by decide +kernel⟩⟩, List.forall_mem_cons.mpr ⟨⟨TX1, 13, tyX1, rfl, uw_X1, tyX1_ok, nmX1, by decide, wt_1 (List.mem_of_getElem? (i := 29) rfl) rfl, fun _ => ⟨rfl, by decide +kernel⟩⟩, List.forall_mem_cons.mpr ⟨⟨TX1, 13, tyX1, rfl, uw_X1, tyX1_ok, nmX1, by decide, wt_1 (List.mem_of_getElem? (i := 30) rfl) rfl, fun _ => ⟨rfl, by decide +kernel⟩⟩, List.forall_mem_cons.mpr ⟨⟨TX1, 13, tyX1, rfl, uw_X1, tyX1_ok, nmX1, by decide, wt_1 (List.mem_of_getElem? (i := 31) rfl) rfl, fun _ => ⟨rfl, by decide +kernel⟩⟩, fun _ h => absurd h List.not_mem_nil⟩⟩⟩⟩⟩⟩⟩⟩⟩⟩⟩⟩⟩
theorem uw_X2 : ∀ w ∈ u_ws RX2 TX2 3, w ∈ xw := List.forall_mem_cons.mpr ⟨wt_1 (List.mem_of_getElem? (i := 96) rfl) rfl, List.forall_mem_cons.mpr ⟨wt_1 (List.mem_of_getElem? (i := 98) rfl) rfl, List.forall_mem_cons.mpr ⟨wt_1 (List.mem_of_getElem? (i := 100) rfl) rfl, fun _ h => absurd h List.not_mem_nil⟩⟩⟩
theorem fok_X2 : xs_fok 1 RX2 := List.forall_mem_cons.mpr ⟨⟨TX2, 3, tyX2, rfl, uw_X2, tyX2_ok, nmX2, by decide, wt_1 (List.mem_of_getElem? (i := 93) rfl) rfl, fun h => by cases h⟩, List.forall_mem_cons.mpr ⟨⟨TX2, 3, tyX2, rfl, uw_X2, tyX2_ok, nmX2, by decide, wt_1 (List.mem_of_getElem? (i := 95) rfl) rfl, fun _ => ⟨rfl, by decide +kernel⟩⟩, List.forall_mem_cons.mpr ⟨⟨TX2, 3, tyX2, rfl, uw_X2, tyX2_ok, nmX2, by decide, wt_1 (List.mem_of_getElem? (i := 94) rfl) rfl, fun _ => ⟨rfl, by decide +kernel⟩⟩, fun _ h => absurd h List.not_mem_nil⟩⟩⟩
theorem uw_X3 : ∀ w ∈ u_ws RX3 TX3 8, w ∈ xw := List.forall_mem_cons.mpr ⟨wt_1 (List.mem_of_getElem? (i := 127) rfl) rfl, List.forall_mem_cons.mpr ⟨wt_1 (List.mem_of_getElem? (i := 129) rfl) rfl, List.forall_mem_cons.mpr ⟨wt_1 (List.mem_of_getElem? (i := 131) rfl) rfl, List.forall_mem_cons.mpr ⟨wt_1 (List.mem_of_getElem? (i := 133) rfl) rfl, List.forall_mem_cons.mpr ⟨wt_1 (List.mem_of_getElem? (i := 135) rfl) rfl, List.forall_mem_cons.mpr ⟨wt_1 (List.mem_of_getElem? (i := 137) rfl) rfl, List.forall_mem_cons.mpr ⟨wt_1 (List.mem_of_getElem? (i := 139) rfl) rfl, List.forall_mem_cons.mpr ⟨wt_1 (List.mem_of_getElem? (i := 141) rfl) rfl, fun _ h => absurd h List.not_mem_nil⟩⟩⟩⟩⟩⟩⟩⟩
theorem fok_X3 : xs_fok 2 RX3 := List.forall_mem_cons.mpr ⟨⟨TX3, 8, tyX3, rfl, uw_X3, tyX3_ok, nmX3, by decide, wt_1 (List.mem_of_getElem? (i := 125) rfl) rfl, fun h => by cases h⟩, List.forall_mem_cons.mpr ⟨⟨TX3, 8, tyX3, rfl, uw_X3, tyX3_ok, nmX3, by decide, wt_1 (List.mem_of_getElem? (i := 126) rfl) rfl, fun _ => ⟨rfl, by decide +kernel⟩⟩, fun _ h => absurd h List.not_mem_nil⟩⟩
theorem uw_X4 : ∀ w ∈ u_ws RX4 TX4 2, w ∈ xw := List.forall_mem_cons.mpr ⟨wt_1 (List.mem_of_getElem? (i := 113) rfl) rfl, List.forall_mem_cons.mpr ⟨wt_1 (List.mem_of_getElem? (i := 115) rfl) rfl, fun _ h => absurd h List.not_mem_nil⟩⟩
theorem fok_X4 : xs_fok 3 RX4 := List.forall_mem_cons.mpr ⟨⟨TX4, 2, tyX4, rfl, uw_X4, tyX4_ok, nmX4, by decide, wt_1 (List.mem_of_getElem? (i := 111) rfl) rfl, fun h => by cases h⟩, List.forall_mem_cons.mpr ⟨⟨TX4, 2, tyX4, rfl, uw_X4, tyX4_ok, nmX4, by decide, wt_1 (List.mem_of_getElem? (i := 112) rfl) rfl, fun h => by cases h⟩, fun _ h => absurd h List.not_mem_nil⟩⟩
theorem uw_X5 : ∀ w ∈ u_ws RX5 TX5 4, w ∈ xw := List.forall_mem_cons.mpr ⟨wt_1 (List.mem_of_getElem? (i := 75) rfl) rfl, List.forall_mem_cons.mpr ⟨wt_1 (List.mem_of_getElem? (i := 77) rfl) rfl, List.forall_mem_cons.mpr ⟨wt_1 (List.mem_of_getElem? (i := 79) rfl) rfl, List.forall_mem_cons.mpr ⟨wt_1 (List.mem_of_getElem? (i := 81) rfl) rfl, fun _ h => absurd h List.not_mem_nil⟩⟩⟩⟩
theorem fok_X5 : xs_fok 4 RX5 := List.forall_mem_cons.mpr ⟨⟨TX5, 4, tyX5, rfl, uw_X5, tyX5_ok, nmX5, by decide, wt_1 (List.mem_of_getElem? (i := 71) rfl) rfl, fun h => by cases h⟩, List.forall_mem_cons.mpr ⟨⟨TX5, 4, tyX5, rfl, uw_X5, tyX5_ok, nmX5, by decide, wt_1 (List.mem_of_getElem? (i := 72) rfl) rfl, fun h => by cases h⟩, List.forall_mem_cons.mpr ⟨⟨TX5, 4, tyX5, rfl, uw_X5, tyX5_ok, nmX5, by decide, wt_1 (List.mem_of_getElem? (i := 73) rfl) rfl, fun h => by cases h⟩, List.forall_mem_cons.mpr ⟨⟨TX5, 4, tyX5, rfl, uw_X5, tyX5_ok, nmX5, by decide, wt_1 (List.mem_of_getElem? (i := 74) rfl) rfl, fun _ => ⟨rfl, by decide +kernel⟩⟩, fun _ h => absurd h List.not_mem_nil⟩⟩⟩⟩
theorem uw_X6 : ∀ w ∈ u_ws RX6 TX6 5, w ∈ xw := List.forall_mem_cons.mpr ⟨wt_1 (List.mem_of_getElem? (i := 150) rfl) rfl, List.forall_mem_cons.mpr ⟨wt_1 (List.mem_of_getElem? (i := 152) rfl) rfl, List.forall_mem_cons.mpr ⟨wt_1 (List.mem_of_getElem? (i := 154) rfl) rfl, List.forall_mem_cons.mpr ⟨wt_1 (List.mem_of_getElem? (i := 156) rfl) rfl, List.forall_mem_cons.mpr ⟨wt_1 (List.mem_of_getElem? (i := 158) rfl) rfl, fun _ h => absurd h List.not_mem_nil⟩⟩⟩⟩⟩
theorem fok_X6 : xs_fok 5 RX6 := List.forall_mem_cons.mpr ⟨⟨TX6, 5, tyX6, rfl, uw_X6, tyX6_ok, nmX6, by decide, wt_1 (List.mem_of_getElem? (i := 145) rfl) rfl, fun h => by cases h⟩, List.forall_mem_cons.mpr ⟨⟨TX6, 5, tyX6, rfl, uw_X6, tyX6_ok, nmX6, by decide, wt_1 (List.mem_of_getElem? (i := 146) rfl) rfl, fun h => by cases h⟩, List.forall_mem_cons.mpr ⟨⟨TX6, 5, tyX6, rfl, uw_X6, tyX6_ok, nmX6, by decide, wt_1 (List.mem_of_getElem? (i := 147) rfl) rfl, fun h => by cases h⟩, List.forall_mem_cons.mpr ⟨⟨TX6, 5, tyX6, rfl, uw_X6, tyX6_ok, nmX6, by decide, wt_1 (List.mem_of_getElem? (i := 148) rfl) rfl, fun h => by cases h⟩, List.forall_mem_cons.mpr ⟨⟨TX6, 5, tyX6, rfl, uw_X6, tyX6_ok, nmX6, by decide, wt_1 (List.mem_of_getElem? (i := 149) rfl) rfl, fun h => by cases h⟩, fun _ h => absurd h List.not_mem_nil⟩⟩⟩⟩⟩
theorem xs_nth_get {α : Type} : ∀ {l : List α} {i : Nat}, xs_nth l i = l[i]? := by
  intro l
  induction l with
  | nil => intro i; cases i <;> rfl
  | cons a t ih =>
    intro i
    cases i with
    | zero => rfl
    | succ n => show xs_nth t n = _; rw [ih]; rfl
theorem xs_sh_73 {k : Nat} {x : xs_Sh} (h : xs_sh k = some x) : k < 73 := by
  unfold xs_sh at h
  rw [xs_nth_get] at h
  exact (List.getElem?_eq_some_iff.mp h).1
theorem xs_sh_lt {G : xs_G} {base k : Nat} {x : xs_Sh} (hK : xs_ok G base) (h : xs_sh k = some x) : k < gN G := Nat.lt_of_lt_of_le (xs_sh_73 h) hK.2.2.1
theorem xs_shg_lt {G : xs_G} {base k : Nat} {x : xs_Sh} (hK : xs_ok G base) (h : xs_shg G k = some x) : k < gN G := by
  unfold xs_shg at h
  cases h1 : Nat.blt k 73 with
  | true => have h2 : k < 73 := Nat.le_of_ble_eq_true h1; have := hK.2.2.1; omega
  | false =>
    rw [h1, cond_false] at h
    cases h2 : Nat.blt k (gN G) with
    | true => exact Nat.le_of_ble_eq_true h2
    | false => rw [h2] at h; cases h
theorem xs_shg_s {G : xs_G} {k : Nat} {x : xs_Sh} (h : xs_sh k = some x) : xs_shg G k = some x := by
  unfold xs_shg
  rw [xs_bltT (xs_sh_73 h), cond_true, h]
theorem xs_cell_o {G : xs_G} {st : xs_S} {k ci : Nat} {sl : List (Option Nat)} (h : xs_sh k = some (.inr (ci, sl))) : xs_cell G st k = .inr (ci, xs_fs G.1 (st k) 0 sl) := by
  unfold xs_cell
  rw [xs_shg_s h]
theorem xs_cell_a {G : xs_G} {st : xs_S} {k t n : Nat} (h : xs_shg G k = some (.inl (t, n))) (ht : Nat.ble 3 t = false) : xs_cell G st k = .inl (G.2.2.1 t, n, .inl (st k)) := by
  unfold xs_cell
  rw [h]
  dsimp only
  rw [ht]
  rfl
theorem xs_cell_r {G : xs_G} {st : xs_S} {k t n : Nat} (h : xs_shg G k = some (.inl (t, n))) (ht : Nat.ble 3 t = true) : xs_cell G st k = .inl (G.2.2.1 3, n, .inr (.inr (.inr (.inr (fun j => bif Nat.blt j n then some (G.1 (t + 6 * j)) else none))))) := by
  unfold xs_cell
  rw [h]
  dsimp only
  rw [ht]
  rfl
def xs_fnd : List (Nat × Nat × Bool) → Nat → Option (Nat × Bool)
  | [], _ => none
  | q :: t, z => bif Nat.beq q.1 z then some q.2 else xs_fnd t z
theorem xs_fnd_mem {z : Nat} {x : Nat × Bool} : ∀ {l : List (Nat × Nat × Bool)}, xs_fnd l z = some x → (z, x) ∈ l := by
  intro l
  induction l with
  | nil => intro h; cases h
  | cons q t ih =>
    intro h
    unfold xs_fnd at h
    cases hb : Nat.beq q.1 z with
    | false => rw [hb] at h; exact List.mem_cons_of_mem _ (ih h)
    | true =>
      rw [hb] at h
      have h1 : some q.2 = some x := h
      cases h1
      have h2 := Nat.eq_of_beq_eq_true hb
      subst h2
      exact List.mem_cons_self
def xs_good (M : xs_M) : Prop := xs_MOK M ∧ xs_fok (xm_ci M) (xm_own M)
section XM
variable {G : xs_G} {base d : Nat} {M : xs_M} {pc n t : Nat} {lit : Int32} {lv : List (Nat × Value)} {rest : List Value} {st : xs_S} {Q : xs_Z}
theorem xr_geti {z k i : Nat} {b : Bool} {sl : List (Option Nat)} (hM : xs_good M) (hlk : xs_lk (xm_tb M) pc = some (.getfield z, 3, lit, t)) (hsh : xs_sh k = some (.inr (xm_ci M, sl))) (hf : xs_fnd (xs_fld (xm_ci M)) z = some (i, b)) (hs : xs_nth sl i = some none) (hk : xs_R G base d M (pc + 3, lv, .int (st k i) :: rest, st) Q) : xs_R G base d M (pc, lv, .ref k :: rest, st) Q := by
  intro p l e s m args below meth c H locs ls hF hK hS hP hl
  obtain ⟨hx, hb, hr, hml, hown, hts, hlocks⟩ := hF
  have hdg := (xs_dec hM.1 hlk).1
  obtain ⟨T, N, ty, h1, h2, h3, h4, h5, h6, -⟩ := hM.2 _ (xs_fnd_mem hf)
  have h9 := xs_fs_int (ad := G.1) (f := st k) (j := 0) (by rw [← xs_nth_get]; exact hs)
  rw [Nat.zero_add] at h9
  have he := xs_ws_at (G := G) (st := st) (xs_sh_lt hK.1 hsh)
  rw [xs_cell_o hsh] at he
  exact va_get hx hb hts h2 hown hK.2.1 hP k he h1 i h5 (hts _ h6) (fun _ h => h) h9 hdg (hk p l e s m args below meth c H locs ls ⟨hx, hb, hr, hml, hown, hts, hlocks⟩ hK hS hP hl)
theorem xr_getr {z k i o : Nat} {b : Bool} {sl : List (Option Nat)} (hM : xs_good M) (hlk : xs_lk (xm_tb M) pc = some (.getfield z, 3, lit, t)) (hsh : xs_sh k = some (.inr (xm_ci M, sl))) (hf : xs_fnd (xs_fld (xm_ci M)) z = some (i, b)) (hs : xs_nth sl i = some (some o)) (hk : xs_R G base d M (pc + 3, lv, .ref o :: rest, st) Q) : xs_R G base d M (pc, lv, .ref k :: rest, st) Q := by
  intro p l e s m args below meth c H locs ls hF hK hS hP hl
  obtain ⟨hx, hb, hr, hml, hown, hts, hlocks⟩ := hF
  have hdg := (xs_dec hM.1 hlk).1
  obtain ⟨T, N, ty, h1, h2, h3, h4, h5, h6, -⟩ := hM.2 _ (xs_fnd_mem hf)
  have h9 := xs_fs_ref (ad := G.1) (f := st k) (j := 0) (by rw [← xs_nth_get]; exact hs)
  have he := xs_ws_at (G := G) (st := st) (xs_sh_lt hK.1 hsh)
  rw [xs_cell_o hsh] at he
  exact va_get hx hb hts h2 hown hK.2.1 hP k he h1 i h5 (hts _ h6) (fun _ h => h) h9 hdg (hk p l e s m args below meth c H locs ls ⟨hx, hb, hr, hml, hown, hts, hlocks⟩ hK hS hP hl)
theorem xs_fs_len {ad : Nat → Nat} {f : Nat → Int32} : ∀ {fl : List (Option Nat)} {j : Nat}, (xs_fs ad f j fl).length = fl.length := by
  intro fl
  induction fl with
  | nil => intro j; rfl
  | cons a t ih => intro j; cases a <;> (show (xs_fs ad f (j + 1) t).length + 1 = _; rw [ih]; rfl)
theorem xr_puti {z k i : Nat} {v : Int32} {sl : List (Option Nat)} (hM : xs_good M) (hlk : xs_lk (xm_tb M) pc = some (.putfield z, 3, lit, t)) (hsh : xs_sh k = some (.inr (xm_ci M, sl))) (hf : xs_fnd (xs_fld (xm_ci M)) z = some (i, true)) (hs : xs_nth sl i = some none) (hk : xs_R G base d M (pc + 3, lv, rest, xs_u st k i v) Q) : xs_R G base d M (pc, lv, .int v :: .ref k :: rest, st) Q := by
  intro p l e s m args below meth c H locs ls hF hK hS hP hl
  obtain ⟨hx, hb, hr, hml, hown, hts, hlocks⟩ := hF
  have hdg := (xs_dec hM.1 hlk).1
  obtain ⟨T, N, ty, h1, h2, h3, h4, h5, h6, h7⟩ := hM.2 _ (xs_fnd_mem hf)
  obtain ⟨g1, g2⟩ := h7 rfl
  have he := xs_ws_at (G := G) (st := st) (xs_sh_lt hK.1 hsh)
  rw [xs_cell_o hsh] at he
  have hs1 : sl[i]? = some none := by rw [← xs_nth_get]; exact hs
  refine va_put (v := .int v) hx hb hts h2 ty h3 h4 hown hK.2.1 hP (xs_D hK.1) hS k he h1 i h5 (hts _ h6) (fun _ h => h) g1 g2 rfl rfl (by rw [xs_fs_len]; exact (List.getElem?_eq_some_iff.mp hs1).1) hdg (fun H1 locs1 hP1 _ hS1 => ?_)
  rw [xs_ws_set (f := xs_uf (st k) i v) (xs_sh_lt hK.1 hsh) (by rw [xs_cell_o hsh, xs_fs_set hs1, xs_ur_s, Nat.zero_add])] at hP1
  exact hk p l e s m args below meth c H1 locs1 ls ⟨hx, hb, hr, hml, hown, hts, hlocks⟩ hK hS1 hP1 hl
theorem xr_putc {z k i : Nat} {v : Int32} {b : Bool} {sl : List (Option Nat)} (hM : xs_good M) (hlk : xs_lk (xm_tb M) pc = some (.putfield z, 3, lit, t)) (hsh : xs_sh k = some (.inr (xm_ci M, sl))) (hf : xs_fnd (xs_fld (xm_ci M)) z = some (i, b)) (hs : xs_nth sl i = some none) (hc : ∀ (T : u_T) (N : Nat), vwCl[xm_ci M]? = some (xm_own M, T, N) → (T i).2.2.2 = false ∧ parseFieldDescriptor (T i).2.2.1 = some .char) (hn : narrow .char (.int v) = .int v) (hfit : fits .char (.int v) = true) (hk : xs_R G base d M (pc + 3, lv, rest, xs_u st k i v) Q) : xs_R G base d M (pc, lv, .int v :: .ref k :: rest, st) Q := by
  intro p l e s m args below meth c H locs ls hF hK hS hP hl
  obtain ⟨hx, hb, hr, hml, hown, hts, hlocks⟩ := hF
  have hdg := (xs_dec hM.1 hlk).1
  obtain ⟨T, N, ty, h1, h2, h3, h4, h5, h6, h7⟩ := hM.2 _ (xs_fnd_mem hf)
  obtain ⟨g1, g2⟩ := hc T N h1
  have he := xs_ws_at (G := G) (st := st) (xs_sh_lt hK.1 hsh)
  rw [xs_cell_o hsh] at he
  have hs1 : sl[i]? = some none := by rw [← xs_nth_get]; exact hs
  refine va_put (v := .int v) hx hb hts h2 ty h3 h4 hown hK.2.1 hP (xs_D hK.1) hS k he h1 i h5 (hts _ h6) (fun _ h => h) g1 g2 hn hfit (by rw [xs_fs_len]; exact (List.getElem?_eq_some_iff.mp hs1).1) hdg (fun H1 locs1 hP1 _ hS1 => ?_)
  rw [xs_ws_set (f := xs_uf (st k) i v) (xs_sh_lt hK.1 hsh) (by rw [xs_cell_o hsh, xs_fs_set hs1, xs_ur_s, Nat.zero_add])] at hP1
  exact hk p l e s m args below meth c H1 locs1 ls ⟨hx, hb, hr, hml, hown, hts, hlocks⟩ hK hS1 hP1 hl
theorem xs_in {i : Int32} {j n : Nat} (hi : i.toInt = (j : Int)) (hj : j < n) : vp_in i n := vp_in_iff.mpr ⟨by omega, by omega⟩
theorem xs_cl {i : Int32} {j : Nat} (hi : i.toInt = (j : Int)) : i.toNatClampNeg = j := by
  show i.toInt.toNat = j
  omega
theorem xr_iald {k m0 : Nat} {i : Int32} (hM : xs_good M) (hlk : xs_lk (xm_tb M) pc = some (.iaload, 1, lit, t)) (hsh : xs_shg G k = some (.inl (0, m0))) (j : Nat) (hi : i.toInt = (j : Int)) (hj : j < m0) (hk : xs_R G base d M (pc + 1, lv, .int (st k j) :: rest, st) Q) : xs_R G base d M (pc, lv, .int i :: .ref k :: rest, st) Q := by
  intro p l e s m args below meth c H locs ls hF hK hS hP hl
  obtain ⟨hx, hb, hr, hml, hown, hts, hlocks⟩ := hF
  have hdg := (xs_dec hM.1 hlk).1
  have he := xs_ws_at (G := G) (st := st) (xs_shg_lt hK.1 hsh)
  rw [xs_cell_a hsh rfl] at he
  refine va_iald hx hb hK.2.1 hP k 0 he rfl (xs_in hi hj) hdg ?_
  rw [xs_cl hi]
  exact hk p l e s m args below meth c H locs ls ⟨hx, hb, hr, hml, hown, hts, hlocks⟩ hK hS hP hl
theorem xr_zald {k m0 : Nat} {i : Int32} (hM : xs_good M) (hlk : xs_lk (xm_tb M) pc = some (.baload, 1, lit, t)) (hsh : xs_shg G k = some (.inl (1, m0))) (j : Nat) (hi : i.toInt = (j : Int)) (hj : j < m0) (hk : xs_R G base d M (pc + 1, lv, .int (st k j) :: rest, st) Q) : xs_R G base d M (pc, lv, .int i :: .ref k :: rest, st) Q := by
  intro p l e s m args below meth c H locs ls hF hK hS hP hl
  obtain ⟨hx, hb, hr, hml, hown, hts, hlocks⟩ := hF
  have hdg := (xs_dec hM.1 hlk).1
  have he := xs_ws_at (G := G) (st := st) (xs_shg_lt hK.1 hsh)
  rw [xs_cell_a hsh rfl] at he
  refine va_zald hx hb hK.2.1 hP k 1 he rfl (xs_in hi hj) hdg ?_
  rw [xs_cl hi]
  exact hk p l e s m args below meth c H locs ls ⟨hx, hb, hr, hml, hown, hts, hlocks⟩ hK hS hP hl
theorem xr_cald {k m0 : Nat} {i : Int32} (hM : xs_good M) (hlk : xs_lk (xm_tb M) pc = some (.caload, 1, lit, t)) (hsh : xs_shg G k = some (.inl (2, m0))) (j : Nat) (hi : i.toInt = (j : Int)) (hj : j < m0) (hk : xs_R G base d M (pc + 1, lv, .int (st k j) :: rest, st) Q) : xs_R G base d M (pc, lv, .int i :: .ref k :: rest, st) Q := by
  intro p l e s m args below meth c H locs ls hF hK hS hP hl
  obtain ⟨hx, hb, hr, hml, hown, hts, hlocks⟩ := hF
  have hdg := (xs_dec hM.1 hlk).1
  have he := xs_ws_at (G := G) (st := st) (xs_shg_lt hK.1 hsh)
  rw [xs_cell_a hsh rfl] at he
  refine va_cald hx hb hK.2.1 hP k 2 he rfl (xs_in hi hj) hdg ?_
  rw [xs_cl hi]
  exact hk p l e s m args below meth c H locs ls ⟨hx, hb, hr, hml, hown, hts, hlocks⟩ hK hS hP hl
theorem xr_iast {k m0 : Nat} {i v : Int32} (hM : xs_good M) (hlk : xs_lk (xm_tb M) pc = some (.iastore, 1, lit, t)) (hsh : xs_shg G k = some (.inl (0, m0))) (j : Nat) (hi : i.toInt = (j : Int)) (hj : j < m0) (hk : xs_R G base d M (pc + 1, lv, rest, xs_u st k j v) Q) : xs_R G base d M (pc, lv, .int v :: .int i :: .ref k :: rest, st) Q := by
  intro p l e s m args below meth c H locs ls hF hK hS hP hl
  obtain ⟨hx, hb, hr, hml, hown, hts, hlocks⟩ := hF
  have hdg := (xs_dec hM.1 hlk).1
  have he := xs_ws_at (G := G) (st := st) (xs_shg_lt hK.1 hsh)
  rw [xs_cell_a hsh rfl] at he
  refine va_iast hx hb hK.2.1 hP (xs_D hK.1) hS k 0 he rfl (xs_in hi hj) hdg (fun H1 locs1 hP1 _ hS1 => ?_)
  rw [xs_cl hi, xs_ws_set (f := xs_uf (st k) j v) (xs_shg_lt hK.1 hsh) (by rw [xs_cell_a hsh rfl, xs_ur_s, xs_uf_upd])] at hP1
  exact hk p l e s m args below meth c H1 locs1 ls ⟨hx, hb, hr, hml, hown, hts, hlocks⟩ hK hS1 hP1 hl
theorem xr_zast {k m0 : Nat} {i v : Int32} (hM : xs_good M) (hlk : xs_lk (xm_tb M) pc = some (.bastore, 1, lit, t)) (hsh : xs_shg G k = some (.inl (1, m0))) (j : Nat) (hi : i.toInt = (j : Int)) (hj : j < m0) (hn : vp_nar .boolean v = v) (hk : xs_R G base d M (pc + 1, lv, rest, xs_u st k j v) Q) : xs_R G base d M (pc, lv, .int v :: .int i :: .ref k :: rest, st) Q := by
  intro p l e s m args below meth c H locs ls hF hK hS hP hl
  obtain ⟨hx, hb, hr, hml, hown, hts, hlocks⟩ := hF
  have hdg := (xs_dec hM.1 hlk).1
  have he := xs_ws_at (G := G) (st := st) (xs_shg_lt hK.1 hsh)
  rw [xs_cell_a hsh rfl] at he
  refine va_zast hx hb hK.2.1 hP (xs_D hK.1) hS k 1 he rfl (xs_in hi hj) hdg (fun H1 locs1 hP1 _ hS1 => ?_)
  rw [xs_cl hi, hn, xs_ws_set (f := xs_uf (st k) j v) (xs_shg_lt hK.1 hsh) (by rw [xs_cell_a hsh rfl, xs_ur_s, xs_uf_upd])] at hP1
  exact hk p l e s m args below meth c H1 locs1 ls ⟨hx, hb, hr, hml, hown, hts, hlocks⟩ hK hS1 hP1 hl
theorem xr_cast {k m0 : Nat} {i v : Int32} (hM : xs_good M) (hlk : xs_lk (xm_tb M) pc = some (.castore, 1, lit, t)) (hsh : xs_shg G k = some (.inl (2, m0))) (j : Nat) (hi : i.toInt = (j : Int)) (hj : j < m0) (hn : vp_nar .char v = v) (hk : xs_R G base d M (pc + 1, lv, rest, xs_u st k j v) Q) : xs_R G base d M (pc, lv, .int v :: .int i :: .ref k :: rest, st) Q := by
  intro p l e s m args below meth c H locs ls hF hK hS hP hl
  obtain ⟨hx, hb, hr, hml, hown, hts, hlocks⟩ := hF
  have hdg := (xs_dec hM.1 hlk).1
  have he := xs_ws_at (G := G) (st := st) (xs_shg_lt hK.1 hsh)
  rw [xs_cell_a hsh rfl] at he
  refine va_cast hx hb hK.2.1 hP (xs_D hK.1) hS k 2 he rfl (xs_in hi hj) hdg (fun H1 locs1 hP1 _ hS1 => ?_)
  rw [xs_cl hi, hn, xs_ws_set (f := xs_uf (st k) j v) (xs_shg_lt hK.1 hsh) (by rw [xs_cell_a hsh rfl, xs_ur_s, xs_uf_upd])] at hP1
  exact hk p l e s m args below meth c H1 locs1 ls ⟨hx, hb, hr, hml, hown, hts, hlocks⟩ hK hS1 hP1 hl
theorem xr_aald {k m0 o : Nat} {i : Int32} (hM : xs_good M) (hlk : xs_lk (xm_tb M) pc = some (.aaload, 1, lit, t)) (hsh : xs_shg G k = some (.inl (o, m0))) (ho : Nat.ble 3 o = true) (j : Nat) (hi : i.toInt = (j : Int)) (hj : j < m0) (hk : xs_R G base d M (pc + 1, lv, .ref (o + 6 * j) :: rest, st) Q) : xs_R G base d M (pc, lv, .int i :: .ref k :: rest, st) Q := by
  intro p l e s m args below meth c H locs ls hF hK hS hP hl
  obtain ⟨hx, hb, hr, hml, hown, hts, hlocks⟩ := hF
  have hdg := (xs_dec hM.1 hlk).1
  have he := xs_ws_at (G := G) (st := st) (xs_shg_lt hK.1 hsh)
  rw [xs_cell_r hsh ho] at he
  refine va_aldq hx hb hK.2.1 hP k 3 he rfl (xs_in hi hj) hdg ?_
  rw [xs_cl hi, xs_bltT hj, cond_true]
  exact hk p l e s m args below meth c H locs ls ⟨hx, hb, hr, hml, hown, hts, hlocks⟩ hK hS hP hl
def xs_cp15 (f g : Nat → Int32) : Nat → Int32 := fun j => bif Nat.blt j 15 then f j else g j
theorem xs_cp15_eq {f g : Nat → Int32} : va_cpy f g 0 0 15 = xs_cp15 f g := by
  funext j
  unfold va_cpy xs_cp15
  by_cases h : j < 15
  · rw [if_pos ⟨Nat.zero_le _, by omega⟩, show Nat.blt j 15 = true from Nat.ble_eq_true_of_le h, Nat.zero_add, Nat.sub_zero]
    rfl
  · rw [if_neg (by omega)]
    have h1 : Nat.blt j 15 = false := by
      cases hb : Nat.blt j 15 with
      | false => rfl
      | true => exact absurd (Nat.le_of_ble_eq_true hb) (by omega)
    rw [h1]
    rfl
theorem xr_acopy {z a0 b0 : Nat} (hM : xs_good M) (hlk : xs_lk (xm_tb M) pc = some (.invokestatic z, 3, lit, t)) (hw : Jvm.Cond.methodLink (xm_own M) z arraycopyName ∈ xw) (ha : xs_shg G a0 = some (.inl (0, 15))) (hb0 : xs_shg G b0 = some (.inl (0, 15))) (hrest : rest = []) (hd : Nat.ble 1 d = true) (hk : xs_R G base d M (pc + 3, lv, rest, xs_ur st b0 (xs_cp15 (st a0) (st b0))) Q) : xs_R G base d M (pc, lv, .int 15 :: .int 0 :: .ref b0 :: .int 0 :: .ref a0 :: rest, st) Q := by
  subst hrest
  intro p l e s m args below meth c H locs ls hF hK hS hP hl
  obtain ⟨hx, hb, hr, hml, hown, hts, hlocks⟩ := hF
  have hdg := (xs_dec hM.1 hlk).1
  have hd1 := Nat.le_of_ble_eq_true hd
  have he0 := xs_ws_at (G := G) (st := st) (xs_shg_lt hK.1 ha)
  rw [xs_cell_a ha rfl] at he0
  have he1 := xs_ws_at (G := G) (st := st) (xs_shg_lt hK.1 hb0)
  rw [xs_cell_a hb0 rfl] at he1
  have hnf : nativeFrameWords "java/lang/System" "arraycopy" 5 + 11 ≤ 30 := by decide +kernel
  refine va_copyi (sp := 0) (dp := 0) (n := 15) (ty := .int) hx hb (by rw [hml]; exact hl.1.symm) hown (hts _ hw) (hts _ xs_w_acn) (hts _ xs_w_acs) (hts _ xs_w_aci) hK.2.1 hP (xs_D hK.1) hS a0 b0 0 0 he0 he1 rfl rfl rfl (by decide) (by decide) (by decide) (by decide) (by decide) (fun _ _ => rfl) hd1 (by show 0 + (nativeFrameWords "java/lang/System" "arraycopy" 5 + 11) ≤ 36 * d; omega) hdg (fun H1 locs1 hP1 _ hS1 => ?_)
  have e15 : (15 : Int32).toNatClampNeg = 15 := by decide
  have e0 : (0 : Int32).toNatClampNeg = 0 := by decide
  rw [e15, e0, xs_cp15_eq, xs_ws_set (f := xs_cp15 (st a0) (st b0)) (xs_shg_lt hK.1 hb0) (by rw [xs_cell_a hb0 rfl, xs_ur_s])] at hP1
  exact hk p l e s m args below meth c H1 locs1 ls ⟨hx, hb, hr, hml, hown, hts, hlocks⟩ hK hS1 hP1 hl
theorem xr_max {z : Nat} {x y : Int32} (hM : xs_good M) (hlk : xs_lk (xm_tb M) pc = some (.invokestatic z, 3, lit, t)) (hw : Jvm.Cond.methodLink (xm_own M) z Lib.Math.max.name ∈ xw) (hrest : Nat.ble ((rest.map fun v => v.category).sum) 17 = true) (hd : Nat.ble 1 d = true) (hk : xs_R G base d M (pc + 3, lv, .int (if x < y then y else x) :: rest, st) Q) : xs_R G base d M (pc, lv, .int y :: .int x :: rest, st) Q := by
  intro p l e s m args below meth c H locs ls hF hK hS hP hl
  obtain ⟨hx, hb, hr, hml, hown, hts, hlocks⟩ := hF
  have hdg := (xs_dec hM.1 hlk).1
  have hd1 := Nat.le_of_ble_eq_true hd
  have hr1 := Nat.le_of_ble_eq_true hrest
  refine va_mmax hx hb (by rw [hml]; exact hl.1.symm) hown (hts _ hw) (hts _ xs_w_mxs) (hts _ xs_w_mxi) (hts _ xs_w_mxc) hd1 (by rw [xs_v_sum]; show _ ≤ 36 * d; omega) hK.1.2.2.2.1 hK.1.2.2.2.2 hdg (hk p l e s m args below meth c H locs ls ⟨hx, hb, hr, hml, hown, hts, hlocks⟩ hK hS hP hl)
def xs_cnd (i : Instr) (stk : List Value) : Option (Prop × Prop × List Value) := match i with
  | .ifCond .eq _ => match stk with
    | .int x :: rest => some (x = 0, ¬ x = 0, rest)
    | _ => none
  | .ifCond .ne _ => match stk with
    | .int x :: rest => some (¬ x = 0, x = 0, rest)
    | _ => none
  | .ifCond .lt _ => match stk with
    | .int x :: rest => some (x < 0, ¬ x < 0, rest)
    | _ => none
  | .ifCond .ge _ => match stk with
    | .int x :: rest => some (0 ≤ x, ¬ 0 ≤ x, rest)
    | _ => none
  | .ifCond .gt _ => match stk with
    | .int x :: rest => some (0 < x, ¬ 0 < x, rest)
    | _ => none
  | .ifCond .le _ => match stk with
    | .int x :: rest => some (x ≤ 0, ¬ x ≤ 0, rest)
    | _ => none
  | .if_icmp .eq _ => match stk with
    | .int y :: .int x :: rest => some (x = y, ¬ x = y, rest)
    | _ => none
  | .if_icmp .ne _ => match stk with
    | .int y :: .int x :: rest => some (¬ x = y, x = y, rest)
    | _ => none
  | .if_icmp .lt _ => match stk with
    | .int y :: .int x :: rest => some (x < y, ¬ x < y, rest)
    | _ => none
  | .if_icmp .ge _ => match stk with
    | .int y :: .int x :: rest => some (y ≤ x, ¬ y ≤ x, rest)
    | _ => none
  | .if_icmp .gt _ => match stk with
    | .int y :: .int x :: rest => some (y < x, ¬ y < x, rest)
    | _ => none
  | .if_icmp .le _ => match stk with
    | .int y :: .int x :: rest => some (x ≤ y, ¬ x ≤ y, rest)
    | _ => none
  | .ifnull _ => match stk with
    | .ref _ :: rest => some (False, True, rest)
    | _ => none
  | .ifnonnull _ => match stk with
    | .ref _ :: rest => some (True, False, rest)
    | _ => none
  | _ => none
theorem xr_br {i : Instr} {stk : List Value} {P N : Prop} (hM : xs_good M) (hlk : xs_lk (xm_tb M) pc = some (i, 3, lit, t)) (hc : xs_cnd i stk = some (P, N, rest)) (ht : P → xs_R G base d M (t, lv, rest, st) Q) (hf : N → xs_R G base d M (pc + 3, lv, rest, st) Q) : xs_R G base d M (pc, lv, stk, st) Q := by
  intro p l e s m args below meth c H locs ls hF hK hS hP hl
  obtain ⟨hx, hb, hr, hml, hown, hts, hlocks⟩ := hF
  obtain ⟨hdg, hli⟩ := xs_dec hM.1 hlk
  have gt := fun h => ht h p l e s m args below meth c H locs ls ⟨hx, hb, hr, hml, hown, hts, hlocks⟩ hK hS hP hl
  have gf := fun h => hf h p l e s m args below meth c H locs ls ⟨hx, hb, hr, hml, hown, hts, hlocks⟩ hK hS hP hl
  unfold xs_cnd at hc
  split at hc
  · split at hc
    · cases hc; exact lv_if_eq hx hb hdg (of_decide_eq_true hli) gt gf
    · cases hc
  · split at hc
    · cases hc; exact lv_if_ne hx hb hdg (of_decide_eq_true hli) gt gf
    · cases hc
  · split at hc
    · cases hc; exact lv_if_lt hx hb hdg (of_decide_eq_true hli) gt gf
    · cases hc
  · split at hc
    · cases hc; exact lv_if_ge hx hb hdg (of_decide_eq_true hli) gt gf
    · cases hc
  · split at hc
    · cases hc; exact lv_if_gt hx hb hdg (of_decide_eq_true hli) gt gf
    · cases hc
  · split at hc
    · cases hc; exact lv_if_le hx hb hdg (of_decide_eq_true hli) gt gf
    · cases hc
  · split at hc
    · cases hc; exact lv_icmp_eq hx hb hdg (of_decide_eq_true hli) gt gf
    · cases hc
  · split at hc
    · cases hc; exact lv_icmp_ne hx hb hdg (of_decide_eq_true hli) gt gf
    · cases hc
  · split at hc
    · cases hc; exact lv_icmp_lt hx hb hdg (of_decide_eq_true hli) gt gf
    · cases hc
  · split at hc
    · cases hc; exact lv_icmp_ge hx hb hdg (of_decide_eq_true hli) gt gf
    · cases hc
  · split at hc
    · cases hc; exact lv_icmp_gt hx hb hdg (of_decide_eq_true hli) gt gf
    · cases hc
  · split at hc
    · cases hc; exact lv_icmp_le hx hb hdg (of_decide_eq_true hli) gt gf
    · cases hc
  · split at hc
    · cases hc; exact lv_ifnull hx hb hdg (gf trivial)
    · cases hc
  · split at hc
    · cases hc; exact lv_ifnonnull hx hb hdg (of_decide_eq_true hli) (gt trivial)
    · cases hc
  · cases hc
theorem xr_swo {lo hi df : Int} {offs : Array Int} {x : Int32} {tgt : Nat} (hM : xs_good M) (hlk : xs_lk (xm_tb M) pc = some (.tableswitch df lo hi offs, n, lit, t)) (h : x.toInt < lo ∨ hi < x.toInt) (ht : (pc : Int) + df = (tgt : Int)) (hk : xs_R G base d M (tgt, lv, rest, st) Q) : xs_R G base d M (pc, lv, .int x :: rest, st) Q := by
  intro p l e s m args below meth c H locs ls hF hK hS hP hl
  obtain ⟨hx, hb, hr, hml, hown, hts, hlocks⟩ := hF
  have hdg := (xs_dec hM.1 hlk).1
  exact lv_tableOut hx hb hdg h ht (hk p l e s m args below meth c H locs ls ⟨hx, hb, hr, hml, hown, hts, hlocks⟩ hK hS hP hl)
theorem xr_swi {lo hi df off : Int} {offs : Array Int} {x : Int32} {tgt : Nat} (hM : xs_good M) (hlk : xs_lk (xm_tb M) pc = some (.tableswitch df lo hi offs, n, lit, t)) (i : Nat) (h : x.toInt = lo + (i : Int)) (hh : lo + (i : Int) ≤ hi) (ho : offs[i]? = some off) (ht : (pc : Int) + off = (tgt : Int)) (hk : xs_R G base d M (tgt, lv, rest, st) Q) : xs_R G base d M (pc, lv, .int x :: rest, st) Q := by
  intro p l e s m args below meth c H locs ls hF hK hS hP hl
  obtain ⟨hx, hb, hr, hml, hown, hts, hlocks⟩ := hF
  have hdg := (xs_dec hM.1 hlk).1
  exact lv_tableIn hx hb hdg (by omega) (by omega) (by rw [show (x.toInt - lo).toNat = i by omega]; exact ho) ht (hk p l e s m args below meth c H locs ls ⟨hx, hb, hr, hml, hown, hts, hlocks⟩ hK hS hP hl)
theorem xs_end {p : Program} {l : Launch} {e : Env} {s : State} {m : MethodId} {args : Array Value} {below : List Frame} {meth : Method} {c : Code} {H : Heap} {locs : List Loc} {g : JFrame} (hK : xs_ok G base) (k : W p l e (xs_rm G d) s m args below meth c H locs (gmc G) (gms G) (MQ below (xs_Q base Q) args s (gmc G) (gms G) (fun q => base ≤ q)) g) : W p l e (xs_rm G d) s m args below meth c H locs (gc G) (gs G) (MQ below (xs_Q base Q) args s (gmc G) (gms G) (fun q => base ≤ q)) g := W.widen hK.2.2.2.1 hK.2.2.2.2 k
theorem xr_iretZ {x : Int32} (hM : xs_good M) (hlk : xs_lk (xm_tb M) pc = some (.ireturn, 1, lit, t)) (hret : xm_ret M = some .int) (hq : Q G (some (.int x)) st) : xs_R G base d M (pc, lv, [.int x], st) Q := by
  intro p l e s m args below meth c H locs ls hF hK hS hP hl
  obtain ⟨hx, hb, hr, hml, hown, hts, hlocks⟩ := hF
  have hdg := (xs_dec hM.1 hlk).1
  exact xs_end hK.1 (W.iret hx hb (by rw [hr, hret]) (fun t ht hW => ⟨⟨G, some (.int x), st, rfl, hq, hK.1, by rw [ht]; exact hP⟩, hS.F ht⟩) hS.2.2 hdg)
theorem xr_iret {G0 : xs_G} {x : Int32} {Q : Option Value → xs_S → Prop} (hM : xs_good M) (hlk : xs_lk (xm_tb M) pc = some (.ireturn, 1, lit, t)) (hret : xm_ret M = some .int) (hq : Q (some (.int x)) st) (hle : xs_le G0 G := by exact xs_le_r) : xs_R G base d M (pc, lv, [.int x], st) (xs_q G0 Q) := xr_iretZ hM hlk hret ⟨hle, rfl, hq⟩
theorem xr_lretZ {x : Int64} (hM : xs_good M) (hlk : xs_lk (xm_tb M) pc = some (.lreturn, 1, lit, t)) (hret : xm_ret M = some .long) (hq : Q G (some (.long x)) st) : xs_R G base d M (pc, lv, [.long x], st) Q := by
  intro p l e s m args below meth c H locs ls hF hK hS hP hl
  obtain ⟨hx, hb, hr, hml, hown, hts, hlocks⟩ := hF
  have hdg := (xs_dec hM.1 hlk).1
  exact xs_end hK.1 (W.lret hx hb (by rw [hr, hret]) (fun t ht hW => ⟨⟨G, some (.long x), st, rfl, hq, hK.1, by rw [ht]; exact hP⟩, hS.F ht⟩) hS.2.2 hdg)
theorem xr_lret {G0 : xs_G} {x : Int64} {Q : Option Value → xs_S → Prop} (hM : xs_good M) (hlk : xs_lk (xm_tb M) pc = some (.lreturn, 1, lit, t)) (hret : xm_ret M = some .long) (hq : Q (some (.long x)) st) (hle : xs_le G0 G := by exact xs_le_r) : xs_R G base d M (pc, lv, [.long x], st) (xs_q G0 Q) := xr_lretZ hM hlk hret ⟨hle, rfl, hq⟩
theorem xr_fretZ {x : UInt32} (hM : xs_good M) (hlk : xs_lk (xm_tb M) pc = some (.freturn, 1, lit, t)) (hret : xm_ret M = some .float) (hq : Q G (some (.float x)) st) : xs_R G base d M (pc, lv, [.float x], st) Q := by
  intro p l e s m args below meth c H locs ls hF hK hS hP hl
  obtain ⟨hx, hb, hr, hml, hown, hts, hlocks⟩ := hF
  have hdg := (xs_dec hM.1 hlk).1
  exact xs_end hK.1 (W.fret hx hb (by rw [hr, hret]) (fun t ht hW => ⟨⟨G, some (.float x), st, rfl, hq, hK.1, by rw [ht]; exact hP⟩, hS.F ht⟩) hS.2.2 hdg)
theorem xr_fret {G0 : xs_G} {x : UInt32} {Q : Option Value → xs_S → Prop} (hM : xs_good M) (hlk : xs_lk (xm_tb M) pc = some (.freturn, 1, lit, t)) (hret : xm_ret M = some .float) (hq : Q (some (.float x)) st) (hle : xs_le G0 G := by exact xs_le_r) : xs_R G base d M (pc, lv, [.float x], st) (xs_q G0 Q) := xr_fretZ hM hlk hret ⟨hle, rfl, hq⟩
theorem xr_dretZ {x : UInt64} (hM : xs_good M) (hlk : xs_lk (xm_tb M) pc = some (.dreturn, 1, lit, t)) (hret : xm_ret M = some .double) (hq : Q G (some (.double x)) st) : xs_R G base d M (pc, lv, [.double x], st) Q := by
  intro p l e s m args below meth c H locs ls hF hK hS hP hl
  obtain ⟨hx, hb, hr, hml, hown, hts, hlocks⟩ := hF
  have hdg := (xs_dec hM.1 hlk).1
  exact xs_end hK.1 (W.dret hx hb (by rw [hr, hret]) (fun t ht hW => ⟨⟨G, some (.double x), st, rfl, hq, hK.1, by rw [ht]; exact hP⟩, hS.F ht⟩) hS.2.2 hdg)
theorem xr_dret {G0 : xs_G} {x : UInt64} {Q : Option Value → xs_S → Prop} (hM : xs_good M) (hlk : xs_lk (xm_tb M) pc = some (.dreturn, 1, lit, t)) (hret : xm_ret M = some .double) (hq : Q (some (.double x)) st) (hle : xs_le G0 G := by exact xs_le_r) : xs_R G base d M (pc, lv, [.double x], st) (xs_q G0 Q) := xr_dretZ hM hlk hret ⟨hle, rfl, hq⟩
theorem xr_zretZ {x : Int32} {ty : FieldType} (hM : xs_good M) (hlk : xs_lk (xm_tb M) pc = some (.ireturn, 1, lit, t)) (hret : xm_ret M = some ty) (hn : narrow ty (.int x) = .int x) (hq : Q G (some (.int x)) st) : xs_R G base d M (pc, lv, [.int x], st) Q := by
  intro p l e s m args below meth c H locs ls hF hK hS hP hl
  obtain ⟨hx, hb, hr, hml, hown, hts, hlocks⟩ := hF
  have hdg := (xs_dec hM.1 hlk).1
  exact xs_end hK.1 (W.zret hx hb (by rw [hr, hret]) hn (fun t ht hW => ⟨⟨G, some (.int x), st, rfl, hq, hK.1, by rw [ht]; exact hP⟩, hS.F ht⟩) hS.2.2 hdg)
theorem xr_zret {G0 : xs_G} {x : Int32} {ty : FieldType} {Q : Option Value → xs_S → Prop} (hM : xs_good M) (hlk : xs_lk (xm_tb M) pc = some (.ireturn, 1, lit, t)) (hret : xm_ret M = some ty) (hn : narrow ty (.int x) = .int x) (hq : Q (some (.int x)) st) (hle : xs_le G0 G := by exact xs_le_r) : xs_R G base d M (pc, lv, [.int x], st) (xs_q G0 Q) := xr_zretZ hM hlk hret hn ⟨hle, rfl, hq⟩
theorem xr_vretZ (hM : xs_good M) (hlk : xs_lk (xm_tb M) pc = some (.return_, 1, lit, t)) (hret : xm_ret M = none) (hq : Q G none st) : xs_R G base d M (pc, lv, [], st) Q := by
  intro p l e s m args below meth c H locs ls hF hK hS hP hl
  obtain ⟨hx, hb, hr, hml, hown, hts, hlocks⟩ := hF
  have hdg := (xs_dec hM.1 hlk).1
  exact xs_end hK.1 (W.vret hx hb (by rw [hr, hret]) (fun t ht hW => ⟨⟨G, none, st, rfl, hq, hK.1, by rw [ht]; exact hP⟩, hS.F ht⟩) hS.2.2 hdg)
theorem xr_vret {G0 : xs_G} {Q : Option Value → xs_S → Prop} (hM : xs_good M) (hlk : xs_lk (xm_tb M) pc = some (.return_, 1, lit, t)) (hret : xm_ret M = none) (hq : Q none st) (hle : xs_le G0 G := by exact xs_le_r) : xs_R G base d M (pc, lv, [], st) (xs_q G0 Q) := xr_vretZ hM hlk hret ⟨hle, rfl, hq⟩
theorem xr_aretZ {k : Nat} {ty : FieldType} (hM : xs_good M) (hlk : xs_lk (xm_tb M) pc = some (.areturn, 1, lit, t)) (hret : xm_ret M = some ty) (hty : (∃ n, ty = .object n) ∨ ∃ t, ty = .array t) (hq : Q G (some (.ref k)) st) : xs_R G base d M (pc, lv, [.ref k], st) Q := by
  intro p l e s m args below meth c H locs ls hF hK hS hP hl
  obtain ⟨hx, hb, hr, hml, hown, hts, hlocks⟩ := hF
  have hdg := (xs_dec hM.1 hlk).1
  exact xs_end hK.1 (W.aret hx hb (by rw [hr, hret]) hty (Or.inr ⟨_, rfl⟩) (fun t ht hW => ⟨⟨G, some (.ref k), st, rfl, hq, hK.1, by rw [ht]; exact hP⟩, hS.F ht⟩) hS.2.2 hdg)
theorem xr_aret {k : Nat} {ty : String} {Q : Option Value → xs_S → Prop} (hM : xs_good M) (hlk : xs_lk (xm_tb M) pc = some (.areturn, 1, lit, t)) (hret : xm_ret M = some (.object ty)) (hq : Q (some (.ref k)) st) : xs_R G base d M (pc, lv, [.ref k], st) (xs_q G Q) := xr_aretZ hM hlk hret (Or.inl ⟨_, rfl⟩) ⟨xs_le_r, rfl, hq⟩

theorem xs_v1 {G G' : xs_G} (h : G'.1 = G.1) (v : Value) : xs_v G' v = xs_v G v := by
  cases v <;> first | rfl | (show Value.ref _ = Value.ref _; rw [h])
/-- behind a call: what it leaves, in the world that it was called in -/
theorem xs_callZ {p : Program} {l : Launch} {e : Env} {s : State} {m : MethodId} {args : Array Value} {below : List Frame} {meth : Method} {c : Code} {H : Heap} {locs : List Loc} {ls : Array Slot} {st0 : List Value} {ar : Array Value} {a b : Nat} {Z' : xs_Z} (hS : va_S (fun q => base ≤ q) s.heap H locs)
    (hr : va_Run p l e (xs_rm G d) s m args below meth c H locs (gc G) (gs G) a b (F0 m pc ls st0) (rest.map (xs_v G)) (xs_Q base Z' ar) (fun q => base ≤ q))
    (hk : ∀ (G' : xs_G) (r : Option Value) (u : xs_S) (H1 : Heap) (locs1 : List Loc), Z' G' r u → xs_ok G' base → va_P G'.2.1 vwCl (xs_ws G' u) H1 → va_S (fun q => base ≤ q) s.heap H1 locs1 → W p l e (xs_rm G d) s m args below meth c H1 locs1 (gc G + a) (gs G + b) (MQ below (xs_Q base Q) args s (gmc G) (gms G) (fun q => base ≤ q)) (F0 m (pc + 3) ls ((r.map (xs_v G')).toList ++ rest.map (xs_v G)))) : W p l e (xs_rm G d) s m args below meth c H locs (gc G) (gs G) (MQ below (xs_Q base Q) args s (gmc G) (gms G) (fun q => base ≤ q)) (F0 m pc ls st0) := by
  intro T hT X
  obtain ⟨v, s0, t, T', L, h0, X', hL, e1, e2, ⟨⟨G', r, u, hv, hq, hok, hP⟩, hz, hkeep⟩, go⟩ := hr T hT X
  cases hv
  rw [h0] at hz hkeep
  have hS' : va_S (fun q => base ≤ q) s.heap T'.heap (locs ++ L) := by
    refine ⟨Nat.le_trans hS.1 (by rw [e1]; exact hz), fun q h1 h2 => ?_, fun q hq => ?_⟩
    · rw [e1, hkeep q (Nat.lt_of_lt_of_le h1 hS.1) h2]
      exact hS.2.1 q h1 h2
    · rcases List.mem_append.mp hq with h | h
      · exact hS.2.2 q h
      · exact hL q h
  obtain ⟨t2, a1, b1⟩ := hk G' r u T'.heap (locs ++ L) hq hok (by rw [e1]; exact hP) hS' T' rfl X'
  exact ⟨t2, go t2 a1, b1⟩
theorem xs_ws_c {G : xs_G} {a b : Nat × Nat} {u : xs_S} : xs_ws (G.1, G.2.1, G.2.2.1, G.2.2.2.1, a, b) u = xs_ws G u := rfl
theorem xs_callW {p : Program} {l : Launch} {e : Env} {s : State} {m : MethodId} {args : Array Value} {below : List Frame} {meth : Method} {c : Code} {H : Heap} {locs : List Loc} {ls : Array Slot} {st0 : List Value} {ar : Array Value} {a b : Nat} {Q' : Option Value → xs_S → Prop} (hF : xs_F M p s m args meth c) (hK : xs_Kn G base s) (hab : gc G + a ≤ gmc G ∧ gs G + b ≤ gms G) (hS : va_S (fun q => base ≤ q) s.heap H locs) (hl : lv_has ls (xm_nL M) (lv.map (fun q => (q.1, xs_v G q.2))))
    (hr : va_Run p l e (xs_rm G d) s m args below meth c H locs (gc G) (gs G) a b (F0 m pc ls st0) (rest.map (xs_v G)) (xs_Q base (xs_q (G.1, G.2.1, G.2.2.1, G.2.2.2.1, (a, b), (0, 0)) Q') ar) (fun q => base ≤ q))
    (hk : ∀ r u, Q' r u → xs_R (xw' G a b) base d M (pc + 3, lv, r.toList ++ rest, u) Q) : W p l e (xs_rm G d) s m args below meth c H locs (gc G) (gs G) (MQ below (xs_Q base Q) args s (gmc G) (gms G) (fun q => base ≤ q)) (F0 m pc ls st0) := by
  refine xs_callZ hS hr (fun G' r u H1 locs1 hZ hok hP1 hS1 => ?_)
  obtain ⟨hle, hv, hq⟩ := hZ
  have hP2 := xs_P_le hle hP1
  have hg := hk r u hq p l e s m args below meth c H1 locs1 ls hF (hK.made hab.1 hab.2) hS1 hP2 hl
  have e3 : (r.toList ++ rest).map (xs_v (xw' G a b)) = (r.map (xs_v G')).toList ++ rest.map (xs_v G) := by
    rw [hv, List.map_append]
    cases r <;> rfl
  dsimp only at hg
  rw [e3] at hg
  exact hg
theorem xs_callB {G' : xs_G} {s : State} {args : Array Value} {i d' : Nat} {N : xs_M} (hN : xs_MOK N) (hts : ∀ w ∈ xw, w.before args s = true) (hl : Jvm.Cond.methodLink (xm_own M) i (xm_y N) ∈ xw) (hd : d' + 1 ≤ d) : CallB (xs_rm G d) s args (xm_own M) i (xm_y N) (xm_c N) (xm_nL N) (xm_ret N) (xs_wsM N) (xs_rm G' d') (gmc G') (gms G') (xm_n N) := by
  have hG := gw_goodIn hN (fun _ h => h)
  obtain ⟨-, h2, ⟨-, h3, h4, h5, h6, h7⟩, h8⟩ := hN
  exact callB_of (ws' := xw) (xm_n N) hts hG rfl rfl rfl (by rw [h3]; exact hts _ h8) (hts _ hl) ⟨h4, h5, h7⟩ ⟨by show d' + 1 ≤ d; exact hd, by show 8 + (xm_nL N + 11) + 36 * d' ≤ 36 * d; omega⟩
theorem xs_blind {av : List Value} {st : xs_S} : FrameBlind (va_Pc (av.map (xs_v G)) (fun U => xs_Kn G base U ∧ va_P G.2.1 vwCl (xs_ws G st) U.heap)) := by
  intro a U g mk q
  obtain ⟨h1, h2, h3⟩ := q
  exact ⟨h1, xs_Kn.same (s := U) (U := U.calling g mk a) rfl rfl h2, h3⟩
theorem xr_callVm {i b0 d' a b : Nat} {N : xs_M} {av stk : List Value} {sl : List (Option Nat)} {T : u_T} {NN : Nat} {Q' : Option Value → xs_S → Prop} (hM : xs_good M) (hN : xs_good N) (hk : xs_kV (xm_own M) i N) (hlk : xs_lk (xm_tb M) pc = some (.invokevirtual i, 3, lit, t)) (hK' : xs_K (G.1, G.2.1, G.2.2.1, G.2.2.2.1, (a, b), (0, 0)) base d' N (.ref b0 :: av) st Q') (hd : d' + 1 ≤ d) (hstk : stk = av.reverse ++ .ref b0 :: rest) (hsh : xs_sh b0 = some (.inr (xm_ci N, sl))) (hcl : vwCl[xm_ci N]? = some (xm_own N, T, NN)) (hn : av.length = xm_n N) (hcat : Nat.ble ((rest.map fun v => v.category).sum) 8 = true) (hab : gc G + a ≤ gmc G ∧ gs G + b ≤ gms G) (kk : ∀ r u, Q' r u → xs_R (xw' G a b) base d M (pc + 3, lv, r.toList ++ rest, u) Q) : xs_R G base d M (pc, lv, stk, st) Q := by
  subst hstk
  intro p l e s m args below meth c H locs ls hF hK hS hP hl
  have hF' := hF
  obtain ⟨hx, hb, hr, hml, hown, hts, hlocks⟩ := hF
  have hdg := (xs_dec hM.1 hlk).1
  have he := xs_ws_at (G := G) (st := st) (xs_sh_lt hK.1 hsh)
  rw [xs_cell_o hsh] at he
  have hy := hN.1.2.2.1.2.1
  refine xs_callW (Q' := Q') (rest := rest) (lv := lv) (a := a) (b := b) (ar := (Value.ref (G.1 b0) :: av.map (xs_v G)).toArray) hF' hK hab hS hl ?_ kk
  refine va_runV (C := xm_own N) (n := xm_n N) (As := av.map (xs_v G)) (rest := rest.map (xs_v G)) (b := G.1 b0) (Ts := xw) ⟨hx, hb, hml, hown, hts⟩ (hK' l) ⟨xs_callB (G' := (G.1, G.2.1, G.2.2.1, G.2.2.2.1, (a, b), (0, 0))) hN.1 hts hk.1 hd, hts _ hk.2.1, hts _ hk.2.2⟩ ⟨xs_blind (G := (G.1, G.2.1, G.2.2.1, G.2.2.2.1, (a, b), (0, 0))), va_recv hK.2.1 hP hcl he, fun U hU hW => ⟨rfl, xs_Kn.warm hW hK.call (by rw [hU]; exact Nat.le_trans hK.2.2.2 hS.1), by rw [hU]; exact hP⟩⟩ rfl (by rw [List.length_map]; exact hn) hl.1 (by show ((av.reverse ++ Value.ref b0 :: rest).map (xs_v G)) = _; rw [List.map_append, List.map_reverse]; rfl) (lv_room (by rw [xs_v_sum]; exact Nat.le_of_ble_eq_true hcat)) hdg hab
theorem xr_callV {i b0 d' : Nat} {N : xs_M} {av stk : List Value} {sl : List (Option Nat)} {T : u_T} {NN : Nat} {Q' : Option Value → xs_S → Prop} (hM : xs_good M) (hN : xs_good N) (hk : xs_kV (xm_own M) i N) (hlk : xs_lk (xm_tb M) pc = some (.invokevirtual i, 3, lit, t)) (hK' : xs_K (xc G) base d' N (.ref b0 :: av) st Q') (hd : d' + 1 ≤ d) (hstk : stk = av.reverse ++ .ref b0 :: rest) (hsh : xs_sh b0 = some (.inr (xm_ci N, sl))) (hcl : vwCl[xm_ci N]? = some (xm_own N, T, NN)) (hn : av.length = xm_n N) (hcat : Nat.ble ((rest.map fun v => v.category).sum) 8 = true) (kk : ∀ r u, Q' r u → xs_R G base d M (pc + 3, lv, r.toList ++ rest, u) Q) : xs_R G base d M (pc, lv, stk, st) Q := by
  intro p l e s m args below meth c H locs ls hF hK
  exact xr_callVm (G := G) (a := 0) (b := 0) hM hN hk hlk hK' hd hstk hsh hcl hn hcat ⟨hK.1.2.2.2.1, hK.1.2.2.2.2⟩ kk p l e s m args below meth c H locs ls hF hK
theorem xr_callSm {i d' a b : Nat} {N : xs_M} {av stk : List Value} {Q' : Option Value → xs_S → Prop} (hM : xs_good M) (hN : xs_good N) (hk : xs_kS (xm_own M) i N) (hlk : xs_lk (xm_tb M) pc = some (.invokestatic i, 3, lit, t)) (hK' : xs_K (G.1, G.2.1, G.2.2.1, G.2.2.2.1, (a, b), (0, 0)) base d' N av st Q') (hd : d' + 1 ≤ d) (hstk : stk = av.reverse ++ rest) (hn : av.length = xm_n N) (hcat : Nat.ble ((rest.map fun v => v.category).sum) 8 = true) (hab : gc G + a ≤ gmc G ∧ gs G + b ≤ gms G) (kk : ∀ r u, Q' r u → xs_R (xw' G a b) base d M (pc + 3, lv, r.toList ++ rest, u) Q) : xs_R G base d M (pc, lv, stk, st) Q := by
  subst hstk
  intro p l e s m args below meth c H locs ls hF hK hS hP hl
  have hF' := hF
  obtain ⟨hx, hb, hr, hml, hown, hts, hlocks⟩ := hF
  have hdg := (xs_dec hM.1 hlk).1
  refine xs_callW (Q' := Q') (rest := rest) (lv := lv) (a := a) (b := b) (ar := (av.map (xs_v G)).toArray) hF' hK hab hS hl ?_ kk
  refine va_runS (n := xm_n N) (As := av.map (xs_v G)) (rest := rest.map (xs_v G)) (Ts := xw) ⟨hx, hb, hml, hown, hts⟩ (hK' l) ⟨xs_callB (G' := (G.1, G.2.1, G.2.2.1, G.2.2.2.1, (a, b), (0, 0))) hN.1 hts hk.1 hd, hts _ hk.2⟩ ⟨xs_blind (G := (G.1, G.2.1, G.2.2.1, G.2.2.2.1, (a, b), (0, 0))), fun U hU hW => ⟨rfl, xs_Kn.warm hW hK.call (by rw [hU]; exact Nat.le_trans hK.2.2.2 hS.1), by rw [hU]; exact hP⟩⟩ rfl (by rw [List.length_map]; exact hn) hl.1 (by show ((av.reverse ++ rest).map (xs_v G)) = _; rw [List.map_append, List.map_reverse]) (lv_room (by rw [xs_v_sum]; exact Nat.le_of_ble_eq_true hcat)) hdg hab
theorem xr_callS {i d' : Nat} {N : xs_M} {av stk : List Value} {Q' : Option Value → xs_S → Prop} (hM : xs_good M) (hN : xs_good N) (hk : xs_kS (xm_own M) i N) (hlk : xs_lk (xm_tb M) pc = some (.invokestatic i, 3, lit, t)) (hK' : xs_K (xc G) base d' N av st Q') (hd : d' + 1 ≤ d) (hstk : stk = av.reverse ++ rest) (hn : av.length = xm_n N) (hcat : Nat.ble ((rest.map fun v => v.category).sum) 8 = true) (kk : ∀ r u, Q' r u → xs_R G base d M (pc + 3, lv, r.toList ++ rest, u) Q) : xs_R G base d M (pc, lv, stk, st) Q := by
  intro p l e s m args below meth c H locs ls hF hK
  exact xr_callSm (G := G) (a := 0) (b := 0) hM hN hk hlk hK' hd hstk hn hcat ⟨hK.1.2.2.2.1, hK.1.2.2.2.2⟩ kk p l e s m args below meth c H locs ls hF hK
/-- the one call of a nest mate's private method: History.keep calls isError -/
theorem xr_callN {d' : Nat} {av stk : List Value} {Q' : Option Value → xs_S → Prop} (hM : xs_good M) (hown' : xm_own M = RX2) (hN : xs_good M_X6_isError) (hlk : xs_lk (xm_tb M) pc = some (.invokestatic 39, 3, lit, t)) (hK' : xs_K (xc G) base d' M_X6_isError av st Q') (hd : d' + 1 ≤ d) (hstk : stk = av.reverse ++ rest) (hn : av.length = 1) (hcat : Nat.ble ((rest.map fun v => v.category).sum) 8 = true) (kk : ∀ r u, Q' r u → xs_R G base d M (pc + 3, lv, r.toList ++ rest, u) Q) : xs_R G base d M (pc, lv, stk, st) Q := by
  subst hstk
  intro p l e s m args below meth c H locs ls hF hK hS hP hl
  have hF' := hF
  obtain ⟨hx, hb, hr, hml, hown, hts, hlocks⟩ := hF
  rw [hown'] at hown
  have hdg := (xs_dec hM.1 hlk).1
  refine xs_callW (Q' := Q') (rest := rest) (lv := lv) (a := 0) (b := 0) (ar := (av.map (xs_v G)).toArray) hF' hK ⟨hK.1.2.2.2.1, hK.1.2.2.2.2⟩ hS hl ?_ kk
  have hcn := va_cnB (R := xs_rm G d) (args := args) (ws' := xw) (rm := xs_rm (xc G) d') (mc := 0) (ms := 0) (n := 1) hts (gw_goodIn hN.1 (fun _ h => h)) rfl rfl rfl hK.2.2.1 (hts _ (by have h8 := hN.1.2.2.2; exact h8)) (by decide +kernel) ⟨by show d' + 1 ≤ d; exact hd, by show 8 + (1 + 11) + 36 * d' ≤ 36 * d; omega⟩
  refine va_runSN (n := 1) (As := av.map (xs_v G)) (rest := rest.map (xs_v G)) (Ts := xw) ⟨hx, hb, hml, hown, hts⟩ (hK' l) ⟨hcn, hts _ xs_w_ise, trivial⟩ ⟨xs_blind (G := xc G), fun U hU hW => ⟨rfl, xs_Kn.warm hW hK.call (by rw [hU]; exact Nat.le_trans hK.2.2.2 hS.1), by rw [hU]; exact hP⟩⟩ rfl (by rw [List.length_map]; exact hn) hl.1 (by show ((av.reverse ++ rest).map (xs_v G)) = _; rw [List.map_append, List.map_reverse]) (lv_room (by rw [xs_v_sum]; exact Nat.le_of_ble_eq_true hcat)) hdg ⟨hK.1.2.2.2.1, hK.1.2.2.2.2⟩
end XM
/-- one instruction: what xs_step does, and fields -/
def xs_stepF (nL ci : Nat) (pc : Nat) (r : Instr × Nat × Int32 × Nat) (lv : List (Nat × Value)) (stk : List Value) (st : xs_S) : Option xs_C := match r with
  | (.getfield z, 3, _, _) => match stk with
    | .ref k :: rest => match xs_sh k, xs_fnd (xs_fld ci) z with
      | some (.inr (cj, sl)), some (i, _) => match Nat.beq cj ci, xs_nth sl i with
        | true, some none => some (pc + 3, lv, .int (st k i) :: rest, st)
        | true, some (some o) => some (pc + 3, lv, .ref o :: rest, st)
        | _, _ => none
      | _, _ => none
    | _ => none
  | (.putfield z, 3, _, _) => match stk with
    | .int v :: .ref k :: rest => match xs_sh k, xs_fnd (xs_fld ci) z with
      | some (.inr (cj, sl)), some (i, true) => match Nat.beq cj ci, xs_nth sl i with
        | true, some none => some (pc + 3, lv, rest, xs_u st k i v)
        | _, _ => none
      | _, _ => none
    | _ => none
  | _ => xs_step nL pc r lv stk st
theorem xs_stepF_ok {G : xs_G} {base d : Nat} {M : xs_M} {pc : Nat} {r : Instr × Nat × Int32 × Nat} {lv : List (Nat × Value)} {stk : List Value} {st : xs_S} {c' : xs_C} {Q : xs_Z} (hM : xs_good M) (hlk : xs_lk (xm_tb M) pc = some r) (h : xs_stepF (xm_nL M) (xm_ci M) pc r lv stk st = some c') (hk : xs_R G base d M c' Q) : xs_R G base d M (pc, lv, stk, st) Q := by
  unfold xs_stepF at h
  split at h
  · split at h
    · split at h
      · rename_i cj sl i b h1 h2
        split at h
        · rename_i h3 h4
          cases h
          have h5 := Nat.eq_of_beq_eq_true h3
          subst h5
          exact xr_geti hM hlk h1 h2 h4 hk
        · rename_i o h3 h4
          cases h
          have h5 := Nat.eq_of_beq_eq_true h3
          subst h5
          exact xr_getr hM hlk h1 h2 h4 hk
        · cases h
      · cases h
    · cases h
  · split at h
    · split at h
      · rename_i cj sl i h1 h2
        split at h
        · rename_i h3 h4
          cases h
          have h5 := Nat.eq_of_beq_eq_true h3
          subst h5
          exact xr_puti hM hlk h1 h2 h4 hk
        · cases h
      · cases h
    · cases h
  · exact xs_step_ok hM.1 hlk h hk
def xs_runF (M : xs_M) : Nat → xs_C → Option xs_C
  | 0, c => some c
  | n + 1, (pc, lv, stk, st) => match xs_lk (xm_tb M) pc with
    | none => none
    | some r => match xs_stepF (xm_nL M) (xm_ci M) pc r lv stk st with
      | none => none
      | some c => xs_runF M n c
theorem xr_blk {G : xs_G} {base d : Nat} {M : xs_M} (hM : xs_good M) {Q : xs_Z} {c' : xs_C} (n : Nat) : ∀ {cf : xs_C}, xs_runF M n cf = some c' → xs_R G base d M c' Q → xs_R G base d M cf Q := by
  induction n with
  | zero => intro cf h hk; cases h; exact hk
  | succ n ih =>
    intro cf h hk
    obtain ⟨pc, lv, stk, st⟩ := cf
    unfold xs_runF at h
    split at h
    · cases h
    · rename_i r hr
      split at h
      · cases h
      · rename_i c2 h2
        exact xs_stepF_ok hM hr h2 (ih h hk)
theorem gd_X0_ofDouble : xs_good M_X0_ofDouble := ⟨ok_X0_ofDouble, (fun _ h => absurd h List.not_mem_nil)⟩
theorem gd_X0_ofFloat : xs_good M_X0_ofFloat := ⟨ok_X0_ofFloat, (fun _ h => absurd h List.not_mem_nil)⟩
theorem gd_X1_copy : xs_good M_X1_copy := ⟨ok_X1_copy, fok_X1⟩
theorem gd_X1_now : xs_good M_X1_now := ⟨ok_X1_now, fok_X1⟩
theorem gd_X1_hasDial : xs_good M_X1_hasDial := ⟨ok_X1_hasDial, fok_X1⟩
theorem gd_X1_hasReading : xs_good M_X1_hasReading := ⟨ok_X1_hasReading, fok_X1⟩
theorem gd_X1_isStruck : xs_good M_X1_isStruck := ⟨ok_X1_isStruck, fok_X1⟩
theorem gd_X1_dialsWithSpans : xs_good M_X1_dialsWithSpans := ⟨ok_X1_dialsWithSpans, fok_X1⟩
theorem gd_X1_hasSpan : xs_good M_X1_hasSpan := ⟨ok_X1_hasSpan, fok_X1⟩
theorem gd_X1_lowEnd : xs_good M_X1_lowEnd := ⟨ok_X1_lowEnd, fok_X1⟩
theorem gd_X1_highEnd : xs_good M_X1_highEnd := ⟨ok_X1_highEnd, fok_X1⟩
theorem gd_X1_ageAt : xs_good M_X1_ageAt := ⟨ok_X1_ageAt, fok_X1⟩
theorem gd_X1_reach : xs_good M_X1_reach := ⟨ok_X1_reach, fok_X1⟩
theorem gd_X1_changeSetting : xs_good M_X1_changeSetting := ⟨ok_X1_changeSetting, fok_X1⟩
theorem gd_X1_addDial : xs_good M_X1_addDial := ⟨ok_X1_addDial, fok_X1⟩
theorem gd_X1_takeReading : xs_good M_X1_takeReading := ⟨ok_X1_takeReading, fok_X1⟩
theorem gd_X1_letPass : xs_good M_X1_letPass := ⟨ok_X1_letPass, fok_X1⟩
theorem gd_X1_judge : xs_good M_X1_judge := ⟨ok_X1_judge, fok_X1⟩
theorem gd_X1_countLie : xs_good M_X1_countLie := ⟨ok_X1_countLie, fok_X1⟩
theorem gd_X1_about : xs_good M_X1_about := ⟨ok_X1_about, fok_X1⟩
theorem gd_X1_number : xs_good M_X1_number := ⟨ok_X1_number, fok_X1⟩
theorem gd_X2_size : xs_good M_X2_size := ⟨ok_X2_size, fok_X2⟩
theorem gd_X2_placeOf : xs_good M_X2_placeOf := ⟨ok_X2_placeOf, fok_X2⟩
theorem gd_X2_draft : xs_good M_X2_draft := ⟨ok_X2_draft, fok_X2⟩
theorem gd_X2_keep : xs_good M_X2_keep := ⟨ok_X2_keep, fok_X2⟩
theorem gd_X3_length : xs_good M_X3_length := ⟨ok_X3_length, fok_X3⟩
theorem gd_X5_gather : xs_good M_X5_gather := ⟨ok_X5_gather, fok_X5⟩
theorem gd_X5_size : xs_good M_X5_size := ⟨ok_X5_size, fok_X5⟩
theorem gd_X5_isEmpty : xs_good M_X5_isEmpty := ⟨ok_X5_isEmpty, fok_X5⟩
theorem gd_X5_has : xs_good M_X5_has := ⟨ok_X5_has, fok_X5⟩
theorem gd_X5_howManyAt : xs_good M_X5_howManyAt := ⟨ok_X5_howManyAt, fok_X5⟩
theorem gd_X5_dialsAt : xs_good M_X5_dialsAt := ⟨ok_X5_dialsAt, fok_X5⟩
theorem gd_X5_most : xs_good M_X5_most := ⟨ok_X5_most, fok_X5⟩
theorem gd_X5_firstTimeOf : xs_good M_X5_firstTimeOf := ⟨ok_X5_firstTimeOf, fok_X5⟩
theorem gd_X5_lastTimeOf : xs_good M_X5_lastTimeOf := ⟨ok_X5_lastTimeOf, fok_X5⟩
theorem gd_X5_bestLow : xs_good M_X5_bestLow := ⟨ok_X5_bestLow, fok_X5⟩
theorem gd_X5_bestHigh : xs_good M_X5_bestHigh := ⟨ok_X5_bestHigh, fok_X5⟩
theorem gd_X5_hour : xs_good M_X5_hour := ⟨ok_X5_hour, fok_X5⟩
theorem gd_X5_ends : xs_good M_X5_ends := ⟨ok_X5_ends, fok_X5⟩
theorem gd_X5_endKey : xs_good M_X5_endKey := ⟨ok_X5_endKey, fok_X5⟩
theorem gd_X5_keysBelow : xs_good M_X5_keysBelow := ⟨ok_X5_keysBelow, fok_X5⟩
theorem gd_X5_keyAt : xs_good M_X5_keyAt := ⟨ok_X5_keyAt, fok_X5⟩
theorem gd_X5_keyOf : xs_good M_X5_keyOf := ⟨ok_X5_keyOf, fok_X5⟩
theorem gd_X5_timeOfKey : xs_good M_X5_timeOfKey := ⟨ok_X5_timeOfKey, fok_X5⟩
theorem gd_X5_sideOfKey : xs_good M_X5_sideOfKey := ⟨ok_X5_sideOfKey, fok_X5⟩
theorem gd_X5_dialOfKey : xs_good M_X5_dialOfKey := ⟨ok_X5_dialOfKey, fok_X5⟩
theorem gd_X5_weightedMean : xs_good M_X5_weightedMean := ⟨ok_X5_weightedMean, fok_X5⟩
theorem gd_X5_honestShare : xs_good M_X5_honestShare := ⟨ok_X5_honestShare, fok_X5⟩
theorem gd_X6_set : xs_good M_X6_set := ⟨ok_X6_set, fok_X6⟩
theorem gd_X6_dial : xs_good M_X6_dial := ⟨ok_X6_dial, fok_X6⟩
theorem gd_X6_read : xs_good M_X6_read := ⟨ok_X6_read, fok_X6⟩
theorem gd_X6_pass : xs_good M_X6_pass := ⟨ok_X6_pass, fok_X6⟩
theorem gd_X6_agree : xs_good M_X6_agree := ⟨ok_X6_agree, fok_X6⟩
theorem gd_X6_findHour : xs_good M_X6_findHour := ⟨ok_X6_findHour, fok_X6⟩
theorem gd_X6_gatherNow : xs_good M_X6_gatherNow := ⟨ok_X6_gatherNow, fok_X6⟩
theorem gd_X6_isError : xs_good M_X6_isError := ⟨ok_X6_isError, fok_X6⟩
theorem gd_X6_of : xs_good M_X6_of := ⟨ok_X6_of, fok_X6⟩
theorem gd_X6_best : xs_good M_X6_best := ⟨ok_X6_best, fok_X6⟩
theorem gd_X6_end : xs_good M_X6_end := ⟨ok_X6_end, fok_X6⟩
theorem gd_X6_overlap : xs_good M_X6_overlap := ⟨ok_X6_overlap, fok_X6⟩
theorem gd_X6_count : xs_good M_X6_count := ⟨ok_X6_count, fok_X6⟩
theorem gd_X6_mean : xs_good M_X6_mean := ⟨ok_X6_mean, fok_X6⟩
theorem gd_X6_share : xs_good M_X6_share := ⟨ok_X6_share, fok_X6⟩
theorem gd_X6_allowing : xs_good M_X6_allowing := ⟨ok_X6_allowing, fok_X6⟩
theorem gd_X6_fewest : xs_good M_X6_fewest := ⟨ok_X6_fewest, fok_X6⟩
theorem gd_X6_widerIn : xs_good M_X6_widerIn := ⟨ok_X6_widerIn, fok_X6⟩
theorem gd_X6_hoursTooEarly : xs_good M_X6_hoursTooEarly := ⟨ok_X6_hoursTooEarly, fok_X6⟩
theorem gd_X6_without : xs_good M_X6_without := ⟨ok_X6_without, fok_X6⟩
theorem gd_J9_floorDiv_7cf53 : xs_good M_J9_floorDiv_7cf53 := ⟨ok_J9_floorDiv_7cf53, (fun _ h => absurd h List.not_mem_nil)⟩
theorem gd_J9_floorMod_7cf53 : xs_good M_J9_floorMod_7cf53 := ⟨ok_J9_floorMod_7cf53, (fun _ h => absurd h List.not_mem_nil)⟩
theorem gd_L_cell : xs_good M_L_cell := ⟨ok_L_cell, (fun _ h => absurd h List.not_mem_nil)⟩
theorem gd_L_low : xs_good M_L_low := ⟨ok_L_low, (fun _ h => absurd h List.not_mem_nil)⟩
theorem gd_L_size : xs_good M_L_size := ⟨ok_L_size, (fun _ h => absurd h List.not_mem_nil)⟩
theorem gd_L_has : xs_good M_L_has := ⟨ok_L_has, (fun _ h => absurd h List.not_mem_nil)⟩
theorem gd_L_overlap : xs_good M_L_overlap := ⟨ok_L_overlap, (fun _ h => absurd h List.not_mem_nil)⟩
theorem gd_L_ends : xs_good M_L_ends := ⟨ok_L_ends, (fun _ h => absurd h List.not_mem_nil)⟩
theorem gd_L_spans : xs_good M_L_spans := ⟨ok_L_spans, (fun _ h => absurd h List.not_mem_nil)⟩
theorem gd_L_inOrder : xs_good M_L_inOrder := ⟨ok_L_inOrder, (fun _ h => absurd h List.not_mem_nil)⟩
theorem gd_L_best : xs_good M_L_best := ⟨ok_L_best, (fun _ h => absurd h List.not_mem_nil)⟩
theorem gd_L_agrees : xs_good M_L_agrees := ⟨ok_L_agrees, (fun _ h => absurd h List.not_mem_nil)⟩
theorem gd_L_act : xs_good M_L_act := ⟨ok_L_act, (fun _ h => absurd h List.not_mem_nil)⟩
