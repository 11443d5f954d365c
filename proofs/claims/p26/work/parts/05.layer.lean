/-! the world as ONE memory of ints: cell k, place i; shapes and references are fixed; the judgement xs_R over it -/
theorem gw_goodIn {M : xs_M} (h : xs_MOK M) {big : List Jvm.Cond} (hb : ∀ w ∈ xw, w ∈ big) : GoodIn big (Jvm.Cond.code (xm_y M) (xm_c M) (xm_nL M) (xm_ret M) :: xw) := by
  intro w hw
  have h1 : w ∈ xw := by
    rcases List.mem_cons.mp hw with q | q
    · rw [q]; exact h.2.1
    · exact q
  exact ⟨hb w h1, good_of_word (xw_good h1)⟩
abbrev xs_S : Type := Nat → Nat → Int32
/-- where the cells lie, the classes, the arrays' classes, (how many cells, how long the made ones are), (cells, slots that a call may make), (made so far) -/
abbrev xs_G : Type := (Nat → Nat) × va_G × (Nat → ClassId) × (Nat × Nat) × (Nat × Nat) × (Nat × Nat)
abbrev gN (G : xs_G) : Nat := G.2.2.2.1.1
abbrev gL (G : xs_G) : Nat := G.2.2.2.1.2
abbrev gmc (G : xs_G) : Nat := G.2.2.2.2.1.1
abbrev gms (G : xs_G) : Nat := G.2.2.2.2.1.2
abbrev gc (G : xs_G) : Nat := G.2.2.2.2.2.1
abbrev gs (G : xs_G) : Nat := G.2.2.2.2.2.2
/-- at the start of a call that makes nothing; that may make so much -/
abbrev xc (G : xs_G) : xs_G := (G.1, G.2.1, G.2.2.1, G.2.2.2.1, (0, 0), (0, 0))
abbrev xg (G : xs_G) (a b : Nat) : xs_G := (G.1, G.2.1, G.2.2.1, (73, 0), (a, b), (0, 0))
/-- a new cell; more made -/
abbrev xn (G : xs_G) (a n : Nat) : xs_G := (fun k => bif Nat.beq k (gN G) then a else G.1 k, G.2.1, G.2.2.1, (gN G + 1, n), (gmc G, gms G), (gc G + 1, gs G + n))
abbrev xw' (G : xs_G) (a b : Nat) : xs_G := (G.1, G.2.1, G.2.2.1, (gN G, gL G), (gmc G, gms G), (gc G + a, gs G + b))
abbrev xs_Sh : Type := (Nat × Nat) ⊕ (Nat × List (Option Nat))
def xs_crt (c : Nat) : List xs_Sh := [.inr (0, [none, none, none, none, none, none, none, none, some (c + 1), some (c + 2), some (c + 3), some (c + 4), some (c + 5)]), .inl (0, 15), .inl (0, 15), .inl (0, 15), .inl (0, 15), .inl (0, 15)]
def xs_shl : List xs_Sh := [.inr (5, [some 1, some 7, some 11, some 55, some 70])] ++ xs_crt 1 ++ [.inr (4, [some 8, some 9, some 10, none]), .inl (0, 15), .inl (0, 15), .inl (0, 15), .inr (1, [some 12, none, none]), .inl (13, 7)] ++ xs_crt 13 ++ xs_crt 19 ++ xs_crt 25 ++ xs_crt 31 ++ xs_crt 37 ++ xs_crt 43 ++ xs_crt 49 ++ [.inr (3, [some 56, some 57]), .inl (58, 2), .inl (1, 2)] ++ xs_crt 58 ++ xs_crt 64 ++ [.inr (2, [some 71, none, none, none, none, none, none, none]), .inl (2, 80), .inl (0, 45)]
def xs_nth {α : Type} : List α → Nat → Option α
  | [], _ => none
  | a :: _, 0 => some a
  | _ :: t, n + 1 => xs_nth t n
def xs_sh (k : Nat) : Option xs_Sh := xs_nth xs_shl k
def xs_shg (G : xs_G) (k : Nat) : Option xs_Sh := bif Nat.blt k 73 then xs_sh k else bif Nat.blt k (gN G) then some (.inl (0, gL G)) else none
def xs_fs (ad : Nat → Nat) (f : Nat → Int32) : Nat → List (Option Nat) → List Value
  | _, [] => []
  | i, none :: t => .int (f i) :: xs_fs ad f (i + 1) t
  | i, some o :: t => .ref (ad o) :: xs_fs ad f (i + 1) t
def xs_cell (G : xs_G) (st : xs_S) (k : Nat) : va_E := match xs_shg G k with
  | some (.inl (t, n)) => bif Nat.ble 3 t then .inl (G.2.2.1 3, n, .inr (.inr (.inr (.inr (fun j => bif Nat.blt j n then some (G.1 (t + 6 * j)) else none))))) else .inl (G.2.2.1 t, n, .inl (st k))
  | some (.inr (ci, fl)) => .inr (ci, xs_fs G.1 (st k) 0 fl)
  | none => .inr (0, [])
def xs_ws (G : xs_G) (st : xs_S) : va_W := (List.range (gN G)).map (fun k => (G.1 k, xs_cell G st k))
def xs_ur (st : xs_S) (k : Nat) (f : Nat → Int32) : xs_S := fun j => bif Nat.beq j k then f else st j
def xs_uf (f : Nat → Int32) (i : Nat) (v : Int32) : Nat → Int32 := fun j => bif Nat.beq j i then v else f j
def xs_u (st : xs_S) (k i : Nat) (v : Int32) : xs_S := xs_ur st k (xs_uf (st k) i v)
theorem xs_ws_at {G : xs_G} {st : xs_S} {k : Nat} (h : k < gN G) : (xs_ws G st)[k]? = some (G.1 k, xs_cell G st k) := by
  simp [xs_ws, h]
theorem xs_ur_s {st : xs_S} {k : Nat} {f : Nat → Int32} : xs_ur st k f k = f := by
  unfold xs_ur
  rw [show Nat.beq k k = true from Nat.beq_refl k]
  rfl
theorem xs_ur_n {st : xs_S} {k j : Nat} {f : Nat → Int32} (h : j ≠ k) : xs_ur st k f j = st j := by
  unfold xs_ur
  have h1 : Nat.beq j k = false := by
    cases hb : Nat.beq j k with
    | false => rfl
    | true => exact absurd (Nat.eq_of_beq_eq_true hb) h
  rw [h1]
  rfl
theorem xs_uf_upd {f : Nat → Int32} {i : Nat} {v : Int32} : upd f i v = xs_uf f i v := by
  funext j
  unfold upd xs_uf
  by_cases h : j = i
  · subst h
    rw [if_pos rfl, show Nat.beq j j = true from Nat.beq_refl j]
    rfl
  · have h1 : Nat.beq j i = false := by
      cases hb : Nat.beq j i with
      | false => rfl
      | true => exact absurd (Nat.eq_of_beq_eq_true hb) h
    rw [if_neg h, h1]
    rfl
theorem xs_cell_n {G : xs_G} {st st' : xs_S} {k : Nat} (h : st' k = st k) : xs_cell G st' k = xs_cell G st k := by
  unfold xs_cell
  rw [h]
theorem xs_ws_set {G : xs_G} {st : xs_S} {k : Nat} {f : Nat → Int32} {e : va_E} (hk : k < gN G) (he : xs_cell G (xs_ur st k f) k = e) : (xs_ws G st).set k (G.1 k, e) = xs_ws G (xs_ur st k f) := by
  apply List.ext_getElem?
  intro j
  by_cases hj : j < gN G
  · by_cases h : j = k
    · subst h
      rw [List.getElem?_set_self (by simp [xs_ws, hk]), xs_ws_at hk, he]
    · rw [List.getElem?_set_ne (fun q => h q.symm), xs_ws_at hj, xs_ws_at hj, xs_cell_n (xs_ur_n h)]
  · rw [List.getElem?_eq_none (by simp [xs_ws]; omega), List.getElem?_eq_none (by simp [xs_ws]; omega)]
theorem xs_fs_int {ad : Nat → Nat} {f : Nat → Int32} {k : Nat} : ∀ {fl : List (Option Nat)} {j : Nat}, fl[k]? = some none → (xs_fs ad f j fl)[k]? = some (.int (f (j + k))) := by
  induction k with
  | zero =>
    intro fl j h
    cases fl with
    | nil => simp at h
    | cons a t =>
      have h1 : a = none := by simpa using h
      subst h1
      rfl
  | succ k ih =>
    intro fl j h
    cases fl with
    | nil => simp at h
    | cons a t =>
      have h1 : t[k]? = some none := by simpa using h
      have e : j + 1 + k = j + (k + 1) := by omega
      cases a with
      | none => show (xs_fs ad f (j + 1) t)[k]? = _; rw [ih h1, e]
      | some o => show (xs_fs ad f (j + 1) t)[k]? = _; rw [ih h1, e]
theorem xs_fs_ref {ad : Nat → Nat} {f : Nat → Int32} {o k : Nat} : ∀ {fl : List (Option Nat)} {j : Nat}, fl[k]? = some (some o) → (xs_fs ad f j fl)[k]? = some (.ref (ad o)) := by
  induction k with
  | zero =>
    intro fl j h
    cases fl with
    | nil => simp at h
    | cons a t =>
      have h1 : a = some o := by simpa using h
      subst h1
      rfl
  | succ k ih =>
    intro fl j h
    cases fl with
    | nil => simp at h
    | cons a t =>
      have h1 : t[k]? = some (some o) := by simpa using h
      cases a with
      | none => show (xs_fs ad f (j + 1) t)[k]? = _; rw [ih h1]
      | some z => show (xs_fs ad f (j + 1) t)[k]? = _; rw [ih h1]
theorem xs_uf_n {f : Nat → Int32} {i j : Nat} {v : Int32} (h : j ≠ i) : xs_uf f i v j = f j := by
  rw [← xs_uf_upd]
  simp [upd, h]
theorem xs_uf_s {f : Nat → Int32} {i : Nat} {v : Int32} : xs_uf f i v i = v := by
  rw [← xs_uf_upd]
  simp [upd]
theorem xs_fs_after {ad : Nat → Nat} {f : Nat → Int32} {v : Int32} {i : Nat} : ∀ {fl : List (Option Nat)} {j : Nat}, i < j → xs_fs ad (xs_uf f i v) j fl = xs_fs ad f j fl := by
  intro fl
  induction fl with
  | nil => intro j h; rfl
  | cons a t ih =>
    intro j h
    cases a with
    | none => show Value.int (xs_uf f i v j) :: _ = Value.int (f j) :: _; rw [xs_uf_n (by omega), ih (by omega)]
    | some o => show Value.ref (ad o) :: _ = Value.ref (ad o) :: _; rw [ih (by omega)]
theorem xs_fs_set {ad : Nat → Nat} {f : Nat → Int32} {v : Int32} {k : Nat} : ∀ {fl : List (Option Nat)} {j : Nat}, fl[k]? = some none → (xs_fs ad f j fl).set k (.int v) = xs_fs ad (xs_uf f (j + k) v) j fl := by
  induction k with
  | zero =>
    intro fl j h
    cases fl with
    | nil => simp at h
    | cons a t =>
      have h1 : a = none := by simpa using h
      subst h1
      show Value.int v :: xs_fs ad f (j + 1) t = Value.int (xs_uf f j v j) :: xs_fs ad (xs_uf f j v) (j + 1) t
      rw [xs_fs_after (by omega), xs_uf_s]
  | succ k ih =>
    intro fl j h
    cases fl with
    | nil => simp at h
    | cons a t =>
      have h1 : t[k]? = some none := by simpa using h
      have e : j + 1 + k = j + (k + 1) := by omega
      cases a with
      | none =>
        show Value.int (f j) :: (xs_fs ad f (j + 1) t).set k (.int v) = Value.int (xs_uf f (j + (k + 1)) v j) :: xs_fs ad (xs_uf f (j + (k + 1)) v) (j + 1) t
        rw [ih h1, e, xs_uf_n (by omega)]
      | some o =>
        show Value.ref (ad o) :: (xs_fs ad f (j + 1) t).set k (.int v) = Value.ref (ad o) :: xs_fs ad (xs_uf f (j + (k + 1)) v) (j + 1) t
        rw [ih h1, e]
/-- values: references are cells' numbers -/
def xs_v (G : xs_G) : Value → Value
  | .ref k => .ref (G.1 k)
  | v => v
theorem xs_v_cat {G : xs_G} (v : Value) : (xs_v G v).category = v.category := by cases v <;> rfl
theorem xs_v_sum {G : xs_G} : ∀ (vs : List Value), ((vs.map (xs_v G)).map fun v => v.category).sum = (vs.map fun v => v.category).sum := by
  intro vs
  induction vs with
  | nil => rfl
  | cons v t ih => simp only [List.map_cons, List.sum_cons, ih, xs_v_cat]
abbrev xs_tys (G : xs_G) : List (ClassId × FieldType) := [(G.2.2.1 0, .int), (G.2.2.1 1, .boolean), (G.2.2.1 2, .char), (G.2.2.1 3, .object "SundialSpans$Court")]
def xs_ok (G : xs_G) (base : Nat) : Prop := (∀ i j : Nat, i < gN G → j < gN G → G.1 i = G.1 j → i = j) ∧ (∀ i : Nat, i < gN G → base ≤ G.1 i) ∧ 73 ≤ gN G ∧ gc G ≤ gmc G ∧ gs G ≤ gms G
def xs_Kn (G : xs_G) (base : Nat) (U : State) : Prop := xs_ok G base ∧ va_K G.2.1 vwCl (xs_tys G) U ∧ va_Nw (.methodLinkNest RX2 39 yX6_isError "SundialSpans") U ∧ base ≤ U.heap.size
theorem xs_Kn.warm {G : xs_G} {base : Nat} {s U : State} (hW : s.WarmedH U.vm) (h : xs_Kn G base s) (hz : base ≤ U.heap.size) : xs_Kn G base U := ⟨h.1, va_K.moved hW.alike h.2.1, va_Nw.warmM hW h.2.2.1, hz⟩
theorem xs_Kn.same {G : xs_G} {base : Nat} {s U : State} (hv : s.vm = U.vm) (hh : U.heap = s.heap) (h : xs_Kn G base s) : xs_Kn G base U := ⟨h.1, va_K.moved (by rw [hv]; exact Vm.Alike.refl _) h.2.1, va_Nw.same rfl hv h.2.2.1, by rw [hh]; exact h.2.2.2⟩
/-- the same world for another call -/
theorem xs_ok.call {G : xs_G} {base a b : Nat} (h : xs_ok G base) : xs_ok (G.1, G.2.1, G.2.2.1, G.2.2.2.1, (a, b), (0, 0)) base := ⟨h.1, h.2.1, h.2.2.1, Nat.zero_le _, Nat.zero_le _⟩
theorem xs_Kn.call {G : xs_G} {base a b : Nat} {s : State} (h : xs_Kn G base s) : xs_Kn (G.1, G.2.1, G.2.2.1, G.2.2.2.1, (a, b), (0, 0)) base s := ⟨h.1.call, h.2.1, h.2.2.1, h.2.2.2⟩
theorem xs_Kn.made {G : xs_G} {base a b : Nat} {s : State} (h : xs_Kn G base s) (ha : gc G + a ≤ gmc G) (hb : gs G + b ≤ gms G) : xs_Kn (xw' G a b) base s := ⟨⟨h.1.1, h.1.2.1, h.1.2.2.1, ha, hb⟩, h.2.1, h.2.2.1, h.2.2.2⟩
theorem xs_D {G : xs_G} {base : Nat} {st : xs_S} (h : xs_ok G base) : va_D (fun q => base ≤ q) (xs_ws G st) := by
  have at' : ∀ (i : Nat) (p : Nat × va_E), (xs_ws G st)[i]? = some p → i < gN G ∧ p.1 = G.1 i := by
    intro i p hi
    by_cases hk : i < gN G
    · rw [xs_ws_at hk] at hi
      cases hi
      exact ⟨hk, rfl⟩
    · rw [List.getElem?_eq_none (by simp [xs_ws]; omega)] at hi
      cases hi
  refine ⟨fun i j p q hi hj e => ?_, fun k q hk => ?_⟩
  · obtain ⟨a1, a2⟩ := at' i p hi
    obtain ⟨b1, b2⟩ := at' j q hj
    exact h.1 i j a1 b1 (by rw [← a2, ← b2]; exact e)
  · obtain ⟨a1, a2⟩ := at' k q hk
    show base ≤ q.1
    rw [a2]
    exact h.2.1 k a1
def xs_F (M : xs_M) (p : Program) (s : State) (m : MethodId) (args : Array Value) (meth : Method) (c : Code) : Prop := p.tables.exec = Jvm.exec ∧ c.code = xm_c M ∧ meth.sig.returnType = xm_ret M ∧ c.maxLocals = xm_nL M ∧ s.vm.findClass (xm_own M) = some m.cls ∧ (∀ w ∈ xw, w.before args s = true) ∧ meth.locks = false
def xs_rm (G : xs_G) (d : Nat) : Room := { frames := d, cells := gmc G, slots := gms G, locals := 36 * d }
/-- what a call leaves: the world of some G -/
abbrev xs_Z : Type := xs_G → Option Value → xs_S → Prop
def xs_Q (base : Nat) (Z : xs_Z) : Array Value → State → Outcome → State → Prop := fun _ s0 oc t => (∃ (G : xs_G) (v : Option Value) (u : xs_S), oc = .returned (v.map (xs_v G)) ∧ Z G v u ∧ xs_ok G base ∧ va_P G.2.1 vwCl (xs_ws G u) t.heap) ∧ va_F (fun q => base ≤ q) s0 t
/-- the same world, or one with more cells -/
def xs_le (G G' : xs_G) : Prop := G' = G ∨ (gN G = 73 ∧ 73 ≤ gN G' ∧ (∀ k : Nat, k < 73 → G'.1 k = G.1 k) ∧ G'.2.1 = G.2.1 ∧ G'.2.2.1 = G.2.2.1)
def xs_q (G : xs_G) (Q : Option Value → xs_S → Prop) : xs_Z := fun G' v u => xs_le G G' ∧ v.map (xs_v G') = v.map (xs_v G) ∧ Q v u
theorem xs_le_r {G : xs_G} : xs_le G G := Or.inl rfl
abbrev xs_C : Type := Nat × List (Nat × Value) × List Value × xs_S
def xs_R (G : xs_G) (base d : Nat) (M : xs_M) (cf : xs_C) (Z : xs_Z) : Prop :=
  ∀ (p : Program) (l : Launch) (e : Env) (s : State) (m : MethodId) (args : Array Value) (below : List Frame) (meth : Method) (c : Code) (H : Heap) (locs : List Loc) (ls : Array Slot), xs_F M p s m args meth c → xs_Kn G base s → va_S (fun q => base ≤ q) s.heap H locs → va_P G.2.1 vwCl (xs_ws G cf.2.2.2) H → lv_has ls (xm_nL M) (cf.2.1.map (fun q => (q.1, xs_v G q.2))) →
    W p l e (xs_rm G d) s m args below meth c H locs (gc G) (gs G) (MQ below (xs_Q base Z) args s (gmc G) (gms G) (fun q => base ≤ q)) (F0 m cf.1 ls (cf.2.2.1.map (xs_v G)))
abbrev xs_wsM (M : xs_M) : List Jvm.Cond := Jvm.Cond.code (xm_y M) (xm_c M) (xm_nL M) (xm_ret M) :: xw
/-- a contract with any end -/
def xs_KZ (G : xs_G) (base d : Nat) (M : xs_M) (av : List Value) (st : xs_S) (Z : xs_Z) : Prop :=
  ∀ l : Launch, Met l (xm_y M) (xs_wsM M) (xs_rm G d) (va_Pc (av.map (xs_v G)) (fun U => xs_Kn G base U ∧ va_P G.2.1 vwCl (xs_ws G st) U.heap)) (xs_Q base Z) (gmc G) (gms G) (fun q => base ≤ q)
abbrev xs_K (G : xs_G) (base d : Nat) (M : xs_M) (av : List Value) (st : xs_S) (Q : Option Value → xs_S → Prop) : Prop := xs_KZ G base d M av st (xs_q G Q)
/-- the first 73 cells name no later one -/
def xs_ref73 : Bool := (List.range 73).all (fun k => match xs_sh k with
  | some (.inr (_, fl)) => fl.all (fun o => match o with | some o => Nat.blt o 73 | none => true)
  | some (.inl (t, n)) => !(Nat.ble 3 t) || Nat.ble (t + 6 * n) 78
  | none => false)
theorem xs_ref73_ok : xs_ref73 = true := by decide +kernel
theorem xs_fs_ad {ad ad' : Nat → Nat} {f : Nat → Int32} : ∀ {fl : List (Option Nat)} {i : Nat}, (∀ o : Nat, some o ∈ fl → ad' o = ad o) → xs_fs ad' f i fl = xs_fs ad f i fl := by
  intro fl
  induction fl with
  | nil => intro i h; rfl
  | cons a t ih =>
    intro i h
    have h2 := ih (i := i + 1) (fun o ho => h o (List.mem_cons_of_mem _ ho))
    cases a with
    | none => show Value.int (f i) :: _ = Value.int (f i) :: _; rw [h2]
    | some o => show Value.ref (ad' o) :: _ = Value.ref (ad o) :: _; rw [h2, h o List.mem_cons_self]
theorem xs_bltT {a b : Nat} (h : a < b) : Nat.blt a b = true := Nat.ble_eq_true_of_le h
theorem xs_bltF {a b : Nat} (h : ¬ a < b) : Nat.blt a b = false := by
  cases hb : Nat.blt a b with
  | false => rfl
  | true => exact absurd (Nat.le_of_ble_eq_true hb) h
theorem xs_cell_73 {G G' : xs_G} {st : xs_S} {k : Nat} (hk : k < 73) (ha : ∀ k : Nat, k < 73 → G'.1 k = G.1 k) (hT : G'.2.2.1 = G.2.2.1) : xs_cell G' st k = xs_cell G st k := by
  have h0 := List.all_eq_true.mp xs_ref73_ok k (List.mem_range.mpr hk)
  unfold xs_cell xs_shg
  rw [xs_bltT hk, cond_true, cond_true, hT]
  cases hs : xs_sh k with
  | none => rfl
  | some x =>
    rw [hs] at h0
    cases x with
    | inl q =>
      obtain ⟨t, n⟩ := q
      dsimp only at h0 ⊢
      cases h3 : Nat.ble 3 t with
      | false => rfl
      | true =>
        rw [h3] at h0
        have h4 : t + 6 * n ≤ 78 := Nat.le_of_ble_eq_true (by simpa using h0)
        dsimp only [cond_true]
        congr 7
        funext j
        cases hj : Nat.blt j n with
        | false => rfl
        | true =>
          have h5 : j < n := Nat.le_of_ble_eq_true hj
          dsimp only [cond_true]
          rw [ha _ (by omega)]
    | inr q =>
      obtain ⟨ci, fl⟩ := q
      dsimp only at h0 ⊢
      rw [xs_fs_ad (fun o ho => ha o (Nat.le_of_ble_eq_true (List.all_eq_true.mp h0 _ ho)))]
theorem xs_P_le {G G' : xs_G} {u : xs_S} {H : Heap} (h : xs_le G G') (hP : va_P G'.2.1 vwCl (xs_ws G' u) H) : va_P G.2.1 vwCl (xs_ws G u) H := by
  rcases h with h | ⟨h1, h2, h3, h4, h5⟩
  · rw [h] at hP; exact hP
  · intro k q hq
    by_cases hk : k < gN G
    · rw [xs_ws_at hk] at hq
      cases hq
      have := hP k (G'.1 k, xs_cell G' u k) (xs_ws_at (by omega))
      rw [h3 k (by omega), h4, xs_cell_73 (by omega) h3 h5] at this
      exact this
    · rw [List.getElem?_eq_none (by simp [xs_ws]; omega)] at hq
      cases hq
theorem xs_args {G : xs_G} : ∀ (vs : List Value) (i : Nat), lv_args i (vs.map (xs_v G)) = (lv_args i vs).map (fun q => (q.1, xs_v G q.2)) := by
  intro vs
  induction vs with
  | nil => intro i; rfl
  | cons v t ih =>
    intro i
    show (i, xs_v G v) :: lv_args (if (xs_v G v).category = 2 then i + 2 else i + 1) (t.map (xs_v G)) = _
    rw [xs_v_cat, ih]
    rfl
theorem xs_sl {G : xs_G} : ∀ (vs : List Value), (lg_sl (vs.map (xs_v G))).length = (lg_sl vs).length := by
  intro vs
  induction vs with
  | nil => rfl
  | cons v t ih =>
    unfold lg_sl at ih ⊢
    simp only [List.map_cons, List.flatMap_cons, List.length_append, ih, xs_v_cat]
    split <;> rfl
/-- a contract out of a walk, for a method of any class that the machine runs by its code -/
theorem xs_ofW {l : Launch} {y : MethodName} {ws ws' : List Jvm.Cond} {rm : Room} {Pc : Array Value → State → Prop} {Qc : Array Value → State → Outcome → State → Prop} {mc ms : Nat} {free : Addr → Prop} {cc : ByteArray} {maxL : Nat} {ret : Option FieldType}
    (hy : plainFor y = true) (hw : ws = Jvm.Cond.code y cc maxL ret :: ws')
    (body : ∀ p e s m args below meth c s₁, BodyLoose p l y (headSpec ws rm) cc maxL ret e s m args below meth c s₁ → c.maxLocals = maxL → Pc args s →
      W p l e (headSpec ws rm).room s m args below meth c s.heap [] 0 0 (MQ below Qc args s mc ms free) (entryFrame m args maxL)) : Met l y ws rm Pc Qc mc ms free := by
  refine MetFree.of_bodySF (code := cc) (maxLocals := maxL) (ret := ret) hy ?_ ?_
  · intro args s m h hn
    obtain ⟨meth, c, h1, h2, h3, h4, h5, h6, -, -⟩ := Cond.code_spec hn (atoms_spec (ws := ws) h _ (by rw [hw]; exact List.mem_cons_self))
    exact ⟨meth, c, h1, h2, h3, h4, h5, h6⟩
  · intro p e s m args below meth c s₁ B hml hP _
    have hh0 : s₁.heap = s.heap := by rw [B.state]; rfl
    obtain ⟨t, a1, o, b1, b2, b3⟩ := body p e s m args below meth c s₁ B hml hP s₁ hh0 (Stand.of_body B)
    exact ⟨t, o, a1, b1, b2, ⟨b3.1, b3.2⟩⟩
theorem xs_intro {G : xs_G} {base d : Nat} {M : xs_M} {av : List Value} {st : xs_S} {Z : xs_Z} (hM : xs_MOK M) (la : List (Nat × Value)) (hla : lv_args 0 av = la) (hn : Nat.ble (lg_sl av).length (xm_nL M) = true) (h : xs_R G base d M (0, la, [], st) Z) (h0 : G.2.2.2.2.2 = (0, 0) := by rfl) : xs_KZ G base d M av st Z := by
  intro l
  refine xs_ofW (cc := xm_c M) (maxL := xm_nL M) (ret := xm_ret M) hM.2.2.1.1 rfl ?_
  intro p e s m args below meth c s₁ B hml hv
  obtain ⟨rfl, hK, hP⟩ := hv
  have hts := atoms_spec (ws := xs_wsM M) B.pre
  have hown : s.vm.findClass (xm_own M) = some m.cls := by
    have h1 := findClass_of_methodNamed B.named
    rw [hM.2.2.1.2.1] at h1
    exact h1
  rw [lg_entry_eq]
  have hl := lv_entry (av.map (xs_v G)) (n := xm_nL M) (by rw [xs_sl]; exact Nat.le_of_ble_eq_true hn)
  rw [xs_args, hla] at hl
  have h00 : gc G = 0 ∧ gs G = 0 := by constructor <;> (show _ = 0) <;> simp only [gc, gs, h0]
  have h := h p l e s m _ below meth c s.heap [] _ ⟨B.exec, B.bytes, B.returns, hml, hown, fun w hw => hts w (List.mem_cons_of_mem _ hw), B.notSynchronized⟩ hK va_S.rf hP hl
  rw [h00.1, h00.2] at h
  exact h
