/-! the world as ONE memory of ints: cell k, place i; shapes and references are fixed; the judgement xs_R over it -/
theorem gw_goodIn {M : xs_M} (h : xs_MOK M) {big : List Jvm.Cond} (hb : ∀ w ∈ xw, w ∈ big) : GoodIn big (Jvm.Cond.code (xm_y M) (xm_c M) (xm_nL M) (xm_ret M) :: xw) := by
  intro w hw
  have h1 : w ∈ xw := by
    rcases List.mem_cons.mp hw with q | q
    · rw [q]; exact h.2.1
    · exact q
  exact ⟨hb w h1, good_of_word (xw_good h1)⟩
abbrev xs_S : Type := Nat → Nat → Int32
abbrev xs_G : Type := (Nat → Nat) × va_G × (Nat → ClassId)
abbrev xs_Sh : Type := (Nat × Nat) ⊕ (Nat × List (Option Nat))
def xs_crt (c : Nat) : List xs_Sh := [.inr (0, [none, none, none, none, none, none, none, none, some (c + 1), some (c + 2), some (c + 3), some (c + 4), some (c + 5)]), .inl (0, 15), .inl (0, 15), .inl (0, 15), .inl (0, 15), .inl (0, 15)]
def xs_shl : List xs_Sh := [.inr (5, [some 1, some 7, some 11, some 55, some 70])] ++ xs_crt 1 ++ [.inr (4, [some 8, some 9, some 10, none]), .inl (0, 15), .inl (0, 15), .inl (0, 15), .inr (1, [some 12, none, none]), .inl (13, 7)] ++ xs_crt 13 ++ xs_crt 19 ++ xs_crt 25 ++ xs_crt 31 ++ xs_crt 37 ++ xs_crt 43 ++ xs_crt 49 ++ [.inr (3, [some 56, some 57]), .inl (58, 2), .inl (1, 2)] ++ xs_crt 58 ++ xs_crt 64 ++ [.inr (2, [some 71, none, none, none, none, none, none, none]), .inl (2, 80), .inr (6, [some 73, some 74, some 75, some 76, some 77, none, some 78, none, none, some 79, some 80, none, some 81, some 82, none, none, none]), .inl (0, 111), .inl (0, 666), .inl (0, 111), .inl (0, 222), .inl (1, 2), .inl (0, 80), .inl (0, 8), .inl (0, 3), .inl (0, 15), .inl (0, 15)]
def xs_nth {α : Type} : List α → Nat → Option α
  | [], _ => none
  | a :: _, 0 => some a
  | _ :: t, n + 1 => xs_nth t n
def xs_sh (k : Nat) : Option xs_Sh := xs_nth xs_shl k
def xs_fs (ad : Nat → Nat) (f : Nat → Int32) : Nat → List (Option Nat) → List Value
  | _, [] => []
  | i, none :: t => .int (f i) :: xs_fs ad f (i + 1) t
  | i, some o :: t => .ref (ad o) :: xs_fs ad f (i + 1) t
def xs_cell (G : xs_G) (st : xs_S) (k : Nat) : va_E := match xs_sh k with
  | some (.inl (t, n)) => bif Nat.ble 3 t then .inl (G.2.2 3, n, .inr (.inr (.inr (.inr (fun j => some (G.1 (t + 6 * j))))))) else .inl (G.2.2 t, n, .inl (st k))
  | some (.inr (ci, fl)) => .inr (ci, xs_fs G.1 (st k) 0 fl)
  | none => .inr (0, [])
def xs_ws (G : xs_G) (st : xs_S) : va_W := (List.range 83).map (fun k => (G.1 k, xs_cell G st k))
def xs_ur (st : xs_S) (k : Nat) (f : Nat → Int32) : xs_S := fun j => bif Nat.beq j k then f else st j
def xs_uf (f : Nat → Int32) (i : Nat) (v : Int32) : Nat → Int32 := fun j => bif Nat.beq j i then v else f j
def xs_u (st : xs_S) (k i : Nat) (v : Int32) : xs_S := xs_ur st k (xs_uf (st k) i v)
theorem xs_ws_at {G : xs_G} {st : xs_S} {k : Nat} (h : k < 83) : (xs_ws G st)[k]? = some (G.1 k, xs_cell G st k) := by
  simp [xs_ws, h]
theorem xs_ur_s {st : xs_S} {k : Nat} {f : Nat → Int32} : xs_ur st k f k = f := by
  unfold xs_ur
  rw [show Nat.beq k k = true from Nat.beq_refl k]
  rfl
theorem xs_ur_n {st : xs_S} {k j : Nat} {f : Nat → Int32} (h : j ≠ k) : xs_ur st k f j = st j := by
  unfold xs_ur
  have h1 : Nat.beq j k = false := by
    cases hb : Nat.beq j k with
    | false => rfl
    | true => exact absurd (Nat.eq_of_beq_eq_true hb) h
  rw [h1]
  rfl
theorem xs_uf_upd {f : Nat → Int32} {i : Nat} {v : Int32} : upd f i v = xs_uf f i v := by
  funext j
  unfold upd xs_uf
  by_cases h : j = i
  · subst h
    rw [if_pos rfl, show Nat.beq j j = true from Nat.beq_refl j]
    rfl
  · have h1 : Nat.beq j i = false := by
      cases hb : Nat.beq j i with
      | false => rfl
      | true => exact absurd (Nat.eq_of_beq_eq_true hb) h
    rw [if_neg h, h1]
    rfl
theorem xs_cell_n {G : xs_G} {st st' : xs_S} {k : Nat} (h : st' k = st k) : xs_cell G st' k = xs_cell G st k := by
  unfold xs_cell
  rw [h]
theorem xs_ws_set {G : xs_G} {st : xs_S} {k : Nat} {f : Nat → Int32} {e : va_E} (hk : k < 83) (he : xs_cell G (xs_ur st k f) k = e) : (xs_ws G st).set k (G.1 k, e) = xs_ws G (xs_ur st k f) := by
  apply List.ext_getElem?
  intro j
  by_cases hj : j < 83
  · by_cases h : j = k
    · subst h
      rw [List.getElem?_set_self (by simp [xs_ws, hk]), xs_ws_at hk, he]
    · rw [List.getElem?_set_ne (fun q => h q.symm), xs_ws_at hj, xs_ws_at hj, xs_cell_n (xs_ur_n h)]
  · rw [List.getElem?_eq_none (by simp [xs_ws]; omega), List.getElem?_eq_none (by simp [xs_ws]; omega)]
theorem xs_fs_int {ad : Nat → Nat} {f : Nat → Int32} {k : Nat} : ∀ {fl : List (Option Nat)} {j : Nat}, fl[k]? = some none → (xs_fs ad f j fl)[k]? = some (.int (f (j + k))) := by
  induction k with
  | zero =>
    intro fl j h
    cases fl with
    | nil => simp at h
    | cons a t =>
      have h1 : a = none := by simpa using h
      subst h1
      rfl
  | succ k ih =>
    intro fl j h
    cases fl with
    | nil => simp at h
    | cons a t =>
      have h1 : t[k]? = some none := by simpa using h
      have e : j + 1 + k = j + (k + 1) := by omega
      cases a with
      | none => show (xs_fs ad f (j + 1) t)[k]? = _; rw [ih h1, e]
      | some o => show (xs_fs ad f (j + 1) t)[k]? = _; rw [ih h1, e]
theorem xs_fs_ref {ad : Nat → Nat} {f : Nat → Int32} {o k : Nat} : ∀ {fl : List (Option Nat)} {j : Nat}, fl[k]? = some (some o) → (xs_fs ad f j fl)[k]? = some (.ref (ad o)) := by
  induction k with
  | zero =>
    intro fl j h
    cases fl with
    | nil => simp at h
    | cons a t =>
      have h1 : a = some o := by simpa using h
      subst h1
      rfl
  | succ k ih =>
    intro fl j h
    cases fl with
    | nil => simp at h
    | cons a t =>
      have h1 : t[k]? = some (some o) := by simpa using h
      cases a with
      | none => show (xs_fs ad f (j + 1) t)[k]? = _; rw [ih h1]
      | some z => show (xs_fs ad f (j + 1) t)[k]? = _; rw [ih h1]
theorem xs_uf_n {f : Nat → Int32} {i j : Nat} {v : Int32} (h : j ≠ i) : xs_uf f i v j = f j := by
  rw [← xs_uf_upd]
  simp [upd, h]
theorem xs_uf_s {f : Nat → Int32} {i : Nat} {v : Int32} : xs_uf f i v i = v := by
  rw [← xs_uf_upd]
  simp [upd]
theorem xs_fs_after {ad : Nat → Nat} {f : Nat → Int32} {v : Int32} {i : Nat} : ∀ {fl : List (Option Nat)} {j : Nat}, i < j → xs_fs ad (xs_uf f i v) j fl = xs_fs ad f j fl := by
  intro fl
  induction fl with
  | nil => intro j h; rfl
  | cons a t ih =>
    intro j h
    cases a with
    | none => show Value.int (xs_uf f i v j) :: _ = Value.int (f j) :: _; rw [xs_uf_n (by omega), ih (by omega)]
    | some o => show Value.ref (ad o) :: _ = Value.ref (ad o) :: _; rw [ih (by omega)]
theorem xs_fs_set {ad : Nat → Nat} {f : Nat → Int32} {v : Int32} {k : Nat} : ∀ {fl : List (Option Nat)} {j : Nat}, fl[k]? = some none → (xs_fs ad f j fl).set k (.int v) = xs_fs ad (xs_uf f (j + k) v) j fl := by
  induction k with
  | zero =>
    intro fl j h
    cases fl with
    | nil => simp at h
    | cons a t =>
      have h1 : a = none := by simpa using h
      subst h1
      show Value.int v :: xs_fs ad f (j + 1) t = Value.int (xs_uf f j v j) :: xs_fs ad (xs_uf f j v) (j + 1) t
      rw [xs_fs_after (by omega), xs_uf_s]
  | succ k ih =>
    intro fl j h
    cases fl with
    | nil => simp at h
    | cons a t =>
      have h1 : t[k]? = some none := by simpa using h
      have e : j + 1 + k = j + (k + 1) := by omega
      cases a with
      | none =>
        show Value.int (f j) :: (xs_fs ad f (j + 1) t).set k (.int v) = Value.int (xs_uf f (j + (k + 1)) v j) :: xs_fs ad (xs_uf f (j + (k + 1)) v) (j + 1) t
        rw [ih h1, e, xs_uf_n (by omega)]
      | some o =>
        show Value.ref (ad o) :: (xs_fs ad f (j + 1) t).set k (.int v) = Value.ref (ad o) :: xs_fs ad (xs_uf f (j + (k + 1)) v) (j + 1) t
        rw [ih h1, e]
/-- values: references are cells' numbers -/
def xs_v (G : xs_G) : Value → Value
  | .ref k => .ref (G.1 k)
  | v => v
theorem xs_v_cat {G : xs_G} (v : Value) : (xs_v G v).category = v.category := by cases v <;> rfl
theorem xs_v_sum {G : xs_G} : ∀ (vs : List Value), ((vs.map (xs_v G)).map fun v => v.category).sum = (vs.map fun v => v.category).sum := by
  intro vs
  induction vs with
  | nil => rfl
  | cons v t ih => simp only [List.map_cons, List.sum_cons, ih, xs_v_cat]
abbrev xs_tys (G : xs_G) : List (ClassId × FieldType) := [(G.2.2 0, .int), (G.2.2 1, .boolean), (G.2.2 2, .char), (G.2.2 3, .object "SundialSpans$Court")]
def xs_ok (G : xs_G) (base : Nat) : Prop := (∀ i j : Nat, i < 83 → j < 83 → G.1 i = G.1 j → i = j) ∧ ∀ i : Nat, i < 83 → base ≤ G.1 i
def xs_Kn (G : xs_G) (base : Nat) (U : State) : Prop := xs_ok G base ∧ va_K G.2.1 vwCl (xs_tys G) U ∧ va_Nw (.methodLinkNest RX2 39 yX6_isError "SundialSpans") U
theorem xs_Kn.warm {G : xs_G} {base : Nat} {s U : State} (hW : s.WarmedH U.vm) (h : xs_Kn G base s) : xs_Kn G base U := ⟨h.1, va_K.moved hW.alike h.2.1, va_Nw.warmM hW h.2.2⟩
theorem xs_Kn.same {G : xs_G} {base : Nat} {s U : State} (hv : s.vm = U.vm) (h : xs_Kn G base s) : xs_Kn G base U := ⟨h.1, va_K.moved (by rw [hv]; exact Vm.Alike.refl _) h.2.1, va_Nw.same rfl hv h.2.2⟩
theorem xs_D {G : xs_G} {base : Nat} {st : xs_S} (h : xs_ok G base) : va_D (fun q => base ≤ q) (xs_ws G st) := by
  have at' : ∀ (i : Nat) (p : Nat × va_E), (xs_ws G st)[i]? = some p → i < 83 ∧ p.1 = G.1 i := by
    intro i p hi
    by_cases hk : i < 83
    · rw [xs_ws_at hk] at hi
      cases hi
      exact ⟨hk, rfl⟩
    · rw [List.getElem?_eq_none (by simp [xs_ws]; omega)] at hi
      cases hi
  refine ⟨fun i j p q hi hj e => ?_, fun k q hk => ?_⟩
  · obtain ⟨a1, a2⟩ := at' i p hi
    obtain ⟨b1, b2⟩ := at' j q hj
    exact h.1 i j a1 b1 (by rw [← a2, ← b2]; exact e)
  · obtain ⟨a1, a2⟩ := at' k q hk
    show base ≤ q.1
    rw [a2]
    exact h.2 k a1
def xs_F (M : xs_M) (p : Program) (s : State) (m : MethodId) (args : Array Value) (meth : Method) (c : Code) : Prop := p.tables.exec = Jvm.exec ∧ c.code = xm_c M ∧ meth.sig.returnType = xm_ret M ∧ c.maxLocals = xm_nL M ∧ s.vm.findClass (xm_own M) = some m.cls ∧ (∀ w ∈ xw, w.before args s = true) ∧ meth.locks = false
def xs_rm (d : Nat) : Room := { frames := d, cells := 0, slots := 0, locals := 30 * d }
def xs_Q (G : xs_G) (base : Nat) (Q : Option Value → xs_S → Prop) : Array Value → State → Outcome → State → Prop := fun _ s0 oc t => (∃ (v : Option Value) (u : xs_S), oc = .returned (v.map (xs_v G)) ∧ Q v u ∧ va_P G.2.1 vwCl (xs_ws G u) t.heap) ∧ va_F (fun q => base ≤ q) s0 t
abbrev xs_C : Type := Nat × List (Nat × Value) × List Value × xs_S
def xs_R (G : xs_G) (base d : Nat) (M : xs_M) (cf : xs_C) (Q : Option Value → xs_S → Prop) : Prop :=
  ∀ (p : Program) (l : Launch) (e : Env) (s : State) (m : MethodId) (args : Array Value) (below : List Frame) (meth : Method) (c : Code) (H : Heap) (locs : List Loc) (ls : Array Slot), xs_F M p s m args meth c → xs_Kn G base s → va_S (fun q => base ≤ q) s.heap H locs → va_P G.2.1 vwCl (xs_ws G cf.2.2.2) H → lv_has ls (xm_nL M) (cf.2.1.map (fun q => (q.1, xs_v G q.2))) →
    W p l e (xs_rm d) s m args below meth c H locs 0 0 (MQ below (xs_Q G base Q) args s 0 0 (fun q => base ≤ q)) (F0 m cf.1 ls (cf.2.2.1.map (xs_v G)))
abbrev xs_wsM (M : xs_M) : List Jvm.Cond := Jvm.Cond.code (xm_y M) (xm_c M) (xm_nL M) (xm_ret M) :: xw
def xs_K (G : xs_G) (base d : Nat) (M : xs_M) (av : List Value) (st : xs_S) (Q : Option Value → xs_S → Prop) : Prop :=
  ∀ l : Launch, Met l (xm_y M) (xs_wsM M) (xs_rm d) (va_Pc (av.map (xs_v G)) (fun U => xs_Kn G base U ∧ va_P G.2.1 vwCl (xs_ws G st) U.heap)) (xs_Q G base Q) 0 0 (fun q => base ≤ q)
theorem xs_args {G : xs_G} : ∀ (vs : List Value) (i : Nat), lv_args i (vs.map (xs_v G)) = (lv_args i vs).map (fun q => (q.1, xs_v G q.2)) := by
  intro vs
  induction vs with
  | nil => intro i; rfl
  | cons v t ih =>
    intro i
    show (i, xs_v G v) :: lv_args (if (xs_v G v).category = 2 then i + 2 else i + 1) (t.map (xs_v G)) = _
    rw [xs_v_cat, ih]
    rfl
theorem xs_sl {G : xs_G} : ∀ (vs : List Value), (lg_sl (vs.map (xs_v G))).length = (lg_sl vs).length := by
  intro vs
  induction vs with
  | nil => rfl
  | cons v t ih =>
    unfold lg_sl at ih ⊢
    simp only [List.map_cons, List.flatMap_cons, List.length_append, ih, xs_v_cat]
    split <;> rfl
/-- a contract out of a walk, for a method of any class that the machine runs by its code -/
theorem xs_ofW {l : Launch} {y : MethodName} {ws ws' : List Jvm.Cond} {rm : Room} {Pc : Array Value → State → Prop} {Qc : Array Value → State → Outcome → State → Prop} {mc ms : Nat} {free : Addr → Prop} {cc : ByteArray} {maxL : Nat} {ret : Option FieldType}
    (hy : plainFor y = true) (hw : ws = Jvm.Cond.code y cc maxL ret :: ws')
    (body : ∀ p e s m args below meth c s₁, BodyLoose p l y (headSpec ws rm) cc maxL ret e s m args below meth c s₁ → c.maxLocals = maxL → Pc args s →
      W p l e (headSpec ws rm).room s m args below meth c s.heap [] 0 0 (MQ below Qc args s mc ms free) (entryFrame m args maxL)) : Met l y ws rm Pc Qc mc ms free := by
  refine MetFree.of_bodySF (code := cc) (maxLocals := maxL) (ret := ret) hy ?_ ?_
  · intro args s m h hn
    obtain ⟨meth, c, h1, h2, h3, h4, h5, h6, -, -⟩ := Cond.code_spec hn (atoms_spec (ws := ws) h _ (by rw [hw]; exact List.mem_cons_self))
    exact ⟨meth, c, h1, h2, h3, h4, h5, h6⟩
  · intro p e s m args below meth c s₁ B hml hP _
    have hh0 : s₁.heap = s.heap := by rw [B.state]; rfl
    obtain ⟨t, a1, o, b1, b2, b3⟩ := body p e s m args below meth c s₁ B hml hP s₁ hh0 (Stand.of_body B)
    exact ⟨t, o, a1, b1, b2, ⟨b3.1, b3.2⟩⟩
theorem xs_intro {G : xs_G} {base d : Nat} {M : xs_M} {av : List Value} {st : xs_S} {Q : Option Value → xs_S → Prop} (hM : xs_MOK M) (la : List (Nat × Value)) (hla : lv_args 0 av = la) (hn : Nat.ble (lg_sl av).length (xm_nL M) = true) (h : xs_R G base d M (0, la, [], st) Q) : xs_K G base d M av st Q := by
  intro l
  refine xs_ofW (cc := xm_c M) (maxL := xm_nL M) (ret := xm_ret M) hM.2.2.1.1 rfl ?_
  intro p e s m args below meth c s₁ B hml hv
  obtain ⟨rfl, hK, hP⟩ := hv
  have hts := atoms_spec (ws := xs_wsM M) B.pre
  have hown : s.vm.findClass (xm_own M) = some m.cls := by
    have h1 := findClass_of_methodNamed B.named
    rw [hM.2.2.1.2.1] at h1
    exact h1
  rw [lg_entry_eq]
  have hl := lv_entry (av.map (xs_v G)) (n := xm_nL M) (by rw [xs_sl]; exact Nat.le_of_ble_eq_true hn)
  rw [xs_args, hla] at hl
  exact h p l e s m _ below meth c s.heap [] _ ⟨B.exec, B.bytes, B.returns, hml, hown, fun w hw => hts w (List.mem_cons_of_mem _ hw), B.notSynchronized⟩ hK va_S.rf hP hl
