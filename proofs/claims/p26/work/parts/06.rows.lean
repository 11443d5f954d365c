def xs_lk : List xs_Row → Nat → Option (Instr × Nat × Int32 × Nat)
  | [], _ => none
  | r :: t, pc => bif Nat.beq r.1 pc then some r.2 else xs_lk t pc
theorem xs_lk_mem {pc : Nat} {x : Instr × Nat × Int32 × Nat} : ∀ {tb : List xs_Row}, xs_lk tb pc = some x → (pc, x) ∈ tb := by
  intro tb
  induction tb with
  | nil => intro h; cases h
  | cons r t ih =>
    intro h
    unfold xs_lk at h
    cases hb : Nat.beq r.1 pc with
    | false => rw [hb] at h; exact List.mem_cons_of_mem _ (ih h)
    | true =>
      rw [hb] at h
      have h1 : some r.2 = some x := h
      cases h1
      have h2 := Nat.eq_of_beq_eq_true hb
      subst h2
      exact List.mem_cons_self
theorem xs_dec {M : xs_M} (hM : xs_MOK M) {pc n t : Nat} {i : Instr} {v : Int32} (h : xs_lk (xm_tb M) pc = some (i, n, v, t)) : decode (xm_c M) pc = .ok (i, n) ∧ xs_lit (xm_own M) (pc, i, n, v, t) = true := by
  have h3 := hM.1 (pc, i, n, v, t) (xs_lk_mem h)
  dsimp only at h3
  exact h3
def xs_lv : List (Nat × Value) → Nat → Option Value
  | [], _ => none
  | q :: t, i => bif Nat.beq q.1 i then some q.2 else xs_lv t i
theorem xs_lv_at {G : xs_G} {ls : Array Slot} {nL i : Nat} {v : Value} : ∀ {lv : List (Nat × Value)}, lv_has ls nL (lv.map (fun q => (q.1, xs_v G q.2))) → xs_lv lv i = some v → ls[i]? = some (.val (xs_v G v)) := by
  intro lv hl h
  have hm : (i, v) ∈ lv := by
    clear hl
    induction lv with
    | nil => cases h
    | cons q t ih =>
      unfold xs_lv at h
      cases hb : Nat.beq q.1 i with
      | false => rw [hb] at h; exact List.mem_cons_of_mem _ (ih h)
      | true =>
        rw [hb] at h
        have h1 : some q.2 = some v := h
        cases h1
        have h2 := Nat.eq_of_beq_eq_true hb
        subst h2
        exact List.mem_cons_self
  exact hl.2.2 _ (List.mem_map.mpr ⟨(i, v), hm, rfl⟩)
def xs_two : Value → Bool
  | .long _ => true
  | .double _ => true
  | _ => false
def xs_ins (i : Nat) (v : Value) : List (Nat × Value) → List (Nat × Value)
  | [] => [(i, v)]
  | q :: t => bif Nat.ble i q.1 then (i, v) :: q :: t else q :: xs_ins i v t
def xs_del1 (i : Nat) : List (Nat × Value) → List (Nat × Value)
  | [] => []
  | q :: t => bif (Nat.beq q.1 i || (Nat.beq (q.1 + 1) i && xs_two q.2)) then xs_del1 i t else q :: xs_del1 i t
def xs_del2 (i : Nat) : List (Nat × Value) → List (Nat × Value)
  | [] => []
  | q :: t => bif (Nat.beq q.1 i || (Nat.beq q.1 (i + 1) || (Nat.beq (q.1 + 1) i && xs_two q.2))) then xs_del2 i t else q :: xs_del2 i t
theorem xs_ins_mem {i : Nat} {v : Value} {z : Nat × Value} : ∀ {lv : List (Nat × Value)}, z ∈ xs_ins i v lv → z = (i, v) ∨ z ∈ lv := by
  intro lv
  induction lv with
  | nil =>
    intro h
    exact Or.inl (List.mem_singleton.mp h)
  | cons q t ih =>
    intro h
    unfold xs_ins at h
    cases hb : Nat.ble i q.1 with
    | true => rw [hb] at h; exact (List.mem_cons.mp h)
    | false =>
      rw [hb] at h
      rcases List.mem_cons.mp h with h1 | h1
      · exact Or.inr (by rw [h1]; exact List.mem_cons_self)
      · rcases ih h1 with h2 | h2
        · exact Or.inl h2
        · exact Or.inr (List.mem_cons_of_mem _ h2)
theorem xs_beq_ne {a b : Nat} (h : Nat.beq a b = false) : (a == b) = false := by
  cases hb : (a == b) with
  | false => rfl
  | true =>
    have h1 : a = b := by simpa using hb
    subst h1
    rw [Nat.beq_refl] at h
    cases h
theorem xs_two_cat {G : xs_G} {v : Value} : ((xs_v G v).category == 2) = xs_two v := by cases v <;> rfl
theorem xs_del1_mem {i : Nat} {z : Nat × Value} : ∀ {lv : List (Nat × Value)}, z ∈ xs_del1 i lv → z ∈ lv ∧ Nat.beq z.1 i = false ∧ (Nat.beq (z.1 + 1) i && xs_two z.2) = false := by
  intro lv
  induction lv with
  | nil => intro h; cases h
  | cons q t ih =>
    intro h
    unfold xs_del1 at h
    cases hb : (Nat.beq q.1 i || (Nat.beq (q.1 + 1) i && xs_two q.2)) with
    | true => rw [hb] at h; exact ⟨List.mem_cons_of_mem _ (ih h).1, (ih h).2⟩
    | false =>
      rw [hb] at h
      rcases List.mem_cons.mp h with h1 | h1
      · subst h1
        rw [Bool.or_eq_false_iff] at hb
        exact ⟨List.mem_cons_self, hb.1, hb.2⟩
      · exact ⟨List.mem_cons_of_mem _ (ih h1).1, (ih h1).2⟩
theorem xs_del2_mem {i : Nat} {z : Nat × Value} : ∀ {lv : List (Nat × Value)}, z ∈ xs_del2 i lv → z ∈ lv ∧ Nat.beq z.1 i = false ∧ Nat.beq z.1 (i + 1) = false ∧ (Nat.beq (z.1 + 1) i && xs_two z.2) = false := by
  intro lv
  induction lv with
  | nil => intro h; cases h
  | cons q t ih =>
    intro h
    unfold xs_del2 at h
    cases hb : (Nat.beq q.1 i || (Nat.beq q.1 (i + 1) || (Nat.beq (q.1 + 1) i && xs_two q.2))) with
    | true => rw [hb] at h; exact ⟨List.mem_cons_of_mem _ (ih h).1, (ih h).2⟩
    | false =>
      rw [hb] at h
      rcases List.mem_cons.mp h with h1 | h1
      · subst h1
        rw [Bool.or_eq_false_iff, Bool.or_eq_false_iff] at hb
        exact ⟨List.mem_cons_self, hb.1, hb.2.1, hb.2.2⟩
      · exact ⟨List.mem_cons_of_mem _ (ih h1).1, (ih h1).2⟩
theorem xs_beq1 {q i : Nat} {v w : Value} (h : (Nat.beq (q + 1) i && xs_two v) = false) {G : xs_G} (hw : w = xs_v G v) : (q + 1 == i && w.category == 2) = false := by
  subst hw
  rw [xs_two_cat]
  cases h1 : xs_two v with
  | false => simp
  | true =>
    rw [h1, Bool.and_true] at h
    rw [xs_beq_ne h]
    rfl
theorem xs_has1 {G : xs_G} {ls : Array Slot} {nL i : Nat} {v : Value} {lv : List (Nat × Value)} (h : lv_has ls nL ((i, xs_v G v) :: (lv.map (fun q => (q.1, xs_v G q.2))).filter (fun q => !(q.1 == i) && !(q.1 + 1 == i && q.2.category == 2)))) : lv_has ls nL ((xs_ins i v (xs_del1 i lv)).map (fun q => (q.1, xs_v G q.2))) := by
  refine ⟨h.1, h.2.1, fun q hq => ?_⟩
  obtain ⟨z, hz, rfl⟩ := List.mem_map.mp hq
  rcases xs_ins_mem hz with h1 | h1
  · subst h1
    exact h.2.2 _ List.mem_cons_self
  · obtain ⟨g1, g2, g3⟩ := xs_del1_mem h1
    refine h.2.2 _ (List.mem_cons_of_mem _ (List.mem_filter.mpr ⟨List.mem_map.mpr ⟨z, g1, rfl⟩, ?_⟩))
    show (!(z.1 == i) && !(z.1 + 1 == i && (xs_v G z.2).category == 2)) = true
    rw [xs_beq_ne g2, xs_beq1 g3 rfl]
    rfl
theorem xs_has2 {G : xs_G} {ls : Array Slot} {nL i : Nat} {v : Value} {lv : List (Nat × Value)} (h : lv_has ls nL ((i, xs_v G v) :: (lv.map (fun q => (q.1, xs_v G q.2))).filter (fun q => !(q.1 == i) && (!(q.1 == i + 1) && !(q.1 + 1 == i && q.2.category == 2))))) : lv_has ls nL ((xs_ins i v (xs_del2 i lv)).map (fun q => (q.1, xs_v G q.2))) := by
  refine ⟨h.1, h.2.1, fun q hq => ?_⟩
  obtain ⟨z, hz, rfl⟩ := List.mem_map.mp hq
  rcases xs_ins_mem hz with h1 | h1
  · subst h1
    exact h.2.2 _ List.mem_cons_self
  · obtain ⟨g1, g2, g3, g4⟩ := xs_del2_mem h1
    refine h.2.2 _ (List.mem_cons_of_mem _ (List.mem_filter.mpr ⟨List.mem_map.mpr ⟨z, g1, rfl⟩, ?_⟩))
    show (!(z.1 == i) && (!(z.1 == i + 1) && !(z.1 + 1 == i && (xs_v G z.2).category == 2))) = true
    rw [xs_beq_ne g2, xs_beq_ne g3, xs_beq1 g4 rfl]
    rfl
/-- fewer locals -/
theorem xs_pk {G : xs_G} {base d : Nat} {M : xs_M} {pc : Nat} {lv lv' : List (Nat × Value)} {stk : List Value} {st : xs_S} {Q : xs_Z} (ks : List Nat) (h : ks.filterMap (fun k => lv[k]?) = lv') (hk : xs_R G base d M (pc, lv', stk, st) Q) : xs_R G base d M (pc, lv, stk, st) Q := by
  intro p l e s m args below meth c H locs ls hF hK hS hP hl
  refine hk p l e s m args below meth c H locs ls hF hK hS hP ⟨hl.1, hl.2.1, fun q hq => ?_⟩
  obtain ⟨z, hz, rfl⟩ := List.mem_map.mp hq
  rw [← h] at hz
  obtain ⟨k, -, hk2⟩ := List.mem_filterMap.mp hz
  exact hl.2.2 _ (List.mem_map.mpr ⟨z, List.mem_of_getElem? hk2, rfl⟩)
/-- another reading of the memory's function: the same ints -/
theorem xs_eqS {G : xs_G} {base d : Nat} {M : xs_M} {pc : Nat} {lv : List (Nat × Value)} {stk : List Value} {st st' : xs_S} {Q : xs_Z} (h : st = st') (hk : xs_R G base d M (pc, lv, stk, st') Q) : xs_R G base d M (pc, lv, stk, st) Q := h ▸ hk
theorem xs_consZ {G : xs_G} {base d : Nat} {M : xs_M} {cf : xs_C} {Z Z' : xs_Z} (h : xs_R G base d M cf Z) (hq : ∀ G' v u, Z G' v u → Z' G' v u) : xs_R G base d M cf Z' := by
  intro p l e s m args below meth c H locs ls hF hK hS hP hl T hT X
  obtain ⟨t, h1, o, h2, h3, ⟨⟨G', v, u, e1, e2, eo, e3⟩, h4⟩, h5⟩ := h p l e s m args below meth c H locs ls hF hK hS hP hl T hT X
  exact ⟨t, h1, o, h2, h3, ⟨⟨G', v, u, e1, hq G' v u e2, eo, e3⟩, h4⟩, h5⟩
theorem xs_cons {G G0 : xs_G} {base d : Nat} {M : xs_M} {cf : xs_C} {Q Q' : Option Value → xs_S → Prop} (h : xs_R G base d M cf (xs_q G0 Q)) (hq : ∀ v u, Q v u → Q' v u) : xs_R G base d M cf (xs_q G0 Q') := xs_consZ h (fun _ v u h => ⟨h.1, h.2.1, hq v u h.2.2⟩)
theorem xs_KZcons {G : xs_G} {base d : Nat} {M : xs_M} {av : List Value} {st : xs_S} {Z Z' : xs_Z} (h : xs_KZ G base d M av st Z) (hq : ∀ G' v u, Z G' v u → Z' G' v u) : xs_KZ G base d M av st Z' := by
  intro l p e ha hc hk s m args below hf happ hP hT
  obtain ⟨k, o, h1, h2, h3, h4⟩ := h l p e ha hc hk s m args below hf happ hP hT
  obtain ⟨⟨⟨G', v, u, e1, e2, eo, e3⟩, h5⟩, h6⟩ := h4
  exact ⟨k, o, h1, h2, h3, ⟨⟨G', v, u, e1, hq G' v u e2, eo, e3⟩, h5⟩, h6⟩
theorem xs_Kcons {G : xs_G} {base d : Nat} {M : xs_M} {av : List Value} {st : xs_S} {Q Q' : Option Value → xs_S → Prop} (h : xs_K G base d M av st Q) (hq : ∀ v u, Q v u → Q' v u) : xs_K G base d M av st Q' := xs_KZcons h (fun _ v u h => ⟨h.1, h.2.1, hq v u h.2.2⟩)
section XS
variable {G : xs_G} {base d : Nat} {M : xs_M} {pc n t : Nat} {lit : Int32} {lv : List (Nat × Value)} {rest : List Value} {st : xs_S} {Q : xs_Z}
theorem xr_iadd {x y : Int32} (hM : xs_MOK M) (hlk : xs_lk (xm_tb M) pc = some (.iadd, 1, lit, t)) (hk : xs_R G base d M (pc + 1, lv, .int (x + y) :: rest, st) Q) : xs_R G base d M (pc, lv, .int y :: .int x :: rest, st) Q := by
  intro p l e s m args below meth c H locs ls hF hK hS hP hl
  obtain ⟨hx, hb, hr, hml, hown, hts, hlocks⟩ := hF
  have hdg := (xs_dec hM hlk).1
  show W p l e (xs_rm G d) s m args below meth c H locs (gc G) (gs G) _ (F0 m pc ls (.int y :: .int x :: rest.map (xs_v G)))
  exact lv_iadd hx hb hdg (hk p l e s m args below meth c H locs ls ⟨hx, hb, hr, hml, hown, hts, hlocks⟩ hK hS hP hl)
theorem xr_isub {x y : Int32} (hM : xs_MOK M) (hlk : xs_lk (xm_tb M) pc = some (.isub, 1, lit, t)) (hk : xs_R G base d M (pc + 1, lv, .int (x - y) :: rest, st) Q) : xs_R G base d M (pc, lv, .int y :: .int x :: rest, st) Q := by
  intro p l e s m args below meth c H locs ls hF hK hS hP hl
  obtain ⟨hx, hb, hr, hml, hown, hts, hlocks⟩ := hF
  have hdg := (xs_dec hM hlk).1
  show W p l e (xs_rm G d) s m args below meth c H locs (gc G) (gs G) _ (F0 m pc ls (.int y :: .int x :: rest.map (xs_v G)))
  exact lv_isub hx hb hdg (hk p l e s m args below meth c H locs ls ⟨hx, hb, hr, hml, hown, hts, hlocks⟩ hK hS hP hl)
theorem xr_imul {x y : Int32} (hM : xs_MOK M) (hlk : xs_lk (xm_tb M) pc = some (.imul, 1, lit, t)) (hk : xs_R G base d M (pc + 1, lv, .int (x * y) :: rest, st) Q) : xs_R G base d M (pc, lv, .int y :: .int x :: rest, st) Q := by
  intro p l e s m args below meth c H locs ls hF hK hS hP hl
  obtain ⟨hx, hb, hr, hml, hown, hts, hlocks⟩ := hF
  have hdg := (xs_dec hM hlk).1
  show W p l e (xs_rm G d) s m args below meth c H locs (gc G) (gs G) _ (F0 m pc ls (.int y :: .int x :: rest.map (xs_v G)))
  exact lv_imul hx hb hdg (hk p l e s m args below meth c H locs ls ⟨hx, hb, hr, hml, hown, hts, hlocks⟩ hK hS hP hl)
theorem xr_iand {x y : Int32} (hM : xs_MOK M) (hlk : xs_lk (xm_tb M) pc = some (.iand, 1, lit, t)) (hk : xs_R G base d M (pc + 1, lv, .int (x &&& y) :: rest, st) Q) : xs_R G base d M (pc, lv, .int y :: .int x :: rest, st) Q := by
  intro p l e s m args below meth c H locs ls hF hK hS hP hl
  obtain ⟨hx, hb, hr, hml, hown, hts, hlocks⟩ := hF
  have hdg := (xs_dec hM hlk).1
  show W p l e (xs_rm G d) s m args below meth c H locs (gc G) (gs G) _ (F0 m pc ls (.int y :: .int x :: rest.map (xs_v G)))
  exact lv_iand hx hb hdg (hk p l e s m args below meth c H locs ls ⟨hx, hb, hr, hml, hown, hts, hlocks⟩ hK hS hP hl)
theorem xr_ior {x y : Int32} (hM : xs_MOK M) (hlk : xs_lk (xm_tb M) pc = some (.ior, 1, lit, t)) (hk : xs_R G base d M (pc + 1, lv, .int (x ||| y) :: rest, st) Q) : xs_R G base d M (pc, lv, .int y :: .int x :: rest, st) Q := by
  intro p l e s m args below meth c H locs ls hF hK hS hP hl
  obtain ⟨hx, hb, hr, hml, hown, hts, hlocks⟩ := hF
  have hdg := (xs_dec hM hlk).1
  show W p l e (xs_rm G d) s m args below meth c H locs (gc G) (gs G) _ (F0 m pc ls (.int y :: .int x :: rest.map (xs_v G)))
  exact lv_ior hx hb hdg (hk p l e s m args below meth c H locs ls ⟨hx, hb, hr, hml, hown, hts, hlocks⟩ hK hS hP hl)
theorem xr_ixor {x y : Int32} (hM : xs_MOK M) (hlk : xs_lk (xm_tb M) pc = some (.ixor, 1, lit, t)) (hk : xs_R G base d M (pc + 1, lv, .int (x ^^^ y) :: rest, st) Q) : xs_R G base d M (pc, lv, .int y :: .int x :: rest, st) Q := by
  intro p l e s m args below meth c H locs ls hF hK hS hP hl
  obtain ⟨hx, hb, hr, hml, hown, hts, hlocks⟩ := hF
  have hdg := (xs_dec hM hlk).1
  show W p l e (xs_rm G d) s m args below meth c H locs (gc G) (gs G) _ (F0 m pc ls (.int y :: .int x :: rest.map (xs_v G)))
  exact lv_ixor hx hb hdg (hk p l e s m args below meth c H locs ls ⟨hx, hb, hr, hml, hown, hts, hlocks⟩ hK hS hP hl)
theorem xr_ishl {x y : Int32} (hM : xs_MOK M) (hlk : xs_lk (xm_tb M) pc = some (.ishl, 1, lit, t)) (hk : xs_R G base d M (pc + 1, lv, .int (x <<< (y &&& 31)) :: rest, st) Q) : xs_R G base d M (pc, lv, .int y :: .int x :: rest, st) Q := by
  intro p l e s m args below meth c H locs ls hF hK hS hP hl
  obtain ⟨hx, hb, hr, hml, hown, hts, hlocks⟩ := hF
  have hdg := (xs_dec hM hlk).1
  show W p l e (xs_rm G d) s m args below meth c H locs (gc G) (gs G) _ (F0 m pc ls (.int y :: .int x :: rest.map (xs_v G)))
  exact lv_ishl hx hb hdg (hk p l e s m args below meth c H locs ls ⟨hx, hb, hr, hml, hown, hts, hlocks⟩ hK hS hP hl)
theorem xr_ishr {x y : Int32} (hM : xs_MOK M) (hlk : xs_lk (xm_tb M) pc = some (.ishr, 1, lit, t)) (hk : xs_R G base d M (pc + 1, lv, .int (x >>> (y &&& 31)) :: rest, st) Q) : xs_R G base d M (pc, lv, .int y :: .int x :: rest, st) Q := by
  intro p l e s m args below meth c H locs ls hF hK hS hP hl
  obtain ⟨hx, hb, hr, hml, hown, hts, hlocks⟩ := hF
  have hdg := (xs_dec hM hlk).1
  show W p l e (xs_rm G d) s m args below meth c H locs (gc G) (gs G) _ (F0 m pc ls (.int y :: .int x :: rest.map (xs_v G)))
  exact lv_ishr hx hb hdg (hk p l e s m args below meth c H locs ls ⟨hx, hb, hr, hml, hown, hts, hlocks⟩ hK hS hP hl)
theorem xr_idiv {x y : Int32} (hM : xs_MOK M) (hlk : xs_lk (xm_tb M) pc = some (.idiv, 1, lit, t)) (hne : ¬ y = 0) (hk : xs_R G base d M (pc + 1, lv, .int (x / y) :: rest, st) Q) : xs_R G base d M (pc, lv, .int y :: .int x :: rest, st) Q := by
  intro p l e s m args below meth c H locs ls hF hK hS hP hl
  obtain ⟨hx, hb, hr, hml, hown, hts, hlocks⟩ := hF
  have hdg := (xs_dec hM hlk).1
  show W p l e (xs_rm G d) s m args below meth c H locs (gc G) (gs G) _ (F0 m pc ls (.int y :: .int x :: rest.map (xs_v G)))
  exact lv_idiv hx hb hdg hne (hk p l e s m args below meth c H locs ls ⟨hx, hb, hr, hml, hown, hts, hlocks⟩ hK hS hP hl)
theorem xr_irem {x y : Int32} (hM : xs_MOK M) (hlk : xs_lk (xm_tb M) pc = some (.irem, 1, lit, t)) (hne : ¬ y = 0) (hk : xs_R G base d M (pc + 1, lv, .int (x - x / y * y) :: rest, st) Q) : xs_R G base d M (pc, lv, .int y :: .int x :: rest, st) Q := by
  intro p l e s m args below meth c H locs ls hF hK hS hP hl
  obtain ⟨hx, hb, hr, hml, hown, hts, hlocks⟩ := hF
  have hdg := (xs_dec hM hlk).1
  show W p l e (xs_rm G d) s m args below meth c H locs (gc G) (gs G) _ (F0 m pc ls (.int y :: .int x :: rest.map (xs_v G)))
  exact lv_irem hx hb hdg hne (hk p l e s m args below meth c H locs ls ⟨hx, hb, hr, hml, hown, hts, hlocks⟩ hK hS hP hl)
theorem xr_ladd {x y : Int64} (hM : xs_MOK M) (hlk : xs_lk (xm_tb M) pc = some (.ladd, 1, lit, t)) (hk : xs_R G base d M (pc + 1, lv, .long (x + y) :: rest, st) Q) : xs_R G base d M (pc, lv, .long y :: .long x :: rest, st) Q := by
  intro p l e s m args below meth c H locs ls hF hK hS hP hl
  obtain ⟨hx, hb, hr, hml, hown, hts, hlocks⟩ := hF
  have hdg := (xs_dec hM hlk).1
  show W p l e (xs_rm G d) s m args below meth c H locs (gc G) (gs G) _ (F0 m pc ls (.long y :: .long x :: rest.map (xs_v G)))
  exact lv_ladd hx hb hdg (hk p l e s m args below meth c H locs ls ⟨hx, hb, hr, hml, hown, hts, hlocks⟩ hK hS hP hl)
theorem xr_lsub {x y : Int64} (hM : xs_MOK M) (hlk : xs_lk (xm_tb M) pc = some (.lsub, 1, lit, t)) (hk : xs_R G base d M (pc + 1, lv, .long (x - y) :: rest, st) Q) : xs_R G base d M (pc, lv, .long y :: .long x :: rest, st) Q := by
  intro p l e s m args below meth c H locs ls hF hK hS hP hl
  obtain ⟨hx, hb, hr, hml, hown, hts, hlocks⟩ := hF
  have hdg := (xs_dec hM hlk).1
  show W p l e (xs_rm G d) s m args below meth c H locs (gc G) (gs G) _ (F0 m pc ls (.long y :: .long x :: rest.map (xs_v G)))
  exact lv_lsub hx hb hdg (hk p l e s m args below meth c H locs ls ⟨hx, hb, hr, hml, hown, hts, hlocks⟩ hK hS hP hl)
theorem xr_land {x y : Int64} (hM : xs_MOK M) (hlk : xs_lk (xm_tb M) pc = some (.land, 1, lit, t)) (hk : xs_R G base d M (pc + 1, lv, .long (x &&& y) :: rest, st) Q) : xs_R G base d M (pc, lv, .long y :: .long x :: rest, st) Q := by
  intro p l e s m args below meth c H locs ls hF hK hS hP hl
  obtain ⟨hx, hb, hr, hml, hown, hts, hlocks⟩ := hF
  have hdg := (xs_dec hM hlk).1
  show W p l e (xs_rm G d) s m args below meth c H locs (gc G) (gs G) _ (F0 m pc ls (.long y :: .long x :: rest.map (xs_v G)))
  exact lv_land hx hb hdg (hk p l e s m args below meth c H locs ls ⟨hx, hb, hr, hml, hown, hts, hlocks⟩ hK hS hP hl)
theorem xr_lor {x y : Int64} (hM : xs_MOK M) (hlk : xs_lk (xm_tb M) pc = some (.lor, 1, lit, t)) (hk : xs_R G base d M (pc + 1, lv, .long (x ||| y) :: rest, st) Q) : xs_R G base d M (pc, lv, .long y :: .long x :: rest, st) Q := by
  intro p l e s m args below meth c H locs ls hF hK hS hP hl
  obtain ⟨hx, hb, hr, hml, hown, hts, hlocks⟩ := hF
  have hdg := (xs_dec hM hlk).1
  show W p l e (xs_rm G d) s m args below meth c H locs (gc G) (gs G) _ (F0 m pc ls (.long y :: .long x :: rest.map (xs_v G)))
  exact lv_lor hx hb hdg (hk p l e s m args below meth c H locs ls ⟨hx, hb, hr, hml, hown, hts, hlocks⟩ hK hS hP hl)
theorem xr_lcmp {x y : Int64} (hM : xs_MOK M) (hlk : xs_lk (xm_tb M) pc = some (.lcmp, 1, lit, t)) (hk : xs_R G base d M (pc + 1, lv, .int (lg_cmp x y) :: rest, st) Q) : xs_R G base d M (pc, lv, .long y :: .long x :: rest, st) Q := by
  intro p l e s m args below meth c H locs ls hF hK hS hP hl
  obtain ⟨hx, hb, hr, hml, hown, hts, hlocks⟩ := hF
  have hdg := (xs_dec hM hlk).1
  show W p l e (xs_rm G d) s m args below meth c H locs (gc G) (gs G) _ (F0 m pc ls (.long y :: .long x :: rest.map (xs_v G)))
  exact W.lcmp hx hb hdg (hk p l e s m args below meth c H locs ls ⟨hx, hb, hr, hml, hown, hts, hlocks⟩ hK hS hP hl)
theorem xr_i2l {x : Int32} (hM : xs_MOK M) (hlk : xs_lk (xm_tb M) pc = some (.i2l, 1, lit, t)) (hk : xs_R G base d M (pc + 1, lv, .long x.toInt64 :: rest, st) Q) : xs_R G base d M (pc, lv, .int x :: rest, st) Q := by
  intro p l e s m args below meth c H locs ls hF hK hS hP hl
  obtain ⟨hx, hb, hr, hml, hown, hts, hlocks⟩ := hF
  have hdg := (xs_dec hM hlk).1
  show W p l e (xs_rm G d) s m args below meth c H locs (gc G) (gs G) _ (F0 m pc ls (.int x :: rest.map (xs_v G)))
  exact lv_i2l hx hb hdg rfl (hk p l e s m args below meth c H locs ls ⟨hx, hb, hr, hml, hown, hts, hlocks⟩ hK hS hP hl)
theorem xr_l2i {x : Int64} (hM : xs_MOK M) (hlk : xs_lk (xm_tb M) pc = some (.l2i, 1, lit, t)) (hk : xs_R G base d M (pc + 1, lv, .int x.toInt32 :: rest, st) Q) : xs_R G base d M (pc, lv, .long x :: rest, st) Q := by
  intro p l e s m args below meth c H locs ls hF hK hS hP hl
  obtain ⟨hx, hb, hr, hml, hown, hts, hlocks⟩ := hF
  have hdg := (xs_dec hM hlk).1
  show W p l e (xs_rm G d) s m args below meth c H locs (gc G) (gs G) _ (F0 m pc ls (.long x :: rest.map (xs_v G)))
  exact lv_l2i hx hb hdg rfl (hk p l e s m args below meth c H locs ls ⟨hx, hb, hr, hml, hown, hts, hlocks⟩ hK hS hP hl)
theorem xr_i2c {x : Int32} (hM : xs_MOK M) (hlk : xs_lk (xm_tb M) pc = some (.i2c, 1, lit, t)) (hk : xs_R G base d M (pc + 1, lv, .int (x.toUInt32 % 65536).toInt32 :: rest, st) Q) : xs_R G base d M (pc, lv, .int x :: rest, st) Q := by
  intro p l e s m args below meth c H locs ls hF hK hS hP hl
  obtain ⟨hx, hb, hr, hml, hown, hts, hlocks⟩ := hF
  have hdg := (xs_dec hM hlk).1
  show W p l e (xs_rm G d) s m args below meth c H locs (gc G) (gs G) _ (F0 m pc ls (.int x :: rest.map (xs_v G)))
  exact lv_i2c hx hb hdg rfl (hk p l e s m args below meth c H locs ls ⟨hx, hb, hr, hml, hown, hts, hlocks⟩ hK hS hP hl)
theorem xr_i2d {x : Int32} (hM : xs_MOK M) (hlk : xs_lk (xm_tb M) pc = some (.i2d, 1, lit, t)) (hk : xs_R G base d M (pc + 1, lv, .double (FP.i2d x) :: rest, st) Q) : xs_R G base d M (pc, lv, .int x :: rest, st) Q := by
  intro p l e s m args below meth c H locs ls hF hK hS hP hl
  obtain ⟨hx, hb, hr, hml, hown, hts, hlocks⟩ := hF
  have hdg := (xs_dec hM hlk).1
  show W p l e (xs_rm G d) s m args below meth c H locs (gc G) (gs G) _ (F0 m pc ls (.int x :: rest.map (xs_v G)))
  exact lv_i2d hx hb hdg (hk p l e s m args below meth c H locs ls ⟨hx, hb, hr, hml, hown, hts, hlocks⟩ hK hS hP hl)
theorem xr_i2f {x : Int32} (hM : xs_MOK M) (hlk : xs_lk (xm_tb M) pc = some (.i2f, 1, lit, t)) (hk : xs_R G base d M (pc + 1, lv, .float (FP.i2f x) :: rest, st) Q) : xs_R G base d M (pc, lv, .int x :: rest, st) Q := by
  intro p l e s m args below meth c H locs ls hF hK hS hP hl
  obtain ⟨hx, hb, hr, hml, hown, hts, hlocks⟩ := hF
  have hdg := (xs_dec hM hlk).1
  show W p l e (xs_rm G d) s m args below meth c H locs (gc G) (gs G) _ (F0 m pc ls (.int x :: rest.map (xs_v G)))
  exact lv_i2f hx hb hdg (hk p l e s m args below meth c H locs ls ⟨hx, hb, hr, hml, hown, hts, hlocks⟩ hK hS hP hl)
theorem xr_d2l {x : UInt64} (hM : xs_MOK M) (hlk : xs_lk (xm_tb M) pc = some (.d2l, 1, lit, t)) (hk : xs_R G base d M (pc + 1, lv, .long (FP.d2l x) :: rest, st) Q) : xs_R G base d M (pc, lv, .double x :: rest, st) Q := by
  intro p l e s m args below meth c H locs ls hF hK hS hP hl
  obtain ⟨hx, hb, hr, hml, hown, hts, hlocks⟩ := hF
  have hdg := (xs_dec hM hlk).1
  show W p l e (xs_rm G d) s m args below meth c H locs (gc G) (gs G) _ (F0 m pc ls (.double x :: rest.map (xs_v G)))
  exact lv_d2l hx hb hdg (hk p l e s m args below meth c H locs ls ⟨hx, hb, hr, hml, hown, hts, hlocks⟩ hK hS hP hl)
theorem xr_lushr {x : Int64} {y : Int32} (hM : xs_MOK M) (hlk : xs_lk (xm_tb M) pc = some (.lushr, 1, lit, t)) (hk : xs_R G base d M (pc + 1, lv, .long (x.toUInt64 >>> (y.toInt64.toUInt64 &&& Int64.toUInt64 63)).toInt64 :: rest, st) Q) : xs_R G base d M (pc, lv, .int y :: .long x :: rest, st) Q := by
  intro p l e s m args below meth c H locs ls hF hK hS hP hl
  obtain ⟨hx, hb, hr, hml, hown, hts, hlocks⟩ := hF
  have hdg := (xs_dec hM hlk).1
  show W p l e (xs_rm G d) s m args below meth c H locs (gc G) (gs G) _ (F0 m pc ls (.int y :: .long x :: rest.map (xs_v G)))
  exact lv_lushr hx hb hdg rfl (hk p l e s m args below meth c H locs ls ⟨hx, hb, hr, hml, hown, hts, hlocks⟩ hK hS hP hl)
theorem xr_lshl {x : Int64} {y : Int32} (hM : xs_MOK M) (hlk : xs_lk (xm_tb M) pc = some (.lshl, 1, lit, t)) (hk : xs_R G base d M (pc + 1, lv, .long (x <<< (y.toInt64 &&& 63)) :: rest, st) Q) : xs_R G base d M (pc, lv, .int y :: .long x :: rest, st) Q := by
  intro p l e s m args below meth c H locs ls hF hK hS hP hl
  obtain ⟨hx, hb, hr, hml, hown, hts, hlocks⟩ := hF
  have hdg := (xs_dec hM hlk).1
  show W p l e (xs_rm G d) s m args below meth c H locs (gc G) (gs G) _ (F0 m pc ls (.int y :: .long x :: rest.map (xs_v G)))
  exact lv_lshl hx hb hdg rfl (hk p l e s m args below meth c H locs ls ⟨hx, hb, hr, hml, hown, hts, hlocks⟩ hK hS hP hl)
theorem xr_dadd {x y : UInt64} (hM : xs_MOK M) (hlk : xs_lk (xm_tb M) pc = some (.dadd, 1, lit, t)) (hne : vf_n64 (FP.dadd x y)) (hk : xs_R G base d M (pc + 1, lv, .double (FP.dadd x y) :: rest, st) Q) : xs_R G base d M (pc, lv, .double y :: .double x :: rest, st) Q := by
  intro p l e s m args below meth c H locs ls hF hK hS hP hl
  obtain ⟨hx, hb, hr, hml, hown, hts, hlocks⟩ := hF
  have hdg := (xs_dec hM hlk).1
  show W p l e (xs_rm G d) s m args below meth c H locs (gc G) (gs G) _ (F0 m pc ls (.double y :: .double x :: rest.map (xs_v G)))
  exact lv_dadd hx hb hdg hne (hk p l e s m args below meth c H locs ls ⟨hx, hb, hr, hml, hown, hts, hlocks⟩ hK hS hP hl)
theorem xr_dsub {x y : UInt64} (hM : xs_MOK M) (hlk : xs_lk (xm_tb M) pc = some (.dsub, 1, lit, t)) (hne : vf_n64 (FP.dsub x y)) (hk : xs_R G base d M (pc + 1, lv, .double (FP.dsub x y) :: rest, st) Q) : xs_R G base d M (pc, lv, .double y :: .double x :: rest, st) Q := by
  intro p l e s m args below meth c H locs ls hF hK hS hP hl
  obtain ⟨hx, hb, hr, hml, hown, hts, hlocks⟩ := hF
  have hdg := (xs_dec hM hlk).1
  show W p l e (xs_rm G d) s m args below meth c H locs (gc G) (gs G) _ (F0 m pc ls (.double y :: .double x :: rest.map (xs_v G)))
  exact lv_dsub hx hb hdg hne (hk p l e s m args below meth c H locs ls ⟨hx, hb, hr, hml, hown, hts, hlocks⟩ hK hS hP hl)
theorem xr_dmul {x y : UInt64} (hM : xs_MOK M) (hlk : xs_lk (xm_tb M) pc = some (.dmul, 1, lit, t)) (hne : vf_n64 (FP.dmul x y)) (hk : xs_R G base d M (pc + 1, lv, .double (FP.dmul x y) :: rest, st) Q) : xs_R G base d M (pc, lv, .double y :: .double x :: rest, st) Q := by
  intro p l e s m args below meth c H locs ls hF hK hS hP hl
  obtain ⟨hx, hb, hr, hml, hown, hts, hlocks⟩ := hF
  have hdg := (xs_dec hM hlk).1
  show W p l e (xs_rm G d) s m args below meth c H locs (gc G) (gs G) _ (F0 m pc ls (.double y :: .double x :: rest.map (xs_v G)))
  exact lv_dmul hx hb hdg hne (hk p l e s m args below meth c H locs ls ⟨hx, hb, hr, hml, hown, hts, hlocks⟩ hK hS hP hl)
theorem xr_ddiv {x y : UInt64} (hM : xs_MOK M) (hlk : xs_lk (xm_tb M) pc = some (.ddiv, 1, lit, t)) (hne : vf_n64 (FP.ddiv x y)) (hk : xs_R G base d M (pc + 1, lv, .double (FP.ddiv x y) :: rest, st) Q) : xs_R G base d M (pc, lv, .double y :: .double x :: rest, st) Q := by
  intro p l e s m args below meth c H locs ls hF hK hS hP hl
  obtain ⟨hx, hb, hr, hml, hown, hts, hlocks⟩ := hF
  have hdg := (xs_dec hM hlk).1
  show W p l e (xs_rm G d) s m args below meth c H locs (gc G) (gs G) _ (F0 m pc ls (.double y :: .double x :: rest.map (xs_v G)))
  exact lv_ddiv hx hb hdg hne (hk p l e s m args below meth c H locs ls ⟨hx, hb, hr, hml, hown, hts, hlocks⟩ hK hS hP hl)
theorem xr_fdiv {x y : UInt32} (hM : xs_MOK M) (hlk : xs_lk (xm_tb M) pc = some (.fdiv, 1, lit, t)) (hne : vf_n32 (FP.fdiv x y)) (hk : xs_R G base d M (pc + 1, lv, .float (FP.fdiv x y) :: rest, st) Q) : xs_R G base d M (pc, lv, .float y :: .float x :: rest, st) Q := by
  intro p l e s m args below meth c H locs ls hF hK hS hP hl
  obtain ⟨hx, hb, hr, hml, hown, hts, hlocks⟩ := hF
  have hdg := (xs_dec hM hlk).1
  show W p l e (xs_rm G d) s m args below meth c H locs (gc G) (gs G) _ (F0 m pc ls (.float y :: .float x :: rest.map (xs_v G)))
  exact lv_fdiv hx hb hdg hne (hk p l e s m args below meth c H locs ls ⟨hx, hb, hr, hml, hown, hts, hlocks⟩ hK hS hP hl)
theorem xr_f2d {x : UInt32} (hM : xs_MOK M) (hlk : xs_lk (xm_tb M) pc = some (.f2d, 1, lit, t)) (hne : vf_n64 (FP.f2d x)) (hk : xs_R G base d M (pc + 1, lv, .double (FP.f2d x) :: rest, st) Q) : xs_R G base d M (pc, lv, .float x :: rest, st) Q := by
  intro p l e s m args below meth c H locs ls hF hK hS hP hl
  obtain ⟨hx, hb, hr, hml, hown, hts, hlocks⟩ := hF
  have hdg := (xs_dec hM hlk).1
  show W p l e (xs_rm G d) s m args below meth c H locs (gc G) (gs G) _ (F0 m pc ls (.float x :: rest.map (xs_v G)))
  exact lv_f2d hx hb hdg hne (hk p l e s m args below meth c H locs ls ⟨hx, hb, hr, hml, hown, hts, hlocks⟩ hK hS hP hl)
theorem xr_dcmp {x y : UInt64} {op : CmpOp} (hM : xs_MOK M) (hlk : xs_lk (xm_tb M) pc = some (.dcmp op, 1, lit, t)) (hk : xs_R G base d M (pc + 1, lv, .int (Op.cmpValue (FP.dcmp x y) op) :: rest, st) Q) : xs_R G base d M (pc, lv, .double y :: .double x :: rest, st) Q := by
  intro p l e s m args below meth c H locs ls hF hK hS hP hl
  obtain ⟨hx, hb, hr, hml, hown, hts, hlocks⟩ := hF
  have hdg := (xs_dec hM hlk).1
  show W p l e (xs_rm G d) s m args below meth c H locs (gc G) (gs G) _ (F0 m pc ls (.double y :: .double x :: rest.map (xs_v G)))
  exact lv_dcmp hx hb hdg (hk p l e s m args below meth c H locs ls ⟨hx, hb, hr, hml, hown, hts, hlocks⟩ hK hS hP hl)
theorem xr_fcmp {x y : UInt32} {op : CmpOp} (hM : xs_MOK M) (hlk : xs_lk (xm_tb M) pc = some (.fcmp op, 1, lit, t)) (hk : xs_R G base d M (pc + 1, lv, .int (Op.cmpValue (FP.fcmp x y) op) :: rest, st) Q) : xs_R G base d M (pc, lv, .float y :: .float x :: rest, st) Q := by
  intro p l e s m args below meth c H locs ls hF hK hS hP hl
  obtain ⟨hx, hb, hr, hml, hown, hts, hlocks⟩ := hF
  have hdg := (xs_dec hM hlk).1
  show W p l e (xs_rm G d) s m args below meth c H locs (gc G) (gs G) _ (F0 m pc ls (.float y :: .float x :: rest.map (xs_v G)))
  exact lv_fcmp hx hb hdg (hk p l e s m args below meth c H locs ls ⟨hx, hb, hr, hml, hown, hts, hlocks⟩ hK hS hP hl)
theorem xr_iconst {z : Int} (hM : xs_MOK M) (hlk : xs_lk (xm_tb M) pc = some (.iconst z, 1, lit, t)) (hk : xs_R G base d M (pc + 1, lv, .int lit :: rest, st) Q) : xs_R G base d M (pc, lv, rest, st) Q := by
  intro p l e s m args below meth c H locs ls hF hK hS hP hl
  obtain ⟨hx, hb, hr, hml, hown, hts, hlocks⟩ := hF
  obtain ⟨hdg, hli⟩ := xs_dec hM hlk
  exact lv_iconst hx hb hdg (of_decide_eq_true hli) (hk p l e s m args below meth c H locs ls ⟨hx, hb, hr, hml, hown, hts, hlocks⟩ hK hS hP hl)
theorem xr_bipush {z : Int} (hM : xs_MOK M) (hlk : xs_lk (xm_tb M) pc = some (.bipush z, 2, lit, t)) (hk : xs_R G base d M (pc + 2, lv, .int lit :: rest, st) Q) : xs_R G base d M (pc, lv, rest, st) Q := by
  intro p l e s m args below meth c H locs ls hF hK hS hP hl
  obtain ⟨hx, hb, hr, hml, hown, hts, hlocks⟩ := hF
  obtain ⟨hdg, hli⟩ := xs_dec hM hlk
  exact lv_bipush hx hb hdg (of_decide_eq_true hli) (hk p l e s m args below meth c H locs ls ⟨hx, hb, hr, hml, hown, hts, hlocks⟩ hK hS hP hl)
theorem xr_sipush {z : Int} (hM : xs_MOK M) (hlk : xs_lk (xm_tb M) pc = some (.sipush z, 3, lit, t)) (hk : xs_R G base d M (pc + 3, lv, .int lit :: rest, st) Q) : xs_R G base d M (pc, lv, rest, st) Q := by
  intro p l e s m args below meth c H locs ls hF hK hS hP hl
  obtain ⟨hx, hb, hr, hml, hown, hts, hlocks⟩ := hF
  obtain ⟨hdg, hli⟩ := xs_dec hM hlk
  exact lv_sipush hx hb hdg (of_decide_eq_true hli) (hk p l e s m args below meth c H locs ls ⟨hx, hb, hr, hml, hown, hts, hlocks⟩ hK hS hP hl)
theorem xr_ldc {z : Nat} (hM : xs_MOK M) (hlk : xs_lk (xm_tb M) pc = some (.ldc z, 2, lit, t)) (hk : xs_R G base d M (pc + 2, lv, .int lit :: rest, st) Q) : xs_R G base d M (pc, lv, rest, st) Q := by
  intro p l e s m args below meth c H locs ls hF hK hS hP hl
  obtain ⟨hx, hb, hr, hml, hown, hts, hlocks⟩ := hF
  obtain ⟨hdg, hli⟩ := xs_dec hM hlk
  exact lv_ldc hx hb hown (hts _ (xs_consts_ok _ (of_decide_eq_true hli))) hdg (hk p l e s m args below meth c H locs ls ⟨hx, hb, hr, hml, hown, hts, hlocks⟩ hK hS hP hl)
theorem xr_ldc2 {z : Nat} {v : Int64} (hM : xs_MOK M) (hlk : xs_lk (xm_tb M) pc = some (.ldc2_w z, 3, lit, t)) (hw : Jvm.Cond.constantLong (xm_own M) z v ∈ xw) (hk : xs_R G base d M (pc + 3, lv, .long v :: rest, st) Q) : xs_R G base d M (pc, lv, rest, st) Q := by
  intro p l e s m args below meth c H locs ls hF hK hS hP hl
  obtain ⟨hx, hb, hr, hml, hown, hts, hlocks⟩ := hF
  obtain ⟨hdg, hli⟩ := xs_dec hM hlk
  exact lv_ldc2 hx hb hown (hts _ hw) hdg (hk p l e s m args below meth c H locs ls ⟨hx, hb, hr, hml, hown, hts, hlocks⟩ hK hS hP hl)
theorem xr_ldc2d {z : Nat} {v : UInt64} (hM : xs_MOK M) (hlk : xs_lk (xm_tb M) pc = some (.ldc2_w z, 3, lit, t)) (hw : Jvm.Cond.constantDouble (xm_own M) z v ∈ xw) (hk : xs_R G base d M (pc + 3, lv, .double v :: rest, st) Q) : xs_R G base d M (pc, lv, rest, st) Q := by
  intro p l e s m args below meth c H locs ls hF hK hS hP hl
  obtain ⟨hx, hb, hr, hml, hown, hts, hlocks⟩ := hF
  obtain ⟨hdg, hli⟩ := xs_dec hM hlk
  exact lv_ldc2d hx hb hown (hts _ hw) hdg (hk p l e s m args below meth c H locs ls ⟨hx, hb, hr, hml, hown, hts, hlocks⟩ hK hS hP hl)
theorem xr_lconst {z : Fin 2} (hM : xs_MOK M) (hlk : xs_lk (xm_tb M) pc = some (.lconst z, 1, lit, t)) (hk : xs_R G base d M (pc + 1, lv, .long (Int64.ofNat (z : Nat)) :: rest, st) Q) : xs_R G base d M (pc, lv, rest, st) Q := by
  intro p l e s m args below meth c H locs ls hF hK hS hP hl
  obtain ⟨hx, hb, hr, hml, hown, hts, hlocks⟩ := hF
  have hdg := (xs_dec hM hlk).1
  exact lv_lconst hx hb hdg rfl (hk p l e s m args below meth c H locs ls ⟨hx, hb, hr, hml, hown, hts, hlocks⟩ hK hS hP hl)
theorem xr_dconst0 (hM : xs_MOK M) (hlk : xs_lk (xm_tb M) pc = some (.dconst 0, 1, lit, t)) (hk : xs_R G base d M (pc + 1, lv, .double FP.dconst0 :: rest, st) Q) : xs_R G base d M (pc, lv, rest, st) Q := by
  intro p l e s m args below meth c H locs ls hF hK hS hP hl
  obtain ⟨hx, hb, hr, hml, hown, hts, hlocks⟩ := hF
  have hdg := (xs_dec hM hlk).1
  exact lv_dconst0 hx hb hdg (hk p l e s m args below meth c H locs ls ⟨hx, hb, hr, hml, hown, hts, hlocks⟩ hK hS hP hl)
theorem xr_dconst1 (hM : xs_MOK M) (hlk : xs_lk (xm_tb M) pc = some (.dconst 1, 1, lit, t)) (hk : xs_R G base d M (pc + 1, lv, .double FP.dconst1 :: rest, st) Q) : xs_R G base d M (pc, lv, rest, st) Q := by
  intro p l e s m args below meth c H locs ls hF hK hS hP hl
  obtain ⟨hx, hb, hr, hml, hown, hts, hlocks⟩ := hF
  have hdg := (xs_dec hM hlk).1
  exact lv_dconst1 hx hb hdg (hk p l e s m args below meth c H locs ls ⟨hx, hb, hr, hml, hown, hts, hlocks⟩ hK hS hP hl)
theorem xr_fconst0 (hM : xs_MOK M) (hlk : xs_lk (xm_tb M) pc = some (.fconst 0, 1, lit, t)) (hk : xs_R G base d M (pc + 1, lv, .float FP.fconst0 :: rest, st) Q) : xs_R G base d M (pc, lv, rest, st) Q := by
  intro p l e s m args below meth c H locs ls hF hK hS hP hl
  obtain ⟨hx, hb, hr, hml, hown, hts, hlocks⟩ := hF
  have hdg := (xs_dec hM hlk).1
  exact lv_fconst0 hx hb hdg (hk p l e s m args below meth c H locs ls ⟨hx, hb, hr, hml, hown, hts, hlocks⟩ hK hS hP hl)
theorem xr_iload_n {z : Fin 4} {x : Int32} (hM : xs_MOK M) (hlk : xs_lk (xm_tb M) pc = some (.iload_n z, 1, lit, t)) (hv : xs_lv lv z = some (.int x)) (hk : xs_R G base d M (pc + 1, lv, .int x :: rest, st) Q) : xs_R G base d M (pc, lv, rest, st) Q := by
  intro p l e s m args below meth c H locs ls hF hK hS hP hl
  obtain ⟨hx, hb, hr, hml, hown, hts, hlocks⟩ := hF
  have hdg := (xs_dec hM hlk).1
  exact lv_iload_n hx hb hdg rfl (xs_lv_at hl hv) (hk p l e s m args below meth c H locs ls ⟨hx, hb, hr, hml, hown, hts, hlocks⟩ hK hS hP hl)
theorem xr_iload {z : Nat} {x : Int32} (hM : xs_MOK M) (hlk : xs_lk (xm_tb M) pc = some (.iload z, 2, lit, t)) (hv : xs_lv lv z = some (.int x)) (hk : xs_R G base d M (pc + 2, lv, .int x :: rest, st) Q) : xs_R G base d M (pc, lv, rest, st) Q := by
  intro p l e s m args below meth c H locs ls hF hK hS hP hl
  obtain ⟨hx, hb, hr, hml, hown, hts, hlocks⟩ := hF
  have hdg := (xs_dec hM hlk).1
  exact lv_iload hx hb hdg (xs_lv_at hl hv) (hk p l e s m args below meth c H locs ls ⟨hx, hb, hr, hml, hown, hts, hlocks⟩ hK hS hP hl)
theorem xr_lload_n {z : Fin 4} {x : Int64} (hM : xs_MOK M) (hlk : xs_lk (xm_tb M) pc = some (.lload_n z, 1, lit, t)) (hv : xs_lv lv z = some (.long x)) (hk : xs_R G base d M (pc + 1, lv, .long x :: rest, st) Q) : xs_R G base d M (pc, lv, rest, st) Q := by
  intro p l e s m args below meth c H locs ls hF hK hS hP hl
  obtain ⟨hx, hb, hr, hml, hown, hts, hlocks⟩ := hF
  have hdg := (xs_dec hM hlk).1
  exact lv_lload_n hx hb hdg rfl (xs_lv_at hl hv) (hk p l e s m args below meth c H locs ls ⟨hx, hb, hr, hml, hown, hts, hlocks⟩ hK hS hP hl)
theorem xr_lload {z : Nat} {x : Int64} (hM : xs_MOK M) (hlk : xs_lk (xm_tb M) pc = some (.lload z, 2, lit, t)) (hv : xs_lv lv z = some (.long x)) (hk : xs_R G base d M (pc + 2, lv, .long x :: rest, st) Q) : xs_R G base d M (pc, lv, rest, st) Q := by
  intro p l e s m args below meth c H locs ls hF hK hS hP hl
  obtain ⟨hx, hb, hr, hml, hown, hts, hlocks⟩ := hF
  have hdg := (xs_dec hM hlk).1
  exact lv_lload hx hb hdg (xs_lv_at hl hv) (hk p l e s m args below meth c H locs ls ⟨hx, hb, hr, hml, hown, hts, hlocks⟩ hK hS hP hl)
theorem xr_dload_n {z : Fin 4} {x : UInt64} (hM : xs_MOK M) (hlk : xs_lk (xm_tb M) pc = some (.dload_n z, 1, lit, t)) (hv : xs_lv lv z = some (.double x)) (hk : xs_R G base d M (pc + 1, lv, .double x :: rest, st) Q) : xs_R G base d M (pc, lv, rest, st) Q := by
  intro p l e s m args below meth c H locs ls hF hK hS hP hl
  obtain ⟨hx, hb, hr, hml, hown, hts, hlocks⟩ := hF
  have hdg := (xs_dec hM hlk).1
  exact lv_dload_n hx hb hdg rfl (xs_lv_at hl hv) (hk p l e s m args below meth c H locs ls ⟨hx, hb, hr, hml, hown, hts, hlocks⟩ hK hS hP hl)
theorem xr_dload {z : Nat} {x : UInt64} (hM : xs_MOK M) (hlk : xs_lk (xm_tb M) pc = some (.dload z, 2, lit, t)) (hv : xs_lv lv z = some (.double x)) (hk : xs_R G base d M (pc + 2, lv, .double x :: rest, st) Q) : xs_R G base d M (pc, lv, rest, st) Q := by
  intro p l e s m args below meth c H locs ls hF hK hS hP hl
  obtain ⟨hx, hb, hr, hml, hown, hts, hlocks⟩ := hF
  have hdg := (xs_dec hM hlk).1
  exact lv_dload hx hb hdg (xs_lv_at hl hv) (hk p l e s m args below meth c H locs ls ⟨hx, hb, hr, hml, hown, hts, hlocks⟩ hK hS hP hl)
theorem xr_fload_n {z : Fin 4} {x : UInt32} (hM : xs_MOK M) (hlk : xs_lk (xm_tb M) pc = some (.fload_n z, 1, lit, t)) (hv : xs_lv lv z = some (.float x)) (hk : xs_R G base d M (pc + 1, lv, .float x :: rest, st) Q) : xs_R G base d M (pc, lv, rest, st) Q := by
  intro p l e s m args below meth c H locs ls hF hK hS hP hl
  obtain ⟨hx, hb, hr, hml, hown, hts, hlocks⟩ := hF
  have hdg := (xs_dec hM hlk).1
  exact lv_fload_n hx hb hdg rfl (xs_lv_at hl hv) (hk p l e s m args below meth c H locs ls ⟨hx, hb, hr, hml, hown, hts, hlocks⟩ hK hS hP hl)
theorem xr_aload_n {z : Fin 4} {x : Nat} (hM : xs_MOK M) (hlk : xs_lk (xm_tb M) pc = some (.aload_n z, 1, lit, t)) (hv : xs_lv lv z = some (.ref x)) (hk : xs_R G base d M (pc + 1, lv, .ref x :: rest, st) Q) : xs_R G base d M (pc, lv, rest, st) Q := by
  intro p l e s m args below meth c H locs ls hF hK hS hP hl
  obtain ⟨hx, hb, hr, hml, hown, hts, hlocks⟩ := hF
  have hdg := (xs_dec hM hlk).1
  exact lv_aload_n hx hb hdg rfl (xs_lv_at hl hv) (hk p l e s m args below meth c H locs ls ⟨hx, hb, hr, hml, hown, hts, hlocks⟩ hK hS hP hl)
theorem xr_aload {z : Nat} {x : Nat} (hM : xs_MOK M) (hlk : xs_lk (xm_tb M) pc = some (.aload z, 2, lit, t)) (hv : xs_lv lv z = some (.ref x)) (hk : xs_R G base d M (pc + 2, lv, .ref x :: rest, st) Q) : xs_R G base d M (pc, lv, rest, st) Q := by
  intro p l e s m args below meth c H locs ls hF hK hS hP hl
  obtain ⟨hx, hb, hr, hml, hown, hts, hlocks⟩ := hF
  have hdg := (xs_dec hM hlk).1
  exact lv_aload hx hb hdg (xs_lv_at hl hv) (hk p l e s m args below meth c H locs ls ⟨hx, hb, hr, hml, hown, hts, hlocks⟩ hK hS hP hl)
theorem xr_astore_n {z : Fin 4} {x : Nat} (hM : xs_MOK M) (hlk : xs_lk (xm_tb M) pc = some (.astore_n z, 1, lit, t)) (hn : Nat.blt (z : Nat) (xm_nL M) = true) (hk : xs_R G base d M (pc + 1, xs_ins z (.ref x) (xs_del1 z lv), rest, st) Q) : xs_R G base d M (pc, lv, .ref x :: rest, st) Q := by
  intro p l e s m args below meth c H locs ls hF hK hS hP hl
  obtain ⟨hx, hb, hr, hml, hown, hts, hlocks⟩ := hF
  have hdg := (xs_dec hM hlk).1
  refine lv_astore_n hx hb hdg rfl hl (Nat.le_of_ble_eq_true hn) rfl (fun ls hl => ?_)
  exact hk p l e s m args below meth c H locs ls ⟨hx, hb, hr, hml, hown, hts, hlocks⟩ hK hS hP (xs_has1 (v := .ref x) hl)
theorem xr_astore {z : Nat} {x : Nat} (hM : xs_MOK M) (hlk : xs_lk (xm_tb M) pc = some (.astore z, 2, lit, t)) (hn : Nat.blt z (xm_nL M) = true) (hk : xs_R G base d M (pc + 2, xs_ins z (.ref x) (xs_del1 z lv), rest, st) Q) : xs_R G base d M (pc, lv, .ref x :: rest, st) Q := by
  intro p l e s m args below meth c H locs ls hF hK hS hP hl
  obtain ⟨hx, hb, hr, hml, hown, hts, hlocks⟩ := hF
  have hdg := (xs_dec hM hlk).1
  refine lv_astore hx hb hdg hl (Nat.le_of_ble_eq_true hn) rfl (fun ls hl => ?_)
  exact hk p l e s m args below meth c H locs ls ⟨hx, hb, hr, hml, hown, hts, hlocks⟩ hK hS hP (xs_has1 (v := .ref x) hl)
theorem xr_istore_n {z : Fin 4} {x : Int32} (hM : xs_MOK M) (hlk : xs_lk (xm_tb M) pc = some (.istore_n z, 1, lit, t)) (hn : Nat.blt ((z : Nat)) (xm_nL M) = true) (hk : xs_R G base d M (pc + 1, xs_ins z (.int x) (xs_del1 z lv), rest, st) Q) : xs_R G base d M (pc, lv, .int x :: rest, st) Q := by
  intro p l e s m args below meth c H locs ls hF hK hS hP hl
  obtain ⟨hx, hb, hr, hml, hown, hts, hlocks⟩ := hF
  have hdg := (xs_dec hM hlk).1
  refine lv_istore_n hx hb hdg rfl hl (Nat.le_of_ble_eq_true hn) rfl (fun ls hl => ?_)
  exact hk p l e s m args below meth c H locs ls ⟨hx, hb, hr, hml, hown, hts, hlocks⟩ hK hS hP (xs_has1 (v := .int x) hl)
theorem xr_istore {z : Nat} {x : Int32} (hM : xs_MOK M) (hlk : xs_lk (xm_tb M) pc = some (.istore z, 2, lit, t)) (hn : Nat.blt (z) (xm_nL M) = true) (hk : xs_R G base d M (pc + 2, xs_ins z (.int x) (xs_del1 z lv), rest, st) Q) : xs_R G base d M (pc, lv, .int x :: rest, st) Q := by
  intro p l e s m args below meth c H locs ls hF hK hS hP hl
  obtain ⟨hx, hb, hr, hml, hown, hts, hlocks⟩ := hF
  have hdg := (xs_dec hM hlk).1
  refine lv_istore hx hb hdg hl (Nat.le_of_ble_eq_true hn) rfl (fun ls hl => ?_)
  exact hk p l e s m args below meth c H locs ls ⟨hx, hb, hr, hml, hown, hts, hlocks⟩ hK hS hP (xs_has1 (v := .int x) hl)
theorem xr_lstore_n {z : Fin 4} {x : Int64} (hM : xs_MOK M) (hlk : xs_lk (xm_tb M) pc = some (.lstore_n z, 1, lit, t)) (hn : Nat.blt ((z : Nat) + 1) (xm_nL M) = true) (hk : xs_R G base d M (pc + 1, xs_ins z (.long x) (xs_del2 z lv), rest, st) Q) : xs_R G base d M (pc, lv, .long x :: rest, st) Q := by
  intro p l e s m args below meth c H locs ls hF hK hS hP hl
  obtain ⟨hx, hb, hr, hml, hown, hts, hlocks⟩ := hF
  have hdg := (xs_dec hM hlk).1
  refine lv_lstore_n hx hb hdg rfl hl (Nat.le_of_ble_eq_true hn) rfl (fun ls hl => ?_)
  exact hk p l e s m args below meth c H locs ls ⟨hx, hb, hr, hml, hown, hts, hlocks⟩ hK hS hP (xs_has2 (v := .long x) hl)
theorem xr_lstore {z : Nat} {x : Int64} (hM : xs_MOK M) (hlk : xs_lk (xm_tb M) pc = some (.lstore z, 2, lit, t)) (hn : Nat.blt (z + 1) (xm_nL M) = true) (hk : xs_R G base d M (pc + 2, xs_ins z (.long x) (xs_del2 z lv), rest, st) Q) : xs_R G base d M (pc, lv, .long x :: rest, st) Q := by
  intro p l e s m args below meth c H locs ls hF hK hS hP hl
  obtain ⟨hx, hb, hr, hml, hown, hts, hlocks⟩ := hF
  have hdg := (xs_dec hM hlk).1
  refine lv_lstore hx hb hdg hl (Nat.le_of_ble_eq_true hn) rfl (fun ls hl => ?_)
  exact hk p l e s m args below meth c H locs ls ⟨hx, hb, hr, hml, hown, hts, hlocks⟩ hK hS hP (xs_has2 (v := .long x) hl)
theorem xr_dstore_n {z : Fin 4} {x : UInt64} (hM : xs_MOK M) (hlk : xs_lk (xm_tb M) pc = some (.dstore_n z, 1, lit, t)) (hn : Nat.blt ((z : Nat) + 1) (xm_nL M) = true) (hk : xs_R G base d M (pc + 1, xs_ins z (.double x) (xs_del2 z lv), rest, st) Q) : xs_R G base d M (pc, lv, .double x :: rest, st) Q := by
  intro p l e s m args below meth c H locs ls hF hK hS hP hl
  obtain ⟨hx, hb, hr, hml, hown, hts, hlocks⟩ := hF
  have hdg := (xs_dec hM hlk).1
  refine lv_dstore_n hx hb hdg rfl hl (Nat.le_of_ble_eq_true hn) rfl (fun ls hl => ?_)
  exact hk p l e s m args below meth c H locs ls ⟨hx, hb, hr, hml, hown, hts, hlocks⟩ hK hS hP (xs_has2 (v := .double x) hl)
theorem xr_dstore {z : Nat} {x : UInt64} (hM : xs_MOK M) (hlk : xs_lk (xm_tb M) pc = some (.dstore z, 2, lit, t)) (hn : Nat.blt (z + 1) (xm_nL M) = true) (hk : xs_R G base d M (pc + 2, xs_ins z (.double x) (xs_del2 z lv), rest, st) Q) : xs_R G base d M (pc, lv, .double x :: rest, st) Q := by
  intro p l e s m args below meth c H locs ls hF hK hS hP hl
  obtain ⟨hx, hb, hr, hml, hown, hts, hlocks⟩ := hF
  have hdg := (xs_dec hM hlk).1
  refine lv_dstore hx hb hdg hl (Nat.le_of_ble_eq_true hn) rfl (fun ls hl => ?_)
  exact hk p l e s m args below meth c H locs ls ⟨hx, hb, hr, hml, hown, hts, hlocks⟩ hK hS hP (xs_has2 (v := .double x) hl)
theorem xs_lv_mem {i : Nat} {v : Value} : ∀ {lv : List (Nat × Value)}, xs_lv lv i = some v → (i, v) ∈ lv := by
  intro lv h
  induction lv with
  | nil => cases h
  | cons q t ih =>
    unfold xs_lv at h
    cases hb : Nat.beq q.1 i with
    | false => rw [hb] at h; exact List.mem_cons_of_mem _ (ih h)
    | true =>
      rw [hb] at h
      have h1 : some q.2 = some v := h
      cases h1
      have h2 := Nat.eq_of_beq_eq_true hb
      subst h2
      exact List.mem_cons_self
theorem xr_iinc {z : Nat} {w : Int} {x : Int32} (hM : xs_MOK M) (hlk : xs_lk (xm_tb M) pc = some (.iinc z w, 3, lit, t)) (hv : xs_lv lv z = some (.int x)) (hn : Nat.blt z (xm_nL M) = true) (hk : xs_R G base d M (pc + 3, xs_ins z (.int (x + lit)) (xs_del1 z lv), rest, st) Q) : xs_R G base d M (pc, lv, rest, st) Q := by
  intro p l e s m args below meth c H locs ls hF hK hS hP hl
  obtain ⟨hx, hb, hr, hml, hown, hts, hlocks⟩ := hF
  obtain ⟨hdg, hli⟩ := xs_dec hM hlk
  have hli : Int32.ofInt w = lit := of_decide_eq_true hli
  obtain ⟨k, hk2⟩ := List.getElem?_of_mem (List.mem_map.mpr ⟨(z, .int x), xs_lv_mem hv, rfl⟩ : (z, xs_v G (.int x)) ∈ lv.map (fun q => (q.1, xs_v G q.2)))
  refine lv_iinc (k := k) hx hb hdg hl hk2 (by rw [hli]) (Nat.le_of_ble_eq_true hn) rfl (fun ls hl => ?_)
  exact hk p l e s m args below meth c H locs ls ⟨hx, hb, hr, hml, hown, hts, hlocks⟩ hK hS hP (xs_has1 (v := .int (x + lit)) hl)
theorem xr_dup {v : Value} (hM : xs_MOK M) (hlk : xs_lk (xm_tb M) pc = some (.dup, 1, lit, t)) (hc : xs_two v = false) (hk : xs_R G base d M (pc + 1, lv, v :: v :: rest, st) Q) : xs_R G base d M (pc, lv, v :: rest, st) Q := by
  intro p l e s m args below meth c H locs ls hF hK hS hP hl
  obtain ⟨hx, hb, hr, hml, hown, hts, hlocks⟩ := hF
  have hdg := (xs_dec hM hlk).1
  exact lv_dup hx hb hdg (by rw [xs_v_cat]; cases v <;> first | rfl | cases hc) (hk p l e s m args below meth c H locs ls ⟨hx, hb, hr, hml, hown, hts, hlocks⟩ hK hS hP hl)
theorem xr_dup2 {v w : Value} (hM : xs_MOK M) (hlk : xs_lk (xm_tb M) pc = some (.dup2, 1, lit, t)) (hc : xs_two v = false) (hc2 : xs_two w = false) (hk : xs_R G base d M (pc + 1, lv, v :: w :: v :: w :: rest, st) Q) : xs_R G base d M (pc, lv, v :: w :: rest, st) Q := by
  intro p l e s m args below meth c H locs ls hF hK hS hP hl
  obtain ⟨hx, hb, hr, hml, hown, hts, hlocks⟩ := hF
  have hdg := (xs_dec hM hlk).1
  exact lv_dup2_11 hx hb hdg (by rw [xs_v_cat]; cases v <;> first | rfl | cases hc) (by rw [xs_v_cat]; cases w <;> first | rfl | cases hc2) (hk p l e s m args below meth c H locs ls ⟨hx, hb, hr, hml, hown, hts, hlocks⟩ hK hS hP hl)
theorem xr_goto {o : Int} (hM : xs_MOK M) (hlk : xs_lk (xm_tb M) pc = some (.goto o, 3, lit, t)) (hk : xs_R G base d M (t, lv, rest, st) Q) : xs_R G base d M (pc, lv, rest, st) Q := by
  intro p l e s m args below meth c H locs ls hF hK hS hP hl
  obtain ⟨hx, hb, hr, hml, hown, hts, hlocks⟩ := hF
  obtain ⟨hdg, hli⟩ := xs_dec hM hlk
  exact lv_goto hx hb hdg (of_decide_eq_true hli) (hk p l e s m args below meth c H locs ls ⟨hx, hb, hr, hml, hown, hts, hlocks⟩ hK hS hP hl)
end XS
/-- one instruction that neither branches, calls, nor touches the memory -/
def xs_step (nL : Nat) (pc : Nat) (r : Instr × Nat × Int32 × Nat) (lv : List (Nat × Value)) (stk : List Value) (st : xs_S) : Option xs_C := match r with
  | (.iadd, 1, _, _) => match stk with
    | .int y :: .int x :: rest => some (pc + 1, lv, .int (x + y) :: rest, st)
    | _ => none
  | (.isub, 1, _, _) => match stk with
    | .int y :: .int x :: rest => some (pc + 1, lv, .int (x - y) :: rest, st)
    | _ => none
  | (.imul, 1, _, _) => match stk with
    | .int y :: .int x :: rest => some (pc + 1, lv, .int (x * y) :: rest, st)
    | _ => none
  | (.iand, 1, _, _) => match stk with
    | .int y :: .int x :: rest => some (pc + 1, lv, .int (x &&& y) :: rest, st)
    | _ => none
  | (.ior, 1, _, _) => match stk with
    | .int y :: .int x :: rest => some (pc + 1, lv, .int (x ||| y) :: rest, st)
    | _ => none
  | (.ixor, 1, _, _) => match stk with
    | .int y :: .int x :: rest => some (pc + 1, lv, .int (x ^^^ y) :: rest, st)
    | _ => none
  | (.ishl, 1, _, _) => match stk with
    | .int y :: .int x :: rest => some (pc + 1, lv, .int (x <<< (y &&& 31)) :: rest, st)
    | _ => none
  | (.ishr, 1, _, _) => match stk with
    | .int y :: .int x :: rest => some (pc + 1, lv, .int (x >>> (y &&& 31)) :: rest, st)
    | _ => none
  | (.ladd, 1, _, _) => match stk with
    | .long y :: .long x :: rest => some (pc + 1, lv, .long (x + y) :: rest, st)
    | _ => none
  | (.lsub, 1, _, _) => match stk with
    | .long y :: .long x :: rest => some (pc + 1, lv, .long (x - y) :: rest, st)
    | _ => none
  | (.land, 1, _, _) => match stk with
    | .long y :: .long x :: rest => some (pc + 1, lv, .long (x &&& y) :: rest, st)
    | _ => none
  | (.lor, 1, _, _) => match stk with
    | .long y :: .long x :: rest => some (pc + 1, lv, .long (x ||| y) :: rest, st)
    | _ => none
  | (.lcmp, 1, _, _) => match stk with
    | .long y :: .long x :: rest => some (pc + 1, lv, .int (lg_cmp x y) :: rest, st)
    | _ => none
  | (.i2l, 1, _, _) => match stk with
    | .int x :: rest => some (pc + 1, lv, .long x.toInt64 :: rest, st)
    | _ => none
  | (.l2i, 1, _, _) => match stk with
    | .long x :: rest => some (pc + 1, lv, .int x.toInt32 :: rest, st)
    | _ => none
  | (.i2c, 1, _, _) => match stk with
    | .int x :: rest => some (pc + 1, lv, .int (x.toUInt32 % 65536).toInt32 :: rest, st)
    | _ => none
  | (.i2d, 1, _, _) => match stk with
    | .int x :: rest => some (pc + 1, lv, .double (FP.i2d x) :: rest, st)
    | _ => none
  | (.i2f, 1, _, _) => match stk with
    | .int x :: rest => some (pc + 1, lv, .float (FP.i2f x) :: rest, st)
    | _ => none
  | (.d2l, 1, _, _) => match stk with
    | .double x :: rest => some (pc + 1, lv, .long (FP.d2l x) :: rest, st)
    | _ => none
  | (.lushr, 1, _, _) => match stk with
    | .int y :: .long x :: rest => some (pc + 1, lv, .long (x.toUInt64 >>> (y.toInt64.toUInt64 &&& Int64.toUInt64 63)).toInt64 :: rest, st)
    | _ => none
  | (.lshl, 1, _, _) => match stk with
    | .int y :: .long x :: rest => some (pc + 1, lv, .long (x <<< (y.toInt64 &&& 63)) :: rest, st)
    | _ => none
  | (.dcmp op, 1, _, _) => match stk with
    | .double y :: .double x :: rest => some (pc + 1, lv, .int (Op.cmpValue (FP.dcmp x y) op) :: rest, st)
    | _ => none
  | (.fcmp op, 1, _, _) => match stk with
    | .float y :: .float x :: rest => some (pc + 1, lv, .int (Op.cmpValue (FP.fcmp x y) op) :: rest, st)
    | _ => none
  | (.iconst z, 1, lit, _) => some (pc + 1, lv, .int lit :: stk, st)
  | (.bipush z, 2, lit, _) => some (pc + 2, lv, .int lit :: stk, st)
  | (.sipush z, 3, lit, _) => some (pc + 3, lv, .int lit :: stk, st)
  | (.ldc z, 2, lit, _) => some (pc + 2, lv, .int lit :: stk, st)
  | (.lconst z, 1, lit, _) => some (pc + 1, lv, .long (Int64.ofNat (z : Nat)) :: stk, st)
  | (.dconst 0, 1, lit, _) => some (pc + 1, lv, .double FP.dconst0 :: stk, st)
  | (.dconst 1, 1, lit, _) => some (pc + 1, lv, .double FP.dconst1 :: stk, st)
  | (.fconst 0, 1, lit, _) => some (pc + 1, lv, .float FP.fconst0 :: stk, st)
  | (.iload_n z, 1, _, _) => match xs_lv lv z with
    | some (.int x) => some (pc + 1, lv, .int x :: stk, st)
    | _ => none
  | (.iload z, 2, _, _) => match xs_lv lv z with
    | some (.int x) => some (pc + 2, lv, .int x :: stk, st)
    | _ => none
  | (.lload_n z, 1, _, _) => match xs_lv lv z with
    | some (.long x) => some (pc + 1, lv, .long x :: stk, st)
    | _ => none
  | (.lload z, 2, _, _) => match xs_lv lv z with
    | some (.long x) => some (pc + 2, lv, .long x :: stk, st)
    | _ => none
  | (.dload_n z, 1, _, _) => match xs_lv lv z with
    | some (.double x) => some (pc + 1, lv, .double x :: stk, st)
    | _ => none
  | (.dload z, 2, _, _) => match xs_lv lv z with
    | some (.double x) => some (pc + 2, lv, .double x :: stk, st)
    | _ => none
  | (.fload_n z, 1, _, _) => match xs_lv lv z with
    | some (.float x) => some (pc + 1, lv, .float x :: stk, st)
    | _ => none
  | (.aload_n z, 1, _, _) => match xs_lv lv z with
    | some (.ref x) => some (pc + 1, lv, .ref x :: stk, st)
    | _ => none
  | (.aload z, 2, _, _) => match xs_lv lv z with
    | some (.ref x) => some (pc + 2, lv, .ref x :: stk, st)
    | _ => none
  | (.astore_n z, 1, _, _) => match stk, Nat.blt (z : Nat) nL with
    | .ref x :: rest, true => some (pc + 1, xs_ins z (.ref x) (xs_del1 z lv), rest, st)
    | _, _ => none
  | (.astore z, 2, _, _) => match stk, Nat.blt z nL with
    | .ref x :: rest, true => some (pc + 2, xs_ins z (.ref x) (xs_del1 z lv), rest, st)
    | _, _ => none
  | (.istore_n z, 1, _, _) => match stk, Nat.blt ((z : Nat)) nL with
    | .int x :: rest, true => some (pc + 1, xs_ins z (.int x) (xs_del1 z lv), rest, st)
    | _, _ => none
  | (.istore z, 2, _, _) => match stk, Nat.blt (z) nL with
    | .int x :: rest, true => some (pc + 2, xs_ins z (.int x) (xs_del1 z lv), rest, st)
    | _, _ => none
  | (.lstore_n z, 1, _, _) => match stk, Nat.blt ((z : Nat) + 1) nL with
    | .long x :: rest, true => some (pc + 1, xs_ins z (.long x) (xs_del2 z lv), rest, st)
    | _, _ => none
  | (.lstore z, 2, _, _) => match stk, Nat.blt (z + 1) nL with
    | .long x :: rest, true => some (pc + 2, xs_ins z (.long x) (xs_del2 z lv), rest, st)
    | _, _ => none
  | (.dstore_n z, 1, _, _) => match stk, Nat.blt ((z : Nat) + 1) nL with
    | .double x :: rest, true => some (pc + 1, xs_ins z (.double x) (xs_del2 z lv), rest, st)
    | _, _ => none
  | (.dstore z, 2, _, _) => match stk, Nat.blt (z + 1) nL with
    | .double x :: rest, true => some (pc + 2, xs_ins z (.double x) (xs_del2 z lv), rest, st)
    | _, _ => none
  | (.iinc z _, 3, lit, _) => match xs_lv lv z, Nat.blt z nL with
    | some (.int x), true => some (pc + 3, xs_ins z (.int (x + lit)) (xs_del1 z lv), stk, st)
    | _, _ => none
  | (.dup, 1, _, _) => match stk with
    | v :: rest => bif xs_two v then none else some (pc + 1, lv, v :: v :: rest, st)
    | _ => none
  | (.dup2, 1, _, _) => match stk with
    | v :: w :: rest => bif xs_two v || xs_two w then none else some (pc + 1, lv, v :: w :: v :: w :: rest, st)
    | _ => none
  | (.goto _, 3, _, t) => some (t, lv, stk, st)
  | _ => none
set_option maxHeartbeats 4000000 in
theorem xs_step_ok {G : xs_G} {base d : Nat} {M : xs_M} {pc : Nat} {r : Instr × Nat × Int32 × Nat} {lv : List (Nat × Value)} {stk : List Value} {st : xs_S} {c' : xs_C} {Q : xs_Z} (hM : xs_MOK M) (hlk : xs_lk (xm_tb M) pc = some r) (h : xs_step (xm_nL M) pc r lv stk st = some c') (hk : xs_R G base d M c' Q) : xs_R G base d M (pc, lv, stk, st) Q := by
  unfold xs_step at h
  split at h
  · split at h
    · cases h; exact xr_iadd hM hlk hk
    · cases h
  · split at h
    · cases h; exact xr_isub hM hlk hk
    · cases h
  · split at h
    · cases h; exact xr_imul hM hlk hk
    · cases h
  · split at h
    · cases h; exact xr_iand hM hlk hk
    · cases h
  · split at h
    · cases h; exact xr_ior hM hlk hk
    · cases h
  · split at h
    · cases h; exact xr_ixor hM hlk hk
    · cases h
  · split at h
    · cases h; exact xr_ishl hM hlk hk
    · cases h
  · split at h
    · cases h; exact xr_ishr hM hlk hk
    · cases h
  · split at h
    · cases h; exact xr_ladd hM hlk hk
    · cases h
  · split at h
    · cases h; exact xr_lsub hM hlk hk
    · cases h
  · split at h
    · cases h; exact xr_land hM hlk hk
    · cases h
  · split at h
    · cases h; exact xr_lor hM hlk hk
    · cases h
  · split at h
    · cases h; exact xr_lcmp hM hlk hk
    · cases h
  · split at h
    · cases h; exact xr_i2l hM hlk hk
    · cases h
  · split at h
    · cases h; exact xr_l2i hM hlk hk
    · cases h
  · split at h
    · cases h; exact xr_i2c hM hlk hk
    · cases h
  · split at h
    · cases h; exact xr_i2d hM hlk hk
    · cases h
  · split at h
    · cases h; exact xr_i2f hM hlk hk
    · cases h
  · split at h
    · cases h; exact xr_d2l hM hlk hk
    · cases h
  · split at h
    · cases h; exact xr_lushr hM hlk hk
    · cases h
  · split at h
    · cases h; exact xr_lshl hM hlk hk
    · cases h
  · split at h
    · cases h; exact xr_dcmp hM hlk hk
    · cases h
  · split at h
    · cases h; exact xr_fcmp hM hlk hk
    · cases h
  · cases h; exact xr_iconst hM hlk hk
  · cases h; exact xr_bipush hM hlk hk
  · cases h; exact xr_sipush hM hlk hk
  · cases h; exact xr_ldc hM hlk hk
  · cases h; exact xr_lconst hM hlk hk
  · cases h; exact xr_dconst0 hM hlk hk
  · cases h; exact xr_dconst1 hM hlk hk
  · cases h; exact xr_fconst0 hM hlk hk
  · split at h
    · rename_i hv; cases h; exact xr_iload_n hM hlk hv hk
    · cases h
  · split at h
    · rename_i hv; cases h; exact xr_iload hM hlk hv hk
    · cases h
  · split at h
    · rename_i hv; cases h; exact xr_lload_n hM hlk hv hk
    · cases h
  · split at h
    · rename_i hv; cases h; exact xr_lload hM hlk hv hk
    · cases h
  · split at h
    · rename_i hv; cases h; exact xr_dload_n hM hlk hv hk
    · cases h
  · split at h
    · rename_i hv; cases h; exact xr_dload hM hlk hv hk
    · cases h
  · split at h
    · rename_i hv; cases h; exact xr_fload_n hM hlk hv hk
    · cases h
  · split at h
    · rename_i hv; cases h; exact xr_aload_n hM hlk hv hk
    · cases h
  · split at h
    · rename_i hv; cases h; exact xr_aload hM hlk hv hk
    · cases h
  · split at h
    · rename_i hn; cases h; exact xr_astore_n hM hlk hn hk
    · cases h
  · split at h
    · rename_i hn; cases h; exact xr_astore hM hlk hn hk
    · cases h
  · split at h
    · rename_i hv; cases h; exact xr_istore_n hM hlk hv hk
    · cases h
  · split at h
    · rename_i hv; cases h; exact xr_istore hM hlk hv hk
    · cases h
  · split at h
    · rename_i hv; cases h; exact xr_lstore_n hM hlk hv hk
    · cases h
  · split at h
    · rename_i hv; cases h; exact xr_lstore hM hlk hv hk
    · cases h
  · split at h
    · rename_i hv; cases h; exact xr_dstore_n hM hlk hv hk
    · cases h
  · split at h
    · rename_i hv; cases h; exact xr_dstore hM hlk hv hk
    · cases h
  · split at h
    · rename_i hv hn; cases h; exact xr_iinc hM hlk hv hn hk
    · cases h
  · split at h
    · rename_i v rest
      cases hc : xs_two v with
      | true => rw [hc] at h; cases h
      | false => rw [hc] at h; cases h; exact xr_dup hM hlk hc hk
    · cases h
  · split at h
    · rename_i v w rest
      cases hc : xs_two v with
      | true => rw [hc] at h; cases h
      | false =>
        cases hc2 : xs_two w with
        | true => rw [hc, hc2] at h; cases h
        | false => rw [hc, hc2] at h; cases h; exact xr_dup2 hM hlk hc hc2 hk
    · cases h
  · cases h; exact xr_goto hM hlk hk
  · cases h
def xs_run (M : xs_M) : Nat → xs_C → Option xs_C
  | 0, c => some c
  | n + 1, (pc, lv, stk, st) => match xs_lk (xm_tb M) pc with
    | none => none
    | some r => match xs_step (xm_nL M) pc r lv stk st with
      | none => none
      | some c => xs_run M n c
theorem xs_blk {G : xs_G} {base d : Nat} {M : xs_M} (hM : xs_MOK M) {Q : xs_Z} {c' : xs_C} (n : Nat) : ∀ {cf : xs_C}, xs_run M n cf = some c' → xs_R G base d M c' Q → xs_R G base d M cf Q := by
  induction n with
  | zero => intro cf h hk; cases h; exact hk
  | succ n ih =>
    intro cf h hk
    obtain ⟨pc, lv, stk, st⟩ := cf
    unfold xs_run at h
    split at h
    · cases h
    · rename_i r hr
      split at h
      · cases h
      · rename_i c2 h2
        exact xs_step_ok hM hr h2 (ih h hk)
