/-! THE CLAIM OUT OF ONE WALK OF THE LAW'S BODY. Your part is whole_start (and what it stands on); all else here is the same for every law, but numbers. -/
def R_law : String := "SundialSpansLaw"
def lw_P (b : Addr) (xs : List Int32) (args : Array Value) (s : State) : Prop := args = #[.ref b] ∧ s.IntsAt b xs ∧ xs.length ≤ 260 ∧ (Jvm.Cond.and given_1 narrow_1).before args s = true
/-- what a walk over the start with the record d0 says of its end, said of the start itself -/
theorem lw_closed {s t : State} {o : Outcome} {d0 : Drawn} {L : List Loc} {k n : Nat} (hd0 : s.drawn.sameBut d0 lw_cs) (hv : ∃ v, o = .returned v) (hW : (s.setDrawn d0).WarmedH t.vm) (hs : (s.setDrawn d0).sameButNew ({ t with vm := s.vm } : State) L k n) : State.butDraws s t lw_cs (fun t1 => Framed s o t1 L k n) := by
  have h2 : t.drawn = d0 := congrArg State.drawn hs.1
  refine ⟨⟨hv, hW, State.sameButNew.setDrawn hs s.drawn⟩, ?_, by decide⟩
  rw [h2]
  exact hd0
def lw_Q (_ : Array Value) (s : State) (o : Outcome) (t : State) : Prop := o = .returned (some (.int 1)) ∧ State.butDraws s t lw_cs (fun t1 => Framed s o t1 [] 600000 7302250)
def lw_Z (below : List Frame) (a : Array Value) (s : State) : State → Prop := fun t => ∃ o, t.status = .running ∧ Ended t below o ∧ lw_Q a s o t
/-- the law's own end, with 1 on the stack, nothing written that was there before, its room as the claim has it; d0: the record of draws at this point (at the entry s.drawn: begin with 'refine W.base ?_' and 'have hd0 := Drawn.sameBut.refl s.drawn lw_cs') -/
theorem lw_ret {p : Program} {l : Launch} {e : Env} {s : State} {m : MethodId} {below : List Frame} {meth : Method} {c : Code} {b : Nat} {d0 : Drawn} (hd0 : s.drawn.sameBut d0 lw_cs) (hx : p.tables.exec = Jvm.exec) (hb : c.code = code) (hr : meth.sig.returnType = ret) (hlocks : meth.locks = false) {pc : Nat} {H : Heap} {ls : Array Slot} (hdg : decode code pc = .ok (.ireturn, 1)) : W p l e room_1 (s.setDrawn d0) m #[Value.ref b] below meth c H [] 600000 7302250 (lw_Z below #[Value.ref b] s) (F0 m pc ls [.int 1]) := by
  intro T hT X
  obtain ⟨fs, hret, hrun, hended, hW, hframe⟩ := X.leave (v := some (.int 1)) (hlocks := hlocks) (fun h => by rw [hr] at h; cases h)
  have hmeth' : T.vm.method? m = some meth := X.method'
  refine ⟨T.setFrames fs, ?_, .returned (some (.int 1)), hrun, hended, rfl, lw_closed hd0 ⟨_, rfl⟩ hW hframe⟩
  jvm_step X.here [X.here.top, hx, hb, hdg, hmeth', hr, ret, narrow_b1]
  (try refine ⟨rfl, ?_⟩); (try refine ⟨rfl, ?_⟩)
  first | (intro acts; rw [hret _ acts rfl rfl rfl]) | rw [hret _ _ rfl rfl rfl]
  exact Steps.refl _
/-- what holds at the law's entry: the machine, the code, the tables' words (any of lw_tbl by 'hts w (by decide +kernel)'), the script of L ints xs at the cell b, what the Statement gives of the start (any of its parts by flat_of_before) -/
def lw_At (p : Program) (s : State) (m : MethodId) (meth : Method) (c : Code) (b L : Nat) (xs : Nat → Int32) : Prop :=
  p.tables.exec = Jvm.exec ∧ c.code = code ∧ meth.sig.returnType = ret ∧ c.maxLocals = 4 ∧ s.vm.findClass R_law = some m.cls ∧ (∀ w ∈ lw_tbl, w.before #[Value.ref b] s = true) ∧ va_X b L xs s s.heap ∧ b < s.heap.size ∧ meth.locks = false ∧ (Jvm.Cond.and given_1 narrow_1).before #[Value.ref b] s = true
/-! the law's judgement: the script at b, the class's object and the row d in the locals, the world as the memory says; made so far: cc cells of ss slots -/
def lR (p : Program) (l : Launch) (e : Env) (s : State) (m : MethodId) (below : List Frame) (meth : Method) (c : Code) (b : Nat) (G : xs_G) (cc ss : Nat) (pc : Nat) (i : Int32) (stk : List Value) (st : xs_S) : Prop :=
  ∀ (H : Heap) (locs : List Loc) (ls : Array Slot), va_S (fun q => s.heap.size ≤ q) s.heap H locs → va_P G.2.1 vwCl (xs_ws (xg G 0 0) st) H → lv_has ls 4 [(0, .ref b), (1, .ref (G.1 0)), (2, .ref (G.1 72)), (3, .int i)] →
    W p l e room_1 s m #[Value.ref b] below meth c H locs cc ss (lw_Z below #[Value.ref b] s) (F0 m pc ls stk)
def lC (p : Program) (s : State) (m : MethodId) (meth : Method) (c : Code) (b L : Nat) (xs : Nat → Int32) (G : xs_G) : Prop := lw_At p s m meth c b L xs ∧ xs_Kn (xg G 0 0) s.heap.size s
section LR
variable {p : Program} {l : Launch} {e : Env} {s : State} {m : MethodId} {below : List Frame} {meth : Method} {c : Code} {b L : Nat} {xs : Nat → Int32} {G : xs_G} {cc ss pc : Nat} {i : Int32} {stk : List Value} {st : xs_S}
theorem l_al0 (C : lC p s m meth c b L xs G) (hd : decode code pc = .ok (.aload_n 0, 1)) (k : lR p l e s m below meth c b G cc ss (pc + 1) i (.ref b :: stk) st) : lR p l e s m below meth c b G cc ss pc i (stk) st := by
  intro H locs ls hS hP hl
  exact lv_aload_n C.1.1 C.1.2.1 hd rfl (lv_at hl 0 rfl) (k H locs ls hS hP hl)
theorem l_al1 (C : lC p s m meth c b L xs G) (hd : decode code pc = .ok (.aload_n 1, 1)) (k : lR p l e s m below meth c b G cc ss (pc + 1) i (.ref (G.1 0) :: stk) st) : lR p l e s m below meth c b G cc ss pc i (stk) st := by
  intro H locs ls hS hP hl
  exact lv_aload_n C.1.1 C.1.2.1 hd rfl (lv_at hl 1 rfl) (k H locs ls hS hP hl)
theorem l_al2 (C : lC p s m meth c b L xs G) (hd : decode code pc = .ok (.aload_n 2, 1)) (k : lR p l e s m below meth c b G cc ss (pc + 1) i (.ref (G.1 72) :: stk) st) : lR p l e s m below meth c b G cc ss pc i (stk) st := by
  intro H locs ls hS hP hl
  exact lv_aload_n C.1.1 C.1.2.1 hd rfl (lv_at hl 2 rfl) (k H locs ls hS hP hl)
theorem l_il (C : lC p s m meth c b L xs G) (hd : decode code pc = .ok (.iload_n 3, 1)) (k : lR p l e s m below meth c b G cc ss (pc + 1) i (.int i :: stk) st) : lR p l e s m below meth c b G cc ss pc i (stk) st := by
  intro H locs ls hS hP hl
  exact lv_iload_n C.1.1 C.1.2.1 hd rfl (lv_at hl 3 rfl) (k H locs ls hS hP hl)
theorem l_ic {n : Int} {v : Int32} (C : lC p s m meth c b L xs G) (hd : decode code pc = .ok (.iconst n, 1)) (hv : Int32.ofInt n = v) (k : lR p l e s m below meth c b G cc ss (pc + 1) i (.int v :: stk) st) : lR p l e s m below meth c b G cc ss pc i (stk) st := by
  intro H locs ls hS hP hl
  exact lv_iconst C.1.1 C.1.2.1 hd hv (k H locs ls hS hP hl)
theorem l_bi {n : Int} {v : Int32} (C : lC p s m meth c b L xs G) (hd : decode code pc = .ok (.bipush n, 2)) (hv : (Int8.ofInt n).toInt32 = v) (k : lR p l e s m below meth c b G cc ss (pc + 2) i (.int v :: stk) st) : lR p l e s m below meth c b G cc ss pc i (stk) st := by
  intro H locs ls hS hP hl
  exact lv_bipush C.1.1 C.1.2.1 hd hv (k H locs ls hS hP hl)
theorem l_si {n : Int} {v : Int32} (C : lC p s m meth c b L xs G) (hd : decode code pc = .ok (.sipush n, 3)) (hv : (Int16.ofInt n).toInt32 = v) (k : lR p l e s m below meth c b G cc ss (pc + 3) i (.int v :: stk) st) : lR p l e s m below meth c b G cc ss pc i (stk) st := by
  intro H locs ls hS hP hl
  exact lv_sipush C.1.1 C.1.2.1 hd hv (k H locs ls hS hP hl)
theorem l_imul {x y : Int32} (C : lC p s m meth c b L xs G) (hd : decode code pc = .ok (.imul, 1)) (k : lR p l e s m below meth c b G cc ss (pc + 1) i (.int (x * y) :: stk) st) : lR p l e s m below meth c b G cc ss pc i (.int y :: .int x :: stk) st := by
  intro H locs ls hS hP hl
  exact lv_imul C.1.1 C.1.2.1 hd (k H locs ls hS hP hl)
theorem l_iadd {x y : Int32} (C : lC p s m meth c b L xs G) (hd : decode code pc = .ok (.iadd, 1)) (k : lR p l e s m below meth c b G cc ss (pc + 1) i (.int (x + y) :: stk) st) : lR p l e s m below meth c b G cc ss pc i (.int y :: .int x :: stk) st := by
  intro H locs ls hS hP hl
  exact lv_iadd C.1.1 C.1.2.1 hd (k H locs ls hS hP hl)
theorem l_irem {x y : Int32} (C : lC p s m meth c b L xs G) (hd : decode code pc = .ok (.irem, 1)) (hne : ¬ y = 0) (k : lR p l e s m below meth c b G cc ss (pc + 1) i (.int (x - x / y * y) :: stk) st) : lR p l e s m below meth c b G cc ss pc i (.int y :: .int x :: stk) st := by
  intro H locs ls hS hP hl
  exact lv_irem C.1.1 C.1.2.1 hd hne (k H locs ls hS hP hl)
theorem l_own (C : lC p s m meth c b L xs G) : s.vm.findClass RL = some m.cls := C.1.2.2.2.2.1
theorem l_hts (C : lC p s m meth c b L xs G) : ∀ w ∈ xw, w.before #[Value.ref b] s = true := fun w hw => C.1.2.2.2.2.2.1 w (xw_in hw)
theorem l_ldc {z : Nat} {v : Int32} (C : lC p s m meth c b L xs G) (hd : decode code pc = .ok (.ldc z, 2)) (hw : (RL, z, v) ∈ xs_consts) (k : lR p l e s m below meth c b G cc ss (pc + 2) i (.int v :: stk) st) : lR p l e s m below meth c b G cc ss pc i stk st := by
  intro H locs ls hS hP hl
  exact lv_ldc C.1.1 C.1.2.1 (l_own C) (l_hts C _ (xs_consts_ok _ hw)) hd (k H locs ls hS hP hl)
theorem l_goto {off : Int} {tgt : Nat} (C : lC p s m meth c b L xs G) (hd : decode code pc = .ok (.goto off, 3)) (ht : (pc : Int) + off = (tgt : Int)) (k : lR p l e s m below meth c b G cc ss tgt i stk st) : lR p l e s m below meth c b G cc ss pc i stk st := by
  intro H locs ls hS hP hl
  exact lv_goto C.1.1 C.1.2.1 hd ht (k H locs ls hS hP hl)
theorem l_iinc (C : lC p s m meth c b L xs G) (hd : decode code pc = .ok (.iinc 3 1, 3)) (k : lR p l e s m below meth c b G cc ss (pc + 3) (i + 1) stk st) : lR p l e s m below meth c b G cc ss pc i stk st := by
  intro H locs ls hS hP hl
  refine lv_iinc (v := i + 1) (lv' := [(3, .int (i + 1)), (0, .ref b), (1, .ref (G.1 0)), (2, .ref (G.1 72))]) C.1.1 C.1.2.1 hd hl (k := 3) rfl rfl (by decide) rfl (fun ls' hl' => ?_)
  exact k H locs ls' hS hP (lv_sub hl' [1, 2, 3, 0] rfl)
theorem l_ige {off : Int} {tgt : Nat} {x y : Int32} (C : lC p s m meth c b L xs G) (hd : decode code pc = .ok (.if_icmp .ge off, 3)) (ht : (pc : Int) + off = (tgt : Int)) (kt : y ≤ x → lR p l e s m below meth c b G cc ss tgt i stk st) (kf : ¬ y ≤ x → lR p l e s m below meth c b G cc ss (pc + 3) i stk st) : lR p l e s m below meth c b G cc ss pc i (.int y :: .int x :: stk) st := by
  intro H locs ls hS hP hl
  exact lv_icmp_ge C.1.1 C.1.2.1 hd ht (fun h => kt h H locs ls hS hP hl) (fun h => kf h H locs ls hS hP hl)
theorem l_ine {off : Int} {tgt : Nat} {x y : Int32} (C : lC p s m meth c b L xs G) (hd : decode code pc = .ok (.if_icmp .ne off, 3)) (ht : (pc : Int) + off = (tgt : Int)) (kt : ¬ x = y → lR p l e s m below meth c b G cc ss tgt i stk st) (kf : x = y → lR p l e s m below meth c b G cc ss (pc + 3) i stk st) : lR p l e s m below meth c b G cc ss pc i (.int y :: .int x :: stk) st := by
  intro H locs ls hS hP hl
  exact lv_icmp_ne C.1.1 C.1.2.1 hd ht (fun h => kt h H locs ls hS hP hl) (fun h => kf h H locs ls hS hP hl)
theorem l_ineq {off : Int} {tgt : Nat} {x y : Int32} (C : lC p s m meth c b L xs G) (hd : decode code pc = .ok (.if_icmp .ne off, 3)) (ht : (pc : Int) + off = (tgt : Int)) (hxy : x = y) (k : lR p l e s m below meth c b G cc ss (pc + 3) i stk st) : lR p l e s m below meth c b G cc ss pc i (.int y :: .int x :: stk) st := l_ine C hd ht (fun h => absurd hxy h) (fun _ => k)
theorem l_if0 {off : Int} {tgt : Nat} {x : Int32} (C : lC p s m meth c b L xs G) (hd : decode code pc = .ok (.ifCond .eq off, 3)) (ht : (pc : Int) + off = (tgt : Int)) (hx : x = 1) (k : lR p l e s m below meth c b G cc ss (pc + 3) i stk st) : lR p l e s m below meth c b G cc ss pc i (.int x :: stk) st := by
  subst hx
  intro H locs ls hS hP hl
  exact lv_if_eq C.1.1 C.1.2.1 hd ht (fun h => absurd h (by decide)) (fun _ => k H locs ls hS hP hl)
theorem l_if1 {off : Int} {tgt : Nat} {x : Int32} (C : lC p s m meth c b L xs G) (hd : decode code pc = .ok (.ifCond .ne off, 3)) (ht : (pc : Int) + off = (tgt : Int)) (hx : x = 1) (k : lR p l e s m below meth c b G cc ss tgt i stk st) : lR p l e s m below meth c b G cc ss pc i (.int x :: stk) st := by
  subst hx
  intro H locs ls hS hP hl
  exact lv_if_ne C.1.1 C.1.2.1 hd ht (fun _ => k H locs ls hS hP hl) (fun h => absurd h (by decide))
theorem l_end (C : lC p s m meth c b L xs G) (h1 : cc ≤ 600000) (h2 : ss ≤ 7302250) (hd : decode code pc = .ok (.ireturn, 1)) : lR p l e s m below meth c b G cc ss pc i [.int 1] st := by
  intro H locs ls hS hP hl
  refine W.widen h1 h2 (va_forget (fun q hq => hS.2.2 q hq) ?_)
  exact lw_ret (d0 := s.drawn) (Drawn.sameBut.refl s.drawn lw_cs) C.1.1 C.1.2.1 C.1.2.2.1 C.1.2.2.2.2.2.2.2.2.1 hd
theorem l_back {a a' : Nat} {Q' : Option Value → xs_S → Prop} {H : Heap} {locs : List Loc} {ls : Array Slot} {rest st0 : List Value} {ar : Array Value} (hS : va_S (fun q => s.heap.size ≤ q) s.heap H locs) (hl : lv_has ls 4 [(0, .ref b), (1, .ref (G.1 0)), (2, .ref (G.1 72)), (3, .int i)])
    (hr : va_Run p l e room_1 s m #[Value.ref b] below meth c H locs cc ss a a' (F0 m pc ls st0) rest (xs_Q s.heap.size (xs_q (xg G a a') Q') ar) (fun q => s.heap.size ≤ q)) (kk : ∀ r u, Q' r u → lR p l e s m below meth c b G (cc + a) (ss + a') (pc + 3) i ((r.map (xs_v G)).toList ++ rest) u) : W p l e room_1 s m #[Value.ref b] below meth c H locs cc ss (lw_Z below #[Value.ref b] s) (F0 m pc ls st0) := by
  intro T0 hT X
  obtain ⟨v, s0, t, T', L', h0, X', hL', e1, e2, ⟨⟨G', r, u, hv, ⟨hle, hv2, hq⟩, hok, hP'⟩, hz, hkeep⟩, go⟩ := hr T0 hT X
  cases hv
  rw [h0] at hz hkeep
  have hS' : va_S (fun q => s.heap.size ≤ q) s.heap T'.heap (locs ++ L') := by
    refine ⟨Nat.le_trans hS.1 (by rw [e1]; exact hz), fun q h1 h2 => ?_, fun q hq => ?_⟩
    · rw [e1, hkeep q (Nat.lt_of_lt_of_le h1 hS.1) h2]
      exact hS.2.1 q h1 h2
    · rcases List.mem_append.mp hq with h | h
      · exact hS.2.2 q h
      · exact hL' q h
  have hP2 := xs_P_le hle hP'
  have hg := kk r u hq T'.heap (locs ++ L') ls hS' (by rw [e1]; exact hP2) hl
  rw [hv2] at go
  obtain ⟨t2, a1, b1⟩ := hg T' rfl X'
  exact ⟨t2, go t2 a1, b1⟩
theorem l_cb {a a' idx d' : Nat} {N : xs_M} (C : lC p s m meth c b L xs G) (hN : xs_good N) (hk : Jvm.Cond.methodLink RL idx (xm_y N) ∈ xw) (hd' : d' ≤ 9) : CallB room_1 s #[Value.ref b] RL idx (xm_y N) (xm_c N) (xm_nL N) (xm_ret N) (xs_wsM N) (xs_rm (xg G a a') d') a a' (xm_n N) := by
  have hts' := l_hts C
  have hG := gw_goodIn hN.1 (fun _ h => h)
  obtain ⟨-, h2, ⟨-, h3, h4, h5, h6, h7⟩, h8⟩ := hN.1
  exact callB_of (ws' := xw) (xm_n N) hts' hG rfl rfl rfl (by rw [h3]; exact hts' _ h8) (hts' _ hk) ⟨h4, h5, h7⟩ ⟨by show d' + 1 ≤ 10; omega, by show 8 + (xm_nL N + 11) + 36 * d' ≤ 396; omega⟩
theorem l_callV {idx d' b0 a a' : Nat} {N : xs_M} {av rest : List Value} {sl : List (Option Nat)} {T : u_T} {NN : Nat} {Q' : Option Value → xs_S → Prop} (C : lC p s m meth c b L xs G) (hN : xs_good N) (hk : xs_kV RL idx N) (hd : decode code pc = .ok (.invokevirtual idx, 3)) (hK' : xs_K (xg G a a') s.heap.size d' N (.ref b0 :: av) st Q') (hd' : d' ≤ 9) (hsh : xs_sh b0 = some (.inr (xm_ci N, sl))) (hcl : vwCl[xm_ci N]? = some (xm_own N, T, NN)) (hn : av.length = xm_n N) (hstk : stk = (av.map (xs_v G)).reverse ++ .ref (G.1 b0) :: rest) (hcat : Nat.ble ((rest.map fun v => v.category).sum) 8 = true) (h1 : cc + a ≤ 600000) (h2 : ss + a' ≤ 7302250) (kk : ∀ r u, Q' r u → lR p l e s m below meth c b G (cc + a) (ss + a') (pc + 3) i ((r.map (xs_v G)).toList ++ rest) u) : lR p l e s m below meth c b G cc ss pc i stk st := by
  subst hstk
  have hts' := l_hts C
  have hown' := l_own C
  have hcb := l_cb (a := a) (a' := a') C hN hk.1 hd'
  obtain ⟨⟨hx, hb, hr, hml, hown, hts, hX, hbl, hlocks, hgv⟩, hK⟩ := C
  intro H locs ls hS hP hl
  have he := xs_ws_at (G := xg G 0 0) (st := st) (xs_sh_lt hK.1 hsh)
  rw [xs_cell_o hsh] at he
  refine l_back (rest := rest) (a := a) (a' := a') (ar := (Value.ref (G.1 b0) :: av.map (xs_v G)).toArray) hS hl ?_ kk
  exact va_runV (Qc := xs_Q s.heap.size (xs_q (xg G a a') Q')) (mc := a) (ms := a') (C := xm_own N) (n := xm_n N) (As := av.map (xs_v G)) (rest := rest) (b := G.1 b0) (Ts := xw) ⟨hx, hb, hml, hown', hts'⟩ (hK' l) ⟨hcb, hts' _ hk.2.1, hts' _ hk.2.2⟩ ⟨xs_blind (G := xg G a a'), va_recv hK.2.1 hP hcl he, fun U hU hW => ⟨rfl, xs_Kn.warm hW hK.call (by rw [hU]; exact Nat.le_trans hK.2.2.2 hS.1), by rw [hU]; exact hP⟩⟩ rfl (by rw [List.length_map]; exact hn) hl.1 rfl (lv_room (Nat.le_of_ble_eq_true hcat)) hd ⟨h1, h2⟩
theorem l_callS {idx d' a a' : Nat} {N : xs_M} {av rest : List Value} {Q' : Option Value → xs_S → Prop} (C : lC p s m meth c b L xs G) (hN : xs_good N) (hk : xs_kS RL idx N) (hd : decode code pc = .ok (.invokestatic idx, 3)) (hK' : xs_K (xg G a a') s.heap.size d' N av st Q') (hd' : d' ≤ 9) (hn : av.length = xm_n N) (hstk : stk = (av.map (xs_v G)).reverse ++ rest) (hcat : Nat.ble ((rest.map fun v => v.category).sum) 8 = true) (h1 : cc + a ≤ 600000) (h2 : ss + a' ≤ 7302250) (kk : ∀ r u, Q' r u → lR p l e s m below meth c b G (cc + a) (ss + a') (pc + 3) i ((r.map (xs_v G)).toList ++ rest) u) : lR p l e s m below meth c b G cc ss pc i stk st := by
  subst hstk
  have hts' := l_hts C
  have hown' := l_own C
  have hcb := l_cb (a := a) (a' := a') C hN hk.1 hd'
  obtain ⟨⟨hx, hb, hr, hml, hown, hts, hX, hbl, hlocks, hgv⟩, hK⟩ := C
  intro H locs ls hS hP hl
  refine l_back (rest := rest) (a := a) (a' := a') (ar := (av.map (xs_v G)).toArray) hS hl ?_ kk
  exact va_runS (Qc := xs_Q s.heap.size (xs_q (xg G a a') Q')) (mc := a) (ms := a') (n := xm_n N) (As := av.map (xs_v G)) (rest := rest) (Ts := xw) ⟨hx, hb, hml, hown', hts'⟩ (hK' l) ⟨hcb, hts' _ hk.2⟩ ⟨xs_blind (G := xg G a a'), fun U hU hW => ⟨rfl, xs_Kn.warm hW hK.call (by rw [hU]; exact Nat.le_trans hK.2.2.2 hS.1), by rw [hU]; exact hP⟩⟩ rfl (by rw [List.length_map]; exact hn) hl.1 rfl (lv_room (Nat.le_of_ble_eq_true hcat)) hd ⟨h1, h2⟩
end LR
/-! the script's reader: any number -/
def cl_P (b L : Nat) (xs : Nat → Int32) (k : Int32) : Array Value → State → Prop := va_Pc [.ref b, .int k] (fun U => va_X b L xs U U.heap ∧ b < U.heap.size)
def cl_Q : Array Value → State → Outcome → State → Prop := fun _ s0 oc t => (∃ v : Int32, oc = .returned (some (.int v))) ∧ va_F (fun _ => False) s0 t
theorem c_cell (l : Launch) (b L : Nat) (xs : Nat → Int32) (k : Int32) (hk : 0 ≤ k.toInt) (hL : L ≤ 260) : Met l yL_cell (xs_wsM M_L_cell) { frames := 0, cells := 0, slots := 0, locals := 0 } (cl_P b L xs k) cl_Q 0 0 (fun _ => False) := by
  refine xs_ofW (cc := cL_cell) (maxL := 2) (ret := some .int) ok_L_cell.2.2.1.1 rfl ?_
  intro p e s m args below meth c s₁ B hml hv
  obtain ⟨rfl, hX, hbl⟩ := hv
  have hx := B.exec
  have hb := B.bytes
  have hr := B.returns
  have hlocks := B.notSynchronized
  have hts0 := atoms_spec (ws := xs_wsM M_L_cell) B.pre
  have hts : ∀ w ∈ xw, w.before _ s = true := fun w hw => hts0 w (List.mem_cons_of_mem _ hw)
  have hown : s.vm.findClass RL = some m.cls := findClass_of_methodNamed B.named
  have hS : va_S (fun _ : Nat => False) s.heap s.heap [] := va_S.rf
  have hl := lv_entry ([.ref b, .int k]) (n := 2) (Nat.le_of_ble_eq_true rfl)
  rw [lg_entry_eq]
  generalize (lg_sl ([.ref b, .int k]) ++ List.replicate (2 - (lg_sl ([.ref b, .int k])).length) Slot.unset).toArray = ls at hl ⊢
  have hl : lv_has ls 2 [(0, .ref b), (1, .int k)] := hl
  have fin : ∀ v : Int32, W p l e (headSpec (xs_wsM M_L_cell) { frames := 0, cells := 0, slots := 0, locals := 0 }).room s m #[Value.ref b, Value.int k] below meth c s.heap [] 0 0 (MQ below cl_Q #[Value.ref b, Value.int k] s 0 0 (fun _ => False)) (F0 m 20 ls [.int v]) := fun v => W.iret hx hb hr (fun t ht hW => ⟨⟨v, rfl⟩, hS.F ht⟩) hS.2.2 (xs_dec ok_L_cell (pc := 20) rfl).1
  refine lv_iload_n hx hb (xs_dec ok_L_cell (pc := 0) rfl).1 rfl (lv_at hl 1 rfl) ?_
  refine lv_aload_n hx hb (xs_dec ok_L_cell (pc := 1) rfl).1 rfl (lv_at hl 0 rfl) ?_
  refine va_slen hx hb hX hbl (fun h => h) hS (xs_dec ok_L_cell (pc := 2) rfl).1 ?_
  refine lv_icmp_ge (tgt := 12) hx hb (xs_dec ok_L_cell (pc := 3) rfl).1 (by decide) (fun _ => ?_) (fun hc => ?_)
  · refine lv_ldc (v := 19910023) hx hb hown (hts _ (xs_consts_ok (RL, 7, 19910023) (by decide +kernel))) (xs_dec ok_L_cell (pc := 12) rfl).1 ?_
    refine lv_iload_n hx hb (xs_dec ok_L_cell (pc := 14) rfl).1 rfl (lv_at hl 1 rfl) ?_
    refine lv_imul hx hb (xs_dec ok_L_cell (pc := 15) rfl).1 ?_
    refine lv_sipush (v := 25013) hx hb (xs_dec ok_L_cell (pc := 16) rfl).1 rfl ?_
    refine lv_iadd hx hb (xs_dec ok_L_cell (pc := 19) rfl).1 ?_
    exact fin _
  · rw [xi_le, show (Int32.ofNat L).toInt = (L : Int) from nI_toInt (by omega)] at hc
    refine lv_aload_n hx hb (xs_dec ok_L_cell (pc := 6) rfl).1 rfl (lv_at hl 0 rfl) ?_
    refine lv_iload_n hx hb (xs_dec ok_L_cell (pc := 7) rfl).1 rfl (lv_at hl 1 rfl) ?_
    refine va_sld hx hb hX hbl (fun h => h) hS (vp_in_iff.mpr ⟨by omega, by omega⟩) (xs_dec ok_L_cell (pc := 8) rfl).1 ?_
    refine lv_goto (tgt := 20) hx hb (xs_dec ok_L_cell (pc := 9) rfl).1 (by decide) ?_
    exact fin _
section LB
variable {p : Program} {l : Launch} {e : Env} {s : State} {m : MethodId} {below : List Frame} {meth : Method} {c : Code} {b L : Nat} {xs : Nat → Int32} {G : xs_G} {cc ss pc : Nat} {i : Int32} {stk : List Value} {st : xs_S}
theorem l_cell {k : Int32} {rest : List Value} (C : lC p s m meth c b L xs G) (hd : decode code pc = .ok (.invokestatic 86, 3)) (hk : 0 ≤ k.toInt) (hL : L ≤ 260) (h1 : cc ≤ 600000) (h2 : ss ≤ 7302250) (hcat : Nat.ble ((rest.map fun v => v.category).sum) 8 = true) (kk : ∀ v : Int32, lR p l e s m below meth c b G cc ss (pc + 3) i (.int v :: rest) st) : lR p l e s m below meth c b G cc ss pc i (.int k :: .ref b :: rest) st := by
  have hts' := l_hts C
  have hown' := l_own C
  obtain ⟨⟨hx, hb, hr, hml, hown, hts, hX, hbl, hlocks, hgv⟩, hK⟩ := C
  intro H locs ls hS hP hl
  have hXH : va_X b L xs s H := hX.kept (hS.2.1 b hbl (by omega))
  have hbH : b < H.size := Nat.lt_of_lt_of_le hbl hS.1
  have hcb : CallB room_1 s #[Value.ref b] RL 86 yL_cell cL_cell 2 (some .int) (xs_wsM M_L_cell) { frames := 0, cells := 0, slots := 0, locals := 0 } 0 0 2 := by
    obtain ⟨-, h2, ⟨-, h3, h4, h5, h6, h7⟩, h8⟩ := ok_L_cell
    exact callB_of (ws' := xw) 2 hts' (gw_goodIn ok_L_cell (fun _ h => h)) rfl rfl rfl (by rw [h3]; exact hts' _ h8) (hts' _ k_L_86.1) ⟨h4, h5, h7⟩ ⟨by decide, by decide⟩
  have hrun : va_Run p l e room_1 s m #[Value.ref b] below meth c H locs cc ss 0 0 (F0 m pc ls (.int k :: .ref b :: rest)) rest (cl_Q [Value.ref b, .int k].toArray) (fun _ => False) :=
    va_runS (n := 2) (As := [.ref b, .int k]) (rest := rest) (Ts := xw) ⟨hx, hb, hml, hown', hts'⟩ (c_cell l b L xs k hk hL) ⟨hcb, hts' _ k_L_86.2⟩ ⟨fun a U g mk q => by
        obtain ⟨q1, q2, q3⟩ := q
        exact ⟨q1, q2.moved (u := U) (U := U.calling g mk a) (Vm.Alike.refl _), q3⟩, fun U hU hW => ⟨rfl, by rw [hU]; exact hXH.moved hW.alike, by rw [hU]; exact hbH⟩⟩ rfl rfl hl.1 rfl (lv_room (Nat.le_of_ble_eq_true hcat)) hd ⟨h1, h2⟩
  intro T0 hT X
  obtain ⟨v, s0, t, T', L', h0, X', hL', e1, e2, ⟨⟨w, hv⟩, hz, hkeep⟩, go⟩ := hrun T0 hT X
  cases hv
  rw [h0] at hz hkeep
  have hS' : va_S (fun q => s.heap.size ≤ q) s.heap T'.heap (locs ++ L') := by
    refine ⟨Nat.le_trans hS.1 (by rw [e1]; exact hz), fun q h1 h2 => ?_, fun q hq => ?_⟩
    · rw [e1, hkeep q (Nat.lt_of_lt_of_le h1 hS.1) (fun h => h)]
      exact hS.2.1 q h1 h2
    · rcases List.mem_append.mp hq with h | h
      · exact hS.2.2 q h
      · exact (hL' q h).elim
  have hP2 : va_P G.2.1 vwCl (xs_ws (xg G 0 0) st) T'.heap := by
    rw [e1]
    exact hP.kept (fun k q hq => hkeep q.1 ((hP k q hq).lt) (fun h => h))
  obtain ⟨t2, a1, b1⟩ := kk w T'.heap (locs ++ L') ls hS' hP2 hl T' rfl X'
  exact ⟨t2, go t2 a1, b1⟩
end LB
