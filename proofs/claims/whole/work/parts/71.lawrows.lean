/-! THE CLAIM OUT OF ONE WALK OF THE LAW'S BODY. Your part is whole_start (and what it stands on); all else here is the same for every law, but numbers. -/
def R_law : String := "SundialSpansLaw"
def lw_P (b : Addr) (xs : List Int32) (args : Array Value) (s : State) : Prop := args = #[.ref b] ∧ s.IntsAt b xs ∧ xs.length ≤ 2048 ∧ (Jvm.Cond.and given_1 narrow_1).before args s = true
/-- what a walk over the start with the record d0 says of its end, said of the start itself -/
theorem lw_closed {s t : State} {o : Outcome} {d0 : Drawn} {L : List Loc} {k n : Nat} (hd0 : s.drawn.sameBut d0 lw_cs) (hv : ∃ v, o = .returned v) (hW : (s.setDrawn d0).WarmedH t.vm) (hs : (s.setDrawn d0).sameButNew ({ t with vm := s.vm } : State) L k n) : State.butDraws s t lw_cs (fun t1 => Framed s o t1 L k n) := by
  have h2 : t.drawn = d0 := congrArg State.drawn hs.1
  refine ⟨⟨hv, hW, State.sameButNew.setDrawn hs s.drawn⟩, ?_, by decide⟩
  rw [h2]
  exact hd0
def lw_Q (_ : Array Value) (s : State) (o : Outcome) (t : State) : Prop := o = .returned (some (.int 1)) ∧ State.butDraws s t lw_cs (fun t1 => Framed s o t1 [] 600000 7302249)
def lw_Z (below : List Frame) (a : Array Value) (s : State) : State → Prop := fun t => ∃ o, t.status = .running ∧ Ended t below o ∧ lw_Q a s o t
/-- the law's own end, with 1 on the stack, nothing written that was there before, its room as the claim has it; d0: the record of draws at this point (at the entry s.drawn: begin with 'refine W.base ?_' and 'have hd0 := Drawn.sameBut.refl s.drawn lw_cs') -/
theorem lw_ret {p : Program} {l : Launch} {e : Env} {s : State} {m : MethodId} {below : List Frame} {meth : Method} {c : Code} {b : Nat} {d0 : Drawn} (hd0 : s.drawn.sameBut d0 lw_cs) (hx : p.tables.exec = Jvm.exec) (hb : c.code = code) (hr : meth.sig.returnType = ret) (hlocks : meth.locks = false) {pc : Nat} {H : Heap} {ls : Array Slot} (hdg : decode code pc = .ok (.ireturn, 1)) : W p l e room_1 (s.setDrawn d0) m #[Value.ref b] below meth c H [] 600000 7302249 (lw_Z below #[Value.ref b] s) (F0 m pc ls [.int 1]) := by
  intro T hT X
  obtain ⟨fs, hret, hrun, hended, hW, hframe⟩ := X.leave (v := some (.int 1)) (hlocks := hlocks) (fun h => by rw [hr] at h; cases h)
  have hmeth' : T.vm.method? m = some meth := X.method'
  refine ⟨T.setFrames fs, ?_, .returned (some (.int 1)), hrun, hended, rfl, lw_closed hd0 ⟨_, rfl⟩ hW hframe⟩
  jvm_step X.here [X.here.top, hx, hb, hdg, hmeth', hr, ret, narrow_b1]
  (try refine ⟨rfl, ?_⟩); (try refine ⟨rfl, ?_⟩)
  first | (intro acts; rw [hret _ acts rfl rfl rfl]) | rw [hret _ _ rfl rfl rfl]
  exact Steps.refl _
/-- what holds at the law's entry: the machine, the code, the tables' words (any of lw_tbl by 'hts w (by decide +kernel)'), the script of L ints xs at the cell b, what the Statement gives of the start (any of its parts by flat_of_before) -/
def lw_At (p : Program) (s : State) (m : MethodId) (meth : Method) (c : Code) (b L : Nat) (xs : Nat → Int32) : Prop :=
  p.tables.exec = Jvm.exec ∧ c.code = code ∧ meth.sig.returnType = ret ∧ c.maxLocals = 4 ∧ s.vm.findClass R_law = some m.cls ∧ (∀ w ∈ lw_tbl, w.before #[Value.ref b] s = true) ∧ va_X b L xs s s.heap ∧ b < s.heap.size ∧ meth.locks = false ∧ (Jvm.Cond.and given_1 narrow_1).before #[Value.ref b] s = true
/-! the law's judgement: the script at b, the class's object and the reference's in the locals, the world as the memory says -/
def lR (p : Program) (l : Launch) (e : Env) (s : State) (m : MethodId) (below : List Frame) (meth : Method) (c : Code) (b : Nat) (G : xs_G) (pc : Nat) (i : Int32) (stk : List Value) (st : xs_S) : Prop :=
  ∀ (H : Heap) (locs : List Loc) (ls : Array Slot), va_S (fun q => s.heap.size ≤ q) s.heap H locs → va_P G.2.1 vwCl (xs_ws G st) H → lv_has ls 4 [(0, .ref b), (1, .ref (G.1 0)), (2, .ref (G.1 72)), (3, .int i)] →
    W p l e room_1 s m #[Value.ref b] below meth c H locs 600000 7302249 (lw_Z below #[Value.ref b] s) (F0 m pc ls stk)
def lC (p : Program) (s : State) (m : MethodId) (meth : Method) (c : Code) (b L : Nat) (xs : Nat → Int32) (G : xs_G) : Prop := lw_At p s m meth c b L xs ∧ xs_Kn G s.heap.size s
section LR
variable {p : Program} {l : Launch} {e : Env} {s : State} {m : MethodId} {below : List Frame} {meth : Method} {c : Code} {b L : Nat} {xs : Nat → Int32} {G : xs_G} {pc : Nat} {i : Int32} {stk : List Value} {st : xs_S}
theorem l_al0 (C : lC p s m meth c b L xs G) (hd : decode code pc = .ok (.aload_n 0, 1)) (k : lR p l e s m below meth c b G (pc + 1) i (.ref b :: stk) st) : lR p l e s m below meth c b G pc i stk st := by
  intro H locs ls hS hP hl
  exact lv_aload_n C.1.1 C.1.2.1 hd rfl (lv_at hl 0 rfl) (k H locs ls hS hP hl)
theorem l_al1 (C : lC p s m meth c b L xs G) (hd : decode code pc = .ok (.aload_n 1, 1)) (k : lR p l e s m below meth c b G (pc + 1) i (.ref (G.1 0) :: stk) st) : lR p l e s m below meth c b G pc i stk st := by
  intro H locs ls hS hP hl
  exact lv_aload_n C.1.1 C.1.2.1 hd rfl (lv_at hl 1 rfl) (k H locs ls hS hP hl)
theorem l_al2 (C : lC p s m meth c b L xs G) (hd : decode code pc = .ok (.aload_n 2, 1)) (k : lR p l e s m below meth c b G (pc + 1) i (.ref (G.1 72) :: stk) st) : lR p l e s m below meth c b G pc i stk st := by
  intro H locs ls hS hP hl
  exact lv_aload_n C.1.1 C.1.2.1 hd rfl (lv_at hl 2 rfl) (k H locs ls hS hP hl)
theorem l_il (C : lC p s m meth c b L xs G) (hd : decode code pc = .ok (.iload_n 3, 1)) (k : lR p l e s m below meth c b G (pc + 1) i (.int i :: stk) st) : lR p l e s m below meth c b G pc i stk st := by
  intro H locs ls hS hP hl
  exact lv_iload_n C.1.1 C.1.2.1 hd rfl (lv_at hl 3 rfl) (k H locs ls hS hP hl)
theorem l_ic {n : Int} {v : Int32} (C : lC p s m meth c b L xs G) (hd : decode code pc = .ok (.iconst n, 1)) (hv : Int32.ofInt n = v) (k : lR p l e s m below meth c b G (pc + 1) i (.int v :: stk) st) : lR p l e s m below meth c b G pc i stk st := by
  intro H locs ls hS hP hl
  exact lv_iconst C.1.1 C.1.2.1 hd hv (k H locs ls hS hP hl)
theorem l_bi {n : Int} {v : Int32} (C : lC p s m meth c b L xs G) (hd : decode code pc = .ok (.bipush n, 2)) (hv : (Int8.ofInt n).toInt32 = v) (k : lR p l e s m below meth c b G (pc + 2) i (.int v :: stk) st) : lR p l e s m below meth c b G pc i stk st := by
  intro H locs ls hS hP hl
  exact lv_bipush C.1.1 C.1.2.1 hd hv (k H locs ls hS hP hl)
theorem l_iadd {x y : Int32} (C : lC p s m meth c b L xs G) (hd : decode code pc = .ok (.iadd, 1)) (k : lR p l e s m below meth c b G (pc + 1) i (.int (x + y) :: stk) st) : lR p l e s m below meth c b G pc i (.int y :: .int x :: stk) st := by
  intro H locs ls hS hP hl
  exact lv_iadd C.1.1 C.1.2.1 hd (k H locs ls hS hP hl)
theorem l_isub {x y : Int32} (C : lC p s m meth c b L xs G) (hd : decode code pc = .ok (.isub, 1)) (k : lR p l e s m below meth c b G (pc + 1) i (.int (x - y) :: stk) st) : lR p l e s m below meth c b G pc i (.int y :: .int x :: stk) st := by
  intro H locs ls hS hP hl
  exact lv_isub C.1.1 C.1.2.1 hd (k H locs ls hS hP hl)
theorem l_iand {x y : Int32} (C : lC p s m meth c b L xs G) (hd : decode code pc = .ok (.iand, 1)) (k : lR p l e s m below meth c b G (pc + 1) i (.int (x &&& y) :: stk) st) : lR p l e s m below meth c b G pc i (.int y :: .int x :: stk) st := by
  intro H locs ls hS hP hl
  exact lv_iand C.1.1 C.1.2.1 hd (k H locs ls hS hP hl)
theorem l_i2l {x : Int32} (C : lC p s m meth c b L xs G) (hd : decode code pc = .ok (.i2l, 1)) (k : lR p l e s m below meth c b G (pc + 1) i (.long x.toInt64 :: stk) st) : lR p l e s m below meth c b G pc i (.int x :: stk) st := by
  intro H locs ls hS hP hl
  exact lv_i2l C.1.1 C.1.2.1 hd rfl (k H locs ls hS hP hl)
theorem l_lshl {x : Int64} {y : Int32} (C : lC p s m meth c b L xs G) (hd : decode code pc = .ok (.lshl, 1)) (k : lR p l e s m below meth c b G (pc + 1) i (.long (x <<< (y.toInt64 &&& 63)) :: stk) st) : lR p l e s m below meth c b G pc i (.int y :: .long x :: stk) st := by
  intro H locs ls hS hP hl
  exact lv_lshl C.1.1 C.1.2.1 hd rfl (k H locs ls hS hP hl)
theorem l_land {x y : Int64} (C : lC p s m meth c b L xs G) (hd : decode code pc = .ok (.land, 1)) (k : lR p l e s m below meth c b G (pc + 1) i (.long (x &&& y) :: stk) st) : lR p l e s m below meth c b G pc i (.long y :: .long x :: stk) st := by
  intro H locs ls hS hP hl
  exact lv_land C.1.1 C.1.2.1 hd (k H locs ls hS hP hl)
theorem l_lor {x y : Int64} (C : lC p s m meth c b L xs G) (hd : decode code pc = .ok (.lor, 1)) (k : lR p l e s m below meth c b G (pc + 1) i (.long (x ||| y) :: stk) st) : lR p l e s m below meth c b G pc i (.long y :: .long x :: stk) st := by
  intro H locs ls hS hP hl
  exact lv_lor C.1.1 C.1.2.1 hd (k H locs ls hS hP hl)
theorem l_lcmp {x y : Int64} (C : lC p s m meth c b L xs G) (hd : decode code pc = .ok (.lcmp, 1)) (k : lR p l e s m below meth c b G (pc + 1) i (.int (lg_cmp x y) :: stk) st) : lR p l e s m below meth c b G pc i (.long y :: .long x :: stk) st := by
  intro H locs ls hS hP hl
  exact W.lcmp C.1.1 C.1.2.1 hd (k H locs ls hS hP hl)
theorem l_own (C : lC p s m meth c b L xs G) : s.vm.findClass RL = some m.cls := C.1.2.2.2.2.1
theorem l_hts (C : lC p s m meth c b L xs G) : ∀ w ∈ xw, w.before #[Value.ref b] s = true := fun w hw => C.1.2.2.2.2.2.1 w (xw_in hw)
theorem l_ldc2 {z : Nat} {v : Int64} (C : lC p s m meth c b L xs G) (hd : decode code pc = .ok (.ldc2_w z, 3)) (hw : Jvm.Cond.constantLong RL z v ∈ xw) (k : lR p l e s m below meth c b G (pc + 3) i (.long v :: stk) st) : lR p l e s m below meth c b G pc i stk st := by
  intro H locs ls hS hP hl
  exact lv_ldc2 C.1.1 C.1.2.1 (l_own C) (l_hts C _ hw) hd (k H locs ls hS hP hl)
theorem l_len (C : lC p s m meth c b L xs G) (hd : decode code pc = .ok (.arraylength, 1)) (k : lR p l e s m below meth c b G (pc + 1) i (.int (Int32.ofNat L) :: stk) st) : lR p l e s m below meth c b G pc i (.ref b :: stk) st := by
  intro H locs ls hS hP hl
  have hbl := C.1.2.2.2.2.2.2.2.1
  exact va_slen C.1.1 C.1.2.1 C.1.2.2.2.2.2.2.1 hbl (Nat.not_le.mpr hbl) hS hd (k H locs ls hS hP hl)
theorem l_sld {j : Int32} (C : lC p s m meth c b L xs G) (hd : decode code pc = .ok (.iaload, 1)) (hj : 0 ≤ j.toInt ∧ j.toInt < (L : Int)) (k : lR p l e s m below meth c b G (pc + 1) i (.int (xs j.toInt.toNat) :: stk) st) : lR p l e s m below meth c b G pc i (.int j :: .ref b :: stk) st := by
  intro H locs ls hS hP hl
  have hbl := C.1.2.2.2.2.2.2.2.1
  refine va_sld C.1.1 C.1.2.1 C.1.2.2.2.2.2.2.1 hbl (Nat.not_le.mpr hbl) hS (vp_in_iff.mpr ⟨by omega, by omega⟩) hd ?_
  exact k H locs ls hS hP hl
theorem l_arg {k : Nat} {n : Int} (C : lC p s m meth c b L xs G) (h0 : decode code pc = .ok (.aload_n 0, 1)) (h1 : decode code (pc + 1) = .ok (.iload_n 3, 1)) (h2 : decode code (pc + 1 + 1) = .ok (.iconst n, 1)) (h3 : decode code (pc + 1 + 1 + 1) = .ok (.iadd, 1)) (h4 : decode code (pc + 1 + 1 + 1 + 1) = .ok (.iaload, 1)) (hn : n = (k : Int)) (hi : 0 ≤ i.toInt ∧ i.toInt + 4 ≤ (L : Int)) (hk4 : k < 4) (k' : lR p l e s m below meth c b G (pc + 5) i (.int (xs (i.toInt.toNat + k)) :: stk) st) (hL : L ≤ 2048 := by assumption) : lR p l e s m below meth c b G pc i stk st := by
  subst hn
  have ek : ∀ q : Nat, q < 4 → (Int32.ofInt (q : Int)).toInt = (q : Int) := by decide
  refine l_al0 C h0 (l_il C h1 (l_ic C h2 rfl (l_iadd C h3 ?_)))
  have e := ek k hk4
  have ea : (i + Int32.ofInt (k : Int)).toInt = i.toInt + (k : Int) := by rw [xi_add (by rw [e]; omega), e]
  refine l_sld C h4 ⟨by omega, by omega⟩ ?_
  have en : (i + Int32.ofInt (k : Int)).toInt.toNat = i.toInt.toNat + k := by omega
  rw [en]
  exact k'
theorem l_iinc (C : lC p s m meth c b L xs G) (hd : decode code pc = .ok (.iinc 3 4, 3)) (k : lR p l e s m below meth c b G (pc + 3) (i + 4) stk st) : lR p l e s m below meth c b G pc i stk st := by
  intro H locs ls hS hP hl
  refine lv_iinc (v := i + 4) (lv' := [(3, .int (i + 4)), (0, .ref b), (1, .ref (G.1 0)), (2, .ref (G.1 72))]) C.1.1 C.1.2.1 hd hl (k := 3) rfl rfl (by decide) rfl (fun ls' hl' => ?_)
  exact k H locs ls' hS hP (lv_sub hl' [1, 2, 3, 0] rfl)
theorem l_goto {off : Int} {tgt : Nat} (C : lC p s m meth c b L xs G) (hd : decode code pc = .ok (.goto off, 3)) (ht : (pc : Int) + off = (tgt : Int)) (k : lR p l e s m below meth c b G tgt i stk st) : lR p l e s m below meth c b G pc i stk st := by
  intro H locs ls hS hP hl
  exact lv_goto C.1.1 C.1.2.1 hd ht (k H locs ls hS hP hl)
theorem l_igt {off : Int} {tgt : Nat} {x y : Int32} (C : lC p s m meth c b L xs G) (hd : decode code pc = .ok (.if_icmp .gt off, 3)) (ht : (pc : Int) + off = (tgt : Int)) (kt : y < x → lR p l e s m below meth c b G tgt i stk st) (kf : ¬ y < x → lR p l e s m below meth c b G (pc + 3) i stk st) : lR p l e s m below meth c b G pc i (.int y :: .int x :: stk) st := by
  intro H locs ls hS hP hl
  exact lv_icmp_gt C.1.1 C.1.2.1 hd ht (fun h => kt h H locs ls hS hP hl) (fun h => kf h H locs ls hS hP hl)
theorem l_ieq {off : Int} {tgt : Nat} {x y : Int32} (C : lC p s m meth c b L xs G) (hd : decode code pc = .ok (.if_icmp .eq off, 3)) (ht : (pc : Int) + off = (tgt : Int)) (hxy : x = y) (k : lR p l e s m below meth c b G tgt i stk st) : lR p l e s m below meth c b G pc i (.int y :: .int x :: stk) st := by
  intro H locs ls hS hP hl
  exact lv_icmp_eq C.1.1 C.1.2.1 hd ht (fun _ => k H locs ls hS hP hl) (fun h => absurd hxy h)
theorem l_if0 {off : Int} {tgt : Nat} {x : Int32} (C : lC p s m meth c b L xs G) (hd : decode code pc = .ok (.ifCond .eq off, 3)) (ht : (pc : Int) + off = (tgt : Int)) (hx : x = 0) (k : lR p l e s m below meth c b G tgt i stk st) : lR p l e s m below meth c b G pc i (.int x :: stk) st := by
  intro H locs ls hS hP hl
  exact lv_if_eq C.1.1 C.1.2.1 hd ht (fun _ => k H locs ls hS hP hl) (fun h => absurd hx h)
theorem lg_same {x y : Int64} (h : x = y) : lg_cmp x y = 0 := by
  subst h
  unfold lg_cmp
  rw [if_neg (by rw [gt_iff_lt, Int64.lt_iff_toInt_lt]; omega), if_pos rfl]
theorem l_tin {k : Nat} {dflt lo hi : Int} {offs : Array Int} {len : Nat} {x : Int32} {off : Int} {tgt : Nat} (C : lC p s m meth c b L xs G) (hd : decode code pc = .ok (.tableswitch dflt lo hi offs, len)) (h1 : ¬ x.toInt < lo) (h2 : ¬ hi < x.toInt) (hk : (x.toInt - lo).toNat = k) (ho : offs[k]? = some off) (ht : (pc : Int) + off = (tgt : Int)) (kk : lR p l e s m below meth c b G tgt i stk st) : lR p l e s m below meth c b G pc i (.int x :: stk) st := by
  intro H locs ls hS hP hl
  exact lv_tableIn C.1.1 C.1.2.1 hd h1 h2 (by rw [hk]; exact ho) ht (kk H locs ls hS hP hl)
theorem l_tout {dflt lo hi : Int} {offs : Array Int} {len : Nat} {x : Int32} {tgt : Nat} (C : lC p s m meth c b L xs G) (hd : decode code pc = .ok (.tableswitch dflt lo hi offs, len)) (h : x.toInt < lo ∨ hi < x.toInt) (ht : (pc : Int) + dflt = (tgt : Int)) (kk : lR p l e s m below meth c b G tgt i stk st) : lR p l e s m below meth c b G pc i (.int x :: stk) st := by
  intro H locs ls hS hP hl
  exact lv_tableOut C.1.1 C.1.2.1 hd h ht (kk H locs ls hS hP hl)
theorem l_end (C : lC p s m meth c b L xs G) (hd : decode code pc = .ok (.ireturn, 1)) : lR p l e s m below meth c b G pc i [.int 1] st := by
  intro H locs ls hS hP hl
  refine va_forget (fun q hq => hS.2.2 q hq) ?_
  exact lw_ret (d0 := s.drawn) (Drawn.sameBut.refl s.drawn lw_cs) C.1.1 C.1.2.1 C.1.2.2.1 C.1.2.2.2.2.2.2.2.2.1 hd
theorem l_call {idx d' b0 : Nat} {N : xs_M} {av rest : List Value} {sl : List (Option Nat)} {T : u_T} {NN : Nat} {Q' : Option Value → xs_S → Prop} (C : lC p s m meth c b L xs G) (hN : xs_good N) (hk : xs_kV RL idx N) (hd : decode code pc = .ok (.invokevirtual idx, 3)) (hK' : xs_K G s.heap.size d' N (.ref b0 :: av) st Q') (hd' : d' ≤ 10) (hsh : xs_sh b0 = some (.inr (xm_ci N, sl))) (hcl : vwCl[xm_ci N]? = some (xm_own N, T, NN)) (hn : av.length = xm_n N) (hstk : stk = (av.map (xs_v G)).reverse ++ .ref (G.1 b0) :: rest) (hcat : Nat.ble ((rest.map fun v => v.category).sum) 8 = true) (kk : ∀ r u, Q' r u → lR p l e s m below meth c b G (pc + 3) i ((r.map (xs_v G)).toList ++ rest) u) : lR p l e s m below meth c b G pc i stk st := by
  subst hstk
  have hts' := l_hts C
  have hown' := l_own C
  obtain ⟨⟨hx, hb, hr, hml, hown, hts, hX, hbl, hlocks, hgv⟩, hK⟩ := C
  intro H locs ls hS hP hl
  have he := xs_ws_at (G := G) (st := st) (xs_sh_lt hsh)
  rw [xs_cell_o hsh] at he
  have hG := gw_goodIn hN.1 (fun _ h => h)
  have hcb : CallB room_1 s #[Value.ref b] RL idx (xm_y N) (xm_c N) (xm_nL N) (xm_ret N) (xs_wsM N) (xs_rm d') 0 0 (xm_n N) := by
    obtain ⟨-, h2, ⟨-, h3, h4, h5, h6, h7⟩, h8⟩ := hN.1
    exact callB_of (ws' := xw) (xm_n N) hts' hG rfl rfl rfl (by rw [h3]; exact hts' _ h8) (hts' _ hk.1) ⟨h4, h5, h7⟩ ⟨by show d' + 1 ≤ 11; omega, by show 8 + (xm_nL N + 11) + 30 * d' ≤ 410; omega⟩
  have hrun : va_Run p l e room_1 s m #[Value.ref b] below meth c H locs 600000 7302249 0 0 (F0 m pc ls ((av.map (xs_v G)).reverse ++ .ref (G.1 b0) :: rest)) rest (xs_Q G s.heap.size Q' (Value.ref (G.1 b0) :: av.map (xs_v G)).toArray) (fun q => s.heap.size ≤ q) :=
    va_runV (C := xm_own N) (n := xm_n N) (As := av.map (xs_v G)) (rest := rest) (b := G.1 b0) (Ts := xw) ⟨hx, hb, hml, hown', hts'⟩ (hK' l) ⟨hcb, hts' _ hk.2.1, hts' _ hk.2.2⟩ ⟨xs_blind, va_recv hK.2.1 hP hcl he, fun U hU hW => ⟨rfl, xs_Kn.warm hW hK, by rw [hU]; exact hP⟩⟩ rfl (by rw [List.length_map]; exact hn) hl.1 rfl (lv_room (Nat.le_of_ble_eq_true hcat)) hd ⟨Nat.le_of_ble_eq_true rfl, Nat.le_of_ble_eq_true rfl⟩
  intro T0 hT X
  obtain ⟨v, s0, t, T', L', h0, X', hL', e1, e2, ⟨⟨r, u, hv, hq, hP'⟩, hz, hkeep⟩, go⟩ := hrun T0 hT X
  cases hv
  rw [h0] at hz hkeep
  have hS' : va_S (fun q => s.heap.size ≤ q) s.heap T'.heap (locs ++ L') := by
    refine ⟨Nat.le_trans hS.1 (by rw [e1]; exact hz), fun q h1 h2 => ?_, fun q hq => ?_⟩
    · rw [e1, hkeep q (Nat.lt_of_lt_of_le h1 hS.1) h2]
      exact hS.2.1 q h1 h2
    · rcases List.mem_append.mp hq with h | h
      · exact hS.2.2 q h
      · exact hL' q h
  obtain ⟨t2, a1, b1⟩ := kk r u hq T'.heap (locs ++ L') ls hS' (by rw [e1]; exact hP') hl T' rfl X'
  exact ⟨t2, go t2 a1, b1⟩
end LR
