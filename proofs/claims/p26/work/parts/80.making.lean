/-! making objects: the blocks of cells that the constructors make -/
def tys4 (T : Nat → ClassId) : List (ClassId × FieldType) := [(T 0, .int), (T 1, .boolean), (T 2, .char), (T 3, .object "SundialSpans$Court")]
def cKn (D : va_G) (T : Nat → ClassId) (U : State) : Prop := va_K D vwCl (tys4 T) U ∧ va_Nw (.methodLinkNest RX6 9 yX1_init "SundialSpans") U ∧ va_Nw (.methodLinkNest RX6 18 yX5_init "SundialSpans") U ∧ va_Nw (.methodLinkNest RX6 39 yX3_init "SundialSpans") U ∧ va_Nw (.methodLinkNest RX2 17 yX1_init "SundialSpans") U ∧ va_Nw (.methodLinkNest RX4 21 yX1_init "SundialSpans") U ∧ va_AO "SundialSpans$Court" U
theorem cKn.warm {D : va_G} {T : Nat → ClassId} {s U : State} (hW : s.WarmedH U.vm) (h : cKn D T s) : cKn D T U := ⟨va_K.moved hW.alike h.1, va_Nw.warmM hW h.2.1, va_Nw.warmM hW h.2.2.1, va_Nw.warmM hW h.2.2.2.1, va_Nw.warmM hW h.2.2.2.2.1, va_Nw.warmM hW h.2.2.2.2.2.1, va_AO.moved hW.alike h.2.2.2.2.2.2⟩
theorem cKn.same {D : va_G} {T : Nat → ClassId} {s U : State} (hv : s.vm = U.vm) (h : cKn D T s) : cKn D T U := ⟨va_K.moved (by rw [hv]; exact Vm.Alike.refl _) h.1, va_Nw.same rfl hv h.2.1, va_Nw.same rfl hv h.2.2.1, va_Nw.same rfl hv h.2.2.2.1, va_Nw.same rfl hv h.2.2.2.2.1, va_Nw.same rfl hv h.2.2.2.2.2.1, va_AO.moved (by rw [hv]; exact Vm.Alike.refl _) h.2.2.2.2.2.2⟩
def rmN (f k n : Nat) : Room := { frames := f, cells := k, slots := n, locals := 30 * f }
def cPc (D : va_G) (T : Nat → ClassId) (a : Nat) (e : va_E) (sz : Nat) : Array Value → State → Prop := va_Pc [.ref a] (fun U => U.heap.size = sz ∧ va_P D vwCl [(a, e)] U.heap ∧ cKn D T U ∧ va_D (fun _ => True) [(a, e)])
def cQc (D : va_G) (a : Nat) (A : Nat → Prop) (wf : (Nat → Nat) → va_W) : Array Value → State → Outcome → State → Prop := va_Qv (fun v : Nat → Nat => v 0 = a) (fun v t => va_P D vwCl (wf v) t.heap ∧ va_D A (wf v)) A
theorem cPc_blind {D : va_G} {T : Nat → ClassId} {a sz : Nat} {e : va_E} : FrameBlind (cPc D T a e sz) := by
  intro b U g mk q
  obtain ⟨q0, q1, qP, qK, qD⟩ := q
  exact ⟨q0, q1, qP, cKn.same (s := U) (U := U.calling g mk b) rfl qK, qD⟩
theorem ci_last {ws : va_W} {x : Nat × va_E} {k : Nat} {q : Nat × va_E} (h : [x][k]? = some q) : (ws ++ [x])[ws.length + k]? = some q := by
  rw [List.getElem?_append_right (by omega), show ws.length + k - ws.length = k by omega]
  exact h
theorem ci_init {ws w2 : va_W} {k : Nat} {q : Nat × va_E} (h : ws[k]? = some q) : (ws ++ w2)[k]? = some q := by
  rw [List.getElem?_append_left (List.getElem?_eq_some_iff.mp h).1]
  exact h
theorem cP_last {D : va_G} {cl : List vw_C} {ws : va_W} {x : Nat × va_E} {H : Heap} (h : va_P D cl (ws ++ [x]) H) : va_P D cl [x] H := fun _ q hk => h _ q (ci_last hk)
theorem cP_init {D : va_G} {cl : List vw_C} {ws w2 : va_W} {H : Heap} (h : va_P D cl (ws ++ w2) H) : va_P D cl ws H := fun _ q hk => h _ q (ci_init hk)
theorem cD_last {A : Nat → Prop} {ws : va_W} {x : Nat × va_E} (h : va_D A (ws ++ [x])) : va_D A [x] := ⟨fun i j p q hi hj e => by have := h.1 _ _ p q (ci_last hi) (ci_last hj) e; omega, fun _ q hk => h.2 _ q (ci_last hk)⟩
theorem cD_init {A : Nat → Prop} {ws w2 : va_W} (h : va_D A (ws ++ w2)) : va_D A ws := ⟨fun i j p q hi hj e => h.1 _ _ p q (ci_init hi) (ci_init hj) e, fun _ q hk => h.2 _ q (ci_init hk)⟩
theorem cPc_pre {D : va_G} {T : Nat → ClassId} {a : Nat} {e : va_E} {s : State} {H : Heap} {ws : va_W} {A : Nat → Prop} (hP : va_P D vwCl (ws ++ [(a, e)]) H) (hK : cKn D T s) (hD : va_D A (ws ++ [(a, e)])) : PreS s H (cPc D T a e H.size) [.ref a] := ⟨cPc_blind, fun U hU hW => ⟨rfl, by rw [hU], by rw [hU]; exact cP_last hP, cKn.warm hW hK, (cD_last hD).weaken (fun _ _ _ _ => trivial)⟩⟩
theorem kT_same {D : va_G} {T : Nat → ClassId} {s : State} {t : Nat} {cA : ClassId} {ty : FieldType} (hK : va_K D vwCl (tys4 T ++ [(cA, ty)]) s) (hi : (tys4 T)[t]? = some (T t, ty)) : cA = T t := by
  have h1 := ra_find (hK.2 t (T t, ty) (by rw [List.getElem?_append_left (List.getElem?_eq_some_iff.mp hi).1]; exact hi)).2
  have h2 := ra_find (hK.2 4 (cA, ty) rfl).2
  rw [h1] at h2
  exact (Option.some.inj h2).symm
section CM
variable {p : Program} {l : Launch} {e : Env} {R : Room} {s : State} {m : MethodId} {args : Array Value} {below : List Frame} {meth : Method} {c : Code} {H : Heap} {locs : List Loc} {cells slots : Nat} {Q : State → Prop} {D : va_G} {T : Nat → ClassId} {A : Nat → Prop} {H0 : Heap} {ws : va_W} {cc : ByteArray} {pc : Nat} {ls : Array Slot} {rest : List Value}
theorem cw_newI {t : Nat} {ty : FieldType} {atype : ArrayType} (hexec : p.tables.exec = Jvm.exec) (hb : c.code = cc) (harr : (Cond.arrayClass (newarray.typeOf atype)).before args s = true) (hty : newarray.typeOf atype = ty) (hi : (tys4 T)[t]? = some (T t, ty)) (hK : cKn D T s) (hP : va_P D vwCl ws H) (hD : va_D A ws) (hS : va_S A H0 H locs) (hA : ∀ q, H0.size ≤ q → A q) {n : Int32} {N' : Nat} (ha : ∀ cA : ClassId, vp_cell cA (N', .inl (fun _ => 0)) = arrV cA N' (fun _ => defaultValue ty)) (hn : ¬ n < 0) (hN : n.toNatClampNeg = N') (hbytes : N' * componentBytes ty ≤ 536870912) (hcells : cells + 1 ≤ R.cells) (hslots : slots + N' ≤ R.slots) (hdg : decode cc pc = .ok (.newarray atype, 2))
    (kk : ∀ (q : Nat) (H1 : Heap), va_P D vwCl (ws ++ [(q, .inl (T t, N', .inl (fun _ => 0)))]) H1 → va_D A (ws ++ [(q, .inl (T t, N', .inl (fun _ => 0)))]) → va_S A H0 H1 locs → W p l e R s m args below meth c H1 locs (cells + 1) (slots + N') Q (F0 m (pc + 2) ls (.ref q :: rest))) : W p l e R s m args below meth c H locs cells slots Q (F0 m pc ls (.int n :: rest)) := by
  refine va_newa (atype := atype) hexec hb harr hty hK.1 hP hD hS hA ha hn hN hbytes hcells hslots hdg (fun q cA H1 hK1 hP1 hD1 hS1 => ?_)
  obtain rfl := kT_same hK1 hi
  exact kk q H1 hP1 hD1 hS1
theorem cw_newQ {own : String} {index : Nat} (hexec : p.tables.exec = Jvm.exec) (hb : c.code = cc) (hown : s.vm.findClass own = some m.cls) (hclink : (Cond.classLink own index "SundialSpans$Court").before args s = true) (hK : cKn D T s) (hP : va_P D vwCl ws H) (hD : va_D A ws) (hS : va_S A H0 H locs) (hA : ∀ q, H0.size ≤ q → A q) {n : Int32} {N' : Nat} (hn : ¬ n < 0) (hN : n.toNatClampNeg = N') (hbytes : N' * 4 ≤ 536870912) (hcells : cells + 1 ≤ R.cells) (hslots : slots + N' ≤ R.slots) (hdg : decode cc pc = .ok (.anewarray index, 3))
    (kk : ∀ (q : Nat) (H1 : Heap), va_P D vwCl (ws ++ [(q, .inl (T 3, N', .inr (.inr (.inr (.inr (fun _ => none))))))]) H1 → va_D A (ws ++ [(q, .inl (T 3, N', .inr (.inr (.inr (.inr (fun _ => none))))))]) → va_S A H0 H1 locs → W p l e R s m args below meth c H1 locs (cells + 1) (slots + N') Q (F0 m (pc + 3) ls (.ref q :: rest))) : W p l e R s m args below meth c H locs cells slots Q (F0 m pc ls (.int n :: rest)) := by
  refine va_newq hexec hb hown hclink hK.2.2.2.2.2.2 hK.1 hP hD hS hA hn hN hbytes hcells hslots hdg (fun q cA H1 hK1 hP1 hD1 hS1 => ?_)
  obtain rfl := kT_same (t := 3) hK1 rfl
  exact kk q H1 hP1 hD1 hS1
/-- behind the call of a constructor on the object that was made last -/
theorem cc_go {a : Nat} {e0 : va_E} {wf : (Nat → Nat) → va_W} {mc ms : Nat} {st0 : List Value} {ar : Array Value} (hP : va_P D vwCl (ws ++ [(a, e0)]) H) (hD : va_D A (ws ++ [(a, e0)])) (hS : va_S A H0 H locs) (hA : ∀ q, H0.size ≤ q → A q) (hr : va_Run p l e R s m args below meth c H locs cells slots mc ms (F0 m pc ls st0) rest (cQc D a (va_A [(a, e0)] H.size) wf ar) (va_A [(a, e0)] H.size))
    (kk : ∀ (v : Nat → Nat) (H1 : Heap) (locs1 : List Loc), v 0 = a → va_P D vwCl (ws ++ wf v) H1 → va_D A (ws ++ wf v) → va_S A H0 H1 locs1 → W p l e R s m args below meth c H1 locs1 (cells + mc) (slots + ms) Q (F0 m (pc + 3) ls rest)) : W p l e R s m args below meth c H locs cells slots Q (F0 m pc ls st0) := by
  have hone : ∀ (k : Nat) (q : Nat) (x : va_E), [(a, e0)][k]? = some (q, x) → q = a := by
    intro k q x hk
    match k, hk with
    | 0, hk => cases hk; rfl
    | k + 1, hk => simp at hk
  have hFc : ∀ q, va_A [(a, e0)] H.size q → A q := by
    intro q hq
    rcases hq with ⟨k, x, hk⟩ | hq
    · rw [hone k q x hk]
      exact (cD_last hD).2 0 (a, e0) rfl
    · exact hA q (Nat.le_trans hS.1 hq)
  have apart : ∀ (k : Nat) (q : Nat × va_E), ws[k]? = some q → q.1 < H.size ∧ ¬ va_A [(a, e0)] H.size q.1 := by
    intro k q hq
    have hl := (cP_init hP k q hq).lt
    refine ⟨hl, fun h => ?_⟩
    rcases h with ⟨k2, x, h⟩ | h
    · have ha := hone k2 q.1 x h
      have h3 := hD.1 k (ws.length + 0) q (a, e0) (ci_init hq) (ci_last rfl) ha
      have h4 := (List.getElem?_eq_some_iff.mp hq).1
      omega
    · omega
  refine va_callv hr hS (fun q _ h => hFc q h) hFc (fun v t H1 locs1 ht hvm hw hB hz hk1 hS1 => ?_)
  obtain ⟨hP1, hD1⟩ := hB
  rw [ht] at hP1
  refine kk v H1 locs1 hw (va_P.app (fun k q hq => ?_) hP1) (va_D.app (cD_init hD) (hD1.weaken (fun k q _ h => hFc q.1 h)) (fun i j x y hx hy hxy => ?_)) hS1
  · obtain ⟨g1, g2⟩ := apart k q hq
    exact (cP_init hP k q hq).kept (hk1 q.1 g1 g2)
  · exact (apart i x hx).2 (by rw [hxy]; exact hD1.2 j y hy)
end CM
/-- an array of references, by another function with the same values -/
theorem cP_arr {D : va_G} {cl : List vw_C} {ws : va_W} {H : Heap} {i a n : Nat} {cA : ClassId} {f g : Nat → Option Nat} (h : va_P D cl ws H) (hi : ws[i]? = some (a, .inl (cA, n, .inr (.inr (.inr (.inr f)))))) (hfg : ∀ j : Nat, j < n → f j = g j) : va_P D cl (ws.set i (a, .inl (cA, n, .inr (.inr (.inr (.inr g)))))) H := by
  intro k q hk
  by_cases hki : k = i
  · subst hki
    rw [List.getElem?_set_self (List.getElem?_eq_some_iff.mp hi).1] at hk
    cases hk
    have h1 : H[a]? = some (vp_cell cA (n, .inr (.inr (.inr (.inr f))))) := h k _ hi
    show H[a]? = some (vp_cell cA (n, .inr (.inr (.inr (.inr g)))))
    rw [h1, vp_cell_q, vp_cell_q]
    unfold arrV
    congr 2
    congr 1
    funext j
    dsimp only
    rw [hfg j.val j.isLt]
  · rw [List.getElem?_set_ne (fun e => hki e.symm)] at hk
    exact h k q hk
def crtW (T : Nat → ClassId) (v : Nat → Nat) : va_W := [(v 0, .inr (0, [.int 2, .int 3, .int 0, .int 0, .int 0, .int 0, .int 0, .int 0, .ref (v 1), .ref (v 2), .ref (v 3), .ref (v 4), .ref (v 5)])), (v 1, .inl (T 0, 15, .inl (fun _ => 0))), (v 2, .inl (T 0, 15, .inl (fun _ => 0))), (v 3, .inl (T 0, 15, .inl (fun _ => 0))), (v 4, .inl (T 0, 15, .inl (fun _ => 0))), (v 5, .inl (T 0, 15, .inl (fun _ => 0)))]
def spnW (T : Nat → ClassId) (v : Nat → Nat) : va_W := [(v 0, .inr (4, [.ref (v 1), .ref (v 2), .ref (v 3), .int 0])), (v 1, .inl (T 0, 15, .inl (fun _ => 0))), (v 2, .inl (T 0, 15, .inl (fun _ => 0))), (v 3, .inl (T 0, 15, .inl (fun _ => 0)))]
def padW (T : Nat → ClassId) (v : Nat → Nat) : va_W := [(v 0, .inr (2, [.ref (v 1), .int 0, .int 0, .int 0, .int 0, .int 0, .int 0, .int 0])), (v 1, .inl (T 2, 80, .inl (fun _ => 0)))]
def sltF (T : Nat → ClassId) (v : Nat → Nat) (f : Nat → Option Nat) : va_W := [(v 0, .inr (3, [.ref (v 1), .ref (v 2)])), (v 1, .inl (T 3, 2, .inr (.inr (.inr (.inr f))))), (v 2, .inl (T 1, 2, .inl (fun _ => 0)))] ++ crtW T (fun k => v (3 + k)) ++ crtW T (fun k => v (9 + k))
def sltW (T : Nat → ClassId) (v : Nat → Nat) : va_W := sltF T v (fun j => some (v (3 + 6 * j)))
def hisF (T : Nat → ClassId) (v : Nat → Nat) (f : Nat → Option Nat) : va_W := [(v 0, .inr (1, [.ref (v 1), .int 0, .int 0])), (v 1, .inl (T 3, 7, .inr (.inr (.inr (.inr f)))))] ++ crtW T (fun k => v (2 + k)) ++ crtW T (fun k => v (8 + k)) ++ crtW T (fun k => v (14 + k)) ++ crtW T (fun k => v (20 + k)) ++ crtW T (fun k => v (26 + k)) ++ crtW T (fun k => v (32 + k)) ++ crtW T (fun k => v (38 + k))
def hisW (T : Nat → ClassId) (v : Nat → Nat) : va_W := hisF T v (fun j => some (v (2 + 6 * j)))
def clsW (T : Nat → ClassId) (v : Nat → Nat) : va_W := [(v 0, .inr (5, [.ref (v 1), .ref (v 7), .ref (v 11), .ref (v 55), .ref (v 70)]))] ++ crtW T (fun k => v (1 + k)) ++ spnW T (fun k => v (7 + k)) ++ hisF T (fun k => v (11 + k)) (fun j => some (v (13 + 6 * j))) ++ sltF T (fun k => v (55 + k)) (fun j => some (v (58 + 6 * j))) ++ padW T (fun k => v (70 + k))
def vSlt (a q1 q2 : Nat) (u0 u1 : Nat → Nat) (k : Nat) : Nat := bif Nat.beq k 0 then a else bif Nat.beq k 1 then q1 else bif Nat.beq k 2 then q2 else bif Nat.blt k 9 then u0 (k - 3) else u1 (k - 9)
def vHis (a q1 : Nat) (u0 u1 u2 u3 u4 u5 u6 : Nat → Nat) (k : Nat) : Nat := bif Nat.beq k 0 then a else bif Nat.beq k 1 then q1 else bif Nat.blt k 8 then u0 (k - 2) else bif Nat.blt k 14 then u1 (k - 8) else bif Nat.blt k 20 then u2 (k - 14) else bif Nat.blt k 26 then u3 (k - 20) else bif Nat.blt k 32 then u4 (k - 26) else bif Nat.blt k 38 then u5 (k - 32) else u6 (k - 38)
def vCls (a : Nat) (u0 u1 u2 u3 u4 : Nat → Nat) (k : Nat) : Nat := bif Nat.beq k 0 then a else bif Nat.blt k 7 then u0 (k - 1) else bif Nat.blt k 11 then u1 (k - 7) else bif Nat.blt k 55 then u2 (k - 11) else bif Nat.blt k 70 then u3 (k - 55) else u4 (k - 70)
