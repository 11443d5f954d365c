/-! the constructors -/
set_option maxRecDepth 100000 in
set_option maxHeartbeats 4000000 in
theorem n_X1 (l : Launch) (D : va_G) (T : Nat → ClassId) (a sz : Nat) : Met l yX1_init (xs_wsM M_X1_init) (rmN 1 5 75) (cPc D T a (.inr (0, [.int 0, .int 0, .int 0, .int 0, .int 0, .int 0, .int 0, .int 0, .null, .null, .null, .null, .null])) sz) (cQc D a (va_A [(a, .inr (0, [.int 0, .int 0, .int 0, .int 0, .int 0, .int 0, .int 0, .int 0, .null, .null, .null, .null, .null]))] sz) (crtW T)) 5 75 (va_A [(a, .inr (0, [.int 0, .int 0, .int 0, .int 0, .int 0, .int 0, .int 0, .int 0, .null, .null, .null, .null, .null]))] sz) := by
  refine Met.ofW (cc := cX1_init) (maxL := 1) (ret := none) (by decide) rfl ?_
  intro p e s m args below meth c s₁ B hml hv
  obtain ⟨rfl, hsz, hP, hK, hD0⟩ := hv
  have hx := B.exec
  have hb := B.bytes
  have hr := B.returns
  have hts0 := atoms_spec (ws := xs_wsM M_X1_init) B.pre
  have hts : ∀ w ∈ xw, w.before _ s = true := fun w hw => hts0 w (List.mem_cons_of_mem _ hw)
  have hown : s.vm.findClass RX1 = some m.cls := findClass_of_methodNamed B.named
  have hlocks := B.notSynchronized
  have hin : meth.name = "<init>" := (name_of_methodNamed B.named B.method).1
  subst hsz
  have hD := hD0.self (sz := s.heap.size)
  generalize hAe : va_A [(a, .inr (0, [.int 0, .int 0, .int 0, .int 0, .int 0, .int 0, .int 0, .int 0, .null, .null, .null, .null, .null]))] s.heap.size = A at hD ⊢
  have hA : ∀ q : Nat, s.heap.size ≤ q → A q := fun q h => by rw [← hAe]; exact Or.inr h
  have hS : va_S A s.heap s.heap [] := va_S.rf
  have hl := lv_entry ([.ref a]) (n := 1) (Nat.le_of_ble_eq_true rfl)
  rw [lg_entry_eq]
  generalize (lg_sl ([.ref a]) ++ List.replicate (1 - (lg_sl ([.ref a])).length) Slot.unset).toArray = ls at hl ⊢
  have hl : lv_has ls 1 [(0, .ref a)] := hl
  clear hD0 hts0
  refine lv_aload_n hx hb (xs_dec ok_X1_init (pc := 0) rfl).1 rfl (lv_at hl 0 rfl) ?_
  refine W.objInit hx hb hown (hts _ (wt_1 (List.mem_of_getElem? (i := 23) rfl) rfl)) (hts _ (wt_1 (List.mem_of_getElem? (i := 16) rfl) rfl)) (hts _ (wt_1 (List.mem_of_getElem? (i := 17) rfl) rfl)) rfl (by rw [hml]; exact hl.1) rfl (xs_dec ok_X1_init (pc := 1) rfl).1 (Nat.le_of_ble_eq_true rfl) (Nat.le_of_ble_eq_true rfl) ?_
  refine W.eq (g2 := F0 m 4 ls []) rfl ?_
  refine lv_aload_n hx hb (xs_dec ok_X1_init (pc := 4) rfl).1 rfl (lv_at hl 0 rfl) ?_
  refine lv_iconst (v := 2) hx hb (xs_dec ok_X1_init (pc := 5) rfl).1 rfl ?_
  refine va_put (D := D) (ci := 0) (v := .int 2) (ty := .int) (C := RX1) (T := TX1) (N := 13) hx hb hts uw_X1 tyX1 tyX1_ok nmX1 hown hK.1 hP hD hS 0 rfl rfl 0 (by decide) (hts _ (wt_1 (List.mem_of_getElem? (i := 24) rfl) rfl)) (fun _ h9 => h9) rfl (by decide +kernel) rfl rfl (Nat.le_of_ble_eq_true rfl) (xs_dec ok_X1_init (pc := 6) rfl).1 (fun H locs hP hD hS => ?_)
  have hP : va_P D vwCl ([(a, .inr (0, [.int 2, .int 0, .int 0, .int 0, .int 0, .int 0, .int 0, .int 0, .null, .null, .null, .null, .null]))]) H := hP
  have hD : va_D A ([(a, .inr (0, [.int 2, .int 0, .int 0, .int 0, .int 0, .int 0, .int 0, .int 0, .null, .null, .null, .null, .null]))]) := hD
  refine lv_aload_n hx hb (xs_dec ok_X1_init (pc := 9) rfl).1 rfl (lv_at hl 0 rfl) ?_
  refine lv_iconst (v := 3) hx hb (xs_dec ok_X1_init (pc := 10) rfl).1 rfl ?_
  refine va_put (D := D) (ci := 0) (v := .int 3) (ty := .int) (C := RX1) (T := TX1) (N := 13) hx hb hts uw_X1 tyX1 tyX1_ok nmX1 hown hK.1 hP hD hS 0 rfl rfl 1 (by decide) (hts _ (wt_1 (List.mem_of_getElem? (i := 25) rfl) rfl)) (fun _ h9 => h9) rfl (by decide +kernel) rfl rfl (Nat.le_of_ble_eq_true rfl) (xs_dec ok_X1_init (pc := 11) rfl).1 (fun H locs hP hD hS => ?_)
  have hP : va_P D vwCl ([(a, .inr (0, [.int 2, .int 3, .int 0, .int 0, .int 0, .int 0, .int 0, .int 0, .null, .null, .null, .null, .null]))]) H := hP
  have hD : va_D A ([(a, .inr (0, [.int 2, .int 3, .int 0, .int 0, .int 0, .int 0, .int 0, .int 0, .null, .null, .null, .null, .null]))]) := hD
  refine lv_aload_n hx hb (xs_dec ok_X1_init (pc := 14) rfl).1 rfl (lv_at hl 0 rfl) ?_
  refine lv_bipush (v := 15) hx hb (xs_dec ok_X1_init (pc := 15) rfl).1 rfl ?_
  refine cw_newI (T := T) (t := 0) (ty := .int) (atype := .int) (N' := 15) hx hb (hts _ (wt_1 (List.mem_of_getElem? (i := 64) rfl) rfl)) rfl rfl hK hP hD hS hA (fun _ => rfl) (by decide) (by decide) (Nat.le_of_ble_eq_true rfl) (Nat.le_of_ble_eq_true rfl) (Nat.le_of_ble_eq_true rfl) (xs_dec ok_X1_init (pc := 17) rfl).1 (fun q1 H hP hD hS => ?_)
  have hP : va_P D vwCl ([(a, .inr (0, [.int 2, .int 3, .int 0, .int 0, .int 0, .int 0, .int 0, .int 0, .null, .null, .null, .null, .null]))] ++ [(q1, .inl (T 0, 15, .inl (fun _ => 0)))]) H := hP
  have hD : va_D A ([(a, .inr (0, [.int 2, .int 3, .int 0, .int 0, .int 0, .int 0, .int 0, .int 0, .null, .null, .null, .null, .null]))] ++ [(q1, .inl (T 0, 15, .inl (fun _ => 0)))]) := hD
  refine va_putF (D := D) (ci := 0) (v := .ref q1) (ty := .array .int) (C := RX1) (T := TX1) (N := 13) hx hb hts uw_X1 tyX1 tyX1_ok nmX1 hown hK.1 hP hD hS 0 rfl rfl 8 (by decide) (hts _ (wt_1 (List.mem_of_getElem? (i := 32) rfl) rfl)) (fun _ h9 => h9) rfl hin rfl (by decide +kernel) rfl rfl (Nat.le_of_ble_eq_true rfl) (xs_dec ok_X1_init (pc := 19) rfl).1 (fun H locs hP hD hS => ?_)
  have hP : va_P D vwCl ([(a, .inr (0, [.int 2, .int 3, .int 0, .int 0, .int 0, .int 0, .int 0, .int 0, .ref q1, .null, .null, .null, .null]))] ++ [(q1, .inl (T 0, 15, .inl (fun _ => 0)))]) H := hP
  have hD : va_D A ([(a, .inr (0, [.int 2, .int 3, .int 0, .int 0, .int 0, .int 0, .int 0, .int 0, .ref q1, .null, .null, .null, .null]))] ++ [(q1, .inl (T 0, 15, .inl (fun _ => 0)))]) := hD
  refine lv_aload_n hx hb (xs_dec ok_X1_init (pc := 22) rfl).1 rfl (lv_at hl 0 rfl) ?_
  refine lv_bipush (v := 15) hx hb (xs_dec ok_X1_init (pc := 23) rfl).1 rfl ?_
  refine cw_newI (T := T) (t := 0) (ty := .int) (atype := .int) (N' := 15) hx hb (hts _ (wt_1 (List.mem_of_getElem? (i := 64) rfl) rfl)) rfl rfl hK hP hD hS hA (fun _ => rfl) (by decide) (by decide) (Nat.le_of_ble_eq_true rfl) (Nat.le_of_ble_eq_true rfl) (Nat.le_of_ble_eq_true rfl) (xs_dec ok_X1_init (pc := 25) rfl).1 (fun q2 H hP hD hS => ?_)
  have hP : va_P D vwCl ([(a, .inr (0, [.int 2, .int 3, .int 0, .int 0, .int 0, .int 0, .int 0, .int 0, .ref q1, .null, .null, .null, .null]))] ++ [(q1, .inl (T 0, 15, .inl (fun _ => 0)))] ++ [(q2, .inl (T 0, 15, .inl (fun _ => 0)))]) H := hP
  have hD : va_D A ([(a, .inr (0, [.int 2, .int 3, .int 0, .int 0, .int 0, .int 0, .int 0, .int 0, .ref q1, .null, .null, .null, .null]))] ++ [(q1, .inl (T 0, 15, .inl (fun _ => 0)))] ++ [(q2, .inl (T 0, 15, .inl (fun _ => 0)))]) := hD
  refine va_putF (D := D) (ci := 0) (v := .ref q2) (ty := .array .int) (C := RX1) (T := TX1) (N := 13) hx hb hts uw_X1 tyX1 tyX1_ok nmX1 hown hK.1 hP hD hS 0 rfl rfl 9 (by decide) (hts _ (wt_1 (List.mem_of_getElem? (i := 33) rfl) rfl)) (fun _ h9 => h9) rfl hin rfl (by decide +kernel) rfl rfl (Nat.le_of_ble_eq_true rfl) (xs_dec ok_X1_init (pc := 27) rfl).1 (fun H locs hP hD hS => ?_)
  have hP : va_P D vwCl ([(a, .inr (0, [.int 2, .int 3, .int 0, .int 0, .int 0, .int 0, .int 0, .int 0, .ref q1, .ref q2, .null, .null, .null]))] ++ [(q1, .inl (T 0, 15, .inl (fun _ => 0)))] ++ [(q2, .inl (T 0, 15, .inl (fun _ => 0)))]) H := hP
  have hD : va_D A ([(a, .inr (0, [.int 2, .int 3, .int 0, .int 0, .int 0, .int 0, .int 0, .int 0, .ref q1, .ref q2, .null, .null, .null]))] ++ [(q1, .inl (T 0, 15, .inl (fun _ => 0)))] ++ [(q2, .inl (T 0, 15, .inl (fun _ => 0)))]) := hD
  refine lv_aload_n hx hb (xs_dec ok_X1_init (pc := 30) rfl).1 rfl (lv_at hl 0 rfl) ?_
  refine lv_bipush (v := 15) hx hb (xs_dec ok_X1_init (pc := 31) rfl).1 rfl ?_
  refine cw_newI (T := T) (t := 0) (ty := .int) (atype := .int) (N' := 15) hx hb (hts _ (wt_1 (List.mem_of_getElem? (i := 64) rfl) rfl)) rfl rfl hK hP hD hS hA (fun _ => rfl) (by decide) (by decide) (Nat.le_of_ble_eq_true rfl) (Nat.le_of_ble_eq_true rfl) (Nat.le_of_ble_eq_true rfl) (xs_dec ok_X1_init (pc := 33) rfl).1 (fun q3 H hP hD hS => ?_)
  have hP : va_P D vwCl ([(a, .inr (0, [.int 2, .int 3, .int 0, .int 0, .int 0, .int 0, .int 0, .int 0, .ref q1, .ref q2, .null, .null, .null]))] ++ [(q1, .inl (T 0, 15, .inl (fun _ => 0)))] ++ [(q2, .inl (T 0, 15, .inl (fun _ => 0)))] ++ [(q3, .inl (T 0, 15, .inl (fun _ => 0)))]) H := hP
  have hD : va_D A ([(a, .inr (0, [.int 2, .int 3, .int 0, .int 0, .int 0, .int 0, .int 0, .int 0, .ref q1, .ref q2, .null, .null, .null]))] ++ [(q1, .inl (T 0, 15, .inl (fun _ => 0)))] ++ [(q2, .inl (T 0, 15, .inl (fun _ => 0)))] ++ [(q3, .inl (T 0, 15, .inl (fun _ => 0)))]) := hD
  refine va_putF (D := D) (ci := 0) (v := .ref q3) (ty := .array .int) (C := RX1) (T := TX1) (N := 13) hx hb hts uw_X1 tyX1 tyX1_ok nmX1 hown hK.1 hP hD hS 0 rfl rfl 10 (by decide) (hts _ (wt_1 (List.mem_of_getElem? (i := 34) rfl) rfl)) (fun _ h9 => h9) rfl hin rfl (by decide +kernel) rfl rfl (Nat.le_of_ble_eq_true rfl) (xs_dec ok_X1_init (pc := 35) rfl).1 (fun H locs hP hD hS => ?_)
  have hP : va_P D vwCl ([(a, .inr (0, [.int 2, .int 3, .int 0, .int 0, .int 0, .int 0, .int 0, .int 0, .ref q1, .ref q2, .ref q3, .null, .null]))] ++ [(q1, .inl (T 0, 15, .inl (fun _ => 0)))] ++ [(q2, .inl (T 0, 15, .inl (fun _ => 0)))] ++ [(q3, .inl (T 0, 15, .inl (fun _ => 0)))]) H := hP
  have hD : va_D A ([(a, .inr (0, [.int 2, .int 3, .int 0, .int 0, .int 0, .int 0, .int 0, .int 0, .ref q1, .ref q2, .ref q3, .null, .null]))] ++ [(q1, .inl (T 0, 15, .inl (fun _ => 0)))] ++ [(q2, .inl (T 0, 15, .inl (fun _ => 0)))] ++ [(q3, .inl (T 0, 15, .inl (fun _ => 0)))]) := hD
  refine lv_aload_n hx hb (xs_dec ok_X1_init (pc := 38) rfl).1 rfl (lv_at hl 0 rfl) ?_
  refine lv_bipush (v := 15) hx hb (xs_dec ok_X1_init (pc := 39) rfl).1 rfl ?_
  refine cw_newI (T := T) (t := 0) (ty := .int) (atype := .int) (N' := 15) hx hb (hts _ (wt_1 (List.mem_of_getElem? (i := 64) rfl) rfl)) rfl rfl hK hP hD hS hA (fun _ => rfl) (by decide) (by decide) (Nat.le_of_ble_eq_true rfl) (Nat.le_of_ble_eq_true rfl) (Nat.le_of_ble_eq_true rfl) (xs_dec ok_X1_init (pc := 41) rfl).1 (fun q4 H hP hD hS => ?_)
  have hP : va_P D vwCl ([(a, .inr (0, [.int 2, .int 3, .int 0, .int 0, .int 0, .int 0, .int 0, .int 0, .ref q1, .ref q2, .ref q3, .null, .null]))] ++ [(q1, .inl (T 0, 15, .inl (fun _ => 0)))] ++ [(q2, .inl (T 0, 15, .inl (fun _ => 0)))] ++ [(q3, .inl (T 0, 15, .inl (fun _ => 0)))] ++ [(q4, .inl (T 0, 15, .inl (fun _ => 0)))]) H := hP
  have hD : va_D A ([(a, .inr (0, [.int 2, .int 3, .int 0, .int 0, .int 0, .int 0, .int 0, .int 0, .ref q1, .ref q2, .ref q3, .null, .null]))] ++ [(q1, .inl (T 0, 15, .inl (fun _ => 0)))] ++ [(q2, .inl (T 0, 15, .inl (fun _ => 0)))] ++ [(q3, .inl (T 0, 15, .inl (fun _ => 0)))] ++ [(q4, .inl (T 0, 15, .inl (fun _ => 0)))]) := hD
  refine va_putF (D := D) (ci := 0) (v := .ref q4) (ty := .array .int) (C := RX1) (T := TX1) (N := 13) hx hb hts uw_X1 tyX1 tyX1_ok nmX1 hown hK.1 hP hD hS 0 rfl rfl 11 (by decide) (hts _ (wt_1 (List.mem_of_getElem? (i := 35) rfl) rfl)) (fun _ h9 => h9) rfl hin rfl (by decide +kernel) rfl rfl (Nat.le_of_ble_eq_true rfl) (xs_dec ok_X1_init (pc := 43) rfl).1 (fun H locs hP hD hS => ?_)
  have hP : va_P D vwCl ([(a, .inr (0, [.int 2, .int 3, .int 0, .int 0, .int 0, .int 0, .int 0, .int 0, .ref q1, .ref q2, .ref q3, .ref q4, .null]))] ++ [(q1, .inl (T 0, 15, .inl (fun _ => 0)))] ++ [(q2, .inl (T 0, 15, .inl (fun _ => 0)))] ++ [(q3, .inl (T 0, 15, .inl (fun _ => 0)))] ++ [(q4, .inl (T 0, 15, .inl (fun _ => 0)))]) H := hP
  have hD : va_D A ([(a, .inr (0, [.int 2, .int 3, .int 0, .int 0, .int 0, .int 0, .int 0, .int 0, .ref q1, .ref q2, .ref q3, .ref q4, .null]))] ++ [(q1, .inl (T 0, 15, .inl (fun _ => 0)))] ++ [(q2, .inl (T 0, 15, .inl (fun _ => 0)))] ++ [(q3, .inl (T 0, 15, .inl (fun _ => 0)))] ++ [(q4, .inl (T 0, 15, .inl (fun _ => 0)))]) := hD
  refine lv_aload_n hx hb (xs_dec ok_X1_init (pc := 46) rfl).1 rfl (lv_at hl 0 rfl) ?_
  refine lv_bipush (v := 15) hx hb (xs_dec ok_X1_init (pc := 47) rfl).1 rfl ?_
  refine cw_newI (T := T) (t := 0) (ty := .int) (atype := .int) (N' := 15) hx hb (hts _ (wt_1 (List.mem_of_getElem? (i := 64) rfl) rfl)) rfl rfl hK hP hD hS hA (fun _ => rfl) (by decide) (by decide) (Nat.le_of_ble_eq_true rfl) (Nat.le_of_ble_eq_true rfl) (Nat.le_of_ble_eq_true rfl) (xs_dec ok_X1_init (pc := 49) rfl).1 (fun q5 H hP hD hS => ?_)
  have hP : va_P D vwCl ([(a, .inr (0, [.int 2, .int 3, .int 0, .int 0, .int 0, .int 0, .int 0, .int 0, .ref q1, .ref q2, .ref q3, .ref q4, .null]))] ++ [(q1, .inl (T 0, 15, .inl (fun _ => 0)))] ++ [(q2, .inl (T 0, 15, .inl (fun _ => 0)))] ++ [(q3, .inl (T 0, 15, .inl (fun _ => 0)))] ++ [(q4, .inl (T 0, 15, .inl (fun _ => 0)))] ++ [(q5, .inl (T 0, 15, .inl (fun _ => 0)))]) H := hP
  have hD : va_D A ([(a, .inr (0, [.int 2, .int 3, .int 0, .int 0, .int 0, .int 0, .int 0, .int 0, .ref q1, .ref q2, .ref q3, .ref q4, .null]))] ++ [(q1, .inl (T 0, 15, .inl (fun _ => 0)))] ++ [(q2, .inl (T 0, 15, .inl (fun _ => 0)))] ++ [(q3, .inl (T 0, 15, .inl (fun _ => 0)))] ++ [(q4, .inl (T 0, 15, .inl (fun _ => 0)))] ++ [(q5, .inl (T 0, 15, .inl (fun _ => 0)))]) := hD
  refine va_putF (D := D) (ci := 0) (v := .ref q5) (ty := .array .int) (C := RX1) (T := TX1) (N := 13) hx hb hts uw_X1 tyX1 tyX1_ok nmX1 hown hK.1 hP hD hS 0 rfl rfl 12 (by decide) (hts _ (wt_1 (List.mem_of_getElem? (i := 36) rfl) rfl)) (fun _ h9 => h9) rfl hin rfl (by decide +kernel) rfl rfl (Nat.le_of_ble_eq_true rfl) (xs_dec ok_X1_init (pc := 51) rfl).1 (fun H locs hP hD hS => ?_)
  have hP : va_P D vwCl ([(a, .inr (0, [.int 2, .int 3, .int 0, .int 0, .int 0, .int 0, .int 0, .int 0, .ref q1, .ref q2, .ref q3, .ref q4, .ref q5]))] ++ [(q1, .inl (T 0, 15, .inl (fun _ => 0)))] ++ [(q2, .inl (T 0, 15, .inl (fun _ => 0)))] ++ [(q3, .inl (T 0, 15, .inl (fun _ => 0)))] ++ [(q4, .inl (T 0, 15, .inl (fun _ => 0)))] ++ [(q5, .inl (T 0, 15, .inl (fun _ => 0)))]) H := hP
  have hD : va_D A ([(a, .inr (0, [.int 2, .int 3, .int 0, .int 0, .int 0, .int 0, .int 0, .int 0, .ref q1, .ref q2, .ref q3, .ref q4, .ref q5]))] ++ [(q1, .inl (T 0, 15, .inl (fun _ => 0)))] ++ [(q2, .inl (T 0, 15, .inl (fun _ => 0)))] ++ [(q3, .inl (T 0, 15, .inl (fun _ => 0)))] ++ [(q4, .inl (T 0, 15, .inl (fun _ => 0)))] ++ [(q5, .inl (T 0, 15, .inl (fun _ => 0)))]) := hD
  refine W.widen (k := 5) (n := 75) (Nat.le_of_ble_eq_true rfl) (Nat.le_of_ble_eq_true rfl) ?_
  exact W.vret hx hb hr (fun t ht hW => ⟨⟨(fun k => match k with | 0 => a | 1 => q1 | 2 => q2 | 3 => q3 | 4 => q4 | _ => q5), rfl, rfl, by rw [ht]; exact hP, hD⟩, hS.F ht⟩) hS.2.2 (xs_dec ok_X1_init (pc := 54) rfl).1
set_option maxRecDepth 100000 in
set_option maxHeartbeats 4000000 in
theorem n_X5 (l : Launch) (D : va_G) (T : Nat → ClassId) (a sz : Nat) : Met l yX5_init (xs_wsM M_X5_init) (rmN 1 3 45) (cPc D T a (.inr (4, [.null, .null, .null, .int 0])) sz) (cQc D a (va_A [(a, .inr (4, [.null, .null, .null, .int 0]))] sz) (spnW T)) 3 45 (va_A [(a, .inr (4, [.null, .null, .null, .int 0]))] sz) := by
  refine Met.ofW (cc := cX5_init) (maxL := 1) (ret := none) (by decide) rfl ?_
  intro p e s m args below meth c s₁ B hml hv
  obtain ⟨rfl, hsz, hP, hK, hD0⟩ := hv
  have hx := B.exec
  have hb := B.bytes
  have hr := B.returns
  have hts0 := atoms_spec (ws := xs_wsM M_X5_init) B.pre
  have hts : ∀ w ∈ xw, w.before _ s = true := fun w hw => hts0 w (List.mem_cons_of_mem _ hw)
  have hown : s.vm.findClass RX5 = some m.cls := findClass_of_methodNamed B.named
  have hlocks := B.notSynchronized
  have hin : meth.name = "<init>" := (name_of_methodNamed B.named B.method).1
  subst hsz
  have hD := hD0.self (sz := s.heap.size)
  generalize hAe : va_A [(a, .inr (4, [.null, .null, .null, .int 0]))] s.heap.size = A at hD ⊢
  have hA : ∀ q : Nat, s.heap.size ≤ q → A q := fun q h => by rw [← hAe]; exact Or.inr h
  have hS : va_S A s.heap s.heap [] := va_S.rf
  have hl := lv_entry ([.ref a]) (n := 1) (Nat.le_of_ble_eq_true rfl)
  rw [lg_entry_eq]
  generalize (lg_sl ([.ref a]) ++ List.replicate (1 - (lg_sl ([.ref a])).length) Slot.unset).toArray = ls at hl ⊢
  have hl : lv_has ls 1 [(0, .ref a)] := hl
  clear hD0 hts0
  refine lv_aload_n hx hb (xs_dec ok_X5_init (pc := 0) rfl).1 rfl (lv_at hl 0 rfl) ?_
  refine W.objInit hx hb hown (hts _ (wt_1 (List.mem_of_getElem? (i := 70) rfl) rfl)) (hts _ (wt_1 (List.mem_of_getElem? (i := 16) rfl) rfl)) (hts _ (wt_1 (List.mem_of_getElem? (i := 17) rfl) rfl)) rfl (by rw [hml]; exact hl.1) rfl (xs_dec ok_X5_init (pc := 1) rfl).1 (Nat.le_of_ble_eq_true rfl) (Nat.le_of_ble_eq_true rfl) ?_
  refine W.eq (g2 := F0 m 4 ls []) rfl ?_
  refine lv_aload_n hx hb (xs_dec ok_X5_init (pc := 4) rfl).1 rfl (lv_at hl 0 rfl) ?_
  refine lv_bipush (v := 15) hx hb (xs_dec ok_X5_init (pc := 5) rfl).1 rfl ?_
  refine cw_newI (T := T) (t := 0) (ty := .int) (atype := .int) (N' := 15) hx hb (hts _ (wt_1 (List.mem_of_getElem? (i := 64) rfl) rfl)) rfl rfl hK hP hD hS hA (fun _ => rfl) (by decide) (by decide) (Nat.le_of_ble_eq_true rfl) (Nat.le_of_ble_eq_true rfl) (Nat.le_of_ble_eq_true rfl) (xs_dec ok_X5_init (pc := 7) rfl).1 (fun q1 H hP hD hS => ?_)
  have hP : va_P D vwCl ([(a, .inr (4, [.null, .null, .null, .int 0]))] ++ [(q1, .inl (T 0, 15, .inl (fun _ => 0)))]) H := hP
  have hD : va_D A ([(a, .inr (4, [.null, .null, .null, .int 0]))] ++ [(q1, .inl (T 0, 15, .inl (fun _ => 0)))]) := hD
  refine va_putF (D := D) (ci := 4) (v := .ref q1) (ty := .array .int) (C := RX5) (T := TX5) (N := 4) hx hb hts uw_X5 tyX5 tyX5_ok nmX5 hown hK.1 hP hD hS 0 rfl rfl 0 (by decide) (hts _ (wt_1 (List.mem_of_getElem? (i := 71) rfl) rfl)) (fun _ h9 => h9) rfl hin rfl (by decide +kernel) rfl rfl (Nat.le_of_ble_eq_true rfl) (xs_dec ok_X5_init (pc := 9) rfl).1 (fun H locs hP hD hS => ?_)
  have hP : va_P D vwCl ([(a, .inr (4, [.ref q1, .null, .null, .int 0]))] ++ [(q1, .inl (T 0, 15, .inl (fun _ => 0)))]) H := hP
  have hD : va_D A ([(a, .inr (4, [.ref q1, .null, .null, .int 0]))] ++ [(q1, .inl (T 0, 15, .inl (fun _ => 0)))]) := hD
  refine lv_aload_n hx hb (xs_dec ok_X5_init (pc := 12) rfl).1 rfl (lv_at hl 0 rfl) ?_
  refine lv_bipush (v := 15) hx hb (xs_dec ok_X5_init (pc := 13) rfl).1 rfl ?_
  refine cw_newI (T := T) (t := 0) (ty := .int) (atype := .int) (N' := 15) hx hb (hts _ (wt_1 (List.mem_of_getElem? (i := 64) rfl) rfl)) rfl rfl hK hP hD hS hA (fun _ => rfl) (by decide) (by decide) (Nat.le_of_ble_eq_true rfl) (Nat.le_of_ble_eq_true rfl) (Nat.le_of_ble_eq_true rfl) (xs_dec ok_X5_init (pc := 15) rfl).1 (fun q2 H hP hD hS => ?_)
  have hP : va_P D vwCl ([(a, .inr (4, [.ref q1, .null, .null, .int 0]))] ++ [(q1, .inl (T 0, 15, .inl (fun _ => 0)))] ++ [(q2, .inl (T 0, 15, .inl (fun _ => 0)))]) H := hP
  have hD : va_D A ([(a, .inr (4, [.ref q1, .null, .null, .int 0]))] ++ [(q1, .inl (T 0, 15, .inl (fun _ => 0)))] ++ [(q2, .inl (T 0, 15, .inl (fun _ => 0)))]) := hD
  refine va_putF (D := D) (ci := 4) (v := .ref q2) (ty := .array .int) (C := RX5) (T := TX5) (N := 4) hx hb hts uw_X5 tyX5 tyX5_ok nmX5 hown hK.1 hP hD hS 0 rfl rfl 1 (by decide) (hts _ (wt_1 (List.mem_of_getElem? (i := 72) rfl) rfl)) (fun _ h9 => h9) rfl hin rfl (by decide +kernel) rfl rfl (Nat.le_of_ble_eq_true rfl) (xs_dec ok_X5_init (pc := 17) rfl).1 (fun H locs hP hD hS => ?_)
  have hP : va_P D vwCl ([(a, .inr (4, [.ref q1, .ref q2, .null, .int 0]))] ++ [(q1, .inl (T 0, 15, .inl (fun _ => 0)))] ++ [(q2, .inl (T 0, 15, .inl (fun _ => 0)))]) H := hP
  have hD : va_D A ([(a, .inr (4, [.ref q1, .ref q2, .null, .int 0]))] ++ [(q1, .inl (T 0, 15, .inl (fun _ => 0)))] ++ [(q2, .inl (T 0, 15, .inl (fun _ => 0)))]) := hD
  refine lv_aload_n hx hb (xs_dec ok_X5_init (pc := 20) rfl).1 rfl (lv_at hl 0 rfl) ?_
  refine lv_bipush (v := 15) hx hb (xs_dec ok_X5_init (pc := 21) rfl).1 rfl ?_
  refine cw_newI (T := T) (t := 0) (ty := .int) (atype := .int) (N' := 15) hx hb (hts _ (wt_1 (List.mem_of_getElem? (i := 64) rfl) rfl)) rfl rfl hK hP hD hS hA (fun _ => rfl) (by decide) (by decide) (Nat.le_of_ble_eq_true rfl) (Nat.le_of_ble_eq_true rfl) (Nat.le_of_ble_eq_true rfl) (xs_dec ok_X5_init (pc := 23) rfl).1 (fun q3 H hP hD hS => ?_)
  have hP : va_P D vwCl ([(a, .inr (4, [.ref q1, .ref q2, .null, .int 0]))] ++ [(q1, .inl (T 0, 15, .inl (fun _ => 0)))] ++ [(q2, .inl (T 0, 15, .inl (fun _ => 0)))] ++ [(q3, .inl (T 0, 15, .inl (fun _ => 0)))]) H := hP
  have hD : va_D A ([(a, .inr (4, [.ref q1, .ref q2, .null, .int 0]))] ++ [(q1, .inl (T 0, 15, .inl (fun _ => 0)))] ++ [(q2, .inl (T 0, 15, .inl (fun _ => 0)))] ++ [(q3, .inl (T 0, 15, .inl (fun _ => 0)))]) := hD
  refine va_putF (D := D) (ci := 4) (v := .ref q3) (ty := .array .int) (C := RX5) (T := TX5) (N := 4) hx hb hts uw_X5 tyX5 tyX5_ok nmX5 hown hK.1 hP hD hS 0 rfl rfl 2 (by decide) (hts _ (wt_1 (List.mem_of_getElem? (i := 73) rfl) rfl)) (fun _ h9 => h9) rfl hin rfl (by decide +kernel) rfl rfl (Nat.le_of_ble_eq_true rfl) (xs_dec ok_X5_init (pc := 25) rfl).1 (fun H locs hP hD hS => ?_)
  have hP : va_P D vwCl ([(a, .inr (4, [.ref q1, .ref q2, .ref q3, .int 0]))] ++ [(q1, .inl (T 0, 15, .inl (fun _ => 0)))] ++ [(q2, .inl (T 0, 15, .inl (fun _ => 0)))] ++ [(q3, .inl (T 0, 15, .inl (fun _ => 0)))]) H := hP
  have hD : va_D A ([(a, .inr (4, [.ref q1, .ref q2, .ref q3, .int 0]))] ++ [(q1, .inl (T 0, 15, .inl (fun _ => 0)))] ++ [(q2, .inl (T 0, 15, .inl (fun _ => 0)))] ++ [(q3, .inl (T 0, 15, .inl (fun _ => 0)))]) := hD
  refine W.widen (k := 3) (n := 45) (Nat.le_of_ble_eq_true rfl) (Nat.le_of_ble_eq_true rfl) ?_
  exact W.vret hx hb hr (fun t ht hW => ⟨⟨(fun k => match k with | 0 => a | 1 => q1 | 2 => q2 | _ => q3), rfl, rfl, by rw [ht]; exact hP, hD⟩, hS.F ht⟩) hS.2.2 (xs_dec ok_X5_init (pc := 28) rfl).1
set_option maxRecDepth 100000 in
set_option maxHeartbeats 4000000 in
theorem n_X3 (l : Launch) (D : va_G) (T : Nat → ClassId) (a sz : Nat) : Met l yX3_init (xs_wsM M_X3_init) (rmN 1 1 80) (cPc D T a (.inr (2, [.null, .int 0, .int 0, .int 0, .int 0, .int 0, .int 0, .int 0])) sz) (cQc D a (va_A [(a, .inr (2, [.null, .int 0, .int 0, .int 0, .int 0, .int 0, .int 0, .int 0]))] sz) (padW T)) 1 80 (va_A [(a, .inr (2, [.null, .int 0, .int 0, .int 0, .int 0, .int 0, .int 0, .int 0]))] sz) := by
  refine Met.ofW (cc := cX3_init) (maxL := 1) (ret := none) (by decide) rfl ?_
  intro p e s m args below meth c s₁ B hml hv
  obtain ⟨rfl, hsz, hP, hK, hD0⟩ := hv
  have hx := B.exec
  have hb := B.bytes
  have hr := B.returns
  have hts0 := atoms_spec (ws := xs_wsM M_X3_init) B.pre
  have hts : ∀ w ∈ xw, w.before _ s = true := fun w hw => hts0 w (List.mem_cons_of_mem _ hw)
  have hown : s.vm.findClass RX3 = some m.cls := findClass_of_methodNamed B.named
  have hlocks := B.notSynchronized
  have hin : meth.name = "<init>" := (name_of_methodNamed B.named B.method).1
  subst hsz
  have hD := hD0.self (sz := s.heap.size)
  generalize hAe : va_A [(a, .inr (2, [.null, .int 0, .int 0, .int 0, .int 0, .int 0, .int 0, .int 0]))] s.heap.size = A at hD ⊢
  have hA : ∀ q : Nat, s.heap.size ≤ q → A q := fun q h => by rw [← hAe]; exact Or.inr h
  have hS : va_S A s.heap s.heap [] := va_S.rf
  have hl := lv_entry ([.ref a]) (n := 1) (Nat.le_of_ble_eq_true rfl)
  rw [lg_entry_eq]
  generalize (lg_sl ([.ref a]) ++ List.replicate (1 - (lg_sl ([.ref a])).length) Slot.unset).toArray = ls at hl ⊢
  have hl : lv_has ls 1 [(0, .ref a)] := hl
  clear hD0 hts0
  refine lv_aload_n hx hb (xs_dec ok_X3_init (pc := 0) rfl).1 rfl (lv_at hl 0 rfl) ?_
  refine W.objInit hx hb hown (hts _ (wt_1 (List.mem_of_getElem? (i := 124) rfl) rfl)) (hts _ (wt_1 (List.mem_of_getElem? (i := 16) rfl) rfl)) (hts _ (wt_1 (List.mem_of_getElem? (i := 17) rfl) rfl)) rfl (by rw [hml]; exact hl.1) rfl (xs_dec ok_X3_init (pc := 1) rfl).1 (Nat.le_of_ble_eq_true rfl) (Nat.le_of_ble_eq_true rfl) ?_
  refine W.eq (g2 := F0 m 4 ls []) rfl ?_
  refine lv_aload_n hx hb (xs_dec ok_X3_init (pc := 4) rfl).1 rfl (lv_at hl 0 rfl) ?_
  refine lv_bipush (v := 80) hx hb (xs_dec ok_X3_init (pc := 5) rfl).1 rfl ?_
  refine cw_newI (T := T) (t := 2) (ty := .char) (atype := .char) (N' := 80) hx hb (hts _ (wt_1 (List.mem_of_getElem? (i := 144) rfl) rfl)) rfl rfl hK hP hD hS hA (fun _ => rfl) (by decide) (by decide) (Nat.le_of_ble_eq_true rfl) (Nat.le_of_ble_eq_true rfl) (Nat.le_of_ble_eq_true rfl) (xs_dec ok_X3_init (pc := 7) rfl).1 (fun q1 H hP hD hS => ?_)
  have hP : va_P D vwCl ([(a, .inr (2, [.null, .int 0, .int 0, .int 0, .int 0, .int 0, .int 0, .int 0]))] ++ [(q1, .inl (T 2, 80, .inl (fun _ => 0)))]) H := hP
  have hD : va_D A ([(a, .inr (2, [.null, .int 0, .int 0, .int 0, .int 0, .int 0, .int 0, .int 0]))] ++ [(q1, .inl (T 2, 80, .inl (fun _ => 0)))]) := hD
  refine va_putF (D := D) (ci := 2) (v := .ref q1) (ty := .array .char) (C := RX3) (T := TX3) (N := 8) hx hb hts uw_X3 tyX3 tyX3_ok nmX3 hown hK.1 hP hD hS 0 rfl rfl 0 (by decide) (hts _ (wt_1 (List.mem_of_getElem? (i := 125) rfl) rfl)) (fun _ h9 => h9) rfl hin rfl (by decide +kernel) rfl rfl (Nat.le_of_ble_eq_true rfl) (xs_dec ok_X3_init (pc := 9) rfl).1 (fun H locs hP hD hS => ?_)
  have hP : va_P D vwCl ([(a, .inr (2, [.ref q1, .int 0, .int 0, .int 0, .int 0, .int 0, .int 0, .int 0]))] ++ [(q1, .inl (T 2, 80, .inl (fun _ => 0)))]) H := hP
  have hD : va_D A ([(a, .inr (2, [.ref q1, .int 0, .int 0, .int 0, .int 0, .int 0, .int 0, .int 0]))] ++ [(q1, .inl (T 2, 80, .inl (fun _ => 0)))]) := hD
  refine W.widen (k := 1) (n := 80) (Nat.le_of_ble_eq_true rfl) (Nat.le_of_ble_eq_true rfl) ?_
  exact W.vret hx hb hr (fun t ht hW => ⟨⟨(fun k => match k with | 0 => a | _ => q1), rfl, rfl, by rw [ht]; exact hP, hD⟩, hS.F ht⟩) hS.2.2 (xs_dec ok_X3_init (pc := 12) rfl).1

