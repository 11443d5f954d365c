set_option maxRecDepth 100000 in
set_option maxHeartbeats 4000000 in
theorem n_X2 (l : Launch) (D : va_G) (T : Nat → ClassId) (a sz : Nat) : Met l yX2_init (xs_wsM M_X2_init) (rmN 2 43 623) (cPc D T a (.inr (1, [.null, .int 0, .int 0])) sz) (cQc D a (va_A [(a, .inr (1, [.null, .int 0, .int 0]))] sz) (hisW T)) 43 623 (va_A [(a, .inr (1, [.null, .int 0, .int 0]))] sz) := by
  refine Met.ofW (cc := cX2_init) (maxL := 2) (ret := none) (by decide) rfl ?_
  intro p e s m args below meth c s₁ B hml hv
  obtain ⟨rfl, hsz, hP, hK, hD0⟩ := hv
  have hx := B.exec
  have hb := B.bytes
  have hr := B.returns
  have hts0 := atoms_spec (ws := xs_wsM M_X2_init) B.pre
  have hts : ∀ w ∈ xw, w.before _ s = true := fun w hw => hts0 w (List.mem_cons_of_mem _ hw)
  have hown : s.vm.findClass RX2 = some m.cls := findClass_of_methodNamed B.named
  have hlocks := B.notSynchronized
  have hin : meth.name = "<init>" := (name_of_methodNamed B.named B.method).1
  subst hsz
  have hD := hD0.self (sz := s.heap.size)
  generalize hAe : va_A [(a, .inr (1, [.null, .int 0, .int 0]))] s.heap.size = A at hD ⊢
  have hA : ∀ q : Nat, s.heap.size ≤ q → A q := fun q h => by rw [← hAe]; exact Or.inr h
  have hS : va_S A s.heap s.heap [] := va_S.rf
  have hl := lv_entry ([.ref a]) (n := 2) (Nat.le_of_ble_eq_true rfl)
  rw [lg_entry_eq]
  generalize (lg_sl ([.ref a]) ++ List.replicate (2 - (lg_sl ([.ref a])).length) Slot.unset).toArray = ls at hl ⊢
  have hl : lv_has ls 2 [(0, .ref a)] := hl
  clear hD0 hts0
  refine lv_aload_n hx hb (xs_dec ok_X2_init (pc := 0) rfl).1 rfl (lv_at hl 0 rfl) ?_
  refine W.objInit hx hb hown (hts _ (wt_1 (List.mem_of_getElem? (i := 89) rfl) rfl)) (hts _ (wt_1 (List.mem_of_getElem? (i := 16) rfl) rfl)) (hts _ (wt_1 (List.mem_of_getElem? (i := 17) rfl) rfl)) rfl (by rw [hml]; exact hl.1) rfl (xs_dec ok_X2_init (pc := 1) rfl).1 (Nat.le_of_ble_eq_true rfl) (Nat.le_of_ble_eq_true rfl) ?_
  refine W.eq (g2 := F0 m 4 ls []) rfl ?_
  refine lv_aload_n hx hb (xs_dec ok_X2_init (pc := 4) rfl).1 rfl (lv_at hl 0 rfl) ?_
  refine lv_bipush (v := 7) hx hb (xs_dec ok_X2_init (pc := 5) rfl).1 rfl ?_
  refine cw_newQ (T := T) (N' := 7) hx hb hown (hts _ (wt_1 (List.mem_of_getElem? (i := 90) rfl) rfl)) hK hP hD hS hA (by decide) (by decide) (Nat.le_of_ble_eq_true rfl) (Nat.le_of_ble_eq_true rfl) (Nat.le_of_ble_eq_true rfl) (xs_dec ok_X2_init (pc := 7) rfl).1 (fun q1 H hP hD hS => ?_)
  have hP : va_P D vwCl ([(a, .inr (1, [.null, .int 0, .int 0]))] ++ [(q1, .inl (T 3, 7, .inr (.inr (.inr (.inr (fun _ => none))))))]) H := hP
  have hD : va_D A ([(a, .inr (1, [.null, .int 0, .int 0]))] ++ [(q1, .inl (T 3, 7, .inr (.inr (.inr (.inr (fun _ => none))))))]) := hD
  refine va_putF (D := D) (ci := 1) (v := .ref q1) (ty := .array (.object "SundialSpans$Court")) (C := RX2) (T := TX2) (N := 3) hx hb hts uw_X2 tyX2 tyX2_ok nmX2 hown hK.1 hP hD hS 0 rfl rfl 0 (by decide) (hts _ (wt_1 (List.mem_of_getElem? (i := 93) rfl) rfl)) (fun _ h9 => h9) rfl hin rfl (by decide +kernel) rfl rfl (Nat.le_of_ble_eq_true rfl) (xs_dec ok_X2_init (pc := 10) rfl).1 (fun H locs hP hD hS => ?_)
  have hP : va_P D vwCl ([(a, .inr (1, [.ref q1, .int 0, .int 0]))] ++ [(q1, .inl (T 3, 7, .inr (.inr (.inr (.inr (fun _ => none))))))]) H := hP
  have hD : va_D A ([(a, .inr (1, [.ref q1, .int 0, .int 0]))] ++ [(q1, .inl (T 3, 7, .inr (.inr (.inr (.inr (fun _ => none))))))]) := hD
  refine lv_iconst (v := 0) hx hb (xs_dec ok_X2_init (pc := 13) rfl).1 rfl ?_
  refine lv_istore_n (lv' := [(1, .int 0), (0, .ref a)]) hx hb (xs_dec ok_X2_init (pc := 14) rfl).1 rfl hl (by decide) rfl (fun ls hl => ?_)
  have hl : lv_has ls 2 [(0, .ref a), (1, .int 0)] := lv_sub hl [1, 0] rfl
  refine lv_iload_n hx hb (xs_dec ok_X2_init (pc := 15) rfl).1 rfl (lv_at hl 1 rfl) ?_
  refine lv_bipush (v := 7) hx hb (xs_dec ok_X2_init (pc := 16) rfl).1 rfl ?_
  refine lv_icmp_ge (tgt := 40) hx hb (xs_dec ok_X2_init (pc := 18) rfl).1 (by decide) (fun h => absurd h (by decide)) (fun _ => ?_)
  refine lv_aload_n hx hb (xs_dec ok_X2_init (pc := 21) rfl).1 rfl (lv_at hl 0 rfl) ?_
  refine va_get hx hb hts uw_X2 hown hK.1 hP 0 rfl rfl 0 (by decide) (hts _ (wt_1 (List.mem_of_getElem? (i := 93) rfl) rfl)) (fun _ h => h) rfl (xs_dec ok_X2_init (pc := 22) rfl).1 ?_
  refine lv_iload_n hx hb (xs_dec ok_X2_init (pc := 25) rfl).1 rfl (lv_at hl 1 rfl) ?_
  refine va_new (ci := 0) (fs := [.int 0, .int 0, .int 0, .int 0, .int 0, .int 0, .int 0, .int 0, .null, .null, .null, .null, .null]) (C := RX1) (T := TX1) (N := 13) hx hb hts uw_X1 tyX1 tyX1_ok hown (hts _ (wt_1 (List.mem_of_getElem? (i := 90) rfl) rfl)) (hts _ (wt_1 (List.mem_of_getElem? (i := 19) rfl) rfl)) (hts _ ok_X1_init.2.2.2) hK.1 hP hD hS hA rfl (fun j hj => by rcases (show j = 0 ∨ j = 1 ∨ j = 2 ∨ j = 3 ∨ j = 4 ∨ j = 5 ∨ j = 6 ∨ j = 7 ∨ j = 8 ∨ j = 9 ∨ j = 10 ∨ j = 11 ∨ j = 12 by omega) with rfl | rfl | rfl | rfl | rfl | rfl | rfl | rfl | rfl | rfl | rfl | rfl | rfl <;> rfl) (Nat.le_of_ble_eq_true rfl) (Nat.le_of_ble_eq_true rfl) (xs_dec ok_X2_init (pc := 26) rfl).1 (fun o2 H hP hD hS => ?_)
  refine lv_dup hx hb (xs_dec ok_X2_init (pc := 29) rfl).1 rfl ?_
  refine cc_go hP hD hS hA (va_runIN (n := 0) (As := []) (rest := [.ref o2, .int 0, .ref q1]) (Ts := xw) ⟨hx, hb, hml, hown, hts⟩ (n_X1 l D T o2 H.size) (⟨va_cnB (ws' := xw) 0 hts (gw_goodIn ok_X1_init (fun _ h => h)) rfl rfl rfl hK.2.2.2.2.1 (hts _ ok_X1_init.2.2.2) (by decide +kernel) ⟨(Nat.le_of_ble_eq_true rfl), (Nat.le_of_ble_eq_true rfl)⟩, rfl, hts _ (wt_1 (List.mem_of_getElem? (i := 21) rfl) rfl)⟩) (cPc_pre hP hK hD) rfl rfl hl.1 rfl (lv_room (Nat.le_of_ble_eq_true rfl)) (xs_dec ok_X2_init (pc := 30) rfl).1 ⟨(Nat.le_of_ble_eq_true rfl), (Nat.le_of_ble_eq_true rfl)⟩) (fun v2 Hm2 locs hw hPm2 hDm2 hSm2 => ?_)
  subst hw
  have hP : va_P D vwCl ([(a, .inr (1, [.ref q1, .int 0, .int 0]))] ++ [(q1, .inl (T 3, 7, .inr (.inr (.inr (.inr (fun _ => none))))))] ++ crtW T v2) Hm2 := hPm2
  have hD : va_D A ([(a, .inr (1, [.ref q1, .int 0, .int 0]))] ++ [(q1, .inl (T 3, 7, .inr (.inr (.inr (.inr (fun _ => none))))))] ++ crtW T v2) := hDm2
  have hS := hSm2
  refine va_astq (n := 7) hx hb hK.1 hP hD hS 1 3 2 0 rfl rfl rfl rfl (vp_in_iff.mpr ⟨by decide, by decide⟩) (xs_dec ok_X2_init (pc := 33) rfl).1 (fun H locs hP hD hS => ?_)
  have hP : va_P D vwCl ([(a, .inr (1, [.ref q1, .int 0, .int 0]))] ++ [(q1, .inl (T 3, 7, .inr (.inr (.inr (.inr (va_up (fun _ => none) 0 (some (v2 0))))))))] ++ crtW T v2) H := hP
  have hD : va_D A ([(a, .inr (1, [.ref q1, .int 0, .int 0]))] ++ [(q1, .inl (T 3, 7, .inr (.inr (.inr (.inr (va_up (fun _ => none) 0 (some (v2 0))))))))] ++ crtW T v2) := hD
  refine lv_iinc (v := 1) (lv' := [(1, .int 1), (0, .ref a)]) hx hb (xs_dec ok_X2_init (pc := 34) rfl).1 hl (k := 1) rfl (by decide) (by decide) rfl (fun ls hl => ?_)
  have hl : lv_has ls 2 [(0, .ref a), (1, .int 1)] := lv_sub hl [1, 0] rfl
  refine lv_goto (tgt := 15) hx hb (xs_dec ok_X2_init (pc := 37) rfl).1 (by decide) ?_
  refine lv_iload_n hx hb (xs_dec ok_X2_init (pc := 15) rfl).1 rfl (lv_at hl 1 rfl) ?_
  refine lv_bipush (v := 7) hx hb (xs_dec ok_X2_init (pc := 16) rfl).1 rfl ?_
  refine lv_icmp_ge (tgt := 40) hx hb (xs_dec ok_X2_init (pc := 18) rfl).1 (by decide) (fun h => absurd h (by decide)) (fun _ => ?_)
  refine lv_aload_n hx hb (xs_dec ok_X2_init (pc := 21) rfl).1 rfl (lv_at hl 0 rfl) ?_
  refine va_get hx hb hts uw_X2 hown hK.1 hP 0 rfl rfl 0 (by decide) (hts _ (wt_1 (List.mem_of_getElem? (i := 93) rfl) rfl)) (fun _ h => h) rfl (xs_dec ok_X2_init (pc := 22) rfl).1 ?_
  refine lv_iload_n hx hb (xs_dec ok_X2_init (pc := 25) rfl).1 rfl (lv_at hl 1 rfl) ?_
  refine va_new (ci := 0) (fs := [.int 0, .int 0, .int 0, .int 0, .int 0, .int 0, .int 0, .int 0, .null, .null, .null, .null, .null]) (C := RX1) (T := TX1) (N := 13) hx hb hts uw_X1 tyX1 tyX1_ok hown (hts _ (wt_1 (List.mem_of_getElem? (i := 90) rfl) rfl)) (hts _ (wt_1 (List.mem_of_getElem? (i := 19) rfl) rfl)) (hts _ ok_X1_init.2.2.2) hK.1 hP hD hS hA rfl (fun j hj => by rcases (show j = 0 ∨ j = 1 ∨ j = 2 ∨ j = 3 ∨ j = 4 ∨ j = 5 ∨ j = 6 ∨ j = 7 ∨ j = 8 ∨ j = 9 ∨ j = 10 ∨ j = 11 ∨ j = 12 by omega) with rfl | rfl | rfl | rfl | rfl | rfl | rfl | rfl | rfl | rfl | rfl | rfl | rfl <;> rfl) (Nat.le_of_ble_eq_true rfl) (Nat.le_of_ble_eq_true rfl) (xs_dec ok_X2_init (pc := 26) rfl).1 (fun o3 H hP hD hS => ?_)
  refine lv_dup hx hb (xs_dec ok_X2_init (pc := 29) rfl).1 rfl ?_
  refine cc_go hP hD hS hA (va_runIN (n := 0) (As := []) (rest := [.ref o3, .int 1, .ref q1]) (Ts := xw) ⟨hx, hb, hml, hown, hts⟩ (n_X1 l D T o3 H.size) (⟨va_cnB (ws' := xw) 0 hts (gw_goodIn ok_X1_init (fun _ h => h)) rfl rfl rfl hK.2.2.2.2.1 (hts _ ok_X1_init.2.2.2) (by decide +kernel) ⟨(Nat.le_of_ble_eq_true rfl), (Nat.le_of_ble_eq_true rfl)⟩, rfl, hts _ (wt_1 (List.mem_of_getElem? (i := 21) rfl) rfl)⟩) (cPc_pre hP hK hD) rfl rfl hl.1 rfl (lv_room (Nat.le_of_ble_eq_true rfl)) (xs_dec ok_X2_init (pc := 30) rfl).1 ⟨(Nat.le_of_ble_eq_true rfl), (Nat.le_of_ble_eq_true rfl)⟩) (fun v3 Hm3 locs hw hPm3 hDm3 hSm3 => ?_)
  subst hw
  have hP : va_P D vwCl ([(a, .inr (1, [.ref q1, .int 0, .int 0]))] ++ [(q1, .inl (T 3, 7, .inr (.inr (.inr (.inr (va_up (fun _ => none) 0 (some (v2 0))))))))] ++ crtW T v2 ++ crtW T v3) Hm3 := hPm3
  have hD : va_D A ([(a, .inr (1, [.ref q1, .int 0, .int 0]))] ++ [(q1, .inl (T 3, 7, .inr (.inr (.inr (.inr (va_up (fun _ => none) 0 (some (v2 0))))))))] ++ crtW T v2 ++ crtW T v3) := hDm3
  have hS := hSm3
  refine va_astq (n := 7) hx hb hK.1 hP hD hS 1 3 8 0 rfl rfl rfl rfl (vp_in_iff.mpr ⟨by decide, by decide⟩) (xs_dec ok_X2_init (pc := 33) rfl).1 (fun H locs hP hD hS => ?_)
  have hP : va_P D vwCl ([(a, .inr (1, [.ref q1, .int 0, .int 0]))] ++ [(q1, .inl (T 3, 7, .inr (.inr (.inr (.inr (va_up (va_up (fun _ => none) 0 (some (v2 0))) 1 (some (v3 0))))))))] ++ crtW T v2 ++ crtW T v3) H := hP
  have hD : va_D A ([(a, .inr (1, [.ref q1, .int 0, .int 0]))] ++ [(q1, .inl (T 3, 7, .inr (.inr (.inr (.inr (va_up (va_up (fun _ => none) 0 (some (v2 0))) 1 (some (v3 0))))))))] ++ crtW T v2 ++ crtW T v3) := hD
  refine lv_iinc (v := 2) (lv' := [(1, .int 2), (0, .ref a)]) hx hb (xs_dec ok_X2_init (pc := 34) rfl).1 hl (k := 1) rfl (by decide) (by decide) rfl (fun ls hl => ?_)
  have hl : lv_has ls 2 [(0, .ref a), (1, .int 2)] := lv_sub hl [1, 0] rfl
  refine lv_goto (tgt := 15) hx hb (xs_dec ok_X2_init (pc := 37) rfl).1 (by decide) ?_
  refine lv_iload_n hx hb (xs_dec ok_X2_init (pc := 15) rfl).1 rfl (lv_at hl 1 rfl) ?_
  refine lv_bipush (v := 7) hx hb (xs_dec ok_X2_init (pc := 16) rfl).1 rfl ?_
  refine lv_icmp_ge (tgt := 40) hx hb (xs_dec ok_X2_init (pc := 18) rfl).1 (by decide) (fun h => absurd h (by decide)) (fun _ => ?_)
  refine lv_aload_n hx hb (xs_dec ok_X2_init (pc := 21) rfl).1 rfl (lv_at hl 0 rfl) ?_
  refine va_get hx hb hts uw_X2 hown hK.1 hP 0 rfl rfl 0 (by decide) (hts _ (wt_1 (List.mem_of_getElem? (i := 93) rfl) rfl)) (fun _ h => h) rfl (xs_dec ok_X2_init (pc := 22) rfl).1 ?_
  refine lv_iload_n hx hb (xs_dec ok_X2_init (pc := 25) rfl).1 rfl (lv_at hl 1 rfl) ?_
  refine va_new (ci := 0) (fs := [.int 0, .int 0, .int 0, .int 0, .int 0, .int 0, .int 0, .int 0, .null, .null, .null, .null, .null]) (C := RX1) (T := TX1) (N := 13) hx hb hts uw_X1 tyX1 tyX1_ok hown (hts _ (wt_1 (List.mem_of_getElem? (i := 90) rfl) rfl)) (hts _ (wt_1 (List.mem_of_getElem? (i := 19) rfl) rfl)) (hts _ ok_X1_init.2.2.2) hK.1 hP hD hS hA rfl (fun j hj => by rcases (show j = 0 ∨ j = 1 ∨ j = 2 ∨ j = 3 ∨ j = 4 ∨ j = 5 ∨ j = 6 ∨ j = 7 ∨ j = 8 ∨ j = 9 ∨ j = 10 ∨ j = 11 ∨ j = 12 by omega) with rfl | rfl | rfl | rfl | rfl | rfl | rfl | rfl | rfl | rfl | rfl | rfl | rfl <;> rfl) (Nat.le_of_ble_eq_true rfl) (Nat.le_of_ble_eq_true rfl) (xs_dec ok_X2_init (pc := 26) rfl).1 (fun o4 H hP hD hS => ?_)
  refine lv_dup hx hb (xs_dec ok_X2_init (pc := 29) rfl).1 rfl ?_
  refine cc_go hP hD hS hA (va_runIN (n := 0) (As := []) (rest := [.ref o4, .int 2, .ref q1]) (Ts := xw) ⟨hx, hb, hml, hown, hts⟩ (n_X1 l D T o4 H.size) (⟨va_cnB (ws' := xw) 0 hts (gw_goodIn ok_X1_init (fun _ h => h)) rfl rfl rfl hK.2.2.2.2.1 (hts _ ok_X1_init.2.2.2) (by decide +kernel) ⟨(Nat.le_of_ble_eq_true rfl), (Nat.le_of_ble_eq_true rfl)⟩, rfl, hts _ (wt_1 (List.mem_of_getElem? (i := 21) rfl) rfl)⟩) (cPc_pre hP hK hD) rfl rfl hl.1 rfl (lv_room (Nat.le_of_ble_eq_true rfl)) (xs_dec ok_X2_init (pc := 30) rfl).1 ⟨(Nat.le_of_ble_eq_true rfl), (Nat.le_of_ble_eq_true rfl)⟩) (fun v4 Hm4 locs hw hPm4 hDm4 hSm4 => ?_)
  subst hw
  have hP : va_P D vwCl ([(a, .inr (1, [.ref q1, .int 0, .int 0]))] ++ [(q1, .inl (T 3, 7, .inr (.inr (.inr (.inr (va_up (va_up (fun _ => none) 0 (some (v2 0))) 1 (some (v3 0))))))))] ++ crtW T v2 ++ crtW T v3 ++ crtW T v4) Hm4 := hPm4
  have hD : va_D A ([(a, .inr (1, [.ref q1, .int 0, .int 0]))] ++ [(q1, .inl (T 3, 7, .inr (.inr (.inr (.inr (va_up (va_up (fun _ => none) 0 (some (v2 0))) 1 (some (v3 0))))))))] ++ crtW T v2 ++ crtW T v3 ++ crtW T v4) := hDm4
  have hS := hSm4
  refine va_astq (n := 7) hx hb hK.1 hP hD hS 1 3 14 0 rfl rfl rfl rfl (vp_in_iff.mpr ⟨by decide, by decide⟩) (xs_dec ok_X2_init (pc := 33) rfl).1 (fun H locs hP hD hS => ?_)
  have hP : va_P D vwCl ([(a, .inr (1, [.ref q1, .int 0, .int 0]))] ++ [(q1, .inl (T 3, 7, .inr (.inr (.inr (.inr (va_up (va_up (va_up (fun _ => none) 0 (some (v2 0))) 1 (some (v3 0))) 2 (some (v4 0))))))))] ++ crtW T v2 ++ crtW T v3 ++ crtW T v4) H := hP
  have hD : va_D A ([(a, .inr (1, [.ref q1, .int 0, .int 0]))] ++ [(q1, .inl (T 3, 7, .inr (.inr (.inr (.inr (va_up (va_up (va_up (fun _ => none) 0 (some (v2 0))) 1 (some (v3 0))) 2 (some (v4 0))))))))] ++ crtW T v2 ++ crtW T v3 ++ crtW T v4) := hD
  refine lv_iinc (v := 3) (lv' := [(1, .int 3), (0, .ref a)]) hx hb (xs_dec ok_X2_init (pc := 34) rfl).1 hl (k := 1) rfl (by decide) (by decide) rfl (fun ls hl => ?_)
  have hl : lv_has ls 2 [(0, .ref a), (1, .int 3)] := lv_sub hl [1, 0] rfl
  refine lv_goto (tgt := 15) hx hb (xs_dec ok_X2_init (pc := 37) rfl).1 (by decide) ?_
  refine lv_iload_n hx hb (xs_dec ok_X2_init (pc := 15) rfl).1 rfl (lv_at hl 1 rfl) ?_
  refine lv_bipush (v := 7) hx hb (xs_dec ok_X2_init (pc := 16) rfl).1 rfl ?_
  refine lv_icmp_ge (tgt := 40) hx hb (xs_dec ok_X2_init (pc := 18) rfl).1 (by decide) (fun h => absurd h (by decide)) (fun _ => ?_)
  refine lv_aload_n hx hb (xs_dec ok_X2_init (pc := 21) rfl).1 rfl (lv_at hl 0 rfl) ?_
  refine va_get hx hb hts uw_X2 hown hK.1 hP 0 rfl rfl 0 (by decide) (hts _ (wt_1 (List.mem_of_getElem? (i := 93) rfl) rfl)) (fun _ h => h) rfl (xs_dec ok_X2_init (pc := 22) rfl).1 ?_
  refine lv_iload_n hx hb (xs_dec ok_X2_init (pc := 25) rfl).1 rfl (lv_at hl 1 rfl) ?_
  refine va_new (ci := 0) (fs := [.int 0, .int 0, .int 0, .int 0, .int 0, .int 0, .int 0, .int 0, .null, .null, .null, .null, .null]) (C := RX1) (T := TX1) (N := 13) hx hb hts uw_X1 tyX1 tyX1_ok hown (hts _ (wt_1 (List.mem_of_getElem? (i := 90) rfl) rfl)) (hts _ (wt_1 (List.mem_of_getElem? (i := 19) rfl) rfl)) (hts _ ok_X1_init.2.2.2) hK.1 hP hD hS hA rfl (fun j hj => by rcases (show j = 0 ∨ j = 1 ∨ j = 2 ∨ j = 3 ∨ j = 4 ∨ j = 5 ∨ j = 6 ∨ j = 7 ∨ j = 8 ∨ j = 9 ∨ j = 10 ∨ j = 11 ∨ j = 12 by omega) with rfl | rfl | rfl | rfl | rfl | rfl | rfl | rfl | rfl | rfl | rfl | rfl | rfl <;> rfl) (Nat.le_of_ble_eq_true rfl) (Nat.le_of_ble_eq_true rfl) (xs_dec ok_X2_init (pc := 26) rfl).1 (fun o5 H hP hD hS => ?_)
  refine lv_dup hx hb (xs_dec ok_X2_init (pc := 29) rfl).1 rfl ?_
  refine cc_go hP hD hS hA (va_runIN (n := 0) (As := []) (rest := [.ref o5, .int 3, .ref q1]) (Ts := xw) ⟨hx, hb, hml, hown, hts⟩ (n_X1 l D T o5 H.size) (⟨va_cnB (ws' := xw) 0 hts (gw_goodIn ok_X1_init (fun _ h => h)) rfl rfl rfl hK.2.2.2.2.1 (hts _ ok_X1_init.2.2.2) (by decide +kernel) ⟨(Nat.le_of_ble_eq_true rfl), (Nat.le_of_ble_eq_true rfl)⟩, rfl, hts _ (wt_1 (List.mem_of_getElem? (i := 21) rfl) rfl)⟩) (cPc_pre hP hK hD) rfl rfl hl.1 rfl (lv_room (Nat.le_of_ble_eq_true rfl)) (xs_dec ok_X2_init (pc := 30) rfl).1 ⟨(Nat.le_of_ble_eq_true rfl), (Nat.le_of_ble_eq_true rfl)⟩) (fun v5 Hm5 locs hw hPm5 hDm5 hSm5 => ?_)
  subst hw
  have hP : va_P D vwCl ([(a, .inr (1, [.ref q1, .int 0, .int 0]))] ++ [(q1, .inl (T 3, 7, .inr (.inr (.inr (.inr (va_up (va_up (va_up (fun _ => none) 0 (some (v2 0))) 1 (some (v3 0))) 2 (some (v4 0))))))))] ++ crtW T v2 ++ crtW T v3 ++ crtW T v4 ++ crtW T v5) Hm5 := hPm5
  have hD : va_D A ([(a, .inr (1, [.ref q1, .int 0, .int 0]))] ++ [(q1, .inl (T 3, 7, .inr (.inr (.inr (.inr (va_up (va_up (va_up (fun _ => none) 0 (some (v2 0))) 1 (some (v3 0))) 2 (some (v4 0))))))))] ++ crtW T v2 ++ crtW T v3 ++ crtW T v4 ++ crtW T v5) := hDm5
  have hS := hSm5
  refine va_astq (n := 7) hx hb hK.1 hP hD hS 1 3 20 0 rfl rfl rfl rfl (vp_in_iff.mpr ⟨by decide, by decide⟩) (xs_dec ok_X2_init (pc := 33) rfl).1 (fun H locs hP hD hS => ?_)
  have hP : va_P D vwCl ([(a, .inr (1, [.ref q1, .int 0, .int 0]))] ++ [(q1, .inl (T 3, 7, .inr (.inr (.inr (.inr (va_up (va_up (va_up (va_up (fun _ => none) 0 (some (v2 0))) 1 (some (v3 0))) 2 (some (v4 0))) 3 (some (v5 0))))))))] ++ crtW T v2 ++ crtW T v3 ++ crtW T v4 ++ crtW T v5) H := hP
  have hD : va_D A ([(a, .inr (1, [.ref q1, .int 0, .int 0]))] ++ [(q1, .inl (T 3, 7, .inr (.inr (.inr (.inr (va_up (va_up (va_up (va_up (fun _ => none) 0 (some (v2 0))) 1 (some (v3 0))) 2 (some (v4 0))) 3 (some (v5 0))))))))] ++ crtW T v2 ++ crtW T v3 ++ crtW T v4 ++ crtW T v5) := hD
  refine lv_iinc (v := 4) (lv' := [(1, .int 4), (0, .ref a)]) hx hb (xs_dec ok_X2_init (pc := 34) rfl).1 hl (k := 1) rfl (by decide) (by decide) rfl (fun ls hl => ?_)
  have hl : lv_has ls 2 [(0, .ref a), (1, .int 4)] := lv_sub hl [1, 0] rfl
  refine lv_goto (tgt := 15) hx hb (xs_dec ok_X2_init (pc := 37) rfl).1 (by decide) ?_
  refine lv_iload_n hx hb (xs_dec ok_X2_init (pc := 15) rfl).1 rfl (lv_at hl 1 rfl) ?_
  refine lv_bipush (v := 7) hx hb (xs_dec ok_X2_init (pc := 16) rfl).1 rfl ?_
  refine lv_icmp_ge (tgt := 40) hx hb (xs_dec ok_X2_init (pc := 18) rfl).1 (by decide) (fun h => absurd h (by decide)) (fun _ => ?_)
  refine lv_aload_n hx hb (xs_dec ok_X2_init (pc := 21) rfl).1 rfl (lv_at hl 0 rfl) ?_
  refine va_get hx hb hts uw_X2 hown hK.1 hP 0 rfl rfl 0 (by decide) (hts _ (wt_1 (List.mem_of_getElem? (i := 93) rfl) rfl)) (fun _ h => h) rfl (xs_dec ok_X2_init (pc := 22) rfl).1 ?_
  refine lv_iload_n hx hb (xs_dec ok_X2_init (pc := 25) rfl).1 rfl (lv_at hl 1 rfl) ?_
  refine va_new (ci := 0) (fs := [.int 0, .int 0, .int 0, .int 0, .int 0, .int 0, .int 0, .int 0, .null, .null, .null, .null, .null]) (C := RX1) (T := TX1) (N := 13) hx hb hts uw_X1 tyX1 tyX1_ok hown (hts _ (wt_1 (List.mem_of_getElem? (i := 90) rfl) rfl)) (hts _ (wt_1 (List.mem_of_getElem? (i := 19) rfl) rfl)) (hts _ ok_X1_init.2.2.2) hK.1 hP hD hS hA rfl (fun j hj => by rcases (show j = 0 ∨ j = 1 ∨ j = 2 ∨ j = 3 ∨ j = 4 ∨ j = 5 ∨ j = 6 ∨ j = 7 ∨ j = 8 ∨ j = 9 ∨ j = 10 ∨ j = 11 ∨ j = 12 by omega) with rfl | rfl | rfl | rfl | rfl | rfl | rfl | rfl | rfl | rfl | rfl | rfl | rfl <;> rfl) (Nat.le_of_ble_eq_true rfl) (Nat.le_of_ble_eq_true rfl) (xs_dec ok_X2_init (pc := 26) rfl).1 (fun o6 H hP hD hS => ?_)
  refine lv_dup hx hb (xs_dec ok_X2_init (pc := 29) rfl).1 rfl ?_
  refine cc_go hP hD hS hA (va_runIN (n := 0) (As := []) (rest := [.ref o6, .int 4, .ref q1]) (Ts := xw) ⟨hx, hb, hml, hown, hts⟩ (n_X1 l D T o6 H.size) (⟨va_cnB (ws' := xw) 0 hts (gw_goodIn ok_X1_init (fun _ h => h)) rfl rfl rfl hK.2.2.2.2.1 (hts _ ok_X1_init.2.2.2) (by decide +kernel) ⟨(Nat.le_of_ble_eq_true rfl), (Nat.le_of_ble_eq_true rfl)⟩, rfl, hts _ (wt_1 (List.mem_of_getElem? (i := 21) rfl) rfl)⟩) (cPc_pre hP hK hD) rfl rfl hl.1 rfl (lv_room (Nat.le_of_ble_eq_true rfl)) (xs_dec ok_X2_init (pc := 30) rfl).1 ⟨(Nat.le_of_ble_eq_true rfl), (Nat.le_of_ble_eq_true rfl)⟩) (fun v6 Hm6 locs hw hPm6 hDm6 hSm6 => ?_)
  subst hw
  have hP : va_P D vwCl ([(a, .inr (1, [.ref q1, .int 0, .int 0]))] ++ [(q1, .inl (T 3, 7, .inr (.inr (.inr (.inr (va_up (va_up (va_up (va_up (fun _ => none) 0 (some (v2 0))) 1 (some (v3 0))) 2 (some (v4 0))) 3 (some (v5 0))))))))] ++ crtW T v2 ++ crtW T v3 ++ crtW T v4 ++ crtW T v5 ++ crtW T v6) Hm6 := hPm6
  have hD : va_D A ([(a, .inr (1, [.ref q1, .int 0, .int 0]))] ++ [(q1, .inl (T 3, 7, .inr (.inr (.inr (.inr (va_up (va_up (va_up (va_up (fun _ => none) 0 (some (v2 0))) 1 (some (v3 0))) 2 (some (v4 0))) 3 (some (v5 0))))))))] ++ crtW T v2 ++ crtW T v3 ++ crtW T v4 ++ crtW T v5 ++ crtW T v6) := hDm6
  have hS := hSm6
  refine va_astq (n := 7) hx hb hK.1 hP hD hS 1 3 26 0 rfl rfl rfl rfl (vp_in_iff.mpr ⟨by decide, by decide⟩) (xs_dec ok_X2_init (pc := 33) rfl).1 (fun H locs hP hD hS => ?_)
  have hP : va_P D vwCl ([(a, .inr (1, [.ref q1, .int 0, .int 0]))] ++ [(q1, .inl (T 3, 7, .inr (.inr (.inr (.inr (va_up (va_up (va_up (va_up (va_up (fun _ => none) 0 (some (v2 0))) 1 (some (v3 0))) 2 (some (v4 0))) 3 (some (v5 0))) 4 (some (v6 0))))))))] ++ crtW T v2 ++ crtW T v3 ++ crtW T v4 ++ crtW T v5 ++ crtW T v6) H := hP
  have hD : va_D A ([(a, .inr (1, [.ref q1, .int 0, .int 0]))] ++ [(q1, .inl (T 3, 7, .inr (.inr (.inr (.inr (va_up (va_up (va_up (va_up (va_up (fun _ => none) 0 (some (v2 0))) 1 (some (v3 0))) 2 (some (v4 0))) 3 (some (v5 0))) 4 (some (v6 0))))))))] ++ crtW T v2 ++ crtW T v3 ++ crtW T v4 ++ crtW T v5 ++ crtW T v6) := hD
  refine lv_iinc (v := 5) (lv' := [(1, .int 5), (0, .ref a)]) hx hb (xs_dec ok_X2_init (pc := 34) rfl).1 hl (k := 1) rfl (by decide) (by decide) rfl (fun ls hl => ?_)
  have hl : lv_has ls 2 [(0, .ref a), (1, .int 5)] := lv_sub hl [1, 0] rfl
  refine lv_goto (tgt := 15) hx hb (xs_dec ok_X2_init (pc := 37) rfl).1 (by decide) ?_
  refine lv_iload_n hx hb (xs_dec ok_X2_init (pc := 15) rfl).1 rfl (lv_at hl 1 rfl) ?_
  refine lv_bipush (v := 7) hx hb (xs_dec ok_X2_init (pc := 16) rfl).1 rfl ?_
  refine lv_icmp_ge (tgt := 40) hx hb (xs_dec ok_X2_init (pc := 18) rfl).1 (by decide) (fun h => absurd h (by decide)) (fun _ => ?_)
  refine lv_aload_n hx hb (xs_dec ok_X2_init (pc := 21) rfl).1 rfl (lv_at hl 0 rfl) ?_
  refine va_get hx hb hts uw_X2 hown hK.1 hP 0 rfl rfl 0 (by decide) (hts _ (wt_1 (List.mem_of_getElem? (i := 93) rfl) rfl)) (fun _ h => h) rfl (xs_dec ok_X2_init (pc := 22) rfl).1 ?_
  refine lv_iload_n hx hb (xs_dec ok_X2_init (pc := 25) rfl).1 rfl (lv_at hl 1 rfl) ?_
  refine va_new (ci := 0) (fs := [.int 0, .int 0, .int 0, .int 0, .int 0, .int 0, .int 0, .int 0, .null, .null, .null, .null, .null]) (C := RX1) (T := TX1) (N := 13) hx hb hts uw_X1 tyX1 tyX1_ok hown (hts _ (wt_1 (List.mem_of_getElem? (i := 90) rfl) rfl)) (hts _ (wt_1 (List.mem_of_getElem? (i := 19) rfl) rfl)) (hts _ ok_X1_init.2.2.2) hK.1 hP hD hS hA rfl (fun j hj => by rcases (show j = 0 ∨ j = 1 ∨ j = 2 ∨ j = 3 ∨ j = 4 ∨ j = 5 ∨ j = 6 ∨ j = 7 ∨ j = 8 ∨ j = 9 ∨ j = 10 ∨ j = 11 ∨ j = 12 by omega) with rfl | rfl | rfl | rfl | rfl | rfl | rfl | rfl | rfl | rfl | rfl | rfl | rfl <;> rfl) (Nat.le_of_ble_eq_true rfl) (Nat.le_of_ble_eq_true rfl) (xs_dec ok_X2_init (pc := 26) rfl).1 (fun o7 H hP hD hS => ?_)
  refine lv_dup hx hb (xs_dec ok_X2_init (pc := 29) rfl).1 rfl ?_
  refine cc_go hP hD hS hA (va_runIN (n := 0) (As := []) (rest := [.ref o7, .int 5, .ref q1]) (Ts := xw) ⟨hx, hb, hml, hown, hts⟩ (n_X1 l D T o7 H.size) (⟨va_cnB (ws' := xw) 0 hts (gw_goodIn ok_X1_init (fun _ h => h)) rfl rfl rfl hK.2.2.2.2.1 (hts _ ok_X1_init.2.2.2) (by decide +kernel) ⟨(Nat.le_of_ble_eq_true rfl), (Nat.le_of_ble_eq_true rfl)⟩, rfl, hts _ (wt_1 (List.mem_of_getElem? (i := 21) rfl) rfl)⟩) (cPc_pre hP hK hD) rfl rfl hl.1 rfl (lv_room (Nat.le_of_ble_eq_true rfl)) (xs_dec ok_X2_init (pc := 30) rfl).1 ⟨(Nat.le_of_ble_eq_true rfl), (Nat.le_of_ble_eq_true rfl)⟩) (fun v7 Hm7 locs hw hPm7 hDm7 hSm7 => ?_)
  subst hw
  have hP : va_P D vwCl ([(a, .inr (1, [.ref q1, .int 0, .int 0]))] ++ [(q1, .inl (T 3, 7, .inr (.inr (.inr (.inr (va_up (va_up (va_up (va_up (va_up (fun _ => none) 0 (some (v2 0))) 1 (some (v3 0))) 2 (some (v4 0))) 3 (some (v5 0))) 4 (some (v6 0))))))))] ++ crtW T v2 ++ crtW T v3 ++ crtW T v4 ++ crtW T v5 ++ crtW T v6 ++ crtW T v7) Hm7 := hPm7
  have hD : va_D A ([(a, .inr (1, [.ref q1, .int 0, .int 0]))] ++ [(q1, .inl (T 3, 7, .inr (.inr (.inr (.inr (va_up (va_up (va_up (va_up (va_up (fun _ => none) 0 (some (v2 0))) 1 (some (v3 0))) 2 (some (v4 0))) 3 (some (v5 0))) 4 (some (v6 0))))))))] ++ crtW T v2 ++ crtW T v3 ++ crtW T v4 ++ crtW T v5 ++ crtW T v6 ++ crtW T v7) := hDm7
  have hS := hSm7
  refine va_astq (n := 7) hx hb hK.1 hP hD hS 1 3 32 0 rfl rfl rfl rfl (vp_in_iff.mpr ⟨by decide, by decide⟩) (xs_dec ok_X2_init (pc := 33) rfl).1 (fun H locs hP hD hS => ?_)
  have hP : va_P D vwCl ([(a, .inr (1, [.ref q1, .int 0, .int 0]))] ++ [(q1, .inl (T 3, 7, .inr (.inr (.inr (.inr (va_up (va_up (va_up (va_up (va_up (va_up (fun _ => none) 0 (some (v2 0))) 1 (some (v3 0))) 2 (some (v4 0))) 3 (some (v5 0))) 4 (some (v6 0))) 5 (some (v7 0))))))))] ++ crtW T v2 ++ crtW T v3 ++ crtW T v4 ++ crtW T v5 ++ crtW T v6 ++ crtW T v7) H := hP
  have hD : va_D A ([(a, .inr (1, [.ref q1, .int 0, .int 0]))] ++ [(q1, .inl (T 3, 7, .inr (.inr (.inr (.inr (va_up (va_up (va_up (va_up (va_up (va_up (fun _ => none) 0 (some (v2 0))) 1 (some (v3 0))) 2 (some (v4 0))) 3 (some (v5 0))) 4 (some (v6 0))) 5 (some (v7 0))))))))] ++ crtW T v2 ++ crtW T v3 ++ crtW T v4 ++ crtW T v5 ++ crtW T v6 ++ crtW T v7) := hD
  refine lv_iinc (v := 6) (lv' := [(1, .int 6), (0, .ref a)]) hx hb (xs_dec ok_X2_init (pc := 34) rfl).1 hl (k := 1) rfl (by decide) (by decide) rfl (fun ls hl => ?_)
  have hl : lv_has ls 2 [(0, .ref a), (1, .int 6)] := lv_sub hl [1, 0] rfl
  refine lv_goto (tgt := 15) hx hb (xs_dec ok_X2_init (pc := 37) rfl).1 (by decide) ?_
  refine lv_iload_n hx hb (xs_dec ok_X2_init (pc := 15) rfl).1 rfl (lv_at hl 1 rfl) ?_
  refine lv_bipush (v := 7) hx hb (xs_dec ok_X2_init (pc := 16) rfl).1 rfl ?_
  refine lv_icmp_ge (tgt := 40) hx hb (xs_dec ok_X2_init (pc := 18) rfl).1 (by decide) (fun h => absurd h (by decide)) (fun _ => ?_)
  refine lv_aload_n hx hb (xs_dec ok_X2_init (pc := 21) rfl).1 rfl (lv_at hl 0 rfl) ?_
  refine va_get hx hb hts uw_X2 hown hK.1 hP 0 rfl rfl 0 (by decide) (hts _ (wt_1 (List.mem_of_getElem? (i := 93) rfl) rfl)) (fun _ h => h) rfl (xs_dec ok_X2_init (pc := 22) rfl).1 ?_
  refine lv_iload_n hx hb (xs_dec ok_X2_init (pc := 25) rfl).1 rfl (lv_at hl 1 rfl) ?_
  refine va_new (ci := 0) (fs := [.int 0, .int 0, .int 0, .int 0, .int 0, .int 0, .int 0, .int 0, .null, .null, .null, .null, .null]) (C := RX1) (T := TX1) (N := 13) hx hb hts uw_X1 tyX1 tyX1_ok hown (hts _ (wt_1 (List.mem_of_getElem? (i := 90) rfl) rfl)) (hts _ (wt_1 (List.mem_of_getElem? (i := 19) rfl) rfl)) (hts _ ok_X1_init.2.2.2) hK.1 hP hD hS hA rfl (fun j hj => by rcases (show j = 0 ∨ j = 1 ∨ j = 2 ∨ j = 3 ∨ j = 4 ∨ j = 5 ∨ j = 6 ∨ j = 7 ∨ j = 8 ∨ j = 9 ∨ j = 10 ∨ j = 11 ∨ j = 12 by omega) with rfl | rfl | rfl | rfl | rfl | rfl | rfl | rfl | rfl | rfl | rfl | rfl | rfl <;> rfl) (Nat.le_of_ble_eq_true rfl) (Nat.le_of_ble_eq_true rfl) (xs_dec ok_X2_init (pc := 26) rfl).1 (fun o8 H hP hD hS => ?_)
  refine lv_dup hx hb (xs_dec ok_X2_init (pc := 29) rfl).1 rfl ?_
  refine cc_go hP hD hS hA (va_runIN (n := 0) (As := []) (rest := [.ref o8, .int 6, .ref q1]) (Ts := xw) ⟨hx, hb, hml, hown, hts⟩ (n_X1 l D T o8 H.size) (⟨va_cnB (ws' := xw) 0 hts (gw_goodIn ok_X1_init (fun _ h => h)) rfl rfl rfl hK.2.2.2.2.1 (hts _ ok_X1_init.2.2.2) (by decide +kernel) ⟨(Nat.le_of_ble_eq_true rfl), (Nat.le_of_ble_eq_true rfl)⟩, rfl, hts _ (wt_1 (List.mem_of_getElem? (i := 21) rfl) rfl)⟩) (cPc_pre hP hK hD) rfl rfl hl.1 rfl (lv_room (Nat.le_of_ble_eq_true rfl)) (xs_dec ok_X2_init (pc := 30) rfl).1 ⟨(Nat.le_of_ble_eq_true rfl), (Nat.le_of_ble_eq_true rfl)⟩) (fun v8 Hm8 locs hw hPm8 hDm8 hSm8 => ?_)
  subst hw
  have hP : va_P D vwCl ([(a, .inr (1, [.ref q1, .int 0, .int 0]))] ++ [(q1, .inl (T 3, 7, .inr (.inr (.inr (.inr (va_up (va_up (va_up (va_up (va_up (va_up (fun _ => none) 0 (some (v2 0))) 1 (some (v3 0))) 2 (some (v4 0))) 3 (some (v5 0))) 4 (some (v6 0))) 5 (some (v7 0))))))))] ++ crtW T v2 ++ crtW T v3 ++ crtW T v4 ++ crtW T v5 ++ crtW T v6 ++ crtW T v7 ++ crtW T v8) Hm8 := hPm8
  have hD : va_D A ([(a, .inr (1, [.ref q1, .int 0, .int 0]))] ++ [(q1, .inl (T 3, 7, .inr (.inr (.inr (.inr (va_up (va_up (va_up (va_up (va_up (va_up (fun _ => none) 0 (some (v2 0))) 1 (some (v3 0))) 2 (some (v4 0))) 3 (some (v5 0))) 4 (some (v6 0))) 5 (some (v7 0))))))))] ++ crtW T v2 ++ crtW T v3 ++ crtW T v4 ++ crtW T v5 ++ crtW T v6 ++ crtW T v7 ++ crtW T v8) := hDm8
  have hS := hSm8
  refine va_astq (n := 7) hx hb hK.1 hP hD hS 1 3 38 0 rfl rfl rfl rfl (vp_in_iff.mpr ⟨by decide, by decide⟩) (xs_dec ok_X2_init (pc := 33) rfl).1 (fun H locs hP hD hS => ?_)
  have hP : va_P D vwCl ([(a, .inr (1, [.ref q1, .int 0, .int 0]))] ++ [(q1, .inl (T 3, 7, .inr (.inr (.inr (.inr (va_up (va_up (va_up (va_up (va_up (va_up (va_up (fun _ => none) 0 (some (v2 0))) 1 (some (v3 0))) 2 (some (v4 0))) 3 (some (v5 0))) 4 (some (v6 0))) 5 (some (v7 0))) 6 (some (v8 0))))))))] ++ crtW T v2 ++ crtW T v3 ++ crtW T v4 ++ crtW T v5 ++ crtW T v6 ++ crtW T v7 ++ crtW T v8) H := hP
  have hD : va_D A ([(a, .inr (1, [.ref q1, .int 0, .int 0]))] ++ [(q1, .inl (T 3, 7, .inr (.inr (.inr (.inr (va_up (va_up (va_up (va_up (va_up (va_up (va_up (fun _ => none) 0 (some (v2 0))) 1 (some (v3 0))) 2 (some (v4 0))) 3 (some (v5 0))) 4 (some (v6 0))) 5 (some (v7 0))) 6 (some (v8 0))))))))] ++ crtW T v2 ++ crtW T v3 ++ crtW T v4 ++ crtW T v5 ++ crtW T v6 ++ crtW T v7 ++ crtW T v8) := hD
  refine lv_iinc (v := 7) (lv' := [(1, .int 7), (0, .ref a)]) hx hb (xs_dec ok_X2_init (pc := 34) rfl).1 hl (k := 1) rfl (by decide) (by decide) rfl (fun ls hl => ?_)
  have hl : lv_has ls 2 [(0, .ref a), (1, .int 7)] := lv_sub hl [1, 0] rfl
  refine lv_goto (tgt := 15) hx hb (xs_dec ok_X2_init (pc := 37) rfl).1 (by decide) ?_
  refine lv_iload_n hx hb (xs_dec ok_X2_init (pc := 15) rfl).1 rfl (lv_at hl 1 rfl) ?_
  refine lv_bipush (v := 7) hx hb (xs_dec ok_X2_init (pc := 16) rfl).1 rfl ?_
  refine lv_icmp_ge (tgt := 40) hx hb (xs_dec ok_X2_init (pc := 18) rfl).1 (by decide) (fun _ => ?_) (fun h => absurd (by decide) h)
  obtain ⟨V, hV⟩ : ∃ V : Nat → Nat, V = (vHis a q1 v2 v3 v4 v5 v6 v7 v8) := ⟨_, rfl⟩
  have hP := cP_arr (g := fun j => some (V (2 + 6 * j))) hP (i := 1) rfl (fun j hj => by rw [hV]; rcases (show j = 0 ∨ j = 1 ∨ j = 2 ∨ j = 3 ∨ j = 4 ∨ j = 5 ∨ j = 6 by omega) with rfl | rfl | rfl | rfl | rfl | rfl | rfl <;> rfl)
  have hD := hD.set (p := 1) (e := .inl (T 3, 7, .inr (.inr (.inr (.inr (fun j => some (V (2 + 6 * j)))))))) rfl
  subst hV
  refine W.widen (k := 43) (n := 623) (Nat.le_of_ble_eq_true rfl) (Nat.le_of_ble_eq_true rfl) ?_
  exact W.vret hx hb hr (fun t ht hW => ⟨⟨(vHis a q1 v2 v3 v4 v5 v6 v7 v8), rfl, rfl, by rw [ht]; exact hP, hD⟩, hS.F ht⟩) hS.2.2 (xs_dec ok_X2_init (pc := 40) rfl).1
