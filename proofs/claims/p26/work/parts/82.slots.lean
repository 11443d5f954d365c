set_option maxRecDepth 100000 in
set_option maxHeartbeats 4000000 in
theorem n_X4 (l : Launch) (D : va_G) (T : Nat → ClassId) (a sz : Nat) : Met l yX4_init (xs_wsM M_X4_init) (rmN 2 14 180) (cPc D T a (.inr (3, [.null, .null])) sz) (cQc D a (va_A [(a, .inr (3, [.null, .null]))] sz) (sltW T)) 14 180 (va_A [(a, .inr (3, [.null, .null]))] sz) := by
  refine Met.ofW (cc := cX4_init) (maxL := 2) (ret := none) (by decide) rfl ?_
  intro p e s m args below meth c s₁ B hml hv
  obtain ⟨rfl, hsz, hP, hK, hD0⟩ := hv
  have hx := B.exec
  have hb := B.bytes
  have hr := B.returns
  have hts0 := atoms_spec (ws := xs_wsM M_X4_init) B.pre
  have hts : ∀ w ∈ xw, w.before _ s = true := fun w hw => hts0 w (List.mem_cons_of_mem _ hw)
  have hown : s.vm.findClass RX4 = some m.cls := findClass_of_methodNamed B.named
  have hlocks := B.notSynchronized
  have hin : meth.name = "<init>" := (name_of_methodNamed B.named B.method).1
  subst hsz
  have hD := hD0.self (sz := s.heap.size)
  generalize hAe : va_A [(a, .inr (3, [.null, .null]))] s.heap.size = A at hD ⊢
  have hA : ∀ q : Nat, s.heap.size ≤ q → A q := fun q h => by rw [← hAe]; exact Or.inr h
  have hS : va_S A s.heap s.heap [] := va_S.rf
  have hl := lv_entry ([.ref a]) (n := 2) (Nat.le_of_ble_eq_true rfl)
  rw [lg_entry_eq]
  generalize (lg_sl ([.ref a]) ++ List.replicate (2 - (lg_sl ([.ref a])).length) Slot.unset).toArray = ls at hl ⊢
  have hl : lv_has ls 2 [(0, .ref a)] := hl
  clear hD0 hts0
  refine lv_aload_n hx hb (xs_dec ok_X4_init (pc := 0) rfl).1 rfl (lv_at hl 0 rfl) ?_
  refine W.objInit hx hb hown (hts _ (wt_1 (List.mem_of_getElem? (i := 108) rfl) rfl)) (hts _ (wt_1 (List.mem_of_getElem? (i := 16) rfl) rfl)) (hts _ (wt_1 (List.mem_of_getElem? (i := 17) rfl) rfl)) rfl (by rw [hml]; exact hl.1) rfl (xs_dec ok_X4_init (pc := 1) rfl).1 (Nat.le_of_ble_eq_true rfl) (Nat.le_of_ble_eq_true rfl) ?_
  refine W.eq (g2 := F0 m 4 ls []) rfl ?_
  refine lv_aload_n hx hb (xs_dec ok_X4_init (pc := 4) rfl).1 rfl (lv_at hl 0 rfl) ?_
  refine lv_iconst (v := 2) hx hb (xs_dec ok_X4_init (pc := 5) rfl).1 rfl ?_
  refine cw_newQ (T := T) (N' := 2) hx hb hown (hts _ (wt_1 (List.mem_of_getElem? (i := 109) rfl) rfl)) hK hP hD hS hA (by decide) (by decide) (Nat.le_of_ble_eq_true rfl) (Nat.le_of_ble_eq_true rfl) (Nat.le_of_ble_eq_true rfl) (xs_dec ok_X4_init (pc := 6) rfl).1 (fun q1 H hP hD hS => ?_)
  have hP : va_P D vwCl ([(a, .inr (3, [.null, .null]))] ++ [(q1, .inl (T 3, 2, .inr (.inr (.inr (.inr (fun _ => none))))))]) H := hP
  have hD : va_D A ([(a, .inr (3, [.null, .null]))] ++ [(q1, .inl (T 3, 2, .inr (.inr (.inr (.inr (fun _ => none))))))]) := hD
  refine va_putF (D := D) (ci := 3) (v := .ref q1) (ty := .array (.object "SundialSpans$Court")) (C := RX4) (T := TX4) (N := 2) hx hb hts uw_X4 tyX4 tyX4_ok nmX4 hown hK.1 hP hD hS 0 rfl rfl 0 (by decide) (hts _ (wt_1 (List.mem_of_getElem? (i := 111) rfl) rfl)) (fun _ h9 => h9) rfl hin rfl (by decide +kernel) rfl rfl (Nat.le_of_ble_eq_true rfl) (xs_dec ok_X4_init (pc := 9) rfl).1 (fun H locs hP hD hS => ?_)
  have hP : va_P D vwCl ([(a, .inr (3, [.ref q1, .null]))] ++ [(q1, .inl (T 3, 2, .inr (.inr (.inr (.inr (fun _ => none))))))]) H := hP
  have hD : va_D A ([(a, .inr (3, [.ref q1, .null]))] ++ [(q1, .inl (T 3, 2, .inr (.inr (.inr (.inr (fun _ => none))))))]) := hD
  refine lv_aload_n hx hb (xs_dec ok_X4_init (pc := 12) rfl).1 rfl (lv_at hl 0 rfl) ?_
  refine lv_iconst (v := 2) hx hb (xs_dec ok_X4_init (pc := 13) rfl).1 rfl ?_
  refine cw_newI (T := T) (t := 1) (ty := .boolean) (atype := .boolean) (N' := 2) hx hb (hts _ (wt_1 (List.mem_of_getElem? (i := 118) rfl) rfl)) rfl rfl hK hP hD hS hA (fun _ => rfl) (by decide) (by decide) (Nat.le_of_ble_eq_true rfl) (Nat.le_of_ble_eq_true rfl) (Nat.le_of_ble_eq_true rfl) (xs_dec ok_X4_init (pc := 14) rfl).1 (fun q2 H hP hD hS => ?_)
  have hP : va_P D vwCl ([(a, .inr (3, [.ref q1, .null]))] ++ [(q1, .inl (T 3, 2, .inr (.inr (.inr (.inr (fun _ => none))))))] ++ [(q2, .inl (T 1, 2, .inl (fun _ => 0)))]) H := hP
  have hD : va_D A ([(a, .inr (3, [.ref q1, .null]))] ++ [(q1, .inl (T 3, 2, .inr (.inr (.inr (.inr (fun _ => none))))))] ++ [(q2, .inl (T 1, 2, .inl (fun _ => 0)))]) := hD
  refine va_putF (D := D) (ci := 3) (v := .ref q2) (ty := .array .boolean) (C := RX4) (T := TX4) (N := 2) hx hb hts uw_X4 tyX4 tyX4_ok nmX4 hown hK.1 hP hD hS 0 rfl rfl 1 (by decide) (hts _ (wt_1 (List.mem_of_getElem? (i := 112) rfl) rfl)) (fun _ h9 => h9) rfl hin rfl (by decide +kernel) rfl rfl (Nat.le_of_ble_eq_true rfl) (xs_dec ok_X4_init (pc := 16) rfl).1 (fun H locs hP hD hS => ?_)
  have hP : va_P D vwCl ([(a, .inr (3, [.ref q1, .ref q2]))] ++ [(q1, .inl (T 3, 2, .inr (.inr (.inr (.inr (fun _ => none))))))] ++ [(q2, .inl (T 1, 2, .inl (fun _ => 0)))]) H := hP
  have hD : va_D A ([(a, .inr (3, [.ref q1, .ref q2]))] ++ [(q1, .inl (T 3, 2, .inr (.inr (.inr (.inr (fun _ => none))))))] ++ [(q2, .inl (T 1, 2, .inl (fun _ => 0)))]) := hD
  refine lv_iconst (v := 0) hx hb (xs_dec ok_X4_init (pc := 19) rfl).1 rfl ?_
  refine lv_istore_n (lv' := [(1, .int 0), (0, .ref a)]) hx hb (xs_dec ok_X4_init (pc := 20) rfl).1 rfl hl (by decide) rfl (fun ls hl => ?_)
  have hl : lv_has ls 2 [(0, .ref a), (1, .int 0)] := lv_sub hl [1, 0] rfl
  refine lv_iload_n hx hb (xs_dec ok_X4_init (pc := 21) rfl).1 rfl (lv_at hl 1 rfl) ?_
  refine lv_iconst (v := 2) hx hb (xs_dec ok_X4_init (pc := 22) rfl).1 rfl ?_
  refine lv_icmp_ge (tgt := 45) hx hb (xs_dec ok_X4_init (pc := 23) rfl).1 (by decide) (fun h => absurd h (by decide)) (fun _ => ?_)
  refine lv_aload_n hx hb (xs_dec ok_X4_init (pc := 26) rfl).1 rfl (lv_at hl 0 rfl) ?_
  refine va_get hx hb hts uw_X4 hown hK.1 hP 0 rfl rfl 0 (by decide) (hts _ (wt_1 (List.mem_of_getElem? (i := 111) rfl) rfl)) (fun _ h => h) rfl (xs_dec ok_X4_init (pc := 27) rfl).1 ?_
  refine lv_iload_n hx hb (xs_dec ok_X4_init (pc := 30) rfl).1 rfl (lv_at hl 1 rfl) ?_
  refine va_new (ci := 0) (fs := [.int 0, .int 0, .int 0, .int 0, .int 0, .int 0, .int 0, .int 0, .null, .null, .null, .null, .null]) (C := RX1) (T := TX1) (N := 13) hx hb hts uw_X1 tyX1 tyX1_ok hown (hts _ (wt_1 (List.mem_of_getElem? (i := 109) rfl) rfl)) (hts _ (wt_1 (List.mem_of_getElem? (i := 19) rfl) rfl)) (hts _ ok_X1_init.2.2.2) hK.1 hP hD hS hA rfl (fun j hj => by rcases (show j = 0 ∨ j = 1 ∨ j = 2 ∨ j = 3 ∨ j = 4 ∨ j = 5 ∨ j = 6 ∨ j = 7 ∨ j = 8 ∨ j = 9 ∨ j = 10 ∨ j = 11 ∨ j = 12 by omega) with rfl | rfl | rfl | rfl | rfl | rfl | rfl | rfl | rfl | rfl | rfl | rfl | rfl <;> rfl) (Nat.le_of_ble_eq_true rfl) (Nat.le_of_ble_eq_true rfl) (xs_dec ok_X4_init (pc := 31) rfl).1 (fun o3 H hP hD hS => ?_)
  refine lv_dup hx hb (xs_dec ok_X4_init (pc := 34) rfl).1 rfl ?_
  refine cc_go hP hD hS hA (va_runIN (n := 0) (As := []) (rest := [.ref o3, .int 0, .ref q1]) (Ts := xw) ⟨hx, hb, hml, hown, hts⟩ (n_X1 l D T o3 H.size) (⟨va_cnB (ws' := xw) 0 hts (gw_goodIn ok_X1_init (fun _ h => h)) rfl rfl rfl hK.2.2.2.2.2.1 (hts _ ok_X1_init.2.2.2) (by decide +kernel) ⟨(Nat.le_of_ble_eq_true rfl), (Nat.le_of_ble_eq_true rfl)⟩, rfl, hts _ (wt_1 (List.mem_of_getElem? (i := 21) rfl) rfl)⟩) (cPc_pre hP hK hD) rfl rfl hl.1 rfl (lv_room (Nat.le_of_ble_eq_true rfl)) (xs_dec ok_X4_init (pc := 35) rfl).1 ⟨(Nat.le_of_ble_eq_true rfl), (Nat.le_of_ble_eq_true rfl)⟩) (fun v3 Hm3 locs hw hPm3 hDm3 hSm3 => ?_)
  subst hw
  have hP : va_P D vwCl ([(a, .inr (3, [.ref q1, .ref q2]))] ++ [(q1, .inl (T 3, 2, .inr (.inr (.inr (.inr (fun _ => none))))))] ++ [(q2, .inl (T 1, 2, .inl (fun _ => 0)))] ++ crtW T v3) Hm3 := hPm3
  have hD : va_D A ([(a, .inr (3, [.ref q1, .ref q2]))] ++ [(q1, .inl (T 3, 2, .inr (.inr (.inr (.inr (fun _ => none))))))] ++ [(q2, .inl (T 1, 2, .inl (fun _ => 0)))] ++ crtW T v3) := hDm3
  have hS := hSm3
  refine va_astq (n := 2) hx hb hK.1 hP hD hS 1 3 3 0 rfl rfl rfl rfl (vp_in_iff.mpr ⟨by decide, by decide⟩) (xs_dec ok_X4_init (pc := 38) rfl).1 (fun H locs hP hD hS => ?_)
  have hP : va_P D vwCl ([(a, .inr (3, [.ref q1, .ref q2]))] ++ [(q1, .inl (T 3, 2, .inr (.inr (.inr (.inr (va_up (fun _ => none) 0 (some (v3 0))))))))] ++ [(q2, .inl (T 1, 2, .inl (fun _ => 0)))] ++ crtW T v3) H := hP
  have hD : va_D A ([(a, .inr (3, [.ref q1, .ref q2]))] ++ [(q1, .inl (T 3, 2, .inr (.inr (.inr (.inr (va_up (fun _ => none) 0 (some (v3 0))))))))] ++ [(q2, .inl (T 1, 2, .inl (fun _ => 0)))] ++ crtW T v3) := hD
  refine lv_iinc (v := 1) (lv' := [(1, .int 1), (0, .ref a)]) hx hb (xs_dec ok_X4_init (pc := 39) rfl).1 hl (k := 1) rfl (by decide) (by decide) rfl (fun ls hl => ?_)
  have hl : lv_has ls 2 [(0, .ref a), (1, .int 1)] := lv_sub hl [1, 0] rfl
  refine lv_goto (tgt := 21) hx hb (xs_dec ok_X4_init (pc := 42) rfl).1 (by decide) ?_
  refine lv_iload_n hx hb (xs_dec ok_X4_init (pc := 21) rfl).1 rfl (lv_at hl 1 rfl) ?_
  refine lv_iconst (v := 2) hx hb (xs_dec ok_X4_init (pc := 22) rfl).1 rfl ?_
  refine lv_icmp_ge (tgt := 45) hx hb (xs_dec ok_X4_init (pc := 23) rfl).1 (by decide) (fun h => absurd h (by decide)) (fun _ => ?_)
  refine lv_aload_n hx hb (xs_dec ok_X4_init (pc := 26) rfl).1 rfl (lv_at hl 0 rfl) ?_
  refine va_get hx hb hts uw_X4 hown hK.1 hP 0 rfl rfl 0 (by decide) (hts _ (wt_1 (List.mem_of_getElem? (i := 111) rfl) rfl)) (fun _ h => h) rfl (xs_dec ok_X4_init (pc := 27) rfl).1 ?_
  refine lv_iload_n hx hb (xs_dec ok_X4_init (pc := 30) rfl).1 rfl (lv_at hl 1 rfl) ?_
  refine va_new (ci := 0) (fs := [.int 0, .int 0, .int 0, .int 0, .int 0, .int 0, .int 0, .int 0, .null, .null, .null, .null, .null]) (C := RX1) (T := TX1) (N := 13) hx hb hts uw_X1 tyX1 tyX1_ok hown (hts _ (wt_1 (List.mem_of_getElem? (i := 109) rfl) rfl)) (hts _ (wt_1 (List.mem_of_getElem? (i := 19) rfl) rfl)) (hts _ ok_X1_init.2.2.2) hK.1 hP hD hS hA rfl (fun j hj => by rcases (show j = 0 ∨ j = 1 ∨ j = 2 ∨ j = 3 ∨ j = 4 ∨ j = 5 ∨ j = 6 ∨ j = 7 ∨ j = 8 ∨ j = 9 ∨ j = 10 ∨ j = 11 ∨ j = 12 by omega) with rfl | rfl | rfl | rfl | rfl | rfl | rfl | rfl | rfl | rfl | rfl | rfl | rfl <;> rfl) (Nat.le_of_ble_eq_true rfl) (Nat.le_of_ble_eq_true rfl) (xs_dec ok_X4_init (pc := 31) rfl).1 (fun o4 H hP hD hS => ?_)
  refine lv_dup hx hb (xs_dec ok_X4_init (pc := 34) rfl).1 rfl ?_
  refine cc_go hP hD hS hA (va_runIN (n := 0) (As := []) (rest := [.ref o4, .int 1, .ref q1]) (Ts := xw) ⟨hx, hb, hml, hown, hts⟩ (n_X1 l D T o4 H.size) (⟨va_cnB (ws' := xw) 0 hts (gw_goodIn ok_X1_init (fun _ h => h)) rfl rfl rfl hK.2.2.2.2.2.1 (hts _ ok_X1_init.2.2.2) (by decide +kernel) ⟨(Nat.le_of_ble_eq_true rfl), (Nat.le_of_ble_eq_true rfl)⟩, rfl, hts _ (wt_1 (List.mem_of_getElem? (i := 21) rfl) rfl)⟩) (cPc_pre hP hK hD) rfl rfl hl.1 rfl (lv_room (Nat.le_of_ble_eq_true rfl)) (xs_dec ok_X4_init (pc := 35) rfl).1 ⟨(Nat.le_of_ble_eq_true rfl), (Nat.le_of_ble_eq_true rfl)⟩) (fun v4 Hm4 locs hw hPm4 hDm4 hSm4 => ?_)
  subst hw
  have hP : va_P D vwCl ([(a, .inr (3, [.ref q1, .ref q2]))] ++ [(q1, .inl (T 3, 2, .inr (.inr (.inr (.inr (va_up (fun _ => none) 0 (some (v3 0))))))))] ++ [(q2, .inl (T 1, 2, .inl (fun _ => 0)))] ++ crtW T v3 ++ crtW T v4) Hm4 := hPm4
  have hD : va_D A ([(a, .inr (3, [.ref q1, .ref q2]))] ++ [(q1, .inl (T 3, 2, .inr (.inr (.inr (.inr (va_up (fun _ => none) 0 (some (v3 0))))))))] ++ [(q2, .inl (T 1, 2, .inl (fun _ => 0)))] ++ crtW T v3 ++ crtW T v4) := hDm4
  have hS := hSm4
  refine va_astq (n := 2) hx hb hK.1 hP hD hS 1 3 9 0 rfl rfl rfl rfl (vp_in_iff.mpr ⟨by decide, by decide⟩) (xs_dec ok_X4_init (pc := 38) rfl).1 (fun H locs hP hD hS => ?_)
  have hP : va_P D vwCl ([(a, .inr (3, [.ref q1, .ref q2]))] ++ [(q1, .inl (T 3, 2, .inr (.inr (.inr (.inr (va_up (va_up (fun _ => none) 0 (some (v3 0))) 1 (some (v4 0))))))))] ++ [(q2, .inl (T 1, 2, .inl (fun _ => 0)))] ++ crtW T v3 ++ crtW T v4) H := hP
  have hD : va_D A ([(a, .inr (3, [.ref q1, .ref q2]))] ++ [(q1, .inl (T 3, 2, .inr (.inr (.inr (.inr (va_up (va_up (fun _ => none) 0 (some (v3 0))) 1 (some (v4 0))))))))] ++ [(q2, .inl (T 1, 2, .inl (fun _ => 0)))] ++ crtW T v3 ++ crtW T v4) := hD
  refine lv_iinc (v := 2) (lv' := [(1, .int 2), (0, .ref a)]) hx hb (xs_dec ok_X4_init (pc := 39) rfl).1 hl (k := 1) rfl (by decide) (by decide) rfl (fun ls hl => ?_)
  have hl : lv_has ls 2 [(0, .ref a), (1, .int 2)] := lv_sub hl [1, 0] rfl
  refine lv_goto (tgt := 21) hx hb (xs_dec ok_X4_init (pc := 42) rfl).1 (by decide) ?_
  refine lv_iload_n hx hb (xs_dec ok_X4_init (pc := 21) rfl).1 rfl (lv_at hl 1 rfl) ?_
  refine lv_iconst (v := 2) hx hb (xs_dec ok_X4_init (pc := 22) rfl).1 rfl ?_
  refine lv_icmp_ge (tgt := 45) hx hb (xs_dec ok_X4_init (pc := 23) rfl).1 (by decide) (fun _ => ?_) (fun h => absurd (by decide) h)
  obtain ⟨V, hV⟩ : ∃ V : Nat → Nat, V = (vSlt a q1 q2 v3 v4) := ⟨_, rfl⟩
  have hP := cP_arr (g := fun j => some (V (3 + 6 * j))) hP (i := 1) rfl (fun j hj => by rw [hV]; rcases (show j = 0 ∨ j = 1 by omega) with rfl | rfl <;> rfl)
  have hD := hD.set (p := 1) (e := .inl (T 3, 2, .inr (.inr (.inr (.inr (fun j => some (V (3 + 6 * j)))))))) rfl
  subst hV
  refine W.widen (k := 14) (n := 180) (Nat.le_of_ble_eq_true rfl) (Nat.le_of_ble_eq_true rfl) ?_
  exact W.vret hx hb hr (fun t ht hW => ⟨⟨(vSlt a q1 q2 v3 v4), rfl, rfl, by rw [ht]; exact hP, hD⟩, hS.F ht⟩) hS.2.2 (xs_dec ok_X4_init (pc := 45) rfl).1
