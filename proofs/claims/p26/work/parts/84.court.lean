set_option maxRecDepth 100000 in
set_option maxHeartbeats 4000000 in
theorem n_X6 (l : Launch) (D : va_G) (T : Nat → ClassId) (a sz : Nat) : Met l yX6_init (xs_wsM M_X6_init) (rmN 3 71 1033) (cPc D T a (.inr (5, [.null, .null, .null, .null, .null])) sz) (cQc D a (va_A [(a, .inr (5, [.null, .null, .null, .null, .null]))] sz) (clsW T)) 71 1033 (va_A [(a, .inr (5, [.null, .null, .null, .null, .null]))] sz) := by
  refine Met.ofW (cc := cX6_init) (maxL := 1) (ret := none) (by decide) rfl ?_
  intro p e s m args below meth c s₁ B hml hv
  obtain ⟨rfl, hsz, hP, hK, hD0⟩ := hv
  have hx := B.exec
  have hb := B.bytes
  have hr := B.returns
  have hts0 := atoms_spec (ws := xs_wsM M_X6_init) B.pre
  have hts : ∀ w ∈ xw, w.before _ s = true := fun w hw => hts0 w (List.mem_cons_of_mem _ hw)
  have hown : s.vm.findClass RX6 = some m.cls := findClass_of_methodNamed B.named
  have hlocks := B.notSynchronized
  have hin : meth.name = "<init>" := (name_of_methodNamed B.named B.method).1
  subst hsz
  have hD := hD0.self (sz := s.heap.size)
  generalize hAe : va_A [(a, .inr (5, [.null, .null, .null, .null, .null]))] s.heap.size = A at hD ⊢
  have hA : ∀ q : Nat, s.heap.size ≤ q → A q := fun q h => by rw [← hAe]; exact Or.inr h
  have hS : va_S A s.heap s.heap [] := va_S.rf
  have hl := lv_entry ([.ref a]) (n := 1) (Nat.le_of_ble_eq_true rfl)
  rw [lg_entry_eq]
  generalize (lg_sl ([.ref a]) ++ List.replicate (1 - (lg_sl ([.ref a])).length) Slot.unset).toArray = ls at hl ⊢
  have hl : lv_has ls 1 [(0, .ref a)] := hl
  clear hD0 hts0
  refine lv_aload_n hx hb (xs_dec ok_X6_init (pc := 0) rfl).1 rfl (lv_at hl 0 rfl) ?_
  refine W.objInit hx hb hown (hts _ (wt_1 (List.mem_of_getElem? (i := 15) rfl) rfl)) (hts _ (wt_1 (List.mem_of_getElem? (i := 16) rfl) rfl)) (hts _ (wt_1 (List.mem_of_getElem? (i := 17) rfl) rfl)) rfl (by rw [hml]; exact hl.1) rfl (xs_dec ok_X6_init (pc := 1) rfl).1 (Nat.le_of_ble_eq_true rfl) (Nat.le_of_ble_eq_true rfl) ?_
  refine W.eq (g2 := F0 m 4 ls []) rfl ?_
  refine lv_aload_n hx hb (xs_dec ok_X6_init (pc := 4) rfl).1 rfl (lv_at hl 0 rfl) ?_
  refine va_new (ci := 0) (fs := [.int 0, .int 0, .int 0, .int 0, .int 0, .int 0, .int 0, .int 0, .null, .null, .null, .null, .null]) (C := RX1) (T := TX1) (N := 13) hx hb hts uw_X1 tyX1 tyX1_ok hown (hts _ (wt_1 (List.mem_of_getElem? (i := 18) rfl) rfl)) (hts _ (wt_1 (List.mem_of_getElem? (i := 19) rfl) rfl)) (hts _ ok_X1_init.2.2.2) hK.1 hP hD hS hA rfl (fun j hj => by rcases (show j = 0 ∨ j = 1 ∨ j = 2 ∨ j = 3 ∨ j = 4 ∨ j = 5 ∨ j = 6 ∨ j = 7 ∨ j = 8 ∨ j = 9 ∨ j = 10 ∨ j = 11 ∨ j = 12 by omega) with rfl | rfl | rfl | rfl | rfl | rfl | rfl | rfl | rfl | rfl | rfl | rfl | rfl <;> rfl) (Nat.le_of_ble_eq_true rfl) (Nat.le_of_ble_eq_true rfl) (xs_dec ok_X6_init (pc := 5) rfl).1 (fun o1 H hP hD hS => ?_)
  refine lv_dup hx hb (xs_dec ok_X6_init (pc := 8) rfl).1 rfl ?_
  refine cc_go hP hD hS hA (va_runIN (n := 0) (As := []) (rest := [.ref o1, .ref a]) (Ts := xw) ⟨hx, hb, hml, hown, hts⟩ (n_X1 l D T o1 H.size) (⟨va_cnB (ws' := xw) 0 hts (gw_goodIn ok_X1_init (fun _ h => h)) rfl rfl rfl hK.2.1 (hts _ ok_X1_init.2.2.2) (by decide +kernel) ⟨(Nat.le_of_ble_eq_true rfl), (Nat.le_of_ble_eq_true rfl)⟩, rfl, hts _ (wt_1 (List.mem_of_getElem? (i := 21) rfl) rfl)⟩) (cPc_pre hP hK hD) rfl rfl hl.1 rfl (lv_room (Nat.le_of_ble_eq_true rfl)) (xs_dec ok_X6_init (pc := 9) rfl).1 ⟨(Nat.le_of_ble_eq_true rfl), (Nat.le_of_ble_eq_true rfl)⟩) (fun v1 Hm1 locs hw hPm1 hDm1 hSm1 => ?_)
  subst hw
  have hP : va_P D vwCl ([(a, .inr (5, [.null, .null, .null, .null, .null]))] ++ crtW T v1) Hm1 := hPm1
  have hD : va_D A ([(a, .inr (5, [.null, .null, .null, .null, .null]))] ++ crtW T v1) := hDm1
  have hS := hSm1
  refine va_putF (D := D) (ci := 5) (v := .ref (v1 0)) (ty := .object "SundialSpans$Court") (C := RX6) (T := TX6) (N := 5) hx hb hts uw_X6 tyX6 tyX6_ok nmX6 hown hK.1 hP hD hS 0 rfl rfl 0 (by decide) (hts _ (wt_1 (List.mem_of_getElem? (i := 145) rfl) rfl)) (fun _ h9 => h9) rfl hin rfl (by decide +kernel) rfl rfl (Nat.le_of_ble_eq_true rfl) (xs_dec ok_X6_init (pc := 12) rfl).1 (fun H locs hP hD hS => ?_)
  have hP : va_P D vwCl ([(a, .inr (5, [.ref (v1 0), .null, .null, .null, .null]))] ++ crtW T v1) H := hP
  have hD : va_D A ([(a, .inr (5, [.ref (v1 0), .null, .null, .null, .null]))] ++ crtW T v1) := hD
  refine lv_aload_n hx hb (xs_dec ok_X6_init (pc := 15) rfl).1 rfl (lv_at hl 0 rfl) ?_
  refine va_new (ci := 4) (fs := [.null, .null, .null, .int 0]) (C := RX5) (T := TX5) (N := 4) hx hb hts uw_X5 tyX5 tyX5_ok hown (hts _ (wt_1 (List.mem_of_getElem? (i := 65) rfl) rfl)) (hts _ (wt_1 (List.mem_of_getElem? (i := 66) rfl) rfl)) (hts _ ok_X5_init.2.2.2) hK.1 hP hD hS hA rfl (fun j hj => by rcases (show j = 0 ∨ j = 1 ∨ j = 2 ∨ j = 3 by omega) with rfl | rfl | rfl | rfl <;> rfl) (Nat.le_of_ble_eq_true rfl) (Nat.le_of_ble_eq_true rfl) (xs_dec ok_X6_init (pc := 16) rfl).1 (fun o2 H hP hD hS => ?_)
  refine lv_dup hx hb (xs_dec ok_X6_init (pc := 19) rfl).1 rfl ?_
  refine cc_go hP hD hS hA (va_runIN (n := 0) (As := []) (rest := [.ref o2, .ref a]) (Ts := xw) ⟨hx, hb, hml, hown, hts⟩ (n_X5 l D T o2 H.size) (⟨va_cnB (ws' := xw) 0 hts (gw_goodIn ok_X5_init (fun _ h => h)) rfl rfl rfl hK.2.2.1 (hts _ ok_X5_init.2.2.2) (by decide +kernel) ⟨(Nat.le_of_ble_eq_true rfl), (Nat.le_of_ble_eq_true rfl)⟩, rfl, hts _ (wt_1 (List.mem_of_getElem? (i := 68) rfl) rfl)⟩) (cPc_pre hP hK hD) rfl rfl hl.1 rfl (lv_room (Nat.le_of_ble_eq_true rfl)) (xs_dec ok_X6_init (pc := 20) rfl).1 ⟨(Nat.le_of_ble_eq_true rfl), (Nat.le_of_ble_eq_true rfl)⟩) (fun v2 Hm2 locs hw hPm2 hDm2 hSm2 => ?_)
  subst hw
  have hP : va_P D vwCl ([(a, .inr (5, [.ref (v1 0), .null, .null, .null, .null]))] ++ crtW T v1 ++ spnW T v2) Hm2 := hPm2
  have hD : va_D A ([(a, .inr (5, [.ref (v1 0), .null, .null, .null, .null]))] ++ crtW T v1 ++ spnW T v2) := hDm2
  have hS := hSm2
  refine va_putF (D := D) (ci := 5) (v := .ref (v2 0)) (ty := .object "SundialSpans$Spans") (C := RX6) (T := TX6) (N := 5) hx hb hts uw_X6 tyX6 tyX6_ok nmX6 hown hK.1 hP hD hS 0 rfl rfl 1 (by decide) (hts _ (wt_1 (List.mem_of_getElem? (i := 146) rfl) rfl)) (fun _ h9 => h9) rfl hin rfl (by decide +kernel) rfl rfl (Nat.le_of_ble_eq_true rfl) (xs_dec ok_X6_init (pc := 23) rfl).1 (fun H locs hP hD hS => ?_)
  have hP : va_P D vwCl ([(a, .inr (5, [.ref (v1 0), .ref (v2 0), .null, .null, .null]))] ++ crtW T v1 ++ spnW T v2) H := hP
  have hD : va_D A ([(a, .inr (5, [.ref (v1 0), .ref (v2 0), .null, .null, .null]))] ++ crtW T v1 ++ spnW T v2) := hD
  refine lv_aload_n hx hb (xs_dec ok_X6_init (pc := 26) rfl).1 rfl (lv_at hl 0 rfl) ?_
  refine va_new (ci := 1) (fs := [.null, .int 0, .int 0]) (C := RX2) (T := TX2) (N := 3) hx hb hts uw_X2 tyX2 tyX2_ok hown (hts _ (wt_1 (List.mem_of_getElem? (i := 84) rfl) rfl)) (hts _ (wt_1 (List.mem_of_getElem? (i := 85) rfl) rfl)) (hts _ ok_X2_init.2.2.2) hK.1 hP hD hS hA rfl (fun j hj => by rcases (show j = 0 ∨ j = 1 ∨ j = 2 by omega) with rfl | rfl | rfl <;> rfl) (Nat.le_of_ble_eq_true rfl) (Nat.le_of_ble_eq_true rfl) (xs_dec ok_X6_init (pc := 27) rfl).1 (fun o3 H hP hD hS => ?_)
  refine lv_dup hx hb (xs_dec ok_X6_init (pc := 30) rfl).1 rfl ?_
  refine cc_go hP hD hS hA (va_runI (n := 0) (As := []) (rest := [.ref o3, .ref a]) (Ts := xw) ⟨hx, hb, hml, hown, hts⟩ (n_X2 l D T o3 H.size) (cwI (ws' := xw) 0 hts (gw_goodIn ok_X2_init (fun _ h => h)) rfl rfl rfl (hts _ ok_X2_init.2.2.2) (hts _ (wt_1 (List.mem_of_getElem? (i := 86) rfl) rfl)) (hts _ (wt_1 (List.mem_of_getElem? (i := 87) rfl) rfl)) rfl (by decide +kernel) ⟨(Nat.le_of_ble_eq_true rfl), (Nat.le_of_ble_eq_true rfl)⟩) (cPc_pre hP hK hD) rfl rfl hl.1 rfl (lv_room (Nat.le_of_ble_eq_true rfl)) (xs_dec ok_X6_init (pc := 31) rfl).1 ⟨(Nat.le_of_ble_eq_true rfl), (Nat.le_of_ble_eq_true rfl)⟩) (fun v3 Hm3 locs hw hPm3 hDm3 hSm3 => ?_)
  subst hw
  have hP : va_P D vwCl ([(a, .inr (5, [.ref (v1 0), .ref (v2 0), .null, .null, .null]))] ++ crtW T v1 ++ spnW T v2 ++ hisW T v3) Hm3 := hPm3
  have hD : va_D A ([(a, .inr (5, [.ref (v1 0), .ref (v2 0), .null, .null, .null]))] ++ crtW T v1 ++ spnW T v2 ++ hisW T v3) := hDm3
  have hS := hSm3
  refine va_putF (D := D) (ci := 5) (v := .ref (v3 0)) (ty := .object "SundialSpans$History") (C := RX6) (T := TX6) (N := 5) hx hb hts uw_X6 tyX6 tyX6_ok nmX6 hown hK.1 hP hD hS 0 rfl rfl 2 (by decide) (hts _ (wt_1 (List.mem_of_getElem? (i := 147) rfl) rfl)) (fun _ h9 => h9) rfl hin rfl (by decide +kernel) rfl rfl (Nat.le_of_ble_eq_true rfl) (xs_dec ok_X6_init (pc := 34) rfl).1 (fun H locs hP hD hS => ?_)
  have hP : va_P D vwCl ([(a, .inr (5, [.ref (v1 0), .ref (v2 0), .ref (v3 0), .null, .null]))] ++ crtW T v1 ++ spnW T v2 ++ hisW T v3) H := hP
  have hD : va_D A ([(a, .inr (5, [.ref (v1 0), .ref (v2 0), .ref (v3 0), .null, .null]))] ++ crtW T v1 ++ spnW T v2 ++ hisW T v3) := hD
  refine lv_aload_n hx hb (xs_dec ok_X6_init (pc := 37) rfl).1 rfl (lv_at hl 0 rfl) ?_
  refine va_new (ci := 3) (fs := [.null, .null]) (C := RX4) (T := TX4) (N := 2) hx hb hts uw_X4 tyX4 tyX4_ok hown (hts _ (wt_1 (List.mem_of_getElem? (i := 103) rfl) rfl)) (hts _ (wt_1 (List.mem_of_getElem? (i := 104) rfl) rfl)) (hts _ ok_X4_init.2.2.2) hK.1 hP hD hS hA rfl (fun j hj => by rcases (show j = 0 ∨ j = 1 by omega) with rfl | rfl <;> rfl) (Nat.le_of_ble_eq_true rfl) (Nat.le_of_ble_eq_true rfl) (xs_dec ok_X6_init (pc := 38) rfl).1 (fun o4 H hP hD hS => ?_)
  refine lv_dup hx hb (xs_dec ok_X6_init (pc := 41) rfl).1 rfl ?_
  refine cc_go hP hD hS hA (va_runI (n := 0) (As := []) (rest := [.ref o4, .ref a]) (Ts := xw) ⟨hx, hb, hml, hown, hts⟩ (n_X4 l D T o4 H.size) (cwI (ws' := xw) 0 hts (gw_goodIn ok_X4_init (fun _ h => h)) rfl rfl rfl (hts _ ok_X4_init.2.2.2) (hts _ (wt_1 (List.mem_of_getElem? (i := 105) rfl) rfl)) (hts _ (wt_1 (List.mem_of_getElem? (i := 106) rfl) rfl)) rfl (by decide +kernel) ⟨(Nat.le_of_ble_eq_true rfl), (Nat.le_of_ble_eq_true rfl)⟩) (cPc_pre hP hK hD) rfl rfl hl.1 rfl (lv_room (Nat.le_of_ble_eq_true rfl)) (xs_dec ok_X6_init (pc := 42) rfl).1 ⟨(Nat.le_of_ble_eq_true rfl), (Nat.le_of_ble_eq_true rfl)⟩) (fun v4 Hm4 locs hw hPm4 hDm4 hSm4 => ?_)
  subst hw
  have hP : va_P D vwCl ([(a, .inr (5, [.ref (v1 0), .ref (v2 0), .ref (v3 0), .null, .null]))] ++ crtW T v1 ++ spnW T v2 ++ hisW T v3 ++ sltW T v4) Hm4 := hPm4
  have hD : va_D A ([(a, .inr (5, [.ref (v1 0), .ref (v2 0), .ref (v3 0), .null, .null]))] ++ crtW T v1 ++ spnW T v2 ++ hisW T v3 ++ sltW T v4) := hDm4
  have hS := hSm4
  refine va_putF (D := D) (ci := 5) (v := .ref (v4 0)) (ty := .object "SundialSpans$Slots") (C := RX6) (T := TX6) (N := 5) hx hb hts uw_X6 tyX6 tyX6_ok nmX6 hown hK.1 hP hD hS 0 rfl rfl 3 (by decide) (hts _ (wt_1 (List.mem_of_getElem? (i := 148) rfl) rfl)) (fun _ h9 => h9) rfl hin rfl (by decide +kernel) rfl rfl (Nat.le_of_ble_eq_true rfl) (xs_dec ok_X6_init (pc := 45) rfl).1 (fun H locs hP hD hS => ?_)
  have hP : va_P D vwCl ([(a, .inr (5, [.ref (v1 0), .ref (v2 0), .ref (v3 0), .ref (v4 0), .null]))] ++ crtW T v1 ++ spnW T v2 ++ hisW T v3 ++ sltW T v4) H := hP
  have hD : va_D A ([(a, .inr (5, [.ref (v1 0), .ref (v2 0), .ref (v3 0), .ref (v4 0), .null]))] ++ crtW T v1 ++ spnW T v2 ++ hisW T v3 ++ sltW T v4) := hD
  refine lv_aload_n hx hb (xs_dec ok_X6_init (pc := 48) rfl).1 rfl (lv_at hl 0 rfl) ?_
  refine va_new (ci := 2) (fs := [.null, .int 0, .int 0, .int 0, .int 0, .int 0, .int 0, .int 0]) (C := RX3) (T := TX3) (N := 8) hx hb hts uw_X3 tyX3 tyX3_ok hown (hts _ (wt_1 (List.mem_of_getElem? (i := 119) rfl) rfl)) (hts _ (wt_1 (List.mem_of_getElem? (i := 120) rfl) rfl)) (hts _ ok_X3_init.2.2.2) hK.1 hP hD hS hA rfl (fun j hj => by rcases (show j = 0 ∨ j = 1 ∨ j = 2 ∨ j = 3 ∨ j = 4 ∨ j = 5 ∨ j = 6 ∨ j = 7 by omega) with rfl | rfl | rfl | rfl | rfl | rfl | rfl | rfl <;> rfl) (Nat.le_of_ble_eq_true rfl) (Nat.le_of_ble_eq_true rfl) (xs_dec ok_X6_init (pc := 49) rfl).1 (fun o5 H hP hD hS => ?_)
  refine lv_dup hx hb (xs_dec ok_X6_init (pc := 52) rfl).1 rfl ?_
  refine cc_go hP hD hS hA (va_runIN (n := 0) (As := []) (rest := [.ref o5, .ref a]) (Ts := xw) ⟨hx, hb, hml, hown, hts⟩ (n_X3 l D T o5 H.size) (⟨va_cnB (ws' := xw) 0 hts (gw_goodIn ok_X3_init (fun _ h => h)) rfl rfl rfl hK.2.2.2.1 (hts _ ok_X3_init.2.2.2) (by decide +kernel) ⟨(Nat.le_of_ble_eq_true rfl), (Nat.le_of_ble_eq_true rfl)⟩, rfl, hts _ (wt_1 (List.mem_of_getElem? (i := 122) rfl) rfl)⟩) (cPc_pre hP hK hD) rfl rfl hl.1 rfl (lv_room (Nat.le_of_ble_eq_true rfl)) (xs_dec ok_X6_init (pc := 53) rfl).1 ⟨(Nat.le_of_ble_eq_true rfl), (Nat.le_of_ble_eq_true rfl)⟩) (fun v5 Hm5 locs hw hPm5 hDm5 hSm5 => ?_)
  subst hw
  have hP : va_P D vwCl ([(a, .inr (5, [.ref (v1 0), .ref (v2 0), .ref (v3 0), .ref (v4 0), .null]))] ++ crtW T v1 ++ spnW T v2 ++ hisW T v3 ++ sltW T v4 ++ padW T v5) Hm5 := hPm5
  have hD : va_D A ([(a, .inr (5, [.ref (v1 0), .ref (v2 0), .ref (v3 0), .ref (v4 0), .null]))] ++ crtW T v1 ++ spnW T v2 ++ hisW T v3 ++ sltW T v4 ++ padW T v5) := hDm5
  have hS := hSm5
  refine va_putF (D := D) (ci := 5) (v := .ref (v5 0)) (ty := .object "SundialSpans$Pad") (C := RX6) (T := TX6) (N := 5) hx hb hts uw_X6 tyX6 tyX6_ok nmX6 hown hK.1 hP hD hS 0 rfl rfl 4 (by decide) (hts _ (wt_1 (List.mem_of_getElem? (i := 149) rfl) rfl)) (fun _ h9 => h9) rfl hin rfl (by decide +kernel) rfl rfl (Nat.le_of_ble_eq_true rfl) (xs_dec ok_X6_init (pc := 56) rfl).1 (fun H locs hP hD hS => ?_)
  have hP : va_P D vwCl ([(a, .inr (5, [.ref (v1 0), .ref (v2 0), .ref (v3 0), .ref (v4 0), .ref (v5 0)]))] ++ crtW T v1 ++ spnW T v2 ++ hisW T v3 ++ sltW T v4 ++ padW T v5) H := hP
  have hD : va_D A ([(a, .inr (5, [.ref (v1 0), .ref (v2 0), .ref (v3 0), .ref (v4 0), .ref (v5 0)]))] ++ crtW T v1 ++ spnW T v2 ++ hisW T v3 ++ sltW T v4 ++ padW T v5) := hD
  have hP := cP_arr (g := fun j => some ((vCls a v1 v2 v3 v4 v5) (13 + 6 * j))) hP (i := 12) rfl (fun j hj => by rcases (show j = 0 ∨ j = 1 ∨ j = 2 ∨ j = 3 ∨ j = 4 ∨ j = 5 ∨ j = 6 by omega) with rfl | rfl | rfl | rfl | rfl | rfl | rfl <;> rfl)
  have hD := hD.set (p := 12) (e := .inl (T 3, 7, .inr (.inr (.inr (.inr (fun j => some ((vCls a v1 v2 v3 v4 v5) (13 + 6 * j)))))))) rfl
  have hP := cP_arr (g := fun j => some ((vCls a v1 v2 v3 v4 v5) (58 + 6 * j))) hP (i := 56) rfl (fun j hj => by rcases (show j = 0 ∨ j = 1 by omega) with rfl | rfl <;> rfl)
  have hD := hD.set (p := 56) (e := .inl (T 3, 2, .inr (.inr (.inr (.inr (fun j => some ((vCls a v1 v2 v3 v4 v5) (58 + 6 * j)))))))) rfl
  refine W.widen (k := 71) (n := 1033) (Nat.le_of_ble_eq_true rfl) (Nat.le_of_ble_eq_true rfl) ?_
  exact W.vret hx hb hr (fun t ht hW => ⟨⟨(vCls a v1 v2 v3 v4 v5), rfl, rfl, by rw [ht]; exact hP, hD⟩, hS.F ht⟩) hS.2.2 (xs_dec ok_X6_init (pc := 59) rfl).1
