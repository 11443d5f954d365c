set_option maxHeartbeats 4000000 in
set_option maxRecDepth 100000 in
/-- THE LAW, from its entry -/
theorem whole_start {p : Program} {e : Env} {s : State} {m : MethodId} {below : List Frame} {meth : Method} {c : Code} (l : Launch) (hflags : l.flags = flags0) {b L : Nat} {xs : Nat → Int32} (hL : L ≤ 260) (C0 : lw_At p s m meth c b L xs) : W p l e room_1 s m #[Value.ref b] below meth c s.heap [] 0 0 (lw_Z below #[Value.ref b] s) (entryFrame m ([Value.ref b] : List Value).toArray 4) := by
  obtain ⟨hx, hb, hr, hml, hown, hts, hX, hbl, hlocks, hgv⟩ := id C0
  have hown' : s.vm.findClass RL = some m.cls := hown
  have hts' : ∀ w ∈ xw, w.before #[Value.ref b] s = true := fun w hw => hts w (xw_in hw)
  have hA : ∀ q : Nat, s.heap.size ≤ q → (fun q : Nat => s.heap.size ≤ q) q := fun _ h => h
  obtain ⟨c1, i1, kn1⟩ := u_known (C := RX1) (T := TX1) (N := 13) (n := 13) hts' uw_X1 (hts' _ (wt_1 (List.mem_of_getElem? (i := 19) rfl) rfl))
  obtain ⟨c2, i2, kn2⟩ := u_known (C := RX2) (T := TX2) (N := 3) (n := 3) hts' uw_X2 (hts' _ (wt_1 (List.mem_of_getElem? (i := 85) rfl) rfl))
  obtain ⟨c3, i3, kn3⟩ := u_known (C := RX3) (T := TX3) (N := 8) (n := 8) hts' uw_X3 (hts' _ (wt_1 (List.mem_of_getElem? (i := 120) rfl) rfl))
  obtain ⟨c4, i4, kn4⟩ := u_known (C := RX4) (T := TX4) (N := 2) (n := 2) hts' uw_X4 (hts' _ (wt_1 (List.mem_of_getElem? (i := 104) rfl) rfl))
  obtain ⟨c5, i5, kn5⟩ := u_known (C := RX5) (T := TX5) (N := 4) (n := 4) hts' uw_X5 (hts' _ (wt_1 (List.mem_of_getElem? (i := 66) rfl) rfl))
  obtain ⟨c6, i6, kn6⟩ := u_known (C := RX6) (T := TX6) (N := 5) (n := 5) hts' uw_X6 (hts' _ (wt_1 (List.mem_of_getElem? (i := 11) rfl) rfl))
  obtain ⟨tI, aI⟩ := arr_known (ty := .int) (hts _ (List.mem_append_right _ (List.mem_append_left _ (List.mem_of_getElem? (i := 64) rfl)))) (fun C h => by cases h)
  obtain ⟨tZ, aZ⟩ := arr_known (ty := .boolean) (hts _ (List.mem_append_right _ (List.mem_append_left _ (List.mem_of_getElem? (i := 118) rfl)))) (fun C h => by cases h)
  obtain ⟨tC, aC⟩ := arr_known (ty := .char) (hts _ (List.mem_append_right _ (List.mem_append_left _ (List.mem_of_getElem? (i := 144) rfl)))) (fun C h => by cases h)
  have hao := hts (Cond.arrayOver (.object "SundialSpans$Court")) (List.mem_append_right _ (List.mem_append_left _ (List.mem_of_getElem? (i := 91) rfl)))
  obtain ⟨tQ, aQ⟩ := arrq_known hao
  obtain ⟨D, hKc⟩ : ∃ D : va_G, ∀ (k : Nat) (q : vw_C), vwCl[k]? = some q → u_Kn s q.1 q.2.1 q.2.2 (D.1 k) (D.2 k) := by
    refine ⟨(fun k => match k with | 0 => c1 | 1 => c2 | 2 => c3 | 3 => c4 | 4 => c5 | _ => c6, fun k => match k with | 0 => i1 | 1 => i2 | 2 => i3 | 3 => i4 | 4 => i5 | _ => i6), ?_⟩
    intro k q hq
    match k, hq with
    | 0, hq => cases hq; exact kn1
    | 1, hq => cases hq; exact kn2
    | 2, hq => cases hq; exact kn3
    | 3, hq => cases hq; exact kn4
    | 4, hq => cases hq; exact kn5
    | 5, hq => cases hq; exact kn6
    | k + 6, hq => simp [vwCl] at hq
  obtain ⟨T, hT0, hT1, hT2, hT3⟩ : ∃ T : Nat → ClassId, T 0 = tI ∧ T 1 = tZ ∧ T 2 = tC ∧ T 3 = tQ := ⟨fun k => match k with | 0 => tI | 1 => tZ | 2 => tC | _ => tQ, rfl, rfl, rfl, rfl⟩
  subst hT0
  subst hT1
  subst hT2
  subst hT3
  have hVK : va_K D vwCl (tys4 T) s := by
    refine ⟨hKc, fun k q hq => ?_⟩
    match k, hq with
    | 0, hq => cases hq; exact aI
    | 1, hq => cases hq; exact aZ
    | 2, hq => cases hq; exact aC
    | 3, hq => cases hq; exact aQ
    | k + 4, hq => simp [tys4] at hq
  have hK : cKn D T s := ⟨hVK, va_Nw.of rfl (hts _ (List.mem_append_right _ (List.mem_append_left _ (List.mem_of_getElem? (i := 20) rfl)))), va_Nw.of rfl (hts _ (List.mem_append_right _ (List.mem_append_left _ (List.mem_of_getElem? (i := 67) rfl)))), va_Nw.of rfl (hts _ (List.mem_append_right _ (List.mem_append_left _ (List.mem_of_getElem? (i := 121) rfl)))), va_Nw.of rfl (hts _ (List.mem_append_right _ (List.mem_append_left _ (List.mem_of_getElem? (i := 92) rfl)))), va_Nw.of rfl (hts _ (List.mem_append_right _ (List.mem_append_left _ (List.mem_of_getElem? (i := 110) rfl)))), va_AO.of hao⟩
  have hNi : va_Nw (.methodLinkNest RX2 39 yX6_isError "SundialSpans") s := va_Nw.of rfl (hts _ (List.mem_append_right _ (List.mem_append_left _ (List.mem_of_getElem? (i := 190) rfl))))
  have hS : va_S (fun q : Nat => s.heap.size ≤ q) s.heap s.heap [] := va_S.rf
  have hP : va_P D vwCl [] s.heap := fun k q h => by simp at h
  have hD : va_D (fun q : Nat => s.heap.size ≤ q) [] := ⟨fun i j p q h => by simp at h, fun k q h => by simp at h⟩
  have hl := lv_entry ([.ref b]) (n := 4) (Nat.le_of_ble_eq_true rfl)
  rw [lg_entry_eq]
  generalize (lg_sl ([.ref b]) ++ List.replicate (4 - (lg_sl ([.ref b])).length) Slot.unset).toArray = ls at hl ⊢
  have hl : lv_has ls 4 [(0, .ref b)] := hl
  refine va_new (ci := 5) (fs := [.null, .null, .null, .null, .null]) (C := RX6) (T := TX6) (N := 5) hx hb hts' uw_X6 tyX6 tyX6_ok hown' (hts' _ (wt_1 (List.mem_of_getElem? (i := 10) rfl) rfl)) (hts' _ (wt_1 (List.mem_of_getElem? (i := 11) rfl) rfl)) (hts' _ ok_X6_init.2.2.2) hK.1 hP hD hS hA rfl (fun j hj => by rcases (show j = 0 ∨ j = 1 ∨ j = 2 ∨ j = 3 ∨ j = 4 by omega) with rfl | rfl | rfl | rfl | rfl <;> rfl) (Nat.le_of_ble_eq_true rfl) (Nat.le_of_ble_eq_true rfl) ld_0 (fun q1 H hP hD hS => ?_)
  refine lv_dup hx hb ld_3 rfl ?_
  refine cc_go hP hD hS hA (va_runI (n := 0) (As := []) (rest := [.ref q1]) (Ts := xw) ⟨hx, hb, hml, hown', hts'⟩ (n_X6 l D T q1 H.size) (cwI (ws' := xw) 0 hts' (gw_goodIn ok_X6_init (fun _ h => h)) rfl rfl rfl (hts' _ ok_X6_init.2.2.2) (hts' _ (wt_1 (List.mem_of_getElem? (i := 12) rfl) rfl)) (hts' _ (wt_1 (List.mem_of_getElem? (i := 13) rfl) rfl)) rfl (by decide +kernel) ⟨(Nat.le_of_ble_eq_true rfl), (Nat.le_of_ble_eq_true rfl)⟩) (cPc_pre hP hK hD) rfl rfl hl.1 rfl (lv_room (Nat.le_of_ble_eq_true rfl)) ld_4 ⟨(Nat.le_of_ble_eq_true rfl), (Nat.le_of_ble_eq_true rfl)⟩) (fun v Hv locsv hwv hPv hDv hSv => ?_)
  subst hwv
  have hP : va_P D vwCl ([] ++ clsW T v) Hv := hPv
  have hD : va_D (fun q : Nat => s.heap.size ≤ q) ([] ++ clsW T v) := hDv
  have hS := hSv
  refine lv_astore_n (lv' := [(1, .ref (v 0)), (0, .ref b)]) hx hb ld_7 rfl hl (by decide) rfl (fun ls hl => ?_)
  refine lv_bipush (v := 45) hx hb ld_8 rfl ?_
  refine cw_newI (T := T) (t := 0) (ty := .int) (atype := .int) (N' := 45) hx hb (hts' _ xs_w_ari) rfl rfl hK hP hD hS hA (fun _ => rfl) (by decide) (by decide) (Nat.le_of_ble_eq_true rfl) (Nat.le_of_ble_eq_true rfl) (Nat.le_of_ble_eq_true rfl) ld_10 (fun w Hw hPw hDw hSw => ?_)
  refine lv_astore_n (lv' := [(2, .ref w), (1, .ref (v 0)), (0, .ref b)]) hx hb ld_12 rfl hl (by decide) rfl (fun ls hl => ?_)
  refine lv_iconst (v := 0) hx hb ld_13 rfl ?_
  refine lv_istore_n (lv' := [(3, .int 0), (2, .ref w), (1, .ref (v 0)), (0, .ref b)]) hx hb ld_14 rfl hl (by decide) rfl (fun ls hl => ?_)
  refine W.widen (k := 100) (n := 3000) (Nat.le_of_ble_eq_true rfl) (Nat.le_of_ble_eq_true rfl) ?_
  have hP := cP_arr (g := fun j => bif Nat.blt j 7 then some (vAll v w (13 + 6 * j)) else none) hPw (i := 12) rfl (fun j hj => by rcases (show j = 0 ∨ j = 1 ∨ j = 2 ∨ j = 3 ∨ j = 4 ∨ j = 5 ∨ j = 6 by omega) with rfl | rfl | rfl | rfl | rfl | rfl | rfl <;> rfl)
  have hD := hDw.set (p := 12) (e := .inl (T 3, 7, .inr (.inr (.inr (.inr (fun j => bif Nat.blt j 7 then some (vAll v w (13 + 6 * j)) else none)))))) rfl
  have hP := cP_arr (g := fun j => bif Nat.blt j 2 then some (vAll v w (58 + 6 * j)) else none) hP (i := 56) rfl (fun j hj => by rcases (show j = 0 ∨ j = 1 by omega) with rfl | rfl <;> rfl)
  have hD := hD.set (p := 56) (e := .inl (T 3, 2, .inr (.inr (.inr (.inr (fun j => bif Nat.blt j 2 then some (vAll v w (58 + 6 * j)) else none)))))) rfl
  have hP : va_P D vwCl (xs_ws (xg (vAll v w, D, T, (73, 0), (0, 0), (0, 0)) 0 0) st0) Hw := by
    rw [← ws0]
    exact hP
  have hD : va_D (fun q : Nat => s.heap.size ≤ q) (xs_ws (xg (vAll v w, D, T, (73, 0), (0, 0), (0, 0)) 0 0) st0) := by
    rw [← ws0 (D := D)]
    exact hD
  have C : lC p s m meth c b L xs (vAll v w, D, T, (73, 0), (0, 0), (0, 0)) := ⟨C0, ok_of hD (Nat.le_refl _) (Nat.le_refl _) (Nat.le_refl _), hVK, hNi, Nat.le_refl _⟩
  have hgo := law_loop (l := l) (e := e) (below := below) C hL 36 0 st0 (by omega) j0 (fun h => by omega)
  rw [nI_0] at hgo
  exact hgo Hw locsv ls hSw hP (lv_sub hl [3, 2, 1, 0] rfl)
