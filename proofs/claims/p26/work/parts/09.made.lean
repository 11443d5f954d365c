/-! cells that a method makes: arrays of ints behind the others -/
/-- references below n -/
def xs_rl (n : Nat) : Value → Bool
  | .ref k => Nat.blt k n
  | _ => true
theorem xs_v_n {G : xs_G} {a len : Nat} {v : Value} (h : xs_rl (gN G) v = true) : xs_v (xn G a len) v = xs_v G v := by
  cases v with
  | ref k =>
    have h1 : k < gN G := Nat.le_of_ble_eq_true h
    show Value.ref (bif Nat.beq k (gN G) then a else G.1 k) = Value.ref (G.1 k)
    have h2 : Nat.beq k (gN G) = false := by
      cases hb : Nat.beq k (gN G) with
      | false => rfl
      | true => exact absurd (Nat.eq_of_beq_eq_true hb) (Nat.ne_of_lt h1)
    rw [h2]
    rfl
  | _ => rfl
theorem xs_map_n {G : xs_G} {a len : Nat} {vs : List Value} (h : vs.all (xs_rl (gN G)) = true) : vs.map (xs_v (xn G a len)) = vs.map (xs_v G) := List.map_congr_left (fun v hv => xs_v_n (List.all_eq_true.mp h v hv))
theorem xs_lv_n {G : xs_G} {a len : Nat} {lv : List (Nat × Value)} (h : lv.all (fun q => xs_rl (gN G) q.2) = true) : lv.map (fun q => (q.1, xs_v (xn G a len) q.2)) = lv.map (fun q => (q.1, xs_v G q.2)) := List.map_congr_left (fun q hq => by rw [xs_v_n (List.all_eq_true.mp h q hq)])
theorem xn_o {G : xs_G} {a len k : Nat} (hk : k < gN G) : (xn G a len).1 k = G.1 k := by
  show (bif Nat.beq k (gN G) then a else G.1 k) = G.1 k
  cases hb : Nat.beq k (gN G) with
  | false => rfl
  | true => exact absurd (Nat.eq_of_beq_eq_true hb) (Nat.ne_of_lt hk)
theorem xn_s {G : xs_G} {a len : Nat} : (xn G a len).1 (gN G) = a := by
  show (bif Nat.beq (gN G) (gN G) then a else G.1 (gN G)) = a
  rw [show Nat.beq (gN G) (gN G) = true from Nat.beq_refl _]
  rfl
theorem xs_ws_n {G : xs_G} {a len : Nat} {st : xs_S} {f : Nat → Int32} (h73 : 73 ≤ gN G) (hL : gN G = 73 ∨ len = gL G) : xs_ws (xn G a len) (xs_ur st (gN G) f) = xs_ws G st ++ [(a, .inl (G.2.2.1 0, len, .inl f))] := by
  unfold xs_ws
  rw [show gN (xn G a len) = gN G + 1 from rfl, List.range_succ, List.map_append, List.map_singleton]
  congr 1
  · refine List.map_congr_left (fun k hk => ?_)
    have hk := List.mem_range.mp hk
    have h1 : xs_cell (xn G a len) (xs_ur st (gN G) f) k = xs_cell G st k := by
      rw [xs_cell_n (xs_ur_n (show k ≠ gN G by omega))]
      by_cases hc : k < 73
      · exact xs_cell_73 hc (fun j hj => xn_o (by omega)) rfl
      · have e1 : xs_shg (xn G a len) k = some (.inl (0, len)) := by
          unfold xs_shg
          rw [xs_bltF hc, cond_false, xs_bltT (show k < gN (xn G a len) by show k < gN G + 1; omega), cond_true]
        have e2 : xs_shg G k = some (.inl (0, gL G)) := by
          unfold xs_shg
          rw [xs_bltF hc, cond_false, xs_bltT hk, cond_true]
        rw [xs_cell_a e1 rfl, xs_cell_a e2 rfl]
        rcases hL with h | h
        · omega
        · rw [h]
    rw [h1, xn_o hk]
  · have e1 : xs_shg (xn G a len) (gN G) = some (.inl (0, len)) := by
      unfold xs_shg
      rw [xs_bltF (by omega), cond_false, xs_bltT (show gN G < gN (xn G a len) by show gN G < gN G + 1; omega), cond_true]
    rw [xs_cell_a e1 rfl, xn_s, xs_ur_s]
theorem xs_ok_n {G : xs_G} {base a len : Nat} {st : xs_S} {e : va_E} (h : xs_ok G base) (hD : va_D (fun q => base ≤ q) (xs_ws G st ++ [(a, e)])) (hc : gc G + 1 ≤ gmc G) (hs : gs G + len ≤ gms G) : xs_ok (xn G a len) base := by
  have hlen : (xs_ws G st).length = gN G := by simp [xs_ws]
  have at' : ∀ i : Nat, i < gN G + 1 → ∃ e' : va_E, (xs_ws G st ++ [(a, e)])[i]? = some ((xn G a len).1 i, e') := by
    intro i hi
    by_cases hl : i < gN G
    · exact ⟨xs_cell G st i, by rw [List.getElem?_append_left (by omega), xs_ws_at hl, xn_o hl]⟩
    · have hi2 : i = gN G := by omega
      subst hi2
      exact ⟨e, by rw [List.getElem?_append_right (by omega), hlen, Nat.sub_self, xn_s]; rfl⟩
  refine ⟨fun i j hi hj q => ?_, fun i hi => ?_, by show 73 ≤ gN G + 1; have := h.2.2.1; omega, hc, hs⟩
  · obtain ⟨e1, h1⟩ := at' i hi
    obtain ⟨e2, h2⟩ := at' j hj
    exact hD.1 i j _ _ h1 h2 q
  · obtain ⟨e1, h1⟩ := at' i hi
    exact hD.2 i _ h1
theorem xs_le_n {G0 G : xs_G} {a len : Nat} (h : xs_le G0 G) (h0 : gN G0 = 73) : xs_le G0 (xn G a len) := by
  rcases h with h | ⟨h1, h2, h3, h4, h5⟩
  · subst h
    exact Or.inr ⟨h0, by show 73 ≤ gN G + 1; omega, fun k hk => xn_o (by omega), rfl, rfl⟩
  · exact Or.inr ⟨h0, by show 73 ≤ gN G + 1; omega, fun k hk => by rw [xn_o (by omega), h3 k hk], h4, h5⟩
theorem ra_find {U : State} {cA : ClassId} {ty : FieldType} (h : va_RA U cA ty) : U.vm.findClass ("[" ++ ty.toString) = some cA := by
  cases ty with
  | object C =>
    obtain ⟨kA, comp, h1, h2, h3, h4⟩ := h
    exact h4
  | _ => exact h
theorem xs_w_ari : Jvm.Cond.arrayClass .int ∈ xw := wt_1 (List.mem_of_getElem? (i := 64) rfl) rfl
section XN
variable {G : xs_G} {base d : Nat} {M : xs_M} {pc t : Nat} {lit : Int32} {lv : List (Nat × Value)} {rest : List Value} {st : xs_S} {Z : xs_Z}
theorem xr_newI {n : Int32} (len : Nat) (hM : xs_good M) (hlk : xs_lk (xm_tb M) pc = some (.newarray .int, 2, lit, t)) (hn : ¬ n < 0) (hlen : n.toNatClampNeg = len) (hb45 : Nat.ble len 1000 = true) (hroom : gc G + 1 ≤ gmc G ∧ gs G + len ≤ gms G) (hL : gN G = 73 ∨ len = gL G) (hlv : lv.all (fun q => xs_rl (gN G) q.2) = true) (hrs : rest.all (xs_rl (gN G)) = true) (hk : ∀ a : Nat, xs_R (xn G a len) base d M (pc + 2, lv, .ref (gN G) :: rest, xs_ur st (gN G) (fun _ => 0)) Z) : xs_R G base d M (pc, lv, .int n :: rest, st) Z := by
  intro p l e s m args below meth c H locs ls hF hK hS hP hl
  have hF' := hF
  obtain ⟨hx, hb, hr, hml, hown, hts, hlocks⟩ := hF
  have hdg := (xs_dec hM.1 hlk).1
  have hlen' := Nat.le_of_ble_eq_true hb45
  refine va_newa (atype := .int) (a0 := (len, .inl (fun _ => 0))) hx hb (hts _ xs_w_ari) rfl hK.2.1 hP (xs_D hK.1) hS (fun q hq => Nat.le_trans hK.2.2.2 hq) (fun _ => rfl) hn hlen (by show len * 4 ≤ 536870912; omega) hroom.1 hroom.2 hdg (fun q cA H1 hK1 hP1 hD1 hS1 => ?_)
  have hcA : cA = G.2.2.1 0 := by
    have h1 := ra_find (hK1.2 0 (G.2.2.1 0, .int) rfl).2
    have h2 := ra_find (hK1.2 4 (cA, .int) rfl).2
    rw [h1] at h2
    exact (Option.some.inj h2).symm
  subst hcA
  rw [← xs_ws_n hK.1.2.2.1 hL] at hP1
  have hg := hk q p l e s m args below meth c H1 locs ls hF' ⟨xs_ok_n hK.1 hD1 hroom.1 hroom.2, hK.2.1, hK.2.2.1, hK.2.2.2⟩ hS1 hP1 (by rw [xs_lv_n hlv]; exact hl)
  dsimp only at hg
  rw [List.map_cons, xs_map_n hrs, show xs_v (xn G q len) (.ref (gN G)) = .ref q by show Value.ref _ = _; rw [xn_s]] at hg
  exact hg
/-- a static method that makes one array and gives it back -/
theorem xr_callE {i d' len : Nat} {N : xs_M} {av stk : List Value} {F : xs_S} (hM : xs_good M) (hN : xs_good N) (hk : xs_kS (xm_own M) i N) (hlk : xs_lk (xm_tb M) pc = some (.invokestatic i, 3, lit, t)) (hG : gN G = 73)
    (hK' : xs_KZ (G.1, G.2.1, G.2.2.1, G.2.2.2.1, (1, len), (0, 0)) base d' N av st (fun G' v u => (∃ a : Nat, G' = xn (G.1, G.2.1, G.2.2.1, G.2.2.2.1, (1, len), (0, 0)) a len) ∧ v = some (.ref 73) ∧ u = F)) (hd : d' + 1 ≤ d) (hstk : stk = av.reverse ++ rest) (hn : av.length = xm_n N) (hcat : Nat.ble ((rest.map fun v => v.category).sum) 8 = true) (hroom : gc G + 1 ≤ gmc G ∧ gs G + len ≤ gms G) (hlv : lv.all (fun q => xs_rl 73 q.2) = true) (hrs : rest.all (xs_rl 73) = true) (kk : ∀ a : Nat, xs_R (xn G a len) base d M (pc + 3, lv, .ref 73 :: rest, F) Z) : xs_R G base d M (pc, lv, stk, st) Z := by
  subst hstk
  intro p l e s m args below meth c H locs ls hF hK hS hP hl
  have hF' := hF
  obtain ⟨hx, hb, hr, hml, hown, hts, hlocks⟩ := hF
  have hdg := (xs_dec hM.1 hlk).1
  refine xs_callZ (rest := rest) (a := 1) (b := len) (ar := (av.map (xs_v G)).toArray) hS (va_runS (n := xm_n N) (As := av.map (xs_v G)) (rest := rest.map (xs_v G)) (Ts := xw) ⟨hx, hb, hml, hown, hts⟩ (hK' l) ⟨xs_callB (G' := (G.1, G.2.1, G.2.2.1, G.2.2.2.1, (1, len), (0, 0))) hN.1 hts hk.1 hd, hts _ hk.2⟩ ⟨xs_blind (G := (G.1, G.2.1, G.2.2.1, G.2.2.2.1, (1, len), (0, 0))), fun U hU hW => ⟨rfl, xs_Kn.warm hW hK.call (by rw [hU]; exact Nat.le_trans hK.2.2.2 hS.1), by rw [hU]; exact hP⟩⟩ rfl (by rw [List.length_map]; exact hn) hl.1 (by show ((av.reverse ++ rest).map (xs_v G)) = _; rw [List.map_append, List.map_reverse]) (lv_room (by rw [xs_v_sum]; exact Nat.le_of_ble_eq_true hcat)) hdg hroom) (fun G' r u H1 locs1 hZ hok hP1 hS1 => ?_)
  obtain ⟨⟨a, rfl⟩, rfl, rfl⟩ := hZ
  have hg := kk a p l e s m args below meth c H1 locs1 ls hF' ⟨⟨hok.1, hok.2.1, hok.2.2.1, hroom.1, hroom.2⟩, hK.2.1, hK.2.2.1, hK.2.2.2⟩ hS1 hP1 (by rw [xs_lv_n (by rw [hG]; exact hlv)]; exact hl)
  dsimp only at hg
  rw [List.map_cons, xs_map_n (by rw [hG]; exact hrs)] at hg
  exact hg
end XN
