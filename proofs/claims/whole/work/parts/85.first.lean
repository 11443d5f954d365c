/-! the first memory -/
def isCt (k : Nat) : Bool := Nat.beq k 1 || (Nat.beq k 13 || (Nat.beq k 19 || (Nat.beq k 25 || (Nat.beq k 31 || (Nat.beq k 37 || (Nat.beq k 43 || (Nat.beq k 49 || (Nat.beq k 58 || Nat.beq k 64))))))))
def ctF (i : Nat) : Int32 := bif Nat.beq i 0 then 2 else bif Nat.beq i 1 then 3 else 0
def st0 : xs_S := fun k => bif isCt k then ctF else bif Nat.beq k 73 then upd (upd (fun _ => 0) 0 2) 1 3 else fun _ => 0
def vAll (v w : Nat → Nat) (k : Nat) : Nat := bif Nat.blt k 72 then v k else w (k - 72)
theorem upd_at {f : Nat → Int32} {i : Nat} {v : Int32} {j : Nat} : upd f i v j = if j = i then v else f j := rfl
theorem row0 : ∀ j : Nat, st0 73 j = ctF j := by
  intro j
  show upd (upd (fun _ => 0) 0 2) 1 3 j = ctF j
  rw [xs_uf_upd, xs_uf_upd]
  unfold ctF xs_uf
  cases h0 : Nat.beq j 0 with
  | true =>
    have e := Nat.eq_of_beq_eq_true h0
    subst e
    rfl
  | false => rfl
theorem inv0_c1 : ∀ k, k < 15 → ctF (6 + 7 * k) = 0 ∧ ctF (12 + 7 * k) = 0 ∧ ctF (7 + 7 * k) = 0 ∧ ctF (8 + 7 * k) = 0 ∧ ctF (9 + 7 * k) = 0 ∧ ctF (10 + 7 * k) = 0 ∧ ctF (11 + 7 * k) = 0 := by decide +kernel
theorem inv0 : Inv st0 := by
  have z : ∀ k : Nat, bt 0 k = true → False := fun k h => by rw [bt_0] at h; exact absurd h (by decide)
  have e4 : st0 1 4 = 0 := rfl
  have e5 : st0 1 5 = 0 := rfl
  have eR : ∀ j : Nat, st0 73 j = ctF j := row0
  refine ⟨⟨⟨?_, ?_, ?_, ?_, ?_, ?_⟩, fun k hk => ?_, fun k hk h => ?_, fun k hk h => ?_⟩, ⟨⟨?_, ?_, ?_, ?_⟩, fun k hk => ?_⟩, ⟨0, 0, by decide, by decide, rfl, rfl, rfl, fun i hi => by omega⟩, fun s hs => ⟨Or.inl rfl, rfl, fun h => ?_⟩, rfl, ⟨by decide, by decide⟩, fun i hi => ?_, ⟨by decide, by decide⟩⟩
  · rw [eR]; rfl
  · rw [eR]; rfl
  · rw [eR]; rfl
  · rw [eR]; rfl
  · rw [eR]; rfl
  · rw [eR]; rfl
  · obtain ⟨h6, h12, h7, h8, h9, h10, h11⟩ := inv0_c1 k hk
    rw [eR, eR, eR, eR, eR, eR, eR, h6, h12, h7, h8, h9, h10, h11, e4, e5, if_neg (fun h => z k h)]
    exact ⟨⟨rfl, rfl⟩, rfl, rfl, rfl, rfl, rfl⟩
  · rw [e4] at h
    exact (z k h).elim
  · rw [e5] at h
    exact (z k h).elim
  · rw [eR]; exact ⟨by decide, by decide⟩
  · rw [eR]; exact ⟨by decide, by decide⟩
  · rw [eR]; exact ⟨by decide, by decide⟩
  · rw [eR]; exact ⟨by decide, by decide⟩
  · obtain ⟨h6, h12, h7, h8, h9, h10, h11⟩ := inv0_c1 k hk
    have e2 : ctF 2 = 0 := rfl
    simp only [eR, h6, h12, h7, h8, h9, h10, h11, e2]
    decide
  · exact absurd h (by rw [show st0 57 s = 0 from rfl]; decide)
  · rw [show st0 72 7 = 0 from rfl, xi_0] at hi
    omega
theorem ok_of {G : xs_G} {base : Nat} {st : xs_S} (hD : va_D (fun q => base ≤ q) (xs_ws G st)) : xs_ok G base := ⟨fun i j hi hj e => hD.1 i j _ _ (xs_ws_at hi) (xs_ws_at hj) e, fun i hi => hD.2 i _ (xs_ws_at hi)⟩
/-- the classes of arrays, out of the tables -/
theorem arr_known {args : Array Value} {s : State} {ty : FieldType} (h : (Cond.arrayClass ty).before args s = true) (hp : ∀ C, ty ≠ .object C) : ∃ cA : ClassId, ArrOfT s cA ty ∧ va_RA s cA ty := by
  obtain ⟨cA, k, comp, h1, h2, h3⟩ := Cond.arrayClass_spec h
  refine ⟨cA, fun n z => ⟨fun k h => (by cases h), k, h2, comp, h3⟩, ?_⟩
  cases ty with
  | object C => exact absurd rfl (hp C)
  | _ => exact h1
theorem arrq_known {args : Array Value} {s : State} {C : String} (h : (Cond.arrayOver (.object C)).before args s = true) : ∃ cA : ClassId, ArrOfT s cA (.object C) ∧ va_RA s cA (.object C) := by
  obtain ⟨comp, cA, kA, h1, h2, h3, h4, h5⟩ := Cond.arrayOver_spec h
  exact ⟨cA, fun n z => ⟨fun k h => (by cases h), kA, h3, comp, h4⟩, kA, comp, h3, h4, h1, h5⟩
set_option maxRecDepth 100000 in
set_option maxHeartbeats 4000000 in
theorem ws0 {D : va_G} {T : Nat → ClassId} {v w : Nat → Nat} : ((([] ++ clsW T v) ++ modW T w).set 12 (v 12, .inl (T 3, 7, .inr (.inr (.inr (.inr (fun j => some (vAll v w (13 + 6 * j))))))))).set 56 (v 56, .inl (T 3, 2, .inr (.inr (.inr (.inr (fun j => some (vAll v w (58 + 6 * j)))))))) = xs_ws (vAll v w, D, T) st0 := rfl
