/-! the first memory -/
def isCt (k : Nat) : Bool := Nat.beq k 1 || (Nat.beq k 13 || (Nat.beq k 19 || (Nat.beq k 25 || (Nat.beq k 31 || (Nat.beq k 37 || (Nat.beq k 43 || (Nat.beq k 49 || (Nat.beq k 58 || Nat.beq k 64))))))))
def ctF (i : Nat) : Int32 := bif Nat.beq i 0 then 2 else bif Nat.beq i 1 then 3 else 0
def st0 : xs_S := fun k => bif isCt k then ctF else fun _ => 0
def vAll (v : Nat → Nat) (w : Nat) (k : Nat) : Nat := bif Nat.blt k 72 then v k else w
theorem j0_c1 : (0 ≤ (st0 1 0).toInt ∧ (st0 1 0).toInt ≤ 60) ∧ (1 ≤ (st0 1 1).toInt ∧ (st0 1 1).toInt ≤ 20) ∧ (0 ≤ (st0 1 2).toInt ∧ (st0 1 2).toInt ≤ 400 * ((0 : Nat) : Int)) ∧ (0 ≤ (st0 1 3).toInt ∧ (st0 1 3).toInt ≤ 15) ∧ (0 ≤ (st0 1 6).toInt ∧ (st0 1 6).toInt ≤ ((0 : Nat) : Int)) := by decide +kernel
theorem j0 : J 0 st0 := by
  have z : ∀ k : Nat, bt 0 k = true → False := fun k h => by rw [bt_0] at h; exact absurd h (by decide)
  have e2 : ∀ k : Nat, st0 2 k = 0 := fun _ => rfl
  have e3 : ∀ k : Nat, st0 3 k = 0 := fun _ => rfl
  have e4 : ∀ k : Nat, st0 4 k = 0 := fun _ => rfl
  have e5 : ∀ k : Nat, st0 5 k = 0 := fun _ => rfl
  have e6 : ∀ k : Nat, st0 6 k = 0 := fun _ => rfl
  have f4 : st0 1 4 = 0 := rfl
  have f5 : st0 1 5 = 0 := rfl
  have f2 : st0 1 2 = 0 := rfl
  have f3 : st0 1 3 = 0 := rfl
  refine ⟨⟨j0_c1, fun k hk => ?_, fun k hk h => ?_, fun k hk h => ?_⟩, fun k hk h => ?_⟩
  · rw [e2, e3, e4, e5, e6, f2, xi_0]
    omega
  · rw [f4] at h
    exact (z k h).elim
  · rw [f5] at h
    exact (z k h).elim
  · rw [f3, xi_0] at h
    omega
theorem ok_of {G : xs_G} {base : Nat} {st : xs_S} (hD : va_D (fun q => base ≤ q) (xs_ws G st)) (h73 : 73 ≤ gN G) (hc : gc G ≤ gmc G) (hs : gs G ≤ gms G) : xs_ok G base := ⟨fun i j hi hj e => hD.1 i j _ _ (xs_ws_at hi) (xs_ws_at hj) e, fun i hi => hD.2 i _ (xs_ws_at hi), h73, hc, hs⟩
/-- the classes of arrays, out of the tables -/
theorem arr_known {args : Array Value} {s : State} {ty : FieldType} (h : (Cond.arrayClass ty).before args s = true) (hp : ∀ C, ty ≠ .object C) : ∃ cA : ClassId, ArrOfT s cA ty ∧ va_RA s cA ty := by
  obtain ⟨cA, k, comp, h1, h2, h3⟩ := Cond.arrayClass_spec h
  refine ⟨cA, fun n z => ⟨fun k h => (by cases h), k, h2, comp, h3⟩, ?_⟩
  cases ty with
  | object C => exact absurd rfl (hp C)
  | _ => exact h1
theorem arrq_known {args : Array Value} {s : State} {C : String} (h : (Cond.arrayOver (.object C)).before args s = true) : ∃ cA : ClassId, ArrOfT s cA (.object C) ∧ va_RA s cA (.object C) := by
  obtain ⟨comp, cA, kA, h1, h2, h3, h4, h5⟩ := Cond.arrayOver_spec h
  exact ⟨cA, fun n z => ⟨fun k h => (by cases h), kA, h3, comp, h4⟩, kA, comp, h3, h4, h1, h5⟩
set_option maxRecDepth 100000 in
set_option maxHeartbeats 4000000 in
theorem ws0 {D : va_G} {T : Nat → ClassId} {v : Nat → Nat} {w : Nat} : (((([] : va_W) ++ clsW T v) ++ ([(w, .inl (T 0, 45, .inl (fun _ => 0)))] : va_W)).set 12 (v 12, .inl (T 3, 7, .inr (.inr (.inr (.inr (fun j => bif Nat.blt j 7 then some (vAll v w (13 + 6 * j)) else none))))))).set 56 (v 56, .inl (T 3, 2, .inr (.inr (.inr (.inr (fun j => bif Nat.blt j 2 then some (vAll v w (58 + 6 * j)) else none)))))) = xs_ws (xg (vAll v w, D, T, (73, 0), (0, 0), (0, 0)) 0 0) st0 := rfl
