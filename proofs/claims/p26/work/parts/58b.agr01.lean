theorem a01_181 : ∀ (n : Nat) (x2 x3 x4 x5 x6 x10 x11 : Int32) (s : xs_S), (lp_L_agrees_181 n x2 x3 x4 x5 x6 x10 x11 s).1 = 0 ∨ (lp_L_agrees_181 n x2 x3 x4 x5 x6 x10 x11 s).1 = 1 := by
  intro n
  induction n with
  | zero => intro x2 x3 x4 x5 x6 x10 x11 s; exact Or.inl rfl
  | succ n ih =>
    intro x2 x3 x4 x5 x6 x10 x11 s
    rw [lp_L_agrees_181]
    repeat' split
    all_goals first | exact ih _ _ _ _ _ _ _ _ | exact Or.inl rfl | exact Or.inr rfl
theorem a01_66 : ∀ (n : Nat) (x2 x3 x4 x5 x6 x10 : Int32) (s : xs_S), (lp_L_agrees_66 n x2 x3 x4 x5 x6 x10 s).1 = 0 ∨ (lp_L_agrees_66 n x2 x3 x4 x5 x6 x10 s).1 = 1 := by
  intro n
  induction n with
  | zero => intro x2 x3 x4 x5 x6 x10 s; exact Or.inl rfl
  | succ n ih =>
    intro x2 x3 x4 x5 x6 x10 s
    rw [lp_L_agrees_66]
    repeat' split
    all_goals first | exact ih _ _ _ _ _ _ _ | exact a01_181 _ _ _ _ _ _ _ _ _ | exact Or.inl rfl | exact Or.inr rfl
theorem agrees_01 (s : xs_S) : (F_L_agrees s).1 = 0 ∨ (F_L_agrees s).1 = 1 := by
  unfold F_L_agrees
  split <;> exact a01_66 _ _ _ _ _ _ _ _
