theorem be_lt {P : Nat → Bool} {lo hi : Nat → Int} {e : Nat} (he : e < 30) (hp : PE P e = true) : BE P lo hi (KE lo hi e) < cn (PE P) 30 := by
  unfold BE
  refine cn_lt 30 (fun k hk h => ?_) ⟨e, he, ?_, hp⟩
  · simp only [Bool.and_eq_true] at h
    exact h.1
  · rw [decide_eq_false (Int.lt_irrefl _), Bool.and_false]
theorem k_parts {s : xs_S} {key : Int32} {T : Int} {e : Nat} (he : e < 30) (h : key.toInt = T * 32 + ((16 * (e / 15) + e % 15 : Nat) : Int)) : (F_X5_timeOfKey s key).toInt = T ∧ F_X5_dialOfKey s key = nI (e % 15) ∧ F_X5_sideOfKey s key = nI (e / 15) := by
  have e32 : (32 : Int32).toInt = 32 := by decide
  have e16 : (16 : Int32).toInt = 16 := by decide
  unfold F_X5_timeOfKey F_X5_dialOfKey F_X5_sideOfKey
  refine ⟨?_, ?_, ?_⟩
  · rw [fd_32, h]
    omega
  · apply xi_eq.mpr
    rw [fm_pos (by rw [e16]; decide), e16, h, nI_toInt (by omega)]
    omega
  · have hm : (F_floorMod s key 32).toInt = ((16 * (e / 15) + e % 15 : Nat) : Int) := by
      rw [fm_pos (by rw [e32]; decide), e32, h]
      omega
    have hm' : F_floorMod s key 32 = nI (16 * (e / 15) + e % 15) := xi_eq.mpr (by rw [hm, nI_toInt (by omega)])
    have hd : ∀ e, e < 30 → nI (16 * (e / 15) + e % 15) / 16 = nI (e / 15) := by decide +kernel
    rw [hm', hd e he]