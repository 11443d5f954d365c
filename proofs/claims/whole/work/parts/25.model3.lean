theorem xm_m2 {m : Int32} (h : 1 ≤ m) : 1 ≤ m.toInt := by
  rw [xi_le, xi_1] at h
  exact h
theorem xm_te {e : Int32} (h : 0 ≤ e.toInt ∧ e.toInt < 30) (h1 : 15 ≤ e) : 0 ≤ (e - 15).toInt ∧ (e - 15).toInt < 15 := by
  have h15 : (15 : Int32).toInt = 15 := by decide
  rw [xi_le] at h1
  rw [xi_sub (by rw [h15]; omega), h15]
  omega
theorem xm_tf {e : Int32} (h : 0 ≤ e.toInt ∧ e.toInt < 30) (h1 : ¬ 15 ≤ e) : 0 ≤ e.toInt ∧ e.toInt < 15 := by
  have h15 : (15 : Int32).toInt = 15 := by decide
  rw [xi_le] at h1
  omega
theorem xm_30 {x : Int32} {n : Nat} (h : xs_lo x 30 n) (hc : ¬ 30 ≤ x) : 0 ≤ x.toInt ∧ x.toInt < 30 := xs_lo_in h hc
theorem xm_c6 {w : Int32} (h : w.toInt = 6 ∨ w.toInt = 7) : 0 ≤ (w - 6).toInt ∧ (w - 6).toInt < 111 := by
  have h6 : (6 : Int32).toInt = 6 := by decide
  rw [xi_sub (by rw [h6]; omega), h6]
  omega
theorem xm_60 {h : Int32} (hh : 0 ≤ h.toInt ∧ h.toInt ≤ 200) : 0 ≤ (60 * h).toInt ∧ (60 * h).toInt ≤ 16000 := by
  have h6 : (60 : Int32).toInt = 60 := by decide
  rw [xi_mul (by rw [h6]; omega), h6]
  omega
def F_X7_of (st : xs_S) (dial : Int32) (what : Int32) : Int32 × xs_S := (if (F_X7_isDial st dial) = 0 then ((-1), st)
    else (if ((((F_X7_layOut st 0 (-6)) 72 11) >>> (dial &&& 31)) &&& 1) = 1 then (if (F_X7_its (F_X7_layOut st 0 (-6)) dial 0) = 1 then (if what.toInt = 0 then ((((F_X7_layOut st 0 (-6)) 81 dial.toInt.toNat) + 100000), (F_X7_layOut st 0 (-6)))
          else (if what.toInt = 1 then ((((F_X7_layOut st 0 (-6)) 82 dial.toInt.toNat) + 100000), (F_X7_layOut st 0 (-6)))
            else (if what.toInt = 2 then ((((F_X7_layOut st 0 (-6)) 73 2) - (F_X7_its (F_X7_layOut st 0 (-6)) dial 3)), (F_X7_layOut st 0 (-6)))
              else (if what.toInt = 3 then ((F_X7_its (F_X7_layOut st 0 (-6)) dial 2), (F_X7_layOut st 0 (-6)))
                else (if what.toInt = 4 then ((F_X7_its (F_X7_layOut st 0 (-6)) dial what), (F_X7_layOut st 0 (-6)))
                  else (if what.toInt = 5 then ((F_X7_its (F_X7_layOut st 0 (-6)) dial what), (F_X7_layOut st 0 (-6)))
                    else (if what.toInt = 6 then ((F_X7_its (F_X7_layOut st 0 (-6)) dial what), (F_X7_layOut st 0 (-6)))
                      else ((-2), (F_X7_layOut st 0 (-6))))))))))
        else (if what.toInt = 0 then ((((F_X7_layOut st 0 (-6)) 81 dial.toInt.toNat) + 100000), (F_X7_layOut st 0 (-6)))
          else (if what.toInt = 1 then ((((F_X7_layOut st 0 (-6)) 82 dial.toInt.toNat) + 100000), (F_X7_layOut st 0 (-6)))
            else (if what.toInt = 2 then ((-6), (F_X7_layOut st 0 (-6)))
              else (if what.toInt = 3 then ((-6), (F_X7_layOut st 0 (-6)))
                else (if what.toInt = 4 then ((F_X7_its (F_X7_layOut st 0 (-6)) dial what), (F_X7_layOut st 0 (-6)))
                  else (if what.toInt = 5 then ((F_X7_its (F_X7_layOut st 0 (-6)) dial what), (F_X7_layOut st 0 (-6)))
                    else (if what.toInt = 6 then ((F_X7_its (F_X7_layOut st 0 (-6)) dial what), (F_X7_layOut st 0 (-6)))
                      else ((-2), (F_X7_layOut st 0 (-6)))))))))))
      else (if (F_X7_its (F_X7_layOut st 0 (-6)) dial 0) = 1 then (if what.toInt = 0 then ((-6), (F_X7_layOut st 0 (-6)))
          else (if what.toInt = 1 then ((-6), (F_X7_layOut st 0 (-6)))
            else (if what.toInt = 2 then ((((F_X7_layOut st 0 (-6)) 73 2) - (F_X7_its (F_X7_layOut st 0 (-6)) dial 3)), (F_X7_layOut st 0 (-6)))
              else (if what.toInt = 3 then ((F_X7_its (F_X7_layOut st 0 (-6)) dial 2), (F_X7_layOut st 0 (-6)))
                else (if what.toInt = 4 then ((F_X7_its (F_X7_layOut st 0 (-6)) dial what), (F_X7_layOut st 0 (-6)))
                  else (if what.toInt = 5 then ((F_X7_its (F_X7_layOut st 0 (-6)) dial what), (F_X7_layOut st 0 (-6)))
                    else (if what.toInt = 6 then ((F_X7_its (F_X7_layOut st 0 (-6)) dial what), (F_X7_layOut st 0 (-6)))
                      else ((-2), (F_X7_layOut st 0 (-6))))))))))
        else (if what.toInt = 0 then ((-6), (F_X7_layOut st 0 (-6)))
          else (if what.toInt = 1 then ((-6), (F_X7_layOut st 0 (-6)))
            else (if what.toInt = 2 then ((-6), (F_X7_layOut st 0 (-6)))
              else (if what.toInt = 3 then ((-6), (F_X7_layOut st 0 (-6)))
                else (if what.toInt = 4 then ((F_X7_its (F_X7_layOut st 0 (-6)) dial what), (F_X7_layOut st 0 (-6)))
                  else (if what.toInt = 5 then ((F_X7_its (F_X7_layOut st 0 (-6)) dial what), (F_X7_layOut st 0 (-6)))
                    else (if what.toInt = 6 then ((F_X7_its (F_X7_layOut st 0 (-6)) dial what), (F_X7_layOut st 0 (-6)))
                      else ((-2), (F_X7_layOut st 0 (-6)))))))))))))
set_option maxRecDepth 20000 in
theorem c_X7_of {G : xs_G} {base : Nat} (d : Nat) (st : xs_S) (dial : Int32) (what : Int32) (hR : RowOK (st 73)) : xs_K G base (d + 2) M_X7_of [.ref 72, .int dial, .int what] st (fun v u => v = some (.int (F_X7_of st dial what).1) ∧ u = (F_X7_of st dial what).2) := by
  refine xs_intro ok_X7_of [(0, .ref 72), (1, .int dial), (2, .int what)] rfl rfl ?_
  refine xr_blk gd_X7_of 2 (c' := (2, [(0, .ref 72), (1, .int dial), (2, .int what)], [.int dial, .ref 72], st)) rfl ?_
  refine xr_callV gd_X7_of gd_X7_isDial k_X7_91 rfl (c_X7_isDial (d + 0) st dial) (by omega) rfl rfl rfl rfl rfl ?_
  refine xs_fun ?_
  refine xr_br gd_X7_of rfl rfl (fun h1 => ?_) (fun h1 => ?_)
  · have hd : 0 ≤ dial.toInt ∧ dial.toInt < 15 := isDial_in (ro_D hR) h1
    refine xr_blk gd_X7_of 3 (c' := (14, [(0, .ref 72), (1, .int dial), (2, .int what)], [.int (-6), .int 0, .ref 72], st)) rfl ?_
    refine xr_callV gd_X7_of gd_X7_layOut k_X7_99 rfl (c_X7_layOut (d + 0) st 0 (-6) (ro_D hR)) (by omega) rfl rfl rfl rfl rfl ?_
    refine xs_fun ?_
    refine xr_blk gd_X7_of 7 (c' := (26, [(0, .ref 72), (1, .int dial), (2, .int what)], [.int 1, .int ((((F_X7_layOut st 0 (-6)) 72 11) >>> (dial &&& 31)) &&& 1)], (F_X7_layOut st 0 (-6)))) rfl ?_
    refine xr_br gd_X7_of rfl rfl (fun h2 => ?_) (fun h2 => ?_)
    · refine xr_blk gd_X7_of 5 (c' := (38, [(0, .ref 72), (1, .int dial), (2, .int what), (3, .int 0)], [.int 0, .int dial, .ref 72], (F_X7_layOut st 0 (-6)))) rfl ?_
      refine xr_callV gd_X7_of gd_X7_its k_X7_59 rfl (c_X7_its (d + 1) (F_X7_layOut st 0 (-6)) dial 0 (xm_its hd (by decide))) (by omega) rfl rfl rfl rfl rfl ?_
      refine xs_fun ?_
      refine xr_blk gd_X7_of 1 (c' := (42, [(0, .ref 72), (1, .int dial), (2, .int what), (3, .int 0)], [.int 1, .int (F_X7_its (F_X7_layOut st 0 (-6)) dial 0)], (F_X7_layOut st 0 (-6)))) rfl ?_
      refine xr_br gd_X7_of rfl rfl (fun h3 => ?_) (fun h3 => ?_)
      · refine xr_blk gd_X7_of 3 (c' := (53, [(0, .ref 72), (1, .int dial), (2, .int what), (3, .int 0), (4, .int 0)], [.int what], (F_X7_layOut st 0 (-6)))) rfl ?_
        by_cases h4 : what.toInt = 0
        · refine xr_swi (tgt := 96) gd_X7_of rfl 0 (by omega) (by omega) rfl (by decide) ?_
          refine xr_blk gd_X7_of 1 (c' := (97, [(0, .ref 72), (1, .int dial), (2, .int what), (3, .int 0), (4, .int 0)], [.int 0], (F_X7_layOut st 0 (-6)))) rfl ?_
          refine xr_br gd_X7_of rfl rfl (fun _ => ?_) (fun h => absurd h (by decide))
          refine xr_blk gd_X7_of 1 (c' := (114, [(0, .ref 72), (1, .int dial), (2, .int what), (3, .int 0), (4, .int 0)], [.int (-6)], (F_X7_layOut st 0 (-6)))) rfl ?_
          exact xr_iret gd_X7_of rfl rfl ⟨by first | (rw [F_X7_of, if_neg h1, if_neg h2, if_neg h3, if_pos h4]; done) | (rw [F_X7_of, if_neg h1, if_neg h2, if_neg h3, if_pos h4]; rfl), by first | (rw [F_X7_of, if_neg h1, if_neg h2, if_neg h3, if_pos h4]; done) | (rw [F_X7_of, if_neg h1, if_neg h2, if_neg h3, if_pos h4]; rfl)⟩
        · by_cases h5 : what.toInt = 1
          · refine xr_swi (tgt := 115) gd_X7_of rfl 1 (by omega) (by omega) rfl (by decide) ?_
            refine xr_blk gd_X7_of 1 (c' := (116, [(0, .ref 72), (1, .int dial), (2, .int what), (3, .int 0), (4, .int 0)], [.int 0], (F_X7_layOut st 0 (-6)))) rfl ?_
            refine xr_br gd_X7_of rfl rfl (fun _ => ?_) (fun h => absurd h (by decide))
            refine xr_blk gd_X7_of 1 (c' := (133, [(0, .ref 72), (1, .int dial), (2, .int what), (3, .int 0), (4, .int 0)], [.int (-6)], (F_X7_layOut st 0 (-6)))) rfl ?_
            exact xr_iret gd_X7_of rfl rfl ⟨by first | (rw [F_X7_of, if_neg h1, if_neg h2, if_neg h3, if_neg h4, if_pos h5]; done) | (rw [F_X7_of, if_neg h1, if_neg h2, if_neg h3, if_neg h4, if_pos h5]; rfl), by first | (rw [F_X7_of, if_neg h1, if_neg h2, if_neg h3, if_neg h4, if_pos h5]; done) | (rw [F_X7_of, if_neg h1, if_neg h2, if_neg h3, if_neg h4, if_pos h5]; rfl)⟩
          · by_cases h6 : what.toInt = 2
            · refine xr_swi (tgt := 134) gd_X7_of rfl 2 (by omega) (by omega) rfl (by decide) ?_
              refine xr_blk gd_X7_of 1 (c' := (136, [(0, .ref 72), (1, .int dial), (2, .int what), (3, .int 0), (4, .int 0)], [.int 0], (F_X7_layOut st 0 (-6)))) rfl ?_
              refine xr_br gd_X7_of rfl rfl (fun _ => ?_) (fun h => absurd h (by decide))
              refine xr_blk gd_X7_of 1 (c' := (157, [(0, .ref 72), (1, .int dial), (2, .int what), (3, .int 0), (4, .int 0)], [.int (-6)], (F_X7_layOut st 0 (-6)))) rfl ?_
              exact xr_iret gd_X7_of rfl rfl ⟨by first | (rw [F_X7_of, if_neg h1, if_neg h2, if_neg h3, if_neg h4, if_neg h5, if_pos h6]; done) | (rw [F_X7_of, if_neg h1, if_neg h2, if_neg h3, if_neg h4, if_neg h5, if_pos h6]; rfl), by first | (rw [F_X7_of, if_neg h1, if_neg h2, if_neg h3, if_neg h4, if_neg h5, if_pos h6]; done) | (rw [F_X7_of, if_neg h1, if_neg h2, if_neg h3, if_neg h4, if_neg h5, if_pos h6]; rfl)⟩
            · by_cases h7 : what.toInt = 3
              · refine xr_swi (tgt := 158) gd_X7_of rfl 3 (by omega) (by omega) rfl (by decide) ?_
                refine xr_blk gd_X7_of 1 (c' := (160, [(0, .ref 72), (1, .int dial), (2, .int what), (3, .int 0), (4, .int 0)], [.int 0], (F_X7_layOut st 0 (-6)))) rfl ?_
                refine xr_br gd_X7_of rfl rfl (fun _ => ?_) (fun h => absurd h (by decide))
                refine xr_blk gd_X7_of 1 (c' := (174, [(0, .ref 72), (1, .int dial), (2, .int what), (3, .int 0), (4, .int 0)], [.int (-6)], (F_X7_layOut st 0 (-6)))) rfl ?_
                exact xr_iret gd_X7_of rfl rfl ⟨by first | (rw [F_X7_of, if_neg h1, if_neg h2, if_neg h3, if_neg h4, if_neg h5, if_neg h6, if_pos h7]; done) | (rw [F_X7_of, if_neg h1, if_neg h2, if_neg h3, if_neg h4, if_neg h5, if_neg h6, if_pos h7]; rfl), by first | (rw [F_X7_of, if_neg h1, if_neg h2, if_neg h3, if_neg h4, if_neg h5, if_neg h6, if_pos h7]; done) | (rw [F_X7_of, if_neg h1, if_neg h2, if_neg h3, if_neg h4, if_neg h5, if_neg h6, if_pos h7]; rfl)⟩
              · by_cases h8 : what.toInt = 4
                · refine xr_swi (tgt := 175) gd_X7_of rfl 4 (by omega) (by omega) rfl (by decide) ?_
                  refine xr_blk gd_X7_of 3 (c' := (178, [(0, .ref 72), (1, .int dial), (2, .int what), (3, .int 0), (4, .int 0)], [.int what, .int dial, .ref 72], (F_X7_layOut st 0 (-6)))) rfl ?_
                  refine xr_callV gd_X7_of gd_X7_its k_X7_59 rfl (c_X7_its (d + 1) (F_X7_layOut st 0 (-6)) dial what (xm_its hd (by omega))) (by omega) rfl rfl rfl rfl rfl ?_
                  refine xs_fun ?_
                  exact xr_iret gd_X7_of rfl rfl ⟨by first | (rw [F_X7_of, if_neg h1, if_neg h2, if_neg h3, if_neg h4, if_neg h5, if_neg h6, if_neg h7, if_pos h8]; done) | (rw [F_X7_of, if_neg h1, if_neg h2, if_neg h3, if_neg h4, if_neg h5, if_neg h6, if_neg h7, if_pos h8]; rfl), by first | (rw [F_X7_of, if_neg h1, if_neg h2, if_neg h3, if_neg h4, if_neg h5, if_neg h6, if_neg h7, if_pos h8]; done) | (rw [F_X7_of, if_neg h1, if_neg h2, if_neg h3, if_neg h4, if_neg h5, if_neg h6, if_neg h7, if_pos h8]; rfl)⟩
                · by_cases h9 : what.toInt = 5
                  · refine xr_swi (tgt := 175) gd_X7_of rfl 5 (by omega) (by omega) rfl (by decide) ?_
                    refine xr_blk gd_X7_of 3 (c' := (178, [(0, .ref 72), (1, .int dial), (2, .int what), (3, .int 0), (4, .int 0)], [.int what, .int dial, .ref 72], (F_X7_layOut st 0 (-6)))) rfl ?_
                    refine xr_callV gd_X7_of gd_X7_its k_X7_59 rfl (c_X7_its (d + 1) (F_X7_layOut st 0 (-6)) dial what (xm_its hd (by omega))) (by omega) rfl rfl rfl rfl rfl ?_
                    refine xs_fun ?_
                    exact xr_iret gd_X7_of rfl rfl ⟨by first | (rw [F_X7_of, if_neg h1, if_neg h2, if_neg h3, if_neg h4, if_neg h5, if_neg h6, if_neg h7, if_neg h8, if_pos h9]; done) | (rw [F_X7_of, if_neg h1, if_neg h2, if_neg h3, if_neg h4, if_neg h5, if_neg h6, if_neg h7, if_neg h8, if_pos h9]; rfl), by first | (rw [F_X7_of, if_neg h1, if_neg h2, if_neg h3, if_neg h4, if_neg h5, if_neg h6, if_neg h7, if_neg h8, if_pos h9]; done) | (rw [F_X7_of, if_neg h1, if_neg h2, if_neg h3, if_neg h4, if_neg h5, if_neg h6, if_neg h7, if_neg h8, if_pos h9]; rfl)⟩
                  · by_cases h10 : what.toInt = 6
                    · refine xr_swi (tgt := 175) gd_X7_of rfl 6 (by omega) (by omega) rfl (by decide) ?_
                      refine xr_blk gd_X7_of 3 (c' := (178, [(0, .ref 72), (1, .int dial), (2, .int what), (3, .int 0), (4, .int 0)], [.int what, .int dial, .ref 72], (F_X7_layOut st 0 (-6)))) rfl ?_
                      refine xr_callV gd_X7_of gd_X7_its k_X7_59 rfl (c_X7_its (d + 1) (F_X7_layOut st 0 (-6)) dial what (xm_its hd (by omega))) (by omega) rfl rfl rfl rfl rfl ?_
                      refine xs_fun ?_
                      exact xr_iret gd_X7_of rfl rfl ⟨by first | (rw [F_X7_of, if_neg h1, if_neg h2, if_neg h3, if_neg h4, if_neg h5, if_neg h6, if_neg h7, if_neg h8, if_neg h9, if_pos h10]; done) | (rw [F_X7_of, if_neg h1, if_neg h2, if_neg h3, if_neg h4, if_neg h5, if_neg h6, if_neg h7, if_neg h8, if_neg h9, if_pos h10]; rfl), by first | (rw [F_X7_of, if_neg h1, if_neg h2, if_neg h3, if_neg h4, if_neg h5, if_neg h6, if_neg h7, if_neg h8, if_neg h9, if_pos h10]; done) | (rw [F_X7_of, if_neg h1, if_neg h2, if_neg h3, if_neg h4, if_neg h5, if_neg h6, if_neg h7, if_neg h8, if_neg h9, if_pos h10]; rfl)⟩
                    · refine xr_swo (tgt := 182) gd_X7_of rfl (by omega) (by decide) ?_
                      refine xr_blk gd_X7_of 1 (c' := (184, [(0, .ref 72), (1, .int dial), (2, .int what), (3, .int 0), (4, .int 0)], [.int (-2)], (F_X7_layOut st 0 (-6)))) rfl ?_
                      exact xr_iret gd_X7_of rfl rfl ⟨by first | (rw [F_X7_of, if_neg h1, if_neg h2, if_neg h3, if_neg h4, if_neg h5, if_neg h6, if_neg h7, if_neg h8, if_neg h9, if_neg h10]; done) | (rw [F_X7_of, if_neg h1, if_neg h2, if_neg h3, if_neg h4, if_neg h5, if_neg h6, if_neg h7, if_neg h8, if_neg h9, if_neg h10]; rfl), by first | (rw [F_X7_of, if_neg h1, if_neg h2, if_neg h3, if_neg h4, if_neg h5, if_neg h6, if_neg h7, if_neg h8, if_neg h9, if_neg h10]; done) | (rw [F_X7_of, if_neg h1, if_neg h2, if_neg h3, if_neg h4, if_neg h5, if_neg h6, if_neg h7, if_neg h8, if_neg h9, if_neg h10]; rfl)⟩
      · refine xr_blk gd_X7_of 4 (c' := (53, [(0, .ref 72), (1, .int dial), (2, .int what), (3, .int 0), (4, .int 1)], [.int what], (F_X7_layOut st 0 (-6)))) rfl ?_
        by_cases h11 : what.toInt = 0
        · refine xr_swi (tgt := 96) gd_X7_of rfl 0 (by omega) (by omega) rfl (by decide) ?_
          refine xr_blk gd_X7_of 1 (c' := (97, [(0, .ref 72), (1, .int dial), (2, .int what), (3, .int 0), (4, .int 1)], [.int 0], (F_X7_layOut st 0 (-6)))) rfl ?_
          refine xr_br gd_X7_of rfl rfl (fun _ => ?_) (fun h => absurd h (by decide))
          refine xr_blk gd_X7_of 1 (c' := (114, [(0, .ref 72), (1, .int dial), (2, .int what), (3, .int 0), (4, .int 1)], [.int (-6)], (F_X7_layOut st 0 (-6)))) rfl ?_
          exact xr_iret gd_X7_of rfl rfl ⟨by first | (rw [F_X7_of, if_neg h1, if_neg h2, if_pos h3, if_pos h11]; done) | (rw [F_X7_of, if_neg h1, if_neg h2, if_pos h3, if_pos h11]; rfl), by first | (rw [F_X7_of, if_neg h1, if_neg h2, if_pos h3, if_pos h11]; done) | (rw [F_X7_of, if_neg h1, if_neg h2, if_pos h3, if_pos h11]; rfl)⟩
        · by_cases h12 : what.toInt = 1
          · refine xr_swi (tgt := 115) gd_X7_of rfl 1 (by omega) (by omega) rfl (by decide) ?_
            refine xr_blk gd_X7_of 1 (c' := (116, [(0, .ref 72), (1, .int dial), (2, .int what), (3, .int 0), (4, .int 1)], [.int 0], (F_X7_layOut st 0 (-6)))) rfl ?_
            refine xr_br gd_X7_of rfl rfl (fun _ => ?_) (fun h => absurd h (by decide))
            refine xr_blk gd_X7_of 1 (c' := (133, [(0, .ref 72), (1, .int dial), (2, .int what), (3, .int 0), (4, .int 1)], [.int (-6)], (F_X7_layOut st 0 (-6)))) rfl ?_
            exact xr_iret gd_X7_of rfl rfl ⟨by first | (rw [F_X7_of, if_neg h1, if_neg h2, if_pos h3, if_neg h11, if_pos h12]; done) | (rw [F_X7_of, if_neg h1, if_neg h2, if_pos h3, if_neg h11, if_pos h12]; rfl), by first | (rw [F_X7_of, if_neg h1, if_neg h2, if_pos h3, if_neg h11, if_pos h12]; done) | (rw [F_X7_of, if_neg h1, if_neg h2, if_pos h3, if_neg h11, if_pos h12]; rfl)⟩
          · by_cases h13 : what.toInt = 2
            · refine xr_swi (tgt := 134) gd_X7_of rfl 2 (by omega) (by omega) rfl (by decide) ?_
              refine xr_blk gd_X7_of 1 (c' := (136, [(0, .ref 72), (1, .int dial), (2, .int what), (3, .int 0), (4, .int 1)], [.int 1], (F_X7_layOut st 0 (-6)))) rfl ?_
              refine xr_br gd_X7_of rfl rfl (fun h => absurd h (by decide)) (fun _ => ?_)
              refine xr_blk gd_X7_of 3 (c' := (144, [(0, .ref 72), (1, .int dial), (2, .int what), (3, .int 0), (4, .int 1)], [.int 2, .ref 73], (F_X7_layOut st 0 (-6)))) rfl ?_
              refine xr_iald gd_X7_of rfl rfl (2) (by decide) (by decide) ?_
              refine xr_blk gd_X7_of 3 (c' := (148, [(0, .ref 72), (1, .int dial), (2, .int what), (3, .int 0), (4, .int 1)], [.int 3, .int dial, .ref 72, .int ((F_X7_layOut st 0 (-6)) 73 2)], (F_X7_layOut st 0 (-6)))) rfl ?_
              refine xr_callV gd_X7_of gd_X7_its k_X7_59 rfl (c_X7_its (d + 1) (F_X7_layOut st 0 (-6)) dial 3 (xm_its hd (by decide))) (by omega) rfl rfl rfl rfl rfl ?_
              refine xs_fun ?_
              refine xr_blk gd_X7_of 2 (c' := (157, [(0, .ref 72), (1, .int dial), (2, .int what), (3, .int 0), (4, .int 1)], [.int (((F_X7_layOut st 0 (-6)) 73 2) - (F_X7_its (F_X7_layOut st 0 (-6)) dial 3))], (F_X7_layOut st 0 (-6)))) rfl ?_
              exact xr_iret gd_X7_of rfl rfl ⟨by first | (rw [F_X7_of, if_neg h1, if_neg h2, if_pos h3, if_neg h11, if_neg h12, if_pos h13]; done) | (rw [F_X7_of, if_neg h1, if_neg h2, if_pos h3, if_neg h11, if_neg h12, if_pos h13]; rfl), by first | (rw [F_X7_of, if_neg h1, if_neg h2, if_pos h3, if_neg h11, if_neg h12, if_pos h13]; done) | (rw [F_X7_of, if_neg h1, if_neg h2, if_pos h3, if_neg h11, if_neg h12, if_pos h13]; rfl)⟩
            · by_cases h14 : what.toInt = 3
              · refine xr_swi (tgt := 158) gd_X7_of rfl 3 (by omega) (by omega) rfl (by decide) ?_
                refine xr_blk gd_X7_of 1 (c' := (160, [(0, .ref 72), (1, .int dial), (2, .int what), (3, .int 0), (4, .int 1)], [.int 1], (F_X7_layOut st 0 (-6)))) rfl ?_
                refine xr_br gd_X7_of rfl rfl (fun h => absurd h (by decide)) (fun _ => ?_)
                refine xr_blk gd_X7_of 3 (c' := (166, [(0, .ref 72), (1, .int dial), (2, .int what), (3, .int 0), (4, .int 1)], [.int 2, .int dial, .ref 72], (F_X7_layOut st 0 (-6)))) rfl ?_
                refine xr_callV gd_X7_of gd_X7_its k_X7_59 rfl (c_X7_its (d + 1) (F_X7_layOut st 0 (-6)) dial 2 (xm_its hd (by decide))) (by omega) rfl rfl rfl rfl rfl ?_
                refine xs_fun ?_
                refine xr_blk gd_X7_of 1 (c' := (174, [(0, .ref 72), (1, .int dial), (2, .int what), (3, .int 0), (4, .int 1)], [.int (F_X7_its (F_X7_layOut st 0 (-6)) dial 2)], (F_X7_layOut st 0 (-6)))) rfl ?_
                exact xr_iret gd_X7_of rfl rfl ⟨by first | (rw [F_X7_of, if_neg h1, if_neg h2, if_pos h3, if_neg h11, if_neg h12, if_neg h13, if_pos h14]; done) | (rw [F_X7_of, if_neg h1, if_neg h2, if_pos h3, if_neg h11, if_neg h12, if_neg h13, if_pos h14]; rfl), by first | (rw [F_X7_of, if_neg h1, if_neg h2, if_pos h3, if_neg h11, if_neg h12, if_neg h13, if_pos h14]; done) | (rw [F_X7_of, if_neg h1, if_neg h2, if_pos h3, if_neg h11, if_neg h12, if_neg h13, if_pos h14]; rfl)⟩
              · by_cases h15 : what.toInt = 4
                · refine xr_swi (tgt := 175) gd_X7_of rfl 4 (by omega) (by omega) rfl (by decide) ?_
                  refine xr_blk gd_X7_of 3 (c' := (178, [(0, .ref 72), (1, .int dial), (2, .int what), (3, .int 0), (4, .int 1)], [.int what, .int dial, .ref 72], (F_X7_layOut st 0 (-6)))) rfl ?_
                  refine xr_callV gd_X7_of gd_X7_its k_X7_59 rfl (c_X7_its (d + 1) (F_X7_layOut st 0 (-6)) dial what (xm_its hd (by omega))) (by omega) rfl rfl rfl rfl rfl ?_
                  refine xs_fun ?_
                  exact xr_iret gd_X7_of rfl rfl ⟨by first | (rw [F_X7_of, if_neg h1, if_neg h2, if_pos h3, if_neg h11, if_neg h12, if_neg h13, if_neg h14, if_pos h15]; done) | (rw [F_X7_of, if_neg h1, if_neg h2, if_pos h3, if_neg h11, if_neg h12, if_neg h13, if_neg h14, if_pos h15]; rfl), by first | (rw [F_X7_of, if_neg h1, if_neg h2, if_pos h3, if_neg h11, if_neg h12, if_neg h13, if_neg h14, if_pos h15]; done) | (rw [F_X7_of, if_neg h1, if_neg h2, if_pos h3, if_neg h11, if_neg h12, if_neg h13, if_neg h14, if_pos h15]; rfl)⟩
                · by_cases h16 : what.toInt = 5
                  · refine xr_swi (tgt := 175) gd_X7_of rfl 5 (by omega) (by omega) rfl (by decide) ?_
                    refine xr_blk gd_X7_of 3 (c' := (178, [(0, .ref 72), (1, .int dial), (2, .int what), (3, .int 0), (4, .int 1)], [.int what, .int dial, .ref 72], (F_X7_layOut st 0 (-6)))) rfl ?_
                    refine xr_callV gd_X7_of gd_X7_its k_X7_59 rfl (c_X7_its (d + 1) (F_X7_layOut st 0 (-6)) dial what (xm_its hd (by omega))) (by omega) rfl rfl rfl rfl rfl ?_
                    refine xs_fun ?_
                    exact xr_iret gd_X7_of rfl rfl ⟨by first | (rw [F_X7_of, if_neg h1, if_neg h2, if_pos h3, if_neg h11, if_neg h12, if_neg h13, if_neg h14, if_neg h15, if_pos h16]; done) | (rw [F_X7_of, if_neg h1, if_neg h2, if_pos h3, if_neg h11, if_neg h12, if_neg h13, if_neg h14, if_neg h15, if_pos h16]; rfl), by first | (rw [F_X7_of, if_neg h1, if_neg h2, if_pos h3, if_neg h11, if_neg h12, if_neg h13, if_neg h14, if_neg h15, if_pos h16]; done) | (rw [F_X7_of, if_neg h1, if_neg h2, if_pos h3, if_neg h11, if_neg h12, if_neg h13, if_neg h14, if_neg h15, if_pos h16]; rfl)⟩
                  · by_cases h17 : what.toInt = 6
                    · refine xr_swi (tgt := 175) gd_X7_of rfl 6 (by omega) (by omega) rfl (by decide) ?_
                      refine xr_blk gd_X7_of 3 (c' := (178, [(0, .ref 72), (1, .int dial), (2, .int what), (3, .int 0), (4, .int 1)], [.int what, .int dial, .ref 72], (F_X7_layOut st 0 (-6)))) rfl ?_
                      refine xr_callV gd_X7_of gd_X7_its k_X7_59 rfl (c_X7_its (d + 1) (F_X7_layOut st 0 (-6)) dial what (xm_its hd (by omega))) (by omega) rfl rfl rfl rfl rfl ?_
                      refine xs_fun ?_
                      exact xr_iret gd_X7_of rfl rfl ⟨by first | (rw [F_X7_of, if_neg h1, if_neg h2, if_pos h3, if_neg h11, if_neg h12, if_neg h13, if_neg h14, if_neg h15, if_neg h16, if_pos h17]; done) | (rw [F_X7_of, if_neg h1, if_neg h2, if_pos h3, if_neg h11, if_neg h12, if_neg h13, if_neg h14, if_neg h15, if_neg h16, if_pos h17]; rfl), by first | (rw [F_X7_of, if_neg h1, if_neg h2, if_pos h3, if_neg h11, if_neg h12, if_neg h13, if_neg h14, if_neg h15, if_neg h16, if_pos h17]; done) | (rw [F_X7_of, if_neg h1, if_neg h2, if_pos h3, if_neg h11, if_neg h12, if_neg h13, if_neg h14, if_neg h15, if_neg h16, if_pos h17]; rfl)⟩
                    · refine xr_swo (tgt := 182) gd_X7_of rfl (by omega) (by decide) ?_
                      refine xr_blk gd_X7_of 1 (c' := (184, [(0, .ref 72), (1, .int dial), (2, .int what), (3, .int 0), (4, .int 1)], [.int (-2)], (F_X7_layOut st 0 (-6)))) rfl ?_
                      exact xr_iret gd_X7_of rfl rfl ⟨by first | (rw [F_X7_of, if_neg h1, if_neg h2, if_pos h3, if_neg h11, if_neg h12, if_neg h13, if_neg h14, if_neg h15, if_neg h16, if_neg h17]; done) | (rw [F_X7_of, if_neg h1, if_neg h2, if_pos h3, if_neg h11, if_neg h12, if_neg h13, if_neg h14, if_neg h15, if_neg h16, if_neg h17]; rfl), by first | (rw [F_X7_of, if_neg h1, if_neg h2, if_pos h3, if_neg h11, if_neg h12, if_neg h13, if_neg h14, if_neg h15, if_neg h16, if_neg h17]; done) | (rw [F_X7_of, if_neg h1, if_neg h2, if_pos h3, if_neg h11, if_neg h12, if_neg h13, if_neg h14, if_neg h15, if_neg h16, if_neg h17]; rfl)⟩
    · refine xr_blk gd_X7_of 6 (c' := (38, [(0, .ref 72), (1, .int dial), (2, .int what), (3, .int 1)], [.int 0, .int dial, .ref 72], (F_X7_layOut st 0 (-6)))) rfl ?_
      refine xr_callV gd_X7_of gd_X7_its k_X7_59 rfl (c_X7_its (d + 1) (F_X7_layOut st 0 (-6)) dial 0 (xm_its hd (by decide))) (by omega) rfl rfl rfl rfl rfl ?_
      refine xs_fun ?_
      refine xr_blk gd_X7_of 1 (c' := (42, [(0, .ref 72), (1, .int dial), (2, .int what), (3, .int 1)], [.int 1, .int (F_X7_its (F_X7_layOut st 0 (-6)) dial 0)], (F_X7_layOut st 0 (-6)))) rfl ?_
      refine xr_br gd_X7_of rfl rfl (fun h18 => ?_) (fun h18 => ?_)
      · refine xr_blk gd_X7_of 3 (c' := (53, [(0, .ref 72), (1, .int dial), (2, .int what), (3, .int 1), (4, .int 0)], [.int what], (F_X7_layOut st 0 (-6)))) rfl ?_
        by_cases h19 : what.toInt = 0
        · refine xr_swi (tgt := 96) gd_X7_of rfl 0 (by omega) (by omega) rfl (by decide) ?_
          refine xr_blk gd_X7_of 1 (c' := (97, [(0, .ref 72), (1, .int dial), (2, .int what), (3, .int 1), (4, .int 0)], [.int 1], (F_X7_layOut st 0 (-6)))) rfl ?_
          refine xr_br gd_X7_of rfl rfl (fun h => absurd h (by decide)) (fun _ => ?_)
          refine xr_blk gd_X7_of 3 (c' := (105, [(0, .ref 72), (1, .int dial), (2, .int what), (3, .int 1), (4, .int 0)], [.int dial, .ref 81], (F_X7_layOut st 0 (-6)))) rfl ?_
          refine xr_iald gd_X7_of rfl rfl (dial.toInt.toNat) (xs_h1 (n := 15) hd) (xs_h2 (n := 15) hd) ?_
          refine xr_blk gd_X7_of 3 (c' := (114, [(0, .ref 72), (1, .int dial), (2, .int what), (3, .int 1), (4, .int 0)], [.int (((F_X7_layOut st 0 (-6)) 81 dial.toInt.toNat) + 100000)], (F_X7_layOut st 0 (-6)))) rfl ?_
          exact xr_iret gd_X7_of rfl rfl ⟨by first | (rw [F_X7_of, if_neg h1, if_pos h2, if_neg h18, if_pos h19]; done) | (rw [F_X7_of, if_neg h1, if_pos h2, if_neg h18, if_pos h19]; rfl), by first | (rw [F_X7_of, if_neg h1, if_pos h2, if_neg h18, if_pos h19]; done) | (rw [F_X7_of, if_neg h1, if_pos h2, if_neg h18, if_pos h19]; rfl)⟩
        · by_cases h20 : what.toInt = 1
          · refine xr_swi (tgt := 115) gd_X7_of rfl 1 (by omega) (by omega) rfl (by decide) ?_
            refine xr_blk gd_X7_of 1 (c' := (116, [(0, .ref 72), (1, .int dial), (2, .int what), (3, .int 1), (4, .int 0)], [.int 1], (F_X7_layOut st 0 (-6)))) rfl ?_
            refine xr_br gd_X7_of rfl rfl (fun h => absurd h (by decide)) (fun _ => ?_)
            refine xr_blk gd_X7_of 3 (c' := (124, [(0, .ref 72), (1, .int dial), (2, .int what), (3, .int 1), (4, .int 0)], [.int dial, .ref 82], (F_X7_layOut st 0 (-6)))) rfl ?_
            refine xr_iald gd_X7_of rfl rfl (dial.toInt.toNat) (xs_h1 (n := 15) hd) (xs_h2 (n := 15) hd) ?_
            refine xr_blk gd_X7_of 3 (c' := (133, [(0, .ref 72), (1, .int dial), (2, .int what), (3, .int 1), (4, .int 0)], [.int (((F_X7_layOut st 0 (-6)) 82 dial.toInt.toNat) + 100000)], (F_X7_layOut st 0 (-6)))) rfl ?_
            exact xr_iret gd_X7_of rfl rfl ⟨by first | (rw [F_X7_of, if_neg h1, if_pos h2, if_neg h18, if_neg h19, if_pos h20]; done) | (rw [F_X7_of, if_neg h1, if_pos h2, if_neg h18, if_neg h19, if_pos h20]; rfl), by first | (rw [F_X7_of, if_neg h1, if_pos h2, if_neg h18, if_neg h19, if_pos h20]; done) | (rw [F_X7_of, if_neg h1, if_pos h2, if_neg h18, if_neg h19, if_pos h20]; rfl)⟩
          · by_cases h21 : what.toInt = 2
            · refine xr_swi (tgt := 134) gd_X7_of rfl 2 (by omega) (by omega) rfl (by decide) ?_
              refine xr_blk gd_X7_of 1 (c' := (136, [(0, .ref 72), (1, .int dial), (2, .int what), (3, .int 1), (4, .int 0)], [.int 0], (F_X7_layOut st 0 (-6)))) rfl ?_
              refine xr_br gd_X7_of rfl rfl (fun _ => ?_) (fun h => absurd h (by decide))
              refine xr_blk gd_X7_of 1 (c' := (157, [(0, .ref 72), (1, .int dial), (2, .int what), (3, .int 1), (4, .int 0)], [.int (-6)], (F_X7_layOut st 0 (-6)))) rfl ?_
              exact xr_iret gd_X7_of rfl rfl ⟨by first | (rw [F_X7_of, if_neg h1, if_pos h2, if_neg h18, if_neg h19, if_neg h20, if_pos h21]; done) | (rw [F_X7_of, if_neg h1, if_pos h2, if_neg h18, if_neg h19, if_neg h20, if_pos h21]; rfl), by first | (rw [F_X7_of, if_neg h1, if_pos h2, if_neg h18, if_neg h19, if_neg h20, if_pos h21]; done) | (rw [F_X7_of, if_neg h1, if_pos h2, if_neg h18, if_neg h19, if_neg h20, if_pos h21]; rfl)⟩
            · by_cases h22 : what.toInt = 3
              · refine xr_swi (tgt := 158) gd_X7_of rfl 3 (by omega) (by omega) rfl (by decide) ?_
                refine xr_blk gd_X7_of 1 (c' := (160, [(0, .ref 72), (1, .int dial), (2, .int what), (3, .int 1), (4, .int 0)], [.int 0], (F_X7_layOut st 0 (-6)))) rfl ?_
                refine xr_br gd_X7_of rfl rfl (fun _ => ?_) (fun h => absurd h (by decide))
                refine xr_blk gd_X7_of 1 (c' := (174, [(0, .ref 72), (1, .int dial), (2, .int what), (3, .int 1), (4, .int 0)], [.int (-6)], (F_X7_layOut st 0 (-6)))) rfl ?_
                exact xr_iret gd_X7_of rfl rfl ⟨by first | (rw [F_X7_of, if_neg h1, if_pos h2, if_neg h18, if_neg h19, if_neg h20, if_neg h21, if_pos h22]; done) | (rw [F_X7_of, if_neg h1, if_pos h2, if_neg h18, if_neg h19, if_neg h20, if_neg h21, if_pos h22]; rfl), by first | (rw [F_X7_of, if_neg h1, if_pos h2, if_neg h18, if_neg h19, if_neg h20, if_neg h21, if_pos h22]; done) | (rw [F_X7_of, if_neg h1, if_pos h2, if_neg h18, if_neg h19, if_neg h20, if_neg h21, if_pos h22]; rfl)⟩
              · by_cases h23 : what.toInt = 4
                · refine xr_swi (tgt := 175) gd_X7_of rfl 4 (by omega) (by omega) rfl (by decide) ?_
                  refine xr_blk gd_X7_of 3 (c' := (178, [(0, .ref 72), (1, .int dial), (2, .int what), (3, .int 1), (4, .int 0)], [.int what, .int dial, .ref 72], (F_X7_layOut st 0 (-6)))) rfl ?_
                  refine xr_callV gd_X7_of gd_X7_its k_X7_59 rfl (c_X7_its (d + 1) (F_X7_layOut st 0 (-6)) dial what (xm_its hd (by omega))) (by omega) rfl rfl rfl rfl rfl ?_
                  refine xs_fun ?_
                  exact xr_iret gd_X7_of rfl rfl ⟨by first | (rw [F_X7_of, if_neg h1, if_pos h2, if_neg h18, if_neg h19, if_neg h20, if_neg h21, if_neg h22, if_pos h23]; done) | (rw [F_X7_of, if_neg h1, if_pos h2, if_neg h18, if_neg h19, if_neg h20, if_neg h21, if_neg h22, if_pos h23]; rfl), by first | (rw [F_X7_of, if_neg h1, if_pos h2, if_neg h18, if_neg h19, if_neg h20, if_neg h21, if_neg h22, if_pos h23]; done) | (rw [F_X7_of, if_neg h1, if_pos h2, if_neg h18, if_neg h19, if_neg h20, if_neg h21, if_neg h22, if_pos h23]; rfl)⟩
                · by_cases h24 : what.toInt = 5
                  · refine xr_swi (tgt := 175) gd_X7_of rfl 5 (by omega) (by omega) rfl (by decide) ?_
                    refine xr_blk gd_X7_of 3 (c' := (178, [(0, .ref 72), (1, .int dial), (2, .int what), (3, .int 1), (4, .int 0)], [.int what, .int dial, .ref 72], (F_X7_layOut st 0 (-6)))) rfl ?_
                    refine xr_callV gd_X7_of gd_X7_its k_X7_59 rfl (c_X7_its (d + 1) (F_X7_layOut st 0 (-6)) dial what (xm_its hd (by omega))) (by omega) rfl rfl rfl rfl rfl ?_
                    refine xs_fun ?_
                    exact xr_iret gd_X7_of rfl rfl ⟨by first | (rw [F_X7_of, if_neg h1, if_pos h2, if_neg h18, if_neg h19, if_neg h20, if_neg h21, if_neg h22, if_neg h23, if_pos h24]; done) | (rw [F_X7_of, if_neg h1, if_pos h2, if_neg h18, if_neg h19, if_neg h20, if_neg h21, if_neg h22, if_neg h23, if_pos h24]; rfl), by first | (rw [F_X7_of, if_neg h1, if_pos h2, if_neg h18, if_neg h19, if_neg h20, if_neg h21, if_neg h22, if_neg h23, if_pos h24]; done) | (rw [F_X7_of, if_neg h1, if_pos h2, if_neg h18, if_neg h19, if_neg h20, if_neg h21, if_neg h22, if_neg h23, if_pos h24]; rfl)⟩
                  · by_cases h25 : what.toInt = 6
                    · refine xr_swi (tgt := 175) gd_X7_of rfl 6 (by omega) (by omega) rfl (by decide) ?_
                      refine xr_blk gd_X7_of 3 (c' := (178, [(0, .ref 72), (1, .int dial), (2, .int what), (3, .int 1), (4, .int 0)], [.int what, .int dial, .ref 72], (F_X7_layOut st 0 (-6)))) rfl ?_
                      refine xr_callV gd_X7_of gd_X7_its k_X7_59 rfl (c_X7_its (d + 1) (F_X7_layOut st 0 (-6)) dial what (xm_its hd (by omega))) (by omega) rfl rfl rfl rfl rfl ?_
                      refine xs_fun ?_
                      exact xr_iret gd_X7_of rfl rfl ⟨by first | (rw [F_X7_of, if_neg h1, if_pos h2, if_neg h18, if_neg h19, if_neg h20, if_neg h21, if_neg h22, if_neg h23, if_neg h24, if_pos h25]; done) | (rw [F_X7_of, if_neg h1, if_pos h2, if_neg h18, if_neg h19, if_neg h20, if_neg h21, if_neg h22, if_neg h23, if_neg h24, if_pos h25]; rfl), by first | (rw [F_X7_of, if_neg h1, if_pos h2, if_neg h18, if_neg h19, if_neg h20, if_neg h21, if_neg h22, if_neg h23, if_neg h24, if_pos h25]; done) | (rw [F_X7_of, if_neg h1, if_pos h2, if_neg h18, if_neg h19, if_neg h20, if_neg h21, if_neg h22, if_neg h23, if_neg h24, if_pos h25]; rfl)⟩
                    · refine xr_swo (tgt := 182) gd_X7_of rfl (by omega) (by decide) ?_
                      refine xr_blk gd_X7_of 1 (c' := (184, [(0, .ref 72), (1, .int dial), (2, .int what), (3, .int 1), (4, .int 0)], [.int (-2)], (F_X7_layOut st 0 (-6)))) rfl ?_
                      exact xr_iret gd_X7_of rfl rfl ⟨by first | (rw [F_X7_of, if_neg h1, if_pos h2, if_neg h18, if_neg h19, if_neg h20, if_neg h21, if_neg h22, if_neg h23, if_neg h24, if_neg h25]; done) | (rw [F_X7_of, if_neg h1, if_pos h2, if_neg h18, if_neg h19, if_neg h20, if_neg h21, if_neg h22, if_neg h23, if_neg h24, if_neg h25]; rfl), by first | (rw [F_X7_of, if_neg h1, if_pos h2, if_neg h18, if_neg h19, if_neg h20, if_neg h21, if_neg h22, if_neg h23, if_neg h24, if_neg h25]; done) | (rw [F_X7_of, if_neg h1, if_pos h2, if_neg h18, if_neg h19, if_neg h20, if_neg h21, if_neg h22, if_neg h23, if_neg h24, if_neg h25]; rfl)⟩
      · refine xr_blk gd_X7_of 4 (c' := (53, [(0, .ref 72), (1, .int dial), (2, .int what), (3, .int 1), (4, .int 1)], [.int what], (F_X7_layOut st 0 (-6)))) rfl ?_
        by_cases h26 : what.toInt = 0
        · refine xr_swi (tgt := 96) gd_X7_of rfl 0 (by omega) (by omega) rfl (by decide) ?_
          refine xr_blk gd_X7_of 1 (c' := (97, [(0, .ref 72), (1, .int dial), (2, .int what), (3, .int 1), (4, .int 1)], [.int 1], (F_X7_layOut st 0 (-6)))) rfl ?_
          refine xr_br gd_X7_of rfl rfl (fun h => absurd h (by decide)) (fun _ => ?_)
          refine xr_blk gd_X7_of 3 (c' := (105, [(0, .ref 72), (1, .int dial), (2, .int what), (3, .int 1), (4, .int 1)], [.int dial, .ref 81], (F_X7_layOut st 0 (-6)))) rfl ?_
          refine xr_iald gd_X7_of rfl rfl (dial.toInt.toNat) (xs_h1 (n := 15) hd) (xs_h2 (n := 15) hd) ?_
          refine xr_blk gd_X7_of 3 (c' := (114, [(0, .ref 72), (1, .int dial), (2, .int what), (3, .int 1), (4, .int 1)], [.int (((F_X7_layOut st 0 (-6)) 81 dial.toInt.toNat) + 100000)], (F_X7_layOut st 0 (-6)))) rfl ?_
          exact xr_iret gd_X7_of rfl rfl ⟨by first | (rw [F_X7_of, if_neg h1, if_pos h2, if_pos h18, if_pos h26]; done) | (rw [F_X7_of, if_neg h1, if_pos h2, if_pos h18, if_pos h26]; rfl), by first | (rw [F_X7_of, if_neg h1, if_pos h2, if_pos h18, if_pos h26]; done) | (rw [F_X7_of, if_neg h1, if_pos h2, if_pos h18, if_pos h26]; rfl)⟩
        · by_cases h27 : what.toInt = 1
          · refine xr_swi (tgt := 115) gd_X7_of rfl 1 (by omega) (by omega) rfl (by decide) ?_
            refine xr_blk gd_X7_of 1 (c' := (116, [(0, .ref 72), (1, .int dial), (2, .int what), (3, .int 1), (4, .int 1)], [.int 1], (F_X7_layOut st 0 (-6)))) rfl ?_
            refine xr_br gd_X7_of rfl rfl (fun h => absurd h (by decide)) (fun _ => ?_)
            refine xr_blk gd_X7_of 3 (c' := (124, [(0, .ref 72), (1, .int dial), (2, .int what), (3, .int 1), (4, .int 1)], [.int dial, .ref 82], (F_X7_layOut st 0 (-6)))) rfl ?_
            refine xr_iald gd_X7_of rfl rfl (dial.toInt.toNat) (xs_h1 (n := 15) hd) (xs_h2 (n := 15) hd) ?_
            refine xr_blk gd_X7_of 3 (c' := (133, [(0, .ref 72), (1, .int dial), (2, .int what), (3, .int 1), (4, .int 1)], [.int (((F_X7_layOut st 0 (-6)) 82 dial.toInt.toNat) + 100000)], (F_X7_layOut st 0 (-6)))) rfl ?_
            exact xr_iret gd_X7_of rfl rfl ⟨by first | (rw [F_X7_of, if_neg h1, if_pos h2, if_pos h18, if_neg h26, if_pos h27]; done) | (rw [F_X7_of, if_neg h1, if_pos h2, if_pos h18, if_neg h26, if_pos h27]; rfl), by first | (rw [F_X7_of, if_neg h1, if_pos h2, if_pos h18, if_neg h26, if_pos h27]; done) | (rw [F_X7_of, if_neg h1, if_pos h2, if_pos h18, if_neg h26, if_pos h27]; rfl)⟩
          · by_cases h28 : what.toInt = 2
            · refine xr_swi (tgt := 134) gd_X7_of rfl 2 (by omega) (by omega) rfl (by decide) ?_
              refine xr_blk gd_X7_of 1 (c' := (136, [(0, .ref 72), (1, .int dial), (2, .int what), (3, .int 1), (4, .int 1)], [.int 1], (F_X7_layOut st 0 (-6)))) rfl ?_
              refine xr_br gd_X7_of rfl rfl (fun h => absurd h (by decide)) (fun _ => ?_)
              refine xr_blk gd_X7_of 3 (c' := (144, [(0, .ref 72), (1, .int dial), (2, .int what), (3, .int 1), (4, .int 1)], [.int 2, .ref 73], (F_X7_layOut st 0 (-6)))) rfl ?_
              refine xr_iald gd_X7_of rfl rfl (2) (by decide) (by decide) ?_
              refine xr_blk gd_X7_of 3 (c' := (148, [(0, .ref 72), (1, .int dial), (2, .int what), (3, .int 1), (4, .int 1)], [.int 3, .int dial, .ref 72, .int ((F_X7_layOut st 0 (-6)) 73 2)], (F_X7_layOut st 0 (-6)))) rfl ?_
              refine xr_callV gd_X7_of gd_X7_its k_X7_59 rfl (c_X7_its (d + 1) (F_X7_layOut st 0 (-6)) dial 3 (xm_its hd (by decide))) (by omega) rfl rfl rfl rfl rfl ?_
              refine xs_fun ?_
              refine xr_blk gd_X7_of 2 (c' := (157, [(0, .ref 72), (1, .int dial), (2, .int what), (3, .int 1), (4, .int 1)], [.int (((F_X7_layOut st 0 (-6)) 73 2) - (F_X7_its (F_X7_layOut st 0 (-6)) dial 3))], (F_X7_layOut st 0 (-6)))) rfl ?_
              exact xr_iret gd_X7_of rfl rfl ⟨by first | (rw [F_X7_of, if_neg h1, if_pos h2, if_pos h18, if_neg h26, if_neg h27, if_pos h28]; done) | (rw [F_X7_of, if_neg h1, if_pos h2, if_pos h18, if_neg h26, if_neg h27, if_pos h28]; rfl), by first | (rw [F_X7_of, if_neg h1, if_pos h2, if_pos h18, if_neg h26, if_neg h27, if_pos h28]; done) | (rw [F_X7_of, if_neg h1, if_pos h2, if_pos h18, if_neg h26, if_neg h27, if_pos h28]; rfl)⟩
            · by_cases h29 : what.toInt = 3
              · refine xr_swi (tgt := 158) gd_X7_of rfl 3 (by omega) (by omega) rfl (by decide) ?_
                refine xr_blk gd_X7_of 1 (c' := (160, [(0, .ref 72), (1, .int dial), (2, .int what), (3, .int 1), (4, .int 1)], [.int 1], (F_X7_layOut st 0 (-6)))) rfl ?_
                refine xr_br gd_X7_of rfl rfl (fun h => absurd h (by decide)) (fun _ => ?_)
                refine xr_blk gd_X7_of 3 (c' := (166, [(0, .ref 72), (1, .int dial), (2, .int what), (3, .int 1), (4, .int 1)], [.int 2, .int dial, .ref 72], (F_X7_layOut st 0 (-6)))) rfl ?_
                refine xr_callV gd_X7_of gd_X7_its k_X7_59 rfl (c_X7_its (d + 1) (F_X7_layOut st 0 (-6)) dial 2 (xm_its hd (by decide))) (by omega) rfl rfl rfl rfl rfl ?_
                refine xs_fun ?_
                refine xr_blk gd_X7_of 1 (c' := (174, [(0, .ref 72), (1, .int dial), (2, .int what), (3, .int 1), (4, .int 1)], [.int (F_X7_its (F_X7_layOut st 0 (-6)) dial 2)], (F_X7_layOut st 0 (-6)))) rfl ?_
                exact xr_iret gd_X7_of rfl rfl ⟨by first | (rw [F_X7_of, if_neg h1, if_pos h2, if_pos h18, if_neg h26, if_neg h27, if_neg h28, if_pos h29]; done) | (rw [F_X7_of, if_neg h1, if_pos h2, if_pos h18, if_neg h26, if_neg h27, if_neg h28, if_pos h29]; rfl), by first | (rw [F_X7_of, if_neg h1, if_pos h2, if_pos h18, if_neg h26, if_neg h27, if_neg h28, if_pos h29]; done) | (rw [F_X7_of, if_neg h1, if_pos h2, if_pos h18, if_neg h26, if_neg h27, if_neg h28, if_pos h29]; rfl)⟩
              · by_cases h30 : what.toInt = 4
                · refine xr_swi (tgt := 175) gd_X7_of rfl 4 (by omega) (by omega) rfl (by decide) ?_
                  refine xr_blk gd_X7_of 3 (c' := (178, [(0, .ref 72), (1, .int dial), (2, .int what), (3, .int 1), (4, .int 1)], [.int what, .int dial, .ref 72], (F_X7_layOut st 0 (-6)))) rfl ?_
                  refine xr_callV gd_X7_of gd_X7_its k_X7_59 rfl (c_X7_its (d + 1) (F_X7_layOut st 0 (-6)) dial what (xm_its hd (by omega))) (by omega) rfl rfl rfl rfl rfl ?_
                  refine xs_fun ?_
                  exact xr_iret gd_X7_of rfl rfl ⟨by first | (rw [F_X7_of, if_neg h1, if_pos h2, if_pos h18, if_neg h26, if_neg h27, if_neg h28, if_neg h29, if_pos h30]; done) | (rw [F_X7_of, if_neg h1, if_pos h2, if_pos h18, if_neg h26, if_neg h27, if_neg h28, if_neg h29, if_pos h30]; rfl), by first | (rw [F_X7_of, if_neg h1, if_pos h2, if_pos h18, if_neg h26, if_neg h27, if_neg h28, if_neg h29, if_pos h30]; done) | (rw [F_X7_of, if_neg h1, if_pos h2, if_pos h18, if_neg h26, if_neg h27, if_neg h28, if_neg h29, if_pos h30]; rfl)⟩
                · by_cases h31 : what.toInt = 5
                  · refine xr_swi (tgt := 175) gd_X7_of rfl 5 (by omega) (by omega) rfl (by decide) ?_
                    refine xr_blk gd_X7_of 3 (c' := (178, [(0, .ref 72), (1, .int dial), (2, .int what), (3, .int 1), (4, .int 1)], [.int what, .int dial, .ref 72], (F_X7_layOut st 0 (-6)))) rfl ?_
                    refine xr_callV gd_X7_of gd_X7_its k_X7_59 rfl (c_X7_its (d + 1) (F_X7_layOut st 0 (-6)) dial what (xm_its hd (by omega))) (by omega) rfl rfl rfl rfl rfl ?_
                    refine xs_fun ?_
                    exact xr_iret gd_X7_of rfl rfl ⟨by first | (rw [F_X7_of, if_neg h1, if_pos h2, if_pos h18, if_neg h26, if_neg h27, if_neg h28, if_neg h29, if_neg h30, if_pos h31]; done) | (rw [F_X7_of, if_neg h1, if_pos h2, if_pos h18, if_neg h26, if_neg h27, if_neg h28, if_neg h29, if_neg h30, if_pos h31]; rfl), by first | (rw [F_X7_of, if_neg h1, if_pos h2, if_pos h18, if_neg h26, if_neg h27, if_neg h28, if_neg h29, if_neg h30, if_pos h31]; done) | (rw [F_X7_of, if_neg h1, if_pos h2, if_pos h18, if_neg h26, if_neg h27, if_neg h28, if_neg h29, if_neg h30, if_pos h31]; rfl)⟩
                  · by_cases h32 : what.toInt = 6
                    · refine xr_swi (tgt := 175) gd_X7_of rfl 6 (by omega) (by omega) rfl (by decide) ?_
                      refine xr_blk gd_X7_of 3 (c' := (178, [(0, .ref 72), (1, .int dial), (2, .int what), (3, .int 1), (4, .int 1)], [.int what, .int dial, .ref 72], (F_X7_layOut st 0 (-6)))) rfl ?_
                      refine xr_callV gd_X7_of gd_X7_its k_X7_59 rfl (c_X7_its (d + 1) (F_X7_layOut st 0 (-6)) dial what (xm_its hd (by omega))) (by omega) rfl rfl rfl rfl rfl ?_
                      refine xs_fun ?_
                      exact xr_iret gd_X7_of rfl rfl ⟨by first | (rw [F_X7_of, if_neg h1, if_pos h2, if_pos h18, if_neg h26, if_neg h27, if_neg h28, if_neg h29, if_neg h30, if_neg h31, if_pos h32]; done) | (rw [F_X7_of, if_neg h1, if_pos h2, if_pos h18, if_neg h26, if_neg h27, if_neg h28, if_neg h29, if_neg h30, if_neg h31, if_pos h32]; rfl), by first | (rw [F_X7_of, if_neg h1, if_pos h2, if_pos h18, if_neg h26, if_neg h27, if_neg h28, if_neg h29, if_neg h30, if_neg h31, if_pos h32]; done) | (rw [F_X7_of, if_neg h1, if_pos h2, if_pos h18, if_neg h26, if_neg h27, if_neg h28, if_neg h29, if_neg h30, if_neg h31, if_pos h32]; rfl)⟩
                    · refine xr_swo (tgt := 182) gd_X7_of rfl (by omega) (by decide) ?_
                      refine xr_blk gd_X7_of 1 (c' := (184, [(0, .ref 72), (1, .int dial), (2, .int what), (3, .int 1), (4, .int 1)], [.int (-2)], (F_X7_layOut st 0 (-6)))) rfl ?_
                      exact xr_iret gd_X7_of rfl rfl ⟨by first | (rw [F_X7_of, if_neg h1, if_pos h2, if_pos h18, if_neg h26, if_neg h27, if_neg h28, if_neg h29, if_neg h30, if_neg h31, if_neg h32]; done) | (rw [F_X7_of, if_neg h1, if_pos h2, if_pos h18, if_neg h26, if_neg h27, if_neg h28, if_neg h29, if_neg h30, if_neg h31, if_neg h32]; rfl), by first | (rw [F_X7_of, if_neg h1, if_pos h2, if_pos h18, if_neg h26, if_neg h27, if_neg h28, if_neg h29, if_neg h30, if_neg h31, if_neg h32]; done) | (rw [F_X7_of, if_neg h1, if_pos h2, if_pos h18, if_neg h26, if_neg h27, if_neg h28, if_neg h29, if_neg h30, if_neg h31, if_neg h32]; rfl)⟩
  · refine xr_blk gd_X7_of 1 (c' := (9, [(0, .ref 72), (1, .int dial), (2, .int what)], [.int (-1)], st)) rfl ?_
    exact xr_iret gd_X7_of rfl rfl ⟨by first | (rw [F_X7_of, if_pos h1]; done) | (rw [F_X7_of, if_pos h1]; rfl), by first | (rw [F_X7_of, if_pos h1]; done) | (rw [F_X7_of, if_pos h1]; rfl)⟩
def lp_X7_honest_4 (st : xs_S) (hour : Int32) : Nat → Int32 → Int32 → Int32
  | 0, _, _ => 0
  | n + 1, x2, x3 => (if 15 ≤ x3 then x2
    else (if (F_X7_has st x3 hour) = 0 then lp_X7_honest_4 st hour n (x2 ||| 0) (x3 + 1)
      else lp_X7_honest_4 st hour n (x2 ||| (1 <<< (x3 &&& 31))) (x3 + 1)))
set_option maxRecDepth 20000 in
theorem cl_X7_honest_4 {G : xs_G} {base : Nat} (d : Nat) (st : xs_S) (hour : Int32) : ∀ (n : Nat) (x2 : Int32) (x3 : Int32), xs_lo x3 15 n → xs_R G base (d + 1) M_X7_honest (4, [(0, .ref 72), (1, .int hour), (2, .int x2), (3, .int x3)], [], st) (fun v u => v = some (.int (lp_X7_honest_4 st hour n x2 x3)) ∧ u = st) := by
  intro n
  induction n with
  | zero =>
    intro x2 x3 hinv
    exact (xs_lo0 hinv).elim
  | succ n ih =>
    intro x2 x3 hinv
    refine xr_blk gd_X7_honest 2 (c' := (7, [(0, .ref 72), (1, .int hour), (2, .int x2), (3, .int x3)], [.int 15, .int x3], st)) rfl ?_
    refine xr_br gd_X7_honest rfl rfl (fun h1 => ?_) (fun h1 => ?_)
    · refine xr_blk gd_X7_honest 1 (c' := (36, [(0, .ref 72), (1, .int hour), (2, .int x2), (3, .int x3)], [.int x2], st)) rfl ?_
      exact xr_iret gd_X7_honest rfl rfl ⟨by first | (rw [lp_X7_honest_4, if_pos h1]; done) | (rw [lp_X7_honest_4, if_pos h1]; rfl), rfl⟩
    · refine xr_blk gd_X7_honest 4 (c' := (14, [(0, .ref 72), (1, .int hour), (2, .int x2), (3, .int x3)], [.int hour, .int x3, .ref 72, .int x2], st)) rfl ?_
      refine xr_callV gd_X7_honest gd_X7_has k_X7_63 rfl (c_X7_has (d + 0) st x3 hour (xs_lo15 hinv h1)) (by omega) rfl rfl rfl rfl rfl ?_
      refine xs_fun ?_
      refine xr_br gd_X7_honest rfl rfl (fun h2 => ?_) (fun h2 => ?_)
      · refine xr_blk gd_X7_honest 5 (c' := (4, [(0, .ref 72), (1, .int hour), (2, .int (x2 ||| 0)), (3, .int (x3 + 1))], [], st)) rfl ?_
        refine xs_cons (ih (x2 ||| 0) (x3 + 1) (xs_lo_up hinv h1)) (fun v u hq => ?_)
        rw [lp_X7_honest_4, if_neg h1, if_pos h2]; exact hq
      · refine xr_blk gd_X7_honest 8 (c' := (4, [(0, .ref 72), (1, .int hour), (2, .int (x2 ||| (1 <<< (x3 &&& 31)))), (3, .int (x3 + 1))], [], st)) rfl ?_
        refine xs_cons (ih (x2 ||| (1 <<< (x3 &&& 31))) (x3 + 1) (xs_lo_up hinv h1)) (fun v u hq => ?_)
        rw [lp_X7_honest_4, if_neg h1, if_neg h2]; exact hq
def F_X7_honest (st : xs_S) (hour : Int32) : Int32 := lp_X7_honest_4 st hour 16 0 0
set_option maxRecDepth 20000 in
theorem c_X7_honest {G : xs_G} {base : Nat} (d : Nat) (st : xs_S) (hour : Int32) : xs_K G base (d + 1) M_X7_honest [.ref 72, .int hour] st (fun v u => v = some (.int (F_X7_honest st hour)) ∧ u = st) := by
  refine xs_intro ok_X7_honest [(0, .ref 72), (1, .int hour)] rfl rfl ?_
  refine xr_blk gd_X7_honest 4 (c' := (4, [(0, .ref 72), (1, .int hour), (2, .int 0), (3, .int 0)], [], st)) rfl ?_
  refine xs_cons (cl_X7_honest_4 d st hour 16 0 0 ⟨by decide, by decide, by decide⟩) (fun v u hq => ?_)
  rw [F_X7_honest]; exact hq
def F_X7_best (st : xs_S) (what : Int32) : Int32 × xs_S := (if (F_X7_in st what.toInt64 0 4) = 0 then ((-2), st)
    else (if ((F_X7_seek (F_X7_layOut st 0 (-6))).1) = 0 then ((-6), (F_X7_seek (F_X7_layOut st 0 (-6))).2)
      else (if what.toInt = 0 then (((F_X7_seek (F_X7_layOut st 0 (-6))).2) 72 14, (F_X7_seek (F_X7_layOut st 0 (-6))).2)
        else (if what.toInt = 1 then (((((F_X7_seek (F_X7_layOut st 0 (-6))).2) 72 15) + 100000), (F_X7_seek (F_X7_layOut st 0 (-6))).2)
          else (if what.toInt = 2 then (((((F_X7_seek (F_X7_layOut st 0 (-6))).2) 72 16) + 100000), (F_X7_seek (F_X7_layOut st 0 (-6))).2)
            else (if what.toInt = 3 then (((F_X7_hour ((F_X7_seek (F_X7_layOut st 0 (-6))).2)) + 100000), (F_X7_seek (F_X7_layOut st 0 (-6))).2)
              else ((F_X7_honest ((F_X7_seek (F_X7_layOut st 0 (-6))).2) (F_X7_hour ((F_X7_seek (F_X7_layOut st 0 (-6))).2))), (F_X7_seek (F_X7_layOut st 0 (-6))).2)))))))
set_option maxRecDepth 20000 in
theorem c_X7_best {G : xs_G} {base : Nat} (d : Nat) (st : xs_S) (what : Int32) (hR : RowOK (st 73)) : xs_K G base (d + 5) M_X7_best [.ref 72, .int what] st (fun v u => v = some (.int (F_X7_best st what).1) ∧ u = (F_X7_best st what).2) := by
  refine xs_intro ok_X7_best [(0, .ref 72), (1, .int what)] rfl rfl ?_
  refine xr_blk gd_X7_best 4 (c' := (4, [(0, .ref 72), (1, .int what)], [.int 4, .int 0, .long what.toInt64], st)) rfl ?_
  refine xr_callS gd_X7_best gd_X7_in k_X7_41 rfl (c_X7_in (d + 4) st what.toInt64 0 4) (by omega) rfl rfl rfl ?_
  refine xs_fun ?_
  refine xr_br gd_X7_best rfl rfl (fun h1 => ?_) (fun h1 => ?_)
  · refine xr_blk gd_X7_best 3 (c' := (17, [(0, .ref 72), (1, .int what)], [.int (-6), .int 0, .ref 72], st)) rfl ?_
    refine xr_callV gd_X7_best gd_X7_layOut k_X7_99 rfl (c_X7_layOut (d + 3) st 0 (-6) (ro_D hR)) (by omega) rfl rfl rfl rfl rfl ?_
    refine xs_fun ?_
    refine xr_blk gd_X7_best 1 (c' := (21, [(0, .ref 72), (1, .int what)], [.ref 72], (F_X7_layOut st 0 (-6)))) rfl ?_
    refine xr_callV gd_X7_best gd_X7_seek k_X7_103 rfl (c_X7_seek (d + 0) (F_X7_layOut st 0 (-6)) (lay_LF hR (by decide))) (by omega) rfl rfl rfl rfl rfl ?_
    refine xs_fun ?_
    refine xr_br gd_X7_best rfl rfl (fun h2 => ?_) (fun h2 => ?_)
    · refine xr_blk gd_X7_best 1 (c' := (31, [(0, .ref 72), (1, .int what)], [.int what], (F_X7_seek (F_X7_layOut st 0 (-6))).2)) rfl ?_
      by_cases h3 : what.toInt = 0
      · refine xr_swi (tgt := 60) gd_X7_best rfl 0 (by omega) (by omega) rfl (by decide) ?_
        refine xr_blk gd_X7_best 2 (c' := (64, [(0, .ref 72), (1, .int what)], [.int (((F_X7_seek (F_X7_layOut st 0 (-6))).2) 72 14)], (F_X7_seek (F_X7_layOut st 0 (-6))).2)) rfl ?_
        exact xr_iret gd_X7_best rfl rfl ⟨by first | (rw [F_X7_best, if_neg h1, if_neg h2, if_pos h3]; done) | (rw [F_X7_best, if_neg h1, if_neg h2, if_pos h3]; rfl), by first | (rw [F_X7_best, if_neg h1, if_neg h2, if_pos h3]; done) | (rw [F_X7_best, if_neg h1, if_neg h2, if_pos h3]; rfl)⟩
      · by_cases h4 : what.toInt = 1
        · refine xr_swi (tgt := 65) gd_X7_best rfl 1 (by omega) (by omega) rfl (by decide) ?_
          refine xr_blk gd_X7_best 4 (c' := (72, [(0, .ref 72), (1, .int what)], [.int ((((F_X7_seek (F_X7_layOut st 0 (-6))).2) 72 15) + 100000)], (F_X7_seek (F_X7_layOut st 0 (-6))).2)) rfl ?_
          exact xr_iret gd_X7_best rfl rfl ⟨by first | (rw [F_X7_best, if_neg h1, if_neg h2, if_neg h3, if_pos h4]; done) | (rw [F_X7_best, if_neg h1, if_neg h2, if_neg h3, if_pos h4]; rfl), by first | (rw [F_X7_best, if_neg h1, if_neg h2, if_neg h3, if_pos h4]; done) | (rw [F_X7_best, if_neg h1, if_neg h2, if_neg h3, if_pos h4]; rfl)⟩
        · by_cases h5 : what.toInt = 2
          · refine xr_swi (tgt := 73) gd_X7_best rfl 2 (by omega) (by omega) rfl (by decide) ?_
            refine xr_blk gd_X7_best 4 (c' := (80, [(0, .ref 72), (1, .int what)], [.int ((((F_X7_seek (F_X7_layOut st 0 (-6))).2) 72 16) + 100000)], (F_X7_seek (F_X7_layOut st 0 (-6))).2)) rfl ?_
            exact xr_iret gd_X7_best rfl rfl ⟨by first | (rw [F_X7_best, if_neg h1, if_neg h2, if_neg h3, if_neg h4, if_pos h5]; done) | (rw [F_X7_best, if_neg h1, if_neg h2, if_neg h3, if_neg h4, if_pos h5]; rfl), by first | (rw [F_X7_best, if_neg h1, if_neg h2, if_neg h3, if_neg h4, if_pos h5]; done) | (rw [F_X7_best, if_neg h1, if_neg h2, if_neg h3, if_neg h4, if_pos h5]; rfl)⟩
          · by_cases h6 : what.toInt = 3
            · refine xr_swi (tgt := 81) gd_X7_best rfl 3 (by omega) (by omega) rfl (by decide) ?_
              refine xr_blk gd_X7_best 1 (c' := (82, [(0, .ref 72), (1, .int what)], [.ref 72], (F_X7_seek (F_X7_layOut st 0 (-6))).2)) rfl ?_
              refine xr_callV gd_X7_best gd_X7_hour k_X7_107 rfl (c_X7_hour (d + 3) ((F_X7_seek (F_X7_layOut st 0 (-6))).2)) (by omega) rfl rfl rfl rfl rfl ?_
              refine xs_fun ?_
              refine xr_blk gd_X7_best 2 (c' := (88, [(0, .ref 72), (1, .int what)], [.int ((F_X7_hour ((F_X7_seek (F_X7_layOut st 0 (-6))).2)) + 100000)], (F_X7_seek (F_X7_layOut st 0 (-6))).2)) rfl ?_
              exact xr_iret gd_X7_best rfl rfl ⟨by first | (rw [F_X7_best, if_neg h1, if_neg h2, if_neg h3, if_neg h4, if_neg h5, if_pos h6]; done) | (rw [F_X7_best, if_neg h1, if_neg h2, if_neg h3, if_neg h4, if_neg h5, if_pos h6]; rfl), by first | (rw [F_X7_best, if_neg h1, if_neg h2, if_neg h3, if_neg h4, if_neg h5, if_pos h6]; done) | (rw [F_X7_best, if_neg h1, if_neg h2, if_neg h3, if_neg h4, if_neg h5, if_pos h6]; rfl)⟩
            · refine xr_swo (tgt := 89) gd_X7_best rfl (by omega) (by decide) ?_
              refine xr_blk gd_X7_best 2 (c' := (91, [(0, .ref 72), (1, .int what)], [.ref 72, .ref 72], (F_X7_seek (F_X7_layOut st 0 (-6))).2)) rfl ?_
              refine xr_callV gd_X7_best gd_X7_hour k_X7_107 rfl (c_X7_hour (d + 3) ((F_X7_seek (F_X7_layOut st 0 (-6))).2)) (by omega) rfl rfl rfl rfl rfl ?_
              refine xs_fun ?_
              refine xr_callV gd_X7_best gd_X7_honest k_X7_125 rfl (c_X7_honest (d + 3) ((F_X7_seek (F_X7_layOut st 0 (-6))).2) (F_X7_hour ((F_X7_seek (F_X7_layOut st 0 (-6))).2))) (by omega) rfl rfl rfl rfl rfl ?_
              refine xs_fun ?_
              exact xr_iret gd_X7_best rfl rfl ⟨by first | (rw [F_X7_best, if_neg h1, if_neg h2, if_neg h3, if_neg h4, if_neg h5, if_neg h6]; done) | (rw [F_X7_best, if_neg h1, if_neg h2, if_neg h3, if_neg h4, if_neg h5, if_neg h6]; rfl), by first | (rw [F_X7_best, if_neg h1, if_neg h2, if_neg h3, if_neg h4, if_neg h5, if_neg h6]; done) | (rw [F_X7_best, if_neg h1, if_neg h2, if_neg h3, if_neg h4, if_neg h5, if_neg h6]; rfl)⟩
    · refine xr_blk gd_X7_best 1 (c' := (29, [(0, .ref 72), (1, .int what)], [.int (-6)], (F_X7_seek (F_X7_layOut st 0 (-6))).2)) rfl ?_
      exact xr_iret gd_X7_best rfl rfl ⟨by first | (rw [F_X7_best, if_neg h1, if_pos h2]; done) | (rw [F_X7_best, if_neg h1, if_pos h2]; rfl), by first | (rw [F_X7_best, if_neg h1, if_pos h2]; done) | (rw [F_X7_best, if_neg h1, if_pos h2]; rfl)⟩
  · refine xr_blk gd_X7_best 1 (c' := (12, [(0, .ref 72), (1, .int what)], [.int (-2)], st)) rfl ?_
    exact xr_iret gd_X7_best rfl rfl ⟨by first | (rw [F_X7_best, if_pos h1]; done) | (rw [F_X7_best, if_pos h1]; rfl), by first | (rw [F_X7_best, if_pos h1]; done) | (rw [F_X7_best, if_pos h1]; rfl)⟩
def F_X7_timeOf (st : xs_S) (end_ : Int32) : Int32 := (if 15 ≤ end_ then st 82 ((end_ - 15).toInt.toNat)
    else st 81 end_.toInt.toNat)
set_option maxRecDepth 20000 in
theorem c_X7_timeOf {G : xs_G} {base : Nat} (d : Nat) (st : xs_S) (end_ : Int32) (hi : 0 ≤ end_.toInt ∧ end_.toInt < 30) : xs_K G base (d + 0) M_X7_timeOf [.ref 72, .int end_] st (fun v u => v = some (.int (F_X7_timeOf st end_)) ∧ u = st) := by
  refine xs_intro ok_X7_timeOf [(0, .ref 72), (1, .int end_)] rfl rfl ?_
  refine xr_blk gd_X7_timeOf 2 (c' := (3, [(0, .ref 72), (1, .int end_)], [.int 15, .int end_], st)) rfl ?_
  refine xr_br gd_X7_timeOf rfl rfl (fun h1 => ?_) (fun h1 => ?_)
  · refine xr_blk gd_X7_timeOf 5 (c' := (23, [(0, .ref 72), (1, .int end_)], [.int (end_ - 15), .ref 82], st)) rfl ?_
    refine xr_iald gd_X7_timeOf rfl rfl ((end_ - 15).toInt.toNat) (xs_h1 (n := 15) (xm_te hi h1)) (xs_h2 (n := 15) (xm_te hi h1)) ?_
    exact xr_iret gd_X7_timeOf rfl rfl ⟨by first | (rw [F_X7_timeOf, if_pos h1]; done) | (rw [F_X7_timeOf, if_pos h1]; rfl), rfl⟩
  · refine xr_blk gd_X7_timeOf 3 (c' := (11, [(0, .ref 72), (1, .int end_)], [.int end_, .ref 81], st)) rfl ?_
    refine xr_iald gd_X7_timeOf rfl rfl (end_.toInt.toNat) (xs_h1 (n := 15) (xm_tf hi h1)) (xs_h2 (n := 15) (xm_tf hi h1)) ?_
    refine xr_blk gd_X7_timeOf 1 (c' := (24, [(0, .ref 72), (1, .int end_)], [.int (st 81 end_.toInt.toNat)], st)) rfl ?_
    exact xr_iret gd_X7_timeOf rfl rfl ⟨by first | (rw [F_X7_timeOf, if_neg h1]; done) | (rw [F_X7_timeOf, if_neg h1]; rfl), rfl⟩
def lp_X7_ahead_4 (st : xs_S) (end_ : Int32) : Nat → Int32 → Int32 → Int32
  | 0, _, _ => 0
  | n + 1, x2, x3 => (if 30 ≤ x3 then x2
    else (if (((st 72 11) >>> ((x3 - x3 / 15 * 15) &&& 31)) &&& 1) = 1 then (if (F_X7_timeOf st x3) < (F_X7_timeOf st end_) then lp_X7_ahead_4 st end_ n (x2 + 1) (x3 + 1)
        else (if (F_X7_timeOf st x3) = (F_X7_timeOf st end_) then (if end_ ≤ x3 then lp_X7_ahead_4 st end_ n (x2 + 0) (x3 + 1)
            else lp_X7_ahead_4 st end_ n (x2 + 1) (x3 + 1))
          else lp_X7_ahead_4 st end_ n (x2 + 0) (x3 + 1)))
      else lp_X7_ahead_4 st end_ n x2 (x3 + 1)))
set_option maxRecDepth 20000 in
theorem cl_X7_ahead_4 {G : xs_G} {base : Nat} (d : Nat) (st : xs_S) (end_ : Int32) (hi : 0 ≤ end_.toInt ∧ end_.toInt < 30) : ∀ (n : Nat) (x2 : Int32) (x3 : Int32), xs_lo x3 30 n → xs_R G base (d + 1) M_X7_ahead (4, [(0, .ref 72), (1, .int end_), (2, .int x2), (3, .int x3)], [], st) (fun v u => v = some (.int (lp_X7_ahead_4 st end_ n x2 x3)) ∧ u = st) := by
  intro n
  induction n with
  | zero =>
    intro x2 x3 hinv
    exact (xs_lo0 hinv).elim
  | succ n ih =>
    intro x2 x3 hinv
    refine xr_blk gd_X7_ahead 2 (c' := (7, [(0, .ref 72), (1, .int end_), (2, .int x2), (3, .int x3)], [.int 30, .int x3], st)) rfl ?_
    refine xr_br gd_X7_ahead rfl rfl (fun h1 => ?_) (fun h1 => ?_)
    · refine xr_blk gd_X7_ahead 1 (c' := (71, [(0, .ref 72), (1, .int end_), (2, .int x2), (3, .int x3)], [.int x2], st)) rfl ?_
      exact xr_iret gd_X7_ahead rfl rfl ⟨by first | (rw [lp_X7_ahead_4, if_pos h1]; done) | (rw [lp_X7_ahead_4, if_pos h1]; rfl), rfl⟩
    · refine xr_blk gd_X7_ahead 4 (c' := (17, [(0, .ref 72), (1, .int end_), (2, .int x2), (3, .int x3)], [.int 15, .int x3, .int (st 72 11)], st)) rfl ?_
      refine xr_irem gd_X7_ahead.1 rfl (by decide) ?_
      refine xr_blk gd_X7_ahead 4 (c' := (22, [(0, .ref 72), (1, .int end_), (2, .int x2), (3, .int x3)], [.int 1, .int (((st 72 11) >>> ((x3 - x3 / 15 * 15) &&& 31)) &&& 1)], st)) rfl ?_
      refine xr_br gd_X7_ahead rfl rfl (fun h2 => ?_) (fun h2 => ?_)
      · refine xr_blk gd_X7_ahead 2 (c' := (4, [(0, .ref 72), (1, .int end_), (2, .int x2), (3, .int (x3 + 1))], [], st)) rfl ?_
        refine xs_cons (ih x2 (x3 + 1) (xs_lo_up hinv h1)) (fun v u hq => ?_)
        rw [lp_X7_ahead_4, if_neg h1, if_neg h2]; exact hq
      · refine xr_blk gd_X7_ahead 3 (c' := (28, [(0, .ref 72), (1, .int end_), (2, .int x2), (3, .int x3)], [.int x3, .ref 72, .int x2], st)) rfl ?_
        refine xr_callV gd_X7_ahead gd_X7_timeOf k_X7_128 rfl (c_X7_timeOf (d + 0) st x3 (xm_30 hinv h1)) (by omega) rfl rfl rfl rfl rfl ?_
        refine xs_fun ?_
        refine xr_blk gd_X7_ahead 2 (c' := (33, [(0, .ref 72), (1, .int end_), (2, .int x2), (3, .int x3)], [.int end_, .ref 72, .int (F_X7_timeOf st x3), .int x2], st)) rfl ?_
        refine xr_callV gd_X7_ahead gd_X7_timeOf k_X7_128 rfl (c_X7_timeOf (d + 0) st end_ hi) (by omega) rfl rfl rfl rfl rfl ?_
        refine xs_fun ?_
        refine xr_br gd_X7_ahead rfl rfl (fun h3 => ?_) (fun h3 => ?_)
        · refine xr_blk gd_X7_ahead 6 (c' := (4, [(0, .ref 72), (1, .int end_), (2, .int (x2 + 1)), (3, .int (x3 + 1))], [], st)) rfl ?_
          refine xs_cons (ih (x2 + 1) (x3 + 1) (xs_lo_up hinv h1)) (fun v u hq => ?_)
          rw [lp_X7_ahead_4, if_neg h1, if_pos h2, if_pos h3]; exact hq
        · refine xr_blk gd_X7_ahead 2 (c' := (41, [(0, .ref 72), (1, .int end_), (2, .int x2), (3, .int x3)], [.int x3, .ref 72, .int x2], st)) rfl ?_
          refine xr_callV gd_X7_ahead gd_X7_timeOf k_X7_128 rfl (c_X7_timeOf (d + 0) st x3 (xm_30 hinv h1)) (by omega) rfl rfl rfl rfl rfl ?_
          refine xs_fun ?_
          refine xr_blk gd_X7_ahead 2 (c' := (46, [(0, .ref 72), (1, .int end_), (2, .int x2), (3, .int x3)], [.int end_, .ref 72, .int (F_X7_timeOf st x3), .int x2], st)) rfl ?_
          refine xr_callV gd_X7_ahead gd_X7_timeOf k_X7_128 rfl (c_X7_timeOf (d + 0) st end_ hi) (by omega) rfl rfl rfl rfl rfl ?_
          refine xs_fun ?_
          refine xr_br gd_X7_ahead rfl rfl (fun h4 => ?_) (fun h4 => ?_)
          · refine xr_blk gd_X7_ahead 5 (c' := (4, [(0, .ref 72), (1, .int end_), (2, .int (x2 + 0)), (3, .int (x3 + 1))], [], st)) rfl ?_
            refine xs_cons (ih (x2 + 0) (x3 + 1) (xs_lo_up hinv h1)) (fun v u hq => ?_)
            rw [lp_X7_ahead_4, if_neg h1, if_pos h2, if_neg h3, if_neg h4]; exact hq
          · refine xr_blk gd_X7_ahead 2 (c' := (54, [(0, .ref 72), (1, .int end_), (2, .int x2), (3, .int x3)], [.int end_, .int x3, .int x2], st)) rfl ?_
            refine xr_br gd_X7_ahead rfl rfl (fun h5 => ?_) (fun h5 => ?_)
            · refine xr_blk gd_X7_ahead 5 (c' := (4, [(0, .ref 72), (1, .int end_), (2, .int (x2 + 0)), (3, .int (x3 + 1))], [], st)) rfl ?_
              refine xs_cons (ih (x2 + 0) (x3 + 1) (xs_lo_up hinv h1)) (fun v u hq => ?_)
              rw [lp_X7_ahead_4, if_neg h1, if_pos h2, if_neg h3, if_pos h4, if_pos h5]; exact hq
            · refine xr_blk gd_X7_ahead 6 (c' := (4, [(0, .ref 72), (1, .int end_), (2, .int (x2 + 1)), (3, .int (x3 + 1))], [], st)) rfl ?_
              refine xs_cons (ih (x2 + 1) (x3 + 1) (xs_lo_up hinv h1)) (fun v u hq => ?_)
              rw [lp_X7_ahead_4, if_neg h1, if_pos h2, if_neg h3, if_pos h4, if_neg h5]; exact hq
def F_X7_ahead (st : xs_S) (end_ : Int32) : Int32 := lp_X7_ahead_4 st end_ 31 0 0
set_option maxRecDepth 20000 in
theorem c_X7_ahead {G : xs_G} {base : Nat} (d : Nat) (st : xs_S) (end_ : Int32) (hi : 0 ≤ end_.toInt ∧ end_.toInt < 30) : xs_K G base (d + 1) M_X7_ahead [.ref 72, .int end_] st (fun v u => v = some (.int (F_X7_ahead st end_)) ∧ u = st) := by
  refine xs_intro ok_X7_ahead [(0, .ref 72), (1, .int end_)] rfl rfl ?_
  refine xr_blk gd_X7_ahead 4 (c' := (4, [(0, .ref 72), (1, .int end_), (2, .int 0), (3, .int 0)], [], st)) rfl ?_
  refine xs_cons (cl_X7_ahead_4 d st end_ hi 31 0 0 ⟨by decide, by decide, by decide⟩) (fun v u hq => ?_)
  rw [F_X7_ahead]; exact hq
def lp_X7_end_9 (rank : Int32) (what : Int32) : Nat → Int32 → xs_S → Int32 × xs_S
  | 0, _, st => (0, st)
  | n + 1, x3, st => (if 30 ≤ x3 then ((-1), st)
    else (if (((st 72 11) >>> ((x3 - x3 / 15 * 15) &&& 31)) &&& 1) = 1 then (if (F_X7_ahead st x3) = rank then (if what = 0 then (((F_X7_timeOf st x3) + 100000), st)
          else (if what = 1 then ((x3 - x3 / 15 * 15), st)
            else (if what = 2 then ((x3 / 15), st)
              else ((-2), st))))
        else lp_X7_end_9 rank what n (x3 + 1) st)
      else lp_X7_end_9 rank what n (x3 + 1) st))
set_option maxRecDepth 20000 in
theorem cl_X7_end_9 {G : xs_G} {base : Nat} (d : Nat) (rank : Int32) (what : Int32) : ∀ (n : Nat) (x3 : Int32) (st : xs_S), xs_lo x3 30 n → xs_R G base (d + 2) M_X7_end (9, [(0, .ref 72), (1, .int rank), (2, .int what), (3, .int x3)], [], st) (fun v u => v = some (.int (lp_X7_end_9 rank what n x3 st).1) ∧ u = (lp_X7_end_9 rank what n x3 st).2) := by
  intro n
  induction n with
  | zero =>
    intro x3 st hinv
    exact (xs_lo0 hinv).elim
  | succ n ih =>
    intro x3 st hinv
    refine xr_blk gd_X7_end 2 (c' := (12, [(0, .ref 72), (1, .int rank), (2, .int what), (3, .int x3)], [.int 30, .int x3], st)) rfl ?_
    refine xr_br gd_X7_end rfl rfl (fun h1 => ?_) (fun h1 => ?_)
    · refine xr_blk gd_X7_end 1 (c' := (88, [(0, .ref 72), (1, .int rank), (2, .int what), (3, .int x3)], [.int (-1)], st)) rfl ?_
      exact xr_iret gd_X7_end rfl rfl ⟨by first | (rw [lp_X7_end_9, if_pos h1]; done) | (rw [lp_X7_end_9, if_pos h1]; rfl), by first | (rw [lp_X7_end_9, if_pos h1]; done) | (rw [lp_X7_end_9, if_pos h1]; rfl)⟩
    · refine xr_blk gd_X7_end 4 (c' := (22, [(0, .ref 72), (1, .int rank), (2, .int what), (3, .int x3)], [.int 15, .int x3, .int (st 72 11)], st)) rfl ?_
      refine xr_irem gd_X7_end.1 rfl (by decide) ?_
      refine xr_blk gd_X7_end 4 (c' := (27, [(0, .ref 72), (1, .int rank), (2, .int what), (3, .int x3)], [.int 1, .int (((st 72 11) >>> ((x3 - x3 / 15 * 15) &&& 31)) &&& 1)], st)) rfl ?_
      refine xr_br gd_X7_end rfl rfl (fun h2 => ?_) (fun h2 => ?_)
      · refine xr_blk gd_X7_end 2 (c' := (9, [(0, .ref 72), (1, .int rank), (2, .int what), (3, .int (x3 + 1))], [], st)) rfl ?_
        refine xs_cons (ih (x3 + 1) st (xs_lo_up hinv h1)) (fun v u hq => ?_)
        rw [lp_X7_end_9, if_neg h1, if_neg h2]; exact hq
      · refine xr_blk gd_X7_end 2 (c' := (32, [(0, .ref 72), (1, .int rank), (2, .int what), (3, .int x3)], [.int x3, .ref 72], st)) rfl ?_
        refine xr_callV gd_X7_end gd_X7_ahead k_X7_131 rfl (c_X7_ahead (d + 0) st x3 (xm_30 hinv h1)) (by omega) rfl rfl rfl rfl rfl ?_
        refine xs_fun ?_
        refine xr_blk gd_X7_end 1 (c' := (36, [(0, .ref 72), (1, .int rank), (2, .int what), (3, .int x3)], [.int rank, .int (F_X7_ahead st x3)], st)) rfl ?_
        refine xr_br gd_X7_end rfl rfl (fun h3 => ?_) (fun h3 => ?_)
        · refine xr_blk gd_X7_end 2 (c' := (9, [(0, .ref 72), (1, .int rank), (2, .int what), (3, .int (x3 + 1))], [], st)) rfl ?_
          refine xs_cons (ih (x3 + 1) st (xs_lo_up hinv h1)) (fun v u hq => ?_)
          rw [lp_X7_end_9, if_neg h1, if_pos h2, if_neg h3]; exact hq
        · refine xr_blk gd_X7_end 1 (c' := (40, [(0, .ref 72), (1, .int rank), (2, .int what), (3, .int x3)], [.int what], st)) rfl ?_
          refine xr_br gd_X7_end rfl rfl (fun h4 => ?_) (fun h4 => ?_)
          · refine xr_blk gd_X7_end 2 (c' := (56, [(0, .ref 72), (1, .int rank), (2, .int what), (3, .int x3)], [.int 1, .int what], st)) rfl ?_
            refine xr_br gd_X7_end rfl rfl (fun h5 => ?_) (fun h5 => ?_)
            · refine xr_blk gd_X7_end 2 (c' := (68, [(0, .ref 72), (1, .int rank), (2, .int what), (3, .int x3)], [.int 2, .int what], st)) rfl ?_
              refine xr_br gd_X7_end rfl rfl (fun h6 => ?_) (fun h6 => ?_)
              · refine xr_blk gd_X7_end 1 (c' := (80, [(0, .ref 72), (1, .int rank), (2, .int what), (3, .int x3)], [.int (-2)], st)) rfl ?_
                exact xr_iret gd_X7_end rfl rfl ⟨by first | (rw [lp_X7_end_9, if_neg h1, if_pos h2, if_pos h3, if_neg h4, if_neg h5, if_neg h6]; done) | (rw [lp_X7_end_9, if_neg h1, if_pos h2, if_pos h3, if_neg h4, if_neg h5, if_neg h6]; rfl), by first | (rw [lp_X7_end_9, if_neg h1, if_pos h2, if_pos h3, if_neg h4, if_neg h5, if_neg h6]; done) | (rw [lp_X7_end_9, if_neg h1, if_pos h2, if_pos h3, if_neg h4, if_neg h5, if_neg h6]; rfl)⟩
              · refine xr_blk gd_X7_end 2 (c' := (74, [(0, .ref 72), (1, .int rank), (2, .int what), (3, .int x3)], [.int 15, .int x3], st)) rfl ?_
                refine xr_idiv gd_X7_end.1 rfl (by decide) ?_
                refine xr_blk gd_X7_end 1 (c' := (80, [(0, .ref 72), (1, .int rank), (2, .int what), (3, .int x3)], [.int (x3 / 15)], st)) rfl ?_
                exact xr_iret gd_X7_end rfl rfl ⟨by first | (rw [lp_X7_end_9, if_neg h1, if_pos h2, if_pos h3, if_neg h4, if_neg h5, if_pos h6]; done) | (rw [lp_X7_end_9, if_neg h1, if_pos h2, if_pos h3, if_neg h4, if_neg h5, if_pos h6]; rfl), by first | (rw [lp_X7_end_9, if_neg h1, if_pos h2, if_pos h3, if_neg h4, if_neg h5, if_pos h6]; done) | (rw [lp_X7_end_9, if_neg h1, if_pos h2, if_pos h3, if_neg h4, if_neg h5, if_pos h6]; rfl)⟩
            · refine xr_blk gd_X7_end 2 (c' := (62, [(0, .ref 72), (1, .int rank), (2, .int what), (3, .int x3)], [.int 15, .int x3], st)) rfl ?_
              refine xr_irem gd_X7_end.1 rfl (by decide) ?_
              refine xr_blk gd_X7_end 1 (c' := (80, [(0, .ref 72), (1, .int rank), (2, .int what), (3, .int x3)], [.int (x3 - x3 / 15 * 15)], st)) rfl ?_
              exact xr_iret gd_X7_end rfl rfl ⟨by first | (rw [lp_X7_end_9, if_neg h1, if_pos h2, if_pos h3, if_neg h4, if_pos h5]; done) | (rw [lp_X7_end_9, if_neg h1, if_pos h2, if_pos h3, if_neg h4, if_pos h5]; rfl), by first | (rw [lp_X7_end_9, if_neg h1, if_pos h2, if_pos h3, if_neg h4, if_pos h5]; done) | (rw [lp_X7_end_9, if_neg h1, if_pos h2, if_pos h3, if_neg h4, if_pos h5]; rfl)⟩
          · refine xr_blk gd_X7_end 2 (c' := (45, [(0, .ref 72), (1, .int rank), (2, .int what), (3, .int x3)], [.int x3, .ref 72], st)) rfl ?_
            refine xr_callV gd_X7_end gd_X7_timeOf k_X7_128 rfl (c_X7_timeOf (d + 1) st x3 (xm_30 hinv h1)) (by omega) rfl rfl rfl rfl rfl ?_
            refine xs_fun ?_
            refine xr_blk gd_X7_end 3 (c' := (80, [(0, .ref 72), (1, .int rank), (2, .int what), (3, .int x3)], [.int ((F_X7_timeOf st x3) + 100000)], st)) rfl ?_
            exact xr_iret gd_X7_end rfl rfl ⟨by first | (rw [lp_X7_end_9, if_neg h1, if_pos h2, if_pos h3, if_pos h4]; done) | (rw [lp_X7_end_9, if_neg h1, if_pos h2, if_pos h3, if_pos h4]; rfl), by first | (rw [lp_X7_end_9, if_neg h1, if_pos h2, if_pos h3, if_pos h4]; done) | (rw [lp_X7_end_9, if_neg h1, if_pos h2, if_pos h3, if_pos h4]; rfl)⟩
def F_X7_end (st : xs_S) (rank : Int32) (what : Int32) : Int32 × xs_S := lp_X7_end_9 rank what 31 0 (F_X7_layOut st 0 (-6))
set_option maxRecDepth 20000 in
theorem c_X7_end {G : xs_G} {base : Nat} (d : Nat) (st : xs_S) (rank : Int32) (what : Int32) (hR : RowOK (st 73)) : xs_K G base (d + 2) M_X7_end [.ref 72, .int rank, .int what] st (fun v u => v = some (.int (F_X7_end st rank what).1) ∧ u = (F_X7_end st rank what).2) := by
  refine xs_intro ok_X7_end [(0, .ref 72), (1, .int rank), (2, .int what)] rfl rfl ?_
  refine xr_blk gd_X7_end 3 (c' := (4, [(0, .ref 72), (1, .int rank), (2, .int what)], [.int (-6), .int 0, .ref 72], st)) rfl ?_
  refine xr_callV gd_X7_end gd_X7_layOut k_X7_99 rfl (c_X7_layOut (d + 0) st 0 (-6) (ro_D hR)) (by omega) rfl rfl rfl rfl rfl ?_
  refine xs_fun ?_
  refine xr_blk gd_X7_end 2 (c' := (9, [(0, .ref 72), (1, .int rank), (2, .int what), (3, .int 0)], [], (F_X7_layOut st 0 (-6)))) rfl ?_
  refine xs_cons (cl_X7_end_9 d rank what 31 0 (F_X7_layOut st 0 (-6)) ⟨by decide, by decide, by decide⟩) (fun v u hq => ?_)
  rw [F_X7_end]; exact hq
def F_X7_overlap (st : xs_S) (time : Int32) : Int32 × xs_S := (if (F_X7_in st time.toInt64 (-99999) 299999) = 0 then ((-2), st)
    else ((F_X7_overlapAt (F_X7_layOut st 0 (-6)) time), (F_X7_layOut st 0 (-6))))
set_option maxRecDepth 20000 in
theorem c_X7_overlap {G : xs_G} {base : Nat} (d : Nat) (st : xs_S) (time : Int32) (hR : RowOK (st 73)) : xs_K G base (d + 2) M_X7_overlap [.ref 72, .int time] st (fun v u => v = some (.int (F_X7_overlap st time).1) ∧ u = (F_X7_overlap st time).2) := by
  refine xs_intro ok_X7_overlap [(0, .ref 72), (1, .int time)] rfl rfl ?_
  refine xr_blk gd_X7_overlap 4 (c' := (6, [(0, .ref 72), (1, .int time)], [.int 299999, .int (-99999), .long time.toInt64], st)) rfl ?_
  refine xr_callS gd_X7_overlap gd_X7_in k_X7_41 rfl (c_X7_in (d + 1) st time.toInt64 (-99999) 299999) (by omega) rfl rfl rfl ?_
  refine xs_fun ?_
  refine xr_br gd_X7_overlap rfl rfl (fun h1 => ?_) (fun h1 => ?_)
  · refine xr_blk gd_X7_overlap 3 (c' := (19, [(0, .ref 72), (1, .int time)], [.int (-6), .int 0, .ref 72], st)) rfl ?_
    refine xr_callV gd_X7_overlap gd_X7_layOut k_X7_99 rfl (c_X7_layOut (d + 0) st 0 (-6) (ro_D hR)) (by omega) rfl rfl rfl rfl rfl ?_
    refine xs_fun ?_
    refine xr_blk gd_X7_overlap 2 (c' := (24, [(0, .ref 72), (1, .int time)], [.int time, .ref 72], (F_X7_layOut st 0 (-6)))) rfl ?_
    refine xr_callV gd_X7_overlap gd_X7_overlapAt k_X7_69 rfl (c_X7_overlapAt (d + 0) (F_X7_layOut st 0 (-6)) time) (by omega) rfl rfl rfl rfl rfl ?_
    refine xs_fun ?_
    exact xr_iret gd_X7_overlap rfl rfl ⟨by first | (rw [F_X7_overlap, if_neg h1]; done) | (rw [F_X7_overlap, if_neg h1]; rfl), by first | (rw [F_X7_overlap, if_neg h1]; done) | (rw [F_X7_overlap, if_neg h1]; rfl)⟩
  · refine xr_blk gd_X7_overlap 1 (c' := (14, [(0, .ref 72), (1, .int time)], [.int (-2)], st)) rfl ?_
    exact xr_iret gd_X7_overlap rfl rfl ⟨by first | (rw [F_X7_overlap, if_pos h1]; done) | (rw [F_X7_overlap, if_pos h1]; rfl), by first | (rw [F_X7_overlap, if_pos h1]; done) | (rw [F_X7_overlap, if_pos h1]; rfl)⟩
def lp_X7_struck_4 (st : xs_S) : Nat → Int32 → Int32 → Int32
  | 0, _, _ => 0
  | n + 1, x1, x2 => (if (st 73 3) ≤ x2 then x1
    else lp_X7_struck_4 st n (x1 ||| ((F_X7_its st x2 6) <<< (x2 &&& 31))) (x2 + 1))
set_option maxRecDepth 20000 in
theorem cl_X7_struck_4 {G : xs_G} {base : Nat} (d : Nat) (st : xs_S) (hD : 0 ≤ (st 73 3).toInt ∧ (st 73 3).toInt ≤ 15) : ∀ (n : Nat) (x1 : Int32) (x2 : Int32), xs_lo x2 (st 73 3) n → xs_R G base (d + 1) M_X7_struck (4, [(0, .ref 72), (1, .int x1), (2, .int x2)], [], st) (fun v u => v = some (.int (lp_X7_struck_4 st n x1 x2)) ∧ u = st) := by
  intro n
  induction n with
  | zero =>
    intro x1 x2 hinv
    exact (xs_lo0 hinv).elim
  | succ n ih =>
    intro x1 x2 hinv
    refine xr_blk gd_X7_struck 4 (c' := (10, [(0, .ref 72), (1, .int x1), (2, .int x2)], [.int 3, .ref 73, .int x2], st)) rfl ?_
    refine xr_iald gd_X7_struck rfl rfl (3) (by decide) (by decide) ?_
    refine xr_br gd_X7_struck rfl rfl (fun h1 => ?_) (fun h1 => ?_)
    · refine xr_blk gd_X7_struck 1 (c' := (33, [(0, .ref 72), (1, .int x1), (2, .int x2)], [.int x1], st)) rfl ?_
      exact xr_iret gd_X7_struck rfl rfl ⟨by first | (rw [lp_X7_struck_4, if_pos h1]; done) | (rw [lp_X7_struck_4, if_pos h1]; rfl), rfl⟩
    · refine xr_blk gd_X7_struck 4 (c' := (19, [(0, .ref 72), (1, .int x1), (2, .int x2)], [.int 6, .int x2, .ref 72, .int x1], st)) rfl ?_
      refine xr_callV gd_X7_struck gd_X7_its k_X7_59 rfl (c_X7_its (d + 0) st x2 6 (xm_its (xs_ix hD (xs_lo_in hinv h1)) (by decide))) (by omega) rfl rfl rfl rfl rfl ?_
      refine xs_fun ?_
      refine xr_blk gd_X7_struck 6 (c' := (4, [(0, .ref 72), (1, .int (x1 ||| ((F_X7_its st x2 6) <<< (x2 &&& 31)))), (2, .int (x2 + 1))], [], st)) rfl ?_
      refine xs_cons (ih (x1 ||| ((F_X7_its st x2 6) <<< (x2 &&& 31))) (x2 + 1) (xs_lo_up hinv h1)) (fun v u hq => ?_)
      rw [lp_X7_struck_4, if_neg h1]; exact hq
def F_X7_struck (st : xs_S) : Int32 := lp_X7_struck_4 st 16 0 0
set_option maxRecDepth 20000 in
theorem c_X7_struck {G : xs_G} {base : Nat} (d : Nat) (st : xs_S) (hD : 0 ≤ (st 73 3).toInt ∧ (st 73 3).toInt ≤ 15) : xs_K G base (d + 1) M_X7_struck [.ref 72] st (fun v u => v = some (.int (F_X7_struck st)) ∧ u = st) := by
  refine xs_intro ok_X7_struck [(0, .ref 72)] rfl rfl ?_
  refine xr_blk gd_X7_struck 4 (c' := (4, [(0, .ref 72), (1, .int 0), (2, .int 0)], [], st)) rfl ?_
  refine xs_cons (cl_X7_struck_4 d st hD 16 0 0 (xs_lo_e hD.1 (xm_16 hD))) (fun v u hq => ?_)
  rw [F_X7_struck]; exact hq
def F_X7_count (st : xs_S) (what : Int32) : Int32 × xs_S := (if what.toInt = 0 then ((F_X7_layOut st 0 (-6)) 73 2, (F_X7_layOut st 0 (-6)))
    else (if what.toInt = 1 then ((F_X7_layOut st 0 (-6)) 73 3, (F_X7_layOut st 0 (-6)))
      else (if what.toInt = 2 then ((F_X7_layOut st 0 (-6)) 72 11, (F_X7_layOut st 0 (-6)))
        else (if what.toInt = 3 then ((F_X7_struck (F_X7_layOut st 0 (-6))), (F_X7_layOut st 0 (-6)))
          else (if what.toInt = 4 then ((F_X7_layOut st 0 (-6)) 73 4, (F_X7_layOut st 0 (-6)))
            else (if what.toInt = 5 then (if ((F_X7_layOut st 0 (-6)) 73 4) = 0 then ((-6), (F_X7_layOut st 0 (-6)))
                else ((((F_X7_layOut st 0 (-6)) 73 5) + 100000), (F_X7_layOut st 0 (-6))))
              else (if what.toInt = 6 then ((F_X7_layOut st 0 (-6)) 73 ((what - 6).toInt.toNat), (F_X7_layOut st 0 (-6)))
                else (if what.toInt = 7 then ((F_X7_layOut st 0 (-6)) 73 ((what - 6).toInt.toNat), (F_X7_layOut st 0 (-6)))
                  else (if what.toInt = 8 then ((F_X7_layOut st 0 (-6)) 72 7, (F_X7_layOut st 0 (-6)))
                    else (if what.toInt = 9 then ((F_X7_layOut st 0 (-6)) 72 5, (F_X7_layOut st 0 (-6)))
                      else ((-2), (F_X7_layOut st 0 (-6)))))))))))))
set_option maxRecDepth 20000 in
theorem c_X7_count {G : xs_G} {base : Nat} (d : Nat) (st : xs_S) (what : Int32) (hR : RowOK (st 73)) : xs_K G base (d + 2) M_X7_count [.ref 72, .int what] st (fun v u => v = some (.int (F_X7_count st what).1) ∧ u = (F_X7_count st what).2) := by
  refine xs_intro ok_X7_count [(0, .ref 72), (1, .int what)] rfl rfl ?_
  refine xr_blk gd_X7_count 3 (c' := (4, [(0, .ref 72), (1, .int what)], [.int (-6), .int 0, .ref 72], st)) rfl ?_
  refine xr_callV gd_X7_count gd_X7_layOut k_X7_99 rfl (c_X7_layOut (d + 0) st 0 (-6) (ro_D hR)) (by omega) rfl rfl rfl rfl rfl ?_
  refine xs_fun ?_
  refine xr_blk gd_X7_count 1 (c' := (8, [(0, .ref 72), (1, .int what)], [.int what], (F_X7_layOut st 0 (-6)))) rfl ?_
  by_cases h1 : what.toInt = 0
  · refine xr_swi (tgt := 64) gd_X7_count rfl 0 (by omega) (by omega) rfl (by decide) ?_
    refine xr_blk gd_X7_count 3 (c' := (69, [(0, .ref 72), (1, .int what)], [.int 2, .ref 73], (F_X7_layOut st 0 (-6)))) rfl ?_
    refine xr_iald gd_X7_count rfl rfl (2) (by decide) (by decide) ?_
    exact xr_iret gd_X7_count rfl rfl ⟨by first | (rw [F_X7_count, if_pos h1]; done) | (rw [F_X7_count, if_pos h1]; rfl), by first | (rw [F_X7_count, if_pos h1]; done) | (rw [F_X7_count, if_pos h1]; rfl)⟩
  · by_cases h2 : what.toInt = 1
    · refine xr_swi (tgt := 71) gd_X7_count rfl 1 (by omega) (by omega) rfl (by decide) ?_
      refine xr_blk gd_X7_count 3 (c' := (76, [(0, .ref 72), (1, .int what)], [.int 3, .ref 73], (F_X7_layOut st 0 (-6)))) rfl ?_
      refine xr_iald gd_X7_count rfl rfl (3) (by decide) (by decide) ?_
      exact xr_iret gd_X7_count rfl rfl ⟨by first | (rw [F_X7_count, if_neg h1, if_pos h2]; done) | (rw [F_X7_count, if_neg h1, if_pos h2]; rfl), by first | (rw [F_X7_count, if_neg h1, if_pos h2]; done) | (rw [F_X7_count, if_neg h1, if_pos h2]; rfl)⟩
    · by_cases h3 : what.toInt = 2
      · refine xr_swi (tgt := 78) gd_X7_count rfl 2 (by omega) (by omega) rfl (by decide) ?_
        refine xr_blk gd_X7_count 2 (c' := (82, [(0, .ref 72), (1, .int what)], [.int ((F_X7_layOut st 0 (-6)) 72 11)], (F_X7_layOut st 0 (-6)))) rfl ?_
        exact xr_iret gd_X7_count rfl rfl ⟨by first | (rw [F_X7_count, if_neg h1, if_neg h2, if_pos h3]; done) | (rw [F_X7_count, if_neg h1, if_neg h2, if_pos h3]; rfl), by first | (rw [F_X7_count, if_neg h1, if_neg h2, if_pos h3]; done) | (rw [F_X7_count, if_neg h1, if_neg h2, if_pos h3]; rfl)⟩
      · by_cases h4 : what.toInt = 3
        · refine xr_swi (tgt := 83) gd_X7_count rfl 3 (by omega) (by omega) rfl (by decide) ?_
          refine xr_blk gd_X7_count 1 (c' := (84, [(0, .ref 72), (1, .int what)], [.ref 72], (F_X7_layOut st 0 (-6)))) rfl ?_
          refine xr_callV gd_X7_count gd_X7_struck k_X7_136 rfl (c_X7_struck (d + 0) (F_X7_layOut st 0 (-6)) (by rw [lay_n 73 (by decide) (by decide) (by decide)]; exact ro_D hR)) (by omega) rfl rfl rfl rfl rfl ?_
          refine xs_fun ?_
          exact xr_iret gd_X7_count rfl rfl ⟨by first | (rw [F_X7_count, if_neg h1, if_neg h2, if_neg h3, if_pos h4]; done) | (rw [F_X7_count, if_neg h1, if_neg h2, if_neg h3, if_pos h4]; rfl), by first | (rw [F_X7_count, if_neg h1, if_neg h2, if_neg h3, if_pos h4]; done) | (rw [F_X7_count, if_neg h1, if_neg h2, if_neg h3, if_pos h4]; rfl)⟩
        · by_cases h5 : what.toInt = 4
          · refine xr_swi (tgt := 88) gd_X7_count rfl 4 (by omega) (by omega) rfl (by decide) ?_
            refine xr_blk gd_X7_count 3 (c' := (93, [(0, .ref 72), (1, .int what)], [.int 4, .ref 73], (F_X7_layOut st 0 (-6)))) rfl ?_
            refine xr_iald gd_X7_count rfl rfl (4) (by decide) (by decide) ?_
            exact xr_iret gd_X7_count rfl rfl ⟨by first | (rw [F_X7_count, if_neg h1, if_neg h2, if_neg h3, if_neg h4, if_pos h5]; done) | (rw [F_X7_count, if_neg h1, if_neg h2, if_neg h3, if_neg h4, if_pos h5]; rfl), by first | (rw [F_X7_count, if_neg h1, if_neg h2, if_neg h3, if_neg h4, if_pos h5]; done) | (rw [F_X7_count, if_neg h1, if_neg h2, if_neg h3, if_neg h4, if_pos h5]; rfl)⟩
          · by_cases h6 : what.toInt = 5
            · refine xr_swi (tgt := 95) gd_X7_count rfl 5 (by omega) (by omega) rfl (by decide) ?_
              refine xr_blk gd_X7_count 3 (c' := (100, [(0, .ref 72), (1, .int what)], [.int 4, .ref 73], (F_X7_layOut st 0 (-6)))) rfl ?_
              refine xr_iald gd_X7_count rfl rfl (4) (by decide) (by decide) ?_
              refine xr_br gd_X7_count rfl rfl (fun h7 => ?_) (fun h7 => ?_)
              · refine xr_blk gd_X7_count 3 (c' := (114, [(0, .ref 72), (1, .int what)], [.int 5, .ref 73], (F_X7_layOut st 0 (-6)))) rfl ?_
                refine xr_iald gd_X7_count rfl rfl (5) (by decide) (by decide) ?_
                refine xr_blk gd_X7_count 2 (c' := (118, [(0, .ref 72), (1, .int what)], [.int (((F_X7_layOut st 0 (-6)) 73 5) + 100000)], (F_X7_layOut st 0 (-6)))) rfl ?_
                exact xr_iret gd_X7_count rfl rfl ⟨by first | (rw [F_X7_count, if_neg h1, if_neg h2, if_neg h3, if_neg h4, if_neg h5, if_pos h6, if_neg h7]; done) | (rw [F_X7_count, if_neg h1, if_neg h2, if_neg h3, if_neg h4, if_neg h5, if_pos h6, if_neg h7]; rfl), by first | (rw [F_X7_count, if_neg h1, if_neg h2, if_neg h3, if_neg h4, if_neg h5, if_pos h6, if_neg h7]; done) | (rw [F_X7_count, if_neg h1, if_neg h2, if_neg h3, if_neg h4, if_neg h5, if_pos h6, if_neg h7]; rfl)⟩
              · refine xr_blk gd_X7_count 2 (c' := (118, [(0, .ref 72), (1, .int what)], [.int (-6)], (F_X7_layOut st 0 (-6)))) rfl ?_
                exact xr_iret gd_X7_count rfl rfl ⟨by first | (rw [F_X7_count, if_neg h1, if_neg h2, if_neg h3, if_neg h4, if_neg h5, if_pos h6, if_pos h7]; done) | (rw [F_X7_count, if_neg h1, if_neg h2, if_neg h3, if_neg h4, if_neg h5, if_pos h6, if_pos h7]; rfl), by first | (rw [F_X7_count, if_neg h1, if_neg h2, if_neg h3, if_neg h4, if_neg h5, if_pos h6, if_pos h7]; done) | (rw [F_X7_count, if_neg h1, if_neg h2, if_neg h3, if_neg h4, if_neg h5, if_pos h6, if_pos h7]; rfl)⟩
            · by_cases h8 : what.toInt = 6
              · refine xr_swi (tgt := 119) gd_X7_count rfl 6 (by omega) (by omega) rfl (by decide) ?_
                refine xr_blk gd_X7_count 5 (c' := (127, [(0, .ref 72), (1, .int what)], [.int (what - 6), .ref 73], (F_X7_layOut st 0 (-6)))) rfl ?_
                refine xr_iald gd_X7_count rfl rfl ((what - 6).toInt.toNat) (xs_h1 (n := 111) (xm_c6 (by omega))) (xs_h2 (n := 111) (xm_c6 (by omega))) ?_
                exact xr_iret gd_X7_count rfl rfl ⟨by first | (rw [F_X7_count, if_neg h1, if_neg h2, if_neg h3, if_neg h4, if_neg h5, if_neg h6, if_pos h8]; done) | (rw [F_X7_count, if_neg h1, if_neg h2, if_neg h3, if_neg h4, if_neg h5, if_neg h6, if_pos h8]; rfl), by first | (rw [F_X7_count, if_neg h1, if_neg h2, if_neg h3, if_neg h4, if_neg h5, if_neg h6, if_pos h8]; done) | (rw [F_X7_count, if_neg h1, if_neg h2, if_neg h3, if_neg h4, if_neg h5, if_neg h6, if_pos h8]; rfl)⟩
              · by_cases h9 : what.toInt = 7
                · refine xr_swi (tgt := 119) gd_X7_count rfl 7 (by omega) (by omega) rfl (by decide) ?_
                  refine xr_blk gd_X7_count 5 (c' := (127, [(0, .ref 72), (1, .int what)], [.int (what - 6), .ref 73], (F_X7_layOut st 0 (-6)))) rfl ?_
                  refine xr_iald gd_X7_count rfl rfl ((what - 6).toInt.toNat) (xs_h1 (n := 111) (xm_c6 (by omega))) (xs_h2 (n := 111) (xm_c6 (by omega))) ?_
                  exact xr_iret gd_X7_count rfl rfl ⟨by first | (rw [F_X7_count, if_neg h1, if_neg h2, if_neg h3, if_neg h4, if_neg h5, if_neg h6, if_neg h8, if_pos h9]; done) | (rw [F_X7_count, if_neg h1, if_neg h2, if_neg h3, if_neg h4, if_neg h5, if_neg h6, if_neg h8, if_pos h9]; rfl), by first | (rw [F_X7_count, if_neg h1, if_neg h2, if_neg h3, if_neg h4, if_neg h5, if_neg h6, if_neg h8, if_pos h9]; done) | (rw [F_X7_count, if_neg h1, if_neg h2, if_neg h3, if_neg h4, if_neg h5, if_neg h6, if_neg h8, if_pos h9]; rfl)⟩
                · by_cases h10 : what.toInt = 8
                  · refine xr_swi (tgt := 129) gd_X7_count rfl 8 (by omega) (by omega) rfl (by decide) ?_
                    refine xr_blk gd_X7_count 2 (c' := (133, [(0, .ref 72), (1, .int what)], [.int ((F_X7_layOut st 0 (-6)) 72 7)], (F_X7_layOut st 0 (-6)))) rfl ?_
                    exact xr_iret gd_X7_count rfl rfl ⟨by first | (rw [F_X7_count, if_neg h1, if_neg h2, if_neg h3, if_neg h4, if_neg h5, if_neg h6, if_neg h8, if_neg h9, if_pos h10]; done) | (rw [F_X7_count, if_neg h1, if_neg h2, if_neg h3, if_neg h4, if_neg h5, if_neg h6, if_neg h8, if_neg h9, if_pos h10]; rfl), by first | (rw [F_X7_count, if_neg h1, if_neg h2, if_neg h3, if_neg h4, if_neg h5, if_neg h6, if_neg h8, if_neg h9, if_pos h10]; done) | (rw [F_X7_count, if_neg h1, if_neg h2, if_neg h3, if_neg h4, if_neg h5, if_neg h6, if_neg h8, if_neg h9, if_pos h10]; rfl)⟩
                  · by_cases h11 : what.toInt = 9
                    · refine xr_swi (tgt := 134) gd_X7_count rfl 9 (by omega) (by omega) rfl (by decide) ?_
                      refine xr_blk gd_X7_count 2 (c' := (138, [(0, .ref 72), (1, .int what)], [.int ((F_X7_layOut st 0 (-6)) 72 5)], (F_X7_layOut st 0 (-6)))) rfl ?_
                      exact xr_iret gd_X7_count rfl rfl ⟨by first | (rw [F_X7_count, if_neg h1, if_neg h2, if_neg h3, if_neg h4, if_neg h5, if_neg h6, if_neg h8, if_neg h9, if_neg h10, if_pos h11]; done) | (rw [F_X7_count, if_neg h1, if_neg h2, if_neg h3, if_neg h4, if_neg h5, if_neg h6, if_neg h8, if_neg h9, if_neg h10, if_pos h11]; rfl), by first | (rw [F_X7_count, if_neg h1, if_neg h2, if_neg h3, if_neg h4, if_neg h5, if_neg h6, if_neg h8, if_neg h9, if_neg h10, if_pos h11]; done) | (rw [F_X7_count, if_neg h1, if_neg h2, if_neg h3, if_neg h4, if_neg h5, if_neg h6, if_neg h8, if_neg h9, if_neg h10, if_pos h11]; rfl)⟩
                    · refine xr_swo (tgt := 139) gd_X7_count rfl (by omega) (by decide) ?_
                      refine xr_blk gd_X7_count 1 (c' := (141, [(0, .ref 72), (1, .int what)], [.int (-2)], (F_X7_layOut st 0 (-6)))) rfl ?_
                      exact xr_iret gd_X7_count rfl rfl ⟨by first | (rw [F_X7_count, if_neg h1, if_neg h2, if_neg h3, if_neg h4, if_neg h5, if_neg h6, if_neg h8, if_neg h9, if_neg h10, if_neg h11]; done) | (rw [F_X7_count, if_neg h1, if_neg h2, if_neg h3, if_neg h4, if_neg h5, if_neg h6, if_neg h8, if_neg h9, if_neg h10, if_neg h11]; rfl), by first | (rw [F_X7_count, if_neg h1, if_neg h2, if_neg h3, if_neg h4, if_neg h5, if_neg h6, if_neg h8, if_neg h9, if_neg h10, if_neg h11]; done) | (rw [F_X7_count, if_neg h1, if_neg h2, if_neg h3, if_neg h4, if_neg h5, if_neg h6, if_neg h8, if_neg h9, if_neg h10, if_neg h11]; rfl)⟩
def F_X7_allowing (st : xs_S) (liars : Int32) (what : Int32) : Int32 × xs_S := (if (F_X7_in st liars.toInt64 0 14) = 0 then ((-2), st)
    else (if (F_X7_in st what.toInt64 0 1) = 0 then ((-2), st)
      else (if ((F_X7_layOut st 0 (-6)) 72 11) = 0 then ((-6), (F_X7_layOut st 0 (-6)))
        else (if 1 ≤ ((F_X7_size (F_X7_layOut st 0 (-6)) ((F_X7_layOut st 0 (-6)) 72 11)) - liars) then (if ((F_X7_find (F_X7_layOut st 0 (-6)) ((F_X7_size (F_X7_layOut st 0 (-6)) ((F_X7_layOut st 0 (-6)) 72 11)) - liars)).1) = 0 then ((-6), (F_X7_find (F_X7_layOut st 0 (-6)) ((F_X7_size (F_X7_layOut st 0 (-6)) ((F_X7_layOut st 0 (-6)) 72 11)) - liars)).2)
            else (if what = 0 then (((((F_X7_find (F_X7_layOut st 0 (-6)) ((F_X7_size (F_X7_layOut st 0 (-6)) ((F_X7_layOut st 0 (-6)) 72 11)) - liars)).2) 72 15) + 100000), (F_X7_find (F_X7_layOut st 0 (-6)) ((F_X7_size (F_X7_layOut st 0 (-6)) ((F_X7_layOut st 0 (-6)) 72 11)) - liars)).2)
              else (((((F_X7_find (F_X7_layOut st 0 (-6)) ((F_X7_size (F_X7_layOut st 0 (-6)) ((F_X7_layOut st 0 (-6)) 72 11)) - liars)).2) 72 16) + 100000), (F_X7_find (F_X7_layOut st 0 (-6)) ((F_X7_size (F_X7_layOut st 0 (-6)) ((F_X7_layOut st 0 (-6)) 72 11)) - liars)).2)))
          else (if ((F_X7_find (F_X7_layOut st 0 (-6)) 1).1) = 0 then ((-6), (F_X7_find (F_X7_layOut st 0 (-6)) 1).2)
            else (if what = 0 then (((((F_X7_find (F_X7_layOut st 0 (-6)) 1).2) 72 15) + 100000), (F_X7_find (F_X7_layOut st 0 (-6)) 1).2)
              else (((((F_X7_find (F_X7_layOut st 0 (-6)) 1).2) 72 16) + 100000), (F_X7_find (F_X7_layOut st 0 (-6)) 1).2)))))))
set_option maxRecDepth 20000 in
theorem c_X7_allowing {G : xs_G} {base : Nat} (d : Nat) (st : xs_S) (liars : Int32) (what : Int32) (hR : RowOK (st 73)) : xs_K G base (d + 4) M_X7_allowing [.ref 72, .int liars, .int what] st (fun v u => v = some (.int (F_X7_allowing st liars what).1) ∧ u = (F_X7_allowing st liars what).2) := by
  refine xs_intro ok_X7_allowing [(0, .ref 72), (1, .int liars), (2, .int what)] rfl rfl ?_
  refine xr_blk gd_X7_allowing 4 (c' := (5, [(0, .ref 72), (1, .int liars), (2, .int what)], [.int 14, .int 0, .long liars.toInt64], st)) rfl ?_
  refine xr_callS gd_X7_allowing gd_X7_in k_X7_41 rfl (c_X7_in (d + 3) st liars.toInt64 0 14) (by omega) rfl rfl rfl ?_
  refine xs_fun ?_
  refine xr_br gd_X7_allowing rfl rfl (fun h1 => ?_) (fun h1 => ?_)
  · refine xr_blk gd_X7_allowing 1 (c' := (23, [(0, .ref 72), (1, .int liars), (2, .int what)], [.int (-2)], st)) rfl ?_
    exact xr_iret gd_X7_allowing rfl rfl ⟨by first | (rw [F_X7_allowing, if_pos h1]; done) | (rw [F_X7_allowing, if_pos h1]; rfl), by first | (rw [F_X7_allowing, if_pos h1]; done) | (rw [F_X7_allowing, if_pos h1]; rfl)⟩
  · refine xr_blk gd_X7_allowing 4 (c' := (15, [(0, .ref 72), (1, .int liars), (2, .int what)], [.int 1, .int 0, .long what.toInt64], st)) rfl ?_
    refine xr_callS gd_X7_allowing gd_X7_in k_X7_41 rfl (c_X7_in (d + 3) st what.toInt64 0 1) (by omega) rfl rfl rfl ?_
    refine xs_fun ?_
    refine xr_br gd_X7_allowing rfl rfl (fun h2 => ?_) (fun h2 => ?_)
    · refine xr_blk gd_X7_allowing 3 (c' := (28, [(0, .ref 72), (1, .int liars), (2, .int what)], [.int (-6), .int 0, .ref 72], st)) rfl ?_
      refine xr_callV gd_X7_allowing gd_X7_layOut k_X7_99 rfl (c_X7_layOut (d + 2) st 0 (-6) (ro_D hR)) (by omega) rfl rfl rfl rfl rfl ?_
      refine xs_fun ?_
      refine xr_blk gd_X7_allowing 2 (c' := (35, [(0, .ref 72), (1, .int liars), (2, .int what)], [.int ((F_X7_layOut st 0 (-6)) 72 11)], (F_X7_layOut st 0 (-6)))) rfl ?_
      refine xr_callS gd_X7_allowing gd_X7_size k_X7_150 rfl (c_X7_size (d + 3) (F_X7_layOut st 0 (-6)) ((F_X7_layOut st 0 (-6)) 72 11)) (by omega) rfl rfl rfl ?_
      refine xs_fun ?_
      refine xr_blk gd_X7_allowing 5 (c' := (45, [(0, .ref 72), (1, .int liars), (2, .int what), (3, .int ((F_X7_size (F_X7_layOut st 0 (-6)) ((F_X7_layOut st 0 (-6)) 72 11)) - liars))], [.int ((F_X7_layOut st 0 (-6)) 72 11)], (F_X7_layOut st 0 (-6)))) rfl ?_
      refine xr_br gd_X7_allowing rfl rfl (fun h3 => ?_) (fun h3 => ?_)
      · refine xr_blk gd_X7_allowing 1 (c' := (67, [(0, .ref 72), (1, .int liars), (2, .int what), (3, .int ((F_X7_size (F_X7_layOut st 0 (-6)) ((F_X7_layOut st 0 (-6)) 72 11)) - liars))], [.int (-6)], (F_X7_layOut st 0 (-6)))) rfl ?_
        exact xr_iret gd_X7_allowing rfl rfl ⟨by first | (rw [F_X7_allowing, if_neg h1, if_neg h2, if_pos h3]; done) | (rw [F_X7_allowing, if_neg h1, if_neg h2, if_pos h3]; rfl), by first | (rw [F_X7_allowing, if_neg h1, if_neg h2, if_pos h3]; done) | (rw [F_X7_allowing, if_neg h1, if_neg h2, if_pos h3]; rfl)⟩
      · refine xr_blk gd_X7_allowing 3 (c' := (51, [(0, .ref 72), (1, .int liars), (2, .int what), (3, .int ((F_X7_size (F_X7_layOut st 0 (-6)) ((F_X7_layOut st 0 (-6)) 72 11)) - liars))], [.int 1, .int ((F_X7_size (F_X7_layOut st 0 (-6)) ((F_X7_layOut st 0 (-6)) 72 11)) - liars), .ref 72], (F_X7_layOut st 0 (-6)))) rfl ?_
        refine xr_br gd_X7_allowing rfl rfl (fun h4 => ?_) (fun h4 => ?_)
        · refine xr_blk gd_X7_allowing 1 (c' := (59, [(0, .ref 72), (1, .int liars), (2, .int what), (3, .int ((F_X7_size (F_X7_layOut st 0 (-6)) ((F_X7_layOut st 0 (-6)) 72 11)) - liars))], [.int ((F_X7_size (F_X7_layOut st 0 (-6)) ((F_X7_layOut st 0 (-6)) 72 11)) - liars), .ref 72], (F_X7_layOut st 0 (-6)))) rfl ?_
          refine xr_callV gd_X7_allowing gd_X7_find k_X7_84 rfl (c_X7_find (d + 0) (F_X7_layOut st 0 (-6)) ((F_X7_size (F_X7_layOut st 0 (-6)) ((F_X7_layOut st 0 (-6)) 72 11)) - liars) (lay_LF hR (by decide)) (by first | decide | exact xm_m1 (by assumption) | exact xm_m2 (by assumption))) (by omega) rfl rfl rfl rfl rfl ?_
          refine xs_fun ?_
          refine xr_br gd_X7_allowing rfl rfl (fun h5 => ?_) (fun h5 => ?_)
          · refine xr_blk gd_X7_allowing 1 (c' := (69, [(0, .ref 72), (1, .int liars), (2, .int what), (3, .int ((F_X7_size (F_X7_layOut st 0 (-6)) ((F_X7_layOut st 0 (-6)) 72 11)) - liars))], [.int what], (F_X7_find (F_X7_layOut st 0 (-6)) ((F_X7_size (F_X7_layOut st 0 (-6)) ((F_X7_layOut st 0 (-6)) 72 11)) - liars)).2)) rfl ?_
            refine xr_br gd_X7_allowing rfl rfl (fun h6 => ?_) (fun h6 => ?_)
            · refine xr_blk gd_X7_allowing 4 (c' := (86, [(0, .ref 72), (1, .int liars), (2, .int what), (3, .int ((F_X7_size (F_X7_layOut st 0 (-6)) ((F_X7_layOut st 0 (-6)) 72 11)) - liars))], [.int ((((F_X7_find (F_X7_layOut st 0 (-6)) ((F_X7_size (F_X7_layOut st 0 (-6)) ((F_X7_layOut st 0 (-6)) 72 11)) - liars)).2) 72 16) + 100000)], (F_X7_find (F_X7_layOut st 0 (-6)) ((F_X7_size (F_X7_layOut st 0 (-6)) ((F_X7_layOut st 0 (-6)) 72 11)) - liars)).2)) rfl ?_
              exact xr_iret gd_X7_allowing rfl rfl ⟨by first | (rw [F_X7_allowing, if_neg h1, if_neg h2, if_neg h3, if_pos h4, if_neg h5, if_neg h6]; done) | (rw [F_X7_allowing, if_neg h1, if_neg h2, if_neg h3, if_pos h4, if_neg h5, if_neg h6]; rfl), by first | (rw [F_X7_allowing, if_neg h1, if_neg h2, if_neg h3, if_pos h4, if_neg h5, if_neg h6]; done) | (rw [F_X7_allowing, if_neg h1, if_neg h2, if_neg h3, if_pos h4, if_neg h5, if_neg h6]; rfl)⟩
            · refine xr_blk gd_X7_allowing 5 (c' := (86, [(0, .ref 72), (1, .int liars), (2, .int what), (3, .int ((F_X7_size (F_X7_layOut st 0 (-6)) ((F_X7_layOut st 0 (-6)) 72 11)) - liars))], [.int ((((F_X7_find (F_X7_layOut st 0 (-6)) ((F_X7_size (F_X7_layOut st 0 (-6)) ((F_X7_layOut st 0 (-6)) 72 11)) - liars)).2) 72 15) + 100000)], (F_X7_find (F_X7_layOut st 0 (-6)) ((F_X7_size (F_X7_layOut st 0 (-6)) ((F_X7_layOut st 0 (-6)) 72 11)) - liars)).2)) rfl ?_
              exact xr_iret gd_X7_allowing rfl rfl ⟨by first | (rw [F_X7_allowing, if_neg h1, if_neg h2, if_neg h3, if_pos h4, if_neg h5, if_pos h6]; done) | (rw [F_X7_allowing, if_neg h1, if_neg h2, if_neg h3, if_pos h4, if_neg h5, if_pos h6]; rfl), by first | (rw [F_X7_allowing, if_neg h1, if_neg h2, if_neg h3, if_pos h4, if_neg h5, if_pos h6]; done) | (rw [F_X7_allowing, if_neg h1, if_neg h2, if_neg h3, if_pos h4, if_neg h5, if_pos h6]; rfl)⟩
          · refine xr_blk gd_X7_allowing 1 (c' := (67, [(0, .ref 72), (1, .int liars), (2, .int what), (3, .int ((F_X7_size (F_X7_layOut st 0 (-6)) ((F_X7_layOut st 0 (-6)) 72 11)) - liars))], [.int (-6)], (F_X7_find (F_X7_layOut st 0 (-6)) ((F_X7_size (F_X7_layOut st 0 (-6)) ((F_X7_layOut st 0 (-6)) 72 11)) - liars)).2)) rfl ?_
            exact xr_iret gd_X7_allowing rfl rfl ⟨by first | (rw [F_X7_allowing, if_neg h1, if_neg h2, if_neg h3, if_pos h4, if_pos h5]; done) | (rw [F_X7_allowing, if_neg h1, if_neg h2, if_neg h3, if_pos h4, if_pos h5]; rfl), by first | (rw [F_X7_allowing, if_neg h1, if_neg h2, if_neg h3, if_pos h4, if_pos h5]; done) | (rw [F_X7_allowing, if_neg h1, if_neg h2, if_neg h3, if_pos h4, if_pos h5]; rfl)⟩
        · refine xr_blk gd_X7_allowing 2 (c' := (59, [(0, .ref 72), (1, .int liars), (2, .int what), (3, .int ((F_X7_size (F_X7_layOut st 0 (-6)) ((F_X7_layOut st 0 (-6)) 72 11)) - liars))], [.int 1, .ref 72], (F_X7_layOut st 0 (-6)))) rfl ?_
          refine xr_callV gd_X7_allowing gd_X7_find k_X7_84 rfl (c_X7_find (d + 0) (F_X7_layOut st 0 (-6)) 1 (lay_LF hR (by decide)) (by first | decide | exact xm_m1 (by assumption) | exact xm_m2 (by assumption))) (by omega) rfl rfl rfl rfl rfl ?_
          refine xs_fun ?_
          refine xr_br gd_X7_allowing rfl rfl (fun h7 => ?_) (fun h7 => ?_)
          · refine xr_blk gd_X7_allowing 1 (c' := (69, [(0, .ref 72), (1, .int liars), (2, .int what), (3, .int ((F_X7_size (F_X7_layOut st 0 (-6)) ((F_X7_layOut st 0 (-6)) 72 11)) - liars))], [.int what], (F_X7_find (F_X7_layOut st 0 (-6)) 1).2)) rfl ?_
            refine xr_br gd_X7_allowing rfl rfl (fun h8 => ?_) (fun h8 => ?_)
            · refine xr_blk gd_X7_allowing 4 (c' := (86, [(0, .ref 72), (1, .int liars), (2, .int what), (3, .int ((F_X7_size (F_X7_layOut st 0 (-6)) ((F_X7_layOut st 0 (-6)) 72 11)) - liars))], [.int ((((F_X7_find (F_X7_layOut st 0 (-6)) 1).2) 72 16) + 100000)], (F_X7_find (F_X7_layOut st 0 (-6)) 1).2)) rfl ?_
              exact xr_iret gd_X7_allowing rfl rfl ⟨by first | (rw [F_X7_allowing, if_neg h1, if_neg h2, if_neg h3, if_neg h4, if_neg h7, if_neg h8]; done) | (rw [F_X7_allowing, if_neg h1, if_neg h2, if_neg h3, if_neg h4, if_neg h7, if_neg h8]; rfl), by first | (rw [F_X7_allowing, if_neg h1, if_neg h2, if_neg h3, if_neg h4, if_neg h7, if_neg h8]; done) | (rw [F_X7_allowing, if_neg h1, if_neg h2, if_neg h3, if_neg h4, if_neg h7, if_neg h8]; rfl)⟩
            · refine xr_blk gd_X7_allowing 5 (c' := (86, [(0, .ref 72), (1, .int liars), (2, .int what), (3, .int ((F_X7_size (F_X7_layOut st 0 (-6)) ((F_X7_layOut st 0 (-6)) 72 11)) - liars))], [.int ((((F_X7_find (F_X7_layOut st 0 (-6)) 1).2) 72 15) + 100000)], (F_X7_find (F_X7_layOut st 0 (-6)) 1).2)) rfl ?_
              exact xr_iret gd_X7_allowing rfl rfl ⟨by first | (rw [F_X7_allowing, if_neg h1, if_neg h2, if_neg h3, if_neg h4, if_neg h7, if_pos h8]; done) | (rw [F_X7_allowing, if_neg h1, if_neg h2, if_neg h3, if_neg h4, if_neg h7, if_pos h8]; rfl), by first | (rw [F_X7_allowing, if_neg h1, if_neg h2, if_neg h3, if_neg h4, if_neg h7, if_pos h8]; done) | (rw [F_X7_allowing, if_neg h1, if_neg h2, if_neg h3, if_neg h4, if_neg h7, if_pos h8]; rfl)⟩
          · refine xr_blk gd_X7_allowing 1 (c' := (67, [(0, .ref 72), (1, .int liars), (2, .int what), (3, .int ((F_X7_size (F_X7_layOut st 0 (-6)) ((F_X7_layOut st 0 (-6)) 72 11)) - liars))], [.int (-6)], (F_X7_find (F_X7_layOut st 0 (-6)) 1).2)) rfl ?_
            exact xr_iret gd_X7_allowing rfl rfl ⟨by first | (rw [F_X7_allowing, if_neg h1, if_neg h2, if_neg h3, if_neg h4, if_pos h7]; done) | (rw [F_X7_allowing, if_neg h1, if_neg h2, if_neg h3, if_neg h4, if_pos h7]; rfl), by first | (rw [F_X7_allowing, if_neg h1, if_neg h2, if_neg h3, if_neg h4, if_pos h7]; done) | (rw [F_X7_allowing, if_neg h1, if_neg h2, if_neg h3, if_neg h4, if_pos h7]; rfl)⟩
    · refine xr_blk gd_X7_allowing 1 (c' := (23, [(0, .ref 72), (1, .int liars), (2, .int what)], [.int (-2)], st)) rfl ?_
      exact xr_iret gd_X7_allowing rfl rfl ⟨by first | (rw [F_X7_allowing, if_neg h1, if_pos h2]; done) | (rw [F_X7_allowing, if_neg h1, if_pos h2]; rfl), by first | (rw [F_X7_allowing, if_neg h1, if_pos h2]; done) | (rw [F_X7_allowing, if_neg h1, if_pos h2]; rfl)⟩
def F_X7_fewest (st : xs_S) : Int32 × xs_S := (if ((F_X7_seek (F_X7_layOut st 0 (-6))).1) = 0 then ((-6), (F_X7_seek (F_X7_layOut st 0 (-6))).2)
    else (((F_X7_size ((F_X7_seek (F_X7_layOut st 0 (-6))).2) (((F_X7_seek (F_X7_layOut st 0 (-6))).2) 72 11)) - (((F_X7_seek (F_X7_layOut st 0 (-6))).2) 72 14)), (F_X7_seek (F_X7_layOut st 0 (-6))).2))
set_option maxRecDepth 20000 in
theorem c_X7_fewest {G : xs_G} {base : Nat} (d : Nat) (st : xs_S) (hR : RowOK (st 73)) : xs_K G base (d + 5) M_X7_fewest [.ref 72] st (fun v u => v = some (.int (F_X7_fewest st).1) ∧ u = (F_X7_fewest st).2) := by
  refine xs_intro ok_X7_fewest [(0, .ref 72)] rfl rfl ?_
  refine xr_blk gd_X7_fewest 3 (c' := (4, [(0, .ref 72)], [.int (-6), .int 0, .ref 72], st)) rfl ?_
  refine xr_callV gd_X7_fewest gd_X7_layOut k_X7_99 rfl (c_X7_layOut (d + 3) st 0 (-6) (ro_D hR)) (by omega) rfl rfl rfl rfl rfl ?_
  refine xs_fun ?_
  refine xr_blk gd_X7_fewest 1 (c' := (8, [(0, .ref 72)], [.ref 72], (F_X7_layOut st 0 (-6)))) rfl ?_
  refine xr_callV gd_X7_fewest gd_X7_seek k_X7_103 rfl (c_X7_seek (d + 0) (F_X7_layOut st 0 (-6)) (lay_LF hR (by decide))) (by omega) rfl rfl rfl rfl rfl ?_
  refine xs_fun ?_
  refine xr_br gd_X7_fewest rfl rfl (fun h1 => ?_) (fun h1 => ?_)
  · refine xr_blk gd_X7_fewest 1 (c' := (31, [(0, .ref 72)], [.int (-6)], (F_X7_seek (F_X7_layOut st 0 (-6))).2)) rfl ?_
    exact xr_iret gd_X7_fewest rfl rfl ⟨by first | (rw [F_X7_fewest, if_pos h1]; done) | (rw [F_X7_fewest, if_pos h1]; rfl), by first | (rw [F_X7_fewest, if_pos h1]; done) | (rw [F_X7_fewest, if_pos h1]; rfl)⟩
  · refine xr_blk gd_X7_fewest 2 (c' := (18, [(0, .ref 72)], [.int (((F_X7_seek (F_X7_layOut st 0 (-6))).2) 72 11)], (F_X7_seek (F_X7_layOut st 0 (-6))).2)) rfl ?_
    refine xr_callS gd_X7_fewest gd_X7_size k_X7_150 rfl (c_X7_size (d + 4) ((F_X7_seek (F_X7_layOut st 0 (-6))).2) (((F_X7_seek (F_X7_layOut st 0 (-6))).2) 72 11)) (by omega) rfl rfl rfl ?_
    refine xs_fun ?_
    refine xr_blk gd_X7_fewest 4 (c' := (31, [(0, .ref 72)], [.int ((F_X7_size ((F_X7_seek (F_X7_layOut st 0 (-6))).2) (((F_X7_seek (F_X7_layOut st 0 (-6))).2) 72 11)) - (((F_X7_seek (F_X7_layOut st 0 (-6))).2) 72 14))], (F_X7_seek (F_X7_layOut st 0 (-6))).2)) rfl ?_
    exact xr_iret gd_X7_fewest rfl rfl ⟨by first | (rw [F_X7_fewest, if_neg h1]; done) | (rw [F_X7_fewest, if_neg h1]; rfl), by first | (rw [F_X7_fewest, if_neg h1]; done) | (rw [F_X7_fewest, if_neg h1]; rfl)⟩
def F_X7_without (st : xs_S) (dial : Int32) : Int32 × xs_S := (if (F_X7_isDial st dial) = 0 then ((-1), st)
    else (if ((F_X7_seek (F_X7_layOut st 0 dial)).1) = 0 then ((-6), (F_X7_seek (F_X7_layOut st 0 dial)).2)
      else (((F_X7_hour ((F_X7_seek (F_X7_layOut st 0 dial)).2)) + 100000), (F_X7_seek (F_X7_layOut st 0 dial)).2)))
set_option maxRecDepth 20000 in
theorem c_X7_without {G : xs_G} {base : Nat} (d : Nat) (st : xs_S) (dial : Int32) (hR : RowOK (st 73)) : xs_K G base (d + 5) M_X7_without [.ref 72, .int dial] st (fun v u => v = some (.int (F_X7_without st dial).1) ∧ u = (F_X7_without st dial).2) := by
  refine xs_intro ok_X7_without [(0, .ref 72), (1, .int dial)] rfl rfl ?_
  refine xr_blk gd_X7_without 2 (c' := (2, [(0, .ref 72), (1, .int dial)], [.int dial, .ref 72], st)) rfl ?_
  refine xr_callV gd_X7_without gd_X7_isDial k_X7_91 rfl (c_X7_isDial (d + 3) st dial) (by omega) rfl rfl rfl rfl rfl ?_
  refine xs_fun ?_
  refine xr_br gd_X7_without rfl rfl (fun h1 => ?_) (fun h1 => ?_)
  · refine xr_blk gd_X7_without 3 (c' := (13, [(0, .ref 72), (1, .int dial)], [.int dial, .int 0, .ref 72], st)) rfl ?_
    refine xr_callV gd_X7_without gd_X7_layOut k_X7_99 rfl (c_X7_layOut (d + 3) st 0 dial (ro_D hR)) (by omega) rfl rfl rfl rfl rfl ?_
    refine xs_fun ?_
    refine xr_blk gd_X7_without 1 (c' := (17, [(0, .ref 72), (1, .int dial)], [.ref 72], (F_X7_layOut st 0 dial))) rfl ?_
    refine xr_callV gd_X7_without gd_X7_seek k_X7_103 rfl (c_X7_seek (d + 0) (F_X7_layOut st 0 dial) (lay_LF hR (by decide))) (by omega) rfl rfl rfl rfl rfl ?_
    refine xs_fun ?_
    refine xr_br gd_X7_without rfl rfl (fun h2 => ?_) (fun h2 => ?_)
    · refine xr_blk gd_X7_without 1 (c' := (35, [(0, .ref 72), (1, .int dial)], [.int (-6)], (F_X7_seek (F_X7_layOut st 0 dial)).2)) rfl ?_
      exact xr_iret gd_X7_without rfl rfl ⟨by first | (rw [F_X7_without, if_neg h1, if_pos h2]; done) | (rw [F_X7_without, if_neg h1, if_pos h2]; rfl), by first | (rw [F_X7_without, if_neg h1, if_pos h2]; done) | (rw [F_X7_without, if_neg h1, if_pos h2]; rfl)⟩
    · refine xr_blk gd_X7_without 1 (c' := (24, [(0, .ref 72), (1, .int dial)], [.ref 72], (F_X7_seek (F_X7_layOut st 0 dial)).2)) rfl ?_
      refine xr_callV gd_X7_without gd_X7_hour k_X7_107 rfl (c_X7_hour (d + 3) ((F_X7_seek (F_X7_layOut st 0 dial)).2)) (by omega) rfl rfl rfl rfl rfl ?_
      refine xs_fun ?_
      refine xr_blk gd_X7_without 3 (c' := (35, [(0, .ref 72), (1, .int dial)], [.int ((F_X7_hour ((F_X7_seek (F_X7_layOut st 0 dial)).2)) + 100000)], (F_X7_seek (F_X7_layOut st 0 dial)).2)) rfl ?_
      exact xr_iret gd_X7_without rfl rfl ⟨by first | (rw [F_X7_without, if_neg h1, if_neg h2]; done) | (rw [F_X7_without, if_neg h1, if_neg h2]; rfl), by first | (rw [F_X7_without, if_neg h1, if_neg h2]; done) | (rw [F_X7_without, if_neg h1, if_neg h2]; rfl)⟩
  · refine xr_blk gd_X7_without 1 (c' := (9, [(0, .ref 72), (1, .int dial)], [.int (-1)], st)) rfl ?_
    exact xr_iret gd_X7_without rfl rfl ⟨by first | (rw [F_X7_without, if_pos h1]; done) | (rw [F_X7_without, if_pos h1]; rfl), by first | (rw [F_X7_without, if_pos h1]; done) | (rw [F_X7_without, if_pos h1]; rfl)⟩
def WI (st : xs_S) (x : Int32) (n : Nat) : Prop := RowOK (st 73) ∧ 0 ≤ x.toInt ∧ x.toInt ≤ 201 ∧ 201 < x.toInt + (n : Int)
theorem wi_0 {st : xs_S} {x : Int32} (h : WI st x 0) : False := by
  obtain ⟨-, h1, h2, h3⟩ := h
  omega
theorem wi_b {st : xs_S} {x : Int32} {n : Nat} (h : WI st x n) (h1 : ¬ 200 < x) : 0 ≤ (60 * x).toInt ∧ (60 * x).toInt ≤ 16000 := by
  have e : (200 : Int32).toInt = 200 := by decide
  rw [xi_lt] at h1
  exact xm_60 ⟨h.2.1, by omega⟩
theorem wi_u {st : xs_S} {x l w : Int32} {n : Nat} (h : WI st x (n + 1)) (h1 : ¬ 200 < x) : WI (F_X7_seek (F_X7_layOut st l w)).2 (x + 1) n := by
  obtain ⟨g1, g2, g3, g4⟩ := h
  have e : (200 : Int32).toInt = 200 := by decide
  rw [xi_lt] at h1
  refine ⟨by rw [se_n (by decide), lay_n 73 (by decide) (by decide) (by decide)]; exact g1, ?_⟩
  rw [xi_inc (by omega)]
  omega
def lp_X7_widerIn_16 (many : Int32) : Nat → Int32 → xs_S → Int32 × xs_S
  | 0, _, st => (0, st)
  | n + 1, x2, st => (if 200 < x2 then ((-6), st)
    else (if ((F_X7_seek (F_X7_layOut st (60 * x2) (-6))).1) = 0 then lp_X7_widerIn_16 many n (x2 + 1) ((F_X7_seek (F_X7_layOut st (60 * x2) (-6))).2)
      else (if (((F_X7_seek (F_X7_layOut st (60 * x2) (-6))).2) 72 14) < many then lp_X7_widerIn_16 many n (x2 + 1) ((F_X7_seek (F_X7_layOut st (60 * x2) (-6))).2)
        else (x2, (F_X7_seek (F_X7_layOut st (60 * x2) (-6))).2))))
set_option maxRecDepth 20000 in
theorem cl_X7_widerIn_16 {G : xs_G} {base : Nat} (d : Nat) (many : Int32) : ∀ (n : Nat) (x2 : Int32) (st : xs_S), WI st x2 n → xs_R G base (d + 5) M_X7_widerIn (16, [(0, .ref 72), (1, .int many), (2, .int x2)], [], st) (fun v u => v = some (.int (lp_X7_widerIn_16 many n x2 st).1) ∧ u = (lp_X7_widerIn_16 many n x2 st).2) := by
  intro n
  induction n with
  | zero =>
    intro x2 st hinv
    exact (wi_0 hinv).elim
  | succ n ih =>
    intro x2 st hinv
    refine xr_blk gd_X7_widerIn 2 (c' := (20, [(0, .ref 72), (1, .int many), (2, .int x2)], [.int 200, .int x2], st)) rfl ?_
    refine xr_br gd_X7_widerIn rfl rfl (fun h1 => ?_) (fun h1 => ?_)
    · refine xr_blk gd_X7_widerIn 1 (c' := (58, [(0, .ref 72), (1, .int many), (2, .int x2)], [.int (-6)], st)) rfl ?_
      exact xr_iret gd_X7_widerIn rfl rfl ⟨by first | (rw [lp_X7_widerIn_16, if_pos h1]; done) | (rw [lp_X7_widerIn_16, if_pos h1]; rfl), by first | (rw [lp_X7_widerIn_16, if_pos h1]; done) | (rw [lp_X7_widerIn_16, if_pos h1]; rfl)⟩
    · refine xr_blk gd_X7_widerIn 5 (c' := (30, [(0, .ref 72), (1, .int many), (2, .int x2)], [.int (-6), .int (60 * x2), .ref 72], st)) rfl ?_
      refine xr_callV gd_X7_widerIn gd_X7_layOut k_X7_99 rfl (c_X7_layOut (d + 3) st (60 * x2) (-6) (ro_D hinv.1)) (by omega) rfl rfl rfl rfl rfl ?_
      refine xs_fun ?_
      refine xr_blk gd_X7_widerIn 1 (c' := (34, [(0, .ref 72), (1, .int many), (2, .int x2)], [.ref 72], (F_X7_layOut st (60 * x2) (-6)))) rfl ?_
      refine xr_callV gd_X7_widerIn gd_X7_seek k_X7_103 rfl (c_X7_seek (d + 0) (F_X7_layOut st (60 * x2) (-6)) (lay_LF hinv.1 (wi_b hinv h1))) (by omega) rfl rfl rfl rfl rfl ?_
      refine xs_fun ?_
      refine xr_br gd_X7_widerIn rfl rfl (fun h2 => ?_) (fun h2 => ?_)
      · refine xr_blk gd_X7_widerIn 2 (c' := (16, [(0, .ref 72), (1, .int many), (2, .int (x2 + 1))], [], (F_X7_seek (F_X7_layOut st (60 * x2) (-6))).2)) rfl ?_
        refine xs_cons (ih (x2 + 1) ((F_X7_seek (F_X7_layOut st (60 * x2) (-6))).2) (wi_u hinv h1)) (fun v u hq => ?_)
        rw [lp_X7_widerIn_16, if_neg h1, if_pos h2]; exact hq
      · refine xr_blk gd_X7_widerIn 3 (c' := (45, [(0, .ref 72), (1, .int many), (2, .int x2)], [.int many, .int (((F_X7_seek (F_X7_layOut st (60 * x2) (-6))).2) 72 14)], (F_X7_seek (F_X7_layOut st (60 * x2) (-6))).2)) rfl ?_
        refine xr_br gd_X7_widerIn rfl rfl (fun h3 => ?_) (fun h3 => ?_)
        · refine xr_blk gd_X7_widerIn 2 (c' := (16, [(0, .ref 72), (1, .int many), (2, .int (x2 + 1))], [], (F_X7_seek (F_X7_layOut st (60 * x2) (-6))).2)) rfl ?_
          refine xs_cons (ih (x2 + 1) ((F_X7_seek (F_X7_layOut st (60 * x2) (-6))).2) (wi_u hinv h1)) (fun v u hq => ?_)
          rw [lp_X7_widerIn_16, if_neg h1, if_neg h2, if_pos h3]; exact hq
        · refine xr_blk gd_X7_widerIn 1 (c' := (49, [(0, .ref 72), (1, .int many), (2, .int x2)], [.int x2], (F_X7_seek (F_X7_layOut st (60 * x2) (-6))).2)) rfl ?_
          exact xr_iret gd_X7_widerIn rfl rfl ⟨by first | (rw [lp_X7_widerIn_16, if_neg h1, if_neg h2, if_neg h3]; done) | (rw [lp_X7_widerIn_16, if_neg h1, if_neg h2, if_neg h3]; rfl), by first | (rw [lp_X7_widerIn_16, if_neg h1, if_neg h2, if_neg h3]; done) | (rw [lp_X7_widerIn_16, if_neg h1, if_neg h2, if_neg h3]; rfl)⟩
def F_X7_widerIn (st : xs_S) (many : Int32) : Int32 × xs_S := (if (F_X7_in st many.toInt64 1 15) = 0 then ((-2), st)
    else lp_X7_widerIn_16 many 202 0 st)
set_option maxRecDepth 20000 in
theorem c_X7_widerIn {G : xs_G} {base : Nat} (d : Nat) (st : xs_S) (many : Int32) (hR : RowOK (st 73)) : xs_K G base (d + 5) M_X7_widerIn [.ref 72, .int many] st (fun v u => v = some (.int (F_X7_widerIn st many).1) ∧ u = (F_X7_widerIn st many).2) := by
  refine xs_intro ok_X7_widerIn [(0, .ref 72), (1, .int many)] rfl rfl ?_
  refine xr_blk gd_X7_widerIn 4 (c' := (5, [(0, .ref 72), (1, .int many)], [.int 15, .int 1, .long many.toInt64], st)) rfl ?_
  refine xr_callS gd_X7_widerIn gd_X7_in k_X7_41 rfl (c_X7_in (d + 4) st many.toInt64 1 15) (by omega) rfl rfl rfl ?_
  refine xs_fun ?_
  refine xr_br gd_X7_widerIn rfl rfl (fun h1 => ?_) (fun h1 => ?_)
  · refine xr_blk gd_X7_widerIn 2 (c' := (16, [(0, .ref 72), (1, .int many), (2, .int 0)], [], st)) rfl ?_
    refine xs_cons (cl_X7_widerIn_16 d many 202 0 st ⟨hR, by decide, by decide, by decide⟩) (fun v u hq => ?_)
    rw [F_X7_widerIn, if_neg h1]; exact hq
  · refine xr_blk gd_X7_widerIn 1 (c' := (13, [(0, .ref 72), (1, .int many)], [.int (-2)], st)) rfl ?_
    exact xr_iret gd_X7_widerIn rfl rfl ⟨by first | (rw [F_X7_widerIn, if_pos h1]; done) | (rw [F_X7_widerIn, if_pos h1]; rfl), by first | (rw [F_X7_widerIn, if_pos h1]; done) | (rw [F_X7_widerIn, if_pos h1]; rfl)⟩
