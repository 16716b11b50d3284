/-! ===== what the methods keep ===== -/
abbrev qX11_taken_x (h : fz_H) (s k : Int) : fz_H → Option fz_V → Prop := fun h' r0 => h' = h ∧ ∃ r : Int, r0 = some (fz_i r) ∧ ((-12) ≤ r ∧ r ≤ 7) ∧ ((¬ (0 ≤ s ∧ s ≤ 5 ∧ 0 ≤ k ∧ k ≤ 7) ∧ r = -1) ∨ ((0 ≤ s ∧ s ≤ 5 ∧ 0 ≤ k ∧ k ≤ 7) ∧ h 83 s.toNat = -1 ∧ r = -11) ∨ ((0 ≤ s ∧ s ≤ 5 ∧ 0 ≤ k ∧ k ≤ 7) ∧ (0 ≤ h 83 s.toNat ∧ h 83 s.toNat ≤ 4) ∧ r = -12) ∨ ((0 ≤ s ∧ s ≤ 5 ∧ 0 ≤ k ∧ k ≤ 7) ∧ (4 < h 83 s.toNat ∧ h 83 s.toNat < 10)) ∨ ((0 ≤ s ∧ s ≤ 5 ∧ 0 ≤ k ∧ k ≤ 7) ∧ 10 ≤ h 83 s.toNat ∧ r = fz_tk (h 81 (h 83 s.toNat - 10).toNat) k))
set_option maxHeartbeats 1000000 in
set_option maxRecDepth 100000 in
theorem sX11_taken_x (h : fz_H) (hI : fz_Iv h) (s k : Int) (hXh : fz_Xh h) : fz_R 2 mX11_taken 0 [(0, fz_r 53), (1, fz_i s), (2, fz_i k)] [] h (qX11_taken_x h s k) := by
  refine fz_knowl (fun hk => ?_)
  have hr_s : -2147483648 ≤ s ∧ s < 2147483648 := hk _ (List.Mem.tail _ (List.Mem.head _))
  have hr_k : -2147483648 ≤ k ∧ k < 2147483648 := hk _ (List.Mem.tail _ (List.Mem.tail _ (List.Mem.head _)))
  clear hk
  refine fz_iload_n kX11_taken rfl rfl ?_
  refine fz_callS (d' := 1) (M' := mX11_isShelf) (As := [fz_i s]) (st := []) kX11_taken rfl rfl vX11_isShelf rfl rfl (Nat.le_of_ble_eq_true rfl) (Nat.le_of_ble_eq_true rfl) (by decide) (sX11_isShelf h hI s ) (fun H1 r2 q3 o4 => ?_)
  obtain ⟨e5, y6, rfl, p7⟩ := q3
  subst H1
  clear o4
  rcases p7 with ⟨rfl, c8⟩ | ⟨rfl, c8⟩
  · refine fz_if_eq (tgt := 17) kX11_taken rfl (by decide) (fun c9 => ?_) (fun c9 => ?_)
    · exfalso; omega
    · refine fz_iload_n kX11_taken rfl rfl ?_
      refine fz_iconst ⟨by decide, by decide⟩ kX11_taken rfl ?_
      refine fz_bipush ⟨by decide, by decide⟩ kX11_taken rfl ?_
      refine fz_callS (d' := 0) (M' := mX11_within) (As := [fz_i k, fz_i 0, fz_i 7]) (st := []) kX11_taken rfl rfl vX11_within rfl rfl (Nat.le_of_ble_eq_true rfl) (Nat.le_of_ble_eq_true rfl) (by decide) (sX11_within h hI k 0 7 ) (fun H10 r11 q12 o13 => ?_)
      obtain ⟨e14, y15, rfl, p16⟩ := q12
      subst H10
      clear o13
      rcases p16 with ⟨rfl, c17⟩ | ⟨rfl, c17⟩
      · refine fz_if_ne (tgt := 19) kX11_taken rfl (by decide) (fun c18 => ?_) (fun c18 => ?_)
        · refine fz_aload_n kX11_taken rfl rfl ?_
          refine fz_getR (t := 83) kX11_taken rfl rfl ?_
          refine fz_iload_n kX11_taken rfl rfl ?_
          refine fz_ialdV (n := 6) (v := h 83 (s.toNat)) kX11_taken rfl rfl (by omega) (by omega) rfl ?_
          have b19 : (-1) ≤ h 83 (s.toNat) ∧ h 83 (s.toNat) ≤ 59 := hI.1 83 _
          refine fz_iconst ⟨by decide, by decide⟩ kX11_taken rfl ?_
          refine fz_icmp_ne (tgt := 32) kX11_taken rfl (by decide) (fun c20 => ?_) (fun c20 => ?_)
          · refine fz_aload_n kX11_taken rfl rfl ?_
            refine fz_iload_n kX11_taken rfl rfl ?_
            refine fz_callV (d' := 1) (M' := mX11_isRow) (As := [fz_i s]) (st := []) kX11_taken rfl rfl vX11_isRow rfl rfl rfl rfl (Nat.le_of_ble_eq_true rfl) (Nat.le_of_ble_eq_true rfl) (by decide) (sX11_isRow h hI s (by omega)) (fun H21 r22 q23 o24 => ?_)
            obtain ⟨e25, y26, rfl, p27⟩ := q23
            subst H21
            clear o24
            rcases p27 with ⟨rfl, c28⟩ | ⟨rfl, c28⟩
            · refine fz_if_eq (tgt := 43) kX11_taken rfl (by decide) (fun c29 => ?_) (fun c29 => ?_)
              · exfalso; omega
              · refine fz_bipush ⟨by decide, by decide⟩ kX11_taken rfl ?_
                exact fz_iret kX11_taken rfl rfl (fun _ => ⟨rfl, _, rfl, (by omega), (by omega)⟩)
            · refine fz_if_eq (tgt := 43) kX11_taken rfl (by decide) (fun c30 => ?_) (fun c30 => ?_)
              · have k31 := hXh s.toNat
                refine fz_aload_n kX11_taken rfl rfl ?_
                refine fz_getR (t := 81) kX11_taken rfl rfl ?_
                refine fz_aload_n kX11_taken rfl rfl ?_
                refine fz_getR (t := 83) kX11_taken rfl rfl ?_
                refine fz_iload_n kX11_taken rfl rfl ?_
                refine fz_ialdV (n := 6) (v := h 83 (s.toNat)) kX11_taken rfl rfl (by omega) (by omega) rfl ?_
                refine fz_bipush ⟨by decide, by decide⟩ kX11_taken rfl ?_
                refine fz_isubN kX11_taken rfl (by omega) ?_
                refine fz_ialdV (n := 50) (v := h 81 (((h 83 (s.toNat)) - 10).toNat)) kX11_taken rfl rfl (by omega) (by omega) rfl ?_
                have b32 : 0 ≤ h 81 (((h 83 (s.toNat)) - 10).toNat) ∧ h 81 (((h 83 (s.toNat)) - 10).toNat) ≤ 7 := hI.1 81 _
                refine fz_istore_n (ls' := [(3, fz_i (h 81 (((h 83 (s.toNat)) - 10).toNat))), (0, fz_r 53), (1, fz_i s), (2, fz_i k)]) kX11_taken rfl (by decide) rfl ?_
                refine fz_iload_n kX11_taken rfl rfl ?_
                rcases (show (h 81 (((h 83 (s.toNat)) - 10).toNat)) = 0 ∨ (h 81 (((h 83 (s.toNat)) - 10).toNat)) = 1 ∨ (h 81 (((h 83 (s.toNat)) - 10).toNat)) = 2 ∨ (h 81 (((h 83 (s.toNat)) - 10).toNat)) = 3 ∨ (h 81 (((h 83 (s.toNat)) - 10).toNat)) = 4 ∨ (h 81 (((h 83 (s.toNat)) - 10).toNat)) = 5 ∨ (h 81 (((h 83 (s.toNat)) - 10).toNat)) = 6 ∨ (h 81 (((h 83 (s.toNat)) - 10).toNat)) = 7 by omega) with c33 | c33 | c33 | c33 | c33 | c33 | c33 | c33
                · refine fz_eqi c33 ?_
                  refine fz_istore (ls' := [(4, fz_i 0), (3, fz_i (h 81 (((h 83 (s.toNat)) - 10).toNat))), (0, fz_r 53), (1, fz_i s), (2, fz_i k)]) kX11_taken rfl (by decide) rfl ?_
                  refine fz_iload kX11_taken rfl rfl ?_
                  refine fz_iload_n kX11_taken rfl rfl ?_
                  refine fz_icmp_eq (tgt := 82) kX11_taken rfl (by decide) (fun c34 => ?_) (fun c34 => ?_)
                  · refine fz_iload kX11_taken rfl rfl ?_
                    refine fz_iload_n kX11_taken rfl rfl ?_
                    refine fz_icmp_ne (tgt := 92) kX11_taken rfl (by decide) (fun c35 => ?_) (fun c35 => ?_)
                    · exfalso; omega
                    · refine fz_iload_n kX11_taken rfl rfl ?_
                      refine fz_goto (tgt := 94) kX11_taken rfl (by decide) ?_
                      have k36 : 10 ≤ h 83 s.toNat → (h 81 (((h 83 (s.toNat)) - 10).toNat)) = fz_tk (h 81 (h 83 s.toNat - 10).toNat) k := by intro z1; first | exact fz_tk_n (by unfold fz_un; omega) | exact fz_tk_y (by omega) (by unfold fz_un; omega)
                      exact fz_iret kX11_taken rfl rfl (fun _ => ⟨rfl, _, rfl, (by omega), (by omega)⟩)
                  · refine fz_iload kX11_taken rfl rfl ?_
                    refine fz_if_le (tgt := 82) kX11_taken rfl (by decide) (fun c38 => ?_) (fun c38 => ?_)
                    · refine fz_iload kX11_taken rfl rfl ?_
                      refine fz_iload_n kX11_taken rfl rfl ?_
                      refine fz_icmp_ne (tgt := 92) kX11_taken rfl (by decide) (fun c39 => ?_) (fun c39 => ?_)
                      · refine fz_bipush ⟨by decide, by decide⟩ kX11_taken rfl ?_
                        have k40 : 10 ≤ h 83 s.toNat → (-12) = fz_tk (h 81 (h 83 s.toNat - 10).toNat) k := by intro z1; first | exact fz_tk_n (by unfold fz_un; omega) | exact fz_tk_y (by omega) (by unfold fz_un; omega)
                        exact fz_iret kX11_taken rfl rfl (fun _ => ⟨rfl, _, rfl, (by omega), (by omega)⟩)
                      · refine fz_iload_n kX11_taken rfl rfl ?_
                        refine fz_goto (tgt := 94) kX11_taken rfl (by decide) ?_
                        have k42 : 10 ≤ h 83 s.toNat → (h 81 (((h 83 (s.toNat)) - 10).toNat)) = fz_tk (h 81 (h 83 s.toNat - 10).toNat) k := by intro z1; first | exact fz_tk_n (by unfold fz_un; omega) | exact fz_tk_y (by omega) (by unfold fz_un; omega)
                        exact fz_iret kX11_taken rfl rfl (fun _ => ⟨rfl, _, rfl, (by omega), (by omega)⟩)
                    · exfalso; omega
                · refine fz_eqi c33 ?_
                  refine fz_istore (ls' := [(4, fz_i 1), (3, fz_i (h 81 (((h 83 (s.toNat)) - 10).toNat))), (0, fz_r 53), (1, fz_i s), (2, fz_i k)]) kX11_taken rfl (by decide) rfl ?_
                  refine fz_iload kX11_taken rfl rfl ?_
                  refine fz_iload_n kX11_taken rfl rfl ?_
                  refine fz_icmp_eq (tgt := 82) kX11_taken rfl (by decide) (fun c44 => ?_) (fun c44 => ?_)
                  · refine fz_iload kX11_taken rfl rfl ?_
                    refine fz_iload_n kX11_taken rfl rfl ?_
                    refine fz_icmp_ne (tgt := 92) kX11_taken rfl (by decide) (fun c45 => ?_) (fun c45 => ?_)
                    · exfalso; omega
                    · refine fz_iload_n kX11_taken rfl rfl ?_
                      refine fz_goto (tgt := 94) kX11_taken rfl (by decide) ?_
                      have k46 : 10 ≤ h 83 s.toNat → (h 81 (((h 83 (s.toNat)) - 10).toNat)) = fz_tk (h 81 (h 83 s.toNat - 10).toNat) k := by intro z1; first | exact fz_tk_n (by unfold fz_un; omega) | exact fz_tk_y (by omega) (by unfold fz_un; omega)
                      exact fz_iret kX11_taken rfl rfl (fun _ => ⟨rfl, _, rfl, (by omega), (by omega)⟩)
                  · refine fz_iload kX11_taken rfl rfl ?_
                    refine fz_if_le (tgt := 82) kX11_taken rfl (by decide) (fun c48 => ?_) (fun c48 => ?_)
                    · exfalso; omega
                    · refine fz_iload kX11_taken rfl rfl ?_
                      refine fz_callS (d' := 0) (M' := mX11_above) (As := [fz_i 1]) (st := []) kX11_taken rfl rfl vX11_above rfl rfl (Nat.le_of_ble_eq_true rfl) (Nat.le_of_ble_eq_true rfl) (by decide) (sX11_above_1 h hI  ) (fun H49 r50 q51 o52 => ?_)
                      obtain ⟨e53, y55, rfl, f54⟩ := q51
                      subst H49
                      clear o52
                      refine fz_eqi (show y55 = 0 by omega) ?_
                      refine fz_istore (ls' := [(4, fz_i 0), (3, fz_i (h 81 (((h 83 (s.toNat)) - 10).toNat))), (0, fz_r 53), (1, fz_i s), (2, fz_i k)]) kX11_taken rfl (by decide) rfl ?_
                      refine fz_goto (tgt := 61) kX11_taken rfl (by decide) ?_
                      refine fz_iload kX11_taken rfl rfl ?_
                      refine fz_iload_n kX11_taken rfl rfl ?_
                      refine fz_icmp_eq (tgt := 82) kX11_taken rfl (by decide) (fun c56 => ?_) (fun c56 => ?_)
                      · refine fz_iload kX11_taken rfl rfl ?_
                        refine fz_iload_n kX11_taken rfl rfl ?_
                        refine fz_icmp_ne (tgt := 92) kX11_taken rfl (by decide) (fun c57 => ?_) (fun c57 => ?_)
                        · exfalso; omega
                        · refine fz_iload_n kX11_taken rfl rfl ?_
                          refine fz_goto (tgt := 94) kX11_taken rfl (by decide) ?_
                          have k58 : 10 ≤ h 83 s.toNat → (h 81 (((h 83 (s.toNat)) - 10).toNat)) = fz_tk (h 81 (h 83 s.toNat - 10).toNat) k := by intro z1; first | exact fz_tk_n (by unfold fz_un; omega) | exact fz_tk_y (by omega) (by unfold fz_un; omega)
                          exact fz_iret kX11_taken rfl rfl (fun _ => ⟨rfl, _, rfl, (by omega), (by omega)⟩)
                      · refine fz_iload kX11_taken rfl rfl ?_
                        refine fz_if_le (tgt := 82) kX11_taken rfl (by decide) (fun c60 => ?_) (fun c60 => ?_)
                        · refine fz_iload kX11_taken rfl rfl ?_
                          refine fz_iload_n kX11_taken rfl rfl ?_
                          refine fz_icmp_ne (tgt := 92) kX11_taken rfl (by decide) (fun c61 => ?_) (fun c61 => ?_)
                          · refine fz_bipush ⟨by decide, by decide⟩ kX11_taken rfl ?_
                            have k62 : 10 ≤ h 83 s.toNat → (-12) = fz_tk (h 81 (h 83 s.toNat - 10).toNat) k := by intro z1; first | exact fz_tk_n (by unfold fz_un; omega) | exact fz_tk_y (by omega) (by unfold fz_un; omega)
                            exact fz_iret kX11_taken rfl rfl (fun _ => ⟨rfl, _, rfl, (by omega), (by omega)⟩)
                          · refine fz_iload_n kX11_taken rfl rfl ?_
                            refine fz_goto (tgt := 94) kX11_taken rfl (by decide) ?_
                            have k64 : 10 ≤ h 83 s.toNat → (h 81 (((h 83 (s.toNat)) - 10).toNat)) = fz_tk (h 81 (h 83 s.toNat - 10).toNat) k := by intro z1; first | exact fz_tk_n (by unfold fz_un; omega) | exact fz_tk_y (by omega) (by unfold fz_un; omega)
                            exact fz_iret kX11_taken rfl rfl (fun _ => ⟨rfl, _, rfl, (by omega), (by omega)⟩)
                        · exfalso; omega
                · refine fz_eqi c33 ?_
                  refine fz_istore (ls' := [(4, fz_i 2), (3, fz_i (h 81 (((h 83 (s.toNat)) - 10).toNat))), (0, fz_r 53), (1, fz_i s), (2, fz_i k)]) kX11_taken rfl (by decide) rfl ?_
                  refine fz_iload kX11_taken rfl rfl ?_
                  refine fz_iload_n kX11_taken rfl rfl ?_
                  refine fz_icmp_eq (tgt := 82) kX11_taken rfl (by decide) (fun c66 => ?_) (fun c66 => ?_)
                  · refine fz_iload kX11_taken rfl rfl ?_
                    refine fz_iload_n kX11_taken rfl rfl ?_
                    refine fz_icmp_ne (tgt := 92) kX11_taken rfl (by decide) (fun c67 => ?_) (fun c67 => ?_)
                    · exfalso; omega
                    · refine fz_iload_n kX11_taken rfl rfl ?_
                      refine fz_goto (tgt := 94) kX11_taken rfl (by decide) ?_
                      have k68 : 10 ≤ h 83 s.toNat → (h 81 (((h 83 (s.toNat)) - 10).toNat)) = fz_tk (h 81 (h 83 s.toNat - 10).toNat) k := by intro z1; first | exact fz_tk_n (by unfold fz_un; omega) | exact fz_tk_y (by omega) (by unfold fz_un; omega)
                      exact fz_iret kX11_taken rfl rfl (fun _ => ⟨rfl, _, rfl, (by omega), (by omega)⟩)
                  · refine fz_iload kX11_taken rfl rfl ?_
                    refine fz_if_le (tgt := 82) kX11_taken rfl (by decide) (fun c70 => ?_) (fun c70 => ?_)
                    · exfalso; omega
                    · refine fz_iload kX11_taken rfl rfl ?_
                      refine fz_callS (d' := 0) (M' := mX11_above) (As := [fz_i 2]) (st := []) kX11_taken rfl rfl vX11_above rfl rfl (Nat.le_of_ble_eq_true rfl) (Nat.le_of_ble_eq_true rfl) (by decide) (sX11_above_2 h hI  ) (fun H71 r72 q73 o74 => ?_)
                      obtain ⟨e75, y77, rfl, f76⟩ := q73
                      subst H71
                      clear o74
                      refine fz_eqi (show y77 = 0 by omega) ?_
                      refine fz_istore (ls' := [(4, fz_i 0), (3, fz_i (h 81 (((h 83 (s.toNat)) - 10).toNat))), (0, fz_r 53), (1, fz_i s), (2, fz_i k)]) kX11_taken rfl (by decide) rfl ?_
                      refine fz_goto (tgt := 61) kX11_taken rfl (by decide) ?_
                      refine fz_iload kX11_taken rfl rfl ?_
                      refine fz_iload_n kX11_taken rfl rfl ?_
                      refine fz_icmp_eq (tgt := 82) kX11_taken rfl (by decide) (fun c78 => ?_) (fun c78 => ?_)
                      · refine fz_iload kX11_taken rfl rfl ?_
                        refine fz_iload_n kX11_taken rfl rfl ?_
                        refine fz_icmp_ne (tgt := 92) kX11_taken rfl (by decide) (fun c79 => ?_) (fun c79 => ?_)
                        · exfalso; omega
                        · refine fz_iload_n kX11_taken rfl rfl ?_
                          refine fz_goto (tgt := 94) kX11_taken rfl (by decide) ?_
                          have k80 : 10 ≤ h 83 s.toNat → (h 81 (((h 83 (s.toNat)) - 10).toNat)) = fz_tk (h 81 (h 83 s.toNat - 10).toNat) k := by intro z1; first | exact fz_tk_n (by unfold fz_un; omega) | exact fz_tk_y (by omega) (by unfold fz_un; omega)
                          exact fz_iret kX11_taken rfl rfl (fun _ => ⟨rfl, _, rfl, (by omega), (by omega)⟩)
                      · refine fz_iload kX11_taken rfl rfl ?_
                        refine fz_if_le (tgt := 82) kX11_taken rfl (by decide) (fun c82 => ?_) (fun c82 => ?_)
                        · refine fz_iload kX11_taken rfl rfl ?_
                          refine fz_iload_n kX11_taken rfl rfl ?_
                          refine fz_icmp_ne (tgt := 92) kX11_taken rfl (by decide) (fun c83 => ?_) (fun c83 => ?_)
                          · refine fz_bipush ⟨by decide, by decide⟩ kX11_taken rfl ?_
                            have k84 : 10 ≤ h 83 s.toNat → (-12) = fz_tk (h 81 (h 83 s.toNat - 10).toNat) k := by intro z1; first | exact fz_tk_n (by unfold fz_un; omega) | exact fz_tk_y (by omega) (by unfold fz_un; omega)
                            exact fz_iret kX11_taken rfl rfl (fun _ => ⟨rfl, _, rfl, (by omega), (by omega)⟩)
                          · refine fz_iload_n kX11_taken rfl rfl ?_
                            refine fz_goto (tgt := 94) kX11_taken rfl (by decide) ?_
                            have k86 : 10 ≤ h 83 s.toNat → (h 81 (((h 83 (s.toNat)) - 10).toNat)) = fz_tk (h 81 (h 83 s.toNat - 10).toNat) k := by intro z1; first | exact fz_tk_n (by unfold fz_un; omega) | exact fz_tk_y (by omega) (by unfold fz_un; omega)
                            exact fz_iret kX11_taken rfl rfl (fun _ => ⟨rfl, _, rfl, (by omega), (by omega)⟩)
                        · exfalso; omega
                · refine fz_eqi c33 ?_
                  refine fz_istore (ls' := [(4, fz_i 3), (3, fz_i (h 81 (((h 83 (s.toNat)) - 10).toNat))), (0, fz_r 53), (1, fz_i s), (2, fz_i k)]) kX11_taken rfl (by decide) rfl ?_
                  refine fz_iload kX11_taken rfl rfl ?_
                  refine fz_iload_n kX11_taken rfl rfl ?_
                  refine fz_icmp_eq (tgt := 82) kX11_taken rfl (by decide) (fun c88 => ?_) (fun c88 => ?_)
                  · refine fz_iload kX11_taken rfl rfl ?_
                    refine fz_iload_n kX11_taken rfl rfl ?_
                    refine fz_icmp_ne (tgt := 92) kX11_taken rfl (by decide) (fun c89 => ?_) (fun c89 => ?_)
                    · exfalso; omega
                    · refine fz_iload_n kX11_taken rfl rfl ?_
                      refine fz_goto (tgt := 94) kX11_taken rfl (by decide) ?_
                      have k90 : 10 ≤ h 83 s.toNat → (h 81 (((h 83 (s.toNat)) - 10).toNat)) = fz_tk (h 81 (h 83 s.toNat - 10).toNat) k := by intro z1; first | exact fz_tk_n (by unfold fz_un; omega) | exact fz_tk_y (by omega) (by unfold fz_un; omega)
                      exact fz_iret kX11_taken rfl rfl (fun _ => ⟨rfl, _, rfl, (by omega), (by omega)⟩)
                  · refine fz_iload kX11_taken rfl rfl ?_
                    refine fz_if_le (tgt := 82) kX11_taken rfl (by decide) (fun c92 => ?_) (fun c92 => ?_)
                    · exfalso; omega
                    · refine fz_iload kX11_taken rfl rfl ?_
                      refine fz_callS (d' := 0) (M' := mX11_above) (As := [fz_i 3]) (st := []) kX11_taken rfl rfl vX11_above rfl rfl (Nat.le_of_ble_eq_true rfl) (Nat.le_of_ble_eq_true rfl) (by decide) (sX11_above_3 h hI  ) (fun H93 r94 q95 o96 => ?_)
                      obtain ⟨e97, y99, rfl, f98⟩ := q95
                      subst H93
                      clear o96
                      refine fz_eqi (show y99 = 2 by omega) ?_
                      refine fz_istore (ls' := [(4, fz_i 2), (3, fz_i (h 81 (((h 83 (s.toNat)) - 10).toNat))), (0, fz_r 53), (1, fz_i s), (2, fz_i k)]) kX11_taken rfl (by decide) rfl ?_
                      refine fz_goto (tgt := 61) kX11_taken rfl (by decide) ?_
                      refine fz_iload kX11_taken rfl rfl ?_
                      refine fz_iload_n kX11_taken rfl rfl ?_
                      refine fz_icmp_eq (tgt := 82) kX11_taken rfl (by decide) (fun c100 => ?_) (fun c100 => ?_)
                      · refine fz_iload kX11_taken rfl rfl ?_
                        refine fz_iload_n kX11_taken rfl rfl ?_
                        refine fz_icmp_ne (tgt := 92) kX11_taken rfl (by decide) (fun c101 => ?_) (fun c101 => ?_)
                        · exfalso; omega
                        · refine fz_iload_n kX11_taken rfl rfl ?_
                          refine fz_goto (tgt := 94) kX11_taken rfl (by decide) ?_
                          have k102 : 10 ≤ h 83 s.toNat → (h 81 (((h 83 (s.toNat)) - 10).toNat)) = fz_tk (h 81 (h 83 s.toNat - 10).toNat) k := by intro z1; first | exact fz_tk_n (by unfold fz_un; omega) | exact fz_tk_y (by omega) (by unfold fz_un; omega)
                          exact fz_iret kX11_taken rfl rfl (fun _ => ⟨rfl, _, rfl, (by omega), (by omega)⟩)
                      · refine fz_iload kX11_taken rfl rfl ?_
                        refine fz_if_le (tgt := 82) kX11_taken rfl (by decide) (fun c104 => ?_) (fun c104 => ?_)
                        · exfalso; omega
                        · refine fz_iload kX11_taken rfl rfl ?_
                          refine fz_callS (d' := 0) (M' := mX11_above) (As := [fz_i 2]) (st := []) kX11_taken rfl rfl vX11_above rfl rfl (Nat.le_of_ble_eq_true rfl) (Nat.le_of_ble_eq_true rfl) (by decide) (sX11_above_2 h hI  ) (fun H105 r106 q107 o108 => ?_)
                          obtain ⟨e109, y111, rfl, f110⟩ := q107
                          subst H105
                          clear o108
                          refine fz_eqi (show y111 = 0 by omega) ?_
                          refine fz_istore (ls' := [(4, fz_i 0), (3, fz_i (h 81 (((h 83 (s.toNat)) - 10).toNat))), (0, fz_r 53), (1, fz_i s), (2, fz_i k)]) kX11_taken rfl (by decide) rfl ?_
                          refine fz_goto (tgt := 61) kX11_taken rfl (by decide) ?_
                          refine fz_iload kX11_taken rfl rfl ?_
                          refine fz_iload_n kX11_taken rfl rfl ?_
                          refine fz_icmp_eq (tgt := 82) kX11_taken rfl (by decide) (fun c112 => ?_) (fun c112 => ?_)
                          · refine fz_iload kX11_taken rfl rfl ?_
                            refine fz_iload_n kX11_taken rfl rfl ?_
                            refine fz_icmp_ne (tgt := 92) kX11_taken rfl (by decide) (fun c113 => ?_) (fun c113 => ?_)
                            · exfalso; omega
                            · refine fz_iload_n kX11_taken rfl rfl ?_
                              refine fz_goto (tgt := 94) kX11_taken rfl (by decide) ?_
                              have k114 : 10 ≤ h 83 s.toNat → (h 81 (((h 83 (s.toNat)) - 10).toNat)) = fz_tk (h 81 (h 83 s.toNat - 10).toNat) k := by intro z1; first | exact fz_tk_n (by unfold fz_un; omega) | exact fz_tk_y (by omega) (by unfold fz_un; omega)
                              exact fz_iret kX11_taken rfl rfl (fun _ => ⟨rfl, _, rfl, (by omega), (by omega)⟩)
                          · refine fz_iload kX11_taken rfl rfl ?_
                            refine fz_if_le (tgt := 82) kX11_taken rfl (by decide) (fun c116 => ?_) (fun c116 => ?_)
                            · refine fz_iload kX11_taken rfl rfl ?_
                              refine fz_iload_n kX11_taken rfl rfl ?_
                              refine fz_icmp_ne (tgt := 92) kX11_taken rfl (by decide) (fun c117 => ?_) (fun c117 => ?_)
                              · refine fz_bipush ⟨by decide, by decide⟩ kX11_taken rfl ?_
                                have k118 : 10 ≤ h 83 s.toNat → (-12) = fz_tk (h 81 (h 83 s.toNat - 10).toNat) k := by intro z1; first | exact fz_tk_n (by unfold fz_un; omega) | exact fz_tk_y (by omega) (by unfold fz_un; omega)
                                exact fz_iret kX11_taken rfl rfl (fun _ => ⟨rfl, _, rfl, (by omega), (by omega)⟩)
                              · refine fz_iload_n kX11_taken rfl rfl ?_
                                refine fz_goto (tgt := 94) kX11_taken rfl (by decide) ?_
                                have k120 : 10 ≤ h 83 s.toNat → (h 81 (((h 83 (s.toNat)) - 10).toNat)) = fz_tk (h 81 (h 83 s.toNat - 10).toNat) k := by intro z1; first | exact fz_tk_n (by unfold fz_un; omega) | exact fz_tk_y (by omega) (by unfold fz_un; omega)
                                exact fz_iret kX11_taken rfl rfl (fun _ => ⟨rfl, _, rfl, (by omega), (by omega)⟩)
                            · exfalso; omega
                · refine fz_eqi c33 ?_
                  refine fz_istore (ls' := [(4, fz_i 4), (3, fz_i (h 81 (((h 83 (s.toNat)) - 10).toNat))), (0, fz_r 53), (1, fz_i s), (2, fz_i k)]) kX11_taken rfl (by decide) rfl ?_
                  refine fz_iload kX11_taken rfl rfl ?_
                  refine fz_iload_n kX11_taken rfl rfl ?_
                  refine fz_icmp_eq (tgt := 82) kX11_taken rfl (by decide) (fun c122 => ?_) (fun c122 => ?_)
                  · refine fz_iload kX11_taken rfl rfl ?_
                    refine fz_iload_n kX11_taken rfl rfl ?_
                    refine fz_icmp_ne (tgt := 92) kX11_taken rfl (by decide) (fun c123 => ?_) (fun c123 => ?_)
                    · exfalso; omega
                    · refine fz_iload_n kX11_taken rfl rfl ?_
                      refine fz_goto (tgt := 94) kX11_taken rfl (by decide) ?_
                      have k124 : 10 ≤ h 83 s.toNat → (h 81 (((h 83 (s.toNat)) - 10).toNat)) = fz_tk (h 81 (h 83 s.toNat - 10).toNat) k := by intro z1; first | exact fz_tk_n (by unfold fz_un; omega) | exact fz_tk_y (by omega) (by unfold fz_un; omega)
                      exact fz_iret kX11_taken rfl rfl (fun _ => ⟨rfl, _, rfl, (by omega), (by omega)⟩)
                  · refine fz_iload kX11_taken rfl rfl ?_
                    refine fz_if_le (tgt := 82) kX11_taken rfl (by decide) (fun c126 => ?_) (fun c126 => ?_)
                    · exfalso; omega
                    · refine fz_iload kX11_taken rfl rfl ?_
                      refine fz_callS (d' := 0) (M' := mX11_above) (As := [fz_i 4]) (st := []) kX11_taken rfl rfl vX11_above rfl rfl (Nat.le_of_ble_eq_true rfl) (Nat.le_of_ble_eq_true rfl) (by decide) (sX11_above_4 h hI  ) (fun H127 r128 q129 o130 => ?_)
                      obtain ⟨e131, y133, rfl, f132⟩ := q129
                      subst H127
                      clear o130
                      refine fz_eqi (show y133 = 1 by omega) ?_
                      refine fz_istore (ls' := [(4, fz_i 1), (3, fz_i (h 81 (((h 83 (s.toNat)) - 10).toNat))), (0, fz_r 53), (1, fz_i s), (2, fz_i k)]) kX11_taken rfl (by decide) rfl ?_
                      refine fz_goto (tgt := 61) kX11_taken rfl (by decide) ?_
                      refine fz_iload kX11_taken rfl rfl ?_
                      refine fz_iload_n kX11_taken rfl rfl ?_
                      refine fz_icmp_eq (tgt := 82) kX11_taken rfl (by decide) (fun c134 => ?_) (fun c134 => ?_)
                      · refine fz_iload kX11_taken rfl rfl ?_
                        refine fz_iload_n kX11_taken rfl rfl ?_
                        refine fz_icmp_ne (tgt := 92) kX11_taken rfl (by decide) (fun c135 => ?_) (fun c135 => ?_)
                        · exfalso; omega
                        · refine fz_iload_n kX11_taken rfl rfl ?_
                          refine fz_goto (tgt := 94) kX11_taken rfl (by decide) ?_
                          have k136 : 10 ≤ h 83 s.toNat → (h 81 (((h 83 (s.toNat)) - 10).toNat)) = fz_tk (h 81 (h 83 s.toNat - 10).toNat) k := by intro z1; first | exact fz_tk_n (by unfold fz_un; omega) | exact fz_tk_y (by omega) (by unfold fz_un; omega)
                          exact fz_iret kX11_taken rfl rfl (fun _ => ⟨rfl, _, rfl, (by omega), (by omega)⟩)
                      · refine fz_iload kX11_taken rfl rfl ?_
                        refine fz_if_le (tgt := 82) kX11_taken rfl (by decide) (fun c138 => ?_) (fun c138 => ?_)
                        · exfalso; omega
                        · refine fz_iload kX11_taken rfl rfl ?_
                          refine fz_callS (d' := 0) (M' := mX11_above) (As := [fz_i 1]) (st := []) kX11_taken rfl rfl vX11_above rfl rfl (Nat.le_of_ble_eq_true rfl) (Nat.le_of_ble_eq_true rfl) (by decide) (sX11_above_1 h hI  ) (fun H139 r140 q141 o142 => ?_)
                          obtain ⟨e143, y145, rfl, f144⟩ := q141
                          subst H139
                          clear o142
                          refine fz_eqi (show y145 = 0 by omega) ?_
                          refine fz_istore (ls' := [(4, fz_i 0), (3, fz_i (h 81 (((h 83 (s.toNat)) - 10).toNat))), (0, fz_r 53), (1, fz_i s), (2, fz_i k)]) kX11_taken rfl (by decide) rfl ?_
                          refine fz_goto (tgt := 61) kX11_taken rfl (by decide) ?_
                          refine fz_iload kX11_taken rfl rfl ?_
                          refine fz_iload_n kX11_taken rfl rfl ?_
                          refine fz_icmp_eq (tgt := 82) kX11_taken rfl (by decide) (fun c146 => ?_) (fun c146 => ?_)
                          · refine fz_iload kX11_taken rfl rfl ?_
                            refine fz_iload_n kX11_taken rfl rfl ?_
                            refine fz_icmp_ne (tgt := 92) kX11_taken rfl (by decide) (fun c147 => ?_) (fun c147 => ?_)
                            · exfalso; omega
                            · refine fz_iload_n kX11_taken rfl rfl ?_
                              refine fz_goto (tgt := 94) kX11_taken rfl (by decide) ?_
                              have k148 : 10 ≤ h 83 s.toNat → (h 81 (((h 83 (s.toNat)) - 10).toNat)) = fz_tk (h 81 (h 83 s.toNat - 10).toNat) k := by intro z1; first | exact fz_tk_n (by unfold fz_un; omega) | exact fz_tk_y (by omega) (by unfold fz_un; omega)
                              exact fz_iret kX11_taken rfl rfl (fun _ => ⟨rfl, _, rfl, (by omega), (by omega)⟩)
                          · refine fz_iload kX11_taken rfl rfl ?_
                            refine fz_if_le (tgt := 82) kX11_taken rfl (by decide) (fun c150 => ?_) (fun c150 => ?_)
                            · refine fz_iload kX11_taken rfl rfl ?_
                              refine fz_iload_n kX11_taken rfl rfl ?_
                              refine fz_icmp_ne (tgt := 92) kX11_taken rfl (by decide) (fun c151 => ?_) (fun c151 => ?_)
                              · refine fz_bipush ⟨by decide, by decide⟩ kX11_taken rfl ?_
                                have k152 : 10 ≤ h 83 s.toNat → (-12) = fz_tk (h 81 (h 83 s.toNat - 10).toNat) k := by intro z1; first | exact fz_tk_n (by unfold fz_un; omega) | exact fz_tk_y (by omega) (by unfold fz_un; omega)
                                exact fz_iret kX11_taken rfl rfl (fun _ => ⟨rfl, _, rfl, (by omega), (by omega)⟩)
                              · refine fz_iload_n kX11_taken rfl rfl ?_
                                refine fz_goto (tgt := 94) kX11_taken rfl (by decide) ?_
                                have k154 : 10 ≤ h 83 s.toNat → (h 81 (((h 83 (s.toNat)) - 10).toNat)) = fz_tk (h 81 (h 83 s.toNat - 10).toNat) k := by intro z1; first | exact fz_tk_n (by unfold fz_un; omega) | exact fz_tk_y (by omega) (by unfold fz_un; omega)
                                exact fz_iret kX11_taken rfl rfl (fun _ => ⟨rfl, _, rfl, (by omega), (by omega)⟩)
                            · exfalso; omega
                · refine fz_eqi c33 ?_
                  refine fz_istore (ls' := [(4, fz_i 5), (3, fz_i (h 81 (((h 83 (s.toNat)) - 10).toNat))), (0, fz_r 53), (1, fz_i s), (2, fz_i k)]) kX11_taken rfl (by decide) rfl ?_
                  refine fz_iload kX11_taken rfl rfl ?_
                  refine fz_iload_n kX11_taken rfl rfl ?_
                  refine fz_icmp_eq (tgt := 82) kX11_taken rfl (by decide) (fun c156 => ?_) (fun c156 => ?_)
                  · refine fz_iload kX11_taken rfl rfl ?_
                    refine fz_iload_n kX11_taken rfl rfl ?_
                    refine fz_icmp_ne (tgt := 92) kX11_taken rfl (by decide) (fun c157 => ?_) (fun c157 => ?_)
                    · exfalso; omega
                    · refine fz_iload_n kX11_taken rfl rfl ?_
                      refine fz_goto (tgt := 94) kX11_taken rfl (by decide) ?_
                      have k158 : 10 ≤ h 83 s.toNat → (h 81 (((h 83 (s.toNat)) - 10).toNat)) = fz_tk (h 81 (h 83 s.toNat - 10).toNat) k := by intro z1; first | exact fz_tk_n (by unfold fz_un; omega) | exact fz_tk_y (by omega) (by unfold fz_un; omega)
                      exact fz_iret kX11_taken rfl rfl (fun _ => ⟨rfl, _, rfl, (by omega), (by omega)⟩)
                  · refine fz_iload kX11_taken rfl rfl ?_
                    refine fz_if_le (tgt := 82) kX11_taken rfl (by decide) (fun c160 => ?_) (fun c160 => ?_)
                    · exfalso; omega
                    · refine fz_iload kX11_taken rfl rfl ?_
                      refine fz_callS (d' := 0) (M' := mX11_above) (As := [fz_i 5]) (st := []) kX11_taken rfl rfl vX11_above rfl rfl (Nat.le_of_ble_eq_true rfl) (Nat.le_of_ble_eq_true rfl) (by decide) (sX11_above_5 h hI  ) (fun H161 r162 q163 o164 => ?_)
                      obtain ⟨e165, y167, rfl, f166⟩ := q163
                      subst H161
                      clear o164
                      refine fz_eqi (show y167 = 3 by omega) ?_
                      refine fz_istore (ls' := [(4, fz_i 3), (3, fz_i (h 81 (((h 83 (s.toNat)) - 10).toNat))), (0, fz_r 53), (1, fz_i s), (2, fz_i k)]) kX11_taken rfl (by decide) rfl ?_
                      refine fz_goto (tgt := 61) kX11_taken rfl (by decide) ?_
                      refine fz_iload kX11_taken rfl rfl ?_
                      refine fz_iload_n kX11_taken rfl rfl ?_
                      refine fz_icmp_eq (tgt := 82) kX11_taken rfl (by decide) (fun c168 => ?_) (fun c168 => ?_)
                      · refine fz_iload kX11_taken rfl rfl ?_
                        refine fz_iload_n kX11_taken rfl rfl ?_
                        refine fz_icmp_ne (tgt := 92) kX11_taken rfl (by decide) (fun c169 => ?_) (fun c169 => ?_)
                        · exfalso; omega
                        · refine fz_iload_n kX11_taken rfl rfl ?_
                          refine fz_goto (tgt := 94) kX11_taken rfl (by decide) ?_
                          have k170 : 10 ≤ h 83 s.toNat → (h 81 (((h 83 (s.toNat)) - 10).toNat)) = fz_tk (h 81 (h 83 s.toNat - 10).toNat) k := by intro z1; first | exact fz_tk_n (by unfold fz_un; omega) | exact fz_tk_y (by omega) (by unfold fz_un; omega)
                          exact fz_iret kX11_taken rfl rfl (fun _ => ⟨rfl, _, rfl, (by omega), (by omega)⟩)
                      · refine fz_iload kX11_taken rfl rfl ?_
                        refine fz_if_le (tgt := 82) kX11_taken rfl (by decide) (fun c172 => ?_) (fun c172 => ?_)
                        · exfalso; omega
                        · refine fz_iload kX11_taken rfl rfl ?_
                          refine fz_callS (d' := 0) (M' := mX11_above) (As := [fz_i 3]) (st := []) kX11_taken rfl rfl vX11_above rfl rfl (Nat.le_of_ble_eq_true rfl) (Nat.le_of_ble_eq_true rfl) (by decide) (sX11_above_3 h hI  ) (fun H173 r174 q175 o176 => ?_)
                          obtain ⟨e177, y179, rfl, f178⟩ := q175
                          subst H173
                          clear o176
                          refine fz_eqi (show y179 = 2 by omega) ?_
                          refine fz_istore (ls' := [(4, fz_i 2), (3, fz_i (h 81 (((h 83 (s.toNat)) - 10).toNat))), (0, fz_r 53), (1, fz_i s), (2, fz_i k)]) kX11_taken rfl (by decide) rfl ?_
                          refine fz_goto (tgt := 61) kX11_taken rfl (by decide) ?_
                          refine fz_iload kX11_taken rfl rfl ?_
                          refine fz_iload_n kX11_taken rfl rfl ?_
                          refine fz_icmp_eq (tgt := 82) kX11_taken rfl (by decide) (fun c180 => ?_) (fun c180 => ?_)
                          · refine fz_iload kX11_taken rfl rfl ?_
                            refine fz_iload_n kX11_taken rfl rfl ?_
                            refine fz_icmp_ne (tgt := 92) kX11_taken rfl (by decide) (fun c181 => ?_) (fun c181 => ?_)
                            · exfalso; omega
                            · refine fz_iload_n kX11_taken rfl rfl ?_
                              refine fz_goto (tgt := 94) kX11_taken rfl (by decide) ?_
                              have k182 : 10 ≤ h 83 s.toNat → (h 81 (((h 83 (s.toNat)) - 10).toNat)) = fz_tk (h 81 (h 83 s.toNat - 10).toNat) k := by intro z1; first | exact fz_tk_n (by unfold fz_un; omega) | exact fz_tk_y (by omega) (by unfold fz_un; omega)
                              exact fz_iret kX11_taken rfl rfl (fun _ => ⟨rfl, _, rfl, (by omega), (by omega)⟩)
                          · refine fz_iload kX11_taken rfl rfl ?_
                            refine fz_if_le (tgt := 82) kX11_taken rfl (by decide) (fun c184 => ?_) (fun c184 => ?_)
                            · exfalso; omega
                            · refine fz_iload kX11_taken rfl rfl ?_
                              refine fz_callS (d' := 0) (M' := mX11_above) (As := [fz_i 2]) (st := []) kX11_taken rfl rfl vX11_above rfl rfl (Nat.le_of_ble_eq_true rfl) (Nat.le_of_ble_eq_true rfl) (by decide) (sX11_above_2 h hI  ) (fun H185 r186 q187 o188 => ?_)
                              obtain ⟨e189, y191, rfl, f190⟩ := q187
                              subst H185
                              clear o188
                              refine fz_eqi (show y191 = 0 by omega) ?_
                              refine fz_istore (ls' := [(4, fz_i 0), (3, fz_i (h 81 (((h 83 (s.toNat)) - 10).toNat))), (0, fz_r 53), (1, fz_i s), (2, fz_i k)]) kX11_taken rfl (by decide) rfl ?_
                              refine fz_goto (tgt := 61) kX11_taken rfl (by decide) ?_
                              refine fz_iload kX11_taken rfl rfl ?_
                              refine fz_iload_n kX11_taken rfl rfl ?_
                              refine fz_icmp_eq (tgt := 82) kX11_taken rfl (by decide) (fun c192 => ?_) (fun c192 => ?_)
                              · refine fz_iload kX11_taken rfl rfl ?_
                                refine fz_iload_n kX11_taken rfl rfl ?_
                                refine fz_icmp_ne (tgt := 92) kX11_taken rfl (by decide) (fun c193 => ?_) (fun c193 => ?_)
                                · exfalso; omega
                                · refine fz_iload_n kX11_taken rfl rfl ?_
                                  refine fz_goto (tgt := 94) kX11_taken rfl (by decide) ?_
                                  have k194 : 10 ≤ h 83 s.toNat → (h 81 (((h 83 (s.toNat)) - 10).toNat)) = fz_tk (h 81 (h 83 s.toNat - 10).toNat) k := by intro z1; first | exact fz_tk_n (by unfold fz_un; omega) | exact fz_tk_y (by omega) (by unfold fz_un; omega)
                                  exact fz_iret kX11_taken rfl rfl (fun _ => ⟨rfl, _, rfl, (by omega), (by omega)⟩)
                              · refine fz_iload kX11_taken rfl rfl ?_
                                refine fz_if_le (tgt := 82) kX11_taken rfl (by decide) (fun c196 => ?_) (fun c196 => ?_)
                                · refine fz_iload kX11_taken rfl rfl ?_
                                  refine fz_iload_n kX11_taken rfl rfl ?_
                                  refine fz_icmp_ne (tgt := 92) kX11_taken rfl (by decide) (fun c197 => ?_) (fun c197 => ?_)
                                  · refine fz_bipush ⟨by decide, by decide⟩ kX11_taken rfl ?_
                                    have k198 : 10 ≤ h 83 s.toNat → (-12) = fz_tk (h 81 (h 83 s.toNat - 10).toNat) k := by intro z1; first | exact fz_tk_n (by unfold fz_un; omega) | exact fz_tk_y (by omega) (by unfold fz_un; omega)
                                    exact fz_iret kX11_taken rfl rfl (fun _ => ⟨rfl, _, rfl, (by omega), (by omega)⟩)
                                  · refine fz_iload_n kX11_taken rfl rfl ?_
                                    refine fz_goto (tgt := 94) kX11_taken rfl (by decide) ?_
                                    have k200 : 10 ≤ h 83 s.toNat → (h 81 (((h 83 (s.toNat)) - 10).toNat)) = fz_tk (h 81 (h 83 s.toNat - 10).toNat) k := by intro z1; first | exact fz_tk_n (by unfold fz_un; omega) | exact fz_tk_y (by omega) (by unfold fz_un; omega)
                                    exact fz_iret kX11_taken rfl rfl (fun _ => ⟨rfl, _, rfl, (by omega), (by omega)⟩)
                                · exfalso; omega
                · refine fz_eqi c33 ?_
                  refine fz_istore (ls' := [(4, fz_i 6), (3, fz_i (h 81 (((h 83 (s.toNat)) - 10).toNat))), (0, fz_r 53), (1, fz_i s), (2, fz_i k)]) kX11_taken rfl (by decide) rfl ?_
                  refine fz_iload kX11_taken rfl rfl ?_
                  refine fz_iload_n kX11_taken rfl rfl ?_
                  refine fz_icmp_eq (tgt := 82) kX11_taken rfl (by decide) (fun c202 => ?_) (fun c202 => ?_)
                  · refine fz_iload kX11_taken rfl rfl ?_
                    refine fz_iload_n kX11_taken rfl rfl ?_
                    refine fz_icmp_ne (tgt := 92) kX11_taken rfl (by decide) (fun c203 => ?_) (fun c203 => ?_)
                    · exfalso; omega
                    · refine fz_iload_n kX11_taken rfl rfl ?_
                      refine fz_goto (tgt := 94) kX11_taken rfl (by decide) ?_
                      have k204 : 10 ≤ h 83 s.toNat → (h 81 (((h 83 (s.toNat)) - 10).toNat)) = fz_tk (h 81 (h 83 s.toNat - 10).toNat) k := by intro z1; first | exact fz_tk_n (by unfold fz_un; omega) | exact fz_tk_y (by omega) (by unfold fz_un; omega)
                      exact fz_iret kX11_taken rfl rfl (fun _ => ⟨rfl, _, rfl, (by omega), (by omega)⟩)
                  · refine fz_iload kX11_taken rfl rfl ?_
                    refine fz_if_le (tgt := 82) kX11_taken rfl (by decide) (fun c206 => ?_) (fun c206 => ?_)
                    · exfalso; omega
                    · refine fz_iload kX11_taken rfl rfl ?_
                      refine fz_callS (d' := 0) (M' := mX11_above) (As := [fz_i 6]) (st := []) kX11_taken rfl rfl vX11_above rfl rfl (Nat.le_of_ble_eq_true rfl) (Nat.le_of_ble_eq_true rfl) (by decide) (sX11_above_6 h hI  ) (fun H207 r208 q209 o210 => ?_)
                      obtain ⟨e211, y213, rfl, f212⟩ := q209
                      subst H207
                      clear o210
                      refine fz_eqi (show y213 = 0 by omega) ?_
                      refine fz_istore (ls' := [(4, fz_i 0), (3, fz_i (h 81 (((h 83 (s.toNat)) - 10).toNat))), (0, fz_r 53), (1, fz_i s), (2, fz_i k)]) kX11_taken rfl (by decide) rfl ?_
                      refine fz_goto (tgt := 61) kX11_taken rfl (by decide) ?_
                      refine fz_iload kX11_taken rfl rfl ?_
                      refine fz_iload_n kX11_taken rfl rfl ?_
                      refine fz_icmp_eq (tgt := 82) kX11_taken rfl (by decide) (fun c214 => ?_) (fun c214 => ?_)
                      · refine fz_iload kX11_taken rfl rfl ?_
                        refine fz_iload_n kX11_taken rfl rfl ?_
                        refine fz_icmp_ne (tgt := 92) kX11_taken rfl (by decide) (fun c215 => ?_) (fun c215 => ?_)
                        · exfalso; omega
                        · refine fz_iload_n kX11_taken rfl rfl ?_
                          refine fz_goto (tgt := 94) kX11_taken rfl (by decide) ?_
                          have k216 : 10 ≤ h 83 s.toNat → (h 81 (((h 83 (s.toNat)) - 10).toNat)) = fz_tk (h 81 (h 83 s.toNat - 10).toNat) k := by intro z1; first | exact fz_tk_n (by unfold fz_un; omega) | exact fz_tk_y (by omega) (by unfold fz_un; omega)
                          exact fz_iret kX11_taken rfl rfl (fun _ => ⟨rfl, _, rfl, (by omega), (by omega)⟩)
                      · refine fz_iload kX11_taken rfl rfl ?_
                        refine fz_if_le (tgt := 82) kX11_taken rfl (by decide) (fun c218 => ?_) (fun c218 => ?_)
                        · refine fz_iload kX11_taken rfl rfl ?_
                          refine fz_iload_n kX11_taken rfl rfl ?_
                          refine fz_icmp_ne (tgt := 92) kX11_taken rfl (by decide) (fun c219 => ?_) (fun c219 => ?_)
                          · refine fz_bipush ⟨by decide, by decide⟩ kX11_taken rfl ?_
                            have k220 : 10 ≤ h 83 s.toNat → (-12) = fz_tk (h 81 (h 83 s.toNat - 10).toNat) k := by intro z1; first | exact fz_tk_n (by unfold fz_un; omega) | exact fz_tk_y (by omega) (by unfold fz_un; omega)
                            exact fz_iret kX11_taken rfl rfl (fun _ => ⟨rfl, _, rfl, (by omega), (by omega)⟩)
                          · refine fz_iload_n kX11_taken rfl rfl ?_
                            refine fz_goto (tgt := 94) kX11_taken rfl (by decide) ?_
                            have k222 : 10 ≤ h 83 s.toNat → (h 81 (((h 83 (s.toNat)) - 10).toNat)) = fz_tk (h 81 (h 83 s.toNat - 10).toNat) k := by intro z1; first | exact fz_tk_n (by unfold fz_un; omega) | exact fz_tk_y (by omega) (by unfold fz_un; omega)
                            exact fz_iret kX11_taken rfl rfl (fun _ => ⟨rfl, _, rfl, (by omega), (by omega)⟩)
                        · exfalso; omega
                · refine fz_eqi c33 ?_
                  refine fz_istore (ls' := [(4, fz_i 7), (3, fz_i (h 81 (((h 83 (s.toNat)) - 10).toNat))), (0, fz_r 53), (1, fz_i s), (2, fz_i k)]) kX11_taken rfl (by decide) rfl ?_
                  refine fz_iload kX11_taken rfl rfl ?_
                  refine fz_iload_n kX11_taken rfl rfl ?_
                  refine fz_icmp_eq (tgt := 82) kX11_taken rfl (by decide) (fun c224 => ?_) (fun c224 => ?_)
                  · refine fz_iload kX11_taken rfl rfl ?_
                    refine fz_iload_n kX11_taken rfl rfl ?_
                    refine fz_icmp_ne (tgt := 92) kX11_taken rfl (by decide) (fun c225 => ?_) (fun c225 => ?_)
                    · exfalso; omega
                    · refine fz_iload_n kX11_taken rfl rfl ?_
                      refine fz_goto (tgt := 94) kX11_taken rfl (by decide) ?_
                      have k226 : 10 ≤ h 83 s.toNat → (h 81 (((h 83 (s.toNat)) - 10).toNat)) = fz_tk (h 81 (h 83 s.toNat - 10).toNat) k := by intro z1; first | exact fz_tk_n (by unfold fz_un; omega) | exact fz_tk_y (by omega) (by unfold fz_un; omega)
                      exact fz_iret kX11_taken rfl rfl (fun _ => ⟨rfl, _, rfl, (by omega), (by omega)⟩)
                  · refine fz_iload kX11_taken rfl rfl ?_
                    refine fz_if_le (tgt := 82) kX11_taken rfl (by decide) (fun c228 => ?_) (fun c228 => ?_)
                    · exfalso; omega
                    · refine fz_iload kX11_taken rfl rfl ?_
                      refine fz_callS (d' := 0) (M' := mX11_above) (As := [fz_i 7]) (st := []) kX11_taken rfl rfl vX11_above rfl rfl (Nat.le_of_ble_eq_true rfl) (Nat.le_of_ble_eq_true rfl) (by decide) (sX11_above_7 h hI  ) (fun H229 r230 q231 o232 => ?_)
                      obtain ⟨e233, y235, rfl, f234⟩ := q231
                      subst H229
                      clear o232
                      refine fz_eqi (show y235 = 4 by omega) ?_
                      refine fz_istore (ls' := [(4, fz_i 4), (3, fz_i (h 81 (((h 83 (s.toNat)) - 10).toNat))), (0, fz_r 53), (1, fz_i s), (2, fz_i k)]) kX11_taken rfl (by decide) rfl ?_
                      refine fz_goto (tgt := 61) kX11_taken rfl (by decide) ?_
                      refine fz_iload kX11_taken rfl rfl ?_
                      refine fz_iload_n kX11_taken rfl rfl ?_
                      refine fz_icmp_eq (tgt := 82) kX11_taken rfl (by decide) (fun c236 => ?_) (fun c236 => ?_)
                      · refine fz_iload kX11_taken rfl rfl ?_
                        refine fz_iload_n kX11_taken rfl rfl ?_
                        refine fz_icmp_ne (tgt := 92) kX11_taken rfl (by decide) (fun c237 => ?_) (fun c237 => ?_)
                        · exfalso; omega
                        · refine fz_iload_n kX11_taken rfl rfl ?_
                          refine fz_goto (tgt := 94) kX11_taken rfl (by decide) ?_
                          have k238 : 10 ≤ h 83 s.toNat → (h 81 (((h 83 (s.toNat)) - 10).toNat)) = fz_tk (h 81 (h 83 s.toNat - 10).toNat) k := by intro z1; first | exact fz_tk_n (by unfold fz_un; omega) | exact fz_tk_y (by omega) (by unfold fz_un; omega)
                          exact fz_iret kX11_taken rfl rfl (fun _ => ⟨rfl, _, rfl, (by omega), (by omega)⟩)
                      · refine fz_iload kX11_taken rfl rfl ?_
                        refine fz_if_le (tgt := 82) kX11_taken rfl (by decide) (fun c240 => ?_) (fun c240 => ?_)
                        · exfalso; omega
                        · refine fz_iload kX11_taken rfl rfl ?_
                          refine fz_callS (d' := 0) (M' := mX11_above) (As := [fz_i 4]) (st := []) kX11_taken rfl rfl vX11_above rfl rfl (Nat.le_of_ble_eq_true rfl) (Nat.le_of_ble_eq_true rfl) (by decide) (sX11_above_4 h hI  ) (fun H241 r242 q243 o244 => ?_)
                          obtain ⟨e245, y247, rfl, f246⟩ := q243
                          subst H241
                          clear o244
                          refine fz_eqi (show y247 = 1 by omega) ?_
                          refine fz_istore (ls' := [(4, fz_i 1), (3, fz_i (h 81 (((h 83 (s.toNat)) - 10).toNat))), (0, fz_r 53), (1, fz_i s), (2, fz_i k)]) kX11_taken rfl (by decide) rfl ?_
                          refine fz_goto (tgt := 61) kX11_taken rfl (by decide) ?_
                          refine fz_iload kX11_taken rfl rfl ?_
                          refine fz_iload_n kX11_taken rfl rfl ?_
                          refine fz_icmp_eq (tgt := 82) kX11_taken rfl (by decide) (fun c248 => ?_) (fun c248 => ?_)
                          · refine fz_iload kX11_taken rfl rfl ?_
                            refine fz_iload_n kX11_taken rfl rfl ?_
                            refine fz_icmp_ne (tgt := 92) kX11_taken rfl (by decide) (fun c249 => ?_) (fun c249 => ?_)
                            · exfalso; omega
                            · refine fz_iload_n kX11_taken rfl rfl ?_
                              refine fz_goto (tgt := 94) kX11_taken rfl (by decide) ?_
                              have k250 : 10 ≤ h 83 s.toNat → (h 81 (((h 83 (s.toNat)) - 10).toNat)) = fz_tk (h 81 (h 83 s.toNat - 10).toNat) k := by intro z1; first | exact fz_tk_n (by unfold fz_un; omega) | exact fz_tk_y (by omega) (by unfold fz_un; omega)
                              exact fz_iret kX11_taken rfl rfl (fun _ => ⟨rfl, _, rfl, (by omega), (by omega)⟩)
                          · refine fz_iload kX11_taken rfl rfl ?_
                            refine fz_if_le (tgt := 82) kX11_taken rfl (by decide) (fun c252 => ?_) (fun c252 => ?_)
                            · exfalso; omega
                            · refine fz_iload kX11_taken rfl rfl ?_
                              refine fz_callS (d' := 0) (M' := mX11_above) (As := [fz_i 1]) (st := []) kX11_taken rfl rfl vX11_above rfl rfl (Nat.le_of_ble_eq_true rfl) (Nat.le_of_ble_eq_true rfl) (by decide) (sX11_above_1 h hI  ) (fun H253 r254 q255 o256 => ?_)
                              obtain ⟨e257, y259, rfl, f258⟩ := q255
                              subst H253
                              clear o256
                              refine fz_eqi (show y259 = 0 by omega) ?_
                              refine fz_istore (ls' := [(4, fz_i 0), (3, fz_i (h 81 (((h 83 (s.toNat)) - 10).toNat))), (0, fz_r 53), (1, fz_i s), (2, fz_i k)]) kX11_taken rfl (by decide) rfl ?_
                              refine fz_goto (tgt := 61) kX11_taken rfl (by decide) ?_
                              refine fz_iload kX11_taken rfl rfl ?_
                              refine fz_iload_n kX11_taken rfl rfl ?_
                              refine fz_icmp_eq (tgt := 82) kX11_taken rfl (by decide) (fun c260 => ?_) (fun c260 => ?_)
                              · refine fz_iload kX11_taken rfl rfl ?_
                                refine fz_iload_n kX11_taken rfl rfl ?_
                                refine fz_icmp_ne (tgt := 92) kX11_taken rfl (by decide) (fun c261 => ?_) (fun c261 => ?_)
                                · exfalso; omega
                                · refine fz_iload_n kX11_taken rfl rfl ?_
                                  refine fz_goto (tgt := 94) kX11_taken rfl (by decide) ?_
                                  have k262 : 10 ≤ h 83 s.toNat → (h 81 (((h 83 (s.toNat)) - 10).toNat)) = fz_tk (h 81 (h 83 s.toNat - 10).toNat) k := by intro z1; first | exact fz_tk_n (by unfold fz_un; omega) | exact fz_tk_y (by omega) (by unfold fz_un; omega)
                                  exact fz_iret kX11_taken rfl rfl (fun _ => ⟨rfl, _, rfl, (by omega), (by omega)⟩)
                              · refine fz_iload kX11_taken rfl rfl ?_
                                refine fz_if_le (tgt := 82) kX11_taken rfl (by decide) (fun c264 => ?_) (fun c264 => ?_)
                                · refine fz_iload kX11_taken rfl rfl ?_
                                  refine fz_iload_n kX11_taken rfl rfl ?_
                                  refine fz_icmp_ne (tgt := 92) kX11_taken rfl (by decide) (fun c265 => ?_) (fun c265 => ?_)
                                  · refine fz_bipush ⟨by decide, by decide⟩ kX11_taken rfl ?_
                                    have k266 : 10 ≤ h 83 s.toNat → (-12) = fz_tk (h 81 (h 83 s.toNat - 10).toNat) k := by intro z1; first | exact fz_tk_n (by unfold fz_un; omega) | exact fz_tk_y (by omega) (by unfold fz_un; omega)
                                    exact fz_iret kX11_taken rfl rfl (fun _ => ⟨rfl, _, rfl, (by omega), (by omega)⟩)
                                  · refine fz_iload_n kX11_taken rfl rfl ?_
                                    refine fz_goto (tgt := 94) kX11_taken rfl (by decide) ?_
                                    have k268 : 10 ≤ h 83 s.toNat → (h 81 (((h 83 (s.toNat)) - 10).toNat)) = fz_tk (h 81 (h 83 s.toNat - 10).toNat) k := by intro z1; first | exact fz_tk_n (by unfold fz_un; omega) | exact fz_tk_y (by omega) (by unfold fz_un; omega)
                                    exact fz_iret kX11_taken rfl rfl (fun _ => ⟨rfl, _, rfl, (by omega), (by omega)⟩)
                                · exfalso; omega
              · exfalso; omega
          · refine fz_bipush ⟨by decide, by decide⟩ kX11_taken rfl ?_
            exact fz_iret kX11_taken rfl rfl (fun _ => ⟨rfl, _, rfl, (by omega), (by omega)⟩)
        · exfalso; omega
      · refine fz_if_ne (tgt := 19) kX11_taken rfl (by decide) (fun c270 => ?_) (fun c270 => ?_)
        · exfalso; omega
        · refine fz_iconst ⟨by decide, by decide⟩ kX11_taken rfl ?_
          exact fz_iret kX11_taken rfl rfl (fun _ => ⟨rfl, _, rfl, (by omega), (by omega)⟩)
  · refine fz_if_eq (tgt := 17) kX11_taken rfl (by decide) (fun c271 => ?_) (fun c271 => ?_)
    · refine fz_iconst ⟨by decide, by decide⟩ kX11_taken rfl ?_
      exact fz_iret kX11_taken rfl rfl (fun _ => ⟨rfl, _, rfl, (by omega), (by omega)⟩)
    · exfalso; omega
