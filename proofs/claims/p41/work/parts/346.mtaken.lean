/-! ===== what the methods keep ===== -/
abbrev qX11_taken_x (h : fz_H) (s k : Int) : fz_H → Option fz_V → Prop := fun h' r0 => h' = h ∧ ∃ r : Int, r0 = some (fz_i r) ∧ ((-12) ≤ r ∧ r ≤ 7) ∧ ((¬ (0 ≤ s ∧ s ≤ 5 ∧ 0 ≤ k ∧ k ≤ 7) ∧ r = -1) ∨ ((0 ≤ s ∧ s ≤ 5 ∧ 0 ≤ k ∧ k ≤ 7) ∧ h 83 s.toNat = -1 ∧ r = -11) ∨ ((0 ≤ s ∧ s ≤ 5 ∧ 0 ≤ k ∧ k ≤ 7) ∧ (0 ≤ h 83 s.toNat ∧ h 83 s.toNat ≤ 4) ∧ r = -12) ∨ ((0 ≤ s ∧ s ≤ 5 ∧ 0 ≤ k ∧ k ≤ 7) ∧ (4 < h 83 s.toNat ∧ h 83 s.toNat < 10)) ∨ ((0 ≤ s ∧ s ≤ 5 ∧ 0 ≤ k ∧ k ≤ 7) ∧ 10 ≤ h 83 s.toNat ∧ r = fz_tk (h 81 (h 83 s.toNat - 10).toNat) k))
set_option maxHeartbeats 1000000 in
set_option maxRecDepth 100000 in
theorem sX11_taken_x (h : fz_H) (hI : fz_Iv h) (s k : Int) (hXh : fz_Xh h) : fz_R 2 mX11_taken 0 [(0, fz_r 53), (1, fz_i s), (2, fz_i k)] [] h (qX11_taken_x h s k) := by
  refine fz_knowl (fun hk => ?_)
  have hr_s : -2147483648 ≤ s ∧ s < 2147483648 := hk _ (List.Mem.tail _ (List.Mem.head _))
  have hr_k : -2147483648 ≤ k ∧ k < 2147483648 := hk _ (List.Mem.tail _ (List.Mem.tail _ (List.Mem.head _)))
  clear hk
  refine fz_iload_n kX11_taken rfl rfl ?_
  refine fz_callS (d' := 1) (M' := mX11_isShelf) (As := [fz_i s]) (st := []) kX11_taken rfl rfl vX11_isShelf rfl rfl (Nat.le_of_ble_eq_true rfl) (Nat.le_of_ble_eq_true rfl) (by decide) (sX11_isShelf h hI s ) (fun H1 r2 q3 o4 => ?_)
  obtain ⟨e5, y6, rfl, p7⟩ := q3
  subst H1
  clear o4
  rcases p7 with ⟨rfl, c8⟩ | ⟨rfl, c8⟩
  · refine fz_if_eq (tgt := 17) kX11_taken rfl (by decide) (fun c9 => ?_) (fun c9 => ?_)
    · exfalso; omega
    · refine fz_iload_n kX11_taken rfl rfl ?_
      refine fz_iconst ⟨by decide, by decide⟩ kX11_taken rfl ?_
      refine fz_bipush ⟨by decide, by decide⟩ kX11_taken rfl ?_
      refine fz_callS (d' := 0) (M' := mX11_within) (As := [fz_i k, fz_i 0, fz_i 7]) (st := []) kX11_taken rfl rfl vX11_within rfl rfl (Nat.le_of_ble_eq_true rfl) (Nat.le_of_ble_eq_true rfl) (by decide) (sX11_within h hI k 0 7 ) (fun H10 r11 q12 o13 => ?_)
      obtain ⟨e14, y15, rfl, p16⟩ := q12
      subst H10
      clear o13
      rcases p16 with ⟨rfl, c17⟩ | ⟨rfl, c17⟩
      · refine fz_if_ne (tgt := 19) kX11_taken rfl (by decide) (fun c18 => ?_) (fun c18 => ?_)
        · refine fz_aload_n kX11_taken rfl rfl ?_
          refine fz_getR (t := 83) kX11_taken rfl rfl ?_
          refine fz_iload_n kX11_taken rfl rfl ?_
          refine fz_ialdV (n := 6) (v := h 83 (s.toNat)) kX11_taken rfl rfl (by omega) (by omega) rfl ?_
          have b19 : (-1) ≤ h 83 (s.toNat) ∧ h 83 (s.toNat) ≤ 59 := hI.1 83 _
          refine fz_iconst ⟨by decide, by decide⟩ kX11_taken rfl ?_
          refine fz_icmp_ne (tgt := 32) kX11_taken rfl (by decide) (fun c20 => ?_) (fun c20 => ?_)
          · refine fz_aload_n kX11_taken rfl rfl ?_
            refine fz_iload_n kX11_taken rfl rfl ?_
            refine fz_callV (d' := 1) (M' := mX11_isRow) (As := [fz_i s]) (st := []) kX11_taken rfl rfl vX11_isRow rfl rfl rfl rfl (Nat.le_of_ble_eq_true rfl) (Nat.le_of_ble_eq_true rfl) (by decide) (sX11_isRow h hI s (by omega)) (fun H21 r22 q23 o24 => ?_)
            obtain ⟨e25, y26, rfl, p27⟩ := q23
            subst H21
            clear o24
            rcases p27 with ⟨rfl, c28⟩ | ⟨rfl, c28⟩
            · refine fz_if_eq (tgt := 43) kX11_taken rfl (by decide) (fun c29 => ?_) (fun c29 => ?_)
              · exfalso; omega
              · refine fz_bipush ⟨by decide, by decide⟩ kX11_taken rfl ?_
                exact fz_iret kX11_taken rfl rfl (fun _ => ⟨rfl, _, rfl, (by omega), (by omega)⟩)
            · refine fz_if_eq (tgt := 43) kX11_taken rfl (by decide) (fun c30 => ?_) (fun c30 => ?_)
              · have k31 := hXh s.toNat
                refine fz_aload_n kX11_taken rfl rfl ?_
                refine fz_getR (t := 81) kX11_taken rfl rfl ?_
                refine fz_aload_n kX11_taken rfl rfl ?_
                refine fz_getR (t := 83) kX11_taken rfl rfl ?_
                refine fz_iload_n kX11_taken rfl rfl ?_
                refine fz_ialdV (n := 6) (v := h 83 (s.toNat)) kX11_taken rfl rfl (by omega) (by omega) rfl ?_
                refine fz_bipush ⟨by decide, by decide⟩ kX11_taken rfl ?_
                refine fz_isubN kX11_taken rfl (by omega) ?_
                refine fz_ialdV (n := 50) (v := h 81 (((h 83 (s.toNat)) - 10).toNat)) kX11_taken rfl rfl (by omega) (by omega) rfl ?_
                have b32 : 0 ≤ h 81 (((h 83 (s.toNat)) - 10).toNat) ∧ h 81 (((h 83 (s.toNat)) - 10).toNat) ≤ 7 := hI.1 81 _
                refine fz_istore_n (ls' := [(3, fz_i (h 81 (((h 83 (s.toNat)) - 10).toNat))), (0, fz_r 53), (1, fz_i s), (2, fz_i k)]) kX11_taken rfl (by decide) rfl ?_
                refine fz_iload_n kX11_taken rfl rfl ?_
                rcases (show (h 81 (((h 83 (s.toNat)) - 10).toNat)) = 0 ∨ (h 81 (((h 83 (s.toNat)) - 10).toNat)) = 1 ∨ (h 81 (((h 83 (s.toNat)) - 10).toNat)) = 2 ∨ (h 81 (((h 83 (s.toNat)) - 10).toNat)) = 3 ∨ (h 81 (((h 83 (s.toNat)) - 10).toNat)) = 4 ∨ (h 81 (((h 83 (s.toNat)) - 10).toNat)) = 5 ∨ (h 81 (((h 83 (s.toNat)) - 10).toNat)) = 6 ∨ (h 81 (((h 83 (s.toNat)) - 10).toNat)) = 7 by omega) with c33 | c33 | c33 | c33 | c33 | c33 | c33 | c33
                · refine fz_eqi c33 ?_
                  refine fz_istore (ls' := [(4, fz_i 0), (3, fz_i (h 81 (((h 83 (s.toNat)) - 10).toNat))), (0, fz_r 53), (1, fz_i s), (2, fz_i k)]) kX11_taken rfl (by decide) rfl ?_
                  refine fz_iload kX11_taken rfl rfl ?_
                  refine fz_iload_n kX11_taken rfl rfl ?_
                  refine fz_icmp_eq (tgt := 82) kX11_taken rfl (by decide) (fun c34 => ?_) (fun c34 => ?_)
                  · refine fz_iload kX11_taken rfl rfl ?_
                    refine fz_iload_n kX11_taken rfl rfl ?_
                    refine fz_icmp_ne (tgt := 92) kX11_taken rfl (by decide) (fun c35 => ?_) (fun c35 => ?_)
                    · exfalso; omega
                    · refine fz_iload_n kX11_taken rfl rfl ?_
                      refine fz_goto (tgt := 94) kX11_taken rfl (by decide) ?_
                      have k36 : 10 ≤ h 83 s.toNat → (h 81 (((h 83 (s.toNat)) - 10).toNat)) = fz_tk (h 81 (h 83 s.toNat - 10).toNat) k := by intro z1; first | exact fz_tk_n (by unfold fz_un; omega) | exact fz_tk_y (by omega) (by unfold fz_un; omega)
                      exact fz_iret kX11_taken rfl rfl (fun _ => ⟨rfl, _, rfl, (by omega), (by omega)⟩)
                  · refine fz_iload kX11_taken rfl rfl ?_
                    refine fz_if_le (tgt := 82) kX11_taken rfl (by decide) (fun c37 => ?_) (fun c37 => ?_)
                    · refine fz_iload kX11_taken rfl rfl ?_
                      refine fz_iload_n kX11_taken rfl rfl ?_
                      refine fz_icmp_ne (tgt := 92) kX11_taken rfl (by decide) (fun c38 => ?_) (fun c38 => ?_)
                      · refine fz_bipush ⟨by decide, by decide⟩ kX11_taken rfl ?_
                        have k39 : 10 ≤ h 83 s.toNat → (-12) = fz_tk (h 81 (h 83 s.toNat - 10).toNat) k := by intro z1; first | exact fz_tk_n (by unfold fz_un; omega) | exact fz_tk_y (by omega) (by unfold fz_un; omega)
                        exact fz_iret kX11_taken rfl rfl (fun _ => ⟨rfl, _, rfl, (by omega), (by omega)⟩)
                      · refine fz_iload_n kX11_taken rfl rfl ?_
                        refine fz_goto (tgt := 94) kX11_taken rfl (by decide) ?_
                        have k40 : 10 ≤ h 83 s.toNat → (h 81 (((h 83 (s.toNat)) - 10).toNat)) = fz_tk (h 81 (h 83 s.toNat - 10).toNat) k := by intro z1; first | exact fz_tk_n (by unfold fz_un; omega) | exact fz_tk_y (by omega) (by unfold fz_un; omega)
                        exact fz_iret kX11_taken rfl rfl (fun _ => ⟨rfl, _, rfl, (by omega), (by omega)⟩)
                    · exfalso; omega
                · refine fz_eqi c33 ?_
                  refine fz_istore (ls' := [(4, fz_i 1), (3, fz_i (h 81 (((h 83 (s.toNat)) - 10).toNat))), (0, fz_r 53), (1, fz_i s), (2, fz_i k)]) kX11_taken rfl (by decide) rfl ?_
                  refine fz_iload kX11_taken rfl rfl ?_
                  refine fz_iload_n kX11_taken rfl rfl ?_
                  refine fz_icmp_eq (tgt := 82) kX11_taken rfl (by decide) (fun c41 => ?_) (fun c41 => ?_)
                  · refine fz_iload kX11_taken rfl rfl ?_
                    refine fz_iload_n kX11_taken rfl rfl ?_
                    refine fz_icmp_ne (tgt := 92) kX11_taken rfl (by decide) (fun c42 => ?_) (fun c42 => ?_)
                    · exfalso; omega
                    · refine fz_iload_n kX11_taken rfl rfl ?_
                      refine fz_goto (tgt := 94) kX11_taken rfl (by decide) ?_
                      have k43 : 10 ≤ h 83 s.toNat → (h 81 (((h 83 (s.toNat)) - 10).toNat)) = fz_tk (h 81 (h 83 s.toNat - 10).toNat) k := by intro z1; first | exact fz_tk_n (by unfold fz_un; omega) | exact fz_tk_y (by omega) (by unfold fz_un; omega)
                      exact fz_iret kX11_taken rfl rfl (fun _ => ⟨rfl, _, rfl, (by omega), (by omega)⟩)
                  · refine fz_iload kX11_taken rfl rfl ?_
                    refine fz_if_le (tgt := 82) kX11_taken rfl (by decide) (fun c44 => ?_) (fun c44 => ?_)
                    · exfalso; omega
                    · refine fz_iload kX11_taken rfl rfl ?_
                      refine fz_callS (d' := 0) (M' := mX11_above) (As := [fz_i 1]) (st := []) kX11_taken rfl rfl vX11_above rfl rfl (Nat.le_of_ble_eq_true rfl) (Nat.le_of_ble_eq_true rfl) (by decide) (sX11_above_1 h hI  ) (fun H45 r46 q47 o48 => ?_)
                      obtain ⟨e49, y51, rfl, f50⟩ := q47
                      subst H45
                      clear o48
                      refine fz_eqi (show y51 = 0 by omega) ?_
                      refine fz_istore (ls' := [(4, fz_i 0), (3, fz_i (h 81 (((h 83 (s.toNat)) - 10).toNat))), (0, fz_r 53), (1, fz_i s), (2, fz_i k)]) kX11_taken rfl (by decide) rfl ?_
                      refine fz_goto (tgt := 61) kX11_taken rfl (by decide) ?_
                      refine fz_iload kX11_taken rfl rfl ?_
                      refine fz_iload_n kX11_taken rfl rfl ?_
                      refine fz_icmp_eq (tgt := 82) kX11_taken rfl (by decide) (fun c52 => ?_) (fun c52 => ?_)
                      · refine fz_iload kX11_taken rfl rfl ?_
                        refine fz_iload_n kX11_taken rfl rfl ?_
                        refine fz_icmp_ne (tgt := 92) kX11_taken rfl (by decide) (fun c53 => ?_) (fun c53 => ?_)
                        · exfalso; omega
                        · refine fz_iload_n kX11_taken rfl rfl ?_
                          refine fz_goto (tgt := 94) kX11_taken rfl (by decide) ?_
                          have k54 : 10 ≤ h 83 s.toNat → (h 81 (((h 83 (s.toNat)) - 10).toNat)) = fz_tk (h 81 (h 83 s.toNat - 10).toNat) k := by intro z1; first | exact fz_tk_n (by unfold fz_un; omega) | exact fz_tk_y (by omega) (by unfold fz_un; omega)
                          exact fz_iret kX11_taken rfl rfl (fun _ => ⟨rfl, _, rfl, (by omega), (by omega)⟩)
                      · refine fz_iload kX11_taken rfl rfl ?_
                        refine fz_if_le (tgt := 82) kX11_taken rfl (by decide) (fun c55 => ?_) (fun c55 => ?_)
                        · refine fz_iload kX11_taken rfl rfl ?_
                          refine fz_iload_n kX11_taken rfl rfl ?_
                          refine fz_icmp_ne (tgt := 92) kX11_taken rfl (by decide) (fun c56 => ?_) (fun c56 => ?_)
                          · refine fz_bipush ⟨by decide, by decide⟩ kX11_taken rfl ?_
                            have k57 : 10 ≤ h 83 s.toNat → (-12) = fz_tk (h 81 (h 83 s.toNat - 10).toNat) k := by intro z1; first | exact fz_tk_n (by unfold fz_un; omega) | exact fz_tk_y (by omega) (by unfold fz_un; omega)
                            exact fz_iret kX11_taken rfl rfl (fun _ => ⟨rfl, _, rfl, (by omega), (by omega)⟩)
                          · refine fz_iload_n kX11_taken rfl rfl ?_
                            refine fz_goto (tgt := 94) kX11_taken rfl (by decide) ?_
                            have k58 : 10 ≤ h 83 s.toNat → (h 81 (((h 83 (s.toNat)) - 10).toNat)) = fz_tk (h 81 (h 83 s.toNat - 10).toNat) k := by intro z1; first | exact fz_tk_n (by unfold fz_un; omega) | exact fz_tk_y (by omega) (by unfold fz_un; omega)
                            exact fz_iret kX11_taken rfl rfl (fun _ => ⟨rfl, _, rfl, (by omega), (by omega)⟩)
                        · exfalso; omega
                · refine fz_eqi c33 ?_
                  refine fz_istore (ls' := [(4, fz_i 2), (3, fz_i (h 81 (((h 83 (s.toNat)) - 10).toNat))), (0, fz_r 53), (1, fz_i s), (2, fz_i k)]) kX11_taken rfl (by decide) rfl ?_
                  refine fz_iload kX11_taken rfl rfl ?_
                  refine fz_iload_n kX11_taken rfl rfl ?_
                  refine fz_icmp_eq (tgt := 82) kX11_taken rfl (by decide) (fun c59 => ?_) (fun c59 => ?_)
                  · refine fz_iload kX11_taken rfl rfl ?_
                    refine fz_iload_n kX11_taken rfl rfl ?_
                    refine fz_icmp_ne (tgt := 92) kX11_taken rfl (by decide) (fun c60 => ?_) (fun c60 => ?_)
                    · exfalso; omega
                    · refine fz_iload_n kX11_taken rfl rfl ?_
                      refine fz_goto (tgt := 94) kX11_taken rfl (by decide) ?_
                      have k61 : 10 ≤ h 83 s.toNat → (h 81 (((h 83 (s.toNat)) - 10).toNat)) = fz_tk (h 81 (h 83 s.toNat - 10).toNat) k := by intro z1; first | exact fz_tk_n (by unfold fz_un; omega) | exact fz_tk_y (by omega) (by unfold fz_un; omega)
                      exact fz_iret kX11_taken rfl rfl (fun _ => ⟨rfl, _, rfl, (by omega), (by omega)⟩)
                  · refine fz_iload kX11_taken rfl rfl ?_
                    refine fz_if_le (tgt := 82) kX11_taken rfl (by decide) (fun c62 => ?_) (fun c62 => ?_)
                    · exfalso; omega
                    · refine fz_iload kX11_taken rfl rfl ?_
                      refine fz_callS (d' := 0) (M' := mX11_above) (As := [fz_i 2]) (st := []) kX11_taken rfl rfl vX11_above rfl rfl (Nat.le_of_ble_eq_true rfl) (Nat.le_of_ble_eq_true rfl) (by decide) (sX11_above_2 h hI  ) (fun H63 r64 q65 o66 => ?_)
                      obtain ⟨e67, y69, rfl, f68⟩ := q65
                      subst H63
                      clear o66
                      refine fz_eqi (show y69 = 0 by omega) ?_
                      refine fz_istore (ls' := [(4, fz_i 0), (3, fz_i (h 81 (((h 83 (s.toNat)) - 10).toNat))), (0, fz_r 53), (1, fz_i s), (2, fz_i k)]) kX11_taken rfl (by decide) rfl ?_
                      refine fz_goto (tgt := 61) kX11_taken rfl (by decide) ?_
                      refine fz_iload kX11_taken rfl rfl ?_
                      refine fz_iload_n kX11_taken rfl rfl ?_
                      refine fz_icmp_eq (tgt := 82) kX11_taken rfl (by decide) (fun c70 => ?_) (fun c70 => ?_)
                      · refine fz_iload kX11_taken rfl rfl ?_
                        refine fz_iload_n kX11_taken rfl rfl ?_
                        refine fz_icmp_ne (tgt := 92) kX11_taken rfl (by decide) (fun c71 => ?_) (fun c71 => ?_)
                        · exfalso; omega
                        · refine fz_iload_n kX11_taken rfl rfl ?_
                          refine fz_goto (tgt := 94) kX11_taken rfl (by decide) ?_
                          have k72 : 10 ≤ h 83 s.toNat → (h 81 (((h 83 (s.toNat)) - 10).toNat)) = fz_tk (h 81 (h 83 s.toNat - 10).toNat) k := by intro z1; first | exact fz_tk_n (by unfold fz_un; omega) | exact fz_tk_y (by omega) (by unfold fz_un; omega)
                          exact fz_iret kX11_taken rfl rfl (fun _ => ⟨rfl, _, rfl, (by omega), (by omega)⟩)
                      · refine fz_iload kX11_taken rfl rfl ?_
                        refine fz_if_le (tgt := 82) kX11_taken rfl (by decide) (fun c73 => ?_) (fun c73 => ?_)
                        · refine fz_iload kX11_taken rfl rfl ?_
                          refine fz_iload_n kX11_taken rfl rfl ?_
                          refine fz_icmp_ne (tgt := 92) kX11_taken rfl (by decide) (fun c74 => ?_) (fun c74 => ?_)
                          · refine fz_bipush ⟨by decide, by decide⟩ kX11_taken rfl ?_
                            have k75 : 10 ≤ h 83 s.toNat → (-12) = fz_tk (h 81 (h 83 s.toNat - 10).toNat) k := by intro z1; first | exact fz_tk_n (by unfold fz_un; omega) | exact fz_tk_y (by omega) (by unfold fz_un; omega)
                            exact fz_iret kX11_taken rfl rfl (fun _ => ⟨rfl, _, rfl, (by omega), (by omega)⟩)
                          · refine fz_iload_n kX11_taken rfl rfl ?_
                            refine fz_goto (tgt := 94) kX11_taken rfl (by decide) ?_
                            have k76 : 10 ≤ h 83 s.toNat → (h 81 (((h 83 (s.toNat)) - 10).toNat)) = fz_tk (h 81 (h 83 s.toNat - 10).toNat) k := by intro z1; first | exact fz_tk_n (by unfold fz_un; omega) | exact fz_tk_y (by omega) (by unfold fz_un; omega)
                            exact fz_iret kX11_taken rfl rfl (fun _ => ⟨rfl, _, rfl, (by omega), (by omega)⟩)
                        · exfalso; omega
                · refine fz_eqi c33 ?_
                  refine fz_istore (ls' := [(4, fz_i 3), (3, fz_i (h 81 (((h 83 (s.toNat)) - 10).toNat))), (0, fz_r 53), (1, fz_i s), (2, fz_i k)]) kX11_taken rfl (by decide) rfl ?_
                  refine fz_iload kX11_taken rfl rfl ?_
                  refine fz_iload_n kX11_taken rfl rfl ?_
                  refine fz_icmp_eq (tgt := 82) kX11_taken rfl (by decide) (fun c77 => ?_) (fun c77 => ?_)
                  · refine fz_iload kX11_taken rfl rfl ?_
                    refine fz_iload_n kX11_taken rfl rfl ?_
                    refine fz_icmp_ne (tgt := 92) kX11_taken rfl (by decide) (fun c78 => ?_) (fun c78 => ?_)
                    · exfalso; omega
                    · refine fz_iload_n kX11_taken rfl rfl ?_
                      refine fz_goto (tgt := 94) kX11_taken rfl (by decide) ?_
                      have k79 : 10 ≤ h 83 s.toNat → (h 81 (((h 83 (s.toNat)) - 10).toNat)) = fz_tk (h 81 (h 83 s.toNat - 10).toNat) k := by intro z1; first | exact fz_tk_n (by unfold fz_un; omega) | exact fz_tk_y (by omega) (by unfold fz_un; omega)
                      exact fz_iret kX11_taken rfl rfl (fun _ => ⟨rfl, _, rfl, (by omega), (by omega)⟩)
                  · refine fz_iload kX11_taken rfl rfl ?_
                    refine fz_if_le (tgt := 82) kX11_taken rfl (by decide) (fun c80 => ?_) (fun c80 => ?_)
                    · exfalso; omega
                    · refine fz_iload kX11_taken rfl rfl ?_
                      refine fz_callS (d' := 0) (M' := mX11_above) (As := [fz_i 3]) (st := []) kX11_taken rfl rfl vX11_above rfl rfl (Nat.le_of_ble_eq_true rfl) (Nat.le_of_ble_eq_true rfl) (by decide) (sX11_above_3 h hI  ) (fun H81 r82 q83 o84 => ?_)
                      obtain ⟨e85, y87, rfl, f86⟩ := q83
                      subst H81
                      clear o84
                      refine fz_eqi (show y87 = 2 by omega) ?_
                      refine fz_istore (ls' := [(4, fz_i 2), (3, fz_i (h 81 (((h 83 (s.toNat)) - 10).toNat))), (0, fz_r 53), (1, fz_i s), (2, fz_i k)]) kX11_taken rfl (by decide) rfl ?_
                      refine fz_goto (tgt := 61) kX11_taken rfl (by decide) ?_
                      refine fz_iload kX11_taken rfl rfl ?_
                      refine fz_iload_n kX11_taken rfl rfl ?_
                      refine fz_icmp_eq (tgt := 82) kX11_taken rfl (by decide) (fun c88 => ?_) (fun c88 => ?_)
                      · refine fz_iload kX11_taken rfl rfl ?_
                        refine fz_iload_n kX11_taken rfl rfl ?_
                        refine fz_icmp_ne (tgt := 92) kX11_taken rfl (by decide) (fun c89 => ?_) (fun c89 => ?_)
                        · exfalso; omega
                        · refine fz_iload_n kX11_taken rfl rfl ?_
                          refine fz_goto (tgt := 94) kX11_taken rfl (by decide) ?_
                          have k90 : 10 ≤ h 83 s.toNat → (h 81 (((h 83 (s.toNat)) - 10).toNat)) = fz_tk (h 81 (h 83 s.toNat - 10).toNat) k := by intro z1; first | exact fz_tk_n (by unfold fz_un; omega) | exact fz_tk_y (by omega) (by unfold fz_un; omega)
                          exact fz_iret kX11_taken rfl rfl (fun _ => ⟨rfl, _, rfl, (by omega), (by omega)⟩)
                      · refine fz_iload kX11_taken rfl rfl ?_
                        refine fz_if_le (tgt := 82) kX11_taken rfl (by decide) (fun c91 => ?_) (fun c91 => ?_)
                        · exfalso; omega
                        · refine fz_iload kX11_taken rfl rfl ?_
                          refine fz_callS (d' := 0) (M' := mX11_above) (As := [fz_i 2]) (st := []) kX11_taken rfl rfl vX11_above rfl rfl (Nat.le_of_ble_eq_true rfl) (Nat.le_of_ble_eq_true rfl) (by decide) (sX11_above_2 h hI  ) (fun H92 r93 q94 o95 => ?_)
                          obtain ⟨e96, y98, rfl, f97⟩ := q94
                          subst H92
                          clear o95
                          refine fz_eqi (show y98 = 0 by omega) ?_
                          refine fz_istore (ls' := [(4, fz_i 0), (3, fz_i (h 81 (((h 83 (s.toNat)) - 10).toNat))), (0, fz_r 53), (1, fz_i s), (2, fz_i k)]) kX11_taken rfl (by decide) rfl ?_
                          refine fz_goto (tgt := 61) kX11_taken rfl (by decide) ?_
                          refine fz_iload kX11_taken rfl rfl ?_
                          refine fz_iload_n kX11_taken rfl rfl ?_
                          refine fz_icmp_eq (tgt := 82) kX11_taken rfl (by decide) (fun c99 => ?_) (fun c99 => ?_)
                          · refine fz_iload kX11_taken rfl rfl ?_
                            refine fz_iload_n kX11_taken rfl rfl ?_
                            refine fz_icmp_ne (tgt := 92) kX11_taken rfl (by decide) (fun c100 => ?_) (fun c100 => ?_)
                            · exfalso; omega
                            · refine fz_iload_n kX11_taken rfl rfl ?_
                              refine fz_goto (tgt := 94) kX11_taken rfl (by decide) ?_
                              have k101 : 10 ≤ h 83 s.toNat → (h 81 (((h 83 (s.toNat)) - 10).toNat)) = fz_tk (h 81 (h 83 s.toNat - 10).toNat) k := by intro z1; first | exact fz_tk_n (by unfold fz_un; omega) | exact fz_tk_y (by omega) (by unfold fz_un; omega)
                              exact fz_iret kX11_taken rfl rfl (fun _ => ⟨rfl, _, rfl, (by omega), (by omega)⟩)
                          · refine fz_iload kX11_taken rfl rfl ?_
                            refine fz_if_le (tgt := 82) kX11_taken rfl (by decide) (fun c102 => ?_) (fun c102 => ?_)
                            · refine fz_iload kX11_taken rfl rfl ?_
                              refine fz_iload_n kX11_taken rfl rfl ?_
                              refine fz_icmp_ne (tgt := 92) kX11_taken rfl (by decide) (fun c103 => ?_) (fun c103 => ?_)
                              · refine fz_bipush ⟨by decide, by decide⟩ kX11_taken rfl ?_
                                have k104 : 10 ≤ h 83 s.toNat → (-12) = fz_tk (h 81 (h 83 s.toNat - 10).toNat) k := by intro z1; first | exact fz_tk_n (by unfold fz_un; omega) | exact fz_tk_y (by omega) (by unfold fz_un; omega)
                                exact fz_iret kX11_taken rfl rfl (fun _ => ⟨rfl, _, rfl, (by omega), (by omega)⟩)
                              · refine fz_iload_n kX11_taken rfl rfl ?_
                                refine fz_goto (tgt := 94) kX11_taken rfl (by decide) ?_
                                have k105 : 10 ≤ h 83 s.toNat → (h 81 (((h 83 (s.toNat)) - 10).toNat)) = fz_tk (h 81 (h 83 s.toNat - 10).toNat) k := by intro z1; first | exact fz_tk_n (by unfold fz_un; omega) | exact fz_tk_y (by omega) (by unfold fz_un; omega)
                                exact fz_iret kX11_taken rfl rfl (fun _ => ⟨rfl, _, rfl, (by omega), (by omega)⟩)
                            · exfalso; omega
                · refine fz_eqi c33 ?_
                  refine fz_istore (ls' := [(4, fz_i 4), (3, fz_i (h 81 (((h 83 (s.toNat)) - 10).toNat))), (0, fz_r 53), (1, fz_i s), (2, fz_i k)]) kX11_taken rfl (by decide) rfl ?_
                  refine fz_iload kX11_taken rfl rfl ?_
                  refine fz_iload_n kX11_taken rfl rfl ?_
                  refine fz_icmp_eq (tgt := 82) kX11_taken rfl (by decide) (fun c106 => ?_) (fun c106 => ?_)
                  · refine fz_iload kX11_taken rfl rfl ?_
                    refine fz_iload_n kX11_taken rfl rfl ?_
                    refine fz_icmp_ne (tgt := 92) kX11_taken rfl (by decide) (fun c107 => ?_) (fun c107 => ?_)
                    · exfalso; omega
                    · refine fz_iload_n kX11_taken rfl rfl ?_
                      refine fz_goto (tgt := 94) kX11_taken rfl (by decide) ?_
                      have k108 : 10 ≤ h 83 s.toNat → (h 81 (((h 83 (s.toNat)) - 10).toNat)) = fz_tk (h 81 (h 83 s.toNat - 10).toNat) k := by intro z1; first | exact fz_tk_n (by unfold fz_un; omega) | exact fz_tk_y (by omega) (by unfold fz_un; omega)
                      exact fz_iret kX11_taken rfl rfl (fun _ => ⟨rfl, _, rfl, (by omega), (by omega)⟩)
                  · refine fz_iload kX11_taken rfl rfl ?_
                    refine fz_if_le (tgt := 82) kX11_taken rfl (by decide) (fun c109 => ?_) (fun c109 => ?_)
                    · exfalso; omega
                    · refine fz_iload kX11_taken rfl rfl ?_
                      refine fz_callS (d' := 0) (M' := mX11_above) (As := [fz_i 4]) (st := []) kX11_taken rfl rfl vX11_above rfl rfl (Nat.le_of_ble_eq_true rfl) (Nat.le_of_ble_eq_true rfl) (by decide) (sX11_above_4 h hI  ) (fun H110 r111 q112 o113 => ?_)
                      obtain ⟨e114, y116, rfl, f115⟩ := q112
                      subst H110
                      clear o113
                      refine fz_eqi (show y116 = 1 by omega) ?_
                      refine fz_istore (ls' := [(4, fz_i 1), (3, fz_i (h 81 (((h 83 (s.toNat)) - 10).toNat))), (0, fz_r 53), (1, fz_i s), (2, fz_i k)]) kX11_taken rfl (by decide) rfl ?_
                      refine fz_goto (tgt := 61) kX11_taken rfl (by decide) ?_
                      refine fz_iload kX11_taken rfl rfl ?_
                      refine fz_iload_n kX11_taken rfl rfl ?_
                      refine fz_icmp_eq (tgt := 82) kX11_taken rfl (by decide) (fun c117 => ?_) (fun c117 => ?_)
                      · refine fz_iload kX11_taken rfl rfl ?_
                        refine fz_iload_n kX11_taken rfl rfl ?_
                        refine fz_icmp_ne (tgt := 92) kX11_taken rfl (by decide) (fun c118 => ?_) (fun c118 => ?_)
                        · exfalso; omega
                        · refine fz_iload_n kX11_taken rfl rfl ?_
                          refine fz_goto (tgt := 94) kX11_taken rfl (by decide) ?_
                          have k119 : 10 ≤ h 83 s.toNat → (h 81 (((h 83 (s.toNat)) - 10).toNat)) = fz_tk (h 81 (h 83 s.toNat - 10).toNat) k := by intro z1; first | exact fz_tk_n (by unfold fz_un; omega) | exact fz_tk_y (by omega) (by unfold fz_un; omega)
                          exact fz_iret kX11_taken rfl rfl (fun _ => ⟨rfl, _, rfl, (by omega), (by omega)⟩)
                      · refine fz_iload kX11_taken rfl rfl ?_
                        refine fz_if_le (tgt := 82) kX11_taken rfl (by decide) (fun c120 => ?_) (fun c120 => ?_)
                        · exfalso; omega
                        · refine fz_iload kX11_taken rfl rfl ?_
                          refine fz_callS (d' := 0) (M' := mX11_above) (As := [fz_i 1]) (st := []) kX11_taken rfl rfl vX11_above rfl rfl (Nat.le_of_ble_eq_true rfl) (Nat.le_of_ble_eq_true rfl) (by decide) (sX11_above_1 h hI  ) (fun H121 r122 q123 o124 => ?_)
                          obtain ⟨e125, y127, rfl, f126⟩ := q123
                          subst H121
                          clear o124
                          refine fz_eqi (show y127 = 0 by omega) ?_
                          refine fz_istore (ls' := [(4, fz_i 0), (3, fz_i (h 81 (((h 83 (s.toNat)) - 10).toNat))), (0, fz_r 53), (1, fz_i s), (2, fz_i k)]) kX11_taken rfl (by decide) rfl ?_
                          refine fz_goto (tgt := 61) kX11_taken rfl (by decide) ?_
                          refine fz_iload kX11_taken rfl rfl ?_
                          refine fz_iload_n kX11_taken rfl rfl ?_
                          refine fz_icmp_eq (tgt := 82) kX11_taken rfl (by decide) (fun c128 => ?_) (fun c128 => ?_)
                          · refine fz_iload kX11_taken rfl rfl ?_
                            refine fz_iload_n kX11_taken rfl rfl ?_
                            refine fz_icmp_ne (tgt := 92) kX11_taken rfl (by decide) (fun c129 => ?_) (fun c129 => ?_)
                            · exfalso; omega
                            · refine fz_iload_n kX11_taken rfl rfl ?_
                              refine fz_goto (tgt := 94) kX11_taken rfl (by decide) ?_
                              have k130 : 10 ≤ h 83 s.toNat → (h 81 (((h 83 (s.toNat)) - 10).toNat)) = fz_tk (h 81 (h 83 s.toNat - 10).toNat) k := by intro z1; first | exact fz_tk_n (by unfold fz_un; omega) | exact fz_tk_y (by omega) (by unfold fz_un; omega)
                              exact fz_iret kX11_taken rfl rfl (fun _ => ⟨rfl, _, rfl, (by omega), (by omega)⟩)
                          · refine fz_iload kX11_taken rfl rfl ?_
                            refine fz_if_le (tgt := 82) kX11_taken rfl (by decide) (fun c131 => ?_) (fun c131 => ?_)
                            · refine fz_iload kX11_taken rfl rfl ?_
                              refine fz_iload_n kX11_taken rfl rfl ?_
                              refine fz_icmp_ne (tgt := 92) kX11_taken rfl (by decide) (fun c132 => ?_) (fun c132 => ?_)
                              · refine fz_bipush ⟨by decide, by decide⟩ kX11_taken rfl ?_
                                have k133 : 10 ≤ h 83 s.toNat → (-12) = fz_tk (h 81 (h 83 s.toNat - 10).toNat) k := by intro z1; first | exact fz_tk_n (by unfold fz_un; omega) | exact fz_tk_y (by omega) (by unfold fz_un; omega)
                                exact fz_iret kX11_taken rfl rfl (fun _ => ⟨rfl, _, rfl, (by omega), (by omega)⟩)
                              · refine fz_iload_n kX11_taken rfl rfl ?_
                                refine fz_goto (tgt := 94) kX11_taken rfl (by decide) ?_
                                have k134 : 10 ≤ h 83 s.toNat → (h 81 (((h 83 (s.toNat)) - 10).toNat)) = fz_tk (h 81 (h 83 s.toNat - 10).toNat) k := by intro z1; first | exact fz_tk_n (by unfold fz_un; omega) | exact fz_tk_y (by omega) (by unfold fz_un; omega)
                                exact fz_iret kX11_taken rfl rfl (fun _ => ⟨rfl, _, rfl, (by omega), (by omega)⟩)
                            · exfalso; omega
                · refine fz_eqi c33 ?_
                  refine fz_istore (ls' := [(4, fz_i 5), (3, fz_i (h 81 (((h 83 (s.toNat)) - 10).toNat))), (0, fz_r 53), (1, fz_i s), (2, fz_i k)]) kX11_taken rfl (by decide) rfl ?_
                  refine fz_iload kX11_taken rfl rfl ?_
                  refine fz_iload_n kX11_taken rfl rfl ?_
                  refine fz_icmp_eq (tgt := 82) kX11_taken rfl (by decide) (fun c135 => ?_) (fun c135 => ?_)
                  · refine fz_iload kX11_taken rfl rfl ?_
                    refine fz_iload_n kX11_taken rfl rfl ?_
                    refine fz_icmp_ne (tgt := 92) kX11_taken rfl (by decide) (fun c136 => ?_) (fun c136 => ?_)
                    · exfalso; omega
                    · refine fz_iload_n kX11_taken rfl rfl ?_
                      refine fz_goto (tgt := 94) kX11_taken rfl (by decide) ?_
                      have k137 : 10 ≤ h 83 s.toNat → (h 81 (((h 83 (s.toNat)) - 10).toNat)) = fz_tk (h 81 (h 83 s.toNat - 10).toNat) k := by intro z1; first | exact fz_tk_n (by unfold fz_un; omega) | exact fz_tk_y (by omega) (by unfold fz_un; omega)
                      exact fz_iret kX11_taken rfl rfl (fun _ => ⟨rfl, _, rfl, (by omega), (by omega)⟩)
                  · refine fz_iload kX11_taken rfl rfl ?_
                    refine fz_if_le (tgt := 82) kX11_taken rfl (by decide) (fun c138 => ?_) (fun c138 => ?_)
                    · exfalso; omega
                    · refine fz_iload kX11_taken rfl rfl ?_
                      refine fz_callS (d' := 0) (M' := mX11_above) (As := [fz_i 5]) (st := []) kX11_taken rfl rfl vX11_above rfl rfl (Nat.le_of_ble_eq_true rfl) (Nat.le_of_ble_eq_true rfl) (by decide) (sX11_above_5 h hI  ) (fun H139 r140 q141 o142 => ?_)
                      obtain ⟨e143, y145, rfl, f144⟩ := q141
                      subst H139
                      clear o142
                      refine fz_eqi (show y145 = 3 by omega) ?_
                      refine fz_istore (ls' := [(4, fz_i 3), (3, fz_i (h 81 (((h 83 (s.toNat)) - 10).toNat))), (0, fz_r 53), (1, fz_i s), (2, fz_i k)]) kX11_taken rfl (by decide) rfl ?_
                      refine fz_goto (tgt := 61) kX11_taken rfl (by decide) ?_
                      refine fz_iload kX11_taken rfl rfl ?_
                      refine fz_iload_n kX11_taken rfl rfl ?_
                      refine fz_icmp_eq (tgt := 82) kX11_taken rfl (by decide) (fun c146 => ?_) (fun c146 => ?_)
                      · refine fz_iload kX11_taken rfl rfl ?_
                        refine fz_iload_n kX11_taken rfl rfl ?_
                        refine fz_icmp_ne (tgt := 92) kX11_taken rfl (by decide) (fun c147 => ?_) (fun c147 => ?_)
                        · exfalso; omega
                        · refine fz_iload_n kX11_taken rfl rfl ?_
                          refine fz_goto (tgt := 94) kX11_taken rfl (by decide) ?_
                          have k148 : 10 ≤ h 83 s.toNat → (h 81 (((h 83 (s.toNat)) - 10).toNat)) = fz_tk (h 81 (h 83 s.toNat - 10).toNat) k := by intro z1; first | exact fz_tk_n (by unfold fz_un; omega) | exact fz_tk_y (by omega) (by unfold fz_un; omega)
                          exact fz_iret kX11_taken rfl rfl (fun _ => ⟨rfl, _, rfl, (by omega), (by omega)⟩)
                      · refine fz_iload kX11_taken rfl rfl ?_
                        refine fz_if_le (tgt := 82) kX11_taken rfl (by decide) (fun c149 => ?_) (fun c149 => ?_)
                        · exfalso; omega
                        · refine fz_iload kX11_taken rfl rfl ?_
                          refine fz_callS (d' := 0) (M' := mX11_above) (As := [fz_i 3]) (st := []) kX11_taken rfl rfl vX11_above rfl rfl (Nat.le_of_ble_eq_true rfl) (Nat.le_of_ble_eq_true rfl) (by decide) (sX11_above_3 h hI  ) (fun H150 r151 q152 o153 => ?_)
                          obtain ⟨e154, y156, rfl, f155⟩ := q152
                          subst H150
                          clear o153
                          refine fz_eqi (show y156 = 2 by omega) ?_
                          refine fz_istore (ls' := [(4, fz_i 2), (3, fz_i (h 81 (((h 83 (s.toNat)) - 10).toNat))), (0, fz_r 53), (1, fz_i s), (2, fz_i k)]) kX11_taken rfl (by decide) rfl ?_
                          refine fz_goto (tgt := 61) kX11_taken rfl (by decide) ?_
                          refine fz_iload kX11_taken rfl rfl ?_
                          refine fz_iload_n kX11_taken rfl rfl ?_
                          refine fz_icmp_eq (tgt := 82) kX11_taken rfl (by decide) (fun c157 => ?_) (fun c157 => ?_)
                          · refine fz_iload kX11_taken rfl rfl ?_
                            refine fz_iload_n kX11_taken rfl rfl ?_
                            refine fz_icmp_ne (tgt := 92) kX11_taken rfl (by decide) (fun c158 => ?_) (fun c158 => ?_)
                            · exfalso; omega
                            · refine fz_iload_n kX11_taken rfl rfl ?_
                              refine fz_goto (tgt := 94) kX11_taken rfl (by decide) ?_
                              have k159 : 10 ≤ h 83 s.toNat → (h 81 (((h 83 (s.toNat)) - 10).toNat)) = fz_tk (h 81 (h 83 s.toNat - 10).toNat) k := by intro z1; first | exact fz_tk_n (by unfold fz_un; omega) | exact fz_tk_y (by omega) (by unfold fz_un; omega)
                              exact fz_iret kX11_taken rfl rfl (fun _ => ⟨rfl, _, rfl, (by omega), (by omega)⟩)
                          · refine fz_iload kX11_taken rfl rfl ?_
                            refine fz_if_le (tgt := 82) kX11_taken rfl (by decide) (fun c160 => ?_) (fun c160 => ?_)
                            · exfalso; omega
                            · refine fz_iload kX11_taken rfl rfl ?_
                              refine fz_callS (d' := 0) (M' := mX11_above) (As := [fz_i 2]) (st := []) kX11_taken rfl rfl vX11_above rfl rfl (Nat.le_of_ble_eq_true rfl) (Nat.le_of_ble_eq_true rfl) (by decide) (sX11_above_2 h hI  ) (fun H161 r162 q163 o164 => ?_)
                              obtain ⟨e165, y167, rfl, f166⟩ := q163
                              subst H161
                              clear o164
                              refine fz_eqi (show y167 = 0 by omega) ?_
                              refine fz_istore (ls' := [(4, fz_i 0), (3, fz_i (h 81 (((h 83 (s.toNat)) - 10).toNat))), (0, fz_r 53), (1, fz_i s), (2, fz_i k)]) kX11_taken rfl (by decide) rfl ?_
                              refine fz_goto (tgt := 61) kX11_taken rfl (by decide) ?_
                              refine fz_iload kX11_taken rfl rfl ?_
                              refine fz_iload_n kX11_taken rfl rfl ?_
                              refine fz_icmp_eq (tgt := 82) kX11_taken rfl (by decide) (fun c168 => ?_) (fun c168 => ?_)
                              · refine fz_iload kX11_taken rfl rfl ?_
                                refine fz_iload_n kX11_taken rfl rfl ?_
                                refine fz_icmp_ne (tgt := 92) kX11_taken rfl (by decide) (fun c169 => ?_) (fun c169 => ?_)
                                · exfalso; omega
                                · refine fz_iload_n kX11_taken rfl rfl ?_
                                  refine fz_goto (tgt := 94) kX11_taken rfl (by decide) ?_
                                  have k170 : 10 ≤ h 83 s.toNat → (h 81 (((h 83 (s.toNat)) - 10).toNat)) = fz_tk (h 81 (h 83 s.toNat - 10).toNat) k := by intro z1; first | exact fz_tk_n (by unfold fz_un; omega) | exact fz_tk_y (by omega) (by unfold fz_un; omega)
                                  exact fz_iret kX11_taken rfl rfl (fun _ => ⟨rfl, _, rfl, (by omega), (by omega)⟩)
                              · refine fz_iload kX11_taken rfl rfl ?_
                                refine fz_if_le (tgt := 82) kX11_taken rfl (by decide) (fun c171 => ?_) (fun c171 => ?_)
                                · refine fz_iload kX11_taken rfl rfl ?_
                                  refine fz_iload_n kX11_taken rfl rfl ?_
                                  refine fz_icmp_ne (tgt := 92) kX11_taken rfl (by decide) (fun c172 => ?_) (fun c172 => ?_)
                                  · refine fz_bipush ⟨by decide, by decide⟩ kX11_taken rfl ?_
                                    have k173 : 10 ≤ h 83 s.toNat → (-12) = fz_tk (h 81 (h 83 s.toNat - 10).toNat) k := by intro z1; first | exact fz_tk_n (by unfold fz_un; omega) | exact fz_tk_y (by omega) (by unfold fz_un; omega)
                                    exact fz_iret kX11_taken rfl rfl (fun _ => ⟨rfl, _, rfl, (by omega), (by omega)⟩)
                                  · refine fz_iload_n kX11_taken rfl rfl ?_
                                    refine fz_goto (tgt := 94) kX11_taken rfl (by decide) ?_
                                    have k174 : 10 ≤ h 83 s.toNat → (h 81 (((h 83 (s.toNat)) - 10).toNat)) = fz_tk (h 81 (h 83 s.toNat - 10).toNat) k := by intro z1; first | exact fz_tk_n (by unfold fz_un; omega) | exact fz_tk_y (by omega) (by unfold fz_un; omega)
                                    exact fz_iret kX11_taken rfl rfl (fun _ => ⟨rfl, _, rfl, (by omega), (by omega)⟩)
                                · exfalso; omega
                · refine fz_eqi c33 ?_
                  refine fz_istore (ls' := [(4, fz_i 6), (3, fz_i (h 81 (((h 83 (s.toNat)) - 10).toNat))), (0, fz_r 53), (1, fz_i s), (2, fz_i k)]) kX11_taken rfl (by decide) rfl ?_
                  refine fz_iload kX11_taken rfl rfl ?_
                  refine fz_iload_n kX11_taken rfl rfl ?_
                  refine fz_icmp_eq (tgt := 82) kX11_taken rfl (by decide) (fun c175 => ?_) (fun c175 => ?_)
                  · refine fz_iload kX11_taken rfl rfl ?_
                    refine fz_iload_n kX11_taken rfl rfl ?_
                    refine fz_icmp_ne (tgt := 92) kX11_taken rfl (by decide) (fun c176 => ?_) (fun c176 => ?_)
                    · exfalso; omega
                    · refine fz_iload_n kX11_taken rfl rfl ?_
                      refine fz_goto (tgt := 94) kX11_taken rfl (by decide) ?_
                      have k177 : 10 ≤ h 83 s.toNat → (h 81 (((h 83 (s.toNat)) - 10).toNat)) = fz_tk (h 81 (h 83 s.toNat - 10).toNat) k := by intro z1; first | exact fz_tk_n (by unfold fz_un; omega) | exact fz_tk_y (by omega) (by unfold fz_un; omega)
                      exact fz_iret kX11_taken rfl rfl (fun _ => ⟨rfl, _, rfl, (by omega), (by omega)⟩)
                  · refine fz_iload kX11_taken rfl rfl ?_
                    refine fz_if_le (tgt := 82) kX11_taken rfl (by decide) (fun c178 => ?_) (fun c178 => ?_)
                    · exfalso; omega
                    · refine fz_iload kX11_taken rfl rfl ?_
                      refine fz_callS (d' := 0) (M' := mX11_above) (As := [fz_i 6]) (st := []) kX11_taken rfl rfl vX11_above rfl rfl (Nat.le_of_ble_eq_true rfl) (Nat.le_of_ble_eq_true rfl) (by decide) (sX11_above_6 h hI  ) (fun H179 r180 q181 o182 => ?_)
                      obtain ⟨e183, y185, rfl, f184⟩ := q181
                      subst H179
                      clear o182
                      refine fz_eqi (show y185 = 0 by omega) ?_
                      refine fz_istore (ls' := [(4, fz_i 0), (3, fz_i (h 81 (((h 83 (s.toNat)) - 10).toNat))), (0, fz_r 53), (1, fz_i s), (2, fz_i k)]) kX11_taken rfl (by decide) rfl ?_
                      refine fz_goto (tgt := 61) kX11_taken rfl (by decide) ?_
                      refine fz_iload kX11_taken rfl rfl ?_
                      refine fz_iload_n kX11_taken rfl rfl ?_
                      refine fz_icmp_eq (tgt := 82) kX11_taken rfl (by decide) (fun c186 => ?_) (fun c186 => ?_)
                      · refine fz_iload kX11_taken rfl rfl ?_
                        refine fz_iload_n kX11_taken rfl rfl ?_
                        refine fz_icmp_ne (tgt := 92) kX11_taken rfl (by decide) (fun c187 => ?_) (fun c187 => ?_)
                        · exfalso; omega
                        · refine fz_iload_n kX11_taken rfl rfl ?_
                          refine fz_goto (tgt := 94) kX11_taken rfl (by decide) ?_
                          have k188 : 10 ≤ h 83 s.toNat → (h 81 (((h 83 (s.toNat)) - 10).toNat)) = fz_tk (h 81 (h 83 s.toNat - 10).toNat) k := by intro z1; first | exact fz_tk_n (by unfold fz_un; omega) | exact fz_tk_y (by omega) (by unfold fz_un; omega)
                          exact fz_iret kX11_taken rfl rfl (fun _ => ⟨rfl, _, rfl, (by omega), (by omega)⟩)
                      · refine fz_iload kX11_taken rfl rfl ?_
                        refine fz_if_le (tgt := 82) kX11_taken rfl (by decide) (fun c189 => ?_) (fun c189 => ?_)
                        · refine fz_iload kX11_taken rfl rfl ?_
                          refine fz_iload_n kX11_taken rfl rfl ?_
                          refine fz_icmp_ne (tgt := 92) kX11_taken rfl (by decide) (fun c190 => ?_) (fun c190 => ?_)
                          · refine fz_bipush ⟨by decide, by decide⟩ kX11_taken rfl ?_
                            have k191 : 10 ≤ h 83 s.toNat → (-12) = fz_tk (h 81 (h 83 s.toNat - 10).toNat) k := by intro z1; first | exact fz_tk_n (by unfold fz_un; omega) | exact fz_tk_y (by omega) (by unfold fz_un; omega)
                            exact fz_iret kX11_taken rfl rfl (fun _ => ⟨rfl, _, rfl, (by omega), (by omega)⟩)
                          · refine fz_iload_n kX11_taken rfl rfl ?_
                            refine fz_goto (tgt := 94) kX11_taken rfl (by decide) ?_
                            have k192 : 10 ≤ h 83 s.toNat → (h 81 (((h 83 (s.toNat)) - 10).toNat)) = fz_tk (h 81 (h 83 s.toNat - 10).toNat) k := by intro z1; first | exact fz_tk_n (by unfold fz_un; omega) | exact fz_tk_y (by omega) (by unfold fz_un; omega)
                            exact fz_iret kX11_taken rfl rfl (fun _ => ⟨rfl, _, rfl, (by omega), (by omega)⟩)
                        · exfalso; omega
                · refine fz_eqi c33 ?_
                  refine fz_istore (ls' := [(4, fz_i 7), (3, fz_i (h 81 (((h 83 (s.toNat)) - 10).toNat))), (0, fz_r 53), (1, fz_i s), (2, fz_i k)]) kX11_taken rfl (by decide) rfl ?_
                  refine fz_iload kX11_taken rfl rfl ?_
                  refine fz_iload_n kX11_taken rfl rfl ?_
                  refine fz_icmp_eq (tgt := 82) kX11_taken rfl (by decide) (fun c193 => ?_) (fun c193 => ?_)
                  · refine fz_iload kX11_taken rfl rfl ?_
                    refine fz_iload_n kX11_taken rfl rfl ?_
                    refine fz_icmp_ne (tgt := 92) kX11_taken rfl (by decide) (fun c194 => ?_) (fun c194 => ?_)
                    · exfalso; omega
                    · refine fz_iload_n kX11_taken rfl rfl ?_
                      refine fz_goto (tgt := 94) kX11_taken rfl (by decide) ?_
                      have k195 : 10 ≤ h 83 s.toNat → (h 81 (((h 83 (s.toNat)) - 10).toNat)) = fz_tk (h 81 (h 83 s.toNat - 10).toNat) k := by intro z1; first | exact fz_tk_n (by unfold fz_un; omega) | exact fz_tk_y (by omega) (by unfold fz_un; omega)
                      exact fz_iret kX11_taken rfl rfl (fun _ => ⟨rfl, _, rfl, (by omega), (by omega)⟩)
                  · refine fz_iload kX11_taken rfl rfl ?_
                    refine fz_if_le (tgt := 82) kX11_taken rfl (by decide) (fun c196 => ?_) (fun c196 => ?_)
                    · exfalso; omega
                    · refine fz_iload kX11_taken rfl rfl ?_
                      refine fz_callS (d' := 0) (M' := mX11_above) (As := [fz_i 7]) (st := []) kX11_taken rfl rfl vX11_above rfl rfl (Nat.le_of_ble_eq_true rfl) (Nat.le_of_ble_eq_true rfl) (by decide) (sX11_above_7 h hI  ) (fun H197 r198 q199 o200 => ?_)
                      obtain ⟨e201, y203, rfl, f202⟩ := q199
                      subst H197
                      clear o200
                      refine fz_eqi (show y203 = 4 by omega) ?_
                      refine fz_istore (ls' := [(4, fz_i 4), (3, fz_i (h 81 (((h 83 (s.toNat)) - 10).toNat))), (0, fz_r 53), (1, fz_i s), (2, fz_i k)]) kX11_taken rfl (by decide) rfl ?_
                      refine fz_goto (tgt := 61) kX11_taken rfl (by decide) ?_
                      refine fz_iload kX11_taken rfl rfl ?_
                      refine fz_iload_n kX11_taken rfl rfl ?_
                      refine fz_icmp_eq (tgt := 82) kX11_taken rfl (by decide) (fun c204 => ?_) (fun c204 => ?_)
                      · refine fz_iload kX11_taken rfl rfl ?_
                        refine fz_iload_n kX11_taken rfl rfl ?_
                        refine fz_icmp_ne (tgt := 92) kX11_taken rfl (by decide) (fun c205 => ?_) (fun c205 => ?_)
                        · exfalso; omega
                        · refine fz_iload_n kX11_taken rfl rfl ?_
                          refine fz_goto (tgt := 94) kX11_taken rfl (by decide) ?_
                          have k206 : 10 ≤ h 83 s.toNat → (h 81 (((h 83 (s.toNat)) - 10).toNat)) = fz_tk (h 81 (h 83 s.toNat - 10).toNat) k := by intro z1; first | exact fz_tk_n (by unfold fz_un; omega) | exact fz_tk_y (by omega) (by unfold fz_un; omega)
                          exact fz_iret kX11_taken rfl rfl (fun _ => ⟨rfl, _, rfl, (by omega), (by omega)⟩)
                      · refine fz_iload kX11_taken rfl rfl ?_
                        refine fz_if_le (tgt := 82) kX11_taken rfl (by decide) (fun c207 => ?_) (fun c207 => ?_)
                        · exfalso; omega
                        · refine fz_iload kX11_taken rfl rfl ?_
                          refine fz_callS (d' := 0) (M' := mX11_above) (As := [fz_i 4]) (st := []) kX11_taken rfl rfl vX11_above rfl rfl (Nat.le_of_ble_eq_true rfl) (Nat.le_of_ble_eq_true rfl) (by decide) (sX11_above_4 h hI  ) (fun H208 r209 q210 o211 => ?_)
                          obtain ⟨e212, y214, rfl, f213⟩ := q210
                          subst H208
                          clear o211
                          refine fz_eqi (show y214 = 1 by omega) ?_
                          refine fz_istore (ls' := [(4, fz_i 1), (3, fz_i (h 81 (((h 83 (s.toNat)) - 10).toNat))), (0, fz_r 53), (1, fz_i s), (2, fz_i k)]) kX11_taken rfl (by decide) rfl ?_
                          refine fz_goto (tgt := 61) kX11_taken rfl (by decide) ?_
                          refine fz_iload kX11_taken rfl rfl ?_
                          refine fz_iload_n kX11_taken rfl rfl ?_
                          refine fz_icmp_eq (tgt := 82) kX11_taken rfl (by decide) (fun c215 => ?_) (fun c215 => ?_)
                          · refine fz_iload kX11_taken rfl rfl ?_
                            refine fz_iload_n kX11_taken rfl rfl ?_
                            refine fz_icmp_ne (tgt := 92) kX11_taken rfl (by decide) (fun c216 => ?_) (fun c216 => ?_)
                            · exfalso; omega
                            · refine fz_iload_n kX11_taken rfl rfl ?_
                              refine fz_goto (tgt := 94) kX11_taken rfl (by decide) ?_
                              have k217 : 10 ≤ h 83 s.toNat → (h 81 (((h 83 (s.toNat)) - 10).toNat)) = fz_tk (h 81 (h 83 s.toNat - 10).toNat) k := by intro z1; first | exact fz_tk_n (by unfold fz_un; omega) | exact fz_tk_y (by omega) (by unfold fz_un; omega)
                              exact fz_iret kX11_taken rfl rfl (fun _ => ⟨rfl, _, rfl, (by omega), (by omega)⟩)
                          · refine fz_iload kX11_taken rfl rfl ?_
                            refine fz_if_le (tgt := 82) kX11_taken rfl (by decide) (fun c218 => ?_) (fun c218 => ?_)
                            · exfalso; omega
                            · refine fz_iload kX11_taken rfl rfl ?_
                              refine fz_callS (d' := 0) (M' := mX11_above) (As := [fz_i 1]) (st := []) kX11_taken rfl rfl vX11_above rfl rfl (Nat.le_of_ble_eq_true rfl) (Nat.le_of_ble_eq_true rfl) (by decide) (sX11_above_1 h hI  ) (fun H219 r220 q221 o222 => ?_)
                              obtain ⟨e223, y225, rfl, f224⟩ := q221
                              subst H219
                              clear o222
                              refine fz_eqi (show y225 = 0 by omega) ?_
                              refine fz_istore (ls' := [(4, fz_i 0), (3, fz_i (h 81 (((h 83 (s.toNat)) - 10).toNat))), (0, fz_r 53), (1, fz_i s), (2, fz_i k)]) kX11_taken rfl (by decide) rfl ?_
                              refine fz_goto (tgt := 61) kX11_taken rfl (by decide) ?_
                              refine fz_iload kX11_taken rfl rfl ?_
                              refine fz_iload_n kX11_taken rfl rfl ?_
                              refine fz_icmp_eq (tgt := 82) kX11_taken rfl (by decide) (fun c226 => ?_) (fun c226 => ?_)
                              · refine fz_iload kX11_taken rfl rfl ?_
                                refine fz_iload_n kX11_taken rfl rfl ?_
                                refine fz_icmp_ne (tgt := 92) kX11_taken rfl (by decide) (fun c227 => ?_) (fun c227 => ?_)
                                · exfalso; omega
                                · refine fz_iload_n kX11_taken rfl rfl ?_
                                  refine fz_goto (tgt := 94) kX11_taken rfl (by decide) ?_
                                  have k228 : 10 ≤ h 83 s.toNat → (h 81 (((h 83 (s.toNat)) - 10).toNat)) = fz_tk (h 81 (h 83 s.toNat - 10).toNat) k := by intro z1; first | exact fz_tk_n (by unfold fz_un; omega) | exact fz_tk_y (by omega) (by unfold fz_un; omega)
                                  exact fz_iret kX11_taken rfl rfl (fun _ => ⟨rfl, _, rfl, (by omega), (by omega)⟩)
                              · refine fz_iload kX11_taken rfl rfl ?_
                                refine fz_if_le (tgt := 82) kX11_taken rfl (by decide) (fun c229 => ?_) (fun c229 => ?_)
                                · refine fz_iload kX11_taken rfl rfl ?_
                                  refine fz_iload_n kX11_taken rfl rfl ?_
                                  refine fz_icmp_ne (tgt := 92) kX11_taken rfl (by decide) (fun c230 => ?_) (fun c230 => ?_)
                                  · refine fz_bipush ⟨by decide, by decide⟩ kX11_taken rfl ?_
                                    have k231 : 10 ≤ h 83 s.toNat → (-12) = fz_tk (h 81 (h 83 s.toNat - 10).toNat) k := by intro z1; first | exact fz_tk_n (by unfold fz_un; omega) | exact fz_tk_y (by omega) (by unfold fz_un; omega)
                                    exact fz_iret kX11_taken rfl rfl (fun _ => ⟨rfl, _, rfl, (by omega), (by omega)⟩)
                                  · refine fz_iload_n kX11_taken rfl rfl ?_
                                    refine fz_goto (tgt := 94) kX11_taken rfl (by decide) ?_
                                    have k232 : 10 ≤ h 83 s.toNat → (h 81 (((h 83 (s.toNat)) - 10).toNat)) = fz_tk (h 81 (h 83 s.toNat - 10).toNat) k := by intro z1; first | exact fz_tk_n (by unfold fz_un; omega) | exact fz_tk_y (by omega) (by unfold fz_un; omega)
                                    exact fz_iret kX11_taken rfl rfl (fun _ => ⟨rfl, _, rfl, (by omega), (by omega)⟩)
                                · exfalso; omega
              · exfalso; omega
          · refine fz_bipush ⟨by decide, by decide⟩ kX11_taken rfl ?_
            exact fz_iret kX11_taken rfl rfl (fun _ => ⟨rfl, _, rfl, (by omega), (by omega)⟩)
        · exfalso; omega
      · refine fz_if_ne (tgt := 19) kX11_taken rfl (by decide) (fun c233 => ?_) (fun c233 => ?_)
        · exfalso; omega
        · refine fz_iconst ⟨by decide, by decide⟩ kX11_taken rfl ?_
          exact fz_iret kX11_taken rfl rfl (fun _ => ⟨rfl, _, rfl, (by omega), (by omega)⟩)
  · refine fz_if_eq (tgt := 17) kX11_taken rfl (by decide) (fun c234 => ?_) (fun c234 => ?_)
    · refine fz_iconst ⟨by decide, by decide⟩ kX11_taken rfl ?_
      exact fz_iret kX11_taken rfl rfl (fun _ => ⟨rfl, _, rfl, (by omega), (by omega)⟩)
    · exfalso; omega
