/-! ===== what the methods keep ===== -/
abbrev qX11_taken_x (h : fz_H) (s k : Int) : fz_H → Option fz_V → Prop := fun h' r0 => h' = h ∧ ∃ r : Int, r0 = some (fz_i r) ∧ ((-12) ≤ r ∧ r ≤ 7) ∧ ((¬ (0 ≤ s ∧ s ≤ 5 ∧ 0 ≤ k ∧ k ≤ 7) ∧ r = -1) ∨ ((0 ≤ s ∧ s ≤ 5 ∧ 0 ≤ k ∧ k ≤ 7) ∧ h 83 s.toNat = -1 ∧ r = -11) ∨ ((0 ≤ s ∧ s ≤ 5 ∧ 0 ≤ k ∧ k ≤ 7) ∧ (0 ≤ h 83 s.toNat ∧ h 83 s.toNat ≤ 4) ∧ r = -12) ∨ ((0 ≤ s ∧ s ≤ 5 ∧ 0 ≤ k ∧ k ≤ 7) ∧ (4 < h 83 s.toNat ∧ h 83 s.toNat < 10)) ∨ ((0 ≤ s ∧ s ≤ 5 ∧ 0 ≤ k ∧ k ≤ 7) ∧ 10 ≤ h 83 s.toNat ∧ r = fz_tk (h 81 (h 83 s.toNat - 10).toNat) k))
set_option maxHeartbeats 1000000 in
set_option maxRecDepth 100000 in
theorem sX11_taken_x (h : fz_H) (hI : fz_Iv h) (s k : Int) (hXh : fz_Xh h) : fz_R 2 mX11_taken 0 [(0, fz_r 53), (1, fz_i s), (2, fz_i k)] [] h (qX11_taken_x h s k) := by
  refine fz_knowl (fun hk => ?_)
  have hr_s : -2147483648 ≤ s ∧ s < 2147483648 := hk _ (List.Mem.tail _ (List.Mem.head _))
  have hr_k : -2147483648 ≤ k ∧ k < 2147483648 := hk _ (List.Mem.tail _ (List.Mem.tail _ (List.Mem.head _)))
  clear hk
  refine fz_iload_n kX11_taken rfl rfl ?_
  refine fz_callS (d' := 1) (M' := mX11_isShelf) (As := [fz_i s]) (st := []) kX11_taken rfl rfl vX11_isShelf rfl rfl (Nat.le_of_ble_eq_true rfl) (Nat.le_of_ble_eq_true rfl) (by decide) (sX11_isShelf h hI s ) (fun H1 r2 q3 o4 => ?_)
  obtain ⟨e5, y6, rfl, p7⟩ := q3
  subst H1
  clear o4
  rcases p7 with ⟨rfl, c8⟩ | ⟨rfl, c8⟩
  · refine fz_if_eq (tgt := 17) kX11_taken rfl (by decide) (fun c9 => ?_) (fun c9 => ?_)
    · exfalso; omega
    · refine fz_iload_n kX11_taken rfl rfl ?_
      refine fz_iconst ⟨by decide, by decide⟩ kX11_taken rfl ?_
      refine fz_bipush ⟨by decide, by decide⟩ kX11_taken rfl ?_
      refine fz_callS (d' := 0) (M' := mX11_within) (As := [fz_i k, fz_i 0, fz_i 7]) (st := []) kX11_taken rfl rfl vX11_within rfl rfl (Nat.le_of_ble_eq_true rfl) (Nat.le_of_ble_eq_true rfl) (by decide) (sX11_within h hI k 0 7 ) (fun H10 r11 q12 o13 => ?_)
      obtain ⟨e14, y15, rfl, p16⟩ := q12
      subst H10
      clear o13
      rcases p16 with ⟨rfl, c17⟩ | ⟨rfl, c17⟩
      · refine fz_if_ne (tgt := 19) kX11_taken rfl (by decide) (fun c18 => ?_) (fun c18 => ?_)
        · refine fz_aload_n kX11_taken rfl rfl ?_
          refine fz_getR (t := 83) kX11_taken rfl rfl ?_
          refine fz_iload_n kX11_taken rfl rfl ?_
          refine fz_ialdV (n := 6) (v := h 83 (s.toNat)) kX11_taken rfl rfl (by omega) (by omega) rfl ?_
          have b19 : (-1) ≤ h 83 (s.toNat) ∧ h 83 (s.toNat) ≤ 59 := hI.1 83 _
          refine fz_iconst ⟨by decide, by decide⟩ kX11_taken rfl ?_
          refine fz_icmp_ne (tgt := 32) kX11_taken rfl (by decide) (fun c20 => ?_) (fun c20 => ?_)
          · refine fz_aload_n kX11_taken rfl rfl ?_
            refine fz_iload_n kX11_taken rfl rfl ?_
            refine fz_callV (d' := 1) (M' := mX11_isRow) (As := [fz_i s]) (st := []) kX11_taken rfl rfl vX11_isRow rfl rfl rfl rfl (Nat.le_of_ble_eq_true rfl) (Nat.le_of_ble_eq_true rfl) (by decide) (sX11_isRow h hI s (by omega)) (fun H21 r22 q23 o24 => ?_)
            obtain ⟨e25, y26, rfl, p27⟩ := q23
            subst H21
            clear o24
            rcases p27 with ⟨rfl, c28⟩ | ⟨rfl, c28⟩
            · refine fz_if_eq (tgt := 43) kX11_taken rfl (by decide) (fun c29 => ?_) (fun c29 => ?_)
              · exfalso; omega
              · refine fz_bipush ⟨by decide, by decide⟩ kX11_taken rfl ?_
                exact fz_iret kX11_taken rfl rfl (fun _ => ⟨rfl, _, rfl, (by omega), (by first | exact fz_tkm_y lost lost lost (fz_un_ylost (by omega)) | exact fz_tkm_n lost lost lost (fz_un_nlost (by omega)) | exact Or.inl ⟨by omega, rfl⟩ | exact Or.inr (Or.inl ⟨by omega, by omega, rfl⟩) | exact Or.inr (Or.inr (Or.inl ⟨by omega, by omega, rfl⟩)) | (exfalso; omega))⟩)
            · refine fz_if_eq (tgt := 43) kX11_taken rfl (by decide) (fun c31 => ?_) (fun c31 => ?_)
              · have k32 := hXh s.toNat
                refine fz_aload_n kX11_taken rfl rfl ?_
                refine fz_getR (t := 81) kX11_taken rfl rfl ?_
                refine fz_aload_n kX11_taken rfl rfl ?_
                refine fz_getR (t := 83) kX11_taken rfl rfl ?_
                refine fz_iload_n kX11_taken rfl rfl ?_
                refine fz_ialdV (n := 6) (v := h 83 (s.toNat)) kX11_taken rfl rfl (by omega) (by omega) rfl ?_
                refine fz_bipush ⟨by decide, by decide⟩ kX11_taken rfl ?_
                refine fz_isubN kX11_taken rfl (by omega) ?_
                refine fz_ialdV (n := 50) (v := h 81 (((h 83 (s.toNat)) - 10).toNat)) kX11_taken rfl rfl (by omega) (by omega) rfl ?_
                have b33 : 0 ≤ h 81 (((h 83 (s.toNat)) - 10).toNat) ∧ h 81 (((h 83 (s.toNat)) - 10).toNat) ≤ 7 := hI.1 81 _
                refine fz_istore_n (ls' := [(3, fz_i (h 81 (((h 83 (s.toNat)) - 10).toNat))), (0, fz_r 53), (1, fz_i s), (2, fz_i k)]) kX11_taken rfl (by decide) rfl ?_
                have k34 : 0 ≤ s ∧ s ≤ 5 ∧ 0 ≤ k ∧ k ≤ 7 := by omega
                have k36 : 10 ≤ h 83 s.toNat := by omega
                refine fz_iload_n kX11_taken rfl rfl ?_
                rcases (show (h 81 (((h 83 (s.toNat)) - 10).toNat)) = 0 ∨ (h 81 (((h 83 (s.toNat)) - 10).toNat)) = 1 ∨ (h 81 (((h 83 (s.toNat)) - 10).toNat)) = 2 ∨ (h 81 (((h 83 (s.toNat)) - 10).toNat)) = 3 ∨ (h 81 (((h 83 (s.toNat)) - 10).toNat)) = 4 ∨ (h 81 (((h 83 (s.toNat)) - 10).toNat)) = 5 ∨ (h 81 (((h 83 (s.toNat)) - 10).toNat)) = 6 ∨ (h 81 (((h 83 (s.toNat)) - 10).toNat)) = 7 by omega) with c38 | c38 | c38 | c38 | c38 | c38 | c38 | c38
                · refine fz_eqi c38 ?_
                  refine fz_istore (ls' := [(4, fz_i 0), (3, fz_i (h 81 (((h 83 (s.toNat)) - 10).toNat))), (0, fz_r 53), (1, fz_i s), (2, fz_i k)]) kX11_taken rfl (by decide) rfl ?_
                  refine fz_iload kX11_taken rfl rfl ?_
                  refine fz_iload_n kX11_taken rfl rfl ?_
                  refine fz_icmp_eq (tgt := 82) kX11_taken rfl (by decide) (fun c39 => ?_) (fun c39 => ?_)
                  · refine fz_iload kX11_taken rfl rfl ?_
                    refine fz_iload_n kX11_taken rfl rfl ?_
                    refine fz_icmp_ne (tgt := 92) kX11_taken rfl (by decide) (fun c40 => ?_) (fun c40 => ?_)
                    · exfalso; omega
                    · refine fz_iload_n kX11_taken rfl rfl ?_
                      refine fz_goto (tgt := 94) kX11_taken rfl (by decide) ?_
                      exact fz_iret kX11_taken rfl rfl (fun _ => ⟨rfl, _, rfl, (by omega), (by first | exact fz_tkm_y k34 k36 c38 (fz_un_y0 (by omega)) | exact fz_tkm_n k34 k36 c38 (fz_un_n0 (by omega)) | exact Or.inl ⟨by omega, rfl⟩ | exact Or.inr (Or.inl ⟨by omega, by omega, rfl⟩) | exact Or.inr (Or.inr (Or.inl ⟨by omega, by omega, rfl⟩)) | (exfalso; omega))⟩)
                  · refine fz_iload kX11_taken rfl rfl ?_
                    refine fz_if_le (tgt := 82) kX11_taken rfl (by decide) (fun c42 => ?_) (fun c42 => ?_)
                    · refine fz_iload kX11_taken rfl rfl ?_
                      refine fz_iload_n kX11_taken rfl rfl ?_
                      refine fz_icmp_ne (tgt := 92) kX11_taken rfl (by decide) (fun c43 => ?_) (fun c43 => ?_)
                      · refine fz_bipush ⟨by decide, by decide⟩ kX11_taken rfl ?_
                        exact fz_iret kX11_taken rfl rfl (fun _ => ⟨rfl, _, rfl, (by omega), (by first | exact fz_tkm_y k34 k36 c38 (fz_un_y0 (by omega)) | exact fz_tkm_n k34 k36 c38 (fz_un_n0 (by omega)) | exact Or.inl ⟨by omega, rfl⟩ | exact Or.inr (Or.inl ⟨by omega, by omega, rfl⟩) | exact Or.inr (Or.inr (Or.inl ⟨by omega, by omega, rfl⟩)) | (exfalso; omega))⟩)
                      · refine fz_iload_n kX11_taken rfl rfl ?_
                        refine fz_goto (tgt := 94) kX11_taken rfl (by decide) ?_
                        exact fz_iret kX11_taken rfl rfl (fun _ => ⟨rfl, _, rfl, (by omega), (by first | exact fz_tkm_y k34 k36 c38 (fz_un_y0 (by omega)) | exact fz_tkm_n k34 k36 c38 (fz_un_n0 (by omega)) | exact Or.inl ⟨by omega, rfl⟩ | exact Or.inr (Or.inl ⟨by omega, by omega, rfl⟩) | exact Or.inr (Or.inr (Or.inl ⟨by omega, by omega, rfl⟩)) | (exfalso; omega))⟩)
                    · exfalso; omega
                · refine fz_eqi c38 ?_
                  refine fz_istore (ls' := [(4, fz_i 1), (3, fz_i (h 81 (((h 83 (s.toNat)) - 10).toNat))), (0, fz_r 53), (1, fz_i s), (2, fz_i k)]) kX11_taken rfl (by decide) rfl ?_
                  refine fz_iload kX11_taken rfl rfl ?_
                  refine fz_iload_n kX11_taken rfl rfl ?_
                  refine fz_icmp_eq (tgt := 82) kX11_taken rfl (by decide) (fun c46 => ?_) (fun c46 => ?_)
                  · refine fz_iload kX11_taken rfl rfl ?_
                    refine fz_iload_n kX11_taken rfl rfl ?_
                    refine fz_icmp_ne (tgt := 92) kX11_taken rfl (by decide) (fun c47 => ?_) (fun c47 => ?_)
                    · exfalso; omega
                    · refine fz_iload_n kX11_taken rfl rfl ?_
                      refine fz_goto (tgt := 94) kX11_taken rfl (by decide) ?_
                      exact fz_iret kX11_taken rfl rfl (fun _ => ⟨rfl, _, rfl, (by omega), (by first | exact fz_tkm_y k34 k36 c38 (fz_un_y1 (by omega)) | exact fz_tkm_n k34 k36 c38 (fz_un_n1 (by omega)) | exact Or.inl ⟨by omega, rfl⟩ | exact Or.inr (Or.inl ⟨by omega, by omega, rfl⟩) | exact Or.inr (Or.inr (Or.inl ⟨by omega, by omega, rfl⟩)) | (exfalso; omega))⟩)
                  · refine fz_iload kX11_taken rfl rfl ?_
                    refine fz_if_le (tgt := 82) kX11_taken rfl (by decide) (fun c49 => ?_) (fun c49 => ?_)
                    · exfalso; omega
                    · refine fz_iload kX11_taken rfl rfl ?_
                      refine fz_callS (d' := 0) (M' := mX11_above) (As := [fz_i 1]) (st := []) kX11_taken rfl rfl vX11_above rfl rfl (Nat.le_of_ble_eq_true rfl) (Nat.le_of_ble_eq_true rfl) (by decide) (sX11_above_1 h hI  ) (fun H50 r51 q52 o53 => ?_)
                      obtain ⟨e54, y56, rfl, f55⟩ := q52
                      subst H50
                      clear o53
                      refine fz_eqi (show y56 = 0 by omega) ?_
                      refine fz_istore (ls' := [(4, fz_i 0), (3, fz_i (h 81 (((h 83 (s.toNat)) - 10).toNat))), (0, fz_r 53), (1, fz_i s), (2, fz_i k)]) kX11_taken rfl (by decide) rfl ?_
                      refine fz_goto (tgt := 61) kX11_taken rfl (by decide) ?_
                      refine fz_iload kX11_taken rfl rfl ?_
                      refine fz_iload_n kX11_taken rfl rfl ?_
                      refine fz_icmp_eq (tgt := 82) kX11_taken rfl (by decide) (fun c57 => ?_) (fun c57 => ?_)
                      · refine fz_iload kX11_taken rfl rfl ?_
                        refine fz_iload_n kX11_taken rfl rfl ?_
                        refine fz_icmp_ne (tgt := 92) kX11_taken rfl (by decide) (fun c58 => ?_) (fun c58 => ?_)
                        · exfalso; omega
                        · refine fz_iload_n kX11_taken rfl rfl ?_
                          refine fz_goto (tgt := 94) kX11_taken rfl (by decide) ?_
                          exact fz_iret kX11_taken rfl rfl (fun _ => ⟨rfl, _, rfl, (by omega), (by first | exact fz_tkm_y k34 k36 c38 (fz_un_y1 (by omega)) | exact fz_tkm_n k34 k36 c38 (fz_un_n1 (by omega)) | exact Or.inl ⟨by omega, rfl⟩ | exact Or.inr (Or.inl ⟨by omega, by omega, rfl⟩) | exact Or.inr (Or.inr (Or.inl ⟨by omega, by omega, rfl⟩)) | (exfalso; omega))⟩)
                      · refine fz_iload kX11_taken rfl rfl ?_
                        refine fz_if_le (tgt := 82) kX11_taken rfl (by decide) (fun c60 => ?_) (fun c60 => ?_)
                        · refine fz_iload kX11_taken rfl rfl ?_
                          refine fz_iload_n kX11_taken rfl rfl ?_
                          refine fz_icmp_ne (tgt := 92) kX11_taken rfl (by decide) (fun c61 => ?_) (fun c61 => ?_)
                          · refine fz_bipush ⟨by decide, by decide⟩ kX11_taken rfl ?_
                            exact fz_iret kX11_taken rfl rfl (fun _ => ⟨rfl, _, rfl, (by omega), (by first | exact fz_tkm_y k34 k36 c38 (fz_un_y1 (by omega)) | exact fz_tkm_n k34 k36 c38 (fz_un_n1 (by omega)) | exact Or.inl ⟨by omega, rfl⟩ | exact Or.inr (Or.inl ⟨by omega, by omega, rfl⟩) | exact Or.inr (Or.inr (Or.inl ⟨by omega, by omega, rfl⟩)) | (exfalso; omega))⟩)
                          · refine fz_iload_n kX11_taken rfl rfl ?_
                            refine fz_goto (tgt := 94) kX11_taken rfl (by decide) ?_
                            exact fz_iret kX11_taken rfl rfl (fun _ => ⟨rfl, _, rfl, (by omega), (by first | exact fz_tkm_y k34 k36 c38 (fz_un_y1 (by omega)) | exact fz_tkm_n k34 k36 c38 (fz_un_n1 (by omega)) | exact Or.inl ⟨by omega, rfl⟩ | exact Or.inr (Or.inl ⟨by omega, by omega, rfl⟩) | exact Or.inr (Or.inr (Or.inl ⟨by omega, by omega, rfl⟩)) | (exfalso; omega))⟩)
                        · exfalso; omega
                · refine fz_eqi c38 ?_
                  refine fz_istore (ls' := [(4, fz_i 2), (3, fz_i (h 81 (((h 83 (s.toNat)) - 10).toNat))), (0, fz_r 53), (1, fz_i s), (2, fz_i k)]) kX11_taken rfl (by decide) rfl ?_
                  refine fz_iload kX11_taken rfl rfl ?_
                  refine fz_iload_n kX11_taken rfl rfl ?_
                  refine fz_icmp_eq (tgt := 82) kX11_taken rfl (by decide) (fun c64 => ?_) (fun c64 => ?_)
                  · refine fz_iload kX11_taken rfl rfl ?_
                    refine fz_iload_n kX11_taken rfl rfl ?_
                    refine fz_icmp_ne (tgt := 92) kX11_taken rfl (by decide) (fun c65 => ?_) (fun c65 => ?_)
                    · exfalso; omega
                    · refine fz_iload_n kX11_taken rfl rfl ?_
                      refine fz_goto (tgt := 94) kX11_taken rfl (by decide) ?_
                      exact fz_iret kX11_taken rfl rfl (fun _ => ⟨rfl, _, rfl, (by omega), (by first | exact fz_tkm_y k34 k36 c38 (fz_un_y2 (by omega)) | exact fz_tkm_n k34 k36 c38 (fz_un_n2 (by omega)) | exact Or.inl ⟨by omega, rfl⟩ | exact Or.inr (Or.inl ⟨by omega, by omega, rfl⟩) | exact Or.inr (Or.inr (Or.inl ⟨by omega, by omega, rfl⟩)) | (exfalso; omega))⟩)
                  · refine fz_iload kX11_taken rfl rfl ?_
                    refine fz_if_le (tgt := 82) kX11_taken rfl (by decide) (fun c67 => ?_) (fun c67 => ?_)
                    · exfalso; omega
                    · refine fz_iload kX11_taken rfl rfl ?_
                      refine fz_callS (d' := 0) (M' := mX11_above) (As := [fz_i 2]) (st := []) kX11_taken rfl rfl vX11_above rfl rfl (Nat.le_of_ble_eq_true rfl) (Nat.le_of_ble_eq_true rfl) (by decide) (sX11_above_2 h hI  ) (fun H68 r69 q70 o71 => ?_)
                      obtain ⟨e72, y74, rfl, f73⟩ := q70
                      subst H68
                      clear o71
                      refine fz_eqi (show y74 = 0 by omega) ?_
                      refine fz_istore (ls' := [(4, fz_i 0), (3, fz_i (h 81 (((h 83 (s.toNat)) - 10).toNat))), (0, fz_r 53), (1, fz_i s), (2, fz_i k)]) kX11_taken rfl (by decide) rfl ?_
                      refine fz_goto (tgt := 61) kX11_taken rfl (by decide) ?_
                      refine fz_iload kX11_taken rfl rfl ?_
                      refine fz_iload_n kX11_taken rfl rfl ?_
                      refine fz_icmp_eq (tgt := 82) kX11_taken rfl (by decide) (fun c75 => ?_) (fun c75 => ?_)
                      · refine fz_iload kX11_taken rfl rfl ?_
                        refine fz_iload_n kX11_taken rfl rfl ?_
                        refine fz_icmp_ne (tgt := 92) kX11_taken rfl (by decide) (fun c76 => ?_) (fun c76 => ?_)
                        · exfalso; omega
                        · refine fz_iload_n kX11_taken rfl rfl ?_
                          refine fz_goto (tgt := 94) kX11_taken rfl (by decide) ?_
                          exact fz_iret kX11_taken rfl rfl (fun _ => ⟨rfl, _, rfl, (by omega), (by first | exact fz_tkm_y k34 k36 c38 (fz_un_y2 (by omega)) | exact fz_tkm_n k34 k36 c38 (fz_un_n2 (by omega)) | exact Or.inl ⟨by omega, rfl⟩ | exact Or.inr (Or.inl ⟨by omega, by omega, rfl⟩) | exact Or.inr (Or.inr (Or.inl ⟨by omega, by omega, rfl⟩)) | (exfalso; omega))⟩)
                      · refine fz_iload kX11_taken rfl rfl ?_
                        refine fz_if_le (tgt := 82) kX11_taken rfl (by decide) (fun c78 => ?_) (fun c78 => ?_)
                        · refine fz_iload kX11_taken rfl rfl ?_
                          refine fz_iload_n kX11_taken rfl rfl ?_
                          refine fz_icmp_ne (tgt := 92) kX11_taken rfl (by decide) (fun c79 => ?_) (fun c79 => ?_)
                          · refine fz_bipush ⟨by decide, by decide⟩ kX11_taken rfl ?_
                            exact fz_iret kX11_taken rfl rfl (fun _ => ⟨rfl, _, rfl, (by omega), (by first | exact fz_tkm_y k34 k36 c38 (fz_un_y2 (by omega)) | exact fz_tkm_n k34 k36 c38 (fz_un_n2 (by omega)) | exact Or.inl ⟨by omega, rfl⟩ | exact Or.inr (Or.inl ⟨by omega, by omega, rfl⟩) | exact Or.inr (Or.inr (Or.inl ⟨by omega, by omega, rfl⟩)) | (exfalso; omega))⟩)
                          · refine fz_iload_n kX11_taken rfl rfl ?_
                            refine fz_goto (tgt := 94) kX11_taken rfl (by decide) ?_
                            exact fz_iret kX11_taken rfl rfl (fun _ => ⟨rfl, _, rfl, (by omega), (by first | exact fz_tkm_y k34 k36 c38 (fz_un_y2 (by omega)) | exact fz_tkm_n k34 k36 c38 (fz_un_n2 (by omega)) | exact Or.inl ⟨by omega, rfl⟩ | exact Or.inr (Or.inl ⟨by omega, by omega, rfl⟩) | exact Or.inr (Or.inr (Or.inl ⟨by omega, by omega, rfl⟩)) | (exfalso; omega))⟩)
                        · exfalso; omega
                · refine fz_eqi c38 ?_
                  refine fz_istore (ls' := [(4, fz_i 3), (3, fz_i (h 81 (((h 83 (s.toNat)) - 10).toNat))), (0, fz_r 53), (1, fz_i s), (2, fz_i k)]) kX11_taken rfl (by decide) rfl ?_
                  refine fz_iload kX11_taken rfl rfl ?_
                  refine fz_iload_n kX11_taken rfl rfl ?_
                  refine fz_icmp_eq (tgt := 82) kX11_taken rfl (by decide) (fun c82 => ?_) (fun c82 => ?_)
                  · refine fz_iload kX11_taken rfl rfl ?_
                    refine fz_iload_n kX11_taken rfl rfl ?_
                    refine fz_icmp_ne (tgt := 92) kX11_taken rfl (by decide) (fun c83 => ?_) (fun c83 => ?_)
                    · exfalso; omega
                    · refine fz_iload_n kX11_taken rfl rfl ?_
                      refine fz_goto (tgt := 94) kX11_taken rfl (by decide) ?_
                      exact fz_iret kX11_taken rfl rfl (fun _ => ⟨rfl, _, rfl, (by omega), (by first | exact fz_tkm_y k34 k36 c38 (fz_un_y3 (by omega)) | exact fz_tkm_n k34 k36 c38 (fz_un_n3 (by omega)) | exact Or.inl ⟨by omega, rfl⟩ | exact Or.inr (Or.inl ⟨by omega, by omega, rfl⟩) | exact Or.inr (Or.inr (Or.inl ⟨by omega, by omega, rfl⟩)) | (exfalso; omega))⟩)
                  · refine fz_iload kX11_taken rfl rfl ?_
                    refine fz_if_le (tgt := 82) kX11_taken rfl (by decide) (fun c85 => ?_) (fun c85 => ?_)
                    · exfalso; omega
                    · refine fz_iload kX11_taken rfl rfl ?_
                      refine fz_callS (d' := 0) (M' := mX11_above) (As := [fz_i 3]) (st := []) kX11_taken rfl rfl vX11_above rfl rfl (Nat.le_of_ble_eq_true rfl) (Nat.le_of_ble_eq_true rfl) (by decide) (sX11_above_3 h hI  ) (fun H86 r87 q88 o89 => ?_)
                      obtain ⟨e90, y92, rfl, f91⟩ := q88
                      subst H86
                      clear o89
                      refine fz_eqi (show y92 = 2 by omega) ?_
                      refine fz_istore (ls' := [(4, fz_i 2), (3, fz_i (h 81 (((h 83 (s.toNat)) - 10).toNat))), (0, fz_r 53), (1, fz_i s), (2, fz_i k)]) kX11_taken rfl (by decide) rfl ?_
                      refine fz_goto (tgt := 61) kX11_taken rfl (by decide) ?_
                      refine fz_iload kX11_taken rfl rfl ?_
                      refine fz_iload_n kX11_taken rfl rfl ?_
                      refine fz_icmp_eq (tgt := 82) kX11_taken rfl (by decide) (fun c93 => ?_) (fun c93 => ?_)
                      · refine fz_iload kX11_taken rfl rfl ?_
                        refine fz_iload_n kX11_taken rfl rfl ?_
                        refine fz_icmp_ne (tgt := 92) kX11_taken rfl (by decide) (fun c94 => ?_) (fun c94 => ?_)
                        · exfalso; omega
                        · refine fz_iload_n kX11_taken rfl rfl ?_
                          refine fz_goto (tgt := 94) kX11_taken rfl (by decide) ?_
                          exact fz_iret kX11_taken rfl rfl (fun _ => ⟨rfl, _, rfl, (by omega), (by first | exact fz_tkm_y k34 k36 c38 (fz_un_y3 (by omega)) | exact fz_tkm_n k34 k36 c38 (fz_un_n3 (by omega)) | exact Or.inl ⟨by omega, rfl⟩ | exact Or.inr (Or.inl ⟨by omega, by omega, rfl⟩) | exact Or.inr (Or.inr (Or.inl ⟨by omega, by omega, rfl⟩)) | (exfalso; omega))⟩)
                      · refine fz_iload kX11_taken rfl rfl ?_
                        refine fz_if_le (tgt := 82) kX11_taken rfl (by decide) (fun c96 => ?_) (fun c96 => ?_)
                        · exfalso; omega
                        · refine fz_iload kX11_taken rfl rfl ?_
                          refine fz_callS (d' := 0) (M' := mX11_above) (As := [fz_i 2]) (st := []) kX11_taken rfl rfl vX11_above rfl rfl (Nat.le_of_ble_eq_true rfl) (Nat.le_of_ble_eq_true rfl) (by decide) (sX11_above_2 h hI  ) (fun H97 r98 q99 o100 => ?_)
                          obtain ⟨e101, y103, rfl, f102⟩ := q99
                          subst H97
                          clear o100
                          refine fz_eqi (show y103 = 0 by omega) ?_
                          refine fz_istore (ls' := [(4, fz_i 0), (3, fz_i (h 81 (((h 83 (s.toNat)) - 10).toNat))), (0, fz_r 53), (1, fz_i s), (2, fz_i k)]) kX11_taken rfl (by decide) rfl ?_
                          refine fz_goto (tgt := 61) kX11_taken rfl (by decide) ?_
                          refine fz_iload kX11_taken rfl rfl ?_
                          refine fz_iload_n kX11_taken rfl rfl ?_
                          refine fz_icmp_eq (tgt := 82) kX11_taken rfl (by decide) (fun c104 => ?_) (fun c104 => ?_)
                          · refine fz_iload kX11_taken rfl rfl ?_
                            refine fz_iload_n kX11_taken rfl rfl ?_
                            refine fz_icmp_ne (tgt := 92) kX11_taken rfl (by decide) (fun c105 => ?_) (fun c105 => ?_)
                            · exfalso; omega
                            · refine fz_iload_n kX11_taken rfl rfl ?_
                              refine fz_goto (tgt := 94) kX11_taken rfl (by decide) ?_
                              exact fz_iret kX11_taken rfl rfl (fun _ => ⟨rfl, _, rfl, (by omega), (by first | exact fz_tkm_y k34 k36 c38 (fz_un_y3 (by omega)) | exact fz_tkm_n k34 k36 c38 (fz_un_n3 (by omega)) | exact Or.inl ⟨by omega, rfl⟩ | exact Or.inr (Or.inl ⟨by omega, by omega, rfl⟩) | exact Or.inr (Or.inr (Or.inl ⟨by omega, by omega, rfl⟩)) | (exfalso; omega))⟩)
                          · refine fz_iload kX11_taken rfl rfl ?_
                            refine fz_if_le (tgt := 82) kX11_taken rfl (by decide) (fun c107 => ?_) (fun c107 => ?_)
                            · refine fz_iload kX11_taken rfl rfl ?_
                              refine fz_iload_n kX11_taken rfl rfl ?_
                              refine fz_icmp_ne (tgt := 92) kX11_taken rfl (by decide) (fun c108 => ?_) (fun c108 => ?_)
                              · refine fz_bipush ⟨by decide, by decide⟩ kX11_taken rfl ?_
                                exact fz_iret kX11_taken rfl rfl (fun _ => ⟨rfl, _, rfl, (by omega), (by first | exact fz_tkm_y k34 k36 c38 (fz_un_y3 (by omega)) | exact fz_tkm_n k34 k36 c38 (fz_un_n3 (by omega)) | exact Or.inl ⟨by omega, rfl⟩ | exact Or.inr (Or.inl ⟨by omega, by omega, rfl⟩) | exact Or.inr (Or.inr (Or.inl ⟨by omega, by omega, rfl⟩)) | (exfalso; omega))⟩)
                              · refine fz_iload_n kX11_taken rfl rfl ?_
                                refine fz_goto (tgt := 94) kX11_taken rfl (by decide) ?_
                                exact fz_iret kX11_taken rfl rfl (fun _ => ⟨rfl, _, rfl, (by omega), (by first | exact fz_tkm_y k34 k36 c38 (fz_un_y3 (by omega)) | exact fz_tkm_n k34 k36 c38 (fz_un_n3 (by omega)) | exact Or.inl ⟨by omega, rfl⟩ | exact Or.inr (Or.inl ⟨by omega, by omega, rfl⟩) | exact Or.inr (Or.inr (Or.inl ⟨by omega, by omega, rfl⟩)) | (exfalso; omega))⟩)
                            · exfalso; omega
                · refine fz_eqi c38 ?_
                  refine fz_istore (ls' := [(4, fz_i 4), (3, fz_i (h 81 (((h 83 (s.toNat)) - 10).toNat))), (0, fz_r 53), (1, fz_i s), (2, fz_i k)]) kX11_taken rfl (by decide) rfl ?_
                  refine fz_iload kX11_taken rfl rfl ?_
                  refine fz_iload_n kX11_taken rfl rfl ?_
                  refine fz_icmp_eq (tgt := 82) kX11_taken rfl (by decide) (fun c111 => ?_) (fun c111 => ?_)
                  · refine fz_iload kX11_taken rfl rfl ?_
                    refine fz_iload_n kX11_taken rfl rfl ?_
                    refine fz_icmp_ne (tgt := 92) kX11_taken rfl (by decide) (fun c112 => ?_) (fun c112 => ?_)
                    · exfalso; omega
                    · refine fz_iload_n kX11_taken rfl rfl ?_
                      refine fz_goto (tgt := 94) kX11_taken rfl (by decide) ?_
                      exact fz_iret kX11_taken rfl rfl (fun _ => ⟨rfl, _, rfl, (by omega), (by first | exact fz_tkm_y k34 k36 c38 (fz_un_y4 (by omega)) | exact fz_tkm_n k34 k36 c38 (fz_un_n4 (by omega)) | exact Or.inl ⟨by omega, rfl⟩ | exact Or.inr (Or.inl ⟨by omega, by omega, rfl⟩) | exact Or.inr (Or.inr (Or.inl ⟨by omega, by omega, rfl⟩)) | (exfalso; omega))⟩)
                  · refine fz_iload kX11_taken rfl rfl ?_
                    refine fz_if_le (tgt := 82) kX11_taken rfl (by decide) (fun c114 => ?_) (fun c114 => ?_)
                    · exfalso; omega
                    · refine fz_iload kX11_taken rfl rfl ?_
                      refine fz_callS (d' := 0) (M' := mX11_above) (As := [fz_i 4]) (st := []) kX11_taken rfl rfl vX11_above rfl rfl (Nat.le_of_ble_eq_true rfl) (Nat.le_of_ble_eq_true rfl) (by decide) (sX11_above_4 h hI  ) (fun H115 r116 q117 o118 => ?_)
                      obtain ⟨e119, y121, rfl, f120⟩ := q117
                      subst H115
                      clear o118
                      refine fz_eqi (show y121 = 1 by omega) ?_
                      refine fz_istore (ls' := [(4, fz_i 1), (3, fz_i (h 81 (((h 83 (s.toNat)) - 10).toNat))), (0, fz_r 53), (1, fz_i s), (2, fz_i k)]) kX11_taken rfl (by decide) rfl ?_
                      refine fz_goto (tgt := 61) kX11_taken rfl (by decide) ?_
                      refine fz_iload kX11_taken rfl rfl ?_
                      refine fz_iload_n kX11_taken rfl rfl ?_
                      refine fz_icmp_eq (tgt := 82) kX11_taken rfl (by decide) (fun c122 => ?_) (fun c122 => ?_)
                      · refine fz_iload kX11_taken rfl rfl ?_
                        refine fz_iload_n kX11_taken rfl rfl ?_
                        refine fz_icmp_ne (tgt := 92) kX11_taken rfl (by decide) (fun c123 => ?_) (fun c123 => ?_)
                        · exfalso; omega
                        · refine fz_iload_n kX11_taken rfl rfl ?_
                          refine fz_goto (tgt := 94) kX11_taken rfl (by decide) ?_
                          exact fz_iret kX11_taken rfl rfl (fun _ => ⟨rfl, _, rfl, (by omega), (by first | exact fz_tkm_y k34 k36 c38 (fz_un_y4 (by omega)) | exact fz_tkm_n k34 k36 c38 (fz_un_n4 (by omega)) | exact Or.inl ⟨by omega, rfl⟩ | exact Or.inr (Or.inl ⟨by omega, by omega, rfl⟩) | exact Or.inr (Or.inr (Or.inl ⟨by omega, by omega, rfl⟩)) | (exfalso; omega))⟩)
                      · refine fz_iload kX11_taken rfl rfl ?_
                        refine fz_if_le (tgt := 82) kX11_taken rfl (by decide) (fun c125 => ?_) (fun c125 => ?_)
                        · exfalso; omega
                        · refine fz_iload kX11_taken rfl rfl ?_
                          refine fz_callS (d' := 0) (M' := mX11_above) (As := [fz_i 1]) (st := []) kX11_taken rfl rfl vX11_above rfl rfl (Nat.le_of_ble_eq_true rfl) (Nat.le_of_ble_eq_true rfl) (by decide) (sX11_above_1 h hI  ) (fun H126 r127 q128 o129 => ?_)
                          obtain ⟨e130, y132, rfl, f131⟩ := q128
                          subst H126
                          clear o129
                          refine fz_eqi (show y132 = 0 by omega) ?_
                          refine fz_istore (ls' := [(4, fz_i 0), (3, fz_i (h 81 (((h 83 (s.toNat)) - 10).toNat))), (0, fz_r 53), (1, fz_i s), (2, fz_i k)]) kX11_taken rfl (by decide) rfl ?_
                          refine fz_goto (tgt := 61) kX11_taken rfl (by decide) ?_
                          refine fz_iload kX11_taken rfl rfl ?_
                          refine fz_iload_n kX11_taken rfl rfl ?_
                          refine fz_icmp_eq (tgt := 82) kX11_taken rfl (by decide) (fun c133 => ?_) (fun c133 => ?_)
                          · refine fz_iload kX11_taken rfl rfl ?_
                            refine fz_iload_n kX11_taken rfl rfl ?_
                            refine fz_icmp_ne (tgt := 92) kX11_taken rfl (by decide) (fun c134 => ?_) (fun c134 => ?_)
                            · exfalso; omega
                            · refine fz_iload_n kX11_taken rfl rfl ?_
                              refine fz_goto (tgt := 94) kX11_taken rfl (by decide) ?_
                              exact fz_iret kX11_taken rfl rfl (fun _ => ⟨rfl, _, rfl, (by omega), (by first | exact fz_tkm_y k34 k36 c38 (fz_un_y4 (by omega)) | exact fz_tkm_n k34 k36 c38 (fz_un_n4 (by omega)) | exact Or.inl ⟨by omega, rfl⟩ | exact Or.inr (Or.inl ⟨by omega, by omega, rfl⟩) | exact Or.inr (Or.inr (Or.inl ⟨by omega, by omega, rfl⟩)) | (exfalso; omega))⟩)
                          · refine fz_iload kX11_taken rfl rfl ?_
                            refine fz_if_le (tgt := 82) kX11_taken rfl (by decide) (fun c136 => ?_) (fun c136 => ?_)
                            · refine fz_iload kX11_taken rfl rfl ?_
                              refine fz_iload_n kX11_taken rfl rfl ?_
                              refine fz_icmp_ne (tgt := 92) kX11_taken rfl (by decide) (fun c137 => ?_) (fun c137 => ?_)
                              · refine fz_bipush ⟨by decide, by decide⟩ kX11_taken rfl ?_
                                exact fz_iret kX11_taken rfl rfl (fun _ => ⟨rfl, _, rfl, (by omega), (by first | exact fz_tkm_y k34 k36 c38 (fz_un_y4 (by omega)) | exact fz_tkm_n k34 k36 c38 (fz_un_n4 (by omega)) | exact Or.inl ⟨by omega, rfl⟩ | exact Or.inr (Or.inl ⟨by omega, by omega, rfl⟩) | exact Or.inr (Or.inr (Or.inl ⟨by omega, by omega, rfl⟩)) | (exfalso; omega))⟩)
                              · refine fz_iload_n kX11_taken rfl rfl ?_
                                refine fz_goto (tgt := 94) kX11_taken rfl (by decide) ?_
                                exact fz_iret kX11_taken rfl rfl (fun _ => ⟨rfl, _, rfl, (by omega), (by first | exact fz_tkm_y k34 k36 c38 (fz_un_y4 (by omega)) | exact fz_tkm_n k34 k36 c38 (fz_un_n4 (by omega)) | exact Or.inl ⟨by omega, rfl⟩ | exact Or.inr (Or.inl ⟨by omega, by omega, rfl⟩) | exact Or.inr (Or.inr (Or.inl ⟨by omega, by omega, rfl⟩)) | (exfalso; omega))⟩)
                            · exfalso; omega
                · refine fz_eqi c38 ?_
                  refine fz_istore (ls' := [(4, fz_i 5), (3, fz_i (h 81 (((h 83 (s.toNat)) - 10).toNat))), (0, fz_r 53), (1, fz_i s), (2, fz_i k)]) kX11_taken rfl (by decide) rfl ?_
                  refine fz_iload kX11_taken rfl rfl ?_
                  refine fz_iload_n kX11_taken rfl rfl ?_
                  refine fz_icmp_eq (tgt := 82) kX11_taken rfl (by decide) (fun c140 => ?_) (fun c140 => ?_)
                  · refine fz_iload kX11_taken rfl rfl ?_
                    refine fz_iload_n kX11_taken rfl rfl ?_
                    refine fz_icmp_ne (tgt := 92) kX11_taken rfl (by decide) (fun c141 => ?_) (fun c141 => ?_)
                    · exfalso; omega
                    · refine fz_iload_n kX11_taken rfl rfl ?_
                      refine fz_goto (tgt := 94) kX11_taken rfl (by decide) ?_
                      exact fz_iret kX11_taken rfl rfl (fun _ => ⟨rfl, _, rfl, (by omega), (by first | exact fz_tkm_y k34 k36 c38 (fz_un_y5 (by omega)) | exact fz_tkm_n k34 k36 c38 (fz_un_n5 (by omega)) | exact Or.inl ⟨by omega, rfl⟩ | exact Or.inr (Or.inl ⟨by omega, by omega, rfl⟩) | exact Or.inr (Or.inr (Or.inl ⟨by omega, by omega, rfl⟩)) | (exfalso; omega))⟩)
                  · refine fz_iload kX11_taken rfl rfl ?_
                    refine fz_if_le (tgt := 82) kX11_taken rfl (by decide) (fun c143 => ?_) (fun c143 => ?_)
                    · exfalso; omega
                    · refine fz_iload kX11_taken rfl rfl ?_
                      refine fz_callS (d' := 0) (M' := mX11_above) (As := [fz_i 5]) (st := []) kX11_taken rfl rfl vX11_above rfl rfl (Nat.le_of_ble_eq_true rfl) (Nat.le_of_ble_eq_true rfl) (by decide) (sX11_above_5 h hI  ) (fun H144 r145 q146 o147 => ?_)
                      obtain ⟨e148, y150, rfl, f149⟩ := q146
                      subst H144
                      clear o147
                      refine fz_eqi (show y150 = 3 by omega) ?_
                      refine fz_istore (ls' := [(4, fz_i 3), (3, fz_i (h 81 (((h 83 (s.toNat)) - 10).toNat))), (0, fz_r 53), (1, fz_i s), (2, fz_i k)]) kX11_taken rfl (by decide) rfl ?_
                      refine fz_goto (tgt := 61) kX11_taken rfl (by decide) ?_
                      refine fz_iload kX11_taken rfl rfl ?_
                      refine fz_iload_n kX11_taken rfl rfl ?_
                      refine fz_icmp_eq (tgt := 82) kX11_taken rfl (by decide) (fun c151 => ?_) (fun c151 => ?_)
                      · refine fz_iload kX11_taken rfl rfl ?_
                        refine fz_iload_n kX11_taken rfl rfl ?_
                        refine fz_icmp_ne (tgt := 92) kX11_taken rfl (by decide) (fun c152 => ?_) (fun c152 => ?_)
                        · exfalso; omega
                        · refine fz_iload_n kX11_taken rfl rfl ?_
                          refine fz_goto (tgt := 94) kX11_taken rfl (by decide) ?_
                          exact fz_iret kX11_taken rfl rfl (fun _ => ⟨rfl, _, rfl, (by omega), (by first | exact fz_tkm_y k34 k36 c38 (fz_un_y5 (by omega)) | exact fz_tkm_n k34 k36 c38 (fz_un_n5 (by omega)) | exact Or.inl ⟨by omega, rfl⟩ | exact Or.inr (Or.inl ⟨by omega, by omega, rfl⟩) | exact Or.inr (Or.inr (Or.inl ⟨by omega, by omega, rfl⟩)) | (exfalso; omega))⟩)
                      · refine fz_iload kX11_taken rfl rfl ?_
                        refine fz_if_le (tgt := 82) kX11_taken rfl (by decide) (fun c154 => ?_) (fun c154 => ?_)
                        · exfalso; omega
                        · refine fz_iload kX11_taken rfl rfl ?_
                          refine fz_callS (d' := 0) (M' := mX11_above) (As := [fz_i 3]) (st := []) kX11_taken rfl rfl vX11_above rfl rfl (Nat.le_of_ble_eq_true rfl) (Nat.le_of_ble_eq_true rfl) (by decide) (sX11_above_3 h hI  ) (fun H155 r156 q157 o158 => ?_)
                          obtain ⟨e159, y161, rfl, f160⟩ := q157
                          subst H155
                          clear o158
                          refine fz_eqi (show y161 = 2 by omega) ?_
                          refine fz_istore (ls' := [(4, fz_i 2), (3, fz_i (h 81 (((h 83 (s.toNat)) - 10).toNat))), (0, fz_r 53), (1, fz_i s), (2, fz_i k)]) kX11_taken rfl (by decide) rfl ?_
                          refine fz_goto (tgt := 61) kX11_taken rfl (by decide) ?_
                          refine fz_iload kX11_taken rfl rfl ?_
                          refine fz_iload_n kX11_taken rfl rfl ?_
                          refine fz_icmp_eq (tgt := 82) kX11_taken rfl (by decide) (fun c162 => ?_) (fun c162 => ?_)
                          · refine fz_iload kX11_taken rfl rfl ?_
                            refine fz_iload_n kX11_taken rfl rfl ?_
                            refine fz_icmp_ne (tgt := 92) kX11_taken rfl (by decide) (fun c163 => ?_) (fun c163 => ?_)
                            · exfalso; omega
                            · refine fz_iload_n kX11_taken rfl rfl ?_
                              refine fz_goto (tgt := 94) kX11_taken rfl (by decide) ?_
                              exact fz_iret kX11_taken rfl rfl (fun _ => ⟨rfl, _, rfl, (by omega), (by first | exact fz_tkm_y k34 k36 c38 (fz_un_y5 (by omega)) | exact fz_tkm_n k34 k36 c38 (fz_un_n5 (by omega)) | exact Or.inl ⟨by omega, rfl⟩ | exact Or.inr (Or.inl ⟨by omega, by omega, rfl⟩) | exact Or.inr (Or.inr (Or.inl ⟨by omega, by omega, rfl⟩)) | (exfalso; omega))⟩)
                          · refine fz_iload kX11_taken rfl rfl ?_
                            refine fz_if_le (tgt := 82) kX11_taken rfl (by decide) (fun c165 => ?_) (fun c165 => ?_)
                            · exfalso; omega
                            · refine fz_iload kX11_taken rfl rfl ?_
                              refine fz_callS (d' := 0) (M' := mX11_above) (As := [fz_i 2]) (st := []) kX11_taken rfl rfl vX11_above rfl rfl (Nat.le_of_ble_eq_true rfl) (Nat.le_of_ble_eq_true rfl) (by decide) (sX11_above_2 h hI  ) (fun H166 r167 q168 o169 => ?_)
                              obtain ⟨e170, y172, rfl, f171⟩ := q168
                              subst H166
                              clear o169
                              refine fz_eqi (show y172 = 0 by omega) ?_
                              refine fz_istore (ls' := [(4, fz_i 0), (3, fz_i (h 81 (((h 83 (s.toNat)) - 10).toNat))), (0, fz_r 53), (1, fz_i s), (2, fz_i k)]) kX11_taken rfl (by decide) rfl ?_
                              refine fz_goto (tgt := 61) kX11_taken rfl (by decide) ?_
                              refine fz_iload kX11_taken rfl rfl ?_
                              refine fz_iload_n kX11_taken rfl rfl ?_
                              refine fz_icmp_eq (tgt := 82) kX11_taken rfl (by decide) (fun c173 => ?_) (fun c173 => ?_)
                              · refine fz_iload kX11_taken rfl rfl ?_
                                refine fz_iload_n kX11_taken rfl rfl ?_
                                refine fz_icmp_ne (tgt := 92) kX11_taken rfl (by decide) (fun c174 => ?_) (fun c174 => ?_)
                                · exfalso; omega
                                · refine fz_iload_n kX11_taken rfl rfl ?_
                                  refine fz_goto (tgt := 94) kX11_taken rfl (by decide) ?_
                                  exact fz_iret kX11_taken rfl rfl (fun _ => ⟨rfl, _, rfl, (by omega), (by first | exact fz_tkm_y k34 k36 c38 (fz_un_y5 (by omega)) | exact fz_tkm_n k34 k36 c38 (fz_un_n5 (by omega)) | exact Or.inl ⟨by omega, rfl⟩ | exact Or.inr (Or.inl ⟨by omega, by omega, rfl⟩) | exact Or.inr (Or.inr (Or.inl ⟨by omega, by omega, rfl⟩)) | (exfalso; omega))⟩)
                              · refine fz_iload kX11_taken rfl rfl ?_
                                refine fz_if_le (tgt := 82) kX11_taken rfl (by decide) (fun c176 => ?_) (fun c176 => ?_)
                                · refine fz_iload kX11_taken rfl rfl ?_
                                  refine fz_iload_n kX11_taken rfl rfl ?_
                                  refine fz_icmp_ne (tgt := 92) kX11_taken rfl (by decide) (fun c177 => ?_) (fun c177 => ?_)
                                  · refine fz_bipush ⟨by decide, by decide⟩ kX11_taken rfl ?_
                                    exact fz_iret kX11_taken rfl rfl (fun _ => ⟨rfl, _, rfl, (by omega), (by first | exact fz_tkm_y k34 k36 c38 (fz_un_y5 (by omega)) | exact fz_tkm_n k34 k36 c38 (fz_un_n5 (by omega)) | exact Or.inl ⟨by omega, rfl⟩ | exact Or.inr (Or.inl ⟨by omega, by omega, rfl⟩) | exact Or.inr (Or.inr (Or.inl ⟨by omega, by omega, rfl⟩)) | (exfalso; omega))⟩)
                                  · refine fz_iload_n kX11_taken rfl rfl ?_
                                    refine fz_goto (tgt := 94) kX11_taken rfl (by decide) ?_
                                    exact fz_iret kX11_taken rfl rfl (fun _ => ⟨rfl, _, rfl, (by omega), (by first | exact fz_tkm_y k34 k36 c38 (fz_un_y5 (by omega)) | exact fz_tkm_n k34 k36 c38 (fz_un_n5 (by omega)) | exact Or.inl ⟨by omega, rfl⟩ | exact Or.inr (Or.inl ⟨by omega, by omega, rfl⟩) | exact Or.inr (Or.inr (Or.inl ⟨by omega, by omega, rfl⟩)) | (exfalso; omega))⟩)
                                · exfalso; omega
                · refine fz_eqi c38 ?_
                  refine fz_istore (ls' := [(4, fz_i 6), (3, fz_i (h 81 (((h 83 (s.toNat)) - 10).toNat))), (0, fz_r 53), (1, fz_i s), (2, fz_i k)]) kX11_taken rfl (by decide) rfl ?_
                  refine fz_iload kX11_taken rfl rfl ?_
                  refine fz_iload_n kX11_taken rfl rfl ?_
                  refine fz_icmp_eq (tgt := 82) kX11_taken rfl (by decide) (fun c180 => ?_) (fun c180 => ?_)
                  · refine fz_iload kX11_taken rfl rfl ?_
                    refine fz_iload_n kX11_taken rfl rfl ?_
                    refine fz_icmp_ne (tgt := 92) kX11_taken rfl (by decide) (fun c181 => ?_) (fun c181 => ?_)
                    · exfalso; omega
                    · refine fz_iload_n kX11_taken rfl rfl ?_
                      refine fz_goto (tgt := 94) kX11_taken rfl (by decide) ?_
                      exact fz_iret kX11_taken rfl rfl (fun _ => ⟨rfl, _, rfl, (by omega), (by first | exact fz_tkm_y k34 k36 c38 (fz_un_y6 (by omega)) | exact fz_tkm_n k34 k36 c38 (fz_un_n6 (by omega)) | exact Or.inl ⟨by omega, rfl⟩ | exact Or.inr (Or.inl ⟨by omega, by omega, rfl⟩) | exact Or.inr (Or.inr (Or.inl ⟨by omega, by omega, rfl⟩)) | (exfalso; omega))⟩)
                  · refine fz_iload kX11_taken rfl rfl ?_
                    refine fz_if_le (tgt := 82) kX11_taken rfl (by decide) (fun c183 => ?_) (fun c183 => ?_)
                    · exfalso; omega
                    · refine fz_iload kX11_taken rfl rfl ?_
                      refine fz_callS (d' := 0) (M' := mX11_above) (As := [fz_i 6]) (st := []) kX11_taken rfl rfl vX11_above rfl rfl (Nat.le_of_ble_eq_true rfl) (Nat.le_of_ble_eq_true rfl) (by decide) (sX11_above_6 h hI  ) (fun H184 r185 q186 o187 => ?_)
                      obtain ⟨e188, y190, rfl, f189⟩ := q186
                      subst H184
                      clear o187
                      refine fz_eqi (show y190 = 0 by omega) ?_
                      refine fz_istore (ls' := [(4, fz_i 0), (3, fz_i (h 81 (((h 83 (s.toNat)) - 10).toNat))), (0, fz_r 53), (1, fz_i s), (2, fz_i k)]) kX11_taken rfl (by decide) rfl ?_
                      refine fz_goto (tgt := 61) kX11_taken rfl (by decide) ?_
                      refine fz_iload kX11_taken rfl rfl ?_
                      refine fz_iload_n kX11_taken rfl rfl ?_
                      refine fz_icmp_eq (tgt := 82) kX11_taken rfl (by decide) (fun c191 => ?_) (fun c191 => ?_)
                      · refine fz_iload kX11_taken rfl rfl ?_
                        refine fz_iload_n kX11_taken rfl rfl ?_
                        refine fz_icmp_ne (tgt := 92) kX11_taken rfl (by decide) (fun c192 => ?_) (fun c192 => ?_)
                        · exfalso; omega
                        · refine fz_iload_n kX11_taken rfl rfl ?_
                          refine fz_goto (tgt := 94) kX11_taken rfl (by decide) ?_
                          exact fz_iret kX11_taken rfl rfl (fun _ => ⟨rfl, _, rfl, (by omega), (by first | exact fz_tkm_y k34 k36 c38 (fz_un_y6 (by omega)) | exact fz_tkm_n k34 k36 c38 (fz_un_n6 (by omega)) | exact Or.inl ⟨by omega, rfl⟩ | exact Or.inr (Or.inl ⟨by omega, by omega, rfl⟩) | exact Or.inr (Or.inr (Or.inl ⟨by omega, by omega, rfl⟩)) | (exfalso; omega))⟩)
                      · refine fz_iload kX11_taken rfl rfl ?_
                        refine fz_if_le (tgt := 82) kX11_taken rfl (by decide) (fun c194 => ?_) (fun c194 => ?_)
                        · refine fz_iload kX11_taken rfl rfl ?_
                          refine fz_iload_n kX11_taken rfl rfl ?_
                          refine fz_icmp_ne (tgt := 92) kX11_taken rfl (by decide) (fun c195 => ?_) (fun c195 => ?_)
                          · refine fz_bipush ⟨by decide, by decide⟩ kX11_taken rfl ?_
                            exact fz_iret kX11_taken rfl rfl (fun _ => ⟨rfl, _, rfl, (by omega), (by first | exact fz_tkm_y k34 k36 c38 (fz_un_y6 (by omega)) | exact fz_tkm_n k34 k36 c38 (fz_un_n6 (by omega)) | exact Or.inl ⟨by omega, rfl⟩ | exact Or.inr (Or.inl ⟨by omega, by omega, rfl⟩) | exact Or.inr (Or.inr (Or.inl ⟨by omega, by omega, rfl⟩)) | (exfalso; omega))⟩)
                          · refine fz_iload_n kX11_taken rfl rfl ?_
                            refine fz_goto (tgt := 94) kX11_taken rfl (by decide) ?_
                            exact fz_iret kX11_taken rfl rfl (fun _ => ⟨rfl, _, rfl, (by omega), (by first | exact fz_tkm_y k34 k36 c38 (fz_un_y6 (by omega)) | exact fz_tkm_n k34 k36 c38 (fz_un_n6 (by omega)) | exact Or.inl ⟨by omega, rfl⟩ | exact Or.inr (Or.inl ⟨by omega, by omega, rfl⟩) | exact Or.inr (Or.inr (Or.inl ⟨by omega, by omega, rfl⟩)) | (exfalso; omega))⟩)
                        · exfalso; omega
                · refine fz_eqi c38 ?_
                  refine fz_istore (ls' := [(4, fz_i 7), (3, fz_i (h 81 (((h 83 (s.toNat)) - 10).toNat))), (0, fz_r 53), (1, fz_i s), (2, fz_i k)]) kX11_taken rfl (by decide) rfl ?_
                  refine fz_iload kX11_taken rfl rfl ?_
                  refine fz_iload_n kX11_taken rfl rfl ?_
                  refine fz_icmp_eq (tgt := 82) kX11_taken rfl (by decide) (fun c198 => ?_) (fun c198 => ?_)
                  · refine fz_iload kX11_taken rfl rfl ?_
                    refine fz_iload_n kX11_taken rfl rfl ?_
                    refine fz_icmp_ne (tgt := 92) kX11_taken rfl (by decide) (fun c199 => ?_) (fun c199 => ?_)
                    · exfalso; omega
                    · refine fz_iload_n kX11_taken rfl rfl ?_
                      refine fz_goto (tgt := 94) kX11_taken rfl (by decide) ?_
                      exact fz_iret kX11_taken rfl rfl (fun _ => ⟨rfl, _, rfl, (by omega), (by first | exact fz_tkm_y k34 k36 c38 (fz_un_y7 (by omega)) | exact fz_tkm_n k34 k36 c38 (fz_un_n7 (by omega)) | exact Or.inl ⟨by omega, rfl⟩ | exact Or.inr (Or.inl ⟨by omega, by omega, rfl⟩) | exact Or.inr (Or.inr (Or.inl ⟨by omega, by omega, rfl⟩)) | (exfalso; omega))⟩)
                  · refine fz_iload kX11_taken rfl rfl ?_
                    refine fz_if_le (tgt := 82) kX11_taken rfl (by decide) (fun c201 => ?_) (fun c201 => ?_)
                    · exfalso; omega
                    · refine fz_iload kX11_taken rfl rfl ?_
                      refine fz_callS (d' := 0) (M' := mX11_above) (As := [fz_i 7]) (st := []) kX11_taken rfl rfl vX11_above rfl rfl (Nat.le_of_ble_eq_true rfl) (Nat.le_of_ble_eq_true rfl) (by decide) (sX11_above_7 h hI  ) (fun H202 r203 q204 o205 => ?_)
                      obtain ⟨e206, y208, rfl, f207⟩ := q204
                      subst H202
                      clear o205
                      refine fz_eqi (show y208 = 4 by omega) ?_
                      refine fz_istore (ls' := [(4, fz_i 4), (3, fz_i (h 81 (((h 83 (s.toNat)) - 10).toNat))), (0, fz_r 53), (1, fz_i s), (2, fz_i k)]) kX11_taken rfl (by decide) rfl ?_
                      refine fz_goto (tgt := 61) kX11_taken rfl (by decide) ?_
                      refine fz_iload kX11_taken rfl rfl ?_
                      refine fz_iload_n kX11_taken rfl rfl ?_
                      refine fz_icmp_eq (tgt := 82) kX11_taken rfl (by decide) (fun c209 => ?_) (fun c209 => ?_)
                      · refine fz_iload kX11_taken rfl rfl ?_
                        refine fz_iload_n kX11_taken rfl rfl ?_
                        refine fz_icmp_ne (tgt := 92) kX11_taken rfl (by decide) (fun c210 => ?_) (fun c210 => ?_)
                        · exfalso; omega
                        · refine fz_iload_n kX11_taken rfl rfl ?_
                          refine fz_goto (tgt := 94) kX11_taken rfl (by decide) ?_
                          exact fz_iret kX11_taken rfl rfl (fun _ => ⟨rfl, _, rfl, (by omega), (by first | exact fz_tkm_y k34 k36 c38 (fz_un_y7 (by omega)) | exact fz_tkm_n k34 k36 c38 (fz_un_n7 (by omega)) | exact Or.inl ⟨by omega, rfl⟩ | exact Or.inr (Or.inl ⟨by omega, by omega, rfl⟩) | exact Or.inr (Or.inr (Or.inl ⟨by omega, by omega, rfl⟩)) | (exfalso; omega))⟩)
                      · refine fz_iload kX11_taken rfl rfl ?_
                        refine fz_if_le (tgt := 82) kX11_taken rfl (by decide) (fun c212 => ?_) (fun c212 => ?_)
                        · exfalso; omega
                        · refine fz_iload kX11_taken rfl rfl ?_
                          refine fz_callS (d' := 0) (M' := mX11_above) (As := [fz_i 4]) (st := []) kX11_taken rfl rfl vX11_above rfl rfl (Nat.le_of_ble_eq_true rfl) (Nat.le_of_ble_eq_true rfl) (by decide) (sX11_above_4 h hI  ) (fun H213 r214 q215 o216 => ?_)
                          obtain ⟨e217, y219, rfl, f218⟩ := q215
                          subst H213
                          clear o216
                          refine fz_eqi (show y219 = 1 by omega) ?_
                          refine fz_istore (ls' := [(4, fz_i 1), (3, fz_i (h 81 (((h 83 (s.toNat)) - 10).toNat))), (0, fz_r 53), (1, fz_i s), (2, fz_i k)]) kX11_taken rfl (by decide) rfl ?_
                          refine fz_goto (tgt := 61) kX11_taken rfl (by decide) ?_
                          refine fz_iload kX11_taken rfl rfl ?_
                          refine fz_iload_n kX11_taken rfl rfl ?_
                          refine fz_icmp_eq (tgt := 82) kX11_taken rfl (by decide) (fun c220 => ?_) (fun c220 => ?_)
                          · refine fz_iload kX11_taken rfl rfl ?_
                            refine fz_iload_n kX11_taken rfl rfl ?_
                            refine fz_icmp_ne (tgt := 92) kX11_taken rfl (by decide) (fun c221 => ?_) (fun c221 => ?_)
                            · exfalso; omega
                            · refine fz_iload_n kX11_taken rfl rfl ?_
                              refine fz_goto (tgt := 94) kX11_taken rfl (by decide) ?_
                              exact fz_iret kX11_taken rfl rfl (fun _ => ⟨rfl, _, rfl, (by omega), (by first | exact fz_tkm_y k34 k36 c38 (fz_un_y7 (by omega)) | exact fz_tkm_n k34 k36 c38 (fz_un_n7 (by omega)) | exact Or.inl ⟨by omega, rfl⟩ | exact Or.inr (Or.inl ⟨by omega, by omega, rfl⟩) | exact Or.inr (Or.inr (Or.inl ⟨by omega, by omega, rfl⟩)) | (exfalso; omega))⟩)
                          · refine fz_iload kX11_taken rfl rfl ?_
                            refine fz_if_le (tgt := 82) kX11_taken rfl (by decide) (fun c223 => ?_) (fun c223 => ?_)
                            · exfalso; omega
                            · refine fz_iload kX11_taken rfl rfl ?_
                              refine fz_callS (d' := 0) (M' := mX11_above) (As := [fz_i 1]) (st := []) kX11_taken rfl rfl vX11_above rfl rfl (Nat.le_of_ble_eq_true rfl) (Nat.le_of_ble_eq_true rfl) (by decide) (sX11_above_1 h hI  ) (fun H224 r225 q226 o227 => ?_)
                              obtain ⟨e228, y230, rfl, f229⟩ := q226
                              subst H224
                              clear o227
                              refine fz_eqi (show y230 = 0 by omega) ?_
                              refine fz_istore (ls' := [(4, fz_i 0), (3, fz_i (h 81 (((h 83 (s.toNat)) - 10).toNat))), (0, fz_r 53), (1, fz_i s), (2, fz_i k)]) kX11_taken rfl (by decide) rfl ?_
                              refine fz_goto (tgt := 61) kX11_taken rfl (by decide) ?_
                              refine fz_iload kX11_taken rfl rfl ?_
                              refine fz_iload_n kX11_taken rfl rfl ?_
                              refine fz_icmp_eq (tgt := 82) kX11_taken rfl (by decide) (fun c231 => ?_) (fun c231 => ?_)
                              · refine fz_iload kX11_taken rfl rfl ?_
                                refine fz_iload_n kX11_taken rfl rfl ?_
                                refine fz_icmp_ne (tgt := 92) kX11_taken rfl (by decide) (fun c232 => ?_) (fun c232 => ?_)
                                · exfalso; omega
                                · refine fz_iload_n kX11_taken rfl rfl ?_
                                  refine fz_goto (tgt := 94) kX11_taken rfl (by decide) ?_
                                  exact fz_iret kX11_taken rfl rfl (fun _ => ⟨rfl, _, rfl, (by omega), (by first | exact fz_tkm_y k34 k36 c38 (fz_un_y7 (by omega)) | exact fz_tkm_n k34 k36 c38 (fz_un_n7 (by omega)) | exact Or.inl ⟨by omega, rfl⟩ | exact Or.inr (Or.inl ⟨by omega, by omega, rfl⟩) | exact Or.inr (Or.inr (Or.inl ⟨by omega, by omega, rfl⟩)) | (exfalso; omega))⟩)
                              · refine fz_iload kX11_taken rfl rfl ?_
                                refine fz_if_le (tgt := 82) kX11_taken rfl (by decide) (fun c234 => ?_) (fun c234 => ?_)
                                · refine fz_iload kX11_taken rfl rfl ?_
                                  refine fz_iload_n kX11_taken rfl rfl ?_
                                  refine fz_icmp_ne (tgt := 92) kX11_taken rfl (by decide) (fun c235 => ?_) (fun c235 => ?_)
                                  · refine fz_bipush ⟨by decide, by decide⟩ kX11_taken rfl ?_
                                    exact fz_iret kX11_taken rfl rfl (fun _ => ⟨rfl, _, rfl, (by omega), (by first | exact fz_tkm_y k34 k36 c38 (fz_un_y7 (by omega)) | exact fz_tkm_n k34 k36 c38 (fz_un_n7 (by omega)) | exact Or.inl ⟨by omega, rfl⟩ | exact Or.inr (Or.inl ⟨by omega, by omega, rfl⟩) | exact Or.inr (Or.inr (Or.inl ⟨by omega, by omega, rfl⟩)) | (exfalso; omega))⟩)
                                  · refine fz_iload_n kX11_taken rfl rfl ?_
                                    refine fz_goto (tgt := 94) kX11_taken rfl (by decide) ?_
                                    exact fz_iret kX11_taken rfl rfl (fun _ => ⟨rfl, _, rfl, (by omega), (by first | exact fz_tkm_y k34 k36 c38 (fz_un_y7 (by omega)) | exact fz_tkm_n k34 k36 c38 (fz_un_n7 (by omega)) | exact Or.inl ⟨by omega, rfl⟩ | exact Or.inr (Or.inl ⟨by omega, by omega, rfl⟩) | exact Or.inr (Or.inr (Or.inl ⟨by omega, by omega, rfl⟩)) | (exfalso; omega))⟩)
                                · exfalso; omega
              · exfalso; omega
          · refine fz_bipush ⟨by decide, by decide⟩ kX11_taken rfl ?_
            exact fz_iret kX11_taken rfl rfl (fun _ => ⟨rfl, _, rfl, (by omega), (by first | exact fz_tkm_y lost lost lost (fz_un_ylost (by omega)) | exact fz_tkm_n lost lost lost (fz_un_nlost (by omega)) | exact Or.inl ⟨by omega, rfl⟩ | exact Or.inr (Or.inl ⟨by omega, by omega, rfl⟩) | exact Or.inr (Or.inr (Or.inl ⟨by omega, by omega, rfl⟩)) | (exfalso; omega))⟩)
        · exfalso; omega
      · refine fz_if_ne (tgt := 19) kX11_taken rfl (by decide) (fun c239 => ?_) (fun c239 => ?_)
        · exfalso; omega
        · refine fz_iconst ⟨by decide, by decide⟩ kX11_taken rfl ?_
          exact fz_iret kX11_taken rfl rfl (fun _ => ⟨rfl, _, rfl, (by omega), (by first | exact fz_tkm_y lost lost lost (fz_un_ylost (by omega)) | exact fz_tkm_n lost lost lost (fz_un_nlost (by omega)) | exact Or.inl ⟨by omega, rfl⟩ | exact Or.inr (Or.inl ⟨by omega, by omega, rfl⟩) | exact Or.inr (Or.inr (Or.inl ⟨by omega, by omega, rfl⟩)) | (exfalso; omega))⟩)
  · refine fz_if_eq (tgt := 17) kX11_taken rfl (by decide) (fun c241 => ?_) (fun c241 => ?_)
    · refine fz_iconst ⟨by decide, by decide⟩ kX11_taken rfl ?_
      exact fz_iret kX11_taken rfl rfl (fun _ => ⟨rfl, _, rfl, (by omega), (by first | exact fz_tkm_y lost lost lost (fz_un_ylost (by omega)) | exact fz_tkm_n lost lost lost (fz_un_nlost (by omega)) | exact Or.inl ⟨by omega, rfl⟩ | exact Or.inr (Or.inl ⟨by omega, by omega, rfl⟩) | exact Or.inr (Or.inr (Or.inl ⟨by omega, by omega, rfl⟩)) | (exfalso; omega))⟩)
    · exfalso; omega
